theorem dX7_joinsOf_6 : decode cX7_joinsOf 6 = .ok (.getfield 122, 3) := by decide +kernel
theorem dX7_joinsOf_9 : decode cX7_joinsOf 9 = .ok (.if_icmp .ge 32, 3) := by decide +kernel
theorem dX7_joinsOf_12 : decode cX7_joinsOf 12 = .ok (.aload_n 0, 1) := by decide +kernel
theorem dX7_joinsOf_13 : decode cX7_joinsOf 13 = .ok (.getfield 16, 3) := by decide +kernel
theorem dX7_joinsOf_16 : decode cX7_joinsOf 16 = .ok (.iload_n 3, 1) := by decide +kernel
theorem dX7_joinsOf_17 : decode cX7_joinsOf 17 = .ok (.iaload, 1) := by decide +kernel
theorem dX7_joinsOf_18 : decode cX7_joinsOf 18 = .ok (.iload_n 1, 1) := by decide +kernel
theorem dX7_joinsOf_19 : decode cX7_joinsOf 19 = .ok (.if_icmp .eq 13, 3) := by decide +kernel
theorem dX7_joinsOf_22 : decode cX7_joinsOf 22 = .ok (.aload_n 0, 1) := by decide +kernel
theorem dX7_joinsOf_23 : decode cX7_joinsOf 23 = .ok (.getfield 19, 3) := by decide +kernel
theorem dX7_joinsOf_26 : decode cX7_joinsOf 26 = .ok (.iload_n 3, 1) := by decide +kernel
theorem dX7_joinsOf_27 : decode cX7_joinsOf 27 = .ok (.iaload, 1) := by decide +kernel
theorem dX7_joinsOf_28 : decode cX7_joinsOf 28 = .ok (.iload_n 1, 1) := by decide +kernel
theorem dX7_joinsOf_29 : decode cX7_joinsOf 29 = .ok (.if_icmp .ne 6, 3) := by decide +kernel
theorem dX7_joinsOf_32 : decode cX7_joinsOf 32 = .ok (.iinc 2 1, 3) := by decide +kernel
theorem dX7_joinsOf_35 : decode cX7_joinsOf 35 = .ok (.iinc 3 1, 3) := by decide +kernel
theorem dX7_joinsOf_38 : decode cX7_joinsOf 38 = .ok (.goto (-34), 3) := by decide +kernel
theorem dX7_joinsOf_41 : decode cX7_joinsOf 41 = .ok (.iload_n 2, 1) := by decide +kernel
theorem dX7_joinsOf_42 : decode cX7_joinsOf 42 = .ok (.ireturn, 1) := by decide +kernel
theorem dX7_reachOf_0 : decode cX7_reachOf 0 = .ok (.aload_n 0, 1) := by decide +kernel
theorem dX7_reachOf_1 : decode cX7_reachOf 1 = .ok (.getfield 234, 3) := by decide +kernel
theorem dX7_reachOf_4 : decode cX7_reachOf 4 = .ok (.ifCond .ne 5, 3) := by decide +kernel
theorem dX7_reachOf_7 : decode cX7_reachOf 7 = .ok (.iconst 3, 1) := by decide +kernel
theorem dX7_reachOf_8 : decode cX7_reachOf 8 = .ok (.ireturn, 1) := by decide +kernel
theorem dX7_reachOf_9 : decode cX7_reachOf 9 = .ok (.aload_n 0, 1) := by decide +kernel
theorem dX7_reachOf_10 : decode cX7_reachOf 10 = .ok (.getfield 67, 3) := by decide +kernel
theorem dX7_reachOf_13 : decode cX7_reachOf 13 = .ok (.iconst 0, 1) := by decide +kernel
theorem dX7_reachOf_14 : decode cX7_reachOf 14 = .ok (.iload_n 1, 1) := by decide +kernel
theorem dX7_reachOf_15 : decode cX7_reachOf 15 = .ok (.iastore, 1) := by decide +kernel
theorem dX7_reachOf_16 : decode cX7_reachOf 16 = .ok (.aload_n 0, 1) := by decide +kernel
theorem dX7_reachOf_17 : decode cX7_reachOf 17 = .ok (.getfield 67, 3) := by decide +kernel
theorem dX7_reachOf_20 : decode cX7_reachOf 20 = .ok (.iconst 1, 1) := by decide +kernel
theorem dX7_reachOf_21 : decode cX7_reachOf 21 = .ok (.aload_n 0, 1) := by decide +kernel
theorem dX7_reachOf_22 : decode cX7_reachOf 22 = .ok (.getfield 7, 3) := by decide +kernel
theorem dX7_reachOf_25 : decode cX7_reachOf 25 = .ok (.iload_n 1, 1) := by decide +kernel
theorem dX7_reachOf_26 : decode cX7_reachOf 26 = .ok (.iaload, 1) := by decide +kernel
theorem dX7_reachOf_27 : decode cX7_reachOf 27 = .ok (.iastore, 1) := by decide +kernel
theorem dX7_reachOf_28 : decode cX7_reachOf 28 = .ok (.aload_n 0, 1) := by decide +kernel
theorem dX7_reachOf_29 : decode cX7_reachOf 29 = .ok (.getfield 67, 3) := by decide +kernel
theorem dX7_reachOf_32 : decode cX7_reachOf 32 = .ok (.iconst 2, 1) := by decide +kernel
theorem dX7_reachOf_33 : decode cX7_reachOf 33 = .ok (.aload_n 0, 1) := by decide +kernel
theorem dX7_reachOf_34 : decode cX7_reachOf 34 = .ok (.getfield 13, 3) := by decide +kernel
theorem dX7_reachOf_37 : decode cX7_reachOf 37 = .ok (.iload_n 1, 1) := by decide +kernel
theorem dX7_reachOf_38 : decode cX7_reachOf 38 = .ok (.iaload, 1) := by decide +kernel
theorem dX7_reachOf_39 : decode cX7_reachOf 39 = .ok (.iastore, 1) := by decide +kernel
theorem dX7_reachOf_40 : decode cX7_reachOf 40 = .ok (.aload_n 0, 1) := by decide +kernel
theorem dX7_reachOf_41 : decode cX7_reachOf 41 = .ok (.getfield 67, 3) := by decide +kernel
theorem dX7_reachOf_44 : decode cX7_reachOf 44 = .ok (.iconst 3, 1) := by decide +kernel
theorem dX7_reachOf_45 : decode cX7_reachOf 45 = .ok (.aload_n 0, 1) := by decide +kernel
theorem dX7_reachOf_46 : decode cX7_reachOf 46 = .ok (.iload_n 1, 1) := by decide +kernel
theorem dX7_reachOf_47 : decode cX7_reachOf 47 = .ok (.invokevirtual 161, 3) := by decide +kernel
theorem dX7_reachOf_50 : decode cX7_reachOf 50 = .ok (.iastore, 1) := by decide +kernel
theorem dX7_reachOf_51 : decode cX7_reachOf 51 = .ok (.aload_n 0, 1) := by decide +kernel
theorem dX7_reachOf_52 : decode cX7_reachOf 52 = .ok (.getfield 67, 3) := by decide +kernel
theorem dX7_reachOf_55 : decode cX7_reachOf 55 = .ok (.iconst 4, 1) := by decide +kernel
theorem dX7_reachOf_56 : decode cX7_reachOf 56 = .ok (.aload_n 0, 1) := by decide +kernel
theorem dX7_reachOf_57 : decode cX7_reachOf 57 = .ok (.getfield 141, 3) := by decide +kernel
theorem dX7_reachOf_60 : decode cX7_reachOf 60 = .ok (.iload_n 1, 1) := by decide +kernel
theorem dX7_reachOf_61 : decode cX7_reachOf 61 = .ok (.ishr, 1) := by decide +kernel
theorem dX7_reachOf_62 : decode cX7_reachOf 62 = .ok (.iconst 1, 1) := by decide +kernel
theorem dX7_reachOf_63 : decode cX7_reachOf 63 = .ok (.iand, 1) := by decide +kernel
theorem dX7_reachOf_64 : decode cX7_reachOf 64 = .ok (.iastore, 1) := by decide +kernel
theorem dX7_reachOf_65 : decode cX7_reachOf 65 = .ok (.aload_n 0, 1) := by decide +kernel
theorem dX7_reachOf_66 : decode cX7_reachOf 66 = .ok (.iconst 0, 1) := by decide +kernel
theorem dX7_reachOf_67 : decode cX7_reachOf 67 = .ok (.invokevirtual 238, 3) := by decide +kernel
theorem dX7_reachOf_70 : decode cX7_reachOf 70 = .ok (.iconst 0, 1) := by decide +kernel
theorem dX7_reachOf_71 : decode cX7_reachOf 71 = .ok (.bipush 20, 2) := by decide +kernel
theorem dX7_reachOf_73 : decode cX7_reachOf 73 = .ok (.invokestatic 241, 3) := by decide +kernel
theorem dX7_reachOf_76 : decode cX7_reachOf 76 = .ok (.ireturn, 1) := by decide +kernel
theorem dX7_findFar_0 : decode cX7_findFar 0 = .ok (.iconst 0, 1) := by decide +kernel
theorem dX7_findFar_1 : decode cX7_findFar 1 = .ok (.istore_n 2, 1) := by decide +kernel
theorem dX7_findFar_2 : decode cX7_findFar 2 = .ok (.iload_n 2, 1) := by decide +kernel
theorem dX7_findFar_3 : decode cX7_findFar 3 = .ok (.aload_n 0, 1) := by decide +kernel
theorem dX7_findFar_4 : decode cX7_findFar 4 = .ok (.getfield 111, 3) := by decide +kernel
theorem dX7_findFar_7 : decode cX7_findFar 7 = .ok (.if_icmp .ge 47, 3) := by decide +kernel
theorem dX7_findFar_10 : decode cX7_findFar 10 = .ok (.iconst 0, 1) := by decide +kernel
theorem dX7_findFar_11 : decode cX7_findFar 11 = .ok (.istore_n 3, 1) := by decide +kernel
theorem dX7_findFar_12 : decode cX7_findFar 12 = .ok (.iload_n 3, 1) := by decide +kernel
theorem dX7_findFar_13 : decode cX7_findFar 13 = .ok (.aload_n 0, 1) := by decide +kernel
theorem dX7_findFar_14 : decode cX7_findFar 14 = .ok (.getfield 111, 3) := by decide +kernel
theorem dX7_findFar_17 : decode cX7_findFar 17 = .ok (.if_icmp .ge 31, 3) := by decide +kernel
theorem dX7_findFar_20 : decode cX7_findFar 20 = .ok (.aload_n 0, 1) := by decide +kernel
theorem dX7_findFar_21 : decode cX7_findFar 21 = .ok (.getfield 73, 3) := by decide +kernel
theorem dX7_findFar_24 : decode cX7_findFar 24 = .ok (.bipush 14, 2) := by decide +kernel
theorem dX7_findFar_26 : decode cX7_findFar 26 = .ok (.iload_n 2, 1) := by decide +kernel
theorem dX7_findFar_27 : decode cX7_findFar 27 = .ok (.imul, 1) := by decide +kernel
theorem dX7_findFar_28 : decode cX7_findFar 28 = .ok (.iload_n 3, 1) := by decide +kernel
theorem dX7_findFar_29 : decode cX7_findFar 29 = .ok (.iadd, 1) := by decide +kernel
theorem dX7_findFar_30 : decode cX7_findFar 30 = .ok (.iload_n 2, 1) := by decide +kernel
theorem dX7_findFar_31 : decode cX7_findFar 31 = .ok (.iload_n 3, 1) := by decide +kernel
theorem dX7_findFar_32 : decode cX7_findFar 32 = .ok (.if_icmp .ne 7, 3) := by decide +kernel
theorem dX7_findFar_35 : decode cX7_findFar 35 = .ok (.iconst 0, 1) := by decide +kernel
theorem dX7_findFar_36 : decode cX7_findFar 36 = .ok (.goto 5, 3) := by decide +kernel
theorem dX7_findFar_39 : decode cX7_findFar 39 = .ok (.bipush 99, 2) := by decide +kernel
theorem dX7_findFar_41 : decode cX7_findFar 41 = .ok (.iastore, 1) := by decide +kernel
theorem dX7_findFar_42 : decode cX7_findFar 42 = .ok (.iinc 3 1, 3) := by decide +kernel
theorem dX7_findFar_45 : decode cX7_findFar 45 = .ok (.goto (-33), 3) := by decide +kernel
theorem dX7_findFar_48 : decode cX7_findFar 48 = .ok (.iinc 2 1, 3) := by decide +kernel
theorem dX7_findFar_51 : decode cX7_findFar 51 = .ok (.goto (-49), 3) := by decide +kernel
theorem dX7_findFar_54 : decode cX7_findFar 54 = .ok (.iconst 0, 1) := by decide +kernel
theorem dX7_findFar_55 : decode cX7_findFar 55 = .ok (.istore_n 2, 1) := by decide +kernel
theorem dX7_findFar_56 : decode cX7_findFar 56 = .ok (.iload_n 2, 1) := by decide +kernel
theorem dX7_findFar_57 : decode cX7_findFar 57 = .ok (.aload_n 0, 1) := by decide +kernel
theorem dX7_findFar_58 : decode cX7_findFar 58 = .ok (.getfield 122, 3) := by decide +kernel
theorem dX7_findFar_61 : decode cX7_findFar 61 = .ok (.if_icmp .ge 82, 3) := by decide +kernel
theorem dX7_findFar_64 : decode cX7_findFar 64 = .ok (.iload_n 1, 1) := by decide +kernel
theorem dX7_findFar_65 : decode cX7_findFar 65 = .ok (.aload_n 0, 1) := by decide +kernel
theorem dX7_findFar_66 : decode cX7_findFar 66 = .ok (.getfield 16, 3) := by decide +kernel
theorem dX7_findFar_69 : decode cX7_findFar 69 = .ok (.iload_n 2, 1) := by decide +kernel
theorem dX7_findFar_70 : decode cX7_findFar 70 = .ok (.iaload, 1) := by decide +kernel
theorem dX7_findFar_71 : decode cX7_findFar 71 = .ok (.ishr, 1) := by decide +kernel
theorem dX7_findFar_72 : decode cX7_findFar 72 = .ok (.iconst 1, 1) := by decide +kernel
theorem dX7_findFar_73 : decode cX7_findFar 73 = .ok (.iand, 1) := by decide +kernel
theorem dX7_findFar_74 : decode cX7_findFar 74 = .ok (.ifCond .eq 63, 3) := by decide +kernel
theorem dX7_findFar_77 : decode cX7_findFar 77 = .ok (.iload_n 1, 1) := by decide +kernel
theorem dX7_findFar_78 : decode cX7_findFar 78 = .ok (.aload_n 0, 1) := by decide +kernel
theorem dX7_findFar_79 : decode cX7_findFar 79 = .ok (.getfield 19, 3) := by decide +kernel
theorem dX7_findFar_82 : decode cX7_findFar 82 = .ok (.iload_n 2, 1) := by decide +kernel
theorem dX7_findFar_83 : decode cX7_findFar 83 = .ok (.iaload, 1) := by decide +kernel
theorem dX7_findFar_84 : decode cX7_findFar 84 = .ok (.ishr, 1) := by decide +kernel
theorem dX7_findFar_85 : decode cX7_findFar 85 = .ok (.iconst 1, 1) := by decide +kernel
theorem dX7_findFar_86 : decode cX7_findFar 86 = .ok (.iand, 1) := by decide +kernel
theorem dX7_findFar_87 : decode cX7_findFar 87 = .ok (.ifCond .ne 6, 3) := by decide +kernel
theorem dX7_findFar_90 : decode cX7_findFar 90 = .ok (.goto 47, 3) := by decide +kernel
theorem dX7_findFar_93 : decode cX7_findFar 93 = .ok (.aload_n 0, 1) := by decide +kernel
theorem dX7_findFar_94 : decode cX7_findFar 94 = .ok (.getfield 73, 3) := by decide +kernel
theorem dX7_findFar_97 : decode cX7_findFar 97 = .ok (.bipush 14, 2) := by decide +kernel
theorem dX7_findFar_99 : decode cX7_findFar 99 = .ok (.aload_n 0, 1) := by decide +kernel
theorem dX7_findFar_100 : decode cX7_findFar 100 = .ok (.getfield 16, 3) := by decide +kernel
theorem dX7_findFar_103 : decode cX7_findFar 103 = .ok (.iload_n 2, 1) := by decide +kernel
theorem dX7_findFar_104 : decode cX7_findFar 104 = .ok (.iaload, 1) := by decide +kernel
theorem dX7_findFar_105 : decode cX7_findFar 105 = .ok (.imul, 1) := by decide +kernel
theorem dX7_findFar_106 : decode cX7_findFar 106 = .ok (.aload_n 0, 1) := by decide +kernel
theorem dX7_findFar_107 : decode cX7_findFar 107 = .ok (.getfield 19, 3) := by decide +kernel
theorem dX7_findFar_110 : decode cX7_findFar 110 = .ok (.iload_n 2, 1) := by decide +kernel
theorem dX7_findFar_111 : decode cX7_findFar 111 = .ok (.iaload, 1) := by decide +kernel
theorem dX7_findFar_112 : decode cX7_findFar 112 = .ok (.iadd, 1) := by decide +kernel
theorem dX7_findFar_113 : decode cX7_findFar 113 = .ok (.iconst 1, 1) := by decide +kernel
theorem dX7_findFar_114 : decode cX7_findFar 114 = .ok (.iastore, 1) := by decide +kernel
theorem dX7_findFar_115 : decode cX7_findFar 115 = .ok (.aload_n 0, 1) := by decide +kernel
theorem dX7_findFar_116 : decode cX7_findFar 116 = .ok (.getfield 73, 3) := by decide +kernel
theorem dX7_findFar_119 : decode cX7_findFar 119 = .ok (.bipush 14, 2) := by decide +kernel
theorem dX7_findFar_121 : decode cX7_findFar 121 = .ok (.aload_n 0, 1) := by decide +kernel
theorem dX7_findFar_122 : decode cX7_findFar 122 = .ok (.getfield 19, 3) := by decide +kernel
theorem dX7_findFar_125 : decode cX7_findFar 125 = .ok (.iload_n 2, 1) := by decide +kernel
theorem dX7_findFar_126 : decode cX7_findFar 126 = .ok (.iaload, 1) := by decide +kernel
theorem dX7_findFar_127 : decode cX7_findFar 127 = .ok (.imul, 1) := by decide +kernel
theorem dX7_findFar_128 : decode cX7_findFar 128 = .ok (.aload_n 0, 1) := by decide +kernel
theorem dX7_findFar_129 : decode cX7_findFar 129 = .ok (.getfield 16, 3) := by decide +kernel
theorem dX7_findFar_132 : decode cX7_findFar 132 = .ok (.iload_n 2, 1) := by decide +kernel
theorem dX7_findFar_133 : decode cX7_findFar 133 = .ok (.iaload, 1) := by decide +kernel
theorem dX7_findFar_134 : decode cX7_findFar 134 = .ok (.iadd, 1) := by decide +kernel
theorem dX7_findFar_135 : decode cX7_findFar 135 = .ok (.iconst 1, 1) := by decide +kernel
theorem dX7_findFar_136 : decode cX7_findFar 136 = .ok (.iastore, 1) := by decide +kernel
theorem dX7_findFar_137 : decode cX7_findFar 137 = .ok (.iinc 2 1, 3) := by decide +kernel
theorem dX7_findFar_140 : decode cX7_findFar 140 = .ok (.goto (-84), 3) := by decide +kernel
theorem dX7_findFar_143 : decode cX7_findFar 143 = .ok (.iconst 0, 1) := by decide +kernel
theorem dX7_findFar_144 : decode cX7_findFar 144 = .ok (.istore_n 2, 1) := by decide +kernel
theorem dX7_findFar_145 : decode cX7_findFar 145 = .ok (.iload_n 2, 1) := by decide +kernel
theorem dX7_findFar_146 : decode cX7_findFar 146 = .ok (.aload_n 0, 1) := by decide +kernel
theorem dX7_findFar_147 : decode cX7_findFar 147 = .ok (.getfield 111, 3) := by decide +kernel
theorem dX7_findFar_150 : decode cX7_findFar 150 = .ok (.if_icmp .ge 118, 3) := by decide +kernel
theorem dX7_findFar_153 : decode cX7_findFar 153 = .ok (.iconst 0, 1) := by decide +kernel
theorem dX7_findFar_154 : decode cX7_findFar 154 = .ok (.istore_n 3, 1) := by decide +kernel
theorem dX7_findFar_155 : decode cX7_findFar 155 = .ok (.iload_n 3, 1) := by decide +kernel
theorem dX7_findFar_156 : decode cX7_findFar 156 = .ok (.aload_n 0, 1) := by decide +kernel
theorem dX7_findFar_157 : decode cX7_findFar 157 = .ok (.getfield 111, 3) := by decide +kernel
theorem dX7_findFar_160 : decode cX7_findFar 160 = .ok (.if_icmp .ge 102, 3) := by decide +kernel
theorem dX7_findFar_163 : decode cX7_findFar 163 = .ok (.iconst 0, 1) := by decide +kernel
theorem dX7_findFar_164 : decode cX7_findFar 164 = .ok (.istore 4, 2) := by decide +kernel
theorem dX7_findFar_166 : decode cX7_findFar 166 = .ok (.iload 4, 2) := by decide +kernel
theorem dX7_findFar_168 : decode cX7_findFar 168 = .ok (.aload_n 0, 1) := by decide +kernel
theorem dX7_findFar_169 : decode cX7_findFar 169 = .ok (.getfield 111, 3) := by decide +kernel
theorem dX7_findFar_172 : decode cX7_findFar 172 = .ok (.if_icmp .ge 84, 3) := by decide +kernel
theorem dX7_findFar_175 : decode cX7_findFar 175 = .ok (.aload_n 0, 1) := by decide +kernel
theorem dX7_findFar_176 : decode cX7_findFar 176 = .ok (.getfield 73, 3) := by decide +kernel
theorem dX7_findFar_179 : decode cX7_findFar 179 = .ok (.bipush 14, 2) := by decide +kernel
theorem dX7_findFar_181 : decode cX7_findFar 181 = .ok (.iload_n 3, 1) := by decide +kernel
theorem dX7_findFar_182 : decode cX7_findFar 182 = .ok (.imul, 1) := by decide +kernel
theorem dX7_findFar_183 : decode cX7_findFar 183 = .ok (.iload_n 2, 1) := by decide +kernel
theorem dX7_findFar_184 : decode cX7_findFar 184 = .ok (.iadd, 1) := by decide +kernel
theorem dX7_findFar_185 : decode cX7_findFar 185 = .ok (.iaload, 1) := by decide +kernel
theorem dX7_findFar_186 : decode cX7_findFar 186 = .ok (.aload_n 0, 1) := by decide +kernel
theorem dX7_findFar_187 : decode cX7_findFar 187 = .ok (.getfield 73, 3) := by decide +kernel
theorem dX7_findFar_190 : decode cX7_findFar 190 = .ok (.bipush 14, 2) := by decide +kernel
theorem dX7_findFar_192 : decode cX7_findFar 192 = .ok (.iload_n 2, 1) := by decide +kernel
theorem dX7_findFar_193 : decode cX7_findFar 193 = .ok (.imul, 1) := by decide +kernel
theorem dX7_findFar_194 : decode cX7_findFar 194 = .ok (.iload 4, 2) := by decide +kernel
theorem dX7_findFar_196 : decode cX7_findFar 196 = .ok (.iadd, 1) := by decide +kernel
theorem dX7_findFar_197 : decode cX7_findFar 197 = .ok (.iaload, 1) := by decide +kernel
theorem dX7_findFar_198 : decode cX7_findFar 198 = .ok (.iadd, 1) := by decide +kernel
theorem dX7_findFar_199 : decode cX7_findFar 199 = .ok (.aload_n 0, 1) := by decide +kernel
theorem dX7_findFar_200 : decode cX7_findFar 200 = .ok (.getfield 73, 3) := by decide +kernel
theorem dX7_findFar_203 : decode cX7_findFar 203 = .ok (.bipush 14, 2) := by decide +kernel
theorem dX7_findFar_205 : decode cX7_findFar 205 = .ok (.iload_n 3, 1) := by decide +kernel
theorem dX7_findFar_206 : decode cX7_findFar 206 = .ok (.imul, 1) := by decide +kernel
theorem dX7_findFar_207 : decode cX7_findFar 207 = .ok (.iload 4, 2) := by decide +kernel
theorem dX7_findFar_209 : decode cX7_findFar 209 = .ok (.iadd, 1) := by decide +kernel
theorem dX7_findFar_210 : decode cX7_findFar 210 = .ok (.iaload, 1) := by decide +kernel
theorem dX7_findFar_211 : decode cX7_findFar 211 = .ok (.if_icmp .ge 39, 3) := by decide +kernel
theorem dX7_findFar_214 : decode cX7_findFar 214 = .ok (.aload_n 0, 1) := by decide +kernel
theorem dX7_findFar_215 : decode cX7_findFar 215 = .ok (.getfield 73, 3) := by decide +kernel
theorem dX7_findFar_218 : decode cX7_findFar 218 = .ok (.bipush 14, 2) := by decide +kernel
theorem dX7_findFar_220 : decode cX7_findFar 220 = .ok (.iload_n 3, 1) := by decide +kernel
theorem dX7_findFar_221 : decode cX7_findFar 221 = .ok (.imul, 1) := by decide +kernel
theorem dX7_findFar_222 : decode cX7_findFar 222 = .ok (.iload 4, 2) := by decide +kernel
theorem dX7_findFar_224 : decode cX7_findFar 224 = .ok (.iadd, 1) := by decide +kernel
theorem dX7_findFar_225 : decode cX7_findFar 225 = .ok (.aload_n 0, 1) := by decide +kernel
theorem dX7_findFar_226 : decode cX7_findFar 226 = .ok (.getfield 73, 3) := by decide +kernel
theorem dX7_findFar_229 : decode cX7_findFar 229 = .ok (.bipush 14, 2) := by decide +kernel
theorem dX7_findFar_231 : decode cX7_findFar 231 = .ok (.iload_n 3, 1) := by decide +kernel
theorem dX7_findFar_232 : decode cX7_findFar 232 = .ok (.imul, 1) := by decide +kernel
theorem dX7_findFar_233 : decode cX7_findFar 233 = .ok (.iload_n 2, 1) := by decide +kernel
theorem dX7_findFar_234 : decode cX7_findFar 234 = .ok (.iadd, 1) := by decide +kernel
theorem dX7_findFar_235 : decode cX7_findFar 235 = .ok (.iaload, 1) := by decide +kernel
theorem dX7_findFar_236 : decode cX7_findFar 236 = .ok (.aload_n 0, 1) := by decide +kernel
theorem dX7_findFar_237 : decode cX7_findFar 237 = .ok (.getfield 73, 3) := by decide +kernel
theorem dX7_findFar_240 : decode cX7_findFar 240 = .ok (.bipush 14, 2) := by decide +kernel
theorem dX7_findFar_242 : decode cX7_findFar 242 = .ok (.iload_n 2, 1) := by decide +kernel
theorem dX7_findFar_243 : decode cX7_findFar 243 = .ok (.imul, 1) := by decide +kernel
theorem dX7_findFar_244 : decode cX7_findFar 244 = .ok (.iload 4, 2) := by decide +kernel
theorem dX7_findFar_246 : decode cX7_findFar 246 = .ok (.iadd, 1) := by decide +kernel
theorem dX7_findFar_247 : decode cX7_findFar 247 = .ok (.iaload, 1) := by decide +kernel
theorem dX7_findFar_248 : decode cX7_findFar 248 = .ok (.iadd, 1) := by decide +kernel
theorem dX7_findFar_249 : decode cX7_findFar 249 = .ok (.iastore, 1) := by decide +kernel
theorem dX7_findFar_250 : decode cX7_findFar 250 = .ok (.iinc 4 1, 3) := by decide +kernel
theorem dX7_findFar_253 : decode cX7_findFar 253 = .ok (.goto (-87), 3) := by decide +kernel
theorem dX7_findFar_256 : decode cX7_findFar 256 = .ok (.iinc 3 1, 3) := by decide +kernel
theorem dX7_findFar_259 : decode cX7_findFar 259 = .ok (.goto (-104), 3) := by decide +kernel
theorem dX7_findFar_262 : decode cX7_findFar 262 = .ok (.iinc 2 1, 3) := by decide +kernel
theorem dX7_findFar_265 : decode cX7_findFar 265 = .ok (.goto (-120), 3) := by decide +kernel
theorem dX7_findFar_268 : decode cX7_findFar 268 = .ok (.return_, 1) := by decide +kernel
theorem dX7_allDoors_0 : decode cX7_allDoors 0 = .ok (.iconst 1, 1) := by decide +kernel
theorem dX7_allDoors_1 : decode cX7_allDoors 1 = .ok (.aload_n 0, 1) := by decide +kernel
theorem dX7_allDoors_2 : decode cX7_allDoors 2 = .ok (.getfield 111, 3) := by decide +kernel
theorem dX7_allDoors_5 : decode cX7_allDoors 5 = .ok (.ishl, 1) := by decide +kernel
theorem dX7_allDoors_6 : decode cX7_allDoors 6 = .ok (.iconst 1, 1) := by decide +kernel
theorem dX7_allDoors_7 : decode cX7_allDoors 7 = .ok (.isub, 1) := by decide +kernel
theorem dX7_allDoors_8 : decode cX7_allDoors 8 = .ok (.ireturn, 1) := by decide +kernel
theorem dX7_findAll_0 : decode cX7_findAll 0 = .ok (.aload_n 0, 1) := by decide +kernel
theorem dX7_findAll_1 : decode cX7_findAll 1 = .ok (.iload_n 1, 1) := by decide +kernel
theorem dX7_findAll_2 : decode cX7_findAll 2 = .ok (.invokevirtual 244, 3) := by decide +kernel
theorem dX7_findAll_5 : decode cX7_findAll 5 = .ok (.iconst 0, 1) := by decide +kernel
theorem dX7_findAll_6 : decode cX7_findAll 6 = .ok (.istore_n 2, 1) := by decide +kernel
theorem dX7_findAll_7 : decode cX7_findAll 7 = .ok (.iload_n 2, 1) := by decide +kernel
theorem dX7_findAll_8 : decode cX7_findAll 8 = .ok (.aload_n 0, 1) := by decide +kernel
theorem dX7_findAll_9 : decode cX7_findAll 9 = .ok (.getfield 111, 3) := by decide +kernel
theorem dX7_findAll_12 : decode cX7_findAll 12 = .ok (.if_icmp .ge 114, 3) := by decide +kernel
theorem dX7_findAll_15 : decode cX7_findAll 15 = .ok (.aload_n 0, 1) := by decide +kernel
theorem dX7_findAll_16 : decode cX7_findAll 16 = .ok (.iload_n 2, 1) := by decide +kernel
theorem dX7_findAll_17 : decode cX7_findAll 17 = .ok (.invokevirtual 165, 3) := by decide +kernel
theorem dX7_findAll_20 : decode cX7_findAll 20 = .ok (.istore_n 3, 1) := by decide +kernel
theorem dX7_findAll_21 : decode cX7_findAll 21 = .ok (.aload_n 0, 1) := by decide +kernel
theorem dX7_findAll_22 : decode cX7_findAll 22 = .ok (.getfield 76, 3) := by decide +kernel
theorem dX7_findAll_25 : decode cX7_findAll 25 = .ok (.iload_n 2, 1) := by decide +kernel
theorem dX7_findAll_26 : decode cX7_findAll 26 = .ok (.iconst 0, 1) := by decide +kernel
theorem dX7_findAll_27 : decode cX7_findAll 27 = .ok (.iastore, 1) := by decide +kernel
theorem dX7_findAll_28 : decode cX7_findAll 28 = .ok (.aload_n 0, 1) := by decide +kernel
theorem dX7_findAll_29 : decode cX7_findAll 29 = .ok (.getfield 79, 3) := by decide +kernel
theorem dX7_findAll_32 : decode cX7_findAll 32 = .ok (.iload_n 2, 1) := by decide +kernel
theorem dX7_findAll_33 : decode cX7_findAll 33 = .ok (.iconst 0, 1) := by decide +kernel
theorem dX7_findAll_34 : decode cX7_findAll 34 = .ok (.iastore, 1) := by decide +kernel
theorem dX7_findAll_35 : decode cX7_findAll 35 = .ok (.iconst 0, 1) := by decide +kernel
theorem dX7_findAll_36 : decode cX7_findAll 36 = .ok (.istore 4, 2) := by decide +kernel
theorem dX7_findAll_38 : decode cX7_findAll 38 = .ok (.iload 4, 2) := by decide +kernel
theorem dX7_findAll_40 : decode cX7_findAll 40 = .ok (.aload_n 0, 1) := by decide +kernel
theorem dX7_findAll_41 : decode cX7_findAll 41 = .ok (.getfield 111, 3) := by decide +kernel
theorem dX7_findAll_44 : decode cX7_findAll 44 = .ok (.if_icmp .ge 76, 3) := by decide +kernel
theorem dX7_findAll_47 : decode cX7_findAll 47 = .ok (.aload_n 0, 1) := by decide +kernel
theorem dX7_findAll_48 : decode cX7_findAll 48 = .ok (.getfield 73, 3) := by decide +kernel
theorem dX7_findAll_51 : decode cX7_findAll 51 = .ok (.bipush 14, 2) := by decide +kernel
theorem dX7_findAll_53 : decode cX7_findAll 53 = .ok (.iload_n 2, 1) := by decide +kernel
theorem dX7_findAll_54 : decode cX7_findAll 54 = .ok (.imul, 1) := by decide +kernel
theorem dX7_findAll_55 : decode cX7_findAll 55 = .ok (.iload 4, 2) := by decide +kernel
theorem dX7_findAll_57 : decode cX7_findAll 57 = .ok (.iadd, 1) := by decide +kernel
theorem dX7_findAll_58 : decode cX7_findAll 58 = .ok (.iaload, 1) := by decide +kernel
theorem dX7_findAll_59 : decode cX7_findAll 59 = .ok (.iload_n 3, 1) := by decide +kernel
theorem dX7_findAll_60 : decode cX7_findAll 60 = .ok (.if_icmp .gt 16, 3) := by decide +kernel
theorem dX7_findAll_63 : decode cX7_findAll 63 = .ok (.aload_n 0, 1) := by decide +kernel
theorem dX7_findAll_64 : decode cX7_findAll 64 = .ok (.getfield 76, 3) := by decide +kernel
theorem dX7_findAll_67 : decode cX7_findAll 67 = .ok (.iload_n 2, 1) := by decide +kernel
theorem dX7_findAll_68 : decode cX7_findAll 68 = .ok (.dup2, 1) := by decide +kernel
theorem dX7_findAll_69 : decode cX7_findAll 69 = .ok (.iaload, 1) := by decide +kernel
theorem dX7_findAll_70 : decode cX7_findAll 70 = .ok (.iconst 1, 1) := by decide +kernel
theorem dX7_findAll_71 : decode cX7_findAll 71 = .ok (.iload 4, 2) := by decide +kernel
theorem dX7_findAll_73 : decode cX7_findAll 73 = .ok (.ishl, 1) := by decide +kernel
theorem dX7_findAll_74 : decode cX7_findAll 74 = .ok (.ior, 1) := by decide +kernel
theorem dX7_findAll_75 : decode cX7_findAll 75 = .ok (.iastore, 1) := by decide +kernel
theorem dX7_findAll_76 : decode cX7_findAll 76 = .ok (.iload_n 2, 1) := by decide +kernel
theorem dX7_findAll_77 : decode cX7_findAll 77 = .ok (.iload 4, 2) := by decide +kernel
theorem dX7_findAll_79 : decode cX7_findAll 79 = .ok (.if_icmp .eq 35, 3) := by decide +kernel
theorem dX7_findAll_82 : decode cX7_findAll 82 = .ok (.aload_n 0, 1) := by decide +kernel
theorem dX7_findAll_83 : decode cX7_findAll 83 = .ok (.getfield 73, 3) := by decide +kernel
theorem dX7_findAll_86 : decode cX7_findAll 86 = .ok (.bipush 14, 2) := by decide +kernel
theorem dX7_findAll_88 : decode cX7_findAll 88 = .ok (.iload_n 2, 1) := by decide +kernel
theorem dX7_findAll_89 : decode cX7_findAll 89 = .ok (.imul, 1) := by decide +kernel
theorem dX7_findAll_90 : decode cX7_findAll 90 = .ok (.iload 4, 2) := by decide +kernel
theorem dX7_findAll_92 : decode cX7_findAll 92 = .ok (.iadd, 1) := by decide +kernel
theorem dX7_findAll_93 : decode cX7_findAll 93 = .ok (.iaload, 1) := by decide +kernel
theorem dX7_findAll_94 : decode cX7_findAll 94 = .ok (.aload_n 0, 1) := by decide +kernel
theorem dX7_findAll_95 : decode cX7_findAll 95 = .ok (.getfield 31, 3) := by decide +kernel
theorem dX7_findAll_98 : decode cX7_findAll 98 = .ok (.if_icmp .ge 16, 3) := by decide +kernel
theorem dX7_findAll_101 : decode cX7_findAll 101 = .ok (.aload_n 0, 1) := by decide +kernel
theorem dX7_findAll_102 : decode cX7_findAll 102 = .ok (.getfield 79, 3) := by decide +kernel
theorem dX7_findAll_105 : decode cX7_findAll 105 = .ok (.iload_n 2, 1) := by decide +kernel
theorem dX7_findAll_106 : decode cX7_findAll 106 = .ok (.dup2, 1) := by decide +kernel
theorem dX7_findAll_107 : decode cX7_findAll 107 = .ok (.iaload, 1) := by decide +kernel
theorem dX7_findAll_108 : decode cX7_findAll 108 = .ok (.iconst 1, 1) := by decide +kernel
theorem dX7_findAll_109 : decode cX7_findAll 109 = .ok (.iload 4, 2) := by decide +kernel
theorem dX7_findAll_111 : decode cX7_findAll 111 = .ok (.ishl, 1) := by decide +kernel
theorem dX7_findAll_112 : decode cX7_findAll 112 = .ok (.ior, 1) := by decide +kernel
theorem dX7_findAll_113 : decode cX7_findAll 113 = .ok (.iastore, 1) := by decide +kernel
theorem dX7_findAll_114 : decode cX7_findAll 114 = .ok (.iinc 4 1, 3) := by decide +kernel
theorem dX7_findAll_117 : decode cX7_findAll 117 = .ok (.goto (-79), 3) := by decide +kernel
theorem dX7_findAll_120 : decode cX7_findAll 120 = .ok (.iinc 2 1, 3) := by decide +kernel
theorem dX7_findAll_123 : decode cX7_findAll 123 = .ok (.goto (-116), 3) := by decide +kernel
theorem dX7_findAll_126 : decode cX7_findAll 126 = .ok (.return_, 1) := by decide +kernel
theorem dX7_far_0 : decode cX7_far 0 = .ok (.iload_n 1, 1) := by decide +kernel
theorem dX7_far_1 : decode cX7_far 1 = .ok (.ifCond .lt 25, 3) := by decide +kernel
theorem dX7_far_4 : decode cX7_far 4 = .ok (.aload_n 0, 1) := by decide +kernel
theorem dX7_far_5 : decode cX7_far 5 = .ok (.iload_n 1, 1) := by decide +kernel
theorem dX7_far_6 : decode cX7_far 6 = .ok (.bipush 100, 2) := by decide +kernel
theorem dX7_far_8 : decode cX7_far 8 = .ok (.idiv, 1) := by decide +kernel
theorem dX7_far_9 : decode cX7_far 9 = .ok (.invokevirtual 118, 3) := by decide +kernel
theorem dX7_far_12 : decode cX7_far 12 = .ok (.ifCond .eq 14, 3) := by decide +kernel
theorem dX7_far_15 : decode cX7_far 15 = .ok (.aload_n 0, 1) := by decide +kernel
theorem dX7_far_16 : decode cX7_far 16 = .ok (.iload_n 1, 1) := by decide +kernel
theorem dX7_far_17 : decode cX7_far 17 = .ok (.bipush 100, 2) := by decide +kernel
theorem dX7_far_19 : decode cX7_far 19 = .ok (.irem, 1) := by decide +kernel
theorem dX7_far_20 : decode cX7_far 20 = .ok (.invokevirtual 118, 3) := by decide +kernel
theorem dX7_far_23 : decode cX7_far 23 = .ok (.ifCond .ne 5, 3) := by decide +kernel
theorem dX7_far_26 : decode cX7_far 26 = .ok (.iconst (-1), 1) := by decide +kernel
theorem dX7_far_27 : decode cX7_far 27 = .ok (.ireturn, 1) := by decide +kernel
theorem dX7_far_28 : decode cX7_far 28 = .ok (.aload_n 0, 1) := by decide +kernel
theorem dX7_far_29 : decode cX7_far 29 = .ok (.aload_n 0, 1) := by decide +kernel
theorem dX7_far_30 : decode cX7_far 30 = .ok (.invokevirtual 248, 3) := by decide +kernel
theorem dX7_far_33 : decode cX7_far 33 = .ok (.invokevirtual 244, 3) := by decide +kernel
theorem dX7_far_36 : decode cX7_far 36 = .ok (.aload_n 0, 1) := by decide +kernel
theorem dX7_far_37 : decode cX7_far 37 = .ok (.getfield 73, 3) := by decide +kernel
theorem dX7_far_40 : decode cX7_far 40 = .ok (.bipush 14, 2) := by decide +kernel
theorem dX7_far_42 : decode cX7_far 42 = .ok (.iload_n 1, 1) := by decide +kernel
theorem dX7_far_43 : decode cX7_far 43 = .ok (.bipush 100, 2) := by decide +kernel
theorem dX7_far_45 : decode cX7_far 45 = .ok (.idiv, 1) := by decide +kernel
theorem dX7_far_46 : decode cX7_far 46 = .ok (.imul, 1) := by decide +kernel
theorem dX7_far_47 : decode cX7_far 47 = .ok (.iload_n 1, 1) := by decide +kernel
theorem dX7_far_48 : decode cX7_far 48 = .ok (.bipush 100, 2) := by decide +kernel
theorem dX7_far_50 : decode cX7_far 50 = .ok (.irem, 1) := by decide +kernel
theorem dX7_far_51 : decode cX7_far 51 = .ok (.iadd, 1) := by decide +kernel
theorem dX7_far_52 : decode cX7_far 52 = .ok (.iaload, 1) := by decide +kernel
theorem dX7_far_53 : decode cX7_far 53 = .ok (.ireturn, 1) := by decide +kernel
theorem dX7_isLawful_0 : decode cX7_isLawful 0 = .ok (.iconst 0, 1) := by decide +kernel
theorem dX7_isLawful_1 : decode cX7_isLawful 1 = .ok (.istore_n 3, 1) := by decide +kernel
theorem dX7_isLawful_2 : decode cX7_isLawful 2 = .ok (.iload_n 3, 1) := by decide +kernel
theorem dX7_isLawful_3 : decode cX7_isLawful 3 = .ok (.aload_n 0, 1) := by decide +kernel
theorem dX7_isLawful_4 : decode cX7_isLawful 4 = .ok (.getfield 111, 3) := by decide +kernel
theorem dX7_isLawful_7 : decode cX7_isLawful 7 = .ok (.if_icmp .ge 53, 3) := by decide +kernel
theorem dX7_isLawful_10 : decode cX7_isLawful 10 = .ok (.iload_n 2, 1) := by decide +kernel
theorem dX7_isLawful_11 : decode cX7_isLawful 11 = .ok (.iload_n 3, 1) := by decide +kernel
theorem dX7_isLawful_12 : decode cX7_isLawful 12 = .ok (.ishr, 1) := by decide +kernel
theorem dX7_isLawful_13 : decode cX7_isLawful 13 = .ok (.iconst 1, 1) := by decide +kernel
theorem dX7_isLawful_14 : decode cX7_isLawful 14 = .ok (.iand, 1) := by decide +kernel
theorem dX7_isLawful_15 : decode cX7_isLawful 15 = .ok (.iconst 1, 1) := by decide +kernel
theorem dX7_isLawful_16 : decode cX7_isLawful 16 = .ok (.if_icmp .ne 16, 3) := by decide +kernel
theorem dX7_isLawful_19 : decode cX7_isLawful 19 = .ok (.iload_n 1, 1) := by decide +kernel
theorem dX7_isLawful_20 : decode cX7_isLawful 20 = .ok (.aload_n 0, 1) := by decide +kernel
theorem dX7_isLawful_21 : decode cX7_isLawful 21 = .ok (.getfield 76, 3) := by decide +kernel
theorem dX7_isLawful_24 : decode cX7_isLawful 24 = .ok (.iload_n 3, 1) := by decide +kernel
theorem dX7_isLawful_25 : decode cX7_isLawful 25 = .ok (.iaload, 1) := by decide +kernel
theorem dX7_isLawful_26 : decode cX7_isLawful 26 = .ok (.iand, 1) := by decide +kernel
theorem dX7_isLawful_27 : decode cX7_isLawful 27 = .ok (.ifCond .ne 5, 3) := by decide +kernel
theorem dX7_isLawful_30 : decode cX7_isLawful 30 = .ok (.iconst 0, 1) := by decide +kernel
theorem dX7_isLawful_31 : decode cX7_isLawful 31 = .ok (.ireturn, 1) := by decide +kernel
theorem dX7_isLawful_32 : decode cX7_isLawful 32 = .ok (.iload_n 1, 1) := by decide +kernel
theorem dX7_isLawful_33 : decode cX7_isLawful 33 = .ok (.iload_n 3, 1) := by decide +kernel
theorem dX7_isLawful_34 : decode cX7_isLawful 34 = .ok (.ishr, 1) := by decide +kernel
theorem dX7_isLawful_35 : decode cX7_isLawful 35 = .ok (.iconst 1, 1) := by decide +kernel
theorem dX7_isLawful_36 : decode cX7_isLawful 36 = .ok (.iand, 1) := by decide +kernel
theorem dX7_isLawful_37 : decode cX7_isLawful 37 = .ok (.iconst 1, 1) := by decide +kernel
theorem dX7_isLawful_38 : decode cX7_isLawful 38 = .ok (.if_icmp .ne 16, 3) := by decide +kernel
theorem dX7_isLawful_41 : decode cX7_isLawful 41 = .ok (.iload_n 1, 1) := by decide +kernel
theorem dX7_isLawful_42 : decode cX7_isLawful 42 = .ok (.aload_n 0, 1) := by decide +kernel
theorem dX7_isLawful_43 : decode cX7_isLawful 43 = .ok (.getfield 79, 3) := by decide +kernel
theorem dX7_isLawful_46 : decode cX7_isLawful 46 = .ok (.iload_n 3, 1) := by decide +kernel
theorem dX7_isLawful_47 : decode cX7_isLawful 47 = .ok (.iaload, 1) := by decide +kernel
theorem dX7_isLawful_48 : decode cX7_isLawful 48 = .ok (.iand, 1) := by decide +kernel
theorem dX7_isLawful_49 : decode cX7_isLawful 49 = .ok (.ifCond .eq 5, 3) := by decide +kernel
theorem dX7_isLawful_52 : decode cX7_isLawful 52 = .ok (.iconst 0, 1) := by decide +kernel
theorem dX7_isLawful_53 : decode cX7_isLawful 53 = .ok (.ireturn, 1) := by decide +kernel
theorem dX7_isLawful_54 : decode cX7_isLawful 54 = .ok (.iinc 3 1, 3) := by decide +kernel
theorem dX7_isLawful_57 : decode cX7_isLawful 57 = .ok (.goto (-55), 3) := by decide +kernel
theorem dX7_isLawful_60 : decode cX7_isLawful 60 = .ok (.iconst 1, 1) := by decide +kernel
theorem dX7_isLawful_61 : decode cX7_isLawful 61 = .ok (.ireturn, 1) := by decide +kernel
theorem dX7_rock_0 : decode cX7_rock 0 = .ok (.aload_n 0, 1) := by decide +kernel
theorem dX7_rock_1 : decode cX7_rock 1 = .ok (.getfield 251, 3) := by decide +kernel
theorem dX7_rock_4 : decode cX7_rock 4 = .ok (.istore_n 1, 1) := by decide +kernel
theorem dX7_rock_5 : decode cX7_rock 5 = .ok (.iconst 0, 1) := by decide +kernel
theorem dX7_rock_6 : decode cX7_rock 6 = .ok (.istore_n 2, 1) := by decide +kernel
theorem dX7_rock_7 : decode cX7_rock 7 = .ok (.iload_n 2, 1) := by decide +kernel
theorem dX7_rock_8 : decode cX7_rock 8 = .ok (.aload_n 0, 1) := by decide +kernel
theorem dX7_rock_9 : decode cX7_rock 9 = .ok (.getfield 111, 3) := by decide +kernel
theorem dX7_rock_12 : decode cX7_rock 12 = .ok (.if_icmp .ge 24, 3) := by decide +kernel
theorem dX7_rock_15 : decode cX7_rock 15 = .ok (.aload_n 0, 1) := by decide +kernel
theorem dX7_rock_16 : decode cX7_rock 16 = .ok (.getfield 7, 3) := by decide +kernel
theorem dX7_rock_19 : decode cX7_rock 19 = .ok (.iload_n 2, 1) := by decide +kernel
theorem dX7_rock_20 : decode cX7_rock 20 = .ok (.iaload, 1) := by decide +kernel
theorem dX7_rock_21 : decode cX7_rock 21 = .ok (.ifCond .ne 9, 3) := by decide +kernel
theorem dX7_rock_24 : decode cX7_rock 24 = .ok (.iload_n 1, 1) := by decide +kernel
theorem dX7_rock_25 : decode cX7_rock 25 = .ok (.iconst 1, 1) := by decide +kernel
theorem dX7_rock_26 : decode cX7_rock 26 = .ok (.iload_n 2, 1) := by decide +kernel
theorem dX7_rock_27 : decode cX7_rock 27 = .ok (.ishl, 1) := by decide +kernel
theorem dX7_rock_28 : decode cX7_rock 28 = .ok (.ior, 1) := by decide +kernel
theorem dX7_rock_29 : decode cX7_rock 29 = .ok (.istore_n 1, 1) := by decide +kernel
theorem dX7_rock_30 : decode cX7_rock 30 = .ok (.iinc 2 1, 3) := by decide +kernel
theorem dX7_rock_33 : decode cX7_rock 33 = .ok (.goto (-26), 3) := by decide +kernel
theorem dX7_rock_36 : decode cX7_rock 36 = .ok (.iload_n 1, 1) := by decide +kernel
theorem dX7_rock_37 : decode cX7_rock 37 = .ok (.ireturn, 1) := by decide +kernel
theorem dX7_mayBe_0 : decode cX7_mayBe 0 = .ok (.aload_n 0, 1) := by decide +kernel
theorem dX7_mayBe_1 : decode cX7_mayBe 1 = .ok (.getfield 141, 3) := by decide +kernel
theorem dX7_mayBe_4 : decode cX7_mayBe 4 = .ok (.iload_n 1, 1) := by decide +kernel
theorem dX7_mayBe_5 : decode cX7_mayBe 5 = .ok (.iconst (-1), 1) := by decide +kernel
theorem dX7_mayBe_6 : decode cX7_mayBe 6 = .ok (.ixor, 1) := by decide +kernel
theorem dX7_mayBe_7 : decode cX7_mayBe 7 = .ok (.iand, 1) := by decide +kernel
theorem dX7_mayBe_8 : decode cX7_mayBe 8 = .ok (.ifCond .ne 35, 3) := by decide +kernel
theorem dX7_mayBe_11 : decode cX7_mayBe 11 = .ok (.iload_n 1, 1) := by decide +kernel
theorem dX7_mayBe_12 : decode cX7_mayBe 12 = .ok (.aload_n 0, 1) := by decide +kernel
theorem dX7_mayBe_13 : decode cX7_mayBe 13 = .ok (.invokevirtual 254, 3) := by decide +kernel
theorem dX7_mayBe_16 : decode cX7_mayBe 16 = .ok (.iand, 1) := by decide +kernel
theorem dX7_mayBe_17 : decode cX7_mayBe 17 = .ok (.aload_n 0, 1) := by decide +kernel
theorem dX7_mayBe_18 : decode cX7_mayBe 18 = .ok (.getfield 141, 3) := by decide +kernel
theorem dX7_mayBe_21 : decode cX7_mayBe 21 = .ok (.iconst (-1), 1) := by decide +kernel
theorem dX7_mayBe_22 : decode cX7_mayBe 22 = .ok (.ixor, 1) := by decide +kernel
theorem dX7_mayBe_23 : decode cX7_mayBe 23 = .ok (.iand, 1) := by decide +kernel
theorem dX7_mayBe_24 : decode cX7_mayBe 24 = .ok (.ifCond .ne 19, 3) := by decide +kernel
theorem dX7_mayBe_27 : decode cX7_mayBe 27 = .ok (.aload_n 0, 1) := by decide +kernel
theorem dX7_mayBe_28 : decode cX7_mayBe 28 = .ok (.iload_n 1, 1) := by decide +kernel
theorem dX7_mayBe_29 : decode cX7_mayBe 29 = .ok (.aload_n 0, 1) := by decide +kernel
theorem dX7_mayBe_30 : decode cX7_mayBe 30 = .ok (.invokevirtual 248, 3) := by decide +kernel
theorem dX7_mayBe_33 : decode cX7_mayBe 33 = .ok (.invokevirtual 257, 3) := by decide +kernel
theorem dX7_mayBe_36 : decode cX7_mayBe 36 = .ok (.ifCond .eq 7, 3) := by decide +kernel
theorem dX7_mayBe_39 : decode cX7_mayBe 39 = .ok (.iconst 1, 1) := by decide +kernel
theorem dX7_mayBe_40 : decode cX7_mayBe 40 = .ok (.goto 4, 3) := by decide +kernel
theorem dX7_mayBe_43 : decode cX7_mayBe 43 = .ok (.iconst 0, 1) := by decide +kernel
theorem dX7_mayBe_44 : decode cX7_mayBe 44 = .ok (.ireturn, 1) := by decide +kernel
theorem dX7_judge_0 : decode cX7_judge 0 = .ok (.aload_n 0, 1) := by decide +kernel
theorem dX7_judge_1 : decode cX7_judge 1 = .ok (.iload_n 1, 1) := by decide +kernel
theorem dX7_judge_2 : decode cX7_judge 2 = .ok (.invokevirtual 138, 3) := by decide +kernel
theorem dX7_judge_5 : decode cX7_judge 5 = .ok (.ifCond .ne 5, 3) := by decide +kernel
theorem dX7_judge_8 : decode cX7_judge 8 = .ok (.iconst (-1), 1) := by decide +kernel
theorem dX7_judge_9 : decode cX7_judge 9 = .ok (.ireturn, 1) := by decide +kernel
theorem dX7_judge_10 : decode cX7_judge 10 = .ok (.aload_n 0, 1) := by decide +kernel
theorem dX7_judge_11 : decode cX7_judge 11 = .ok (.aload_n 0, 1) := by decide +kernel
theorem dX7_judge_12 : decode cX7_judge 12 = .ok (.invokevirtual 248, 3) := by decide +kernel
theorem dX7_judge_15 : decode cX7_judge 15 = .ok (.invokevirtual 261, 3) := by decide +kernel
theorem dX7_judge_18 : decode cX7_judge 18 = .ok (.iconst 0, 1) := by decide +kernel
theorem dX7_judge_19 : decode cX7_judge 19 = .ok (.istore_n 2, 1) := by decide +kernel
theorem dX7_judge_20 : decode cX7_judge 20 = .ok (.iload_n 2, 1) := by decide +kernel
theorem dX7_judge_21 : decode cX7_judge 21 = .ok (.aload_n 0, 1) := by decide +kernel
theorem dX7_judge_22 : decode cX7_judge 22 = .ok (.getfield 111, 3) := by decide +kernel
theorem dX7_judge_25 : decode cX7_judge 25 = .ok (.if_icmp .ge 22, 3) := by decide +kernel
theorem dX7_judge_28 : decode cX7_judge 28 = .ok (.iload_n 1, 1) := by decide +kernel
theorem dX7_judge_29 : decode cX7_judge 29 = .ok (.aload_n 0, 1) := by decide +kernel
theorem dX7_judge_30 : decode cX7_judge 30 = .ok (.getfield 76, 3) := by decide +kernel
theorem dX7_judge_33 : decode cX7_judge 33 = .ok (.iload_n 2, 1) := by decide +kernel
theorem dX7_judge_34 : decode cX7_judge 34 = .ok (.iaload, 1) := by decide +kernel
theorem dX7_judge_35 : decode cX7_judge 35 = .ok (.iand, 1) := by decide +kernel
theorem dX7_judge_36 : decode cX7_judge 36 = .ok (.ifCond .ne 5, 3) := by decide +kernel
theorem dX7_judge_39 : decode cX7_judge 39 = .ok (.iload_n 2, 1) := by decide +kernel
theorem dX7_judge_40 : decode cX7_judge 40 = .ok (.ireturn, 1) := by decide +kernel
theorem dX7_judge_41 : decode cX7_judge 41 = .ok (.iinc 2 1, 3) := by decide +kernel
theorem dX7_judge_44 : decode cX7_judge 44 = .ok (.goto (-24), 3) := by decide +kernel
theorem dX7_judge_47 : decode cX7_judge 47 = .ok (.iconst 0, 1) := by decide +kernel
theorem dX7_judge_48 : decode cX7_judge 48 = .ok (.istore_n 2, 1) := by decide +kernel
theorem dX7_judge_49 : decode cX7_judge 49 = .ok (.iload_n 2, 1) := by decide +kernel
theorem dX7_judge_50 : decode cX7_judge 50 = .ok (.aload_n 0, 1) := by decide +kernel
theorem dX7_judge_51 : decode cX7_judge 51 = .ok (.getfield 111, 3) := by decide +kernel
theorem dX7_judge_54 : decode cX7_judge 54 = .ok (.if_icmp .ge 69, 3) := by decide +kernel
theorem dX7_judge_57 : decode cX7_judge 57 = .ok (.iload_n 2, 1) := by decide +kernel
theorem dX7_judge_58 : decode cX7_judge 58 = .ok (.iconst 1, 1) := by decide +kernel
theorem dX7_judge_59 : decode cX7_judge 59 = .ok (.iadd, 1) := by decide +kernel
theorem dX7_judge_60 : decode cX7_judge 60 = .ok (.istore_n 3, 1) := by decide +kernel
theorem dX7_judge_61 : decode cX7_judge 61 = .ok (.iload_n 3, 1) := by decide +kernel
theorem dX7_judge_62 : decode cX7_judge 62 = .ok (.aload_n 0, 1) := by decide +kernel
theorem dX7_judge_63 : decode cX7_judge 63 = .ok (.getfield 111, 3) := by decide +kernel
theorem dX7_judge_66 : decode cX7_judge 66 = .ok (.if_icmp .ge 51, 3) := by decide +kernel
theorem dX7_judge_69 : decode cX7_judge 69 = .ok (.iload_n 1, 1) := by decide +kernel
theorem dX7_judge_70 : decode cX7_judge 70 = .ok (.iload_n 2, 1) := by decide +kernel
theorem dX7_judge_71 : decode cX7_judge 71 = .ok (.ishr, 1) := by decide +kernel
theorem dX7_judge_72 : decode cX7_judge 72 = .ok (.iconst 1, 1) := by decide +kernel
theorem dX7_judge_73 : decode cX7_judge 73 = .ok (.iand, 1) := by decide +kernel
theorem dX7_judge_74 : decode cX7_judge 74 = .ok (.iconst 1, 1) := by decide +kernel
theorem dX7_judge_75 : decode cX7_judge 75 = .ok (.if_icmp .ne 36, 3) := by decide +kernel
theorem dX7_judge_78 : decode cX7_judge 78 = .ok (.iload_n 1, 1) := by decide +kernel
theorem dX7_judge_79 : decode cX7_judge 79 = .ok (.iload_n 3, 1) := by decide +kernel
theorem dX7_judge_80 : decode cX7_judge 80 = .ok (.ishr, 1) := by decide +kernel
theorem dX7_judge_81 : decode cX7_judge 81 = .ok (.iconst 1, 1) := by decide +kernel
theorem dX7_judge_82 : decode cX7_judge 82 = .ok (.iand, 1) := by decide +kernel
theorem dX7_judge_83 : decode cX7_judge 83 = .ok (.iconst 1, 1) := by decide +kernel
theorem dX7_judge_84 : decode cX7_judge 84 = .ok (.if_icmp .ne 27, 3) := by decide +kernel
theorem dX7_judge_87 : decode cX7_judge 87 = .ok (.aload_n 0, 1) := by decide +kernel
theorem dX7_judge_88 : decode cX7_judge 88 = .ok (.getfield 79, 3) := by decide +kernel
theorem dX7_judge_91 : decode cX7_judge 91 = .ok (.iload_n 2, 1) := by decide +kernel
theorem dX7_judge_92 : decode cX7_judge 92 = .ok (.iaload, 1) := by decide +kernel
theorem dX7_judge_93 : decode cX7_judge 93 = .ok (.iload_n 3, 1) := by decide +kernel
theorem dX7_judge_94 : decode cX7_judge 94 = .ok (.ishr, 1) := by decide +kernel
theorem dX7_judge_95 : decode cX7_judge 95 = .ok (.iconst 1, 1) := by decide +kernel
theorem dX7_judge_96 : decode cX7_judge 96 = .ok (.iand, 1) := by decide +kernel
theorem dX7_judge_97 : decode cX7_judge 97 = .ok (.iconst 1, 1) := by decide +kernel
theorem dX7_judge_98 : decode cX7_judge 98 = .ok (.if_icmp .ne 13, 3) := by decide +kernel
theorem dX7_judge_101 : decode cX7_judge 101 = .ok (.bipush 100, 2) := by decide +kernel
theorem dX7_judge_103 : decode cX7_judge 103 = .ok (.bipush 16, 2) := by decide +kernel
theorem dX7_judge_105 : decode cX7_judge 105 = .ok (.iload_n 2, 1) := by decide +kernel
theorem dX7_judge_106 : decode cX7_judge 106 = .ok (.imul, 1) := by decide +kernel
theorem dX7_judge_107 : decode cX7_judge 107 = .ok (.iadd, 1) := by decide +kernel
theorem dX7_judge_108 : decode cX7_judge 108 = .ok (.iload_n 3, 1) := by decide +kernel
theorem dX7_judge_109 : decode cX7_judge 109 = .ok (.iadd, 1) := by decide +kernel
theorem dX7_judge_110 : decode cX7_judge 110 = .ok (.ireturn, 1) := by decide +kernel
theorem dX7_judge_111 : decode cX7_judge 111 = .ok (.iinc 3 1, 3) := by decide +kernel
theorem dX7_judge_114 : decode cX7_judge 114 = .ok (.goto (-53), 3) := by decide +kernel
theorem dX7_judge_117 : decode cX7_judge 117 = .ok (.iinc 2 1, 3) := by decide +kernel
theorem dX7_judge_120 : decode cX7_judge 120 = .ok (.goto (-71), 3) := by decide +kernel
theorem dX7_judge_123 : decode cX7_judge 123 = .ok (.bipush (-2), 2) := by decide +kernel
theorem dX7_judge_125 : decode cX7_judge 125 = .ok (.ireturn, 1) := by decide +kernel
theorem dX7_priceOf_0 : decode cX7_priceOf 0 = .ok (.iconst 0, 1) := by decide +kernel
theorem dX7_priceOf_1 : decode cX7_priceOf 1 = .ok (.istore_n 2, 1) := by decide +kernel
theorem dX7_priceOf_2 : decode cX7_priceOf 2 = .ok (.iconst 0, 1) := by decide +kernel
theorem dX7_priceOf_3 : decode cX7_priceOf 3 = .ok (.istore_n 3, 1) := by decide +kernel
theorem dX7_priceOf_4 : decode cX7_priceOf 4 = .ok (.iload_n 3, 1) := by decide +kernel
theorem dX7_priceOf_5 : decode cX7_priceOf 5 = .ok (.aload_n 0, 1) := by decide +kernel
theorem dX7_priceOf_6 : decode cX7_priceOf 6 = .ok (.getfield 111, 3) := by decide +kernel
theorem dX7_priceOf_9 : decode cX7_priceOf 9 = .ok (.if_icmp .ge 34, 3) := by decide +kernel
theorem dX7_priceOf_12 : decode cX7_priceOf 12 = .ok (.iload_n 1, 1) := by decide +kernel
theorem dX7_priceOf_13 : decode cX7_priceOf 13 = .ok (.aload_n 0, 1) := by decide +kernel
theorem dX7_priceOf_14 : decode cX7_priceOf 14 = .ok (.getfield 141, 3) := by decide +kernel
theorem dX7_priceOf_17 : decode cX7_priceOf 17 = .ok (.iconst (-1), 1) := by decide +kernel
theorem dX7_priceOf_18 : decode cX7_priceOf 18 = .ok (.ixor, 1) := by decide +kernel
theorem dX7_priceOf_19 : decode cX7_priceOf 19 = .ok (.iand, 1) := by decide +kernel
theorem dX7_priceOf_20 : decode cX7_priceOf 20 = .ok (.iload_n 3, 1) := by decide +kernel
theorem dX7_priceOf_21 : decode cX7_priceOf 21 = .ok (.ishr, 1) := by decide +kernel
theorem dX7_priceOf_22 : decode cX7_priceOf 22 = .ok (.iconst 1, 1) := by decide +kernel
theorem dX7_priceOf_23 : decode cX7_priceOf 23 = .ok (.iand, 1) := by decide +kernel
theorem dX7_priceOf_24 : decode cX7_priceOf 24 = .ok (.iconst 1, 1) := by decide +kernel
theorem dX7_priceOf_25 : decode cX7_priceOf 25 = .ok (.if_icmp .ne 12, 3) := by decide +kernel
theorem dX7_priceOf_28 : decode cX7_priceOf 28 = .ok (.iload_n 2, 1) := by decide +kernel
theorem dX7_priceOf_29 : decode cX7_priceOf 29 = .ok (.aload_n 0, 1) := by decide +kernel
theorem dX7_priceOf_30 : decode cX7_priceOf 30 = .ok (.getfield 7, 3) := by decide +kernel
theorem dX7_priceOf_33 : decode cX7_priceOf 33 = .ok (.iload_n 3, 1) := by decide +kernel
theorem dX7_priceOf_34 : decode cX7_priceOf 34 = .ok (.iaload, 1) := by decide +kernel
theorem dX7_priceOf_35 : decode cX7_priceOf 35 = .ok (.iadd, 1) := by decide +kernel
theorem dX7_priceOf_36 : decode cX7_priceOf 36 = .ok (.istore_n 2, 1) := by decide +kernel
theorem dX7_priceOf_37 : decode cX7_priceOf 37 = .ok (.iinc 3 1, 3) := by decide +kernel
theorem dX7_priceOf_40 : decode cX7_priceOf 40 = .ok (.goto (-36), 3) := by decide +kernel
theorem dX7_priceOf_43 : decode cX7_priceOf 43 = .ok (.iload_n 2, 1) := by decide +kernel
theorem dX7_priceOf_44 : decode cX7_priceOf 44 = .ok (.ireturn, 1) := by decide +kernel
theorem dX7_rank_0 : decode cX7_rank 0 = .ok (.iload_n 2, 1) := by decide +kernel
theorem dX7_rank_1 : decode cX7_rank 1 = .ok (.ifCond .ne 10, 3) := by decide +kernel
theorem dX7_rank_4 : decode cX7_rank 4 = .ok (.iload_n 1, 1) := by decide +kernel
theorem dX7_rank_5 : decode cX7_rank 5 = .ok (.invokestatic 264, 3) := by decide +kernel
theorem dX7_rank_8 : decode cX7_rank 8 = .ok (.goto 21, 3) := by decide +kernel
theorem dX7_rank_11 : decode cX7_rank 11 = .ok (.iload_n 2, 1) := by decide +kernel
theorem dX7_rank_12 : decode cX7_rank 12 = .ok (.iconst 1, 1) := by decide +kernel
theorem dX7_rank_13 : decode cX7_rank 13 = .ok (.if_icmp .ne 11, 3) := by decide +kernel
theorem dX7_rank_16 : decode cX7_rank 16 = .ok (.iload_n 1, 1) := by decide +kernel
theorem dX7_rank_17 : decode cX7_rank 17 = .ok (.invokestatic 264, 3) := by decide +kernel
theorem dX7_rank_20 : decode cX7_rank 20 = .ok (.ineg, 1) := by decide +kernel
theorem dX7_rank_21 : decode cX7_rank 21 = .ok (.goto 8, 3) := by decide +kernel
theorem dX7_rank_24 : decode cX7_rank 24 = .ok (.aload_n 0, 1) := by decide +kernel
theorem dX7_rank_25 : decode cX7_rank 25 = .ok (.iload_n 1, 1) := by decide +kernel
theorem dX7_rank_26 : decode cX7_rank 26 = .ok (.invokevirtual 267, 3) := by decide +kernel
theorem dX7_rank_29 : decode cX7_rank 29 = .ok (.ireturn, 1) := by decide +kernel
theorem dX7_bestBy_0 : decode cX7_bestBy 0 = .ok (.aload_n 0, 1) := by decide +kernel
theorem dX7_bestBy_1 : decode cX7_bestBy 1 = .ok (.aload_n 0, 1) := by decide +kernel
theorem dX7_bestBy_2 : decode cX7_bestBy 2 = .ok (.invokevirtual 248, 3) := by decide +kernel
theorem dX7_bestBy_5 : decode cX7_bestBy 5 = .ok (.invokevirtual 261, 3) := by decide +kernel
theorem dX7_bestBy_8 : decode cX7_bestBy 8 = .ok (.bipush (-2), 2) := by decide +kernel
theorem dX7_bestBy_10 : decode cX7_bestBy 10 = .ok (.istore_n 2, 1) := by decide +kernel
theorem dX7_bestBy_11 : decode cX7_bestBy 11 = .ok (.iconst 0, 1) := by decide +kernel
theorem dX7_bestBy_12 : decode cX7_bestBy 12 = .ok (.istore_n 3, 1) := by decide +kernel
theorem dX7_bestBy_13 : decode cX7_bestBy 13 = .ok (.iconst 0, 1) := by decide +kernel
theorem dX7_bestBy_14 : decode cX7_bestBy 14 = .ok (.istore 4, 2) := by decide +kernel
theorem dX7_bestBy_16 : decode cX7_bestBy 16 = .ok (.iload 4, 2) := by decide +kernel
theorem dX7_bestBy_18 : decode cX7_bestBy 18 = .ok (.aload_n 0, 1) := by decide +kernel
theorem dX7_bestBy_19 : decode cX7_bestBy 19 = .ok (.invokevirtual 248, 3) := by decide +kernel
theorem dX7_bestBy_22 : decode cX7_bestBy 22 = .ok (.if_icmp .gt 47, 3) := by decide +kernel
theorem dX7_bestBy_25 : decode cX7_bestBy 25 = .ok (.aload_n 0, 1) := by decide +kernel
theorem dX7_bestBy_26 : decode cX7_bestBy 26 = .ok (.iload 4, 2) := by decide +kernel
theorem dX7_bestBy_28 : decode cX7_bestBy 28 = .ok (.invokevirtual 270, 3) := by decide +kernel
theorem dX7_bestBy_31 : decode cX7_bestBy 31 = .ok (.ifCond .eq 32, 3) := by decide +kernel
theorem dX7_bestBy_34 : decode cX7_bestBy 34 = .ok (.iload_n 2, 1) := by decide +kernel
theorem dX7_bestBy_35 : decode cX7_bestBy 35 = .ok (.ifCond .lt 17, 3) := by decide +kernel
theorem dX7_bestBy_38 : decode cX7_bestBy 38 = .ok (.aload_n 0, 1) := by decide +kernel
theorem dX7_bestBy_39 : decode cX7_bestBy 39 = .ok (.iload 4, 2) := by decide +kernel
theorem dX7_bestBy_41 : decode cX7_bestBy 41 = .ok (.iload_n 1, 1) := by decide +kernel
theorem dX7_bestBy_42 : decode cX7_bestBy 42 = .ok (.invokevirtual 273, 3) := by decide +kernel
theorem dX7_bestBy_45 : decode cX7_bestBy 45 = .ok (.iload_n 3, 1) := by decide +kernel
theorem dX7_bestBy_46 : decode cX7_bestBy 46 = .ok (.if_icmp .lt 6, 3) := by decide +kernel
theorem dX7_bestBy_49 : decode cX7_bestBy 49 = .ok (.goto 14, 3) := by decide +kernel
theorem dX7_bestBy_52 : decode cX7_bestBy 52 = .ok (.iload 4, 2) := by decide +kernel
theorem dX7_bestBy_54 : decode cX7_bestBy 54 = .ok (.istore_n 2, 1) := by decide +kernel
theorem dX7_bestBy_55 : decode cX7_bestBy 55 = .ok (.aload_n 0, 1) := by decide +kernel
theorem dX7_bestBy_56 : decode cX7_bestBy 56 = .ok (.iload 4, 2) := by decide +kernel
theorem dX7_bestBy_58 : decode cX7_bestBy 58 = .ok (.iload_n 1, 1) := by decide +kernel
theorem dX7_bestBy_59 : decode cX7_bestBy 59 = .ok (.invokevirtual 273, 3) := by decide +kernel
theorem dX7_bestBy_62 : decode cX7_bestBy 62 = .ok (.istore_n 3, 1) := by decide +kernel
theorem dX7_bestBy_63 : decode cX7_bestBy 63 = .ok (.iinc 4 1, 3) := by decide +kernel
theorem dX7_bestBy_66 : decode cX7_bestBy 66 = .ok (.goto (-50), 3) := by decide +kernel
theorem dX7_bestBy_69 : decode cX7_bestBy 69 = .ok (.iload_n 2, 1) := by decide +kernel
theorem dX7_bestBy_70 : decode cX7_bestBy 70 = .ok (.ireturn, 1) := by decide +kernel
theorem dX7_best_0 : decode cX7_best 0 = .ok (.iload_n 1, 1) := by decide +kernel
theorem dX7_best_1 : decode cX7_best 1 = .ok (.iconst 0, 1) := by decide +kernel
theorem dX7_best_2 : decode cX7_best 2 = .ok (.iconst 2, 1) := by decide +kernel
theorem dX7_best_3 : decode cX7_best 3 = .ok (.invokestatic 114, 3) := by decide +kernel
theorem dX7_best_6 : decode cX7_best 6 = .ok (.ifCond .eq 11, 3) := by decide +kernel
theorem dX7_best_9 : decode cX7_best 9 = .ok (.aload_n 0, 1) := by decide +kernel
theorem dX7_best_10 : decode cX7_best 10 = .ok (.iload_n 1, 1) := by decide +kernel
theorem dX7_best_11 : decode cX7_best 11 = .ok (.invokevirtual 276, 3) := by decide +kernel
theorem dX7_best_14 : decode cX7_best 14 = .ok (.goto 4, 3) := by decide +kernel
theorem dX7_best_17 : decode cX7_best 17 = .ok (.iconst (-1), 1) := by decide +kernel
theorem dX7_best_18 : decode cX7_best 18 = .ok (.ireturn, 1) := by decide +kernel
theorem dX7_all_0 : decode cX7_all 0 = .ok (.iload_n 1, 1) := by decide +kernel
theorem dX7_all_1 : decode cX7_all 1 = .ok (.iconst 0, 1) := by decide +kernel
theorem dX7_all_2 : decode cX7_all 2 = .ok (.iconst 2, 1) := by decide +kernel
theorem dX7_all_3 : decode cX7_all 3 = .ok (.invokestatic 114, 3) := by decide +kernel
theorem dX7_all_6 : decode cX7_all 6 = .ok (.ifCond .ne 5, 3) := by decide +kernel
theorem dX7_all_9 : decode cX7_all 9 = .ok (.iconst (-1), 1) := by decide +kernel
theorem dX7_all_10 : decode cX7_all 10 = .ok (.ireturn, 1) := by decide +kernel
theorem dX7_all_11 : decode cX7_all 11 = .ok (.aload_n 0, 1) := by decide +kernel
theorem dX7_all_12 : decode cX7_all 12 = .ok (.aload_n 0, 1) := by decide +kernel
theorem dX7_all_13 : decode cX7_all 13 = .ok (.invokevirtual 248, 3) := by decide +kernel
theorem dX7_all_16 : decode cX7_all 16 = .ok (.invokevirtual 261, 3) := by decide +kernel
theorem dX7_all_19 : decode cX7_all 19 = .ok (.iconst 0, 1) := by decide +kernel
theorem dX7_all_20 : decode cX7_all 20 = .ok (.istore_n 2, 1) := by decide +kernel
theorem dX7_all_21 : decode cX7_all 21 = .ok (.aload_n 0, 1) := by decide +kernel
theorem dX7_all_22 : decode cX7_all 22 = .ok (.invokevirtual 248, 3) := by decide +kernel
theorem dX7_all_25 : decode cX7_all 25 = .ok (.istore_n 3, 1) := by decide +kernel
theorem dX7_all_26 : decode cX7_all 26 = .ok (.iconst 0, 1) := by decide +kernel
theorem dX7_all_27 : decode cX7_all 27 = .ok (.istore 4, 2) := by decide +kernel
theorem dX7_all_29 : decode cX7_all 29 = .ok (.iconst 0, 1) := by decide +kernel
theorem dX7_all_30 : decode cX7_all 30 = .ok (.istore 5, 2) := by decide +kernel
theorem dX7_all_32 : decode cX7_all 32 = .ok (.iload 5, 2) := by decide +kernel
theorem dX7_all_34 : decode cX7_all 34 = .ok (.aload_n 0, 1) := by decide +kernel
theorem dX7_all_35 : decode cX7_all 35 = .ok (.invokevirtual 248, 3) := by decide +kernel
theorem dX7_all_38 : decode cX7_all 38 = .ok (.if_icmp .gt 36, 3) := by decide +kernel
theorem dX7_all_41 : decode cX7_all 41 = .ok (.aload_n 0, 1) := by decide +kernel
theorem dX7_all_42 : decode cX7_all 42 = .ok (.iload 5, 2) := by decide +kernel
theorem dX7_all_44 : decode cX7_all 44 = .ok (.invokevirtual 270, 3) := by decide +kernel
theorem dX7_all_47 : decode cX7_all 47 = .ok (.ifCond .ne 6, 3) := by decide +kernel
theorem dX7_all_50 : decode cX7_all 50 = .ok (.goto 18, 3) := by decide +kernel
theorem dX7_all_53 : decode cX7_all 53 = .ok (.iinc 2 1, 3) := by decide +kernel
theorem dX7_all_56 : decode cX7_all 56 = .ok (.iload_n 3, 1) := by decide +kernel
theorem dX7_all_57 : decode cX7_all 57 = .ok (.iload 5, 2) := by decide +kernel
theorem dX7_all_59 : decode cX7_all 59 = .ok (.iand, 1) := by decide +kernel
theorem dX7_all_60 : decode cX7_all 60 = .ok (.istore_n 3, 1) := by decide +kernel
theorem dX7_all_61 : decode cX7_all 61 = .ok (.iload 4, 2) := by decide +kernel
theorem dX7_all_63 : decode cX7_all 63 = .ok (.iload 5, 2) := by decide +kernel
theorem dX7_all_65 : decode cX7_all 65 = .ok (.ior, 1) := by decide +kernel
theorem dX7_all_66 : decode cX7_all 66 = .ok (.istore 4, 2) := by decide +kernel
theorem dX7_all_68 : decode cX7_all 68 = .ok (.iinc 5 1, 3) := by decide +kernel
theorem dX7_all_71 : decode cX7_all 71 = .ok (.goto (-39), 3) := by decide +kernel
theorem dX7_all_74 : decode cX7_all 74 = .ok (.iload_n 1, 1) := by decide +kernel
theorem dX7_all_75 : decode cX7_all 75 = .ok (.ifCond .ne 5, 3) := by decide +kernel
theorem dX7_all_78 : decode cX7_all 78 = .ok (.iload_n 2, 1) := by decide +kernel
theorem dX7_all_79 : decode cX7_all 79 = .ok (.ireturn, 1) := by decide +kernel
theorem dX7_all_80 : decode cX7_all 80 = .ok (.iload_n 2, 1) := by decide +kernel
theorem dX7_all_81 : decode cX7_all 81 = .ok (.ifCond .ne 8, 3) := by decide +kernel
theorem dX7_all_84 : decode cX7_all 84 = .ok (.bipush (-2), 2) := by decide +kernel
theorem dX7_all_86 : decode cX7_all 86 = .ok (.goto 21, 3) := by decide +kernel
theorem dX7_all_89 : decode cX7_all 89 = .ok (.iload_n 1, 1) := by decide +kernel
theorem dX7_all_90 : decode cX7_all 90 = .ok (.iconst 1, 1) := by decide +kernel
theorem dX7_all_91 : decode cX7_all 91 = .ok (.if_icmp .ne 7, 3) := by decide +kernel
theorem dX7_all_94 : decode cX7_all 94 = .ok (.iload_n 3, 1) := by decide +kernel
theorem dX7_all_95 : decode cX7_all 95 = .ok (.goto 12, 3) := by decide +kernel
theorem dX7_all_98 : decode cX7_all 98 = .ok (.aload_n 0, 1) := by decide +kernel
theorem dX7_all_99 : decode cX7_all 99 = .ok (.invokevirtual 248, 3) := by decide +kernel
theorem dX7_all_102 : decode cX7_all 102 = .ok (.iload 4, 2) := by decide +kernel
theorem dX7_all_104 : decode cX7_all 104 = .ok (.iconst (-1), 1) := by decide +kernel
theorem dX7_all_105 : decode cX7_all 105 = .ok (.ixor, 1) := by decide +kernel
theorem dX7_all_106 : decode cX7_all 106 = .ok (.iand, 1) := by decide +kernel
theorem dX7_all_107 : decode cX7_all 107 = .ok (.ireturn, 1) := by decide +kernel
theorem dX7_isEven_0 : decode cX7_isEven 0 = .ok (.iconst 0, 1) := by decide +kernel
theorem dX7_isEven_1 : decode cX7_isEven 1 = .ok (.istore_n 2, 1) := by decide +kernel
theorem dX7_isEven_2 : decode cX7_isEven 2 = .ok (.iload_n 2, 1) := by decide +kernel
theorem dX7_isEven_3 : decode cX7_isEven 3 = .ok (.aload_n 0, 1) := by decide +kernel
theorem dX7_isEven_4 : decode cX7_isEven 4 = .ok (.getfield 111, 3) := by decide +kernel
theorem dX7_isEven_7 : decode cX7_isEven 7 = .ok (.if_icmp .ge 26, 3) := by decide +kernel
theorem dX7_isEven_10 : decode cX7_isEven 10 = .ok (.iload_n 1, 1) := by decide +kernel
theorem dX7_isEven_11 : decode cX7_isEven 11 = .ok (.aload_n 0, 1) := by decide +kernel
theorem dX7_isEven_12 : decode cX7_isEven 12 = .ok (.getfield 76, 3) := by decide +kernel
theorem dX7_isEven_15 : decode cX7_isEven 15 = .ok (.iload_n 2, 1) := by decide +kernel
theorem dX7_isEven_16 : decode cX7_isEven 16 = .ok (.iaload, 1) := by decide +kernel
theorem dX7_isEven_17 : decode cX7_isEven 17 = .ok (.iand, 1) := by decide +kernel
theorem dX7_isEven_18 : decode cX7_isEven 18 = .ok (.invokestatic 264, 3) := by decide +kernel
theorem dX7_isEven_21 : decode cX7_isEven 21 = .ok (.iconst 1, 1) := by decide +kernel
theorem dX7_isEven_22 : decode cX7_isEven 22 = .ok (.if_icmp .eq 5, 3) := by decide +kernel
theorem dX7_isEven_25 : decode cX7_isEven 25 = .ok (.iconst 0, 1) := by decide +kernel
theorem dX7_isEven_26 : decode cX7_isEven 26 = .ok (.ireturn, 1) := by decide +kernel
theorem dX7_isEven_27 : decode cX7_isEven 27 = .ok (.iinc 2 1, 3) := by decide +kernel
theorem dX7_isEven_30 : decode cX7_isEven 30 = .ok (.goto (-28), 3) := by decide +kernel
theorem dX7_isEven_33 : decode cX7_isEven 33 = .ok (.iconst 1, 1) := by decide +kernel
theorem dX7_isEven_34 : decode cX7_isEven 34 = .ok (.ireturn, 1) := by decide +kernel
theorem dX7_even_0 : decode cX7_even 0 = .ok (.aload_n 0, 1) := by decide +kernel
theorem dX7_even_1 : decode cX7_even 1 = .ok (.aload_n 0, 1) := by decide +kernel
theorem dX7_even_2 : decode cX7_even 2 = .ok (.invokevirtual 248, 3) := by decide +kernel
theorem dX7_even_5 : decode cX7_even 5 = .ok (.invokevirtual 261, 3) := by decide +kernel
theorem dX7_even_8 : decode cX7_even 8 = .ok (.iconst 0, 1) := by decide +kernel
theorem dX7_even_9 : decode cX7_even 9 = .ok (.istore_n 1, 1) := by decide +kernel
theorem dX7_even_10 : decode cX7_even 10 = .ok (.iload_n 1, 1) := by decide +kernel
theorem dX7_even_11 : decode cX7_even 11 = .ok (.aload_n 0, 1) := by decide +kernel
theorem dX7_even_12 : decode cX7_even 12 = .ok (.invokevirtual 248, 3) := by decide +kernel
theorem dX7_even_15 : decode cX7_even 15 = .ok (.if_icmp .gt 27, 3) := by decide +kernel
theorem dX7_even_18 : decode cX7_even 18 = .ok (.aload_n 0, 1) := by decide +kernel
theorem dX7_even_19 : decode cX7_even 19 = .ok (.iload_n 1, 1) := by decide +kernel
theorem dX7_even_20 : decode cX7_even 20 = .ok (.invokevirtual 279, 3) := by decide +kernel
theorem dX7_even_23 : decode cX7_even 23 = .ok (.ifCond .eq 13, 3) := by decide +kernel
theorem dX7_even_26 : decode cX7_even 26 = .ok (.aload_n 0, 1) := by decide +kernel
theorem dX7_even_27 : decode cX7_even 27 = .ok (.iload_n 1, 1) := by decide +kernel
theorem dX7_even_28 : decode cX7_even 28 = .ok (.invokevirtual 270, 3) := by decide +kernel
theorem dX7_even_31 : decode cX7_even 31 = .ok (.ifCond .eq 5, 3) := by decide +kernel
theorem dX7_even_34 : decode cX7_even 34 = .ok (.iload_n 1, 1) := by decide +kernel
theorem dX7_even_35 : decode cX7_even 35 = .ok (.ireturn, 1) := by decide +kernel
theorem dX7_even_36 : decode cX7_even 36 = .ok (.iinc 1 1, 3) := by decide +kernel
theorem dX7_even_39 : decode cX7_even 39 = .ok (.goto (-29), 3) := by decide +kernel
theorem dX7_even_42 : decode cX7_even 42 = .ok (.bipush (-2), 2) := by decide +kernel
theorem dX7_even_44 : decode cX7_even 44 = .ok (.ireturn, 1) := by decide +kernel
theorem dX7_mayDig_0 : decode cX7_mayDig 0 = .ok (.aload_n 0, 1) := by decide +kernel
theorem dX7_mayDig_1 : decode cX7_mayDig 1 = .ok (.getfield 7, 3) := by decide +kernel
theorem dX7_mayDig_4 : decode cX7_mayDig 4 = .ok (.iload_n 2, 1) := by decide +kernel
theorem dX7_mayDig_5 : decode cX7_mayDig 5 = .ok (.iaload, 1) := by decide +kernel
theorem dX7_mayDig_6 : decode cX7_mayDig 6 = .ok (.ifCond .le 18, 3) := by decide +kernel
theorem dX7_mayDig_9 : decode cX7_mayDig 9 = .ok (.iload_n 1, 1) := by decide +kernel
theorem dX7_mayDig_10 : decode cX7_mayDig 10 = .ok (.aload_n 0, 1) := by decide +kernel
theorem dX7_mayDig_11 : decode cX7_mayDig 11 = .ok (.getfield 79, 3) := by decide +kernel
theorem dX7_mayDig_14 : decode cX7_mayDig 14 = .ok (.iload_n 2, 1) := by decide +kernel
theorem dX7_mayDig_15 : decode cX7_mayDig 15 = .ok (.iaload, 1) := by decide +kernel
theorem dX7_mayDig_16 : decode cX7_mayDig 16 = .ok (.iand, 1) := by decide +kernel
theorem dX7_mayDig_17 : decode cX7_mayDig 17 = .ok (.ifCond .ne 7, 3) := by decide +kernel
theorem dX7_mayDig_20 : decode cX7_mayDig 20 = .ok (.iconst 1, 1) := by decide +kernel
theorem dX7_mayDig_21 : decode cX7_mayDig 21 = .ok (.goto 4, 3) := by decide +kernel
theorem dX7_mayDig_24 : decode cX7_mayDig 24 = .ok (.iconst 0, 1) := by decide +kernel
theorem dX7_mayDig_25 : decode cX7_mayDig 25 = .ok (.ireturn, 1) := by decide +kernel
theorem dX7_greedy_0 : decode cX7_greedy 0 = .ok (.iload_n 1, 1) := by decide +kernel
theorem dX7_greedy_1 : decode cX7_greedy 1 = .ok (.iconst 0, 1) := by decide +kernel
theorem dX7_greedy_2 : decode cX7_greedy 2 = .ok (.iconst 1, 1) := by decide +kernel
theorem dX7_greedy_3 : decode cX7_greedy 3 = .ok (.invokestatic 114, 3) := by decide +kernel
theorem dX7_greedy_6 : decode cX7_greedy 6 = .ok (.ifCond .ne 5, 3) := by decide +kernel
theorem dX7_greedy_9 : decode cX7_greedy 9 = .ok (.iconst (-1), 1) := by decide +kernel
theorem dX7_greedy_10 : decode cX7_greedy 10 = .ok (.ireturn, 1) := by decide +kernel
theorem dX7_greedy_11 : decode cX7_greedy 11 = .ok (.aload_n 0, 1) := by decide +kernel
theorem dX7_greedy_12 : decode cX7_greedy 12 = .ok (.aload_n 0, 1) := by decide +kernel
theorem dX7_greedy_13 : decode cX7_greedy 13 = .ok (.invokevirtual 248, 3) := by decide +kernel
theorem dX7_greedy_16 : decode cX7_greedy 16 = .ok (.invokevirtual 261, 3) := by decide +kernel
theorem dX7_greedy_19 : decode cX7_greedy 19 = .ok (.aload_n 0, 1) := by decide +kernel
theorem dX7_greedy_20 : decode cX7_greedy 20 = .ok (.getfield 141, 3) := by decide +kernel
theorem dX7_greedy_23 : decode cX7_greedy 23 = .ok (.istore_n 2, 1) := by decide +kernel
theorem dX7_greedy_24 : decode cX7_greedy 24 = .ok (.bipush (-2), 2) := by decide +kernel
theorem dX7_greedy_26 : decode cX7_greedy 26 = .ok (.istore_n 3, 1) := by decide +kernel
theorem dX7_greedy_27 : decode cX7_greedy 27 = .ok (.iconst 0, 1) := by decide +kernel
theorem dX7_greedy_28 : decode cX7_greedy 28 = .ok (.istore 4, 2) := by decide +kernel
theorem dX7_greedy_30 : decode cX7_greedy 30 = .ok (.iload 4, 2) := by decide +kernel
theorem dX7_greedy_32 : decode cX7_greedy 32 = .ok (.aload_n 0, 1) := by decide +kernel
theorem dX7_greedy_33 : decode cX7_greedy 33 = .ok (.getfield 111, 3) := by decide +kernel
theorem dX7_greedy_36 : decode cX7_greedy 36 = .ok (.if_icmp .ge 51, 3) := by decide +kernel
theorem dX7_greedy_39 : decode cX7_greedy 39 = .ok (.iload_n 2, 1) := by decide +kernel
theorem dX7_greedy_40 : decode cX7_greedy 40 = .ok (.aload_n 0, 1) := by decide +kernel
theorem dX7_greedy_41 : decode cX7_greedy 41 = .ok (.getfield 76, 3) := by decide +kernel
theorem dX7_greedy_44 : decode cX7_greedy 44 = .ok (.iload 4, 2) := by decide +kernel
theorem dX7_greedy_46 : decode cX7_greedy 46 = .ok (.iaload, 1) := by decide +kernel
theorem dX7_greedy_47 : decode cX7_greedy 47 = .ok (.iand, 1) := by decide +kernel
theorem dX7_greedy_48 : decode cX7_greedy 48 = .ok (.ifCond .eq 6, 3) := by decide +kernel
theorem dX7_greedy_51 : decode cX7_greedy 51 = .ok (.goto 30, 3) := by decide +kernel
theorem dX7_greedy_54 : decode cX7_greedy 54 = .ok (.aload_n 0, 1) := by decide +kernel
theorem dX7_greedy_55 : decode cX7_greedy 55 = .ok (.iload_n 2, 1) := by decide +kernel
theorem dX7_greedy_56 : decode cX7_greedy 56 = .ok (.iload 4, 2) := by decide +kernel
theorem dX7_greedy_58 : decode cX7_greedy 58 = .ok (.invokevirtual 282, 3) := by decide +kernel
theorem dX7_greedy_61 : decode cX7_greedy 61 = .ok (.ifCond .eq 13, 3) := by decide +kernel
theorem dX7_greedy_64 : decode cX7_greedy 64 = .ok (.iload_n 2, 1) := by decide +kernel
theorem dX7_greedy_65 : decode cX7_greedy 65 = .ok (.iconst 1, 1) := by decide +kernel
theorem dX7_greedy_66 : decode cX7_greedy 66 = .ok (.iload 4, 2) := by decide +kernel
theorem dX7_greedy_68 : decode cX7_greedy 68 = .ok (.ishl, 1) := by decide +kernel
theorem dX7_greedy_69 : decode cX7_greedy 69 = .ok (.ior, 1) := by decide +kernel
theorem dX7_greedy_70 : decode cX7_greedy 70 = .ok (.istore_n 2, 1) := by decide +kernel
theorem dX7_greedy_71 : decode cX7_greedy 71 = .ok (.goto 10, 3) := by decide +kernel
theorem dX7_greedy_74 : decode cX7_greedy 74 = .ok (.iload_n 3, 1) := by decide +kernel
theorem dX7_greedy_75 : decode cX7_greedy 75 = .ok (.ifCond .ge 6, 3) := by decide +kernel
theorem dX7_greedy_78 : decode cX7_greedy 78 = .ok (.iload 4, 2) := by decide +kernel
theorem dX7_greedy_80 : decode cX7_greedy 80 = .ok (.istore_n 3, 1) := by decide +kernel
theorem dX7_greedy_81 : decode cX7_greedy 81 = .ok (.iinc 4 1, 3) := by decide +kernel
theorem dX7_greedy_84 : decode cX7_greedy 84 = .ok (.goto (-54), 3) := by decide +kernel
theorem dX7_greedy_87 : decode cX7_greedy 87 = .ok (.iload_n 1, 1) := by decide +kernel
theorem dX7_greedy_88 : decode cX7_greedy 88 = .ok (.ifCond .ne 7, 3) := by decide +kernel
theorem dX7_greedy_91 : decode cX7_greedy 91 = .ok (.iload_n 2, 1) := by decide +kernel
theorem dX7_greedy_92 : decode cX7_greedy 92 = .ok (.goto 4, 3) := by decide +kernel
theorem dX7_greedy_95 : decode cX7_greedy 95 = .ok (.iload_n 3, 1) := by decide +kernel
theorem dX7_greedy_96 : decode cX7_greedy 96 = .ok (.ireturn, 1) := by decide +kernel
theorem dX7_dry_0 : decode cX7_dry 0 = .ok (.aload_n 0, 1) := by decide +kernel
theorem dX7_dry_1 : decode cX7_dry 1 = .ok (.iload_n 1, 1) := by decide +kernel
theorem dX7_dry_2 : decode cX7_dry 2 = .ok (.invokevirtual 138, 3) := by decide +kernel
theorem dX7_dry_5 : decode cX7_dry 5 = .ok (.ifCond .eq 28, 3) := by decide +kernel
theorem dX7_dry_8 : decode cX7_dry 8 = .ok (.aload_n 0, 1) := by decide +kernel
theorem dX7_dry_9 : decode cX7_dry 9 = .ok (.iload_n 2, 1) := by decide +kernel
theorem dX7_dry_10 : decode cX7_dry 10 = .ok (.invokevirtual 118, 3) := by decide +kernel
theorem dX7_dry_13 : decode cX7_dry 13 = .ok (.ifCond .eq 20, 3) := by decide +kernel
theorem dX7_dry_16 : decode cX7_dry 16 = .ok (.iload_n 1, 1) := by decide +kernel
theorem dX7_dry_17 : decode cX7_dry 17 = .ok (.iload_n 2, 1) := by decide +kernel
theorem dX7_dry_18 : decode cX7_dry 18 = .ok (.ishr, 1) := by decide +kernel
theorem dX7_dry_19 : decode cX7_dry 19 = .ok (.iconst 1, 1) := by decide +kernel
theorem dX7_dry_20 : decode cX7_dry 20 = .ok (.iand, 1) := by decide +kernel
theorem dX7_dry_21 : decode cX7_dry 21 = .ok (.ifCond .eq 12, 3) := by decide +kernel
theorem dX7_dry_24 : decode cX7_dry 24 = .ok (.iload_n 3, 1) := by decide +kernel
theorem dX7_dry_25 : decode cX7_dry 25 = .ok (.iconst 0, 1) := by decide +kernel
theorem dX7_dry_26 : decode cX7_dry 26 = .ok (.iconst 1, 1) := by decide +kernel
theorem dX7_dry_27 : decode cX7_dry 27 = .ok (.invokestatic 114, 3) := by decide +kernel
theorem dX7_dry_30 : decode cX7_dry 30 = .ok (.ifCond .ne 5, 3) := by decide +kernel
theorem dX7_dry_33 : decode cX7_dry 33 = .ok (.iconst (-1), 1) := by decide +kernel
theorem dX7_dry_34 : decode cX7_dry 34 = .ok (.ireturn, 1) := by decide +kernel
theorem dX7_dry_35 : decode cX7_dry 35 = .ok (.aload_n 0, 1) := by decide +kernel
theorem dX7_dry_36 : decode cX7_dry 36 = .ok (.aload_n 0, 1) := by decide +kernel
theorem dX7_dry_37 : decode cX7_dry 37 = .ok (.invokevirtual 248, 3) := by decide +kernel
theorem dX7_dry_40 : decode cX7_dry 40 = .ok (.invokevirtual 261, 3) := by decide +kernel
theorem dX7_dry_43 : decode cX7_dry 43 = .ok (.aload_n 0, 1) := by decide +kernel
theorem dX7_dry_44 : decode cX7_dry 44 = .ok (.iload_n 1, 1) := by decide +kernel
theorem dX7_dry_45 : decode cX7_dry 45 = .ok (.invokevirtual 270, 3) := by decide +kernel
theorem dX7_dry_48 : decode cX7_dry 48 = .ok (.ifCond .ne 6, 3) := by decide +kernel
theorem dX7_dry_51 : decode cX7_dry 51 = .ok (.bipush (-5), 2) := by decide +kernel
theorem dX7_dry_53 : decode cX7_dry 53 = .ok (.ireturn, 1) := by decide +kernel
theorem dX7_dry_54 : decode cX7_dry 54 = .ok (.aload_n 0, 1) := by decide +kernel
theorem dX7_dry_55 : decode cX7_dry 55 = .ok (.getfield 141, 3) := by decide +kernel
theorem dX7_dry_58 : decode cX7_dry 58 = .ok (.istore 4, 2) := by decide +kernel
theorem dX7_dry_60 : decode cX7_dry 60 = .ok (.aload_n 0, 1) := by decide +kernel
theorem dX7_dry_61 : decode cX7_dry 61 = .ok (.dup, 1) := by decide +kernel
theorem dX7_dry_62 : decode cX7_dry 62 = .ok (.getfield 141, 3) := by decide +kernel
theorem dX7_dry_65 : decode cX7_dry 65 = .ok (.iconst 1, 1) := by decide +kernel
theorem dX7_dry_66 : decode cX7_dry 66 = .ok (.iload_n 2, 1) := by decide +kernel
theorem dX7_dry_67 : decode cX7_dry 67 = .ok (.ishl, 1) := by decide +kernel
theorem dX7_dry_68 : decode cX7_dry 68 = .ok (.iconst (-1), 1) := by decide +kernel
theorem dX7_dry_69 : decode cX7_dry 69 = .ok (.ixor, 1) := by decide +kernel
theorem dX7_dry_70 : decode cX7_dry 70 = .ok (.iand, 1) := by decide +kernel
theorem dX7_dry_71 : decode cX7_dry 71 = .ok (.putfield 141, 3) := by decide +kernel
theorem dX7_dry_74 : decode cX7_dry 74 = .ok (.aload_n 0, 1) := by decide +kernel
theorem dX7_dry_75 : decode cX7_dry 75 = .ok (.iconst 1, 1) := by decide +kernel
theorem dX7_dry_76 : decode cX7_dry 76 = .ok (.iload_n 2, 1) := by decide +kernel
theorem dX7_dry_77 : decode cX7_dry 77 = .ok (.ishl, 1) := by decide +kernel
theorem dX7_dry_78 : decode cX7_dry 78 = .ok (.putfield 251, 3) := by decide +kernel
theorem dX7_dry_81 : decode cX7_dry 81 = .ok (.aload_n 0, 1) := by decide +kernel
theorem dX7_dry_82 : decode cX7_dry 82 = .ok (.aload_n 0, 1) := by decide +kernel
theorem dX7_dry_83 : decode cX7_dry 83 = .ok (.invokevirtual 248, 3) := by decide +kernel
theorem dX7_dry_86 : decode cX7_dry 86 = .ok (.invokevirtual 261, 3) := by decide +kernel
theorem dX7_dry_89 : decode cX7_dry 89 = .ok (.bipush (-2), 2) := by decide +kernel
theorem dX7_dry_91 : decode cX7_dry 91 = .ok (.istore 5, 2) := by decide +kernel
theorem dX7_dry_93 : decode cX7_dry 93 = .ok (.iconst 0, 1) := by decide +kernel
theorem dX7_dry_94 : decode cX7_dry 94 = .ok (.istore 6, 2) := by decide +kernel
theorem dX7_dry_96 : decode cX7_dry 96 = .ok (.iconst 0, 1) := by decide +kernel
theorem dX7_dry_97 : decode cX7_dry 97 = .ok (.istore 7, 2) := by decide +kernel
theorem dX7_dry_99 : decode cX7_dry 99 = .ok (.iload 7, 2) := by decide +kernel
theorem dX7_dry_101 : decode cX7_dry 101 = .ok (.aload_n 0, 1) := by decide +kernel
theorem dX7_dry_102 : decode cX7_dry 102 = .ok (.invokevirtual 248, 3) := by decide +kernel
theorem dX7_dry_105 : decode cX7_dry 105 = .ok (.if_icmp .gt 56, 3) := by decide +kernel
theorem dX7_dry_108 : decode cX7_dry 108 = .ok (.iload 7, 2) := by decide +kernel
theorem dX7_dry_110 : decode cX7_dry 110 = .ok (.iload_n 1, 1) := by decide +kernel
theorem dX7_dry_111 : decode cX7_dry 111 = .ok (.ixor, 1) := by decide +kernel
theorem dX7_dry_112 : decode cX7_dry 112 = .ok (.iconst 1, 1) := by decide +kernel
theorem dX7_dry_113 : decode cX7_dry 113 = .ok (.iload_n 2, 1) := by decide +kernel
theorem dX7_dry_114 : decode cX7_dry 114 = .ok (.ishl, 1) := by decide +kernel
theorem dX7_dry_115 : decode cX7_dry 115 = .ok (.iconst (-1), 1) := by decide +kernel
theorem dX7_dry_116 : decode cX7_dry 116 = .ok (.ixor, 1) := by decide +kernel
theorem dX7_dry_117 : decode cX7_dry 117 = .ok (.iand, 1) := by decide +kernel
theorem dX7_dry_118 : decode cX7_dry 118 = .ok (.invokestatic 264, 3) := by decide +kernel
theorem dX7_dry_121 : decode cX7_dry 121 = .ok (.istore 8, 2) := by decide +kernel
theorem dX7_dry_123 : decode cX7_dry 123 = .ok (.iload 5, 2) := by decide +kernel
theorem dX7_dry_125 : decode cX7_dry 125 = .ok (.ifCond .lt 10, 3) := by decide +kernel
theorem dX7_dry_128 : decode cX7_dry 128 = .ok (.iload 8, 2) := by decide +kernel
theorem dX7_dry_130 : decode cX7_dry 130 = .ok (.iload 6, 2) := by decide +kernel
theorem dX7_dry_132 : decode cX7_dry 132 = .ok (.if_icmp .ge 23, 3) := by decide +kernel
theorem dX7_dry_135 : decode cX7_dry 135 = .ok (.aload_n 0, 1) := by decide +kernel
theorem dX7_dry_136 : decode cX7_dry 136 = .ok (.iload 7, 2) := by decide +kernel
theorem dX7_dry_138 : decode cX7_dry 138 = .ok (.invokevirtual 270, 3) := by decide +kernel
theorem dX7_dry_141 : decode cX7_dry 141 = .ok (.ifCond .ne 6, 3) := by decide +kernel
theorem dX7_dry_144 : decode cX7_dry 144 = .ok (.goto 11, 3) := by decide +kernel
theorem dX7_dry_147 : decode cX7_dry 147 = .ok (.iload 7, 2) := by decide +kernel
theorem dX7_dry_149 : decode cX7_dry 149 = .ok (.istore 5, 2) := by decide +kernel
theorem dX7_dry_151 : decode cX7_dry 151 = .ok (.iload 8, 2) := by decide +kernel
theorem dX7_dry_153 : decode cX7_dry 153 = .ok (.istore 6, 2) := by decide +kernel
theorem dX7_dry_155 : decode cX7_dry 155 = .ok (.iinc 7 1, 3) := by decide +kernel
theorem dX7_dry_158 : decode cX7_dry 158 = .ok (.goto (-59), 3) := by decide +kernel
theorem dX7_dry_161 : decode cX7_dry 161 = .ok (.aload_n 0, 1) := by decide +kernel
theorem dX7_dry_162 : decode cX7_dry 162 = .ok (.iload 4, 2) := by decide +kernel
theorem dX7_dry_164 : decode cX7_dry 164 = .ok (.putfield 141, 3) := by decide +kernel
theorem dX7_dry_167 : decode cX7_dry 167 = .ok (.aload_n 0, 1) := by decide +kernel
theorem dX7_dry_168 : decode cX7_dry 168 = .ok (.iconst 0, 1) := by decide +kernel
theorem dX7_dry_169 : decode cX7_dry 169 = .ok (.putfield 251, 3) := by decide +kernel
theorem dX7_dry_172 : decode cX7_dry 172 = .ok (.iload 5, 2) := by decide +kernel
theorem dX7_dry_174 : decode cX7_dry 174 = .ok (.ifCond .lt 7, 3) := by decide +kernel
theorem dX7_dry_177 : decode cX7_dry 177 = .ok (.iload_n 3, 1) := by decide +kernel
theorem dX7_dry_178 : decode cX7_dry 178 = .ok (.ifCond .ne 8, 3) := by decide +kernel
theorem dX7_dry_181 : decode cX7_dry 181 = .ok (.iload 5, 2) := by decide +kernel
theorem dX7_dry_183 : decode cX7_dry 183 = .ok (.goto 5, 3) := by decide +kernel
theorem dX7_dry_186 : decode cX7_dry 186 = .ok (.iload 6, 2) := by decide +kernel
theorem dX7_dry_188 : decode cX7_dry 188 = .ok (.ireturn, 1) := by decide +kernel
theorem dX7_thereIn_0 : decode cX7_thereIn 0 = .ok (.iconst 0, 1) := by decide +kernel
theorem dX7_thereIn_1 : decode cX7_thereIn 1 = .ok (.istore_n 2, 1) := by decide +kernel
theorem dX7_thereIn_2 : decode cX7_thereIn 2 = .ok (.iconst 0, 1) := by decide +kernel
theorem dX7_thereIn_3 : decode cX7_thereIn 3 = .ok (.istore_n 3, 1) := by decide +kernel
theorem dX7_thereIn_4 : decode cX7_thereIn 4 = .ok (.iload_n 3, 1) := by decide +kernel
theorem dX7_thereIn_5 : decode cX7_thereIn 5 = .ok (.aload_n 0, 1) := by decide +kernel
theorem dX7_thereIn_6 : decode cX7_thereIn 6 = .ok (.getfield 111, 3) := by decide +kernel
theorem dX7_thereIn_9 : decode cX7_thereIn 9 = .ok (.if_icmp .ge 25, 3) := by decide +kernel
theorem dX7_thereIn_12 : decode cX7_thereIn 12 = .ok (.aload_n 0, 1) := by decide +kernel
theorem dX7_thereIn_13 : decode cX7_thereIn 13 = .ok (.getfield 13, 3) := by decide +kernel
theorem dX7_thereIn_16 : decode cX7_thereIn 16 = .ok (.iload_n 3, 1) := by decide +kernel
theorem dX7_thereIn_17 : decode cX7_thereIn 17 = .ok (.iaload, 1) := by decide +kernel
theorem dX7_thereIn_18 : decode cX7_thereIn 18 = .ok (.iload_n 1, 1) := by decide +kernel
theorem dX7_thereIn_19 : decode cX7_thereIn 19 = .ok (.if_icmp .gt 9, 3) := by decide +kernel
theorem dX7_thereIn_22 : decode cX7_thereIn 22 = .ok (.iload_n 2, 1) := by decide +kernel
theorem dX7_thereIn_23 : decode cX7_thereIn 23 = .ok (.iconst 1, 1) := by decide +kernel
theorem dX7_thereIn_24 : decode cX7_thereIn 24 = .ok (.iload_n 3, 1) := by decide +kernel
theorem dX7_thereIn_25 : decode cX7_thereIn 25 = .ok (.ishl, 1) := by decide +kernel
theorem dX7_thereIn_26 : decode cX7_thereIn 26 = .ok (.ior, 1) := by decide +kernel
theorem dX7_thereIn_27 : decode cX7_thereIn 27 = .ok (.istore_n 2, 1) := by decide +kernel
theorem dX7_thereIn_28 : decode cX7_thereIn 28 = .ok (.iinc 3 1, 3) := by decide +kernel
theorem dX7_thereIn_31 : decode cX7_thereIn 31 = .ok (.goto (-27), 3) := by decide +kernel
theorem dX7_thereIn_34 : decode cX7_thereIn 34 = .ok (.iload_n 2, 1) := by decide +kernel
theorem dX7_thereIn_35 : decode cX7_thereIn 35 = .ok (.ireturn, 1) := by decide +kernel
theorem dX7_comesFrom_0 : decode cX7_comesFrom 0 = .ok (.iload_n 1, 1) := by decide +kernel
theorem dX7_comesFrom_1 : decode cX7_comesFrom 1 = .ok (.istore_n 2, 1) := by decide +kernel
theorem dX7_comesFrom_2 : decode cX7_comesFrom 2 = .ok (.iload_n 2, 1) := by decide +kernel
theorem dX7_comesFrom_3 : decode cX7_comesFrom 3 = .ok (.ifCond .le 23, 3) := by decide +kernel
theorem dX7_comesFrom_6 : decode cX7_comesFrom 6 = .ok (.aload_n 0, 1) := by decide +kernel
theorem dX7_comesFrom_7 : decode cX7_comesFrom 7 = .ok (.getfield 86, 3) := by decide +kernel
theorem dX7_comesFrom_10 : decode cX7_comesFrom 10 = .ok (.iload_n 2, 1) := by decide +kernel
theorem dX7_comesFrom_11 : decode cX7_comesFrom 11 = .ok (.baload, 1) := by decide +kernel
theorem dX7_comesFrom_12 : decode cX7_comesFrom 12 = .ok (.ifCond .eq 5, 3) := by decide +kernel
theorem dX7_comesFrom_15 : decode cX7_comesFrom 15 = .ok (.iconst 1, 1) := by decide +kernel
theorem dX7_comesFrom_16 : decode cX7_comesFrom 16 = .ok (.ireturn, 1) := by decide +kernel
theorem dX7_comesFrom_17 : decode cX7_comesFrom 17 = .ok (.iload_n 2, 1) := by decide +kernel
theorem dX7_comesFrom_18 : decode cX7_comesFrom 18 = .ok (.iconst 1, 1) := by decide +kernel
theorem dX7_comesFrom_19 : decode cX7_comesFrom 19 = .ok (.isub, 1) := by decide +kernel
theorem dX7_comesFrom_20 : decode cX7_comesFrom 20 = .ok (.iload_n 1, 1) := by decide +kernel
theorem dX7_comesFrom_21 : decode cX7_comesFrom 21 = .ok (.iand, 1) := by decide +kernel
theorem dX7_comesFrom_22 : decode cX7_comesFrom 22 = .ok (.istore_n 2, 1) := by decide +kernel
theorem dX7_comesFrom_23 : decode cX7_comesFrom 23 = .ok (.goto (-21), 3) := by decide +kernel
theorem dX7_comesFrom_26 : decode cX7_comesFrom 26 = .ok (.aload_n 0, 1) := by decide +kernel
theorem dX7_comesFrom_27 : decode cX7_comesFrom 27 = .ok (.getfield 86, 3) := by decide +kernel
theorem dX7_comesFrom_30 : decode cX7_comesFrom 30 = .ok (.iconst 0, 1) := by decide +kernel
theorem dX7_comesFrom_31 : decode cX7_comesFrom 31 = .ok (.baload, 1) := by decide +kernel
theorem dX7_comesFrom_32 : decode cX7_comesFrom 32 = .ok (.ireturn, 1) := by decide +kernel
theorem dX7_grow_0 : decode cX7_grow 0 = .ok (.aload_n 0, 1) := by decide +kernel
theorem dX7_grow_1 : decode cX7_grow 1 = .ok (.getfield 111, 3) := by decide +kernel
theorem dX7_grow_4 : decode cX7_grow 4 = .ok (.bipush 9, 2) := by decide +kernel
theorem dX7_grow_6 : decode cX7_grow 6 = .ok (.if_icmp .le 6, 3) := by decide +kernel
theorem dX7_grow_9 : decode cX7_grow 9 = .ok (.bipush (-5), 2) := by decide +kernel
theorem dX7_grow_11 : decode cX7_grow 11 = .ok (.ireturn, 1) := by decide +kernel
theorem dX7_grow_12 : decode cX7_grow 12 = .ok (.iconst 0, 1) := by decide +kernel
theorem dX7_grow_13 : decode cX7_grow 13 = .ok (.istore_n 1, 1) := by decide +kernel
theorem dX7_grow_14 : decode cX7_grow 14 = .ok (.iload_n 1, 1) := by decide +kernel
theorem dX7_grow_15 : decode cX7_grow 15 = .ok (.sipush 512, 3) := by decide +kernel
theorem dX7_grow_18 : decode cX7_grow 18 = .ok (.if_icmp .ge 24, 3) := by decide +kernel
theorem dX7_grow_21 : decode cX7_grow 21 = .ok (.aload_n 0, 1) := by decide +kernel
theorem dX7_grow_22 : decode cX7_grow 22 = .ok (.getfield 82, 3) := by decide +kernel
theorem dX7_grow_25 : decode cX7_grow 25 = .ok (.iload_n 1, 1) := by decide +kernel
theorem dX7_grow_26 : decode cX7_grow 26 = .ok (.iload_n 1, 1) := by decide +kernel
theorem dX7_grow_27 : decode cX7_grow 27 = .ok (.ifCond .ne 7, 3) := by decide +kernel
theorem dX7_grow_30 : decode cX7_grow 30 = .ok (.iconst 1, 1) := by decide +kernel
theorem dX7_grow_31 : decode cX7_grow 31 = .ok (.goto 4, 3) := by decide +kernel
theorem dX7_grow_34 : decode cX7_grow 34 = .ok (.iconst 0, 1) := by decide +kernel
theorem dX7_grow_35 : decode cX7_grow 35 = .ok (.bastore, 1) := by decide +kernel
theorem dX7_grow_36 : decode cX7_grow 36 = .ok (.iinc 1 1, 3) := by decide +kernel
theorem dX7_grow_39 : decode cX7_grow 39 = .ok (.goto (-25), 3) := by decide +kernel
theorem dX7_grow_42 : decode cX7_grow 42 = .ok (.iconst 0, 1) := by decide +kernel
theorem dX7_grow_43 : decode cX7_grow 43 = .ok (.istore_n 1, 1) := by decide +kernel
theorem dX7_grow_44 : decode cX7_grow 44 = .ok (.iload_n 1, 1) := by decide +kernel
theorem dX7_grow_45 : decode cX7_grow 45 = .ok (.bipush 9, 2) := by decide +kernel
theorem dX7_grow_47 : decode cX7_grow 47 = .ok (.if_icmp .gt 128, 3) := by decide +kernel
theorem dX7_grow_50 : decode cX7_grow 50 = .ok (.aload_n 0, 1) := by decide +kernel
theorem dX7_grow_51 : decode cX7_grow 51 = .ok (.iload_n 1, 1) := by decide +kernel
theorem dX7_grow_52 : decode cX7_grow 52 = .ok (.invokevirtual 285, 3) := by decide +kernel
theorem dX7_grow_55 : decode cX7_grow 55 = .ok (.istore_n 2, 1) := by decide +kernel
theorem dX7_grow_56 : decode cX7_grow 56 = .ok (.aload_n 0, 1) := by decide +kernel
theorem dX7_grow_57 : decode cX7_grow 57 = .ok (.iload_n 2, 1) := by decide +kernel
theorem dX7_grow_58 : decode cX7_grow 58 = .ok (.invokevirtual 261, 3) := by decide +kernel
theorem dX7_grow_61 : decode cX7_grow 61 = .ok (.iconst 0, 1) := by decide +kernel
theorem dX7_grow_62 : decode cX7_grow 62 = .ok (.istore_n 3, 1) := by decide +kernel
theorem dX7_grow_63 : decode cX7_grow 63 = .ok (.iload_n 3, 1) := by decide +kernel
theorem dX7_grow_64 : decode cX7_grow 64 = .ok (.sipush 512, 3) := by decide +kernel
theorem dX7_grow_67 : decode cX7_grow 67 = .ok (.if_icmp .ge 21, 3) := by decide +kernel
theorem dX7_grow_70 : decode cX7_grow 70 = .ok (.aload_n 0, 1) := by decide +kernel
theorem dX7_grow_71 : decode cX7_grow 71 = .ok (.getfield 86, 3) := by decide +kernel
theorem dX7_grow_74 : decode cX7_grow 74 = .ok (.iload_n 3, 1) := by decide +kernel
theorem dX7_grow_75 : decode cX7_grow 75 = .ok (.aload_n 0, 1) := by decide +kernel
theorem dX7_grow_76 : decode cX7_grow 76 = .ok (.getfield 82, 3) := by decide +kernel
theorem dX7_grow_79 : decode cX7_grow 79 = .ok (.iload_n 3, 1) := by decide +kernel
theorem dX7_grow_80 : decode cX7_grow 80 = .ok (.baload, 1) := by decide +kernel
theorem dX7_grow_81 : decode cX7_grow 81 = .ok (.bastore, 1) := by decide +kernel
theorem dX7_grow_82 : decode cX7_grow 82 = .ok (.iinc 3 1, 3) := by decide +kernel
theorem dX7_grow_85 : decode cX7_grow 85 = .ok (.goto (-22), 3) := by decide +kernel
theorem dX7_grow_88 : decode cX7_grow 88 = .ok (.iconst 0, 1) := by decide +kernel
theorem dX7_grow_89 : decode cX7_grow 89 = .ok (.istore_n 3, 1) := by decide +kernel
theorem dX7_grow_90 : decode cX7_grow 90 = .ok (.iload_n 3, 1) := by decide +kernel
theorem dX7_grow_91 : decode cX7_grow 91 = .ok (.aload_n 0, 1) := by decide +kernel
theorem dX7_grow_92 : decode cX7_grow 92 = .ok (.invokevirtual 248, 3) := by decide +kernel
theorem dX7_grow_95 : decode cX7_grow 95 = .ok (.if_icmp .gt 74, 3) := by decide +kernel
theorem dX7_grow_98 : decode cX7_grow 98 = .ok (.aload_n 0, 1) := by decide +kernel
theorem dX7_grow_99 : decode cX7_grow 99 = .ok (.getfield 82, 3) := by decide +kernel
theorem dX7_grow_102 : decode cX7_grow 102 = .ok (.iload_n 3, 1) := by decide +kernel
theorem dX7_grow_103 : decode cX7_grow 103 = .ok (.iload_n 3, 1) := by decide +kernel
theorem dX7_grow_104 : decode cX7_grow 104 = .ok (.iload_n 2, 1) := by decide +kernel
theorem dX7_grow_105 : decode cX7_grow 105 = .ok (.iconst (-1), 1) := by decide +kernel
theorem dX7_grow_106 : decode cX7_grow 106 = .ok (.ixor, 1) := by decide +kernel
theorem dX7_grow_107 : decode cX7_grow 107 = .ok (.iand, 1) := by decide +kernel
theorem dX7_grow_108 : decode cX7_grow 108 = .ok (.ifCond .ne 53, 3) := by decide +kernel
theorem dX7_grow_111 : decode cX7_grow 111 = .ok (.aload_n 0, 1) := by decide +kernel
theorem dX7_grow_112 : decode cX7_grow 112 = .ok (.getfield 141, 3) := by decide +kernel
theorem dX7_grow_115 : decode cX7_grow 115 = .ok (.iload_n 2, 1) := by decide +kernel
theorem dX7_grow_116 : decode cX7_grow 116 = .ok (.iand, 1) := by decide +kernel
theorem dX7_grow_117 : decode cX7_grow 117 = .ok (.iload_n 3, 1) := by decide +kernel
theorem dX7_grow_118 : decode cX7_grow 118 = .ok (.iconst (-1), 1) := by decide +kernel
theorem dX7_grow_119 : decode cX7_grow 119 = .ok (.ixor, 1) := by decide +kernel
theorem dX7_grow_120 : decode cX7_grow 120 = .ok (.iand, 1) := by decide +kernel
theorem dX7_grow_121 : decode cX7_grow 121 = .ok (.ifCond .ne 40, 3) := by decide +kernel
theorem dX7_grow_124 : decode cX7_grow 124 = .ok (.iload_n 3, 1) := by decide +kernel
theorem dX7_grow_125 : decode cX7_grow 125 = .ok (.aload_n 0, 1) := by decide +kernel
theorem dX7_grow_126 : decode cX7_grow 126 = .ok (.invokevirtual 254, 3) := by decide +kernel
theorem dX7_grow_129 : decode cX7_grow 129 = .ok (.iand, 1) := by decide +kernel
theorem dX7_grow_130 : decode cX7_grow 130 = .ok (.aload_n 0, 1) := by decide +kernel
theorem dX7_grow_131 : decode cX7_grow 131 = .ok (.getfield 141, 3) := by decide +kernel
theorem dX7_grow_134 : decode cX7_grow 134 = .ok (.iconst (-1), 1) := by decide +kernel
theorem dX7_grow_135 : decode cX7_grow 135 = .ok (.ixor, 1) := by decide +kernel
theorem dX7_grow_136 : decode cX7_grow 136 = .ok (.iand, 1) := by decide +kernel
theorem dX7_grow_137 : decode cX7_grow 137 = .ok (.ifCond .ne 24, 3) := by decide +kernel
theorem dX7_grow_140 : decode cX7_grow 140 = .ok (.aload_n 0, 1) := by decide +kernel
theorem dX7_grow_141 : decode cX7_grow 141 = .ok (.iload_n 3, 1) := by decide +kernel
theorem dX7_grow_142 : decode cX7_grow 142 = .ok (.iload_n 2, 1) := by decide +kernel
theorem dX7_grow_143 : decode cX7_grow 143 = .ok (.invokevirtual 257, 3) := by decide +kernel
theorem dX7_grow_146 : decode cX7_grow 146 = .ok (.ifCond .eq 15, 3) := by decide +kernel
theorem dX7_grow_149 : decode cX7_grow 149 = .ok (.aload_n 0, 1) := by decide +kernel
theorem dX7_grow_150 : decode cX7_grow 150 = .ok (.iload_n 3, 1) := by decide +kernel
theorem dX7_grow_151 : decode cX7_grow 151 = .ok (.invokevirtual 288, 3) := by decide +kernel
theorem dX7_grow_154 : decode cX7_grow 154 = .ok (.ifCond .eq 7, 3) := by decide +kernel
theorem dX7_grow_157 : decode cX7_grow 157 = .ok (.iconst 1, 1) := by decide +kernel
theorem dX7_grow_158 : decode cX7_grow 158 = .ok (.goto 4, 3) := by decide +kernel
theorem dX7_grow_161 : decode cX7_grow 161 = .ok (.iconst 0, 1) := by decide +kernel
theorem dX7_grow_162 : decode cX7_grow 162 = .ok (.bastore, 1) := by decide +kernel
theorem dX7_grow_163 : decode cX7_grow 163 = .ok (.iinc 3 1, 3) := by decide +kernel
theorem dX7_grow_166 : decode cX7_grow 166 = .ok (.goto (-76), 3) := by decide +kernel
theorem dX7_grow_169 : decode cX7_grow 169 = .ok (.iinc 1 1, 3) := by decide +kernel
theorem dX7_grow_172 : decode cX7_grow 172 = .ok (.goto (-128), 3) := by decide +kernel
theorem dX7_grow_175 : decode cX7_grow 175 = .ok (.bipush (-2), 2) := by decide +kernel
theorem dX7_grow_177 : decode cX7_grow 177 = .ok (.istore_n 1, 1) := by decide +kernel
theorem dX7_grow_178 : decode cX7_grow 178 = .ok (.iconst 0, 1) := by decide +kernel
theorem dX7_grow_179 : decode cX7_grow 179 = .ok (.istore_n 2, 1) := by decide +kernel
theorem dX7_grow_180 : decode cX7_grow 180 = .ok (.iload_n 2, 1) := by decide +kernel
theorem dX7_grow_181 : decode cX7_grow 181 = .ok (.aload_n 0, 1) := by decide +kernel
theorem dX7_grow_182 : decode cX7_grow 182 = .ok (.invokevirtual 248, 3) := by decide +kernel
theorem dX7_grow_185 : decode cX7_grow 185 = .ok (.if_icmp .gt 35, 3) := by decide +kernel
theorem dX7_grow_188 : decode cX7_grow 188 = .ok (.aload_n 0, 1) := by decide +kernel
theorem dX7_grow_189 : decode cX7_grow 189 = .ok (.getfield 82, 3) := by decide +kernel
theorem dX7_grow_192 : decode cX7_grow 192 = .ok (.iload_n 2, 1) := by decide +kernel
theorem dX7_grow_193 : decode cX7_grow 193 = .ok (.baload, 1) := by decide +kernel
theorem dX7_grow_194 : decode cX7_grow 194 = .ok (.ifCond .eq 20, 3) := by decide +kernel
theorem dX7_grow_197 : decode cX7_grow 197 = .ok (.iload_n 1, 1) := by decide +kernel
theorem dX7_grow_198 : decode cX7_grow 198 = .ok (.ifCond .lt 14, 3) := by decide +kernel
theorem dX7_grow_201 : decode cX7_grow 201 = .ok (.iload_n 2, 1) := by decide +kernel
theorem dX7_grow_202 : decode cX7_grow 202 = .ok (.invokestatic 264, 3) := by decide +kernel
theorem dX7_grow_205 : decode cX7_grow 205 = .ok (.iload_n 1, 1) := by decide +kernel
theorem dX7_grow_206 : decode cX7_grow 206 = .ok (.invokestatic 264, 3) := by decide +kernel
theorem dX7_grow_209 : decode cX7_grow 209 = .ok (.if_icmp .ge 5, 3) := by decide +kernel
theorem dX7_grow_212 : decode cX7_grow 212 = .ok (.iload_n 2, 1) := by decide +kernel
theorem dX7_grow_213 : decode cX7_grow 213 = .ok (.istore_n 1, 1) := by decide +kernel
theorem dX7_grow_214 : decode cX7_grow 214 = .ok (.iinc 2 1, 3) := by decide +kernel
theorem dX7_grow_217 : decode cX7_grow 217 = .ok (.goto (-37), 3) := by decide +kernel
theorem dX7_grow_220 : decode cX7_grow 220 = .ok (.iload_n 1, 1) := by decide +kernel
theorem dX7_grow_221 : decode cX7_grow 221 = .ok (.ireturn, 1) := by decide +kernel
theorem dX7_breaks_0 : decode cX7_breaks 0 = .ok (.iload_n 1, 1) := by decide +kernel
theorem dX7_breaks_1 : decode cX7_breaks 1 = .ok (.iconst 0, 1) := by decide +kernel
theorem dX7_breaks_2 : decode cX7_breaks 2 = .ok (.iconst 1, 1) := by decide +kernel
theorem dX7_breaks_3 : decode cX7_breaks 3 = .ok (.invokestatic 114, 3) := by decide +kernel
theorem dX7_breaks_6 : decode cX7_breaks 6 = .ok (.ifCond .ne 5, 3) := by decide +kernel
theorem dX7_breaks_9 : decode cX7_breaks 9 = .ok (.iconst (-1), 1) := by decide +kernel
theorem dX7_breaks_10 : decode cX7_breaks 10 = .ok (.ireturn, 1) := by decide +kernel
theorem dX7_breaks_11 : decode cX7_breaks 11 = .ok (.bipush (-2), 2) := by decide +kernel
theorem dX7_breaks_13 : decode cX7_breaks 13 = .ok (.istore_n 2, 1) := by decide +kernel
theorem dX7_breaks_14 : decode cX7_breaks 14 = .ok (.iconst 0, 1) := by decide +kernel
theorem dX7_breaks_15 : decode cX7_breaks 15 = .ok (.istore_n 3, 1) := by decide +kernel
theorem dX7_breaks_16 : decode cX7_breaks 16 = .ok (.iconst 0, 1) := by decide +kernel
theorem dX7_breaks_17 : decode cX7_breaks 17 = .ok (.istore 4, 2) := by decide +kernel
theorem dX7_breaks_19 : decode cX7_breaks 19 = .ok (.iload 4, 2) := by decide +kernel
theorem dX7_breaks_21 : decode cX7_breaks 21 = .ok (.aload_n 0, 1) := by decide +kernel
theorem dX7_breaks_22 : decode cX7_breaks 22 = .ok (.getfield 135, 3) := by decide +kernel
theorem dX7_breaks_25 : decode cX7_breaks 25 = .ok (.if_icmp .ge 123, 3) := by decide +kernel
theorem dX7_breaks_28 : decode cX7_breaks 28 = .ok (.aload_n 0, 1) := by decide +kernel
theorem dX7_breaks_29 : decode cX7_breaks 29 = .ok (.getfield 16, 3) := by decide +kernel
theorem dX7_breaks_32 : decode cX7_breaks 32 = .ok (.aload_n 0, 1) := by decide +kernel
theorem dX7_breaks_33 : decode cX7_breaks 33 = .ok (.getfield 122, 3) := by decide +kernel
theorem dX7_breaks_36 : decode cX7_breaks 36 = .ok (.aload_n 0, 1) := by decide +kernel
theorem dX7_breaks_37 : decode cX7_breaks 37 = .ok (.getfield 22, 3) := by decide +kernel
theorem dX7_breaks_40 : decode cX7_breaks 40 = .ok (.iload 4, 2) := by decide +kernel
theorem dX7_breaks_42 : decode cX7_breaks 42 = .ok (.iaload, 1) := by decide +kernel
theorem dX7_breaks_43 : decode cX7_breaks 43 = .ok (.iastore, 1) := by decide +kernel
theorem dX7_breaks_44 : decode cX7_breaks 44 = .ok (.aload_n 0, 1) := by decide +kernel
theorem dX7_breaks_45 : decode cX7_breaks 45 = .ok (.getfield 19, 3) := by decide +kernel
theorem dX7_breaks_48 : decode cX7_breaks 48 = .ok (.aload_n 0, 1) := by decide +kernel
theorem dX7_breaks_49 : decode cX7_breaks 49 = .ok (.getfield 122, 3) := by decide +kernel
