theorem dX7_changes_113 : decode cX7_changes 113 = .ok (.getfield 150, 3) := by decide +kernel
theorem dX7_changes_116 : decode cX7_changes 116 = .ok (.iconst 1, 1) := by decide +kernel
theorem dX7_changes_117 : decode cX7_changes 117 = .ok (.isub, 1) := by decide +kernel
theorem dX7_changes_118 : decode cX7_changes 118 = .ok (.putfield 150, 3) := by decide +kernel
theorem dX7_changes_121 : decode cX7_changes 121 = .ok (.aload_n 0, 1) := by decide +kernel
theorem dX7_changes_122 : decode cX7_changes 122 = .ok (.getfield 35, 3) := by decide +kernel
theorem dX7_changes_125 : decode cX7_changes 125 = .ok (.aload_n 0, 1) := by decide +kernel
theorem dX7_changes_126 : decode cX7_changes 126 = .ok (.getfield 150, 3) := by decide +kernel
theorem dX7_changes_129 : decode cX7_changes 129 = .ok (.iload_n 1, 1) := by decide +kernel
theorem dX7_changes_130 : decode cX7_changes 130 = .ok (.iastore, 1) := by decide +kernel
theorem dX7_changes_131 : decode cX7_changes 131 = .ok (.aload_n 0, 1) := by decide +kernel
theorem dX7_changes_132 : decode cX7_changes 132 = .ok (.getfield 38, 3) := by decide +kernel
theorem dX7_changes_135 : decode cX7_changes 135 = .ok (.aload_n 0, 1) := by decide +kernel
theorem dX7_changes_136 : decode cX7_changes 136 = .ok (.getfield 150, 3) := by decide +kernel
theorem dX7_changes_139 : decode cX7_changes 139 = .ok (.iload_n 2, 1) := by decide +kernel
theorem dX7_changes_140 : decode cX7_changes 140 = .ok (.iastore, 1) := by decide +kernel
theorem dX7_changes_141 : decode cX7_changes 141 = .ok (.aload_n 0, 1) := by decide +kernel
theorem dX7_changes_142 : decode cX7_changes 142 = .ok (.getfield 41, 3) := by decide +kernel
theorem dX7_changes_145 : decode cX7_changes 145 = .ok (.aload_n 0, 1) := by decide +kernel
theorem dX7_changes_146 : decode cX7_changes 146 = .ok (.getfield 150, 3) := by decide +kernel
theorem dX7_changes_149 : decode cX7_changes 149 = .ok (.iload 4, 2) := by decide +kernel
theorem dX7_changes_151 : decode cX7_changes 151 = .ok (.iastore, 1) := by decide +kernel
theorem dX7_changes_152 : decode cX7_changes 152 = .ok (.aload_n 0, 1) := by decide +kernel
theorem dX7_changes_153 : decode cX7_changes 153 = .ok (.getfield 44, 3) := by decide +kernel
theorem dX7_changes_156 : decode cX7_changes 156 = .ok (.aload_n 0, 1) := by decide +kernel
theorem dX7_changes_157 : decode cX7_changes 157 = .ok (.getfield 150, 3) := by decide +kernel
theorem dX7_changes_160 : decode cX7_changes 160 = .ok (.iload_n 3, 1) := by decide +kernel
theorem dX7_changes_161 : decode cX7_changes 161 = .ok (.iastore, 1) := by decide +kernel
theorem dX7_changes_162 : decode cX7_changes 162 = .ok (.aload_n 0, 1) := by decide +kernel
theorem dX7_changes_163 : decode cX7_changes 163 = .ok (.dup, 1) := by decide +kernel
theorem dX7_changes_164 : decode cX7_changes 164 = .ok (.getfield 150, 3) := by decide +kernel
theorem dX7_changes_167 : decode cX7_changes 167 = .ok (.iconst 1, 1) := by decide +kernel
theorem dX7_changes_168 : decode cX7_changes 168 = .ok (.iadd, 1) := by decide +kernel
theorem dX7_changes_169 : decode cX7_changes 169 = .ok (.putfield 150, 3) := by decide +kernel
theorem dX7_changes_172 : decode cX7_changes 172 = .ok (.aload_n 0, 1) := by decide +kernel
theorem dX7_changes_173 : decode cX7_changes 173 = .ok (.iload_n 1, 1) := by decide +kernel
theorem dX7_changes_174 : decode cX7_changes 174 = .ok (.iload_n 2, 1) := by decide +kernel
theorem dX7_changes_175 : decode cX7_changes 175 = .ok (.iload_n 3, 1) := by decide +kernel
theorem dX7_changes_176 : decode cX7_changes 176 = .ok (.invokevirtual 153, 3) := by decide +kernel
theorem dX7_changes_179 : decode cX7_changes 179 = .ok (.iload 4, 2) := by decide +kernel
theorem dX7_changes_181 : decode cX7_changes 181 = .ok (.ireturn, 1) := by decide +kernel
theorem dX7_undo_0 : decode cX7_undo 0 = .ok (.aload_n 0, 1) := by decide +kernel
theorem dX7_undo_1 : decode cX7_undo 1 = .ok (.getfield 150, 3) := by decide +kernel
theorem dX7_undo_4 : decode cX7_undo 4 = .ok (.ifCond .ne 6, 3) := by decide +kernel
theorem dX7_undo_7 : decode cX7_undo 7 = .ok (.bipush (-5), 2) := by decide +kernel
theorem dX7_undo_9 : decode cX7_undo 9 = .ok (.ireturn, 1) := by decide +kernel
theorem dX7_undo_10 : decode cX7_undo 10 = .ok (.aload_n 0, 1) := by decide +kernel
theorem dX7_undo_11 : decode cX7_undo 11 = .ok (.dup, 1) := by decide +kernel
theorem dX7_undo_12 : decode cX7_undo 12 = .ok (.getfield 150, 3) := by decide +kernel
theorem dX7_undo_15 : decode cX7_undo 15 = .ok (.iconst 1, 1) := by decide +kernel
theorem dX7_undo_16 : decode cX7_undo 16 = .ok (.isub, 1) := by decide +kernel
theorem dX7_undo_17 : decode cX7_undo 17 = .ok (.putfield 150, 3) := by decide +kernel
theorem dX7_undo_20 : decode cX7_undo 20 = .ok (.aload_n 0, 1) := by decide +kernel
theorem dX7_undo_21 : decode cX7_undo 21 = .ok (.dup, 1) := by decide +kernel
theorem dX7_undo_22 : decode cX7_undo 22 = .ok (.getfield 147, 3) := by decide +kernel
theorem dX7_undo_25 : decode cX7_undo 25 = .ok (.iconst 1, 1) := by decide +kernel
theorem dX7_undo_26 : decode cX7_undo 26 = .ok (.iadd, 1) := by decide +kernel
theorem dX7_undo_27 : decode cX7_undo 27 = .ok (.putfield 147, 3) := by decide +kernel
theorem dX7_undo_30 : decode cX7_undo 30 = .ok (.aload_n 0, 1) := by decide +kernel
theorem dX7_undo_31 : decode cX7_undo 31 = .ok (.aload_n 0, 1) := by decide +kernel
theorem dX7_undo_32 : decode cX7_undo 32 = .ok (.getfield 35, 3) := by decide +kernel
theorem dX7_undo_35 : decode cX7_undo 35 = .ok (.aload_n 0, 1) := by decide +kernel
theorem dX7_undo_36 : decode cX7_undo 36 = .ok (.getfield 150, 3) := by decide +kernel
theorem dX7_undo_39 : decode cX7_undo 39 = .ok (.iaload, 1) := by decide +kernel
theorem dX7_undo_40 : decode cX7_undo 40 = .ok (.aload_n 0, 1) := by decide +kernel
theorem dX7_undo_41 : decode cX7_undo 41 = .ok (.getfield 38, 3) := by decide +kernel
theorem dX7_undo_44 : decode cX7_undo 44 = .ok (.aload_n 0, 1) := by decide +kernel
theorem dX7_undo_45 : decode cX7_undo 45 = .ok (.getfield 150, 3) := by decide +kernel
theorem dX7_undo_48 : decode cX7_undo 48 = .ok (.iaload, 1) := by decide +kernel
theorem dX7_undo_49 : decode cX7_undo 49 = .ok (.aload_n 0, 1) := by decide +kernel
theorem dX7_undo_50 : decode cX7_undo 50 = .ok (.getfield 41, 3) := by decide +kernel
theorem dX7_undo_53 : decode cX7_undo 53 = .ok (.aload_n 0, 1) := by decide +kernel
theorem dX7_undo_54 : decode cX7_undo 54 = .ok (.getfield 150, 3) := by decide +kernel
theorem dX7_undo_57 : decode cX7_undo 57 = .ok (.iaload, 1) := by decide +kernel
theorem dX7_undo_58 : decode cX7_undo 58 = .ok (.invokevirtual 153, 3) := by decide +kernel
theorem dX7_undo_61 : decode cX7_undo 61 = .ok (.aload_n 0, 1) := by decide +kernel
theorem dX7_undo_62 : decode cX7_undo 62 = .ok (.getfield 150, 3) := by decide +kernel
theorem dX7_undo_65 : decode cX7_undo 65 = .ok (.ireturn, 1) := by decide +kernel
theorem dX7_redo_0 : decode cX7_redo 0 = .ok (.aload_n 0, 1) := by decide +kernel
theorem dX7_redo_1 : decode cX7_redo 1 = .ok (.getfield 147, 3) := by decide +kernel
theorem dX7_redo_4 : decode cX7_redo 4 = .ok (.ifCond .ne 6, 3) := by decide +kernel
theorem dX7_redo_7 : decode cX7_redo 7 = .ok (.bipush (-5), 2) := by decide +kernel
theorem dX7_redo_9 : decode cX7_redo 9 = .ok (.ireturn, 1) := by decide +kernel
theorem dX7_redo_10 : decode cX7_redo 10 = .ok (.aload_n 0, 1) := by decide +kernel
theorem dX7_redo_11 : decode cX7_redo 11 = .ok (.aload_n 0, 1) := by decide +kernel
theorem dX7_redo_12 : decode cX7_redo 12 = .ok (.getfield 35, 3) := by decide +kernel
theorem dX7_redo_15 : decode cX7_redo 15 = .ok (.aload_n 0, 1) := by decide +kernel
theorem dX7_redo_16 : decode cX7_redo 16 = .ok (.getfield 150, 3) := by decide +kernel
theorem dX7_redo_19 : decode cX7_redo 19 = .ok (.iaload, 1) := by decide +kernel
theorem dX7_redo_20 : decode cX7_redo 20 = .ok (.aload_n 0, 1) := by decide +kernel
theorem dX7_redo_21 : decode cX7_redo 21 = .ok (.getfield 38, 3) := by decide +kernel
theorem dX7_redo_24 : decode cX7_redo 24 = .ok (.aload_n 0, 1) := by decide +kernel
theorem dX7_redo_25 : decode cX7_redo 25 = .ok (.getfield 150, 3) := by decide +kernel
theorem dX7_redo_28 : decode cX7_redo 28 = .ok (.iaload, 1) := by decide +kernel
theorem dX7_redo_29 : decode cX7_redo 29 = .ok (.aload_n 0, 1) := by decide +kernel
theorem dX7_redo_30 : decode cX7_redo 30 = .ok (.getfield 44, 3) := by decide +kernel
theorem dX7_redo_33 : decode cX7_redo 33 = .ok (.aload_n 0, 1) := by decide +kernel
theorem dX7_redo_34 : decode cX7_redo 34 = .ok (.getfield 150, 3) := by decide +kernel
theorem dX7_redo_37 : decode cX7_redo 37 = .ok (.iaload, 1) := by decide +kernel
theorem dX7_redo_38 : decode cX7_redo 38 = .ok (.invokevirtual 153, 3) := by decide +kernel
theorem dX7_redo_41 : decode cX7_redo 41 = .ok (.aload_n 0, 1) := by decide +kernel
theorem dX7_redo_42 : decode cX7_redo 42 = .ok (.dup, 1) := by decide +kernel
theorem dX7_redo_43 : decode cX7_redo 43 = .ok (.getfield 150, 3) := by decide +kernel
theorem dX7_redo_46 : decode cX7_redo 46 = .ok (.iconst 1, 1) := by decide +kernel
theorem dX7_redo_47 : decode cX7_redo 47 = .ok (.iadd, 1) := by decide +kernel
theorem dX7_redo_48 : decode cX7_redo 48 = .ok (.putfield 150, 3) := by decide +kernel
theorem dX7_redo_51 : decode cX7_redo 51 = .ok (.aload_n 0, 1) := by decide +kernel
theorem dX7_redo_52 : decode cX7_redo 52 = .ok (.dup, 1) := by decide +kernel
theorem dX7_redo_53 : decode cX7_redo 53 = .ok (.getfield 147, 3) := by decide +kernel
theorem dX7_redo_56 : decode cX7_redo 56 = .ok (.iconst 1, 1) := by decide +kernel
theorem dX7_redo_57 : decode cX7_redo 57 = .ok (.isub, 1) := by decide +kernel
theorem dX7_redo_58 : decode cX7_redo 58 = .ok (.putfield 147, 3) := by decide +kernel
theorem dX7_redo_61 : decode cX7_redo 61 = .ok (.aload_n 0, 1) := by decide +kernel
theorem dX7_redo_62 : decode cX7_redo 62 = .ok (.getfield 147, 3) := by decide +kernel
theorem dX7_redo_65 : decode cX7_redo 65 = .ok (.ireturn, 1) := by decide +kernel
theorem dX7_mend_0 : decode cX7_mend 0 = .ok (.iload_n 2, 1) := by decide +kernel
theorem dX7_mend_1 : decode cX7_mend 1 = .ok (.tableswitch 123 0 2 #[27, 57, 87], 27) := by decide +kernel
theorem dX7_mend_28 : decode cX7_mend 28 = .ok (.aload_n 0, 1) := by decide +kernel
theorem dX7_mend_29 : decode cX7_mend 29 = .ok (.iload_n 1, 1) := by decide +kernel
theorem dX7_mend_30 : decode cX7_mend 30 = .ok (.invokevirtual 118, 3) := by decide +kernel
theorem dX7_mend_33 : decode cX7_mend 33 = .ok (.ifCond .eq 23, 3) := by decide +kernel
theorem dX7_mend_36 : decode cX7_mend 36 = .ok (.iload_n 3, 1) := by decide +kernel
theorem dX7_mend_37 : decode cX7_mend 37 = .ok (.iconst 0, 1) := by decide +kernel
theorem dX7_mend_38 : decode cX7_mend 38 = .ok (.bipush 99, 2) := by decide +kernel
theorem dX7_mend_40 : decode cX7_mend 40 = .ok (.invokestatic 114, 3) := by decide +kernel
theorem dX7_mend_43 : decode cX7_mend 43 = .ok (.ifCond .eq 13, 3) := by decide +kernel
theorem dX7_mend_46 : decode cX7_mend 46 = .ok (.aload_n 0, 1) := by decide +kernel
theorem dX7_mend_47 : decode cX7_mend 47 = .ok (.iconst 0, 1) := by decide +kernel
theorem dX7_mend_48 : decode cX7_mend 48 = .ok (.iload_n 1, 1) := by decide +kernel
theorem dX7_mend_49 : decode cX7_mend 49 = .ok (.iload_n 3, 1) := by decide +kernel
theorem dX7_mend_50 : decode cX7_mend 50 = .ok (.invokevirtual 157, 3) := by decide +kernel
theorem dX7_mend_53 : decode cX7_mend 53 = .ok (.goto 4, 3) := by decide +kernel
theorem dX7_mend_56 : decode cX7_mend 56 = .ok (.iconst (-1), 1) := by decide +kernel
theorem dX7_mend_57 : decode cX7_mend 57 = .ok (.ireturn, 1) := by decide +kernel
theorem dX7_mend_58 : decode cX7_mend 58 = .ok (.aload_n 0, 1) := by decide +kernel
theorem dX7_mend_59 : decode cX7_mend 59 = .ok (.iload_n 1, 1) := by decide +kernel
theorem dX7_mend_60 : decode cX7_mend 60 = .ok (.invokevirtual 118, 3) := by decide +kernel
theorem dX7_mend_63 : decode cX7_mend 63 = .ok (.ifCond .eq 23, 3) := by decide +kernel
theorem dX7_mend_66 : decode cX7_mend 66 = .ok (.iload_n 3, 1) := by decide +kernel
theorem dX7_mend_67 : decode cX7_mend 67 = .ok (.iconst 0, 1) := by decide +kernel
theorem dX7_mend_68 : decode cX7_mend 68 = .ok (.bipush 9, 2) := by decide +kernel
theorem dX7_mend_70 : decode cX7_mend 70 = .ok (.invokestatic 114, 3) := by decide +kernel
theorem dX7_mend_73 : decode cX7_mend 73 = .ok (.ifCond .eq 13, 3) := by decide +kernel
theorem dX7_mend_76 : decode cX7_mend 76 = .ok (.aload_n 0, 1) := by decide +kernel
theorem dX7_mend_77 : decode cX7_mend 77 = .ok (.iconst 1, 1) := by decide +kernel
theorem dX7_mend_78 : decode cX7_mend 78 = .ok (.iload_n 1, 1) := by decide +kernel
theorem dX7_mend_79 : decode cX7_mend 79 = .ok (.iload_n 3, 1) := by decide +kernel
theorem dX7_mend_80 : decode cX7_mend 80 = .ok (.invokevirtual 157, 3) := by decide +kernel
theorem dX7_mend_83 : decode cX7_mend 83 = .ok (.goto 4, 3) := by decide +kernel
theorem dX7_mend_86 : decode cX7_mend 86 = .ok (.iconst (-1), 1) := by decide +kernel
theorem dX7_mend_87 : decode cX7_mend 87 = .ok (.ireturn, 1) := by decide +kernel
theorem dX7_mend_88 : decode cX7_mend 88 = .ok (.iload_n 1, 1) := by decide +kernel
theorem dX7_mend_89 : decode cX7_mend 89 = .ok (.iconst 0, 1) := by decide +kernel
theorem dX7_mend_90 : decode cX7_mend 90 = .ok (.aload_n 0, 1) := by decide +kernel
theorem dX7_mend_91 : decode cX7_mend 91 = .ok (.getfield 135, 3) := by decide +kernel
theorem dX7_mend_94 : decode cX7_mend 94 = .ok (.iconst 1, 1) := by decide +kernel
theorem dX7_mend_95 : decode cX7_mend 95 = .ok (.isub, 1) := by decide +kernel
theorem dX7_mend_96 : decode cX7_mend 96 = .ok (.invokestatic 114, 3) := by decide +kernel
theorem dX7_mend_99 : decode cX7_mend 99 = .ok (.ifCond .eq 23, 3) := by decide +kernel
theorem dX7_mend_102 : decode cX7_mend 102 = .ok (.iload_n 3, 1) := by decide +kernel
theorem dX7_mend_103 : decode cX7_mend 103 = .ok (.iconst 0, 1) := by decide +kernel
theorem dX7_mend_104 : decode cX7_mend 104 = .ok (.bipush 99, 2) := by decide +kernel
theorem dX7_mend_106 : decode cX7_mend 106 = .ok (.invokestatic 114, 3) := by decide +kernel
theorem dX7_mend_109 : decode cX7_mend 109 = .ok (.ifCond .eq 13, 3) := by decide +kernel
theorem dX7_mend_112 : decode cX7_mend 112 = .ok (.aload_n 0, 1) := by decide +kernel
theorem dX7_mend_113 : decode cX7_mend 113 = .ok (.iconst 2, 1) := by decide +kernel
theorem dX7_mend_114 : decode cX7_mend 114 = .ok (.iload_n 1, 1) := by decide +kernel
theorem dX7_mend_115 : decode cX7_mend 115 = .ok (.iload_n 3, 1) := by decide +kernel
theorem dX7_mend_116 : decode cX7_mend 116 = .ok (.invokevirtual 157, 3) := by decide +kernel
theorem dX7_mend_119 : decode cX7_mend 119 = .ok (.goto 4, 3) := by decide +kernel
theorem dX7_mend_122 : decode cX7_mend 122 = .ok (.iconst (-1), 1) := by decide +kernel
theorem dX7_mend_123 : decode cX7_mend 123 = .ok (.ireturn, 1) := by decide +kernel
theorem dX7_mend_124 : decode cX7_mend 124 = .ok (.iconst (-1), 1) := by decide +kernel
theorem dX7_mend_125 : decode cX7_mend 125 = .ok (.ireturn, 1) := by decide +kernel
theorem dX7_of_0 : decode cX7_of 0 = .ok (.iload_n 2, 1) := by decide +kernel
theorem dX7_of_1 : decode cX7_of 1 = .ok (.iconst 0, 1) := by decide +kernel
theorem dX7_of_2 : decode cX7_of 2 = .ok (.iconst 3, 1) := by decide +kernel
theorem dX7_of_3 : decode cX7_of 3 = .ok (.invokestatic 114, 3) := by decide +kernel
theorem dX7_of_6 : decode cX7_of 6 = .ok (.ifCond .eq 61, 3) := by decide +kernel
theorem dX7_of_9 : decode cX7_of 9 = .ok (.aload_n 0, 1) := by decide +kernel
theorem dX7_of_10 : decode cX7_of 10 = .ok (.iload_n 1, 1) := by decide +kernel
theorem dX7_of_11 : decode cX7_of 11 = .ok (.invokevirtual 118, 3) := by decide +kernel
theorem dX7_of_14 : decode cX7_of 14 = .ok (.ifCond .ne 7, 3) := by decide +kernel
theorem dX7_of_17 : decode cX7_of 17 = .ok (.iconst (-1), 1) := by decide +kernel
theorem dX7_of_18 : decode cX7_of 18 = .ok (.goto 48, 3) := by decide +kernel
theorem dX7_of_21 : decode cX7_of 21 = .ok (.iload_n 2, 1) := by decide +kernel
theorem dX7_of_22 : decode cX7_of 22 = .ok (.ifCond .ne 12, 3) := by decide +kernel
theorem dX7_of_25 : decode cX7_of 25 = .ok (.aload_n 0, 1) := by decide +kernel
theorem dX7_of_26 : decode cX7_of 26 = .ok (.getfield 7, 3) := by decide +kernel
theorem dX7_of_29 : decode cX7_of 29 = .ok (.iload_n 1, 1) := by decide +kernel
theorem dX7_of_30 : decode cX7_of 30 = .ok (.iaload, 1) := by decide +kernel
theorem dX7_of_31 : decode cX7_of 31 = .ok (.goto 35, 3) := by decide +kernel
theorem dX7_of_34 : decode cX7_of 34 = .ok (.iload_n 2, 1) := by decide +kernel
theorem dX7_of_35 : decode cX7_of 35 = .ok (.iconst 1, 1) := by decide +kernel
theorem dX7_of_36 : decode cX7_of 36 = .ok (.if_icmp .ne 12, 3) := by decide +kernel
theorem dX7_of_39 : decode cX7_of 39 = .ok (.aload_n 0, 1) := by decide +kernel
theorem dX7_of_40 : decode cX7_of 40 = .ok (.getfield 13, 3) := by decide +kernel
theorem dX7_of_43 : decode cX7_of 43 = .ok (.iload_n 1, 1) := by decide +kernel
theorem dX7_of_44 : decode cX7_of 44 = .ok (.iaload, 1) := by decide +kernel
theorem dX7_of_45 : decode cX7_of 45 = .ok (.goto 21, 3) := by decide +kernel
theorem dX7_of_48 : decode cX7_of 48 = .ok (.iload_n 2, 1) := by decide +kernel
theorem dX7_of_49 : decode cX7_of 49 = .ok (.iconst 2, 1) := by decide +kernel
theorem dX7_of_50 : decode cX7_of 50 = .ok (.if_icmp .ne 11, 3) := by decide +kernel
theorem dX7_of_53 : decode cX7_of 53 = .ok (.aload_n 0, 1) := by decide +kernel
theorem dX7_of_54 : decode cX7_of 54 = .ok (.iload_n 1, 1) := by decide +kernel
theorem dX7_of_55 : decode cX7_of 55 = .ok (.invokevirtual 161, 3) := by decide +kernel
theorem dX7_of_58 : decode cX7_of 58 = .ok (.goto 8, 3) := by decide +kernel
theorem dX7_of_61 : decode cX7_of 61 = .ok (.aload_n 0, 1) := by decide +kernel
theorem dX7_of_62 : decode cX7_of 62 = .ok (.iload_n 1, 1) := by decide +kernel
theorem dX7_of_63 : decode cX7_of 63 = .ok (.invokevirtual 165, 3) := by decide +kernel
theorem dX7_of_66 : decode cX7_of 66 = .ok (.ireturn, 1) := by decide +kernel
theorem dX7_of_67 : decode cX7_of 67 = .ok (.iload_n 2, 1) := by decide +kernel
theorem dX7_of_68 : decode cX7_of 68 = .ok (.bipush 10, 2) := by decide +kernel
theorem dX7_of_70 : decode cX7_of 70 = .ok (.if_icmp .ne 38, 3) := by decide +kernel
theorem dX7_of_73 : decode cX7_of 73 = .ok (.iload_n 1, 1) := by decide +kernel
theorem dX7_of_74 : decode cX7_of 74 = .ok (.iconst 0, 1) := by decide +kernel
theorem dX7_of_75 : decode cX7_of 75 = .ok (.aload_n 0, 1) := by decide +kernel
theorem dX7_of_76 : decode cX7_of 76 = .ok (.getfield 122, 3) := by decide +kernel
theorem dX7_of_79 : decode cX7_of 79 = .ok (.iconst 1, 1) := by decide +kernel
theorem dX7_of_80 : decode cX7_of 80 = .ok (.isub, 1) := by decide +kernel
theorem dX7_of_81 : decode cX7_of 81 = .ok (.invokestatic 114, 3) := by decide +kernel
theorem dX7_of_84 : decode cX7_of 84 = .ok (.ifCond .eq 22, 3) := by decide +kernel
theorem dX7_of_87 : decode cX7_of 87 = .ok (.bipush 100, 2) := by decide +kernel
theorem dX7_of_89 : decode cX7_of 89 = .ok (.aload_n 0, 1) := by decide +kernel
theorem dX7_of_90 : decode cX7_of 90 = .ok (.getfield 16, 3) := by decide +kernel
theorem dX7_of_93 : decode cX7_of 93 = .ok (.iload_n 1, 1) := by decide +kernel
theorem dX7_of_94 : decode cX7_of 94 = .ok (.iaload, 1) := by decide +kernel
theorem dX7_of_95 : decode cX7_of 95 = .ok (.imul, 1) := by decide +kernel
theorem dX7_of_96 : decode cX7_of 96 = .ok (.aload_n 0, 1) := by decide +kernel
theorem dX7_of_97 : decode cX7_of 97 = .ok (.getfield 19, 3) := by decide +kernel
theorem dX7_of_100 : decode cX7_of 100 = .ok (.iload_n 1, 1) := by decide +kernel
theorem dX7_of_101 : decode cX7_of 101 = .ok (.iaload, 1) := by decide +kernel
theorem dX7_of_102 : decode cX7_of 102 = .ok (.iadd, 1) := by decide +kernel
theorem dX7_of_103 : decode cX7_of 103 = .ok (.goto 4, 3) := by decide +kernel
theorem dX7_of_106 : decode cX7_of 106 = .ok (.iconst (-1), 1) := by decide +kernel
theorem dX7_of_107 : decode cX7_of 107 = .ok (.ireturn, 1) := by decide +kernel
theorem dX7_of_108 : decode cX7_of 108 = .ok (.iload_n 2, 1) := by decide +kernel
theorem dX7_of_109 : decode cX7_of 109 = .ok (.bipush 20, 2) := by decide +kernel
theorem dX7_of_111 : decode cX7_of 111 = .ok (.bipush 21, 2) := by decide +kernel
theorem dX7_of_113 : decode cX7_of 113 = .ok (.invokestatic 114, 3) := by decide +kernel
theorem dX7_of_116 : decode cX7_of 116 = .ok (.ifCond .eq 17, 3) := by decide +kernel
theorem dX7_of_119 : decode cX7_of 119 = .ok (.iload_n 1, 1) := by decide +kernel
theorem dX7_of_120 : decode cX7_of 120 = .ok (.iconst 0, 1) := by decide +kernel
theorem dX7_of_121 : decode cX7_of 121 = .ok (.aload_n 0, 1) := by decide +kernel
theorem dX7_of_122 : decode cX7_of 122 = .ok (.getfield 135, 3) := by decide +kernel
theorem dX7_of_125 : decode cX7_of 125 = .ok (.iconst 1, 1) := by decide +kernel
theorem dX7_of_126 : decode cX7_of 126 = .ok (.isub, 1) := by decide +kernel
theorem dX7_of_127 : decode cX7_of 127 = .ok (.invokestatic 114, 3) := by decide +kernel
theorem dX7_of_130 : decode cX7_of 130 = .ok (.ifCond .ne 5, 3) := by decide +kernel
theorem dX7_of_133 : decode cX7_of 133 = .ok (.iconst (-1), 1) := by decide +kernel
theorem dX7_of_134 : decode cX7_of 134 = .ok (.ireturn, 1) := by decide +kernel
theorem dX7_of_135 : decode cX7_of 135 = .ok (.iload_n 2, 1) := by decide +kernel
theorem dX7_of_136 : decode cX7_of 136 = .ok (.bipush 20, 2) := by decide +kernel
theorem dX7_of_138 : decode cX7_of 138 = .ok (.if_icmp .ne 22, 3) := by decide +kernel
theorem dX7_of_141 : decode cX7_of 141 = .ok (.bipush 100, 2) := by decide +kernel
theorem dX7_of_143 : decode cX7_of 143 = .ok (.aload_n 0, 1) := by decide +kernel
theorem dX7_of_144 : decode cX7_of 144 = .ok (.getfield 22, 3) := by decide +kernel
theorem dX7_of_147 : decode cX7_of 147 = .ok (.iload_n 1, 1) := by decide +kernel
theorem dX7_of_148 : decode cX7_of 148 = .ok (.iaload, 1) := by decide +kernel
theorem dX7_of_149 : decode cX7_of 149 = .ok (.imul, 1) := by decide +kernel
theorem dX7_of_150 : decode cX7_of 150 = .ok (.aload_n 0, 1) := by decide +kernel
theorem dX7_of_151 : decode cX7_of 151 = .ok (.getfield 25, 3) := by decide +kernel
theorem dX7_of_154 : decode cX7_of 154 = .ok (.iload_n 1, 1) := by decide +kernel
theorem dX7_of_155 : decode cX7_of 155 = .ok (.iaload, 1) := by decide +kernel
theorem dX7_of_156 : decode cX7_of 156 = .ok (.iadd, 1) := by decide +kernel
theorem dX7_of_157 : decode cX7_of 157 = .ok (.goto 9, 3) := by decide +kernel
theorem dX7_of_160 : decode cX7_of 160 = .ok (.aload_n 0, 1) := by decide +kernel
theorem dX7_of_161 : decode cX7_of 161 = .ok (.getfield 28, 3) := by decide +kernel
theorem dX7_of_164 : decode cX7_of 164 = .ok (.iload_n 1, 1) := by decide +kernel
theorem dX7_of_165 : decode cX7_of 165 = .ok (.iaload, 1) := by decide +kernel
theorem dX7_of_166 : decode cX7_of 166 = .ok (.ireturn, 1) := by decide +kernel
theorem dX7_feed_0 : decode cX7_feed 0 = .ok (.iload_n 1, 1) := by decide +kernel
theorem dX7_feed_1 : decode cX7_feed 1 = .ok (.iconst 0, 1) := by decide +kernel
theorem dX7_feed_2 : decode cX7_feed 2 = .ok (.sipush 255, 3) := by decide +kernel
theorem dX7_feed_5 : decode cX7_feed 5 = .ok (.invokestatic 114, 3) := by decide +kernel
theorem dX7_feed_8 : decode cX7_feed 8 = .ok (.ifCond .ne 5, 3) := by decide +kernel
theorem dX7_feed_11 : decode cX7_feed 11 = .ok (.iconst (-1), 1) := by decide +kernel
theorem dX7_feed_12 : decode cX7_feed 12 = .ok (.ireturn, 1) := by decide +kernel
theorem dX7_feed_13 : decode cX7_feed 13 = .ok (.aload_n 0, 1) := by decide +kernel
theorem dX7_feed_14 : decode cX7_feed 14 = .ok (.getfield 168, 3) := by decide +kernel
theorem dX7_feed_17 : decode cX7_feed 17 = .ok (.bipush 120, 2) := by decide +kernel
theorem dX7_feed_19 : decode cX7_feed 19 = .ok (.if_icmp .ne 6, 3) := by decide +kernel
theorem dX7_feed_22 : decode cX7_feed 22 = .ok (.bipush (-3), 2) := by decide +kernel
theorem dX7_feed_24 : decode cX7_feed 24 = .ok (.ireturn, 1) := by decide +kernel
theorem dX7_feed_25 : decode cX7_feed 25 = .ok (.aload_n 0, 1) := by decide +kernel
theorem dX7_feed_26 : decode cX7_feed 26 = .ok (.getfield 47, 3) := by decide +kernel
theorem dX7_feed_29 : decode cX7_feed 29 = .ok (.aload_n 0, 1) := by decide +kernel
theorem dX7_feed_30 : decode cX7_feed 30 = .ok (.getfield 168, 3) := by decide +kernel
theorem dX7_feed_33 : decode cX7_feed 33 = .ok (.iload_n 1, 1) := by decide +kernel
theorem dX7_feed_34 : decode cX7_feed 34 = .ok (.i2b, 1) := by decide +kernel
theorem dX7_feed_35 : decode cX7_feed 35 = .ok (.bastore, 1) := by decide +kernel
theorem dX7_feed_36 : decode cX7_feed 36 = .ok (.aload_n 0, 1) := by decide +kernel
theorem dX7_feed_37 : decode cX7_feed 37 = .ok (.dup, 1) := by decide +kernel
theorem dX7_feed_38 : decode cX7_feed 38 = .ok (.getfield 168, 3) := by decide +kernel
theorem dX7_feed_41 : decode cX7_feed 41 = .ok (.iconst 1, 1) := by decide +kernel
theorem dX7_feed_42 : decode cX7_feed 42 = .ok (.iadd, 1) := by decide +kernel
theorem dX7_feed_43 : decode cX7_feed 43 = .ok (.putfield 168, 3) := by decide +kernel
theorem dX7_feed_46 : decode cX7_feed 46 = .ok (.aload_n 0, 1) := by decide +kernel
theorem dX7_feed_47 : decode cX7_feed 47 = .ok (.getfield 168, 3) := by decide +kernel
theorem dX7_feed_50 : decode cX7_feed 50 = .ok (.ireturn, 1) := by decide +kernel
theorem dX7_look_0 : decode cX7_look 0 = .ok (.aload_n 0, 1) := by decide +kernel
theorem dX7_look_1 : decode cX7_look 1 = .ok (.getfield 171, 3) := by decide +kernel
theorem dX7_look_4 : decode cX7_look 4 = .ok (.aload_n 0, 1) := by decide +kernel
theorem dX7_look_5 : decode cX7_look 5 = .ok (.getfield 168, 3) := by decide +kernel
theorem dX7_look_8 : decode cX7_look 8 = .ok (.if_icmp .ge 15, 3) := by decide +kernel
theorem dX7_look_11 : decode cX7_look 11 = .ok (.aload_n 0, 1) := by decide +kernel
theorem dX7_look_12 : decode cX7_look 12 = .ok (.getfield 47, 3) := by decide +kernel
theorem dX7_look_15 : decode cX7_look 15 = .ok (.aload_n 0, 1) := by decide +kernel
theorem dX7_look_16 : decode cX7_look 16 = .ok (.getfield 171, 3) := by decide +kernel
theorem dX7_look_19 : decode cX7_look 19 = .ok (.baload, 1) := by decide +kernel
theorem dX7_look_20 : decode cX7_look 20 = .ok (.goto 4, 3) := by decide +kernel
theorem dX7_look_23 : decode cX7_look 23 = .ok (.iconst (-1), 1) := by decide +kernel
theorem dX7_look_24 : decode cX7_look 24 = .ok (.ireturn, 1) := by decide +kernel
theorem dX7_faulty_0 : decode cX7_faulty 0 = .ok (.aload_n 0, 1) := by decide +kernel
theorem dX7_faulty_1 : decode cX7_faulty 1 = .ok (.getfield 174, 3) := by decide +kernel
theorem dX7_faulty_4 : decode cX7_faulty 4 = .ok (.ifCond .ge 11, 3) := by decide +kernel
theorem dX7_faulty_7 : decode cX7_faulty 7 = .ok (.aload_n 0, 1) := by decide +kernel
theorem dX7_faulty_8 : decode cX7_faulty 8 = .ok (.aload_n 0, 1) := by decide +kernel
theorem dX7_faulty_9 : decode cX7_faulty 9 = .ok (.getfield 171, 3) := by decide +kernel
theorem dX7_faulty_12 : decode cX7_faulty 12 = .ok (.putfield 174, 3) := by decide +kernel
theorem dX7_faulty_15 : decode cX7_faulty 15 = .ok (.return_, 1) := by decide +kernel
theorem dX7_addStep_0 : decode cX7_addStep 0 = .ok (.aload_n 0, 1) := by decide +kernel
theorem dX7_addStep_1 : decode cX7_addStep 1 = .ok (.getfield 51, 3) := by decide +kernel
theorem dX7_addStep_4 : decode cX7_addStep 4 = .ok (.sipush 130, 3) := by decide +kernel
theorem dX7_addStep_7 : decode cX7_addStep 7 = .ok (.aload_n 0, 1) := by decide +kernel
theorem dX7_addStep_8 : decode cX7_addStep 8 = .ok (.getfield 177, 3) := by decide +kernel
theorem dX7_addStep_11 : decode cX7_addStep 11 = .ok (.iadd, 1) := by decide +kernel
theorem dX7_addStep_12 : decode cX7_addStep 12 = .ok (.iload_n 1, 1) := by decide +kernel
theorem dX7_addStep_13 : decode cX7_addStep 13 = .ok (.i2b, 1) := by decide +kernel
theorem dX7_addStep_14 : decode cX7_addStep 14 = .ok (.bastore, 1) := by decide +kernel
theorem dX7_addStep_15 : decode cX7_addStep 15 = .ok (.aload_n 0, 1) := by decide +kernel
theorem dX7_addStep_16 : decode cX7_addStep 16 = .ok (.getfield 54, 3) := by decide +kernel
theorem dX7_addStep_19 : decode cX7_addStep 19 = .ok (.sipush 130, 3) := by decide +kernel
theorem dX7_addStep_22 : decode cX7_addStep 22 = .ok (.aload_n 0, 1) := by decide +kernel
theorem dX7_addStep_23 : decode cX7_addStep 23 = .ok (.getfield 177, 3) := by decide +kernel
theorem dX7_addStep_26 : decode cX7_addStep 26 = .ok (.iadd, 1) := by decide +kernel
theorem dX7_addStep_27 : decode cX7_addStep 27 = .ok (.iload_n 2, 1) := by decide +kernel
theorem dX7_addStep_28 : decode cX7_addStep 28 = .ok (.iastore, 1) := by decide +kernel
theorem dX7_addStep_29 : decode cX7_addStep 29 = .ok (.aload_n 0, 1) := by decide +kernel
theorem dX7_addStep_30 : decode cX7_addStep 30 = .ok (.dup, 1) := by decide +kernel
theorem dX7_addStep_31 : decode cX7_addStep 31 = .ok (.getfield 177, 3) := by decide +kernel
theorem dX7_addStep_34 : decode cX7_addStep 34 = .ok (.iconst 1, 1) := by decide +kernel
theorem dX7_addStep_35 : decode cX7_addStep 35 = .ok (.iadd, 1) := by decide +kernel
theorem dX7_addStep_36 : decode cX7_addStep 36 = .ok (.putfield 177, 3) := by decide +kernel
theorem dX7_addStep_39 : decode cX7_addStep 39 = .ok (.return_, 1) := by decide +kernel
theorem dX7_nameOf_0 : decode cX7_nameOf 0 = .ok (.iload_n 0, 1) := by decide +kernel
theorem dX7_nameOf_1 : decode cX7_nameOf 1 = .ok (.lookupswitch 61 #[(100, 51), (106, 57), (111, 59), (112, 53), (121, 55)], 51) := by decide +kernel
theorem dX7_nameOf_52 : decode cX7_nameOf 52 = .ok (.iconst 0, 1) := by decide +kernel
theorem dX7_nameOf_53 : decode cX7_nameOf 53 = .ok (.ireturn, 1) := by decide +kernel
theorem dX7_nameOf_54 : decode cX7_nameOf 54 = .ok (.iconst 1, 1) := by decide +kernel
theorem dX7_nameOf_55 : decode cX7_nameOf 55 = .ok (.ireturn, 1) := by decide +kernel
theorem dX7_nameOf_56 : decode cX7_nameOf 56 = .ok (.iconst 2, 1) := by decide +kernel
theorem dX7_nameOf_57 : decode cX7_nameOf 57 = .ok (.ireturn, 1) := by decide +kernel
theorem dX7_nameOf_58 : decode cX7_nameOf 58 = .ok (.iconst 3, 1) := by decide +kernel
theorem dX7_nameOf_59 : decode cX7_nameOf 59 = .ok (.ireturn, 1) := by decide +kernel
theorem dX7_nameOf_60 : decode cX7_nameOf 60 = .ok (.iconst 4, 1) := by decide +kernel
theorem dX7_nameOf_61 : decode cX7_nameOf 61 = .ok (.ireturn, 1) := by decide +kernel
theorem dX7_nameOf_62 : decode cX7_nameOf 62 = .ok (.iconst (-1), 1) := by decide +kernel
theorem dX7_nameOf_63 : decode cX7_nameOf 63 = .ok (.ireturn, 1) := by decide +kernel
theorem dX7_opens_0 : decode cX7_opens 0 = .ok (.aload_n 0, 1) := by decide +kernel
theorem dX7_opens_1 : decode cX7_opens 1 = .ok (.getfield 180, 3) := by decide +kernel
theorem dX7_opens_4 : decode cX7_opens 4 = .ok (.bipush 6, 2) := by decide +kernel
theorem dX7_opens_6 : decode cX7_opens 6 = .ok (.if_icmp .ne 9, 3) := by decide +kernel
theorem dX7_opens_9 : decode cX7_opens 9 = .ok (.aload_n 0, 1) := by decide +kernel
theorem dX7_opens_10 : decode cX7_opens 10 = .ok (.invokevirtual 183, 3) := by decide +kernel
theorem dX7_opens_13 : decode cX7_opens 13 = .ok (.iconst 0, 1) := by decide +kernel
theorem dX7_opens_14 : decode cX7_opens 14 = .ok (.ireturn, 1) := by decide +kernel
theorem dX7_opens_15 : decode cX7_opens 15 = .ok (.aload_n 0, 1) := by decide +kernel
theorem dX7_opens_16 : decode cX7_opens 16 = .ok (.dup, 1) := by decide +kernel
theorem dX7_opens_17 : decode cX7_opens 17 = .ok (.getfield 180, 3) := by decide +kernel
theorem dX7_opens_20 : decode cX7_opens 20 = .ok (.iconst 1, 1) := by decide +kernel
theorem dX7_opens_21 : decode cX7_opens 21 = .ok (.iadd, 1) := by decide +kernel
theorem dX7_opens_22 : decode cX7_opens 22 = .ok (.putfield 180, 3) := by decide +kernel
theorem dX7_opens_25 : decode cX7_opens 25 = .ok (.aload_n 0, 1) := by decide +kernel
theorem dX7_opens_26 : decode cX7_opens 26 = .ok (.dup, 1) := by decide +kernel
theorem dX7_opens_27 : decode cX7_opens 27 = .ok (.getfield 171, 3) := by decide +kernel
theorem dX7_opens_30 : decode cX7_opens 30 = .ok (.iconst 1, 1) := by decide +kernel
theorem dX7_opens_31 : decode cX7_opens 31 = .ok (.iadd, 1) := by decide +kernel
theorem dX7_opens_32 : decode cX7_opens 32 = .ok (.putfield 171, 3) := by decide +kernel
theorem dX7_opens_35 : decode cX7_opens 35 = .ok (.iconst 1, 1) := by decide +kernel
theorem dX7_opens_36 : decode cX7_opens 36 = .ok (.ireturn, 1) := by decide +kernel
theorem dX7_figure_0 : decode cX7_figure 0 = .ok (.iconst 0, 1) := by decide +kernel
theorem dX7_figure_1 : decode cX7_figure 1 = .ok (.istore_n 1, 1) := by decide +kernel
theorem dX7_figure_2 : decode cX7_figure 2 = .ok (.iconst 0, 1) := by decide +kernel
theorem dX7_figure_3 : decode cX7_figure 3 = .ok (.istore_n 2, 1) := by decide +kernel
theorem dX7_figure_4 : decode cX7_figure 4 = .ok (.iload_n 2, 1) := by decide +kernel
theorem dX7_figure_5 : decode cX7_figure 5 = .ok (.iconst 4, 1) := by decide +kernel
theorem dX7_figure_6 : decode cX7_figure 6 = .ok (.if_icmp .ge 46, 3) := by decide +kernel
theorem dX7_figure_9 : decode cX7_figure 9 = .ok (.aload_n 0, 1) := by decide +kernel
theorem dX7_figure_10 : decode cX7_figure 10 = .ok (.invokevirtual 186, 3) := by decide +kernel
theorem dX7_figure_13 : decode cX7_figure 13 = .ok (.bipush 48, 2) := by decide +kernel
theorem dX7_figure_15 : decode cX7_figure 15 = .ok (.bipush 57, 2) := by decide +kernel
theorem dX7_figure_17 : decode cX7_figure 17 = .ok (.invokestatic 114, 3) := by decide +kernel
theorem dX7_figure_20 : decode cX7_figure 20 = .ok (.ifCond .eq 32, 3) := by decide +kernel
theorem dX7_figure_23 : decode cX7_figure 23 = .ok (.bipush 10, 2) := by decide +kernel
theorem dX7_figure_25 : decode cX7_figure 25 = .ok (.iload_n 1, 1) := by decide +kernel
theorem dX7_figure_26 : decode cX7_figure 26 = .ok (.imul, 1) := by decide +kernel
theorem dX7_figure_27 : decode cX7_figure 27 = .ok (.aload_n 0, 1) := by decide +kernel
theorem dX7_figure_28 : decode cX7_figure 28 = .ok (.invokevirtual 186, 3) := by decide +kernel
theorem dX7_figure_31 : decode cX7_figure 31 = .ok (.iadd, 1) := by decide +kernel
theorem dX7_figure_32 : decode cX7_figure 32 = .ok (.bipush 48, 2) := by decide +kernel
theorem dX7_figure_34 : decode cX7_figure 34 = .ok (.isub, 1) := by decide +kernel
theorem dX7_figure_35 : decode cX7_figure 35 = .ok (.istore_n 1, 1) := by decide +kernel
theorem dX7_figure_36 : decode cX7_figure 36 = .ok (.iinc 2 1, 3) := by decide +kernel
theorem dX7_figure_39 : decode cX7_figure 39 = .ok (.aload_n 0, 1) := by decide +kernel
theorem dX7_figure_40 : decode cX7_figure 40 = .ok (.dup, 1) := by decide +kernel
theorem dX7_figure_41 : decode cX7_figure 41 = .ok (.getfield 171, 3) := by decide +kernel
theorem dX7_figure_44 : decode cX7_figure 44 = .ok (.iconst 1, 1) := by decide +kernel
theorem dX7_figure_45 : decode cX7_figure 45 = .ok (.iadd, 1) := by decide +kernel
theorem dX7_figure_46 : decode cX7_figure 46 = .ok (.putfield 171, 3) := by decide +kernel
theorem dX7_figure_49 : decode cX7_figure 49 = .ok (.goto (-45), 3) := by decide +kernel
theorem dX7_figure_52 : decode cX7_figure 52 = .ok (.iload_n 2, 1) := by decide +kernel
theorem dX7_figure_53 : decode cX7_figure 53 = .ok (.ifCond .eq 17, 3) := by decide +kernel
theorem dX7_figure_56 : decode cX7_figure 56 = .ok (.aload_n 0, 1) := by decide +kernel
theorem dX7_figure_57 : decode cX7_figure 57 = .ok (.invokevirtual 186, 3) := by decide +kernel
theorem dX7_figure_60 : decode cX7_figure 60 = .ok (.bipush 48, 2) := by decide +kernel
theorem dX7_figure_62 : decode cX7_figure 62 = .ok (.bipush 57, 2) := by decide +kernel
theorem dX7_figure_64 : decode cX7_figure 64 = .ok (.invokestatic 114, 3) := by decide +kernel
theorem dX7_figure_67 : decode cX7_figure 67 = .ok (.ifCond .eq 7, 3) := by decide +kernel
theorem dX7_figure_70 : decode cX7_figure 70 = .ok (.aload_n 0, 1) := by decide +kernel
theorem dX7_figure_71 : decode cX7_figure 71 = .ok (.invokevirtual 183, 3) := by decide +kernel
theorem dX7_figure_74 : decode cX7_figure 74 = .ok (.aload_n 0, 1) := by decide +kernel
theorem dX7_figure_75 : decode cX7_figure 75 = .ok (.iconst 1, 1) := by decide +kernel
theorem dX7_figure_76 : decode cX7_figure 76 = .ok (.iload_n 1, 1) := by decide +kernel
theorem dX7_figure_77 : decode cX7_figure 77 = .ok (.invokevirtual 190, 3) := by decide +kernel
theorem dX7_figure_80 : decode cX7_figure 80 = .ok (.return_, 1) := by decide +kernel
theorem dX7_operand_0 : decode cX7_operand 0 = .ok (.aload_n 0, 1) := by decide +kernel
theorem dX7_operand_1 : decode cX7_operand 1 = .ok (.invokevirtual 186, 3) := by decide +kernel
theorem dX7_operand_4 : decode cX7_operand 4 = .ok (.istore_n 1, 1) := by decide +kernel
theorem dX7_operand_5 : decode cX7_operand 5 = .ok (.iload_n 1, 1) := by decide +kernel
theorem dX7_operand_6 : decode cX7_operand 6 = .ok (.invokestatic 194, 3) := by decide +kernel
theorem dX7_operand_9 : decode cX7_operand 9 = .ok (.ifCond .lt 25, 3) := by decide +kernel
theorem dX7_operand_12 : decode cX7_operand 12 = .ok (.aload_n 0, 1) := by decide +kernel
theorem dX7_operand_13 : decode cX7_operand 13 = .ok (.iconst 2, 1) := by decide +kernel
theorem dX7_operand_14 : decode cX7_operand 14 = .ok (.iload_n 1, 1) := by decide +kernel
theorem dX7_operand_15 : decode cX7_operand 15 = .ok (.invokestatic 194, 3) := by decide +kernel
theorem dX7_operand_18 : decode cX7_operand 18 = .ok (.invokevirtual 190, 3) := by decide +kernel
theorem dX7_operand_21 : decode cX7_operand 21 = .ok (.aload_n 0, 1) := by decide +kernel
theorem dX7_operand_22 : decode cX7_operand 22 = .ok (.dup, 1) := by decide +kernel
theorem dX7_operand_23 : decode cX7_operand 23 = .ok (.getfield 171, 3) := by decide +kernel
theorem dX7_operand_26 : decode cX7_operand 26 = .ok (.iconst 1, 1) := by decide +kernel
theorem dX7_operand_27 : decode cX7_operand 27 = .ok (.iadd, 1) := by decide +kernel
theorem dX7_operand_28 : decode cX7_operand 28 = .ok (.putfield 171, 3) := by decide +kernel
theorem dX7_operand_31 : decode cX7_operand 31 = .ok (.goto 123, 3) := by decide +kernel
theorem dX7_operand_34 : decode cX7_operand 34 = .ok (.iload_n 1, 1) := by decide +kernel
theorem dX7_operand_35 : decode cX7_operand 35 = .ok (.bipush 33, 2) := by decide +kernel
theorem dX7_operand_37 : decode cX7_operand 37 = .ok (.if_icmp .eq 9, 3) := by decide +kernel
theorem dX7_operand_40 : decode cX7_operand 40 = .ok (.iload_n 1, 1) := by decide +kernel
theorem dX7_operand_41 : decode cX7_operand 41 = .ok (.bipush 45, 2) := by decide +kernel
theorem dX7_operand_43 : decode cX7_operand 43 = .ok (.if_icmp .ne 44, 3) := by decide +kernel
theorem dX7_operand_46 : decode cX7_operand 46 = .ok (.aload_n 0, 1) := by decide +kernel
theorem dX7_operand_47 : decode cX7_operand 47 = .ok (.invokevirtual 197, 3) := by decide +kernel
theorem dX7_operand_50 : decode cX7_operand 50 = .ok (.ifCond .ne 4, 3) := by decide +kernel
theorem dX7_operand_53 : decode cX7_operand 53 = .ok (.return_, 1) := by decide +kernel
theorem dX7_operand_54 : decode cX7_operand 54 = .ok (.aload_n 0, 1) := by decide +kernel
theorem dX7_operand_55 : decode cX7_operand 55 = .ok (.invokevirtual 201, 3) := by decide +kernel
theorem dX7_operand_58 : decode cX7_operand 58 = .ok (.aload_n 0, 1) := by decide +kernel
theorem dX7_operand_59 : decode cX7_operand 59 = .ok (.dup, 1) := by decide +kernel
theorem dX7_operand_60 : decode cX7_operand 60 = .ok (.getfield 180, 3) := by decide +kernel
theorem dX7_operand_63 : decode cX7_operand 63 = .ok (.iconst 1, 1) := by decide +kernel
theorem dX7_operand_64 : decode cX7_operand 64 = .ok (.isub, 1) := by decide +kernel
theorem dX7_operand_65 : decode cX7_operand 65 = .ok (.putfield 180, 3) := by decide +kernel
theorem dX7_operand_68 : decode cX7_operand 68 = .ok (.aload_n 0, 1) := by decide +kernel
theorem dX7_operand_69 : decode cX7_operand 69 = .ok (.iload_n 1, 1) := by decide +kernel
theorem dX7_operand_70 : decode cX7_operand 70 = .ok (.bipush 33, 2) := by decide +kernel
theorem dX7_operand_72 : decode cX7_operand 72 = .ok (.if_icmp .ne 7, 3) := by decide +kernel
theorem dX7_operand_75 : decode cX7_operand 75 = .ok (.iconst 3, 1) := by decide +kernel
theorem dX7_operand_76 : decode cX7_operand 76 = .ok (.goto 4, 3) := by decide +kernel
theorem dX7_operand_79 : decode cX7_operand 79 = .ok (.iconst 4, 1) := by decide +kernel
theorem dX7_operand_80 : decode cX7_operand 80 = .ok (.iconst 0, 1) := by decide +kernel
theorem dX7_operand_81 : decode cX7_operand 81 = .ok (.invokevirtual 190, 3) := by decide +kernel
theorem dX7_operand_84 : decode cX7_operand 84 = .ok (.goto 70, 3) := by decide +kernel
theorem dX7_operand_87 : decode cX7_operand 87 = .ok (.iload_n 1, 1) := by decide +kernel
theorem dX7_operand_88 : decode cX7_operand 88 = .ok (.bipush 40, 2) := by decide +kernel
theorem dX7_operand_90 : decode cX7_operand 90 = .ok (.if_icmp .ne 60, 3) := by decide +kernel
theorem dX7_operand_93 : decode cX7_operand 93 = .ok (.aload_n 0, 1) := by decide +kernel
theorem dX7_operand_94 : decode cX7_operand 94 = .ok (.invokevirtual 197, 3) := by decide +kernel
theorem dX7_operand_97 : decode cX7_operand 97 = .ok (.ifCond .ne 4, 3) := by decide +kernel
theorem dX7_operand_100 : decode cX7_operand 100 = .ok (.return_, 1) := by decide +kernel
theorem dX7_operand_101 : decode cX7_operand 101 = .ok (.aload_n 0, 1) := by decide +kernel
theorem dX7_operand_102 : decode cX7_operand 102 = .ok (.invokevirtual 204, 3) := by decide +kernel
theorem dX7_operand_105 : decode cX7_operand 105 = .ok (.aload_n 0, 1) := by decide +kernel
theorem dX7_operand_106 : decode cX7_operand 106 = .ok (.getfield 174, 3) := by decide +kernel
theorem dX7_operand_109 : decode cX7_operand 109 = .ok (.ifCond .lt 4, 3) := by decide +kernel
theorem dX7_operand_112 : decode cX7_operand 112 = .ok (.return_, 1) := by decide +kernel
theorem dX7_operand_113 : decode cX7_operand 113 = .ok (.aload_n 0, 1) := by decide +kernel
theorem dX7_operand_114 : decode cX7_operand 114 = .ok (.invokevirtual 186, 3) := by decide +kernel
theorem dX7_operand_117 : decode cX7_operand 117 = .ok (.bipush 41, 2) := by decide +kernel
theorem dX7_operand_119 : decode cX7_operand 119 = .ok (.if_icmp .eq 8, 3) := by decide +kernel
theorem dX7_operand_122 : decode cX7_operand 122 = .ok (.aload_n 0, 1) := by decide +kernel
theorem dX7_operand_123 : decode cX7_operand 123 = .ok (.invokevirtual 183, 3) := by decide +kernel
theorem dX7_operand_126 : decode cX7_operand 126 = .ok (.return_, 1) := by decide +kernel
theorem dX7_operand_127 : decode cX7_operand 127 = .ok (.aload_n 0, 1) := by decide +kernel
theorem dX7_operand_128 : decode cX7_operand 128 = .ok (.dup, 1) := by decide +kernel
theorem dX7_operand_129 : decode cX7_operand 129 = .ok (.getfield 171, 3) := by decide +kernel
theorem dX7_operand_132 : decode cX7_operand 132 = .ok (.iconst 1, 1) := by decide +kernel
theorem dX7_operand_133 : decode cX7_operand 133 = .ok (.iadd, 1) := by decide +kernel
theorem dX7_operand_134 : decode cX7_operand 134 = .ok (.putfield 171, 3) := by decide +kernel
theorem dX7_operand_137 : decode cX7_operand 137 = .ok (.aload_n 0, 1) := by decide +kernel
theorem dX7_operand_138 : decode cX7_operand 138 = .ok (.dup, 1) := by decide +kernel
theorem dX7_operand_139 : decode cX7_operand 139 = .ok (.getfield 180, 3) := by decide +kernel
theorem dX7_operand_142 : decode cX7_operand 142 = .ok (.iconst 1, 1) := by decide +kernel
theorem dX7_operand_143 : decode cX7_operand 143 = .ok (.isub, 1) := by decide +kernel
theorem dX7_operand_144 : decode cX7_operand 144 = .ok (.putfield 180, 3) := by decide +kernel
theorem dX7_operand_147 : decode cX7_operand 147 = .ok (.goto 7, 3) := by decide +kernel
theorem dX7_operand_150 : decode cX7_operand 150 = .ok (.aload_n 0, 1) := by decide +kernel
theorem dX7_operand_151 : decode cX7_operand 151 = .ok (.invokevirtual 207, 3) := by decide +kernel
theorem dX7_operand_154 : decode cX7_operand 154 = .ok (.return_, 1) := by decide +kernel
theorem dX7_product_0 : decode cX7_product 0 = .ok (.aload_n 0, 1) := by decide +kernel
theorem dX7_product_1 : decode cX7_product 1 = .ok (.invokevirtual 201, 3) := by decide +kernel
theorem dX7_product_4 : decode cX7_product 4 = .ok (.aload_n 0, 1) := by decide +kernel
theorem dX7_product_5 : decode cX7_product 5 = .ok (.getfield 174, 3) := by decide +kernel
theorem dX7_product_8 : decode cX7_product 8 = .ok (.ifCond .ge 58, 3) := by decide +kernel
theorem dX7_product_11 : decode cX7_product 11 = .ok (.aload_n 0, 1) := by decide +kernel
theorem dX7_product_12 : decode cX7_product 12 = .ok (.invokevirtual 186, 3) := by decide +kernel
theorem dX7_product_15 : decode cX7_product 15 = .ok (.bipush 42, 2) := by decide +kernel
theorem dX7_product_17 : decode cX7_product 17 = .ok (.if_icmp .eq 21, 3) := by decide +kernel
theorem dX7_product_20 : decode cX7_product 20 = .ok (.aload_n 0, 1) := by decide +kernel
theorem dX7_product_21 : decode cX7_product 21 = .ok (.invokevirtual 186, 3) := by decide +kernel
theorem dX7_product_24 : decode cX7_product 24 = .ok (.bipush 47, 2) := by decide +kernel
theorem dX7_product_26 : decode cX7_product 26 = .ok (.if_icmp .eq 12, 3) := by decide +kernel
theorem dX7_product_29 : decode cX7_product 29 = .ok (.aload_n 0, 1) := by decide +kernel
theorem dX7_product_30 : decode cX7_product 30 = .ok (.invokevirtual 186, 3) := by decide +kernel
theorem dX7_product_33 : decode cX7_product 33 = .ok (.bipush 37, 2) := by decide +kernel
theorem dX7_product_35 : decode cX7_product 35 = .ok (.if_icmp .ne 31, 3) := by decide +kernel
theorem dX7_product_38 : decode cX7_product 38 = .ok (.aload_n 0, 1) := by decide +kernel
theorem dX7_product_39 : decode cX7_product 39 = .ok (.invokevirtual 186, 3) := by decide +kernel
theorem dX7_product_42 : decode cX7_product 42 = .ok (.istore_n 1, 1) := by decide +kernel
theorem dX7_product_43 : decode cX7_product 43 = .ok (.aload_n 0, 1) := by decide +kernel
theorem dX7_product_44 : decode cX7_product 44 = .ok (.dup, 1) := by decide +kernel
theorem dX7_product_45 : decode cX7_product 45 = .ok (.getfield 171, 3) := by decide +kernel
theorem dX7_product_48 : decode cX7_product 48 = .ok (.iconst 1, 1) := by decide +kernel
theorem dX7_product_49 : decode cX7_product 49 = .ok (.iadd, 1) := by decide +kernel
theorem dX7_product_50 : decode cX7_product 50 = .ok (.putfield 171, 3) := by decide +kernel
theorem dX7_product_53 : decode cX7_product 53 = .ok (.aload_n 0, 1) := by decide +kernel
theorem dX7_product_54 : decode cX7_product 54 = .ok (.invokevirtual 201, 3) := by decide +kernel
theorem dX7_product_57 : decode cX7_product 57 = .ok (.aload_n 0, 1) := by decide +kernel
theorem dX7_product_58 : decode cX7_product 58 = .ok (.iload_n 1, 1) := by decide +kernel
theorem dX7_product_59 : decode cX7_product 59 = .ok (.iconst 0, 1) := by decide +kernel
theorem dX7_product_60 : decode cX7_product 60 = .ok (.invokevirtual 190, 3) := by decide +kernel
theorem dX7_product_63 : decode cX7_product 63 = .ok (.goto (-59), 3) := by decide +kernel
theorem dX7_product_66 : decode cX7_product 66 = .ok (.return_, 1) := by decide +kernel
theorem dX7_sum_0 : decode cX7_sum 0 = .ok (.aload_n 0, 1) := by decide +kernel
theorem dX7_sum_1 : decode cX7_sum 1 = .ok (.invokevirtual 210, 3) := by decide +kernel
theorem dX7_sum_4 : decode cX7_sum 4 = .ok (.aload_n 0, 1) := by decide +kernel
theorem dX7_sum_5 : decode cX7_sum 5 = .ok (.getfield 174, 3) := by decide +kernel
theorem dX7_sum_8 : decode cX7_sum 8 = .ok (.ifCond .ge 49, 3) := by decide +kernel
theorem dX7_sum_11 : decode cX7_sum 11 = .ok (.aload_n 0, 1) := by decide +kernel
theorem dX7_sum_12 : decode cX7_sum 12 = .ok (.invokevirtual 186, 3) := by decide +kernel
theorem dX7_sum_15 : decode cX7_sum 15 = .ok (.bipush 43, 2) := by decide +kernel
theorem dX7_sum_17 : decode cX7_sum 17 = .ok (.if_icmp .eq 12, 3) := by decide +kernel
theorem dX7_sum_20 : decode cX7_sum 20 = .ok (.aload_n 0, 1) := by decide +kernel
theorem dX7_sum_21 : decode cX7_sum 21 = .ok (.invokevirtual 186, 3) := by decide +kernel
theorem dX7_sum_24 : decode cX7_sum 24 = .ok (.bipush 45, 2) := by decide +kernel
theorem dX7_sum_26 : decode cX7_sum 26 = .ok (.if_icmp .ne 31, 3) := by decide +kernel
theorem dX7_sum_29 : decode cX7_sum 29 = .ok (.aload_n 0, 1) := by decide +kernel
theorem dX7_sum_30 : decode cX7_sum 30 = .ok (.invokevirtual 186, 3) := by decide +kernel
theorem dX7_sum_33 : decode cX7_sum 33 = .ok (.istore_n 1, 1) := by decide +kernel
theorem dX7_sum_34 : decode cX7_sum 34 = .ok (.aload_n 0, 1) := by decide +kernel
theorem dX7_sum_35 : decode cX7_sum 35 = .ok (.dup, 1) := by decide +kernel
theorem dX7_sum_36 : decode cX7_sum 36 = .ok (.getfield 171, 3) := by decide +kernel
theorem dX7_sum_39 : decode cX7_sum 39 = .ok (.iconst 1, 1) := by decide +kernel
theorem dX7_sum_40 : decode cX7_sum 40 = .ok (.iadd, 1) := by decide +kernel
theorem dX7_sum_41 : decode cX7_sum 41 = .ok (.putfield 171, 3) := by decide +kernel
theorem dX7_sum_44 : decode cX7_sum 44 = .ok (.aload_n 0, 1) := by decide +kernel
theorem dX7_sum_45 : decode cX7_sum 45 = .ok (.invokevirtual 210, 3) := by decide +kernel
theorem dX7_sum_48 : decode cX7_sum 48 = .ok (.aload_n 0, 1) := by decide +kernel
theorem dX7_sum_49 : decode cX7_sum 49 = .ok (.iload_n 1, 1) := by decide +kernel
theorem dX7_sum_50 : decode cX7_sum 50 = .ok (.iconst 0, 1) := by decide +kernel
theorem dX7_sum_51 : decode cX7_sum 51 = .ok (.invokevirtual 190, 3) := by decide +kernel
theorem dX7_sum_54 : decode cX7_sum 54 = .ok (.goto (-50), 3) := by decide +kernel
theorem dX7_sum_57 : decode cX7_sum 57 = .ok (.return_, 1) := by decide +kernel
theorem dX7_compared_0 : decode cX7_compared 0 = .ok (.aload_n 0, 1) := by decide +kernel
theorem dX7_compared_1 : decode cX7_compared 1 = .ok (.invokevirtual 213, 3) := by decide +kernel
theorem dX7_compared_4 : decode cX7_compared 4 = .ok (.aload_n 0, 1) := by decide +kernel
theorem dX7_compared_5 : decode cX7_compared 5 = .ok (.invokevirtual 186, 3) := by decide +kernel
theorem dX7_compared_8 : decode cX7_compared 8 = .ok (.istore_n 1, 1) := by decide +kernel
theorem dX7_compared_9 : decode cX7_compared 9 = .ok (.aload_n 0, 1) := by decide +kernel
theorem dX7_compared_10 : decode cX7_compared 10 = .ok (.getfield 174, 3) := by decide +kernel
theorem dX7_compared_13 : decode cX7_compared 13 = .ok (.ifCond .ge 21, 3) := by decide +kernel
theorem dX7_compared_16 : decode cX7_compared 16 = .ok (.iload_n 1, 1) := by decide +kernel
theorem dX7_compared_17 : decode cX7_compared 17 = .ok (.bipush 60, 2) := by decide +kernel
theorem dX7_compared_19 : decode cX7_compared 19 = .ok (.if_icmp .eq 16, 3) := by decide +kernel
theorem dX7_compared_22 : decode cX7_compared 22 = .ok (.iload_n 1, 1) := by decide +kernel
theorem dX7_compared_23 : decode cX7_compared 23 = .ok (.bipush 61, 2) := by decide +kernel
theorem dX7_compared_25 : decode cX7_compared 25 = .ok (.if_icmp .eq 10, 3) := by decide +kernel
theorem dX7_compared_28 : decode cX7_compared 28 = .ok (.iload_n 1, 1) := by decide +kernel
theorem dX7_compared_29 : decode cX7_compared 29 = .ok (.bipush 62, 2) := by decide +kernel
theorem dX7_compared_31 : decode cX7_compared 31 = .ok (.if_icmp .eq 4, 3) := by decide +kernel
theorem dX7_compared_34 : decode cX7_compared 34 = .ok (.return_, 1) := by decide +kernel
theorem dX7_compared_35 : decode cX7_compared 35 = .ok (.aload_n 0, 1) := by decide +kernel
theorem dX7_compared_36 : decode cX7_compared 36 = .ok (.dup, 1) := by decide +kernel
theorem dX7_compared_37 : decode cX7_compared 37 = .ok (.getfield 171, 3) := by decide +kernel
theorem dX7_compared_40 : decode cX7_compared 40 = .ok (.iconst 1, 1) := by decide +kernel
theorem dX7_compared_41 : decode cX7_compared 41 = .ok (.iadd, 1) := by decide +kernel
theorem dX7_compared_42 : decode cX7_compared 42 = .ok (.putfield 171, 3) := by decide +kernel
theorem dX7_compared_45 : decode cX7_compared 45 = .ok (.aload_n 0, 1) := by decide +kernel
theorem dX7_compared_46 : decode cX7_compared 46 = .ok (.invokevirtual 213, 3) := by decide +kernel
theorem dX7_compared_49 : decode cX7_compared 49 = .ok (.aload_n 0, 1) := by decide +kernel
theorem dX7_compared_50 : decode cX7_compared 50 = .ok (.iload_n 1, 1) := by decide +kernel
theorem dX7_compared_51 : decode cX7_compared 51 = .ok (.iconst 0, 1) := by decide +kernel
theorem dX7_compared_52 : decode cX7_compared 52 = .ok (.invokevirtual 190, 3) := by decide +kernel
theorem dX7_compared_55 : decode cX7_compared 55 = .ok (.return_, 1) := by decide +kernel
theorem dX7_both_0 : decode cX7_both 0 = .ok (.aload_n 0, 1) := by decide +kernel
theorem dX7_both_1 : decode cX7_both 1 = .ok (.invokevirtual 216, 3) := by decide +kernel
theorem dX7_both_4 : decode cX7_both 4 = .ok (.aload_n 0, 1) := by decide +kernel
theorem dX7_both_5 : decode cX7_both 5 = .ok (.getfield 174, 3) := by decide +kernel
theorem dX7_both_8 : decode cX7_both 8 = .ok (.ifCond .ge 36, 3) := by decide +kernel
theorem dX7_both_11 : decode cX7_both 11 = .ok (.aload_n 0, 1) := by decide +kernel
theorem dX7_both_12 : decode cX7_both 12 = .ok (.invokevirtual 186, 3) := by decide +kernel
theorem dX7_both_15 : decode cX7_both 15 = .ok (.bipush 38, 2) := by decide +kernel
theorem dX7_both_17 : decode cX7_both 17 = .ok (.if_icmp .ne 27, 3) := by decide +kernel
theorem dX7_both_20 : decode cX7_both 20 = .ok (.aload_n 0, 1) := by decide +kernel
theorem dX7_both_21 : decode cX7_both 21 = .ok (.dup, 1) := by decide +kernel
theorem dX7_both_22 : decode cX7_both 22 = .ok (.getfield 171, 3) := by decide +kernel
theorem dX7_both_25 : decode cX7_both 25 = .ok (.iconst 1, 1) := by decide +kernel
theorem dX7_both_26 : decode cX7_both 26 = .ok (.iadd, 1) := by decide +kernel
theorem dX7_both_27 : decode cX7_both 27 = .ok (.putfield 171, 3) := by decide +kernel
theorem dX7_both_30 : decode cX7_both 30 = .ok (.aload_n 0, 1) := by decide +kernel
theorem dX7_both_31 : decode cX7_both 31 = .ok (.invokevirtual 216, 3) := by decide +kernel
theorem dX7_both_34 : decode cX7_both 34 = .ok (.aload_n 0, 1) := by decide +kernel
theorem dX7_both_35 : decode cX7_both 35 = .ok (.bipush 38, 2) := by decide +kernel
theorem dX7_both_37 : decode cX7_both 37 = .ok (.iconst 0, 1) := by decide +kernel
theorem dX7_both_38 : decode cX7_both 38 = .ok (.invokevirtual 190, 3) := by decide +kernel
theorem dX7_both_41 : decode cX7_both 41 = .ok (.goto (-37), 3) := by decide +kernel
theorem dX7_both_44 : decode cX7_both 44 = .ok (.return_, 1) := by decide +kernel
theorem dX7_either_0 : decode cX7_either 0 = .ok (.aload_n 0, 1) := by decide +kernel
theorem dX7_either_1 : decode cX7_either 1 = .ok (.invokevirtual 219, 3) := by decide +kernel
theorem dX7_either_4 : decode cX7_either 4 = .ok (.aload_n 0, 1) := by decide +kernel
theorem dX7_either_5 : decode cX7_either 5 = .ok (.getfield 174, 3) := by decide +kernel
theorem dX7_either_8 : decode cX7_either 8 = .ok (.ifCond .ge 36, 3) := by decide +kernel
theorem dX7_either_11 : decode cX7_either 11 = .ok (.aload_n 0, 1) := by decide +kernel
theorem dX7_either_12 : decode cX7_either 12 = .ok (.invokevirtual 186, 3) := by decide +kernel
theorem dX7_either_15 : decode cX7_either 15 = .ok (.bipush 124, 2) := by decide +kernel
theorem dX7_either_17 : decode cX7_either 17 = .ok (.if_icmp .ne 27, 3) := by decide +kernel
theorem dX7_either_20 : decode cX7_either 20 = .ok (.aload_n 0, 1) := by decide +kernel
theorem dX7_either_21 : decode cX7_either 21 = .ok (.dup, 1) := by decide +kernel
theorem dX7_either_22 : decode cX7_either 22 = .ok (.getfield 171, 3) := by decide +kernel
theorem dX7_either_25 : decode cX7_either 25 = .ok (.iconst 1, 1) := by decide +kernel
theorem dX7_either_26 : decode cX7_either 26 = .ok (.iadd, 1) := by decide +kernel
theorem dX7_either_27 : decode cX7_either 27 = .ok (.putfield 171, 3) := by decide +kernel
theorem dX7_either_30 : decode cX7_either 30 = .ok (.aload_n 0, 1) := by decide +kernel
theorem dX7_either_31 : decode cX7_either 31 = .ok (.invokevirtual 219, 3) := by decide +kernel
theorem dX7_either_34 : decode cX7_either 34 = .ok (.aload_n 0, 1) := by decide +kernel
theorem dX7_either_35 : decode cX7_either 35 = .ok (.bipush 124, 2) := by decide +kernel
theorem dX7_either_37 : decode cX7_either 37 = .ok (.iconst 0, 1) := by decide +kernel
theorem dX7_either_38 : decode cX7_either 38 = .ok (.invokevirtual 190, 3) := by decide +kernel
theorem dX7_either_41 : decode cX7_either 41 = .ok (.goto (-37), 3) := by decide +kernel
theorem dX7_either_44 : decode cX7_either 44 = .ok (.return_, 1) := by decide +kernel
theorem dX7_line_0 : decode cX7_line 0 = .ok (.bipush 61, 2) := by decide +kernel
theorem dX7_line_2 : decode cX7_line 2 = .ok (.aload_n 0, 1) := by decide +kernel
theorem dX7_line_3 : decode cX7_line 3 = .ok (.getfield 57, 3) := by decide +kernel
theorem dX7_line_6 : decode cX7_line 6 = .ok (.iconst 1, 1) := by decide +kernel
theorem dX7_line_7 : decode cX7_line 7 = .ok (.iaload, 1) := by decide +kernel
theorem dX7_line_8 : decode cX7_line 8 = .ok (.iadd, 1) := by decide +kernel
theorem dX7_line_9 : decode cX7_line 9 = .ok (.istore_n 1, 1) := by decide +kernel
theorem dX7_line_10 : decode cX7_line 10 = .ok (.aload_n 0, 1) := by decide +kernel
theorem dX7_line_11 : decode cX7_line 11 = .ok (.getfield 60, 3) := by decide +kernel
theorem dX7_line_14 : decode cX7_line 14 = .ok (.iload_n 1, 1) := by decide +kernel
theorem dX7_line_15 : decode cX7_line 15 = .ok (.aload_n 0, 1) := by decide +kernel
theorem dX7_line_16 : decode cX7_line 16 = .ok (.getfield 177, 3) := by decide +kernel
theorem dX7_line_19 : decode cX7_line 19 = .ok (.i2s, 1) := by decide +kernel
theorem dX7_line_20 : decode cX7_line 20 = .ok (.sastore, 1) := by decide +kernel
theorem dX7_line_21 : decode cX7_line 21 = .ok (.aload_n 0, 1) := by decide +kernel
theorem dX7_line_22 : decode cX7_line 22 = .ok (.invokevirtual 204, 3) := by decide +kernel
theorem dX7_line_25 : decode cX7_line 25 = .ok (.aload_n 0, 1) := by decide +kernel
theorem dX7_line_26 : decode cX7_line 26 = .ok (.getfield 174, 3) := by decide +kernel
theorem dX7_line_29 : decode cX7_line 29 = .ok (.ifCond .ge 37, 3) := by decide +kernel
theorem dX7_line_32 : decode cX7_line 32 = .ok (.aload_n 0, 1) := by decide +kernel
theorem dX7_line_33 : decode cX7_line 33 = .ok (.invokevirtual 186, 3) := by decide +kernel
theorem dX7_line_36 : decode cX7_line 36 = .ok (.bipush 63, 2) := by decide +kernel
theorem dX7_line_38 : decode cX7_line 38 = .ok (.if_icmp .ne 28, 3) := by decide +kernel
theorem dX7_line_41 : decode cX7_line 41 = .ok (.aload_n 0, 1) := by decide +kernel
theorem dX7_line_42 : decode cX7_line 42 = .ok (.dup, 1) := by decide +kernel
theorem dX7_line_43 : decode cX7_line 43 = .ok (.getfield 171, 3) := by decide +kernel
theorem dX7_line_46 : decode cX7_line 46 = .ok (.iconst 1, 1) := by decide +kernel
theorem dX7_line_47 : decode cX7_line 47 = .ok (.iadd, 1) := by decide +kernel
theorem dX7_line_48 : decode cX7_line 48 = .ok (.putfield 171, 3) := by decide +kernel
theorem dX7_line_51 : decode cX7_line 51 = .ok (.aload_n 0, 1) := by decide +kernel
theorem dX7_line_52 : decode cX7_line 52 = .ok (.getfield 60, 3) := by decide +kernel
theorem dX7_line_55 : decode cX7_line 55 = .ok (.iload_n 1, 1) := by decide +kernel
theorem dX7_line_56 : decode cX7_line 56 = .ok (.aload_n 0, 1) := by decide +kernel
theorem dX7_line_57 : decode cX7_line 57 = .ok (.getfield 177, 3) := by decide +kernel
theorem dX7_line_60 : decode cX7_line 60 = .ok (.i2s, 1) := by decide +kernel
theorem dX7_line_61 : decode cX7_line 61 = .ok (.sastore, 1) := by decide +kernel
theorem dX7_line_62 : decode cX7_line 62 = .ok (.aload_n 0, 1) := by decide +kernel
theorem dX7_line_63 : decode cX7_line 63 = .ok (.invokevirtual 204, 3) := by decide +kernel
theorem dX7_line_66 : decode cX7_line 66 = .ok (.aload_n 0, 1) := by decide +kernel
theorem dX7_line_67 : decode cX7_line 67 = .ok (.getfield 64, 3) := by decide +kernel
theorem dX7_line_70 : decode cX7_line 70 = .ok (.iload_n 1, 1) := by decide +kernel
theorem dX7_line_71 : decode cX7_line 71 = .ok (.aload_n 0, 1) := by decide +kernel
theorem dX7_line_72 : decode cX7_line 72 = .ok (.getfield 177, 3) := by decide +kernel
theorem dX7_line_75 : decode cX7_line 75 = .ok (.i2s, 1) := by decide +kernel
theorem dX7_line_76 : decode cX7_line 76 = .ok (.sastore, 1) := by decide +kernel
theorem dX7_line_77 : decode cX7_line 77 = .ok (.aload_n 0, 1) := by decide +kernel
theorem dX7_line_78 : decode cX7_line 78 = .ok (.getfield 57, 3) := by decide +kernel
theorem dX7_line_81 : decode cX7_line 81 = .ok (.iconst 1, 1) := by decide +kernel
theorem dX7_line_82 : decode cX7_line 82 = .ok (.dup2, 1) := by decide +kernel
theorem dX7_line_83 : decode cX7_line 83 = .ok (.iaload, 1) := by decide +kernel
theorem dX7_line_84 : decode cX7_line 84 = .ok (.iconst 1, 1) := by decide +kernel
theorem dX7_line_85 : decode cX7_line 85 = .ok (.iadd, 1) := by decide +kernel
theorem dX7_line_86 : decode cX7_line 86 = .ok (.iastore, 1) := by decide +kernel
theorem dX7_line_87 : decode cX7_line 87 = .ok (.return_, 1) := by decide +kernel
theorem dX7_readText_0 : decode cX7_readText 0 = .ok (.aload_n 0, 1) := by decide +kernel
theorem dX7_readText_1 : decode cX7_readText 1 = .ok (.iconst 0, 1) := by decide +kernel
theorem dX7_readText_2 : decode cX7_readText 2 = .ok (.putfield 171, 3) := by decide +kernel
theorem dX7_readText_5 : decode cX7_readText 5 = .ok (.aload_n 0, 1) := by decide +kernel
theorem dX7_readText_6 : decode cX7_readText 6 = .ok (.iconst (-1), 1) := by decide +kernel
theorem dX7_readText_7 : decode cX7_readText 7 = .ok (.putfield 174, 3) := by decide +kernel
theorem dX7_readText_10 : decode cX7_readText 10 = .ok (.aload_n 0, 1) := by decide +kernel
theorem dX7_readText_11 : decode cX7_readText 11 = .ok (.iconst 0, 1) := by decide +kernel
theorem dX7_readText_12 : decode cX7_readText 12 = .ok (.putfield 180, 3) := by decide +kernel
theorem dX7_readText_15 : decode cX7_readText 15 = .ok (.aload_n 0, 1) := by decide +kernel
theorem dX7_readText_16 : decode cX7_readText 16 = .ok (.iconst 0, 1) := by decide +kernel
theorem dX7_readText_17 : decode cX7_readText 17 = .ok (.putfield 177, 3) := by decide +kernel
theorem dX7_readText_20 : decode cX7_readText 20 = .ok (.aload_n 0, 1) := by decide +kernel
theorem dX7_readText_21 : decode cX7_readText 21 = .ok (.getfield 57, 3) := by decide +kernel
theorem dX7_readText_24 : decode cX7_readText 24 = .ok (.iconst 1, 1) := by decide +kernel
theorem dX7_readText_25 : decode cX7_readText 25 = .ok (.iconst 0, 1) := by decide +kernel
theorem dX7_readText_26 : decode cX7_readText 26 = .ok (.iastore, 1) := by decide +kernel
theorem dX7_readText_27 : decode cX7_readText 27 = .ok (.aload_n 0, 1) := by decide +kernel
theorem dX7_readText_28 : decode cX7_readText 28 = .ok (.invokevirtual 222, 3) := by decide +kernel
theorem dX7_readText_31 : decode cX7_readText 31 = .ok (.aload_n 0, 1) := by decide +kernel
theorem dX7_readText_32 : decode cX7_readText 32 = .ok (.getfield 174, 3) := by decide +kernel
theorem dX7_readText_35 : decode cX7_readText 35 = .ok (.ifCond .ge 29, 3) := by decide +kernel
theorem dX7_readText_38 : decode cX7_readText 38 = .ok (.aload_n 0, 1) := by decide +kernel
theorem dX7_readText_39 : decode cX7_readText 39 = .ok (.invokevirtual 186, 3) := by decide +kernel
theorem dX7_readText_42 : decode cX7_readText 42 = .ok (.bipush 59, 2) := by decide +kernel
theorem dX7_readText_44 : decode cX7_readText 44 = .ok (.if_icmp .ne 20, 3) := by decide +kernel
theorem dX7_readText_47 : decode cX7_readText 47 = .ok (.aload_n 0, 1) := by decide +kernel
theorem dX7_readText_48 : decode cX7_readText 48 = .ok (.dup, 1) := by decide +kernel
theorem dX7_readText_49 : decode cX7_readText 49 = .ok (.getfield 171, 3) := by decide +kernel
theorem dX7_readText_52 : decode cX7_readText 52 = .ok (.iconst 1, 1) := by decide +kernel
theorem dX7_readText_53 : decode cX7_readText 53 = .ok (.iadd, 1) := by decide +kernel
theorem dX7_readText_54 : decode cX7_readText 54 = .ok (.putfield 171, 3) := by decide +kernel
theorem dX7_readText_57 : decode cX7_readText 57 = .ok (.aload_n 0, 1) := by decide +kernel
theorem dX7_readText_58 : decode cX7_readText 58 = .ok (.invokevirtual 222, 3) := by decide +kernel
theorem dX7_readText_61 : decode cX7_readText 61 = .ok (.goto (-30), 3) := by decide +kernel
theorem dX7_readText_64 : decode cX7_readText 64 = .ok (.aload_n 0, 1) := by decide +kernel
theorem dX7_readText_65 : decode cX7_readText 65 = .ok (.getfield 174, 3) := by decide +kernel
theorem dX7_readText_68 : decode cX7_readText 68 = .ok (.ifCond .ge 18, 3) := by decide +kernel
theorem dX7_readText_71 : decode cX7_readText 71 = .ok (.aload_n 0, 1) := by decide +kernel
theorem dX7_readText_72 : decode cX7_readText 72 = .ok (.getfield 171, 3) := by decide +kernel
theorem dX7_readText_75 : decode cX7_readText 75 = .ok (.aload_n 0, 1) := by decide +kernel
theorem dX7_readText_76 : decode cX7_readText 76 = .ok (.getfield 168, 3) := by decide +kernel
theorem dX7_readText_79 : decode cX7_readText 79 = .ok (.if_icmp .ge 7, 3) := by decide +kernel
theorem dX7_readText_82 : decode cX7_readText 82 = .ok (.aload_n 0, 1) := by decide +kernel
theorem dX7_readText_83 : decode cX7_readText 83 = .ok (.invokevirtual 183, 3) := by decide +kernel
theorem dX7_readText_86 : decode cX7_readText 86 = .ok (.aload_n 0, 1) := by decide +kernel
theorem dX7_readText_87 : decode cX7_readText 87 = .ok (.iconst 0, 1) := by decide +kernel
theorem dX7_readText_88 : decode cX7_readText 88 = .ok (.putfield 168, 3) := by decide +kernel
theorem dX7_readText_91 : decode cX7_readText 91 = .ok (.aload_n 0, 1) := by decide +kernel
theorem dX7_readText_92 : decode cX7_readText 92 = .ok (.getfield 174, 3) := by decide +kernel
theorem dX7_readText_95 : decode cX7_readText 95 = .ok (.ifCond .lt 8, 3) := by decide +kernel
theorem dX7_readText_98 : decode cX7_readText 98 = .ok (.aload_n 0, 1) := by decide +kernel
theorem dX7_readText_99 : decode cX7_readText 99 = .ok (.getfield 174, 3) := by decide +kernel
theorem dX7_readText_102 : decode cX7_readText 102 = .ok (.ireturn, 1) := by decide +kernel
theorem dX7_readText_103 : decode cX7_readText 103 = .ok (.iconst 0, 1) := by decide +kernel
theorem dX7_readText_104 : decode cX7_readText 104 = .ok (.istore_n 2, 1) := by decide +kernel
theorem dX7_readText_105 : decode cX7_readText 105 = .ok (.iload_n 2, 1) := by decide +kernel
theorem dX7_readText_106 : decode cX7_readText 106 = .ok (.aload_n 0, 1) := by decide +kernel
theorem dX7_readText_107 : decode cX7_readText 107 = .ok (.getfield 177, 3) := by decide +kernel
theorem dX7_readText_110 : decode cX7_readText 110 = .ok (.if_icmp .ge 53, 3) := by decide +kernel
theorem dX7_readText_113 : decode cX7_readText 113 = .ok (.aload_n 0, 1) := by decide +kernel
theorem dX7_readText_114 : decode cX7_readText 114 = .ok (.getfield 51, 3) := by decide +kernel
theorem dX7_readText_117 : decode cX7_readText 117 = .ok (.sipush 130, 3) := by decide +kernel
theorem dX7_readText_120 : decode cX7_readText 120 = .ok (.iload_n 1, 1) := by decide +kernel
theorem dX7_readText_121 : decode cX7_readText 121 = .ok (.imul, 1) := by decide +kernel
theorem dX7_readText_122 : decode cX7_readText 122 = .ok (.iload_n 2, 1) := by decide +kernel
theorem dX7_readText_123 : decode cX7_readText 123 = .ok (.iadd, 1) := by decide +kernel
theorem dX7_readText_124 : decode cX7_readText 124 = .ok (.aload_n 0, 1) := by decide +kernel
theorem dX7_readText_125 : decode cX7_readText 125 = .ok (.getfield 51, 3) := by decide +kernel
theorem dX7_readText_128 : decode cX7_readText 128 = .ok (.sipush 130, 3) := by decide +kernel
theorem dX7_readText_131 : decode cX7_readText 131 = .ok (.iload_n 2, 1) := by decide +kernel
theorem dX7_readText_132 : decode cX7_readText 132 = .ok (.iadd, 1) := by decide +kernel
theorem dX7_readText_133 : decode cX7_readText 133 = .ok (.baload, 1) := by decide +kernel
theorem dX7_readText_134 : decode cX7_readText 134 = .ok (.bastore, 1) := by decide +kernel
theorem dX7_readText_135 : decode cX7_readText 135 = .ok (.aload_n 0, 1) := by decide +kernel
theorem dX7_readText_136 : decode cX7_readText 136 = .ok (.getfield 54, 3) := by decide +kernel
theorem dX7_readText_139 : decode cX7_readText 139 = .ok (.sipush 130, 3) := by decide +kernel
theorem dX7_readText_142 : decode cX7_readText 142 = .ok (.iload_n 1, 1) := by decide +kernel
theorem dX7_readText_143 : decode cX7_readText 143 = .ok (.imul, 1) := by decide +kernel
theorem dX7_readText_144 : decode cX7_readText 144 = .ok (.iload_n 2, 1) := by decide +kernel
theorem dX7_readText_145 : decode cX7_readText 145 = .ok (.iadd, 1) := by decide +kernel
theorem dX7_readText_146 : decode cX7_readText 146 = .ok (.aload_n 0, 1) := by decide +kernel
theorem dX7_readText_147 : decode cX7_readText 147 = .ok (.getfield 54, 3) := by decide +kernel
theorem dX7_readText_150 : decode cX7_readText 150 = .ok (.sipush 130, 3) := by decide +kernel
theorem dX7_readText_153 : decode cX7_readText 153 = .ok (.iload_n 2, 1) := by decide +kernel
theorem dX7_readText_154 : decode cX7_readText 154 = .ok (.iadd, 1) := by decide +kernel
theorem dX7_readText_155 : decode cX7_readText 155 = .ok (.iaload, 1) := by decide +kernel
theorem dX7_readText_156 : decode cX7_readText 156 = .ok (.iastore, 1) := by decide +kernel
theorem dX7_readText_157 : decode cX7_readText 157 = .ok (.iinc 2 1, 3) := by decide +kernel
theorem dX7_readText_160 : decode cX7_readText 160 = .ok (.goto (-55), 3) := by decide +kernel
theorem dX7_readText_163 : decode cX7_readText 163 = .ok (.aload_n 0, 1) := by decide +kernel
theorem dX7_readText_164 : decode cX7_readText 164 = .ok (.getfield 57, 3) := by decide +kernel
theorem dX7_readText_167 : decode cX7_readText 167 = .ok (.iload_n 1, 1) := by decide +kernel
theorem dX7_readText_168 : decode cX7_readText 168 = .ok (.aload_n 0, 1) := by decide +kernel
theorem dX7_readText_169 : decode cX7_readText 169 = .ok (.getfield 57, 3) := by decide +kernel
theorem dX7_readText_172 : decode cX7_readText 172 = .ok (.iconst 1, 1) := by decide +kernel
theorem dX7_readText_173 : decode cX7_readText 173 = .ok (.iaload, 1) := by decide +kernel
theorem dX7_readText_174 : decode cX7_readText 174 = .ok (.iastore, 1) := by decide +kernel
theorem dX7_readText_175 : decode cX7_readText 175 = .ok (.iconst 0, 1) := by decide +kernel
theorem dX7_readText_176 : decode cX7_readText 176 = .ok (.istore_n 2, 1) := by decide +kernel
theorem dX7_readText_177 : decode cX7_readText 177 = .ok (.iload_n 2, 1) := by decide +kernel
theorem dX7_readText_178 : decode cX7_readText 178 = .ok (.aload_n 0, 1) := by decide +kernel
theorem dX7_readText_179 : decode cX7_readText 179 = .ok (.getfield 57, 3) := by decide +kernel
theorem dX7_readText_182 : decode cX7_readText 182 = .ok (.iload_n 1, 1) := by decide +kernel
theorem dX7_readText_183 : decode cX7_readText 183 = .ok (.iaload, 1) := by decide +kernel
theorem dX7_readText_184 : decode cX7_readText 184 = .ok (.if_icmp .ge 49, 3) := by decide +kernel
theorem dX7_readText_187 : decode cX7_readText 187 = .ok (.aload_n 0, 1) := by decide +kernel
theorem dX7_readText_188 : decode cX7_readText 188 = .ok (.getfield 60, 3) := by decide +kernel
theorem dX7_readText_191 : decode cX7_readText 191 = .ok (.bipush 61, 2) := by decide +kernel
theorem dX7_readText_193 : decode cX7_readText 193 = .ok (.iload_n 1, 1) := by decide +kernel
theorem dX7_readText_194 : decode cX7_readText 194 = .ok (.imul, 1) := by decide +kernel
theorem dX7_readText_195 : decode cX7_readText 195 = .ok (.iload_n 2, 1) := by decide +kernel
theorem dX7_readText_196 : decode cX7_readText 196 = .ok (.iadd, 1) := by decide +kernel
theorem dX7_readText_197 : decode cX7_readText 197 = .ok (.aload_n 0, 1) := by decide +kernel
theorem dX7_readText_198 : decode cX7_readText 198 = .ok (.getfield 60, 3) := by decide +kernel
theorem dX7_readText_201 : decode cX7_readText 201 = .ok (.bipush 61, 2) := by decide +kernel
theorem dX7_readText_203 : decode cX7_readText 203 = .ok (.iload_n 2, 1) := by decide +kernel
theorem dX7_readText_204 : decode cX7_readText 204 = .ok (.iadd, 1) := by decide +kernel
theorem dX7_readText_205 : decode cX7_readText 205 = .ok (.saload, 1) := by decide +kernel
theorem dX7_readText_206 : decode cX7_readText 206 = .ok (.sastore, 1) := by decide +kernel
theorem dX7_readText_207 : decode cX7_readText 207 = .ok (.aload_n 0, 1) := by decide +kernel
theorem dX7_readText_208 : decode cX7_readText 208 = .ok (.getfield 64, 3) := by decide +kernel
theorem dX7_readText_211 : decode cX7_readText 211 = .ok (.bipush 61, 2) := by decide +kernel
theorem dX7_readText_213 : decode cX7_readText 213 = .ok (.iload_n 1, 1) := by decide +kernel
theorem dX7_readText_214 : decode cX7_readText 214 = .ok (.imul, 1) := by decide +kernel
theorem dX7_readText_215 : decode cX7_readText 215 = .ok (.iload_n 2, 1) := by decide +kernel
theorem dX7_readText_216 : decode cX7_readText 216 = .ok (.iadd, 1) := by decide +kernel
theorem dX7_readText_217 : decode cX7_readText 217 = .ok (.aload_n 0, 1) := by decide +kernel
theorem dX7_readText_218 : decode cX7_readText 218 = .ok (.getfield 64, 3) := by decide +kernel
theorem dX7_readText_221 : decode cX7_readText 221 = .ok (.bipush 61, 2) := by decide +kernel
theorem dX7_readText_223 : decode cX7_readText 223 = .ok (.iload_n 2, 1) := by decide +kernel
theorem dX7_readText_224 : decode cX7_readText 224 = .ok (.iadd, 1) := by decide +kernel
theorem dX7_readText_225 : decode cX7_readText 225 = .ok (.saload, 1) := by decide +kernel
theorem dX7_readText_226 : decode cX7_readText 226 = .ok (.sastore, 1) := by decide +kernel
theorem dX7_readText_227 : decode cX7_readText 227 = .ok (.iinc 2 1, 3) := by decide +kernel
theorem dX7_readText_230 : decode cX7_readText 230 = .ok (.goto (-53), 3) := by decide +kernel
theorem dX7_readText_233 : decode cX7_readText 233 = .ok (.iconst (-1), 1) := by decide +kernel
theorem dX7_readText_234 : decode cX7_readText 234 = .ok (.ireturn, 1) := by decide +kernel
theorem dX7_twoOf_0 : decode cX7_twoOf 0 = .ok (.iload_n 0, 1) := by decide +kernel
theorem dX7_twoOf_1 : decode cX7_twoOf 1 = .ok (.tableswitch 217 37 62 #[153, 203, 217, 217, 217, 127, 119, 217, 123, 217, 131, 217, 217, 217, 217, 217, 217, 217, 217, 217, 217, 217, 217, 170, 181, 192], 119) := by decide +kernel
theorem dX7_twoOf_120 : decode cX7_twoOf 120 = .ok (.iload_n 1, 1) := by decide +kernel
theorem dX7_twoOf_121 : decode cX7_twoOf 121 = .ok (.iload_n 2, 1) := by decide +kernel
theorem dX7_twoOf_122 : decode cX7_twoOf 122 = .ok (.iadd, 1) := by decide +kernel
theorem dX7_twoOf_123 : decode cX7_twoOf 123 = .ok (.ireturn, 1) := by decide +kernel
theorem dX7_twoOf_124 : decode cX7_twoOf 124 = .ok (.iload_n 1, 1) := by decide +kernel
theorem dX7_twoOf_125 : decode cX7_twoOf 125 = .ok (.iload_n 2, 1) := by decide +kernel
theorem dX7_twoOf_126 : decode cX7_twoOf 126 = .ok (.isub, 1) := by decide +kernel
theorem dX7_twoOf_127 : decode cX7_twoOf 127 = .ok (.ireturn, 1) := by decide +kernel
theorem dX7_twoOf_128 : decode cX7_twoOf 128 = .ok (.iload_n 1, 1) := by decide +kernel
theorem dX7_twoOf_129 : decode cX7_twoOf 129 = .ok (.iload_n 2, 1) := by decide +kernel
theorem dX7_twoOf_130 : decode cX7_twoOf 130 = .ok (.imul, 1) := by decide +kernel
theorem dX7_twoOf_131 : decode cX7_twoOf 131 = .ok (.ireturn, 1) := by decide +kernel
theorem dX7_twoOf_132 : decode cX7_twoOf 132 = .ok (.iload_n 2, 1) := by decide +kernel
theorem dX7_twoOf_133 : decode cX7_twoOf 133 = .ok (.ifCond .ne 7, 3) := by decide +kernel
theorem dX7_twoOf_136 : decode cX7_twoOf 136 = .ok (.iconst 0, 1) := by decide +kernel
theorem dX7_twoOf_137 : decode cX7_twoOf 137 = .ok (.goto 16, 3) := by decide +kernel
theorem dX7_twoOf_140 : decode cX7_twoOf 140 = .ok (.iload_n 2, 1) := by decide +kernel
theorem dX7_twoOf_141 : decode cX7_twoOf 141 = .ok (.iconst (-1), 1) := by decide +kernel
theorem dX7_twoOf_142 : decode cX7_twoOf 142 = .ok (.if_icmp .ne 8, 3) := by decide +kernel
theorem dX7_twoOf_145 : decode cX7_twoOf 145 = .ok (.iload_n 1, 1) := by decide +kernel
theorem dX7_twoOf_146 : decode cX7_twoOf 146 = .ok (.ineg, 1) := by decide +kernel
theorem dX7_twoOf_147 : decode cX7_twoOf 147 = .ok (.goto 6, 3) := by decide +kernel
theorem dX7_twoOf_150 : decode cX7_twoOf 150 = .ok (.iload_n 1, 1) := by decide +kernel
theorem dX7_twoOf_151 : decode cX7_twoOf 151 = .ok (.iload_n 2, 1) := by decide +kernel
theorem dX7_twoOf_152 : decode cX7_twoOf 152 = .ok (.idiv, 1) := by decide +kernel
theorem dX7_twoOf_153 : decode cX7_twoOf 153 = .ok (.ireturn, 1) := by decide +kernel
theorem dX7_twoOf_154 : decode cX7_twoOf 154 = .ok (.iload_n 2, 1) := by decide +kernel
theorem dX7_twoOf_155 : decode cX7_twoOf 155 = .ok (.ifCond .eq 8, 3) := by decide +kernel
theorem dX7_twoOf_158 : decode cX7_twoOf 158 = .ok (.iload_n 2, 1) := by decide +kernel
theorem dX7_twoOf_159 : decode cX7_twoOf 159 = .ok (.iconst (-1), 1) := by decide +kernel
theorem dX7_twoOf_160 : decode cX7_twoOf 160 = .ok (.if_icmp .ne 7, 3) := by decide +kernel
theorem dX7_twoOf_163 : decode cX7_twoOf 163 = .ok (.iconst 0, 1) := by decide +kernel
theorem dX7_twoOf_164 : decode cX7_twoOf 164 = .ok (.goto 6, 3) := by decide +kernel
theorem dX7_twoOf_167 : decode cX7_twoOf 167 = .ok (.iload_n 1, 1) := by decide +kernel
theorem dX7_twoOf_168 : decode cX7_twoOf 168 = .ok (.iload_n 2, 1) := by decide +kernel
theorem dX7_twoOf_169 : decode cX7_twoOf 169 = .ok (.irem, 1) := by decide +kernel
theorem dX7_twoOf_170 : decode cX7_twoOf 170 = .ok (.ireturn, 1) := by decide +kernel
theorem dX7_twoOf_171 : decode cX7_twoOf 171 = .ok (.iload_n 1, 1) := by decide +kernel
theorem dX7_twoOf_172 : decode cX7_twoOf 172 = .ok (.iload_n 2, 1) := by decide +kernel
theorem dX7_twoOf_173 : decode cX7_twoOf 173 = .ok (.if_icmp .ge 7, 3) := by decide +kernel
theorem dX7_twoOf_176 : decode cX7_twoOf 176 = .ok (.iconst 1, 1) := by decide +kernel
theorem dX7_twoOf_177 : decode cX7_twoOf 177 = .ok (.goto 4, 3) := by decide +kernel
theorem dX7_twoOf_180 : decode cX7_twoOf 180 = .ok (.iconst 0, 1) := by decide +kernel
theorem dX7_twoOf_181 : decode cX7_twoOf 181 = .ok (.ireturn, 1) := by decide +kernel
theorem dX7_twoOf_182 : decode cX7_twoOf 182 = .ok (.iload_n 1, 1) := by decide +kernel
theorem dX7_twoOf_183 : decode cX7_twoOf 183 = .ok (.iload_n 2, 1) := by decide +kernel
theorem dX7_twoOf_184 : decode cX7_twoOf 184 = .ok (.if_icmp .ne 7, 3) := by decide +kernel
theorem dX7_twoOf_187 : decode cX7_twoOf 187 = .ok (.iconst 1, 1) := by decide +kernel
theorem dX7_twoOf_188 : decode cX7_twoOf 188 = .ok (.goto 4, 3) := by decide +kernel
theorem dX7_twoOf_191 : decode cX7_twoOf 191 = .ok (.iconst 0, 1) := by decide +kernel
theorem dX7_twoOf_192 : decode cX7_twoOf 192 = .ok (.ireturn, 1) := by decide +kernel
theorem dX7_twoOf_193 : decode cX7_twoOf 193 = .ok (.iload_n 1, 1) := by decide +kernel
theorem dX7_twoOf_194 : decode cX7_twoOf 194 = .ok (.iload_n 2, 1) := by decide +kernel
theorem dX7_twoOf_195 : decode cX7_twoOf 195 = .ok (.if_icmp .le 7, 3) := by decide +kernel
theorem dX7_twoOf_198 : decode cX7_twoOf 198 = .ok (.iconst 1, 1) := by decide +kernel
theorem dX7_twoOf_199 : decode cX7_twoOf 199 = .ok (.goto 4, 3) := by decide +kernel
theorem dX7_twoOf_202 : decode cX7_twoOf 202 = .ok (.iconst 0, 1) := by decide +kernel
theorem dX7_twoOf_203 : decode cX7_twoOf 203 = .ok (.ireturn, 1) := by decide +kernel
theorem dX7_twoOf_204 : decode cX7_twoOf 204 = .ok (.iload_n 1, 1) := by decide +kernel
theorem dX7_twoOf_205 : decode cX7_twoOf 205 = .ok (.ifCond .eq 11, 3) := by decide +kernel
theorem dX7_twoOf_208 : decode cX7_twoOf 208 = .ok (.iload_n 2, 1) := by decide +kernel
theorem dX7_twoOf_209 : decode cX7_twoOf 209 = .ok (.ifCond .eq 7, 3) := by decide +kernel
theorem dX7_twoOf_212 : decode cX7_twoOf 212 = .ok (.iconst 1, 1) := by decide +kernel
theorem dX7_twoOf_213 : decode cX7_twoOf 213 = .ok (.goto 4, 3) := by decide +kernel
theorem dX7_twoOf_216 : decode cX7_twoOf 216 = .ok (.iconst 0, 1) := by decide +kernel
theorem dX7_twoOf_217 : decode cX7_twoOf 217 = .ok (.ireturn, 1) := by decide +kernel
theorem dX7_twoOf_218 : decode cX7_twoOf 218 = .ok (.iload_n 1, 1) := by decide +kernel
theorem dX7_twoOf_219 : decode cX7_twoOf 219 = .ok (.ifCond .ne 7, 3) := by decide +kernel
theorem dX7_twoOf_222 : decode cX7_twoOf 222 = .ok (.iload_n 2, 1) := by decide +kernel
theorem dX7_twoOf_223 : decode cX7_twoOf 223 = .ok (.ifCond .eq 7, 3) := by decide +kernel
theorem dX7_twoOf_226 : decode cX7_twoOf 226 = .ok (.iconst 1, 1) := by decide +kernel
theorem dX7_twoOf_227 : decode cX7_twoOf 227 = .ok (.goto 4, 3) := by decide +kernel
theorem dX7_twoOf_230 : decode cX7_twoOf 230 = .ok (.iconst 0, 1) := by decide +kernel
theorem dX7_twoOf_231 : decode cX7_twoOf 231 = .ok (.ireturn, 1) := by decide +kernel
theorem dX7_worked_0 : decode cX7_worked 0 = .ok (.iconst 0, 1) := by decide +kernel
theorem dX7_worked_1 : decode cX7_worked 1 = .ok (.istore 4, 2) := by decide +kernel
theorem dX7_worked_3 : decode cX7_worked 3 = .ok (.sipush 130, 3) := by decide +kernel
theorem dX7_worked_6 : decode cX7_worked 6 = .ok (.iload_n 1, 1) := by decide +kernel
theorem dX7_worked_7 : decode cX7_worked 7 = .ok (.imul, 1) := by decide +kernel
theorem dX7_worked_8 : decode cX7_worked 8 = .ok (.iload_n 2, 1) := by decide +kernel
theorem dX7_worked_9 : decode cX7_worked 9 = .ok (.iadd, 1) := by decide +kernel
theorem dX7_worked_10 : decode cX7_worked 10 = .ok (.istore 5, 2) := by decide +kernel
theorem dX7_worked_12 : decode cX7_worked 12 = .ok (.iload 5, 2) := by decide +kernel
theorem dX7_worked_14 : decode cX7_worked 14 = .ok (.sipush 130, 3) := by decide +kernel
theorem dX7_worked_17 : decode cX7_worked 17 = .ok (.iload_n 1, 1) := by decide +kernel
theorem dX7_worked_18 : decode cX7_worked 18 = .ok (.imul, 1) := by decide +kernel
theorem dX7_worked_19 : decode cX7_worked 19 = .ok (.iload_n 3, 1) := by decide +kernel
theorem dX7_worked_20 : decode cX7_worked 20 = .ok (.iadd, 1) := by decide +kernel
theorem dX7_worked_21 : decode cX7_worked 21 = .ok (.if_icmp .ge 167, 3) := by decide +kernel
theorem dX7_worked_24 : decode cX7_worked 24 = .ok (.aload_n 0, 1) := by decide +kernel
theorem dX7_worked_25 : decode cX7_worked 25 = .ok (.getfield 51, 3) := by decide +kernel
theorem dX7_worked_28 : decode cX7_worked 28 = .ok (.iload 5, 2) := by decide +kernel
theorem dX7_worked_30 : decode cX7_worked 30 = .ok (.baload, 1) := by decide +kernel
theorem dX7_worked_31 : decode cX7_worked 31 = .ok (.istore 6, 2) := by decide +kernel
theorem dX7_worked_33 : decode cX7_worked 33 = .ok (.iload 6, 2) := by decide +kernel
theorem dX7_worked_35 : decode cX7_worked 35 = .ok (.iconst 1, 1) := by decide +kernel
theorem dX7_worked_36 : decode cX7_worked 36 = .ok (.if_icmp .eq 9, 3) := by decide +kernel
theorem dX7_worked_39 : decode cX7_worked 39 = .ok (.iload 6, 2) := by decide +kernel
theorem dX7_worked_41 : decode cX7_worked 41 = .ok (.iconst 2, 1) := by decide +kernel
theorem dX7_worked_42 : decode cX7_worked 42 = .ok (.if_icmp .ne 44, 3) := by decide +kernel
theorem dX7_worked_45 : decode cX7_worked 45 = .ok (.aload_n 0, 1) := by decide +kernel
theorem dX7_worked_46 : decode cX7_worked 46 = .ok (.getfield 70, 3) := by decide +kernel
theorem dX7_worked_49 : decode cX7_worked 49 = .ok (.iload 4, 2) := by decide +kernel
theorem dX7_worked_51 : decode cX7_worked 51 = .ok (.iload 6, 2) := by decide +kernel
theorem dX7_worked_53 : decode cX7_worked 53 = .ok (.iconst 1, 1) := by decide +kernel
theorem dX7_worked_54 : decode cX7_worked 54 = .ok (.if_icmp .ne 13, 3) := by decide +kernel
theorem dX7_worked_57 : decode cX7_worked 57 = .ok (.aload_n 0, 1) := by decide +kernel
theorem dX7_worked_58 : decode cX7_worked 58 = .ok (.getfield 54, 3) := by decide +kernel
theorem dX7_worked_61 : decode cX7_worked 61 = .ok (.iload 5, 2) := by decide +kernel
theorem dX7_worked_63 : decode cX7_worked 63 = .ok (.iaload, 1) := by decide +kernel
theorem dX7_worked_64 : decode cX7_worked 64 = .ok (.goto 15, 3) := by decide +kernel
theorem dX7_worked_67 : decode cX7_worked 67 = .ok (.aload_n 0, 1) := by decide +kernel
theorem dX7_worked_68 : decode cX7_worked 68 = .ok (.getfield 67, 3) := by decide +kernel
theorem dX7_worked_71 : decode cX7_worked 71 = .ok (.aload_n 0, 1) := by decide +kernel
theorem dX7_worked_72 : decode cX7_worked 72 = .ok (.getfield 54, 3) := by decide +kernel
theorem dX7_worked_75 : decode cX7_worked 75 = .ok (.iload 5, 2) := by decide +kernel
theorem dX7_worked_77 : decode cX7_worked 77 = .ok (.iaload, 1) := by decide +kernel
theorem dX7_worked_78 : decode cX7_worked 78 = .ok (.iaload, 1) := by decide +kernel
theorem dX7_worked_79 : decode cX7_worked 79 = .ok (.iastore, 1) := by decide +kernel
theorem dX7_worked_80 : decode cX7_worked 80 = .ok (.iinc 4 1, 3) := by decide +kernel
theorem dX7_worked_83 : decode cX7_worked 83 = .ok (.goto 99, 3) := by decide +kernel
theorem dX7_worked_86 : decode cX7_worked 86 = .ok (.iload 6, 2) := by decide +kernel
theorem dX7_worked_88 : decode cX7_worked 88 = .ok (.iconst 3, 1) := by decide +kernel
theorem dX7_worked_89 : decode cX7_worked 89 = .ok (.if_icmp .ne 32, 3) := by decide +kernel
theorem dX7_worked_92 : decode cX7_worked 92 = .ok (.aload_n 0, 1) := by decide +kernel
theorem dX7_worked_93 : decode cX7_worked 93 = .ok (.getfield 70, 3) := by decide +kernel
theorem dX7_worked_96 : decode cX7_worked 96 = .ok (.iload 4, 2) := by decide +kernel
theorem dX7_worked_98 : decode cX7_worked 98 = .ok (.iconst 1, 1) := by decide +kernel
theorem dX7_worked_99 : decode cX7_worked 99 = .ok (.isub, 1) := by decide +kernel
theorem dX7_worked_100 : decode cX7_worked 100 = .ok (.aload_n 0, 1) := by decide +kernel
theorem dX7_worked_101 : decode cX7_worked 101 = .ok (.getfield 70, 3) := by decide +kernel
theorem dX7_worked_104 : decode cX7_worked 104 = .ok (.iload 4, 2) := by decide +kernel
theorem dX7_worked_106 : decode cX7_worked 106 = .ok (.iconst 1, 1) := by decide +kernel
theorem dX7_worked_107 : decode cX7_worked 107 = .ok (.isub, 1) := by decide +kernel
theorem dX7_worked_108 : decode cX7_worked 108 = .ok (.iaload, 1) := by decide +kernel
theorem dX7_worked_109 : decode cX7_worked 109 = .ok (.ifCond .ne 7, 3) := by decide +kernel
theorem dX7_worked_112 : decode cX7_worked 112 = .ok (.iconst 1, 1) := by decide +kernel
theorem dX7_worked_113 : decode cX7_worked 113 = .ok (.goto 4, 3) := by decide +kernel
theorem dX7_worked_116 : decode cX7_worked 116 = .ok (.iconst 0, 1) := by decide +kernel
theorem dX7_worked_117 : decode cX7_worked 117 = .ok (.iastore, 1) := by decide +kernel
theorem dX7_worked_118 : decode cX7_worked 118 = .ok (.goto 64, 3) := by decide +kernel
theorem dX7_worked_121 : decode cX7_worked 121 = .ok (.iload 6, 2) := by decide +kernel
theorem dX7_worked_123 : decode cX7_worked 123 = .ok (.iconst 4, 1) := by decide +kernel
theorem dX7_worked_124 : decode cX7_worked 124 = .ok (.if_icmp .ne 25, 3) := by decide +kernel
theorem dX7_worked_127 : decode cX7_worked 127 = .ok (.aload_n 0, 1) := by decide +kernel
theorem dX7_worked_128 : decode cX7_worked 128 = .ok (.getfield 70, 3) := by decide +kernel
theorem dX7_worked_131 : decode cX7_worked 131 = .ok (.iload 4, 2) := by decide +kernel
theorem dX7_worked_133 : decode cX7_worked 133 = .ok (.iconst 1, 1) := by decide +kernel
theorem dX7_worked_134 : decode cX7_worked 134 = .ok (.isub, 1) := by decide +kernel
theorem dX7_worked_135 : decode cX7_worked 135 = .ok (.aload_n 0, 1) := by decide +kernel
theorem dX7_worked_136 : decode cX7_worked 136 = .ok (.getfield 70, 3) := by decide +kernel
theorem dX7_worked_139 : decode cX7_worked 139 = .ok (.iload 4, 2) := by decide +kernel
theorem dX7_worked_141 : decode cX7_worked 141 = .ok (.iconst 1, 1) := by decide +kernel
theorem dX7_worked_142 : decode cX7_worked 142 = .ok (.isub, 1) := by decide +kernel
theorem dX7_worked_143 : decode cX7_worked 143 = .ok (.iaload, 1) := by decide +kernel
theorem dX7_worked_144 : decode cX7_worked 144 = .ok (.ineg, 1) := by decide +kernel
theorem dX7_worked_145 : decode cX7_worked 145 = .ok (.iastore, 1) := by decide +kernel
theorem dX7_worked_146 : decode cX7_worked 146 = .ok (.goto 36, 3) := by decide +kernel
theorem dX7_worked_149 : decode cX7_worked 149 = .ok (.iinc 4 (-1), 3) := by decide +kernel
theorem dX7_worked_152 : decode cX7_worked 152 = .ok (.aload_n 0, 1) := by decide +kernel
theorem dX7_worked_153 : decode cX7_worked 153 = .ok (.getfield 70, 3) := by decide +kernel
theorem dX7_worked_156 : decode cX7_worked 156 = .ok (.iload 4, 2) := by decide +kernel
theorem dX7_worked_158 : decode cX7_worked 158 = .ok (.iconst 1, 1) := by decide +kernel
theorem dX7_worked_159 : decode cX7_worked 159 = .ok (.isub, 1) := by decide +kernel
theorem dX7_worked_160 : decode cX7_worked 160 = .ok (.iload 6, 2) := by decide +kernel
theorem dX7_worked_162 : decode cX7_worked 162 = .ok (.aload_n 0, 1) := by decide +kernel
theorem dX7_worked_163 : decode cX7_worked 163 = .ok (.getfield 70, 3) := by decide +kernel
theorem dX7_worked_166 : decode cX7_worked 166 = .ok (.iload 4, 2) := by decide +kernel
theorem dX7_worked_168 : decode cX7_worked 168 = .ok (.iconst 1, 1) := by decide +kernel
theorem dX7_worked_169 : decode cX7_worked 169 = .ok (.isub, 1) := by decide +kernel
theorem dX7_worked_170 : decode cX7_worked 170 = .ok (.iaload, 1) := by decide +kernel
theorem dX7_worked_171 : decode cX7_worked 171 = .ok (.aload_n 0, 1) := by decide +kernel
theorem dX7_worked_172 : decode cX7_worked 172 = .ok (.getfield 70, 3) := by decide +kernel
theorem dX7_worked_175 : decode cX7_worked 175 = .ok (.iload 4, 2) := by decide +kernel
theorem dX7_worked_177 : decode cX7_worked 177 = .ok (.iaload, 1) := by decide +kernel
theorem dX7_worked_178 : decode cX7_worked 178 = .ok (.invokestatic 225, 3) := by decide +kernel
theorem dX7_worked_181 : decode cX7_worked 181 = .ok (.iastore, 1) := by decide +kernel
theorem dX7_worked_182 : decode cX7_worked 182 = .ok (.iinc 5 1, 3) := by decide +kernel
theorem dX7_worked_185 : decode cX7_worked 185 = .ok (.goto (-173), 3) := by decide +kernel
theorem dX7_worked_188 : decode cX7_worked 188 = .ok (.aload_n 0, 1) := by decide +kernel
theorem dX7_worked_189 : decode cX7_worked 189 = .ok (.getfield 70, 3) := by decide +kernel
theorem dX7_worked_192 : decode cX7_worked 192 = .ok (.iconst 0, 1) := by decide +kernel
theorem dX7_worked_193 : decode cX7_worked 193 = .ok (.iaload, 1) := by decide +kernel
theorem dX7_worked_194 : decode cX7_worked 194 = .ok (.ireturn, 1) := by decide +kernel
theorem dX7_gives_0 : decode cX7_gives 0 = .ok (.iconst 0, 1) := by decide +kernel
theorem dX7_gives_1 : decode cX7_gives 1 = .ok (.istore_n 2, 1) := by decide +kernel
theorem dX7_gives_2 : decode cX7_gives 2 = .ok (.bipush 61, 2) := by decide +kernel
theorem dX7_gives_4 : decode cX7_gives 4 = .ok (.iload_n 1, 1) := by decide +kernel
theorem dX7_gives_5 : decode cX7_gives 5 = .ok (.imul, 1) := by decide +kernel
theorem dX7_gives_6 : decode cX7_gives 6 = .ok (.istore_n 3, 1) := by decide +kernel
theorem dX7_gives_7 : decode cX7_gives 7 = .ok (.iload_n 3, 1) := by decide +kernel
theorem dX7_gives_8 : decode cX7_gives 8 = .ok (.bipush 61, 2) := by decide +kernel
theorem dX7_gives_10 : decode cX7_gives 10 = .ok (.iload_n 1, 1) := by decide +kernel
theorem dX7_gives_11 : decode cX7_gives 11 = .ok (.imul, 1) := by decide +kernel
theorem dX7_gives_12 : decode cX7_gives 12 = .ok (.aload_n 0, 1) := by decide +kernel
theorem dX7_gives_13 : decode cX7_gives 13 = .ok (.getfield 57, 3) := by decide +kernel
theorem dX7_gives_16 : decode cX7_gives 16 = .ok (.iload_n 1, 1) := by decide +kernel
theorem dX7_gives_17 : decode cX7_gives 17 = .ok (.iaload, 1) := by decide +kernel
theorem dX7_gives_18 : decode cX7_gives 18 = .ok (.iadd, 1) := by decide +kernel
theorem dX7_gives_19 : decode cX7_gives 19 = .ok (.if_icmp .ge 59, 3) := by decide +kernel
theorem dX7_gives_22 : decode cX7_gives 22 = .ok (.aload_n 0, 1) := by decide +kernel
theorem dX7_gives_23 : decode cX7_gives 23 = .ok (.getfield 60, 3) := by decide +kernel
theorem dX7_gives_26 : decode cX7_gives 26 = .ok (.iload_n 3, 1) := by decide +kernel
theorem dX7_gives_27 : decode cX7_gives 27 = .ok (.saload, 1) := by decide +kernel
theorem dX7_gives_28 : decode cX7_gives 28 = .ok (.iload_n 2, 1) := by decide +kernel
theorem dX7_gives_29 : decode cX7_gives 29 = .ok (.if_icmp .eq 18, 3) := by decide +kernel
theorem dX7_gives_32 : decode cX7_gives 32 = .ok (.aload_n 0, 1) := by decide +kernel
theorem dX7_gives_33 : decode cX7_gives 33 = .ok (.iload_n 1, 1) := by decide +kernel
theorem dX7_gives_34 : decode cX7_gives 34 = .ok (.iload_n 2, 1) := by decide +kernel
theorem dX7_gives_35 : decode cX7_gives 35 = .ok (.aload_n 0, 1) := by decide +kernel
theorem dX7_gives_36 : decode cX7_gives 36 = .ok (.getfield 60, 3) := by decide +kernel
theorem dX7_gives_39 : decode cX7_gives 39 = .ok (.iload_n 3, 1) := by decide +kernel
theorem dX7_gives_40 : decode cX7_gives 40 = .ok (.saload, 1) := by decide +kernel
theorem dX7_gives_41 : decode cX7_gives 41 = .ok (.invokevirtual 228, 3) := by decide +kernel
theorem dX7_gives_44 : decode cX7_gives 44 = .ok (.ifCond .eq 21, 3) := by decide +kernel
theorem dX7_gives_47 : decode cX7_gives 47 = .ok (.aload_n 0, 1) := by decide +kernel
theorem dX7_gives_48 : decode cX7_gives 48 = .ok (.iload_n 1, 1) := by decide +kernel
theorem dX7_gives_49 : decode cX7_gives 49 = .ok (.aload_n 0, 1) := by decide +kernel
theorem dX7_gives_50 : decode cX7_gives 50 = .ok (.getfield 60, 3) := by decide +kernel
theorem dX7_gives_53 : decode cX7_gives 53 = .ok (.iload_n 3, 1) := by decide +kernel
theorem dX7_gives_54 : decode cX7_gives 54 = .ok (.saload, 1) := by decide +kernel
theorem dX7_gives_55 : decode cX7_gives 55 = .ok (.aload_n 0, 1) := by decide +kernel
theorem dX7_gives_56 : decode cX7_gives 56 = .ok (.getfield 64, 3) := by decide +kernel
theorem dX7_gives_59 : decode cX7_gives 59 = .ok (.iload_n 3, 1) := by decide +kernel
theorem dX7_gives_60 : decode cX7_gives 60 = .ok (.saload, 1) := by decide +kernel
theorem dX7_gives_61 : decode cX7_gives 61 = .ok (.invokevirtual 228, 3) := by decide +kernel
theorem dX7_gives_64 : decode cX7_gives 64 = .ok (.ireturn, 1) := by decide +kernel
theorem dX7_gives_65 : decode cX7_gives 65 = .ok (.aload_n 0, 1) := by decide +kernel
theorem dX7_gives_66 : decode cX7_gives 66 = .ok (.getfield 64, 3) := by decide +kernel
theorem dX7_gives_69 : decode cX7_gives 69 = .ok (.iload_n 3, 1) := by decide +kernel
theorem dX7_gives_70 : decode cX7_gives 70 = .ok (.saload, 1) := by decide +kernel
theorem dX7_gives_71 : decode cX7_gives 71 = .ok (.istore_n 2, 1) := by decide +kernel
theorem dX7_gives_72 : decode cX7_gives 72 = .ok (.iinc 3 1, 3) := by decide +kernel
theorem dX7_gives_75 : decode cX7_gives 75 = .ok (.goto (-68), 3) := by decide +kernel
theorem dX7_gives_78 : decode cX7_gives 78 = .ok (.iconst 0, 1) := by decide +kernel
theorem dX7_gives_79 : decode cX7_gives 79 = .ok (.ireturn, 1) := by decide +kernel
theorem dX7_law_0 : decode cX7_law 0 = .ok (.aload_n 0, 1) := by decide +kernel
theorem dX7_law_1 : decode cX7_law 1 = .ok (.iconst 0, 1) := by decide +kernel
theorem dX7_law_2 : decode cX7_law 2 = .ok (.invokevirtual 231, 3) := by decide +kernel
theorem dX7_law_5 : decode cX7_law 5 = .ok (.istore_n 1, 1) := by decide +kernel
theorem dX7_law_6 : decode cX7_law 6 = .ok (.iload_n 1, 1) := by decide +kernel
theorem dX7_law_7 : decode cX7_law 7 = .ok (.ifCond .lt 8, 3) := by decide +kernel
theorem dX7_law_10 : decode cX7_law 10 = .ok (.bipush (-100), 2) := by decide +kernel
theorem dX7_law_12 : decode cX7_law 12 = .ok (.iload_n 1, 1) := by decide +kernel
theorem dX7_law_13 : decode cX7_law 13 = .ok (.isub, 1) := by decide +kernel
theorem dX7_law_14 : decode cX7_law 14 = .ok (.ireturn, 1) := by decide +kernel
theorem dX7_law_15 : decode cX7_law 15 = .ok (.aload_n 0, 1) := by decide +kernel
theorem dX7_law_16 : decode cX7_law 16 = .ok (.iconst 1, 1) := by decide +kernel
theorem dX7_law_17 : decode cX7_law 17 = .ok (.putfield 234, 3) := by decide +kernel
theorem dX7_law_20 : decode cX7_law 20 = .ok (.iconst 1, 1) := by decide +kernel
theorem dX7_law_21 : decode cX7_law 21 = .ok (.ireturn, 1) := by decide +kernel
theorem dX7_joinsOf_0 : decode cX7_joinsOf 0 = .ok (.iconst 0, 1) := by decide +kernel
theorem dX7_joinsOf_1 : decode cX7_joinsOf 1 = .ok (.istore_n 2, 1) := by decide +kernel
theorem dX7_joinsOf_2 : decode cX7_joinsOf 2 = .ok (.iconst 0, 1) := by decide +kernel
theorem dX7_joinsOf_3 : decode cX7_joinsOf 3 = .ok (.istore_n 3, 1) := by decide +kernel
theorem dX7_joinsOf_4 : decode cX7_joinsOf 4 = .ok (.iload_n 3, 1) := by decide +kernel
theorem dX7_joinsOf_5 : decode cX7_joinsOf 5 = .ok (.aload_n 0, 1) := by decide +kernel
