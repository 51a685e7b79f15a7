theorem dX7_breaks_52 : decode cX7_breaks 52 = .ok (.aload_n 0, 1) := by decide +kernel
theorem dX7_breaks_53 : decode cX7_breaks 53 = .ok (.getfield 25, 3) := by decide +kernel
theorem dX7_breaks_56 : decode cX7_breaks 56 = .ok (.iload 4, 2) := by decide +kernel
theorem dX7_breaks_58 : decode cX7_breaks 58 = .ok (.iaload, 1) := by decide +kernel
theorem dX7_breaks_59 : decode cX7_breaks 59 = .ok (.iastore, 1) := by decide +kernel
theorem dX7_breaks_60 : decode cX7_breaks 60 = .ok (.aload_n 0, 1) := by decide +kernel
theorem dX7_breaks_61 : decode cX7_breaks 61 = .ok (.dup, 1) := by decide +kernel
theorem dX7_breaks_62 : decode cX7_breaks 62 = .ok (.getfield 122, 3) := by decide +kernel
theorem dX7_breaks_65 : decode cX7_breaks 65 = .ok (.iconst 1, 1) := by decide +kernel
theorem dX7_breaks_66 : decode cX7_breaks 66 = .ok (.iadd, 1) := by decide +kernel
theorem dX7_breaks_67 : decode cX7_breaks 67 = .ok (.putfield 122, 3) := by decide +kernel
theorem dX7_breaks_70 : decode cX7_breaks 70 = .ok (.aload_n 0, 1) := by decide +kernel
theorem dX7_breaks_71 : decode cX7_breaks 71 = .ok (.iconst 0, 1) := by decide +kernel
theorem dX7_breaks_72 : decode cX7_breaks 72 = .ok (.invokevirtual 276, 3) := by decide +kernel
theorem dX7_breaks_75 : decode cX7_breaks 75 = .ok (.istore 5, 2) := by decide +kernel
theorem dX7_breaks_77 : decode cX7_breaks 77 = .ok (.aload_n 0, 1) := by decide +kernel
theorem dX7_breaks_78 : decode cX7_breaks 78 = .ok (.dup, 1) := by decide +kernel
theorem dX7_breaks_79 : decode cX7_breaks 79 = .ok (.getfield 122, 3) := by decide +kernel
theorem dX7_breaks_82 : decode cX7_breaks 82 = .ok (.iconst 1, 1) := by decide +kernel
theorem dX7_breaks_83 : decode cX7_breaks 83 = .ok (.isub, 1) := by decide +kernel
theorem dX7_breaks_84 : decode cX7_breaks 84 = .ok (.putfield 122, 3) := by decide +kernel
theorem dX7_breaks_87 : decode cX7_breaks 87 = .ok (.iload 5, 2) := by decide +kernel
theorem dX7_breaks_89 : decode cX7_breaks 89 = .ok (.ifCond .lt 53, 3) := by decide +kernel
theorem dX7_breaks_92 : decode cX7_breaks 92 = .ok (.iload_n 2, 1) := by decide +kernel
theorem dX7_breaks_93 : decode cX7_breaks 93 = .ok (.ifCond .lt 40, 3) := by decide +kernel
theorem dX7_breaks_96 : decode cX7_breaks 96 = .ok (.iload 5, 2) := by decide +kernel
theorem dX7_breaks_98 : decode cX7_breaks 98 = .ok (.invokestatic 264, 3) := by decide +kernel
theorem dX7_breaks_101 : decode cX7_breaks 101 = .ok (.iload_n 3, 1) := by decide +kernel
theorem dX7_breaks_102 : decode cX7_breaks 102 = .ok (.if_icmp .gt 40, 3) := by decide +kernel
theorem dX7_breaks_105 : decode cX7_breaks 105 = .ok (.iload 5, 2) := by decide +kernel
theorem dX7_breaks_107 : decode cX7_breaks 107 = .ok (.invokestatic 264, 3) := by decide +kernel
theorem dX7_breaks_110 : decode cX7_breaks 110 = .ok (.iload_n 3, 1) := by decide +kernel
theorem dX7_breaks_111 : decode cX7_breaks 111 = .ok (.if_icmp .ne 22, 3) := by decide +kernel
theorem dX7_breaks_114 : decode cX7_breaks 114 = .ok (.aload_n 0, 1) := by decide +kernel
theorem dX7_breaks_115 : decode cX7_breaks 115 = .ok (.getfield 28, 3) := by decide +kernel
theorem dX7_breaks_118 : decode cX7_breaks 118 = .ok (.iload 4, 2) := by decide +kernel
theorem dX7_breaks_120 : decode cX7_breaks 120 = .ok (.iaload, 1) := by decide +kernel
theorem dX7_breaks_121 : decode cX7_breaks 121 = .ok (.aload_n 0, 1) := by decide +kernel
theorem dX7_breaks_122 : decode cX7_breaks 122 = .ok (.getfield 28, 3) := by decide +kernel
theorem dX7_breaks_125 : decode cX7_breaks 125 = .ok (.iload_n 2, 1) := by decide +kernel
theorem dX7_breaks_126 : decode cX7_breaks 126 = .ok (.iaload, 1) := by decide +kernel
theorem dX7_breaks_127 : decode cX7_breaks 127 = .ok (.if_icmp .lt 6, 3) := by decide +kernel
theorem dX7_breaks_130 : decode cX7_breaks 130 = .ok (.goto 12, 3) := by decide +kernel
theorem dX7_breaks_133 : decode cX7_breaks 133 = .ok (.iload 4, 2) := by decide +kernel
theorem dX7_breaks_135 : decode cX7_breaks 135 = .ok (.istore_n 2, 1) := by decide +kernel
theorem dX7_breaks_136 : decode cX7_breaks 136 = .ok (.iload 5, 2) := by decide +kernel
theorem dX7_breaks_138 : decode cX7_breaks 138 = .ok (.invokestatic 264, 3) := by decide +kernel
theorem dX7_breaks_141 : decode cX7_breaks 141 = .ok (.istore_n 3, 1) := by decide +kernel
theorem dX7_breaks_142 : decode cX7_breaks 142 = .ok (.iinc 4 1, 3) := by decide +kernel
theorem dX7_breaks_145 : decode cX7_breaks 145 = .ok (.goto (-126), 3) := by decide +kernel
theorem dX7_breaks_148 : decode cX7_breaks 148 = .ok (.iload_n 2, 1) := by decide +kernel
theorem dX7_breaks_149 : decode cX7_breaks 149 = .ok (.ifCond .lt 7, 3) := by decide +kernel
theorem dX7_breaks_152 : decode cX7_breaks 152 = .ok (.iload_n 1, 1) := by decide +kernel
theorem dX7_breaks_153 : decode cX7_breaks 153 = .ok (.ifCond .ne 7, 3) := by decide +kernel
theorem dX7_breaks_156 : decode cX7_breaks 156 = .ok (.iload_n 2, 1) := by decide +kernel
theorem dX7_breaks_157 : decode cX7_breaks 157 = .ok (.goto 4, 3) := by decide +kernel
theorem dX7_breaks_160 : decode cX7_breaks 160 = .ok (.iload_n 3, 1) := by decide +kernel
theorem dX7_breaks_161 : decode cX7_breaks 161 = .ok (.ireturn, 1) := by decide +kernel
theorem dX7_wellOf_0 : decode cX7_wellOf 0 = .ok (.iconst (-1), 1) := by decide +kernel
theorem dX7_wellOf_1 : decode cX7_wellOf 1 = .ok (.istore_n 3, 1) := by decide +kernel
theorem dX7_wellOf_2 : decode cX7_wellOf 2 = .ok (.iconst 0, 1) := by decide +kernel
theorem dX7_wellOf_3 : decode cX7_wellOf 3 = .ok (.istore 4, 2) := by decide +kernel
theorem dX7_wellOf_5 : decode cX7_wellOf 5 = .ok (.iload 4, 2) := by decide +kernel
theorem dX7_wellOf_7 : decode cX7_wellOf 7 = .ok (.aload_n 0, 1) := by decide +kernel
theorem dX7_wellOf_8 : decode cX7_wellOf 8 = .ok (.getfield 111, 3) := by decide +kernel
theorem dX7_wellOf_11 : decode cX7_wellOf 11 = .ok (.if_icmp .ge 69, 3) := by decide +kernel
theorem dX7_wellOf_14 : decode cX7_wellOf 14 = .ok (.iload_n 1, 1) := by decide +kernel
theorem dX7_wellOf_15 : decode cX7_wellOf 15 = .ok (.iload 4, 2) := by decide +kernel
theorem dX7_wellOf_17 : decode cX7_wellOf 17 = .ok (.ishr, 1) := by decide +kernel
theorem dX7_wellOf_18 : decode cX7_wellOf 18 = .ok (.iconst 1, 1) := by decide +kernel
theorem dX7_wellOf_19 : decode cX7_wellOf 19 = .ok (.iand, 1) := by decide +kernel
theorem dX7_wellOf_20 : decode cX7_wellOf 20 = .ok (.iconst 1, 1) := by decide +kernel
theorem dX7_wellOf_21 : decode cX7_wellOf 21 = .ok (.if_icmp .ne 53, 3) := by decide +kernel
theorem dX7_wellOf_24 : decode cX7_wellOf 24 = .ok (.aload_n 0, 1) := by decide +kernel
theorem dX7_wellOf_25 : decode cX7_wellOf 25 = .ok (.getfield 73, 3) := by decide +kernel
theorem dX7_wellOf_28 : decode cX7_wellOf 28 = .ok (.bipush 14, 2) := by decide +kernel
theorem dX7_wellOf_30 : decode cX7_wellOf 30 = .ok (.iload_n 2, 1) := by decide +kernel
theorem dX7_wellOf_31 : decode cX7_wellOf 31 = .ok (.imul, 1) := by decide +kernel
theorem dX7_wellOf_32 : decode cX7_wellOf 32 = .ok (.iload 4, 2) := by decide +kernel
theorem dX7_wellOf_34 : decode cX7_wellOf 34 = .ok (.iadd, 1) := by decide +kernel
theorem dX7_wellOf_35 : decode cX7_wellOf 35 = .ok (.iaload, 1) := by decide +kernel
theorem dX7_wellOf_36 : decode cX7_wellOf 36 = .ok (.bipush 99, 2) := by decide +kernel
theorem dX7_wellOf_38 : decode cX7_wellOf 38 = .ok (.if_icmp .ge 36, 3) := by decide +kernel
theorem dX7_wellOf_41 : decode cX7_wellOf 41 = .ok (.iload_n 3, 1) := by decide +kernel
theorem dX7_wellOf_42 : decode cX7_wellOf 42 = .ok (.ifCond .lt 29, 3) := by decide +kernel
theorem dX7_wellOf_45 : decode cX7_wellOf 45 = .ok (.aload_n 0, 1) := by decide +kernel
theorem dX7_wellOf_46 : decode cX7_wellOf 46 = .ok (.getfield 73, 3) := by decide +kernel
theorem dX7_wellOf_49 : decode cX7_wellOf 49 = .ok (.bipush 14, 2) := by decide +kernel
theorem dX7_wellOf_51 : decode cX7_wellOf 51 = .ok (.iload_n 2, 1) := by decide +kernel
theorem dX7_wellOf_52 : decode cX7_wellOf 52 = .ok (.imul, 1) := by decide +kernel
theorem dX7_wellOf_53 : decode cX7_wellOf 53 = .ok (.iload 4, 2) := by decide +kernel
theorem dX7_wellOf_55 : decode cX7_wellOf 55 = .ok (.iadd, 1) := by decide +kernel
theorem dX7_wellOf_56 : decode cX7_wellOf 56 = .ok (.iaload, 1) := by decide +kernel
theorem dX7_wellOf_57 : decode cX7_wellOf 57 = .ok (.aload_n 0, 1) := by decide +kernel
theorem dX7_wellOf_58 : decode cX7_wellOf 58 = .ok (.getfield 73, 3) := by decide +kernel
theorem dX7_wellOf_61 : decode cX7_wellOf 61 = .ok (.bipush 14, 2) := by decide +kernel
theorem dX7_wellOf_63 : decode cX7_wellOf 63 = .ok (.iload_n 2, 1) := by decide +kernel
theorem dX7_wellOf_64 : decode cX7_wellOf 64 = .ok (.imul, 1) := by decide +kernel
theorem dX7_wellOf_65 : decode cX7_wellOf 65 = .ok (.iload_n 3, 1) := by decide +kernel
theorem dX7_wellOf_66 : decode cX7_wellOf 66 = .ok (.iadd, 1) := by decide +kernel
theorem dX7_wellOf_67 : decode cX7_wellOf 67 = .ok (.iaload, 1) := by decide +kernel
theorem dX7_wellOf_68 : decode cX7_wellOf 68 = .ok (.if_icmp .ge 6, 3) := by decide +kernel
theorem dX7_wellOf_71 : decode cX7_wellOf 71 = .ok (.iload 4, 2) := by decide +kernel
theorem dX7_wellOf_73 : decode cX7_wellOf 73 = .ok (.istore_n 3, 1) := by decide +kernel
theorem dX7_wellOf_74 : decode cX7_wellOf 74 = .ok (.iinc 4 1, 3) := by decide +kernel
theorem dX7_wellOf_77 : decode cX7_wellOf 77 = .ok (.goto (-72), 3) := by decide +kernel
theorem dX7_wellOf_80 : decode cX7_wellOf 80 = .ok (.iload_n 3, 1) := by decide +kernel
theorem dX7_wellOf_81 : decode cX7_wellOf 81 = .ok (.ireturn, 1) := by decide +kernel
theorem dX7_goes_0 : decode cX7_goes 0 = .ok (.aload_n 0, 1) := by decide +kernel
theorem dX7_goes_1 : decode cX7_goes 1 = .ok (.iload_n 1, 1) := by decide +kernel
theorem dX7_goes_2 : decode cX7_goes 2 = .ok (.invokevirtual 138, 3) := by decide +kernel
theorem dX7_goes_5 : decode cX7_goes 5 = .ok (.ifCond .eq 11, 3) := by decide +kernel
theorem dX7_goes_8 : decode cX7_goes 8 = .ok (.aload_n 0, 1) := by decide +kernel
theorem dX7_goes_9 : decode cX7_goes 9 = .ok (.iload_n 2, 1) := by decide +kernel
theorem dX7_goes_10 : decode cX7_goes 10 = .ok (.invokevirtual 118, 3) := by decide +kernel
theorem dX7_goes_13 : decode cX7_goes 13 = .ok (.ifCond .ne 5, 3) := by decide +kernel
theorem dX7_goes_16 : decode cX7_goes 16 = .ok (.iconst (-1), 1) := by decide +kernel
theorem dX7_goes_17 : decode cX7_goes 17 = .ok (.ireturn, 1) := by decide +kernel
theorem dX7_goes_18 : decode cX7_goes 18 = .ok (.aload_n 0, 1) := by decide +kernel
theorem dX7_goes_19 : decode cX7_goes 19 = .ok (.aload_n 0, 1) := by decide +kernel
theorem dX7_goes_20 : decode cX7_goes 20 = .ok (.invokevirtual 248, 3) := by decide +kernel
theorem dX7_goes_23 : decode cX7_goes 23 = .ok (.invokevirtual 244, 3) := by decide +kernel
theorem dX7_goes_26 : decode cX7_goes 26 = .ok (.aload_n 0, 1) := by decide +kernel
theorem dX7_goes_27 : decode cX7_goes 27 = .ok (.iload_n 1, 1) := by decide +kernel
theorem dX7_goes_28 : decode cX7_goes 28 = .ok (.iload_n 2, 1) := by decide +kernel
theorem dX7_goes_29 : decode cX7_goes 29 = .ok (.invokevirtual 291, 3) := by decide +kernel
theorem dX7_goes_32 : decode cX7_goes 32 = .ok (.istore_n 3, 1) := by decide +kernel
theorem dX7_goes_33 : decode cX7_goes 33 = .ok (.iload_n 3, 1) := by decide +kernel
theorem dX7_goes_34 : decode cX7_goes 34 = .ok (.ifCond .ge 8, 3) := by decide +kernel
theorem dX7_goes_37 : decode cX7_goes 37 = .ok (.bipush (-2), 2) := by decide +kernel
theorem dX7_goes_39 : decode cX7_goes 39 = .ok (.goto 4, 3) := by decide +kernel
theorem dX7_goes_42 : decode cX7_goes 42 = .ok (.iload_n 3, 1) := by decide +kernel
theorem dX7_goes_43 : decode cX7_goes 43 = .ok (.ireturn, 1) := by decide +kernel
theorem dX7_worth_0 : decode cX7_worth 0 = .ok (.aload_n 0, 1) := by decide +kernel
theorem dX7_worth_1 : decode cX7_worth 1 = .ok (.iload_n 1, 1) := by decide +kernel
theorem dX7_worth_2 : decode cX7_worth 2 = .ok (.invokevirtual 138, 3) := by decide +kernel
theorem dX7_worth_5 : decode cX7_worth 5 = .ok (.ifCond .eq 19, 3) := by decide +kernel
theorem dX7_worth_8 : decode cX7_worth 8 = .ok (.aload_n 0, 1) := by decide +kernel
theorem dX7_worth_9 : decode cX7_worth 9 = .ok (.iload_n 2, 1) := by decide +kernel
theorem dX7_worth_10 : decode cX7_worth 10 = .ok (.invokevirtual 118, 3) := by decide +kernel
theorem dX7_worth_13 : decode cX7_worth 13 = .ok (.ifCond .eq 11, 3) := by decide +kernel
theorem dX7_worth_16 : decode cX7_worth 16 = .ok (.iload_n 1, 1) := by decide +kernel
theorem dX7_worth_17 : decode cX7_worth 17 = .ok (.iload_n 2, 1) := by decide +kernel
theorem dX7_worth_18 : decode cX7_worth 18 = .ok (.ishr, 1) := by decide +kernel
theorem dX7_worth_19 : decode cX7_worth 19 = .ok (.iconst 1, 1) := by decide +kernel
theorem dX7_worth_20 : decode cX7_worth 20 = .ok (.iand, 1) := by decide +kernel
theorem dX7_worth_21 : decode cX7_worth 21 = .ok (.ifCond .ne 5, 3) := by decide +kernel
theorem dX7_worth_24 : decode cX7_worth 24 = .ok (.iconst (-1), 1) := by decide +kernel
theorem dX7_worth_25 : decode cX7_worth 25 = .ok (.ireturn, 1) := by decide +kernel
theorem dX7_worth_26 : decode cX7_worth 26 = .ok (.aload_n 0, 1) := by decide +kernel
theorem dX7_worth_27 : decode cX7_worth 27 = .ok (.aload_n 0, 1) := by decide +kernel
theorem dX7_worth_28 : decode cX7_worth 28 = .ok (.invokevirtual 248, 3) := by decide +kernel
theorem dX7_worth_31 : decode cX7_worth 31 = .ok (.invokevirtual 244, 3) := by decide +kernel
theorem dX7_worth_34 : decode cX7_worth 34 = .ok (.iconst 0, 1) := by decide +kernel
theorem dX7_worth_35 : decode cX7_worth 35 = .ok (.istore_n 3, 1) := by decide +kernel
theorem dX7_worth_36 : decode cX7_worth 36 = .ok (.iconst 0, 1) := by decide +kernel
theorem dX7_worth_37 : decode cX7_worth 37 = .ok (.istore 4, 2) := by decide +kernel
theorem dX7_worth_39 : decode cX7_worth 39 = .ok (.iload 4, 2) := by decide +kernel
theorem dX7_worth_41 : decode cX7_worth 41 = .ok (.aload_n 0, 1) := by decide +kernel
theorem dX7_worth_42 : decode cX7_worth 42 = .ok (.getfield 111, 3) := by decide +kernel
theorem dX7_worth_45 : decode cX7_worth 45 = .ok (.if_icmp .ge 23, 3) := by decide +kernel
theorem dX7_worth_48 : decode cX7_worth 48 = .ok (.aload_n 0, 1) := by decide +kernel
theorem dX7_worth_49 : decode cX7_worth 49 = .ok (.iload_n 1, 1) := by decide +kernel
theorem dX7_worth_50 : decode cX7_worth 50 = .ok (.iload 4, 2) := by decide +kernel
theorem dX7_worth_52 : decode cX7_worth 52 = .ok (.invokevirtual 291, 3) := by decide +kernel
theorem dX7_worth_55 : decode cX7_worth 55 = .ok (.iload_n 2, 1) := by decide +kernel
theorem dX7_worth_56 : decode cX7_worth 56 = .ok (.if_icmp .ne 6, 3) := by decide +kernel
theorem dX7_worth_59 : decode cX7_worth 59 = .ok (.iinc 3 1, 3) := by decide +kernel
theorem dX7_worth_62 : decode cX7_worth 62 = .ok (.iinc 4 1, 3) := by decide +kernel
theorem dX7_worth_65 : decode cX7_worth 65 = .ok (.goto (-26), 3) := by decide +kernel
theorem dX7_worth_68 : decode cX7_worth 68 = .ok (.iload_n 3, 1) := by decide +kernel
theorem dX7_worth_69 : decode cX7_worth 69 = .ok (.ireturn, 1) := by decide +kernel
theorem dX7_steps_0 : decode cX7_steps 0 = .ok (.aload_n 0, 1) := by decide +kernel
theorem dX7_steps_1 : decode cX7_steps 1 = .ok (.iload_n 1, 1) := by decide +kernel
theorem dX7_steps_2 : decode cX7_steps 2 = .ok (.invokevirtual 138, 3) := by decide +kernel
theorem dX7_steps_5 : decode cX7_steps 5 = .ok (.ifCond .eq 12, 3) := by decide +kernel
theorem dX7_steps_8 : decode cX7_steps 8 = .ok (.iload_n 2, 1) := by decide +kernel
theorem dX7_steps_9 : decode cX7_steps 9 = .ok (.iconst 0, 1) := by decide +kernel
theorem dX7_steps_10 : decode cX7_steps 10 = .ok (.iconst 1, 1) := by decide +kernel
theorem dX7_steps_11 : decode cX7_steps 11 = .ok (.invokestatic 114, 3) := by decide +kernel
theorem dX7_steps_14 : decode cX7_steps 14 = .ok (.ifCond .ne 5, 3) := by decide +kernel
theorem dX7_steps_17 : decode cX7_steps 17 = .ok (.iconst (-1), 1) := by decide +kernel
theorem dX7_steps_18 : decode cX7_steps 18 = .ok (.ireturn, 1) := by decide +kernel
theorem dX7_steps_19 : decode cX7_steps 19 = .ok (.aload_n 0, 1) := by decide +kernel
theorem dX7_steps_20 : decode cX7_steps 20 = .ok (.aload_n 0, 1) := by decide +kernel
theorem dX7_steps_21 : decode cX7_steps 21 = .ok (.invokevirtual 248, 3) := by decide +kernel
theorem dX7_steps_24 : decode cX7_steps 24 = .ok (.invokevirtual 244, 3) := by decide +kernel
theorem dX7_steps_27 : decode cX7_steps 27 = .ok (.iconst 0, 1) := by decide +kernel
theorem dX7_steps_28 : decode cX7_steps 28 = .ok (.istore_n 3, 1) := by decide +kernel
theorem dX7_steps_29 : decode cX7_steps 29 = .ok (.iconst 0, 1) := by decide +kernel
theorem dX7_steps_30 : decode cX7_steps 30 = .ok (.istore 4, 2) := by decide +kernel
theorem dX7_steps_32 : decode cX7_steps 32 = .ok (.iconst 0, 1) := by decide +kernel
theorem dX7_steps_33 : decode cX7_steps 33 = .ok (.istore 5, 2) := by decide +kernel
theorem dX7_steps_35 : decode cX7_steps 35 = .ok (.iload 5, 2) := by decide +kernel
theorem dX7_steps_37 : decode cX7_steps 37 = .ok (.aload_n 0, 1) := by decide +kernel
theorem dX7_steps_38 : decode cX7_steps 38 = .ok (.getfield 111, 3) := by decide +kernel
theorem dX7_steps_41 : decode cX7_steps 41 = .ok (.if_icmp .ge 64, 3) := by decide +kernel
theorem dX7_steps_44 : decode cX7_steps 44 = .ok (.aload_n 0, 1) := by decide +kernel
theorem dX7_steps_45 : decode cX7_steps 45 = .ok (.iload_n 1, 1) := by decide +kernel
theorem dX7_steps_46 : decode cX7_steps 46 = .ok (.iload 5, 2) := by decide +kernel
theorem dX7_steps_48 : decode cX7_steps 48 = .ok (.invokevirtual 291, 3) := by decide +kernel
theorem dX7_steps_51 : decode cX7_steps 51 = .ok (.istore 6, 2) := by decide +kernel
theorem dX7_steps_53 : decode cX7_steps 53 = .ok (.iload 6, 2) := by decide +kernel
theorem dX7_steps_55 : decode cX7_steps 55 = .ok (.ifCond .ge 8, 3) := by decide +kernel
theorem dX7_steps_58 : decode cX7_steps 58 = .ok (.bipush 99, 2) := by decide +kernel
theorem dX7_steps_60 : decode cX7_steps 60 = .ok (.goto 16, 3) := by decide +kernel
theorem dX7_steps_63 : decode cX7_steps 63 = .ok (.aload_n 0, 1) := by decide +kernel
theorem dX7_steps_64 : decode cX7_steps 64 = .ok (.getfield 73, 3) := by decide +kernel
theorem dX7_steps_67 : decode cX7_steps 67 = .ok (.bipush 14, 2) := by decide +kernel
theorem dX7_steps_69 : decode cX7_steps 69 = .ok (.iload 5, 2) := by decide +kernel
theorem dX7_steps_71 : decode cX7_steps 71 = .ok (.imul, 1) := by decide +kernel
theorem dX7_steps_72 : decode cX7_steps 72 = .ok (.iload 6, 2) := by decide +kernel
theorem dX7_steps_74 : decode cX7_steps 74 = .ok (.iadd, 1) := by decide +kernel
theorem dX7_steps_75 : decode cX7_steps 75 = .ok (.iaload, 1) := by decide +kernel
theorem dX7_steps_76 : decode cX7_steps 76 = .ok (.istore 7, 2) := by decide +kernel
theorem dX7_steps_78 : decode cX7_steps 78 = .ok (.iload 6, 2) := by decide +kernel
theorem dX7_steps_80 : decode cX7_steps 80 = .ok (.ifCond .lt 8, 3) := by decide +kernel
theorem dX7_steps_83 : decode cX7_steps 83 = .ok (.iload_n 3, 1) := by decide +kernel
theorem dX7_steps_84 : decode cX7_steps 84 = .ok (.iload 7, 2) := by decide +kernel
theorem dX7_steps_86 : decode cX7_steps 86 = .ok (.iadd, 1) := by decide +kernel
theorem dX7_steps_87 : decode cX7_steps 87 = .ok (.istore_n 3, 1) := by decide +kernel
theorem dX7_steps_88 : decode cX7_steps 88 = .ok (.iload 7, 2) := by decide +kernel
theorem dX7_steps_90 : decode cX7_steps 90 = .ok (.iload 4, 2) := by decide +kernel
theorem dX7_steps_92 : decode cX7_steps 92 = .ok (.if_icmp .le 7, 3) := by decide +kernel
theorem dX7_steps_95 : decode cX7_steps 95 = .ok (.iload 7, 2) := by decide +kernel
theorem dX7_steps_97 : decode cX7_steps 97 = .ok (.istore 4, 2) := by decide +kernel
theorem dX7_steps_99 : decode cX7_steps 99 = .ok (.iinc 5 1, 3) := by decide +kernel
theorem dX7_steps_102 : decode cX7_steps 102 = .ok (.goto (-67), 3) := by decide +kernel
theorem dX7_steps_105 : decode cX7_steps 105 = .ok (.iload_n 2, 1) := by decide +kernel
theorem dX7_steps_106 : decode cX7_steps 106 = .ok (.ifCond .ne 7, 3) := by decide +kernel
theorem dX7_steps_109 : decode cX7_steps 109 = .ok (.iload_n 3, 1) := by decide +kernel
theorem dX7_steps_110 : decode cX7_steps 110 = .ok (.goto 5, 3) := by decide +kernel
theorem dX7_steps_113 : decode cX7_steps 113 = .ok (.iload 4, 2) := by decide +kernel
theorem dX7_steps_115 : decode cX7_steps 115 = .ok (.ireturn, 1) := by decide +kernel
theorem dX7_missed_0 : decode cX7_missed 0 = .ok (.aload_n 0, 1) := by decide +kernel
theorem dX7_missed_1 : decode cX7_missed 1 = .ok (.iload_n 1, 1) := by decide +kernel
theorem dX7_missed_2 : decode cX7_missed 2 = .ok (.invokevirtual 138, 3) := by decide +kernel
theorem dX7_missed_5 : decode cX7_missed 5 = .ok (.ifCond .ne 5, 3) := by decide +kernel
theorem dX7_missed_8 : decode cX7_missed 8 = .ok (.iconst (-1), 1) := by decide +kernel
theorem dX7_missed_9 : decode cX7_missed 9 = .ok (.ireturn, 1) := by decide +kernel
theorem dX7_missed_10 : decode cX7_missed 10 = .ok (.aload_n 0, 1) := by decide +kernel
theorem dX7_missed_11 : decode cX7_missed 11 = .ok (.aload_n 0, 1) := by decide +kernel
theorem dX7_missed_12 : decode cX7_missed 12 = .ok (.invokevirtual 248, 3) := by decide +kernel
theorem dX7_missed_15 : decode cX7_missed 15 = .ok (.invokevirtual 261, 3) := by decide +kernel
theorem dX7_missed_18 : decode cX7_missed 18 = .ok (.aload_n 0, 1) := by decide +kernel
theorem dX7_missed_19 : decode cX7_missed 19 = .ok (.iload_n 1, 1) := by decide +kernel
theorem dX7_missed_20 : decode cX7_missed 20 = .ok (.aload_n 0, 1) := by decide +kernel
theorem dX7_missed_21 : decode cX7_missed 21 = .ok (.invokevirtual 248, 3) := by decide +kernel
theorem dX7_missed_24 : decode cX7_missed 24 = .ok (.invokevirtual 257, 3) := by decide +kernel
theorem dX7_missed_27 : decode cX7_missed 27 = .ok (.ifCond .ne 6, 3) := by decide +kernel
theorem dX7_missed_30 : decode cX7_missed 30 = .ok (.bipush (-5), 2) := by decide +kernel
theorem dX7_missed_32 : decode cX7_missed 32 = .ok (.ireturn, 1) := by decide +kernel
theorem dX7_missed_33 : decode cX7_missed 33 = .ok (.iconst 0, 1) := by decide +kernel
theorem dX7_missed_34 : decode cX7_missed 34 = .ok (.istore_n 2, 1) := by decide +kernel
theorem dX7_missed_35 : decode cX7_missed 35 = .ok (.iconst 0, 1) := by decide +kernel
theorem dX7_missed_36 : decode cX7_missed 36 = .ok (.istore_n 3, 1) := by decide +kernel
theorem dX7_missed_37 : decode cX7_missed 37 = .ok (.iload_n 3, 1) := by decide +kernel
theorem dX7_missed_38 : decode cX7_missed 38 = .ok (.aload_n 0, 1) := by decide +kernel
theorem dX7_missed_39 : decode cX7_missed 39 = .ok (.getfield 111, 3) := by decide +kernel
theorem dX7_missed_42 : decode cX7_missed 42 = .ok (.if_icmp .ge 42, 3) := by decide +kernel
theorem dX7_missed_45 : decode cX7_missed 45 = .ok (.iload_n 1, 1) := by decide +kernel
theorem dX7_missed_46 : decode cX7_missed 46 = .ok (.iload_n 3, 1) := by decide +kernel
theorem dX7_missed_47 : decode cX7_missed 47 = .ok (.ishr, 1) := by decide +kernel
theorem dX7_missed_48 : decode cX7_missed 48 = .ok (.iconst 1, 1) := by decide +kernel
theorem dX7_missed_49 : decode cX7_missed 49 = .ok (.iand, 1) := by decide +kernel
theorem dX7_missed_50 : decode cX7_missed 50 = .ok (.iconst 1, 1) := by decide +kernel
theorem dX7_missed_51 : decode cX7_missed 51 = .ok (.if_icmp .ne 27, 3) := by decide +kernel
theorem dX7_missed_54 : decode cX7_missed 54 = .ok (.aload_n 0, 1) := by decide +kernel
theorem dX7_missed_55 : decode cX7_missed 55 = .ok (.iload_n 1, 1) := by decide +kernel
theorem dX7_missed_56 : decode cX7_missed 56 = .ok (.iconst 1, 1) := by decide +kernel
theorem dX7_missed_57 : decode cX7_missed 57 = .ok (.iload_n 3, 1) := by decide +kernel
theorem dX7_missed_58 : decode cX7_missed 58 = .ok (.ishl, 1) := by decide +kernel
theorem dX7_missed_59 : decode cX7_missed 59 = .ok (.iconst (-1), 1) := by decide +kernel
theorem dX7_missed_60 : decode cX7_missed 60 = .ok (.ixor, 1) := by decide +kernel
theorem dX7_missed_61 : decode cX7_missed 61 = .ok (.iand, 1) := by decide +kernel
theorem dX7_missed_62 : decode cX7_missed 62 = .ok (.aload_n 0, 1) := by decide +kernel
theorem dX7_missed_63 : decode cX7_missed 63 = .ok (.invokevirtual 248, 3) := by decide +kernel
theorem dX7_missed_66 : decode cX7_missed 66 = .ok (.invokevirtual 257, 3) := by decide +kernel
theorem dX7_missed_69 : decode cX7_missed 69 = .ok (.ifCond .eq 9, 3) := by decide +kernel
theorem dX7_missed_72 : decode cX7_missed 72 = .ok (.iload_n 2, 1) := by decide +kernel
theorem dX7_missed_73 : decode cX7_missed 73 = .ok (.iconst 1, 1) := by decide +kernel
theorem dX7_missed_74 : decode cX7_missed 74 = .ok (.iload_n 3, 1) := by decide +kernel
theorem dX7_missed_75 : decode cX7_missed 75 = .ok (.ishl, 1) := by decide +kernel
theorem dX7_missed_76 : decode cX7_missed 76 = .ok (.ior, 1) := by decide +kernel
theorem dX7_missed_77 : decode cX7_missed 77 = .ok (.istore_n 2, 1) := by decide +kernel
theorem dX7_missed_78 : decode cX7_missed 78 = .ok (.iinc 3 1, 3) := by decide +kernel
theorem dX7_missed_81 : decode cX7_missed 81 = .ok (.goto (-44), 3) := by decide +kernel
theorem dX7_missed_84 : decode cX7_missed 84 = .ok (.iload_n 2, 1) := by decide +kernel
theorem dX7_missed_85 : decode cX7_missed 85 = .ok (.ireturn, 1) := by decide +kernel
theorem dX7_stood_0 : decode cX7_stood 0 = .ok (.iload_n 1, 1) := by decide +kernel
theorem dX7_stood_1 : decode cX7_stood 1 = .ok (.invokestatic 132, 3) := by decide +kernel
theorem dX7_stood_4 : decode cX7_stood 4 = .ok (.ifCond .eq 11, 3) := by decide +kernel
theorem dX7_stood_7 : decode cX7_stood 7 = .ok (.aload_n 0, 1) := by decide +kernel
theorem dX7_stood_8 : decode cX7_stood 8 = .ok (.iload_n 2, 1) := by decide +kernel
theorem dX7_stood_9 : decode cX7_stood 9 = .ok (.invokevirtual 138, 3) := by decide +kernel
theorem dX7_stood_12 : decode cX7_stood 12 = .ok (.ifCond .ne 5, 3) := by decide +kernel
theorem dX7_stood_15 : decode cX7_stood 15 = .ok (.iconst (-1), 1) := by decide +kernel
theorem dX7_stood_16 : decode cX7_stood 16 = .ok (.ireturn, 1) := by decide +kernel
theorem dX7_stood_17 : decode cX7_stood 17 = .ok (.aload_n 0, 1) := by decide +kernel
theorem dX7_stood_18 : decode cX7_stood 18 = .ok (.getfield 95, 3) := by decide +kernel
theorem dX7_stood_21 : decode cX7_stood 21 = .ok (.iload_n 1, 1) := by decide +kernel
theorem dX7_stood_22 : decode cX7_stood 22 = .ok (.iaload, 1) := by decide +kernel
theorem dX7_stood_23 : decode cX7_stood 23 = .ok (.iconst (-1), 1) := by decide +kernel
theorem dX7_stood_24 : decode cX7_stood 24 = .ok (.if_icmp .ne 6, 3) := by decide +kernel
theorem dX7_stood_27 : decode cX7_stood 27 = .ok (.bipush (-11), 2) := by decide +kernel
theorem dX7_stood_29 : decode cX7_stood 29 = .ok (.ireturn, 1) := by decide +kernel
theorem dX7_stood_30 : decode cX7_stood 30 = .ok (.aload_n 0, 1) := by decide +kernel
theorem dX7_stood_31 : decode cX7_stood 31 = .ok (.getfield 95, 3) := by decide +kernel
theorem dX7_stood_34 : decode cX7_stood 34 = .ok (.iload_n 1, 1) := by decide +kernel
theorem dX7_stood_35 : decode cX7_stood 35 = .ok (.iaload, 1) := by decide +kernel
theorem dX7_stood_36 : decode cX7_stood 36 = .ok (.bipush (-2), 2) := by decide +kernel
theorem dX7_stood_38 : decode cX7_stood 38 = .ok (.if_icmp .eq 6, 3) := by decide +kernel
theorem dX7_stood_41 : decode cX7_stood 41 = .ok (.bipush (-12), 2) := by decide +kernel
theorem dX7_stood_43 : decode cX7_stood 43 = .ok (.ireturn, 1) := by decide +kernel
theorem dX7_stood_44 : decode cX7_stood 44 = .ok (.aload_n 0, 1) := by decide +kernel
theorem dX7_stood_45 : decode cX7_stood 45 = .ok (.getfield 98, 3) := by decide +kernel
theorem dX7_stood_48 : decode cX7_stood 48 = .ok (.iload_n 1, 1) := by decide +kernel
theorem dX7_stood_49 : decode cX7_stood 49 = .ok (.iaload, 1) := by decide +kernel
theorem dX7_stood_50 : decode cX7_stood 50 = .ok (.iload_n 2, 1) := by decide +kernel
theorem dX7_stood_51 : decode cX7_stood 51 = .ok (.invokestatic 264, 3) := by decide +kernel
theorem dX7_stood_54 : decode cX7_stood 54 = .ok (.if_icmp .ge 6, 3) := by decide +kernel
theorem dX7_stood_57 : decode cX7_stood 57 = .ok (.bipush (-13), 2) := by decide +kernel
theorem dX7_stood_59 : decode cX7_stood 59 = .ok (.ireturn, 1) := by decide +kernel
theorem dX7_stood_60 : decode cX7_stood 60 = .ok (.aload_n 0, 1) := by decide +kernel
theorem dX7_stood_61 : decode cX7_stood 61 = .ok (.aload_n 0, 1) := by decide +kernel
theorem dX7_stood_62 : decode cX7_stood 62 = .ok (.invokevirtual 248, 3) := by decide +kernel
theorem dX7_stood_65 : decode cX7_stood 65 = .ok (.invokevirtual 244, 3) := by decide +kernel
theorem dX7_stood_68 : decode cX7_stood 68 = .ok (.iconst 0, 1) := by decide +kernel
theorem dX7_stood_69 : decode cX7_stood 69 = .ok (.istore_n 3, 1) := by decide +kernel
theorem dX7_stood_70 : decode cX7_stood 70 = .ok (.iconst 0, 1) := by decide +kernel
theorem dX7_stood_71 : decode cX7_stood 71 = .ok (.istore 4, 2) := by decide +kernel
theorem dX7_stood_73 : decode cX7_stood 73 = .ok (.iload 4, 2) := by decide +kernel
theorem dX7_stood_75 : decode cX7_stood 75 = .ok (.aload_n 0, 1) := by decide +kernel
theorem dX7_stood_76 : decode cX7_stood 76 = .ok (.getfield 111, 3) := by decide +kernel
theorem dX7_stood_79 : decode cX7_stood 79 = .ok (.if_icmp .ge 93, 3) := by decide +kernel
theorem dX7_stood_82 : decode cX7_stood 82 = .ok (.iconst 0, 1) := by decide +kernel
theorem dX7_stood_83 : decode cX7_stood 83 = .ok (.istore 5, 2) := by decide +kernel
theorem dX7_stood_85 : decode cX7_stood 85 = .ok (.iconst 1, 1) := by decide +kernel
theorem dX7_stood_86 : decode cX7_stood 86 = .ok (.istore 6, 2) := by decide +kernel
theorem dX7_stood_88 : decode cX7_stood 88 = .ok (.iconst 0, 1) := by decide +kernel
theorem dX7_stood_89 : decode cX7_stood 89 = .ok (.istore 7, 2) := by decide +kernel
theorem dX7_stood_91 : decode cX7_stood 91 = .ok (.iload 7, 2) := by decide +kernel
theorem dX7_stood_93 : decode cX7_stood 93 = .ok (.aload_n 0, 1) := by decide +kernel
theorem dX7_stood_94 : decode cX7_stood 94 = .ok (.getfield 111, 3) := by decide +kernel
theorem dX7_stood_97 : decode cX7_stood 97 = .ok (.if_icmp .ge 57, 3) := by decide +kernel
theorem dX7_stood_100 : decode cX7_stood 100 = .ok (.iload_n 2, 1) := by decide +kernel
theorem dX7_stood_101 : decode cX7_stood 101 = .ok (.iload 7, 2) := by decide +kernel
theorem dX7_stood_103 : decode cX7_stood 103 = .ok (.ishr, 1) := by decide +kernel
theorem dX7_stood_104 : decode cX7_stood 104 = .ok (.iconst 1, 1) := by decide +kernel
theorem dX7_stood_105 : decode cX7_stood 105 = .ok (.iand, 1) := by decide +kernel
theorem dX7_stood_106 : decode cX7_stood 106 = .ok (.ifCond .ne 6, 3) := by decide +kernel
theorem dX7_stood_109 : decode cX7_stood 109 = .ok (.goto 39, 3) := by decide +kernel
theorem dX7_stood_112 : decode cX7_stood 112 = .ok (.aload_n 0, 1) := by decide +kernel
theorem dX7_stood_113 : decode cX7_stood 113 = .ok (.getfield 101, 3) := by decide +kernel
theorem dX7_stood_116 : decode cX7_stood 116 = .ok (.bipush 60, 2) := by decide +kernel
theorem dX7_stood_118 : decode cX7_stood 118 = .ok (.iload_n 1, 1) := by decide +kernel
theorem dX7_stood_119 : decode cX7_stood 119 = .ok (.imul, 1) := by decide +kernel
theorem dX7_stood_120 : decode cX7_stood 120 = .ok (.iload 5, 2) := by decide +kernel
theorem dX7_stood_122 : decode cX7_stood 122 = .ok (.iadd, 1) := by decide +kernel
theorem dX7_stood_123 : decode cX7_stood 123 = .ok (.laload, 1) := by decide +kernel
theorem dX7_stood_124 : decode cX7_stood 124 = .ok (.aload_n 0, 1) := by decide +kernel
theorem dX7_stood_125 : decode cX7_stood 125 = .ok (.getfield 73, 3) := by decide +kernel
theorem dX7_stood_128 : decode cX7_stood 128 = .ok (.bipush 14, 2) := by decide +kernel
theorem dX7_stood_130 : decode cX7_stood 130 = .ok (.iload 4, 2) := by decide +kernel
theorem dX7_stood_132 : decode cX7_stood 132 = .ok (.imul, 1) := by decide +kernel
theorem dX7_stood_133 : decode cX7_stood 133 = .ok (.iload 7, 2) := by decide +kernel
theorem dX7_stood_135 : decode cX7_stood 135 = .ok (.iadd, 1) := by decide +kernel
theorem dX7_stood_136 : decode cX7_stood 136 = .ok (.iaload, 1) := by decide +kernel
theorem dX7_stood_137 : decode cX7_stood 137 = .ok (.i2l, 1) := by decide +kernel
theorem dX7_stood_138 : decode cX7_stood 138 = .ok (.lcmp, 1) := by decide +kernel
theorem dX7_stood_139 : decode cX7_stood 139 = .ok (.ifCond .eq 6, 3) := by decide +kernel
theorem dX7_stood_142 : decode cX7_stood 142 = .ok (.iconst 0, 1) := by decide +kernel
theorem dX7_stood_143 : decode cX7_stood 143 = .ok (.istore 6, 2) := by decide +kernel
theorem dX7_stood_145 : decode cX7_stood 145 = .ok (.iinc 5 1, 3) := by decide +kernel
theorem dX7_stood_148 : decode cX7_stood 148 = .ok (.iinc 7 1, 3) := by decide +kernel
theorem dX7_stood_151 : decode cX7_stood 151 = .ok (.goto (-60), 3) := by decide +kernel
theorem dX7_stood_154 : decode cX7_stood 154 = .ok (.iload 6, 2) := by decide +kernel
theorem dX7_stood_156 : decode cX7_stood 156 = .ok (.ifCond .eq 10, 3) := by decide +kernel
theorem dX7_stood_159 : decode cX7_stood 159 = .ok (.iload_n 3, 1) := by decide +kernel
theorem dX7_stood_160 : decode cX7_stood 160 = .ok (.iconst 1, 1) := by decide +kernel
theorem dX7_stood_161 : decode cX7_stood 161 = .ok (.iload 4, 2) := by decide +kernel
theorem dX7_stood_163 : decode cX7_stood 163 = .ok (.ishl, 1) := by decide +kernel
theorem dX7_stood_164 : decode cX7_stood 164 = .ok (.ior, 1) := by decide +kernel
theorem dX7_stood_165 : decode cX7_stood 165 = .ok (.istore_n 3, 1) := by decide +kernel
theorem dX7_stood_166 : decode cX7_stood 166 = .ok (.iinc 4 1, 3) := by decide +kernel
theorem dX7_stood_169 : decode cX7_stood 169 = .ok (.goto (-96), 3) := by decide +kernel
theorem dX7_stood_172 : decode cX7_stood 172 = .ok (.iload_n 3, 1) := by decide +kernel
theorem dX7_stood_173 : decode cX7_stood 173 = .ok (.ireturn, 1) := by decide +kernel
theorem dX7_turn_0 : decode cX7_turn 0 = .ok (.iload_n 1, 1) := by decide +kernel
theorem dX7_turn_1 : decode cX7_turn 1 = .ok (.iconst 0, 1) := by decide +kernel
theorem dX7_turn_2 : decode cX7_turn 2 = .ok (.bipush 99, 2) := by decide +kernel
theorem dX7_turn_4 : decode cX7_turn 4 = .ok (.invokestatic 114, 3) := by decide +kernel
theorem dX7_turn_7 : decode cX7_turn 7 = .ok (.ifCond .eq 12, 3) := by decide +kernel
theorem dX7_turn_10 : decode cX7_turn 10 = .ok (.iload_n 2, 1) := by decide +kernel
theorem dX7_turn_11 : decode cX7_turn 11 = .ok (.iconst 0, 1) := by decide +kernel
theorem dX7_turn_12 : decode cX7_turn 12 = .ok (.iconst 1, 1) := by decide +kernel
theorem dX7_turn_13 : decode cX7_turn 13 = .ok (.invokestatic 114, 3) := by decide +kernel
theorem dX7_turn_16 : decode cX7_turn 16 = .ok (.ifCond .ne 5, 3) := by decide +kernel
theorem dX7_turn_19 : decode cX7_turn 19 = .ok (.iconst (-1), 1) := by decide +kernel
theorem dX7_turn_20 : decode cX7_turn 20 = .ok (.ireturn, 1) := by decide +kernel
theorem dX7_turn_21 : decode cX7_turn 21 = .ok (.aload_n 0, 1) := by decide +kernel
theorem dX7_turn_22 : decode cX7_turn 22 = .ok (.aload_n 0, 1) := by decide +kernel
theorem dX7_turn_23 : decode cX7_turn 23 = .ok (.invokevirtual 248, 3) := by decide +kernel
theorem dX7_turn_26 : decode cX7_turn 26 = .ok (.invokevirtual 261, 3) := by decide +kernel
theorem dX7_turn_29 : decode cX7_turn 29 = .ok (.aload_n 0, 1) := by decide +kernel
theorem dX7_turn_30 : decode cX7_turn 30 = .ok (.getfield 141, 3) := by decide +kernel
theorem dX7_turn_33 : decode cX7_turn 33 = .ok (.istore_n 3, 1) := by decide +kernel
theorem dX7_turn_34 : decode cX7_turn 34 = .ok (.iconst 0, 1) := by decide +kernel
theorem dX7_turn_35 : decode cX7_turn 35 = .ok (.istore 4, 2) := by decide +kernel
theorem dX7_turn_37 : decode cX7_turn 37 = .ok (.iconst 1, 1) := by decide +kernel
theorem dX7_turn_38 : decode cX7_turn 38 = .ok (.istore 5, 2) := by decide +kernel
theorem dX7_turn_40 : decode cX7_turn 40 = .ok (.iload 5, 2) := by decide +kernel
theorem dX7_turn_42 : decode cX7_turn 42 = .ok (.ifCond .eq 76, 3) := by decide +kernel
theorem dX7_turn_45 : decode cX7_turn 45 = .ok (.iconst 0, 1) := by decide +kernel
theorem dX7_turn_46 : decode cX7_turn 46 = .ok (.istore 5, 2) := by decide +kernel
theorem dX7_turn_48 : decode cX7_turn 48 = .ok (.iconst 0, 1) := by decide +kernel
theorem dX7_turn_49 : decode cX7_turn 49 = .ok (.istore 6, 2) := by decide +kernel
theorem dX7_turn_51 : decode cX7_turn 51 = .ok (.iload 6, 2) := by decide +kernel
theorem dX7_turn_53 : decode cX7_turn 53 = .ok (.aload_n 0, 1) := by decide +kernel
theorem dX7_turn_54 : decode cX7_turn 54 = .ok (.getfield 111, 3) := by decide +kernel
theorem dX7_turn_57 : decode cX7_turn 57 = .ok (.if_icmp .ge 58, 3) := by decide +kernel
theorem dX7_turn_60 : decode cX7_turn 60 = .ok (.iload_n 3, 1) := by decide +kernel
theorem dX7_turn_61 : decode cX7_turn 61 = .ok (.aload_n 0, 1) := by decide +kernel
theorem dX7_turn_62 : decode cX7_turn 62 = .ok (.getfield 76, 3) := by decide +kernel
theorem dX7_turn_65 : decode cX7_turn 65 = .ok (.iload 6, 2) := by decide +kernel
theorem dX7_turn_67 : decode cX7_turn 67 = .ok (.iaload, 1) := by decide +kernel
theorem dX7_turn_68 : decode cX7_turn 68 = .ok (.iand, 1) := by decide +kernel
theorem dX7_turn_69 : decode cX7_turn 69 = .ok (.ifCond .ne 40, 3) := by decide +kernel
theorem dX7_turn_72 : decode cX7_turn 72 = .ok (.aload_n 0, 1) := by decide +kernel
theorem dX7_turn_73 : decode cX7_turn 73 = .ok (.iload_n 3, 1) := by decide +kernel
theorem dX7_turn_74 : decode cX7_turn 74 = .ok (.iload 6, 2) := by decide +kernel
theorem dX7_turn_76 : decode cX7_turn 76 = .ok (.invokevirtual 282, 3) := by decide +kernel
theorem dX7_turn_79 : decode cX7_turn 79 = .ok (.ifCond .eq 30, 3) := by decide +kernel
theorem dX7_turn_82 : decode cX7_turn 82 = .ok (.aload_n 0, 1) := by decide +kernel
theorem dX7_turn_83 : decode cX7_turn 83 = .ok (.getfield 7, 3) := by decide +kernel
theorem dX7_turn_86 : decode cX7_turn 86 = .ok (.iload 6, 2) := by decide +kernel
theorem dX7_turn_88 : decode cX7_turn 88 = .ok (.iaload, 1) := by decide +kernel
theorem dX7_turn_89 : decode cX7_turn 89 = .ok (.iload_n 1, 1) := by decide +kernel
theorem dX7_turn_90 : decode cX7_turn 90 = .ok (.if_icmp .le 6, 3) := by decide +kernel
theorem dX7_turn_93 : decode cX7_turn 93 = .ok (.goto 16, 3) := by decide +kernel
theorem dX7_turn_96 : decode cX7_turn 96 = .ok (.iload_n 3, 1) := by decide +kernel
theorem dX7_turn_97 : decode cX7_turn 97 = .ok (.iconst 1, 1) := by decide +kernel
theorem dX7_turn_98 : decode cX7_turn 98 = .ok (.iload 6, 2) := by decide +kernel
theorem dX7_turn_100 : decode cX7_turn 100 = .ok (.ishl, 1) := by decide +kernel
theorem dX7_turn_101 : decode cX7_turn 101 = .ok (.ior, 1) := by decide +kernel
theorem dX7_turn_102 : decode cX7_turn 102 = .ok (.istore_n 3, 1) := by decide +kernel
theorem dX7_turn_103 : decode cX7_turn 103 = .ok (.iinc 4 1, 3) := by decide +kernel
theorem dX7_turn_106 : decode cX7_turn 106 = .ok (.iconst 1, 1) := by decide +kernel
theorem dX7_turn_107 : decode cX7_turn 107 = .ok (.istore 5, 2) := by decide +kernel
theorem dX7_turn_109 : decode cX7_turn 109 = .ok (.iinc 6 1, 3) := by decide +kernel
theorem dX7_turn_112 : decode cX7_turn 112 = .ok (.goto (-61), 3) := by decide +kernel
theorem dX7_turn_115 : decode cX7_turn 115 = .ok (.goto (-75), 3) := by decide +kernel
theorem dX7_turn_118 : decode cX7_turn 118 = .ok (.iload_n 2, 1) := by decide +kernel
theorem dX7_turn_119 : decode cX7_turn 119 = .ok (.ifCond .ne 8, 3) := by decide +kernel
theorem dX7_turn_122 : decode cX7_turn 122 = .ok (.iload 4, 2) := by decide +kernel
theorem dX7_turn_124 : decode cX7_turn 124 = .ok (.goto 4, 3) := by decide +kernel
theorem dX7_turn_127 : decode cX7_turn 127 = .ok (.iload_n 3, 1) := by decide +kernel
theorem dX7_turn_128 : decode cX7_turn 128 = .ok (.ireturn, 1) := by decide +kernel
theorem dX7_isBody_0 : decode cX7_isBody 0 = .ok (.iload_n 1, 1) := by decide +kernel
theorem dX7_isBody_1 : decode cX7_isBody 1 = .ok (.iconst 0, 1) := by decide +kernel
theorem dX7_isBody_2 : decode cX7_isBody 2 = .ok (.aload_n 0, 1) := by decide +kernel
theorem dX7_isBody_3 : decode cX7_isBody 3 = .ok (.getfield 294, 3) := by decide +kernel
theorem dX7_isBody_6 : decode cX7_isBody 6 = .ok (.iconst 1, 1) := by decide +kernel
theorem dX7_isBody_7 : decode cX7_isBody 7 = .ok (.isub, 1) := by decide +kernel
theorem dX7_isBody_8 : decode cX7_isBody 8 = .ok (.invokestatic 114, 3) := by decide +kernel
theorem dX7_isBody_11 : decode cX7_isBody 11 = .ok (.ireturn, 1) := by decide +kernel
theorem dX7_ran_0 : decode cX7_ran 0 = .ok (.aload_n 0, 1) := by decide +kernel
theorem dX7_ran_1 : decode cX7_ran 1 = .ok (.getfield 297, 3) := by decide +kernel
theorem dX7_ran_4 : decode cX7_ran 4 = .ok (.bipush 24, 2) := by decide +kernel
theorem dX7_ran_6 : decode cX7_ran 6 = .ok (.if_icmp .ge 13, 3) := by decide +kernel
theorem dX7_ran_9 : decode cX7_ran 9 = .ok (.aload_n 0, 1) := by decide +kernel
theorem dX7_ran_10 : decode cX7_ran 10 = .ok (.getfield 92, 3) := by decide +kernel
theorem dX7_ran_13 : decode cX7_ran 13 = .ok (.aload_n 0, 1) := by decide +kernel
theorem dX7_ran_14 : decode cX7_ran 14 = .ok (.getfield 297, 3) := by decide +kernel
theorem dX7_ran_17 : decode cX7_ran 17 = .ok (.iload_n 1, 1) := by decide +kernel
theorem dX7_ran_18 : decode cX7_ran 18 = .ok (.iastore, 1) := by decide +kernel
theorem dX7_ran_19 : decode cX7_ran 19 = .ok (.aload_n 0, 1) := by decide +kernel
theorem dX7_ran_20 : decode cX7_ran 20 = .ok (.dup, 1) := by decide +kernel
theorem dX7_ran_21 : decode cX7_ran 21 = .ok (.getfield 297, 3) := by decide +kernel
theorem dX7_ran_24 : decode cX7_ran 24 = .ok (.iconst 1, 1) := by decide +kernel
theorem dX7_ran_25 : decode cX7_ran 25 = .ok (.iadd, 1) := by decide +kernel
theorem dX7_ran_26 : decode cX7_ran 26 = .ok (.putfield 297, 3) := by decide +kernel
theorem dX7_ran_29 : decode cX7_ran 29 = .ok (.return_, 1) := by decide +kernel
theorem dX7_trace_0 : decode cX7_trace 0 = .ok (.iload_n 1, 1) := by decide +kernel
theorem dX7_trace_1 : decode cX7_trace 1 = .ok (.ifCond .lt 26, 3) := by decide +kernel
theorem dX7_trace_4 : decode cX7_trace 4 = .ok (.iload_n 1, 1) := by decide +kernel
theorem dX7_trace_5 : decode cX7_trace 5 = .ok (.aload_n 0, 1) := by decide +kernel
theorem dX7_trace_6 : decode cX7_trace 6 = .ok (.getfield 297, 3) := by decide +kernel
theorem dX7_trace_9 : decode cX7_trace 9 = .ok (.if_icmp .ge 18, 3) := by decide +kernel
theorem dX7_trace_12 : decode cX7_trace 12 = .ok (.iload_n 1, 1) := by decide +kernel
theorem dX7_trace_13 : decode cX7_trace 13 = .ok (.bipush 24, 2) := by decide +kernel
theorem dX7_trace_15 : decode cX7_trace 15 = .ok (.if_icmp .ge 12, 3) := by decide +kernel
theorem dX7_trace_18 : decode cX7_trace 18 = .ok (.aload_n 0, 1) := by decide +kernel
theorem dX7_trace_19 : decode cX7_trace 19 = .ok (.getfield 92, 3) := by decide +kernel
theorem dX7_trace_22 : decode cX7_trace 22 = .ok (.iload_n 1, 1) := by decide +kernel
theorem dX7_trace_23 : decode cX7_trace 23 = .ok (.iaload, 1) := by decide +kernel
theorem dX7_trace_24 : decode cX7_trace 24 = .ok (.goto 4, 3) := by decide +kernel
theorem dX7_trace_27 : decode cX7_trace 27 = .ok (.iconst (-1), 1) := by decide +kernel
theorem dX7_trace_28 : decode cX7_trace 28 = .ok (.ireturn, 1) := by decide +kernel
theorem dX7_body_0 : decode cX7_body 0 = .ok (.iload_n 1, 1) := by decide +kernel
theorem dX7_body_1 : decode cX7_body 1 = .ok (.iconst 0, 1) := by decide +kernel
theorem dX7_body_2 : decode cX7_body 2 = .ok (.bipush 7, 2) := by decide +kernel
theorem dX7_body_4 : decode cX7_body 4 = .ok (.invokestatic 114, 3) := by decide +kernel
theorem dX7_body_7 : decode cX7_body 7 = .ok (.ifCond .ne 5, 3) := by decide +kernel
theorem dX7_body_10 : decode cX7_body 10 = .ok (.iconst (-1), 1) := by decide +kernel
theorem dX7_body_11 : decode cX7_body 11 = .ok (.ireturn, 1) := by decide +kernel
theorem dX7_body_12 : decode cX7_body 12 = .ok (.aload_n 0, 1) := by decide +kernel
theorem dX7_body_13 : decode cX7_body 13 = .ok (.getfield 294, 3) := by decide +kernel
theorem dX7_body_16 : decode cX7_body 16 = .ok (.bipush 50, 2) := by decide +kernel
theorem dX7_body_18 : decode cX7_body 18 = .ok (.if_icmp .ne 6, 3) := by decide +kernel
theorem dX7_body_21 : decode cX7_body 21 = .ok (.bipush (-3), 2) := by decide +kernel
theorem dX7_body_23 : decode cX7_body 23 = .ok (.ireturn, 1) := by decide +kernel
theorem dX7_body_24 : decode cX7_body 24 = .ok (.aload_n 0, 1) := by decide +kernel
theorem dX7_body_25 : decode cX7_body 25 = .ok (.getfield 89, 3) := by decide +kernel
theorem dX7_body_28 : decode cX7_body 28 = .ok (.aload_n 0, 1) := by decide +kernel
theorem dX7_body_29 : decode cX7_body 29 = .ok (.getfield 294, 3) := by decide +kernel
theorem dX7_body_32 : decode cX7_body 32 = .ok (.iload_n 1, 1) := by decide +kernel
theorem dX7_body_33 : decode cX7_body 33 = .ok (.iastore, 1) := by decide +kernel
theorem dX7_body_34 : decode cX7_body 34 = .ok (.aload_n 0, 1) := by decide +kernel
theorem dX7_body_35 : decode cX7_body 35 = .ok (.dup, 1) := by decide +kernel
theorem dX7_body_36 : decode cX7_body 36 = .ok (.getfield 294, 3) := by decide +kernel
theorem dX7_body_39 : decode cX7_body 39 = .ok (.iconst 1, 1) := by decide +kernel
theorem dX7_body_40 : decode cX7_body 40 = .ok (.iadd, 1) := by decide +kernel
theorem dX7_body_41 : decode cX7_body 41 = .ok (.putfield 294, 3) := by decide +kernel
theorem dX7_body_44 : decode cX7_body 44 = .ok (.aload_n 0, 1) := by decide +kernel
theorem dX7_body_45 : decode cX7_body 45 = .ok (.getfield 294, 3) := by decide +kernel
theorem dX7_body_48 : decode cX7_body 48 = .ok (.iconst 1, 1) := by decide +kernel
theorem dX7_body_49 : decode cX7_body 49 = .ok (.isub, 1) := by decide +kernel
theorem dX7_body_50 : decode cX7_body 50 = .ok (.ireturn, 1) := by decide +kernel
theorem dX7_isUnder_0 : decode cX7_isUnder 0 = .ok (.iload_n 1, 1) := by decide +kernel
theorem dX7_isUnder_1 : decode cX7_isUnder 1 = .ok (.ifCond .eq 55, 3) := by decide +kernel
theorem dX7_isUnder_4 : decode cX7_isUnder 4 = .ok (.iload_n 0, 1) := by decide +kernel
theorem dX7_isUnder_5 : decode cX7_isUnder 5 = .ok (.iload_n 1, 1) := by decide +kernel
theorem dX7_isUnder_6 : decode cX7_isUnder 6 = .ok (.if_icmp .eq 50, 3) := by decide +kernel
theorem dX7_isUnder_9 : decode cX7_isUnder 9 = .ok (.iload_n 1, 1) := by decide +kernel
theorem dX7_isUnder_10 : decode cX7_isUnder 10 = .ok (.iconst 1, 1) := by decide +kernel
theorem dX7_isUnder_11 : decode cX7_isUnder 11 = .ok (.if_icmp .ne 13, 3) := by decide +kernel
theorem dX7_isUnder_14 : decode cX7_isUnder 14 = .ok (.iload_n 0, 1) := by decide +kernel
theorem dX7_isUnder_15 : decode cX7_isUnder 15 = .ok (.iconst 4, 1) := by decide +kernel
theorem dX7_isUnder_16 : decode cX7_isUnder 16 = .ok (.if_icmp .eq 40, 3) := by decide +kernel
theorem dX7_isUnder_19 : decode cX7_isUnder 19 = .ok (.iload_n 0, 1) := by decide +kernel
theorem dX7_isUnder_20 : decode cX7_isUnder 20 = .ok (.iconst 5, 1) := by decide +kernel
theorem dX7_isUnder_21 : decode cX7_isUnder 21 = .ok (.if_icmp .eq 35, 3) := by decide +kernel
theorem dX7_isUnder_24 : decode cX7_isUnder 24 = .ok (.iload_n 1, 1) := by decide +kernel
theorem dX7_isUnder_25 : decode cX7_isUnder 25 = .ok (.iconst 2, 1) := by decide +kernel
theorem dX7_isUnder_26 : decode cX7_isUnder 26 = .ok (.if_icmp .ne 8, 3) := by decide +kernel
theorem dX7_isUnder_29 : decode cX7_isUnder 29 = .ok (.iload_n 0, 1) := by decide +kernel
theorem dX7_isUnder_30 : decode cX7_isUnder 30 = .ok (.iconst 3, 1) := by decide +kernel
theorem dX7_isUnder_31 : decode cX7_isUnder 31 = .ok (.if_icmp .eq 25, 3) := by decide +kernel
theorem dX7_isUnder_34 : decode cX7_isUnder 34 = .ok (.iload_n 1, 1) := by decide +kernel
theorem dX7_isUnder_35 : decode cX7_isUnder 35 = .ok (.iconst 4, 1) := by decide +kernel
theorem dX7_isUnder_36 : decode cX7_isUnder 36 = .ok (.if_icmp .ne 8, 3) := by decide +kernel
theorem dX7_isUnder_39 : decode cX7_isUnder 39 = .ok (.iload_n 0, 1) := by decide +kernel
theorem dX7_isUnder_40 : decode cX7_isUnder 40 = .ok (.iconst 5, 1) := by decide +kernel
theorem dX7_isUnder_41 : decode cX7_isUnder 41 = .ok (.if_icmp .eq 15, 3) := by decide +kernel
theorem dX7_isUnder_44 : decode cX7_isUnder 44 = .ok (.iload_n 1, 1) := by decide +kernel
theorem dX7_isUnder_45 : decode cX7_isUnder 45 = .ok (.bipush 6, 2) := by decide +kernel
theorem dX7_isUnder_47 : decode cX7_isUnder 47 = .ok (.if_icmp .ne 13, 3) := by decide +kernel
theorem dX7_isUnder_50 : decode cX7_isUnder 50 = .ok (.iload_n 0, 1) := by decide +kernel
theorem dX7_isUnder_51 : decode cX7_isUnder 51 = .ok (.bipush 7, 2) := by decide +kernel
theorem dX7_isUnder_53 : decode cX7_isUnder 53 = .ok (.if_icmp .ne 7, 3) := by decide +kernel
theorem dX7_isUnder_56 : decode cX7_isUnder 56 = .ok (.iconst 1, 1) := by decide +kernel
theorem dX7_isUnder_57 : decode cX7_isUnder 57 = .ok (.goto 4, 3) := by decide +kernel
theorem dX7_isUnder_60 : decode cX7_isUnder 60 = .ok (.iconst 0, 1) := by decide +kernel
theorem dX7_isUnder_61 : decode cX7_isUnder 61 = .ok (.ireturn, 1) := by decide +kernel
theorem dX7_plainDigs_0 : decode cX7_plainDigs 0 = .ok (.aload_n 0, 1) := by decide +kernel
theorem dX7_plainDigs_1 : decode cX7_plainDigs 1 = .ok (.iconst 1, 1) := by decide +kernel
theorem dX7_plainDigs_2 : decode cX7_plainDigs 2 = .ok (.invokevirtual 300, 3) := by decide +kernel
theorem dX7_plainDigs_5 : decode cX7_plainDigs 5 = .ok (.iload_n 2, 1) := by decide +kernel
theorem dX7_plainDigs_6 : decode cX7_plainDigs 6 = .ok (.iload_n 1, 1) := by decide +kernel
theorem dX7_plainDigs_7 : decode cX7_plainDigs 7 = .ok (.iadd, 1) := by decide +kernel
theorem dX7_plainDigs_8 : decode cX7_plainDigs 8 = .ok (.ireturn, 1) := by decide +kernel
theorem dX7_toldDigs_0 : decode cX7_toldDigs 0 = .ok (.aload_n 0, 1) := by decide +kernel
theorem dX7_toldDigs_1 : decode cX7_toldDigs 1 = .ok (.bipush 70, 2) := by decide +kernel
theorem dX7_toldDigs_3 : decode cX7_toldDigs 3 = .ok (.invokevirtual 300, 3) := by decide +kernel
theorem dX7_toldDigs_6 : decode cX7_toldDigs 6 = .ok (.aload_n 0, 1) := by decide +kernel
theorem dX7_toldDigs_7 : decode cX7_toldDigs 7 = .ok (.iload_n 1, 1) := by decide +kernel
theorem dX7_toldDigs_8 : decode cX7_toldDigs 8 = .ok (.iload_n 2, 1) := by decide +kernel
theorem dX7_toldDigs_9 : decode cX7_toldDigs 9 = .ok (.invokevirtual 303, 3) := by decide +kernel
theorem dX7_toldDigs_12 : decode cX7_toldDigs 12 = .ok (.iconst 2, 1) := by decide +kernel
theorem dX7_toldDigs_13 : decode cX7_toldDigs 13 = .ok (.imul, 1) := by decide +kernel
theorem dX7_toldDigs_14 : decode cX7_toldDigs 14 = .ok (.ireturn, 1) := by decide +kernel
theorem dX7_digs_0 : decode cX7_digs 0 = .ok (.aload_n 0, 1) := by decide +kernel
theorem dX7_digs_1 : decode cX7_digs 1 = .ok (.getfield 89, 3) := by decide +kernel
theorem dX7_digs_4 : decode cX7_digs 4 = .ok (.iload_n 1, 1) := by decide +kernel
theorem dX7_digs_5 : decode cX7_digs 5 = .ok (.iaload, 1) := by decide +kernel
theorem dX7_digs_6 : decode cX7_digs 6 = .ok (.iconst 1, 1) := by decide +kernel
theorem dX7_digs_7 : decode cX7_digs 7 = .ok (.invokestatic 306, 3) := by decide +kernel
theorem dX7_digs_10 : decode cX7_digs 10 = .ok (.ifCond .eq 18, 3) := by decide +kernel
theorem dX7_digs_13 : decode cX7_digs 13 = .ok (.aload_n 0, 1) := by decide +kernel
theorem dX7_digs_14 : decode cX7_digs 14 = .ok (.bipush 20, 2) := by decide +kernel
theorem dX7_digs_16 : decode cX7_digs 16 = .ok (.invokevirtual 300, 3) := by decide +kernel
theorem dX7_digs_19 : decode cX7_digs 19 = .ok (.aload_n 0, 1) := by decide +kernel
theorem dX7_digs_20 : decode cX7_digs 20 = .ok (.iload_n 1, 1) := by decide +kernel
theorem dX7_digs_21 : decode cX7_digs 21 = .ok (.iload_n 2, 1) := by decide +kernel
theorem dX7_digs_22 : decode cX7_digs 22 = .ok (.invokevirtual 303, 3) := by decide +kernel
theorem dX7_digs_25 : decode cX7_digs 25 = .ok (.iconst 3, 1) := by decide +kernel
theorem dX7_digs_26 : decode cX7_digs 26 = .ok (.iadd, 1) := by decide +kernel
theorem dX7_digs_27 : decode cX7_digs 27 = .ok (.ireturn, 1) := by decide +kernel
theorem dX7_digs_28 : decode cX7_digs 28 = .ok (.aload_n 0, 1) := by decide +kernel
theorem dX7_digs_29 : decode cX7_digs 29 = .ok (.getfield 89, 3) := by decide +kernel
theorem dX7_digs_32 : decode cX7_digs 32 = .ok (.iload_n 1, 1) := by decide +kernel
theorem dX7_digs_33 : decode cX7_digs 33 = .ok (.iaload, 1) := by decide +kernel
theorem dX7_digs_34 : decode cX7_digs 34 = .ok (.bipush 7, 2) := by decide +kernel
theorem dX7_digs_36 : decode cX7_digs 36 = .ok (.if_icmp .ne 18, 3) := by decide +kernel
theorem dX7_digs_39 : decode cX7_digs 39 = .ok (.aload_n 0, 1) := by decide +kernel
theorem dX7_digs_40 : decode cX7_digs 40 = .ok (.bipush 81, 2) := by decide +kernel
theorem dX7_digs_42 : decode cX7_digs 42 = .ok (.invokevirtual 300, 3) := by decide +kernel
theorem dX7_digs_45 : decode cX7_digs 45 = .ok (.aload_n 0, 1) := by decide +kernel
theorem dX7_digs_46 : decode cX7_digs 46 = .ok (.iload_n 1, 1) := by decide +kernel
theorem dX7_digs_47 : decode cX7_digs 47 = .ok (.iload_n 2, 1) := by decide +kernel
theorem dX7_digs_48 : decode cX7_digs 48 = .ok (.invokevirtual 309, 3) := by decide +kernel
theorem dX7_digs_51 : decode cX7_digs 51 = .ok (.iconst 1, 1) := by decide +kernel
theorem dX7_digs_52 : decode cX7_digs 52 = .ok (.isub, 1) := by decide +kernel
theorem dX7_digs_53 : decode cX7_digs 53 = .ok (.ireturn, 1) := by decide +kernel
theorem dX7_digs_54 : decode cX7_digs 54 = .ok (.aload_n 0, 1) := by decide +kernel
theorem dX7_digs_55 : decode cX7_digs 55 = .ok (.getfield 89, 3) := by decide +kernel
theorem dX7_digs_58 : decode cX7_digs 58 = .ok (.iload_n 1, 1) := by decide +kernel
theorem dX7_digs_59 : decode cX7_digs 59 = .ok (.iaload, 1) := by decide +kernel
theorem dX7_digs_60 : decode cX7_digs 60 = .ok (.bipush 6, 2) := by decide +kernel
theorem dX7_digs_62 : decode cX7_digs 62 = .ok (.if_icmp .ne 12, 3) := by decide +kernel
theorem dX7_digs_65 : decode cX7_digs 65 = .ok (.aload_n 0, 1) := by decide +kernel
theorem dX7_digs_66 : decode cX7_digs 66 = .ok (.iload_n 1, 1) := by decide +kernel
theorem dX7_digs_67 : decode cX7_digs 67 = .ok (.iload_n 2, 1) := by decide +kernel
theorem dX7_digs_68 : decode cX7_digs 68 = .ok (.invokevirtual 309, 3) := by decide +kernel
theorem dX7_digs_71 : decode cX7_digs 71 = .ok (.goto 9, 3) := by decide +kernel
theorem dX7_digs_74 : decode cX7_digs 74 = .ok (.aload_n 0, 1) := by decide +kernel
theorem dX7_digs_75 : decode cX7_digs 75 = .ok (.iload_n 1, 1) := by decide +kernel
theorem dX7_digs_76 : decode cX7_digs 76 = .ok (.iload_n 2, 1) := by decide +kernel
theorem dX7_digs_77 : decode cX7_digs 77 = .ok (.invokevirtual 303, 3) := by decide +kernel
theorem dX7_digs_80 : decode cX7_digs 80 = .ok (.ireturn, 1) := by decide +kernel
theorem dX7_plainReaches_0 : decode cX7_plainReaches 0 = .ok (.aload_n 0, 1) := by decide +kernel
theorem dX7_plainReaches_1 : decode cX7_plainReaches 1 = .ok (.bipush 10, 2) := by decide +kernel
theorem dX7_plainReaches_3 : decode cX7_plainReaches 3 = .ok (.invokevirtual 300, 3) := by decide +kernel
theorem dX7_plainReaches_6 : decode cX7_plainReaches 6 = .ok (.aload_n 0, 1) := by decide +kernel
theorem dX7_plainReaches_7 : decode cX7_plainReaches 7 = .ok (.iload_n 1, 1) := by decide +kernel
theorem dX7_plainReaches_8 : decode cX7_plainReaches 8 = .ok (.iload_n 2, 1) := by decide +kernel
theorem dX7_plainReaches_9 : decode cX7_plainReaches 9 = .ok (.invokevirtual 312, 3) := by decide +kernel
theorem dX7_plainReaches_12 : decode cX7_plainReaches 12 = .ok (.iconst 2, 1) := by decide +kernel
theorem dX7_plainReaches_13 : decode cX7_plainReaches 13 = .ok (.imul, 1) := by decide +kernel
theorem dX7_plainReaches_14 : decode cX7_plainReaches 14 = .ok (.ireturn, 1) := by decide +kernel
theorem dX7_evenReaches_0 : decode cX7_evenReaches 0 = .ok (.aload_n 0, 1) := by decide +kernel
theorem dX7_evenReaches_1 : decode cX7_evenReaches 1 = .ok (.bipush 30, 2) := by decide +kernel
theorem dX7_evenReaches_3 : decode cX7_evenReaches 3 = .ok (.invokevirtual 300, 3) := by decide +kernel
theorem dX7_evenReaches_6 : decode cX7_evenReaches 6 = .ok (.aload_n 0, 1) := by decide +kernel
theorem dX7_evenReaches_7 : decode cX7_evenReaches 7 = .ok (.iload_n 1, 1) := by decide +kernel
theorem dX7_evenReaches_8 : decode cX7_evenReaches 8 = .ok (.iload_n 2, 1) := by decide +kernel
theorem dX7_evenReaches_9 : decode cX7_evenReaches 9 = .ok (.invokevirtual 315, 3) := by decide +kernel
theorem dX7_evenReaches_12 : decode cX7_evenReaches 12 = .ok (.ineg, 1) := by decide +kernel
theorem dX7_evenReaches_13 : decode cX7_evenReaches 13 = .ok (.ireturn, 1) := by decide +kernel
theorem dX7_reaches_0 : decode cX7_reaches 0 = .ok (.aload_n 0, 1) := by decide +kernel
theorem dX7_reaches_1 : decode cX7_reaches 1 = .ok (.getfield 89, 3) := by decide +kernel
theorem dX7_reaches_4 : decode cX7_reaches 4 = .ok (.iload_n 1, 1) := by decide +kernel
theorem dX7_reaches_5 : decode cX7_reaches 5 = .ok (.iaload, 1) := by decide +kernel
theorem dX7_reaches_6 : decode cX7_reaches 6 = .ok (.iconst 3, 1) := by decide +kernel
theorem dX7_reaches_7 : decode cX7_reaches 7 = .ok (.if_icmp .ne 18, 3) := by decide +kernel
theorem dX7_reaches_10 : decode cX7_reaches 10 = .ok (.aload_n 0, 1) := by decide +kernel
theorem dX7_reaches_11 : decode cX7_reaches 11 = .ok (.bipush 41, 2) := by decide +kernel
theorem dX7_reaches_13 : decode cX7_reaches 13 = .ok (.invokevirtual 300, 3) := by decide +kernel
theorem dX7_reaches_16 : decode cX7_reaches 16 = .ok (.aload_n 0, 1) := by decide +kernel
theorem dX7_reaches_17 : decode cX7_reaches 17 = .ok (.iload_n 1, 1) := by decide +kernel
theorem dX7_reaches_18 : decode cX7_reaches 18 = .ok (.iload_n 2, 1) := by decide +kernel
theorem dX7_reaches_19 : decode cX7_reaches 19 = .ok (.iconst 1, 1) := by decide +kernel
theorem dX7_reaches_20 : decode cX7_reaches 20 = .ok (.iadd, 1) := by decide +kernel
theorem dX7_reaches_21 : decode cX7_reaches 21 = .ok (.invokevirtual 318, 3) := by decide +kernel
theorem dX7_reaches_24 : decode cX7_reaches 24 = .ok (.ireturn, 1) := by decide +kernel
theorem dX7_reaches_25 : decode cX7_reaches 25 = .ok (.aload_n 0, 1) := by decide +kernel
theorem dX7_reaches_26 : decode cX7_reaches 26 = .ok (.getfield 89, 3) := by decide +kernel
theorem dX7_reaches_29 : decode cX7_reaches 29 = .ok (.iload_n 1, 1) := by decide +kernel
theorem dX7_reaches_30 : decode cX7_reaches 30 = .ok (.iaload, 1) := by decide +kernel
theorem dX7_reaches_31 : decode cX7_reaches 31 = .ok (.bipush 7, 2) := by decide +kernel
theorem dX7_reaches_33 : decode cX7_reaches 33 = .ok (.if_icmp .ne 25, 3) := by decide +kernel
theorem dX7_reaches_36 : decode cX7_reaches 36 = .ok (.aload_n 0, 1) := by decide +kernel
theorem dX7_reaches_37 : decode cX7_reaches 37 = .ok (.bipush 80, 2) := by decide +kernel
theorem dX7_reaches_39 : decode cX7_reaches 39 = .ok (.invokevirtual 300, 3) := by decide +kernel
theorem dX7_reaches_42 : decode cX7_reaches 42 = .ok (.aload_n 0, 1) := by decide +kernel
theorem dX7_reaches_43 : decode cX7_reaches 43 = .ok (.iload_n 1, 1) := by decide +kernel
theorem dX7_reaches_44 : decode cX7_reaches 44 = .ok (.iload_n 2, 1) := by decide +kernel
theorem dX7_reaches_45 : decode cX7_reaches 45 = .ok (.invokevirtual 315, 3) := by decide +kernel
theorem dX7_reaches_48 : decode cX7_reaches 48 = .ok (.istore_n 3, 1) := by decide +kernel
theorem dX7_reaches_49 : decode cX7_reaches 49 = .ok (.iload_n 3, 1) := by decide +kernel
theorem dX7_reaches_50 : decode cX7_reaches 50 = .ok (.aload_n 0, 1) := by decide +kernel
theorem dX7_reaches_51 : decode cX7_reaches 51 = .ok (.iload_n 1, 1) := by decide +kernel
theorem dX7_reaches_52 : decode cX7_reaches 52 = .ok (.iconst 2, 1) := by decide +kernel
theorem dX7_reaches_53 : decode cX7_reaches 53 = .ok (.invokevirtual 321, 3) := by decide +kernel
theorem dX7_reaches_56 : decode cX7_reaches 56 = .ok (.iadd, 1) := by decide +kernel
theorem dX7_reaches_57 : decode cX7_reaches 57 = .ok (.ireturn, 1) := by decide +kernel
theorem dX7_reaches_58 : decode cX7_reaches 58 = .ok (.aload_n 0, 1) := by decide +kernel
theorem dX7_reaches_59 : decode cX7_reaches 59 = .ok (.getfield 89, 3) := by decide +kernel
theorem dX7_reaches_62 : decode cX7_reaches 62 = .ok (.iload_n 1, 1) := by decide +kernel
theorem dX7_reaches_63 : decode cX7_reaches 63 = .ok (.iaload, 1) := by decide +kernel
theorem dX7_reaches_64 : decode cX7_reaches 64 = .ok (.iconst 2, 1) := by decide +kernel
theorem dX7_reaches_65 : decode cX7_reaches 65 = .ok (.if_icmp .ne 12, 3) := by decide +kernel
theorem dX7_reaches_68 : decode cX7_reaches 68 = .ok (.aload_n 0, 1) := by decide +kernel
theorem dX7_reaches_69 : decode cX7_reaches 69 = .ok (.iload_n 1, 1) := by decide +kernel
theorem dX7_reaches_70 : decode cX7_reaches 70 = .ok (.iload_n 2, 1) := by decide +kernel
theorem dX7_reaches_71 : decode cX7_reaches 71 = .ok (.invokevirtual 318, 3) := by decide +kernel
theorem dX7_reaches_74 : decode cX7_reaches 74 = .ok (.goto 9, 3) := by decide +kernel
theorem dX7_reaches_77 : decode cX7_reaches 77 = .ok (.aload_n 0, 1) := by decide +kernel
theorem dX7_reaches_78 : decode cX7_reaches 78 = .ok (.iload_n 1, 1) := by decide +kernel
theorem dX7_reaches_79 : decode cX7_reaches 79 = .ok (.iload_n 2, 1) := by decide +kernel
theorem dX7_reaches_80 : decode cX7_reaches 80 = .ok (.invokevirtual 315, 3) := by decide +kernel
theorem dX7_reaches_83 : decode cX7_reaches 83 = .ok (.ireturn, 1) := by decide +kernel
theorem dX7_plainNears_0 : decode cX7_plainNears 0 = .ok (.aload_n 0, 1) := by decide +kernel
theorem dX7_plainNears_1 : decode cX7_plainNears 1 = .ok (.bipush 11, 2) := by decide +kernel
theorem dX7_plainNears_3 : decode cX7_plainNears 3 = .ok (.invokevirtual 300, 3) := by decide +kernel
theorem dX7_plainNears_6 : decode cX7_plainNears 6 = .ok (.iload_n 2, 1) := by decide +kernel
theorem dX7_plainNears_7 : decode cX7_plainNears 7 = .ok (.iload_n 1, 1) := by decide +kernel
theorem dX7_plainNears_8 : decode cX7_plainNears 8 = .ok (.ixor, 1) := by decide +kernel
theorem dX7_plainNears_9 : decode cX7_plainNears 9 = .ok (.ireturn, 1) := by decide +kernel
theorem dX7_nears_0 : decode cX7_nears 0 = .ok (.aload_n 0, 1) := by decide +kernel
theorem dX7_nears_1 : decode cX7_nears 1 = .ok (.getfield 89, 3) := by decide +kernel
theorem dX7_nears_4 : decode cX7_nears 4 = .ok (.iload_n 1, 1) := by decide +kernel
theorem dX7_nears_5 : decode cX7_nears 5 = .ok (.iaload, 1) := by decide +kernel
theorem dX7_nears_6 : decode cX7_nears 6 = .ok (.iconst 3, 1) := by decide +kernel
theorem dX7_nears_7 : decode cX7_nears 7 = .ok (.if_icmp .ne 18, 3) := by decide +kernel
theorem dX7_nears_10 : decode cX7_nears 10 = .ok (.aload_n 0, 1) := by decide +kernel
theorem dX7_nears_11 : decode cX7_nears 11 = .ok (.bipush 40, 2) := by decide +kernel
theorem dX7_nears_13 : decode cX7_nears 13 = .ok (.invokevirtual 300, 3) := by decide +kernel
theorem dX7_nears_16 : decode cX7_nears 16 = .ok (.aload_n 0, 1) := by decide +kernel
theorem dX7_nears_17 : decode cX7_nears 17 = .ok (.iload_n 1, 1) := by decide +kernel
theorem dX7_nears_18 : decode cX7_nears 18 = .ok (.iload_n 2, 1) := by decide +kernel
theorem dX7_nears_19 : decode cX7_nears 19 = .ok (.invokevirtual 324, 3) := by decide +kernel
theorem dX7_nears_22 : decode cX7_nears 22 = .ok (.iconst 3, 1) := by decide +kernel
theorem dX7_nears_23 : decode cX7_nears 23 = .ok (.imul, 1) := by decide +kernel
theorem dX7_nears_24 : decode cX7_nears 24 = .ok (.ireturn, 1) := by decide +kernel
theorem dX7_nears_25 : decode cX7_nears 25 = .ok (.aload_n 0, 1) := by decide +kernel
theorem dX7_nears_26 : decode cX7_nears 26 = .ok (.getfield 89, 3) := by decide +kernel
theorem dX7_nears_29 : decode cX7_nears 29 = .ok (.iload_n 1, 1) := by decide +kernel
theorem dX7_nears_30 : decode cX7_nears 30 = .ok (.iaload, 1) := by decide +kernel
theorem dX7_nears_31 : decode cX7_nears 31 = .ok (.iconst 5, 1) := by decide +kernel
theorem dX7_nears_32 : decode cX7_nears 32 = .ok (.if_icmp .ne 25, 3) := by decide +kernel
theorem dX7_nears_35 : decode cX7_nears 35 = .ok (.aload_n 0, 1) := by decide +kernel
theorem dX7_nears_36 : decode cX7_nears 36 = .ok (.bipush 60, 2) := by decide +kernel
theorem dX7_nears_38 : decode cX7_nears 38 = .ok (.invokevirtual 300, 3) := by decide +kernel
theorem dX7_nears_41 : decode cX7_nears 41 = .ok (.aload_n 0, 1) := by decide +kernel
theorem dX7_nears_42 : decode cX7_nears 42 = .ok (.iload_n 1, 1) := by decide +kernel
theorem dX7_nears_43 : decode cX7_nears 43 = .ok (.iload_n 2, 1) := by decide +kernel
theorem dX7_nears_44 : decode cX7_nears 44 = .ok (.invokevirtual 324, 3) := by decide +kernel
theorem dX7_nears_47 : decode cX7_nears 47 = .ok (.istore_n 3, 1) := by decide +kernel
theorem dX7_nears_48 : decode cX7_nears 48 = .ok (.iload_n 3, 1) := by decide +kernel
theorem dX7_nears_49 : decode cX7_nears 49 = .ok (.aload_n 0, 1) := by decide +kernel
theorem dX7_nears_50 : decode cX7_nears 50 = .ok (.iload_n 1, 1) := by decide +kernel
theorem dX7_nears_51 : decode cX7_nears 51 = .ok (.iconst 2, 1) := by decide +kernel
theorem dX7_nears_52 : decode cX7_nears 52 = .ok (.invokevirtual 312, 3) := by decide +kernel
theorem dX7_nears_55 : decode cX7_nears 55 = .ok (.isub, 1) := by decide +kernel
theorem dX7_nears_56 : decode cX7_nears 56 = .ok (.ireturn, 1) := by decide +kernel
theorem dX7_nears_57 : decode cX7_nears 57 = .ok (.aload_n 0, 1) := by decide +kernel
theorem dX7_nears_58 : decode cX7_nears 58 = .ok (.iload_n 1, 1) := by decide +kernel
theorem dX7_nears_59 : decode cX7_nears 59 = .ok (.iload_n 2, 1) := by decide +kernel
theorem dX7_nears_60 : decode cX7_nears 60 = .ok (.invokevirtual 324, 3) := by decide +kernel
theorem dX7_nears_63 : decode cX7_nears 63 = .ok (.ireturn, 1) := by decide +kernel
theorem dX7_plainTells_0 : decode cX7_plainTells 0 = .ok (.aload_n 0, 1) := by decide +kernel
theorem dX7_plainTells_1 : decode cX7_plainTells 1 = .ok (.iconst 2, 1) := by decide +kernel
theorem dX7_plainTells_2 : decode cX7_plainTells 2 = .ok (.invokevirtual 300, 3) := by decide +kernel
theorem dX7_plainTells_5 : decode cX7_plainTells 5 = .ok (.aload_n 0, 1) := by decide +kernel
theorem dX7_plainTells_6 : decode cX7_plainTells 6 = .ok (.iload_n 1, 1) := by decide +kernel
theorem dX7_plainTells_7 : decode cX7_plainTells 7 = .ok (.iload_n 2, 1) := by decide +kernel
theorem dX7_plainTells_8 : decode cX7_plainTells 8 = .ok (.invokevirtual 327, 3) := by decide +kernel
theorem dX7_plainTells_11 : decode cX7_plainTells 11 = .ok (.istore_n 3, 1) := by decide +kernel
theorem dX7_plainTells_12 : decode cX7_plainTells 12 = .ok (.iload_n 3, 1) := by decide +kernel
theorem dX7_plainTells_13 : decode cX7_plainTells 13 = .ok (.aload_n 0, 1) := by decide +kernel
theorem dX7_plainTells_14 : decode cX7_plainTells 14 = .ok (.iload_n 1, 1) := by decide +kernel
theorem dX7_plainTells_15 : decode cX7_plainTells 15 = .ok (.iconst 1, 1) := by decide +kernel
theorem dX7_plainTells_16 : decode cX7_plainTells 16 = .ok (.invokevirtual 321, 3) := by decide +kernel
theorem dX7_plainTells_19 : decode cX7_plainTells 19 = .ok (.isub, 1) := by decide +kernel
theorem dX7_plainTells_20 : decode cX7_plainTells 20 = .ok (.ireturn, 1) := by decide +kernel
theorem dX7_lineTells_0 : decode cX7_lineTells 0 = .ok (.aload_n 0, 1) := by decide +kernel
theorem dX7_lineTells_1 : decode cX7_lineTells 1 = .ok (.bipush 50, 2) := by decide +kernel
theorem dX7_lineTells_3 : decode cX7_lineTells 3 = .ok (.invokevirtual 300, 3) := by decide +kernel
theorem dX7_lineTells_6 : decode cX7_lineTells 6 = .ok (.aload_n 0, 1) := by decide +kernel
theorem dX7_lineTells_7 : decode cX7_lineTells 7 = .ok (.iload_n 1, 1) := by decide +kernel
theorem dX7_lineTells_8 : decode cX7_lineTells 8 = .ok (.iload_n 2, 1) := by decide +kernel
theorem dX7_lineTells_9 : decode cX7_lineTells 9 = .ok (.invokevirtual 330, 3) := by decide +kernel
theorem dX7_lineTells_12 : decode cX7_lineTells 12 = .ok (.iconst 5, 1) := by decide +kernel
theorem dX7_lineTells_13 : decode cX7_lineTells 13 = .ok (.ixor, 1) := by decide +kernel
theorem dX7_lineTells_14 : decode cX7_lineTells 14 = .ok (.ireturn, 1) := by decide +kernel
theorem dX7_telling_0 : decode cX7_telling 0 = .ok (.aload_n 0, 1) := by decide +kernel
theorem dX7_telling_1 : decode cX7_telling 1 = .ok (.getfield 89, 3) := by decide +kernel
theorem dX7_telling_4 : decode cX7_telling 4 = .ok (.iload_n 1, 1) := by decide +kernel
theorem dX7_telling_5 : decode cX7_telling 5 = .ok (.iaload, 1) := by decide +kernel
theorem dX7_telling_6 : decode cX7_telling 6 = .ok (.iconst 5, 1) := by decide +kernel
theorem dX7_telling_7 : decode cX7_telling 7 = .ok (.if_icmp .ne 18, 3) := by decide +kernel
theorem dX7_telling_10 : decode cX7_telling 10 = .ok (.aload_n 0, 1) := by decide +kernel
theorem dX7_telling_11 : decode cX7_telling 11 = .ok (.bipush 61, 2) := by decide +kernel
theorem dX7_telling_13 : decode cX7_telling 13 = .ok (.invokevirtual 300, 3) := by decide +kernel
theorem dX7_telling_16 : decode cX7_telling 16 = .ok (.aload_n 0, 1) := by decide +kernel
theorem dX7_telling_17 : decode cX7_telling 17 = .ok (.iload_n 1, 1) := by decide +kernel
theorem dX7_telling_18 : decode cX7_telling 18 = .ok (.iload_n 2, 1) := by decide +kernel
theorem dX7_telling_19 : decode cX7_telling 19 = .ok (.invokevirtual 333, 3) := by decide +kernel
theorem dX7_telling_22 : decode cX7_telling 22 = .ok (.iconst 1, 1) := by decide +kernel
theorem dX7_telling_23 : decode cX7_telling 23 = .ok (.iadd, 1) := by decide +kernel
theorem dX7_telling_24 : decode cX7_telling 24 = .ok (.ireturn, 1) := by decide +kernel
theorem dX7_telling_25 : decode cX7_telling 25 = .ok (.aload_n 0, 1) := by decide +kernel
theorem dX7_telling_26 : decode cX7_telling 26 = .ok (.getfield 89, 3) := by decide +kernel
theorem dX7_telling_29 : decode cX7_telling 29 = .ok (.iload_n 1, 1) := by decide +kernel
theorem dX7_telling_30 : decode cX7_telling 30 = .ok (.iaload, 1) := by decide +kernel
theorem dX7_telling_31 : decode cX7_telling 31 = .ok (.iconst 4, 1) := by decide +kernel
theorem dX7_telling_32 : decode cX7_telling 32 = .ok (.if_icmp .ne 12, 3) := by decide +kernel
theorem dX7_telling_35 : decode cX7_telling 35 = .ok (.aload_n 0, 1) := by decide +kernel
theorem dX7_telling_36 : decode cX7_telling 36 = .ok (.iload_n 1, 1) := by decide +kernel
theorem dX7_telling_37 : decode cX7_telling 37 = .ok (.iload_n 2, 1) := by decide +kernel
theorem dX7_telling_38 : decode cX7_telling 38 = .ok (.invokevirtual 333, 3) := by decide +kernel
theorem dX7_telling_41 : decode cX7_telling 41 = .ok (.goto 9, 3) := by decide +kernel
theorem dX7_telling_44 : decode cX7_telling 44 = .ok (.aload_n 0, 1) := by decide +kernel
theorem dX7_telling_45 : decode cX7_telling 45 = .ok (.iload_n 1, 1) := by decide +kernel
theorem dX7_telling_46 : decode cX7_telling 46 = .ok (.iload_n 2, 1) := by decide +kernel
theorem dX7_telling_47 : decode cX7_telling 47 = .ok (.invokevirtual 330, 3) := by decide +kernel
theorem dX7_telling_50 : decode cX7_telling 50 = .ok (.ireturn, 1) := by decide +kernel
theorem dX7_act_0 : decode cX7_act 0 = .ok (.aload_n 0, 1) := by decide +kernel
theorem dX7_act_1 : decode cX7_act 1 = .ok (.iconst 0, 1) := by decide +kernel
theorem dX7_act_2 : decode cX7_act 2 = .ok (.putfield 297, 3) := by decide +kernel
theorem dX7_act_5 : decode cX7_act 5 = .ok (.aload_n 0, 1) := by decide +kernel
theorem dX7_act_6 : decode cX7_act 6 = .ok (.iload_n 1, 1) := by decide +kernel
theorem dX7_act_7 : decode cX7_act 7 = .ok (.invokevirtual 336, 3) := by decide +kernel
theorem dX7_act_10 : decode cX7_act 10 = .ok (.ifCond .eq 12, 3) := by decide +kernel
theorem dX7_act_13 : decode cX7_act 13 = .ok (.iload_n 2, 1) := by decide +kernel
theorem dX7_act_14 : decode cX7_act 14 = .ok (.iconst 0, 1) := by decide +kernel
theorem dX7_act_15 : decode cX7_act 15 = .ok (.iconst 3, 1) := by decide +kernel
theorem dX7_act_16 : decode cX7_act 16 = .ok (.invokestatic 114, 3) := by decide +kernel
theorem dX7_act_19 : decode cX7_act 19 = .ok (.ifCond .ne 5, 3) := by decide +kernel
theorem dX7_act_22 : decode cX7_act 22 = .ok (.iconst 0, 1) := by decide +kernel
theorem dX7_act_23 : decode cX7_act 23 = .ok (.ireturn, 1) := by decide +kernel
theorem dX7_act_24 : decode cX7_act 24 = .ok (.iload_n 2, 1) := by decide +kernel
theorem dX7_act_25 : decode cX7_act 25 = .ok (.ifCond .ne 12, 3) := by decide +kernel
theorem dX7_act_28 : decode cX7_act 28 = .ok (.aload_n 0, 1) := by decide +kernel
theorem dX7_act_29 : decode cX7_act 29 = .ok (.iload_n 1, 1) := by decide +kernel
theorem dX7_act_30 : decode cX7_act 30 = .ok (.iload_n 3, 1) := by decide +kernel
theorem dX7_act_31 : decode cX7_act 31 = .ok (.invokevirtual 312, 3) := by decide +kernel
theorem dX7_act_34 : decode cX7_act 34 = .ok (.goto 37, 3) := by decide +kernel
theorem dX7_act_37 : decode cX7_act 37 = .ok (.iload_n 2, 1) := by decide +kernel
theorem dX7_act_38 : decode cX7_act 38 = .ok (.iconst 1, 1) := by decide +kernel
theorem dX7_act_39 : decode cX7_act 39 = .ok (.if_icmp .ne 12, 3) := by decide +kernel
theorem dX7_act_42 : decode cX7_act 42 = .ok (.aload_n 0, 1) := by decide +kernel
theorem dX7_act_43 : decode cX7_act 43 = .ok (.iload_n 1, 1) := by decide +kernel
theorem dX7_act_44 : decode cX7_act 44 = .ok (.iload_n 3, 1) := by decide +kernel
theorem dX7_act_45 : decode cX7_act 45 = .ok (.invokevirtual 327, 3) := by decide +kernel
theorem dX7_act_48 : decode cX7_act 48 = .ok (.goto 23, 3) := by decide +kernel
theorem dX7_act_51 : decode cX7_act 51 = .ok (.iload_n 2, 1) := by decide +kernel
theorem dX7_act_52 : decode cX7_act 52 = .ok (.iconst 2, 1) := by decide +kernel
theorem dX7_act_53 : decode cX7_act 53 = .ok (.if_icmp .ne 12, 3) := by decide +kernel
theorem dX7_act_56 : decode cX7_act 56 = .ok (.aload_n 0, 1) := by decide +kernel
theorem dX7_act_57 : decode cX7_act 57 = .ok (.iload_n 1, 1) := by decide +kernel
theorem dX7_act_58 : decode cX7_act 58 = .ok (.iload_n 3, 1) := by decide +kernel
theorem dX7_act_59 : decode cX7_act 59 = .ok (.invokevirtual 321, 3) := by decide +kernel
theorem dX7_act_62 : decode cX7_act 62 = .ok (.goto 9, 3) := by decide +kernel
theorem dX7_act_65 : decode cX7_act 65 = .ok (.aload_n 0, 1) := by decide +kernel
theorem dX7_act_66 : decode cX7_act 66 = .ok (.iload_n 1, 1) := by decide +kernel
theorem dX7_act_67 : decode cX7_act 67 = .ok (.iload_n 3, 1) := by decide +kernel
theorem dX7_act_68 : decode cX7_act 68 = .ok (.invokevirtual 339, 3) := by decide +kernel
theorem dX7_act_71 : decode cX7_act 71 = .ok (.ireturn, 1) := by decide +kernel
theorem dX7_count_0 : decode cX7_count 0 = .ok (.iload_n 1, 1) := by decide +kernel
theorem dX7_count_1 : decode cX7_count 1 = .ok (.tableswitch 78 0 6 #[43, 48, 53, 58, 63, 68, 73], 43) := by decide +kernel
theorem dX7_count_44 : decode cX7_count 44 = .ok (.aload_n 0, 1) := by decide +kernel
theorem dX7_count_45 : decode cX7_count 45 = .ok (.getfield 111, 3) := by decide +kernel
theorem dX7_count_48 : decode cX7_count 48 = .ok (.ireturn, 1) := by decide +kernel
theorem dX7_count_49 : decode cX7_count 49 = .ok (.aload_n 0, 1) := by decide +kernel
theorem dX7_count_50 : decode cX7_count 50 = .ok (.getfield 122, 3) := by decide +kernel
theorem dX7_count_53 : decode cX7_count 53 = .ok (.ireturn, 1) := by decide +kernel
theorem dX7_count_54 : decode cX7_count 54 = .ok (.aload_n 0, 1) := by decide +kernel
theorem dX7_count_55 : decode cX7_count 55 = .ok (.getfield 135, 3) := by decide +kernel
theorem dX7_count_58 : decode cX7_count 58 = .ok (.ireturn, 1) := by decide +kernel
theorem dX7_count_59 : decode cX7_count 59 = .ok (.aload_n 0, 1) := by decide +kernel
theorem dX7_count_60 : decode cX7_count 60 = .ok (.getfield 168, 3) := by decide +kernel
theorem dX7_count_63 : decode cX7_count 63 = .ok (.ireturn, 1) := by decide +kernel
theorem dX7_count_64 : decode cX7_count 64 = .ok (.aload_n 0, 1) := by decide +kernel
theorem dX7_count_65 : decode cX7_count 65 = .ok (.getfield 150, 3) := by decide +kernel
theorem dX7_count_68 : decode cX7_count 68 = .ok (.ireturn, 1) := by decide +kernel
theorem dX7_count_69 : decode cX7_count 69 = .ok (.aload_n 0, 1) := by decide +kernel
theorem dX7_count_70 : decode cX7_count 70 = .ok (.getfield 294, 3) := by decide +kernel
theorem dX7_count_73 : decode cX7_count 73 = .ok (.ireturn, 1) := by decide +kernel
theorem dX7_count_74 : decode cX7_count 74 = .ok (.aload_n 0, 1) := by decide +kernel
theorem dX7_count_75 : decode cX7_count 75 = .ok (.getfield 297, 3) := by decide +kernel
theorem dX7_count_78 : decode cX7_count 78 = .ok (.ireturn, 1) := by decide +kernel
theorem dX7_count_79 : decode cX7_count 79 = .ok (.iconst (-1), 1) := by decide +kernel
theorem dX7_count_80 : decode cX7_count 80 = .ok (.ireturn, 1) := by decide +kernel
theorem dX7_isShelf_0 : decode cX7_isShelf 0 = .ok (.iload_n 0, 1) := by decide +kernel
theorem dX7_isShelf_1 : decode cX7_isShelf 1 = .ok (.iconst 0, 1) := by decide +kernel
theorem dX7_isShelf_2 : decode cX7_isShelf 2 = .ok (.iconst 5, 1) := by decide +kernel
theorem dX7_isShelf_3 : decode cX7_isShelf 3 = .ok (.invokestatic 114, 3) := by decide +kernel
theorem dX7_isShelf_6 : decode cX7_isShelf 6 = .ok (.ireturn, 1) := by decide +kernel
theorem dX7_keep_0 : decode cX7_keep 0 = .ok (.iload_n 1, 1) := by decide +kernel
theorem dX7_keep_1 : decode cX7_keep 1 = .ok (.invokestatic 132, 3) := by decide +kernel
theorem dX7_keep_4 : decode cX7_keep 4 = .ok (.ifCond .eq 16, 3) := by decide +kernel
theorem dX7_keep_7 : decode cX7_keep 7 = .ok (.iload_n 2, 1) := by decide +kernel
theorem dX7_keep_8 : decode cX7_keep 8 = .ok (.iconst (-1), 1) := by decide +kernel
theorem dX7_keep_9 : decode cX7_keep 9 = .ok (.if_icmp .eq 13, 3) := by decide +kernel
theorem dX7_keep_12 : decode cX7_keep 12 = .ok (.aload_n 0, 1) := by decide +kernel
theorem dX7_keep_13 : decode cX7_keep 13 = .ok (.iload_n 2, 1) := by decide +kernel
theorem dX7_keep_14 : decode cX7_keep 14 = .ok (.invokevirtual 336, 3) := by decide +kernel
theorem dX7_keep_17 : decode cX7_keep 17 = .ok (.ifCond .ne 5, 3) := by decide +kernel
theorem dX7_keep_20 : decode cX7_keep 20 = .ok (.iconst (-1), 1) := by decide +kernel
theorem dX7_keep_21 : decode cX7_keep 21 = .ok (.ireturn, 1) := by decide +kernel
theorem dX7_keep_22 : decode cX7_keep 22 = .ok (.aload_n 0, 1) := by decide +kernel
theorem dX7_keep_23 : decode cX7_keep 23 = .ok (.getfield 95, 3) := by decide +kernel
theorem dX7_keep_26 : decode cX7_keep 26 = .ok (.iload_n 1, 1) := by decide +kernel
theorem dX7_keep_27 : decode cX7_keep 27 = .ok (.iload_n 2, 1) := by decide +kernel
theorem dX7_keep_28 : decode cX7_keep 28 = .ok (.iastore, 1) := by decide +kernel
theorem dX7_keep_29 : decode cX7_keep 29 = .ok (.iconst 1, 1) := by decide +kernel
theorem dX7_keep_30 : decode cX7_keep 30 = .ok (.ireturn, 1) := by decide +kernel
theorem dX7_row_0 : decode cX7_row 0 = .ok (.iload_n 1, 1) := by decide +kernel
theorem dX7_row_1 : decode cX7_row 1 = .ok (.invokestatic 132, 3) := by decide +kernel
theorem dX7_row_4 : decode cX7_row 4 = .ok (.ifCond .eq 18, 3) := by decide +kernel
theorem dX7_row_7 : decode cX7_row 7 = .ok (.iload_n 2, 1) := by decide +kernel
theorem dX7_row_8 : decode cX7_row 8 = .ok (.iconst 0, 1) := by decide +kernel
theorem dX7_row_9 : decode cX7_row 9 = .ok (.iconst 4, 1) := by decide +kernel
theorem dX7_row_10 : decode cX7_row 10 = .ok (.invokestatic 114, 3) := by decide +kernel
theorem dX7_row_13 : decode cX7_row 13 = .ok (.ifCond .eq 9, 3) := by decide +kernel
theorem dX7_row_16 : decode cX7_row 16 = .ok (.iload_n 3, 1) := by decide +kernel
theorem dX7_row_17 : decode cX7_row 17 = .ok (.bipush 60, 2) := by decide +kernel
theorem dX7_row_19 : decode cX7_row 19 = .ok (.if_icmp .le 5, 3) := by decide +kernel
theorem dX7_row_22 : decode cX7_row 22 = .ok (.iconst (-1), 1) := by decide +kernel
theorem dX7_row_23 : decode cX7_row 23 = .ok (.ireturn, 1) := by decide +kernel
theorem dX7_row_24 : decode cX7_row 24 = .ok (.iload_n 3, 1) := by decide +kernel
theorem dX7_row_25 : decode cX7_row 25 = .ok (.ifCond .ge 6, 3) := by decide +kernel
theorem dX7_row_28 : decode cX7_row 28 = .ok (.bipush (-14), 2) := by decide +kernel
theorem dX7_row_30 : decode cX7_row 30 = .ok (.ireturn, 1) := by decide +kernel
theorem dX7_row_31 : decode cX7_row 31 = .ok (.aload_n 0, 1) := by decide +kernel
theorem dX7_row_32 : decode cX7_row 32 = .ok (.getfield 95, 3) := by decide +kernel
theorem dX7_row_35 : decode cX7_row 35 = .ok (.iload_n 1, 1) := by decide +kernel
theorem dX7_row_36 : decode cX7_row 36 = .ok (.bipush (-2), 2) := by decide +kernel
theorem dX7_row_38 : decode cX7_row 38 = .ok (.iload_n 2, 1) := by decide +kernel
theorem dX7_row_39 : decode cX7_row 39 = .ok (.isub, 1) := by decide +kernel
theorem dX7_row_40 : decode cX7_row 40 = .ok (.iastore, 1) := by decide +kernel
theorem dX7_row_41 : decode cX7_row 41 = .ok (.aload_n 0, 1) := by decide +kernel
theorem dX7_row_42 : decode cX7_row 42 = .ok (.getfield 98, 3) := by decide +kernel
theorem dX7_row_45 : decode cX7_row 45 = .ok (.iload_n 1, 1) := by decide +kernel
theorem dX7_row_46 : decode cX7_row 46 = .ok (.iload_n 3, 1) := by decide +kernel
theorem dX7_row_47 : decode cX7_row 47 = .ok (.iastore, 1) := by decide +kernel
theorem dX7_row_48 : decode cX7_row 48 = .ok (.bipush 60, 2) := by decide +kernel
theorem dX7_row_50 : decode cX7_row 50 = .ok (.iload_n 1, 1) := by decide +kernel
theorem dX7_row_51 : decode cX7_row 51 = .ok (.imul, 1) := by decide +kernel
theorem dX7_row_52 : decode cX7_row 52 = .ok (.istore 4, 2) := by decide +kernel
theorem dX7_row_54 : decode cX7_row 54 = .ok (.iload 4, 2) := by decide +kernel
theorem dX7_row_56 : decode cX7_row 56 = .ok (.bipush 60, 2) := by decide +kernel
theorem dX7_row_58 : decode cX7_row 58 = .ok (.iload_n 1, 1) := by decide +kernel
theorem dX7_row_59 : decode cX7_row 59 = .ok (.imul, 1) := by decide +kernel
theorem dX7_row_60 : decode cX7_row 60 = .ok (.bipush 60, 2) := by decide +kernel
theorem dX7_row_62 : decode cX7_row 62 = .ok (.iadd, 1) := by decide +kernel
theorem dX7_row_63 : decode cX7_row 63 = .ok (.if_icmp .ge 17, 3) := by decide +kernel
theorem dX7_row_66 : decode cX7_row 66 = .ok (.aload_n 0, 1) := by decide +kernel
theorem dX7_row_67 : decode cX7_row 67 = .ok (.getfield 101, 3) := by decide +kernel
theorem dX7_row_70 : decode cX7_row 70 = .ok (.iload 4, 2) := by decide +kernel
theorem dX7_row_72 : decode cX7_row 72 = .ok (.lconst 0, 1) := by decide +kernel
theorem dX7_row_73 : decode cX7_row 73 = .ok (.lastore, 1) := by decide +kernel
theorem dX7_row_74 : decode cX7_row 74 = .ok (.iinc 4 1, 3) := by decide +kernel
theorem dX7_row_77 : decode cX7_row 77 = .ok (.goto (-23), 3) := by decide +kernel
theorem dX7_row_80 : decode cX7_row 80 = .ok (.iconst 1, 1) := by decide +kernel
theorem dX7_row_81 : decode cX7_row 81 = .ok (.ireturn, 1) := by decide +kernel
theorem dX7_whyNoPlace_0 : decode cX7_whyNoPlace 0 = .ok (.iload_n 1, 1) := by decide +kernel
theorem dX7_whyNoPlace_1 : decode cX7_whyNoPlace 1 = .ok (.invokestatic 132, 3) := by decide +kernel
theorem dX7_whyNoPlace_4 : decode cX7_whyNoPlace 4 = .ok (.ifCond .ne 5, 3) := by decide +kernel
theorem dX7_whyNoPlace_7 : decode cX7_whyNoPlace 7 = .ok (.iconst (-1), 1) := by decide +kernel
theorem dX7_whyNoPlace_8 : decode cX7_whyNoPlace 8 = .ok (.ireturn, 1) := by decide +kernel
theorem dX7_whyNoPlace_9 : decode cX7_whyNoPlace 9 = .ok (.aload_n 0, 1) := by decide +kernel
theorem dX7_whyNoPlace_10 : decode cX7_whyNoPlace 10 = .ok (.getfield 95, 3) := by decide +kernel
theorem dX7_whyNoPlace_13 : decode cX7_whyNoPlace 13 = .ok (.iload_n 1, 1) := by decide +kernel
theorem dX7_whyNoPlace_14 : decode cX7_whyNoPlace 14 = .ok (.iaload, 1) := by decide +kernel
theorem dX7_whyNoPlace_15 : decode cX7_whyNoPlace 15 = .ok (.iconst (-1), 1) := by decide +kernel
theorem dX7_whyNoPlace_16 : decode cX7_whyNoPlace 16 = .ok (.if_icmp .ne 6, 3) := by decide +kernel
theorem dX7_whyNoPlace_19 : decode cX7_whyNoPlace 19 = .ok (.bipush (-11), 2) := by decide +kernel
theorem dX7_whyNoPlace_21 : decode cX7_whyNoPlace 21 = .ok (.ireturn, 1) := by decide +kernel
theorem dX7_whyNoPlace_22 : decode cX7_whyNoPlace 22 = .ok (.aload_n 0, 1) := by decide +kernel
theorem dX7_whyNoPlace_23 : decode cX7_whyNoPlace 23 = .ok (.getfield 95, 3) := by decide +kernel
theorem dX7_whyNoPlace_26 : decode cX7_whyNoPlace 26 = .ok (.iload_n 1, 1) := by decide +kernel
theorem dX7_whyNoPlace_27 : decode cX7_whyNoPlace 27 = .ok (.iaload, 1) := by decide +kernel
theorem dX7_whyNoPlace_28 : decode cX7_whyNoPlace 28 = .ok (.ifCond .lt 6, 3) := by decide +kernel
theorem dX7_whyNoPlace_31 : decode cX7_whyNoPlace 31 = .ok (.bipush (-12), 2) := by decide +kernel
theorem dX7_whyNoPlace_33 : decode cX7_whyNoPlace 33 = .ok (.ireturn, 1) := by decide +kernel
theorem dX7_whyNoPlace_34 : decode cX7_whyNoPlace 34 = .ok (.iload_n 2, 1) := by decide +kernel
theorem dX7_whyNoPlace_35 : decode cX7_whyNoPlace 35 = .ok (.iconst 0, 1) := by decide +kernel
theorem dX7_whyNoPlace_36 : decode cX7_whyNoPlace 36 = .ok (.aload_n 0, 1) := by decide +kernel
theorem dX7_whyNoPlace_37 : decode cX7_whyNoPlace 37 = .ok (.getfield 98, 3) := by decide +kernel
theorem dX7_whyNoPlace_40 : decode cX7_whyNoPlace 40 = .ok (.iload_n 1, 1) := by decide +kernel
theorem dX7_whyNoPlace_41 : decode cX7_whyNoPlace 41 = .ok (.iaload, 1) := by decide +kernel
theorem dX7_whyNoPlace_42 : decode cX7_whyNoPlace 42 = .ok (.iconst 1, 1) := by decide +kernel
theorem dX7_whyNoPlace_43 : decode cX7_whyNoPlace 43 = .ok (.isub, 1) := by decide +kernel
theorem dX7_whyNoPlace_44 : decode cX7_whyNoPlace 44 = .ok (.invokestatic 114, 3) := by decide +kernel
theorem dX7_whyNoPlace_47 : decode cX7_whyNoPlace 47 = .ok (.ifCond .eq 7, 3) := by decide +kernel
theorem dX7_whyNoPlace_50 : decode cX7_whyNoPlace 50 = .ok (.iconst 0, 1) := by decide +kernel
theorem dX7_whyNoPlace_51 : decode cX7_whyNoPlace 51 = .ok (.goto 5, 3) := by decide +kernel
theorem dX7_whyNoPlace_54 : decode cX7_whyNoPlace 54 = .ok (.bipush (-13), 2) := by decide +kernel
theorem dX7_whyNoPlace_56 : decode cX7_whyNoPlace 56 = .ok (.ireturn, 1) := by decide +kernel
theorem dX7_put_0 : decode cX7_put 0 = .ok (.aload_n 0, 1) := by decide +kernel
theorem dX7_put_1 : decode cX7_put 1 = .ok (.iload_n 1, 1) := by decide +kernel
theorem dX7_put_2 : decode cX7_put 2 = .ok (.iload_n 2, 1) := by decide +kernel
theorem dX7_put_3 : decode cX7_put 3 = .ok (.invokevirtual 342, 3) := by decide +kernel
theorem dX7_put_6 : decode cX7_put 6 = .ok (.istore 5, 2) := by decide +kernel
theorem dX7_put_8 : decode cX7_put 8 = .ok (.iload 5, 2) := by decide +kernel
theorem dX7_put_10 : decode cX7_put 10 = .ok (.ifCond .ge 6, 3) := by decide +kernel
theorem dX7_put_13 : decode cX7_put 13 = .ok (.iload 5, 2) := by decide +kernel
theorem dX7_put_15 : decode cX7_put 15 = .ok (.ireturn, 1) := by decide +kernel
theorem dX7_put_16 : decode cX7_put 16 = .ok (.bipush (-2), 2) := by decide +kernel
theorem dX7_put_18 : decode cX7_put 18 = .ok (.aload_n 0, 1) := by decide +kernel
theorem dX7_put_19 : decode cX7_put 19 = .ok (.getfield 95, 3) := by decide +kernel
theorem dX7_put_22 : decode cX7_put 22 = .ok (.iload_n 1, 1) := by decide +kernel
theorem dX7_put_23 : decode cX7_put 23 = .ok (.iaload, 1) := by decide +kernel
theorem dX7_put_24 : decode cX7_put 24 = .ok (.isub, 1) := by decide +kernel
theorem dX7_put_25 : decode cX7_put 25 = .ok (.istore 6, 2) := by decide +kernel
theorem dX7_put_27 : decode cX7_put 27 = .ok (.aload_n 0, 1) := by decide +kernel
theorem dX7_put_28 : decode cX7_put 28 = .ok (.getfield 101, 3) := by decide +kernel
theorem dX7_put_31 : decode cX7_put 31 = .ok (.bipush 60, 2) := by decide +kernel
theorem dX7_put_33 : decode cX7_put 33 = .ok (.iload_n 1, 1) := by decide +kernel
theorem dX7_put_34 : decode cX7_put 34 = .ok (.imul, 1) := by decide +kernel
theorem dX7_put_35 : decode cX7_put 35 = .ok (.iload_n 2, 1) := by decide +kernel
theorem dX7_put_36 : decode cX7_put 36 = .ok (.iadd, 1) := by decide +kernel
theorem dX7_put_37 : decode cX7_put 37 = .ok (.iload 6, 2) := by decide +kernel
theorem dX7_put_39 : decode cX7_put 39 = .ok (.ifCond .ne 10, 3) := by decide +kernel
theorem dX7_put_42 : decode cX7_put 42 = .ok (.lload_n 3, 1) := by decide +kernel
theorem dX7_put_43 : decode cX7_put 43 = .ok (.l2i, 1) := by decide +kernel
theorem dX7_put_44 : decode cX7_put 44 = .ok (.i2b, 1) := by decide +kernel
theorem dX7_put_45 : decode cX7_put 45 = .ok (.i2l, 1) := by decide +kernel
theorem dX7_put_46 : decode cX7_put 46 = .ok (.goto 49, 3) := by decide +kernel
theorem dX7_put_49 : decode cX7_put 49 = .ok (.iload 6, 2) := by decide +kernel
theorem dX7_put_51 : decode cX7_put 51 = .ok (.iconst 1, 1) := by decide +kernel
theorem dX7_put_52 : decode cX7_put 52 = .ok (.if_icmp .ne 10, 3) := by decide +kernel
theorem dX7_put_55 : decode cX7_put 55 = .ok (.lload_n 3, 1) := by decide +kernel
theorem dX7_put_56 : decode cX7_put 56 = .ok (.l2i, 1) := by decide +kernel
theorem dX7_put_57 : decode cX7_put 57 = .ok (.i2s, 1) := by decide +kernel
theorem dX7_put_58 : decode cX7_put 58 = .ok (.i2l, 1) := by decide +kernel
theorem dX7_put_59 : decode cX7_put 59 = .ok (.goto 36, 3) := by decide +kernel
theorem dX7_put_62 : decode cX7_put 62 = .ok (.iload 6, 2) := by decide +kernel
theorem dX7_put_64 : decode cX7_put 64 = .ok (.iconst 2, 1) := by decide +kernel
theorem dX7_put_65 : decode cX7_put 65 = .ok (.if_icmp .ne 9, 3) := by decide +kernel
theorem dX7_put_68 : decode cX7_put 68 = .ok (.lload_n 3, 1) := by decide +kernel
theorem dX7_put_69 : decode cX7_put 69 = .ok (.l2i, 1) := by decide +kernel
theorem dX7_put_70 : decode cX7_put 70 = .ok (.i2l, 1) := by decide +kernel
theorem dX7_put_71 : decode cX7_put 71 = .ok (.goto 24, 3) := by decide +kernel
theorem dX7_put_74 : decode cX7_put 74 = .ok (.iload 6, 2) := by decide +kernel
theorem dX7_put_76 : decode cX7_put 76 = .ok (.iconst 3, 1) := by decide +kernel
theorem dX7_put_77 : decode cX7_put 77 = .ok (.if_icmp .ne 7, 3) := by decide +kernel
theorem dX7_put_80 : decode cX7_put 80 = .ok (.lload_n 3, 1) := by decide +kernel
theorem dX7_put_81 : decode cX7_put 81 = .ok (.goto 14, 3) := by decide +kernel
theorem dX7_put_84 : decode cX7_put 84 = .ok (.lload_n 3, 1) := by decide +kernel
theorem dX7_put_85 : decode cX7_put 85 = .ok (.lconst 0, 1) := by decide +kernel
theorem dX7_put_86 : decode cX7_put 86 = .ok (.lcmp, 1) := by decide +kernel
theorem dX7_put_87 : decode cX7_put 87 = .ok (.ifCond .eq 7, 3) := by decide +kernel
theorem dX7_put_90 : decode cX7_put 90 = .ok (.lconst 1, 1) := by decide +kernel
theorem dX7_put_91 : decode cX7_put 91 = .ok (.goto 4, 3) := by decide +kernel
theorem dX7_put_94 : decode cX7_put 94 = .ok (.lconst 0, 1) := by decide +kernel
theorem dX7_put_95 : decode cX7_put 95 = .ok (.lastore, 1) := by decide +kernel
theorem dX7_put_96 : decode cX7_put 96 = .ok (.iconst 1, 1) := by decide +kernel
theorem dX7_put_97 : decode cX7_put 97 = .ok (.ireturn, 1) := by decide +kernel
theorem dX7_element_0 : decode cX7_element 0 = .ok (.aload_n 0, 1) := by decide +kernel
theorem dX7_element_1 : decode cX7_element 1 = .ok (.iload_n 1, 1) := by decide +kernel
theorem dX7_element_2 : decode cX7_element 2 = .ok (.iload_n 2, 1) := by decide +kernel
theorem dX7_element_3 : decode cX7_element 3 = .ok (.invokevirtual 342, 3) := by decide +kernel
theorem dX7_element_6 : decode cX7_element 6 = .ok (.ifCond .ge 9, 3) := by decide +kernel
theorem dX7_element_9 : decode cX7_element 9 = .ok (.ldc2_w 347, 3) := by decide +kernel
theorem dX7_element_12 : decode cX7_element 12 = .ok (.goto 14, 3) := by decide +kernel
theorem dX7_element_15 : decode cX7_element 15 = .ok (.aload_n 0, 1) := by decide +kernel
theorem dX7_element_16 : decode cX7_element 16 = .ok (.getfield 101, 3) := by decide +kernel
theorem dX7_element_19 : decode cX7_element 19 = .ok (.bipush 60, 2) := by decide +kernel
theorem dX7_element_21 : decode cX7_element 21 = .ok (.iload_n 1, 1) := by decide +kernel
theorem dX7_element_22 : decode cX7_element 22 = .ok (.imul, 1) := by decide +kernel
theorem dX7_element_23 : decode cX7_element 23 = .ok (.iload_n 2, 1) := by decide +kernel
theorem dX7_element_24 : decode cX7_element 24 = .ok (.iadd, 1) := by decide +kernel
theorem dX7_element_25 : decode cX7_element 25 = .ok (.laload, 1) := by decide +kernel
theorem dX7_element_26 : decode cX7_element 26 = .ok (.lreturn, 1) := by decide +kernel
theorem dX7_shift_0 : decode cX7_shift 0 = .ok (.iload_n 1, 1) := by decide +kernel
theorem dX7_shift_1 : decode cX7_shift 1 = .ok (.invokestatic 132, 3) := by decide +kernel
theorem dX7_shift_4 : decode cX7_shift 4 = .ok (.ifCond .eq 10, 3) := by decide +kernel
theorem dX7_shift_7 : decode cX7_shift 7 = .ok (.iload_n 3, 1) := by decide +kernel
theorem dX7_shift_8 : decode cX7_shift 8 = .ok (.invokestatic 132, 3) := by decide +kernel
theorem dX7_shift_11 : decode cX7_shift 11 = .ok (.ifCond .ne 5, 3) := by decide +kernel
theorem dX7_shift_14 : decode cX7_shift 14 = .ok (.iconst (-1), 1) := by decide +kernel
theorem dX7_shift_15 : decode cX7_shift 15 = .ok (.ireturn, 1) := by decide +kernel
theorem dX7_shift_16 : decode cX7_shift 16 = .ok (.aload_n 0, 1) := by decide +kernel
theorem dX7_shift_17 : decode cX7_shift 17 = .ok (.getfield 95, 3) := by decide +kernel
theorem dX7_shift_20 : decode cX7_shift 20 = .ok (.iload_n 1, 1) := by decide +kernel
theorem dX7_shift_21 : decode cX7_shift 21 = .ok (.iaload, 1) := by decide +kernel
theorem dX7_shift_22 : decode cX7_shift 22 = .ok (.iconst (-1), 1) := by decide +kernel
theorem dX7_shift_23 : decode cX7_shift 23 = .ok (.if_icmp .eq 13, 3) := by decide +kernel
theorem dX7_shift_26 : decode cX7_shift 26 = .ok (.aload_n 0, 1) := by decide +kernel
theorem dX7_shift_27 : decode cX7_shift 27 = .ok (.getfield 95, 3) := by decide +kernel
theorem dX7_shift_30 : decode cX7_shift 30 = .ok (.iload_n 3, 1) := by decide +kernel
theorem dX7_shift_31 : decode cX7_shift 31 = .ok (.iaload, 1) := by decide +kernel
theorem dX7_shift_32 : decode cX7_shift 32 = .ok (.iconst (-1), 1) := by decide +kernel
theorem dX7_shift_33 : decode cX7_shift 33 = .ok (.if_icmp .ne 6, 3) := by decide +kernel
theorem dX7_shift_36 : decode cX7_shift 36 = .ok (.bipush (-11), 2) := by decide +kernel
theorem dX7_shift_38 : decode cX7_shift 38 = .ok (.ireturn, 1) := by decide +kernel
theorem dX7_shift_39 : decode cX7_shift 39 = .ok (.aload_n 0, 1) := by decide +kernel
theorem dX7_shift_40 : decode cX7_shift 40 = .ok (.getfield 95, 3) := by decide +kernel
theorem dX7_shift_43 : decode cX7_shift 43 = .ok (.iload_n 1, 1) := by decide +kernel
theorem dX7_shift_44 : decode cX7_shift 44 = .ok (.iaload, 1) := by decide +kernel
theorem dX7_shift_45 : decode cX7_shift 45 = .ok (.ifCond .ge 18, 3) := by decide +kernel
theorem dX7_shift_48 : decode cX7_shift 48 = .ok (.aload_n 0, 1) := by decide +kernel
theorem dX7_shift_49 : decode cX7_shift 49 = .ok (.getfield 95, 3) := by decide +kernel
theorem dX7_shift_52 : decode cX7_shift 52 = .ok (.iload_n 1, 1) := by decide +kernel
theorem dX7_shift_53 : decode cX7_shift 53 = .ok (.iaload, 1) := by decide +kernel
theorem dX7_shift_54 : decode cX7_shift 54 = .ok (.aload_n 0, 1) := by decide +kernel
theorem dX7_shift_55 : decode cX7_shift 55 = .ok (.getfield 95, 3) := by decide +kernel
theorem dX7_shift_58 : decode cX7_shift 58 = .ok (.iload_n 3, 1) := by decide +kernel
theorem dX7_shift_59 : decode cX7_shift 59 = .ok (.iaload, 1) := by decide +kernel
theorem dX7_shift_60 : decode cX7_shift 60 = .ok (.if_icmp .eq 6, 3) := by decide +kernel
theorem dX7_shift_63 : decode cX7_shift 63 = .ok (.bipush (-12), 2) := by decide +kernel
theorem dX7_shift_65 : decode cX7_shift 65 = .ok (.ireturn, 1) := by decide +kernel
theorem dX7_shift_66 : decode cX7_shift 66 = .ok (.iload 5, 2) := by decide +kernel
theorem dX7_shift_68 : decode cX7_shift 68 = .ok (.ifCond .lt 39, 3) := by decide +kernel
theorem dX7_shift_71 : decode cX7_shift 71 = .ok (.iload_n 2, 1) := by decide +kernel
