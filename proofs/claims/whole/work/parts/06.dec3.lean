theorem dX6_row_17 : decode cX6_row 17 = .ok (.bipush 60, 2) := by decide +kernel
theorem dX6_row_19 : decode cX6_row 19 = .ok (.if_icmp .le 5, 3) := by decide +kernel
theorem dX6_row_22 : decode cX6_row 22 = .ok (.iconst (-1), 1) := by decide +kernel
theorem dX6_row_23 : decode cX6_row 23 = .ok (.ireturn, 1) := by decide +kernel
theorem dX6_row_24 : decode cX6_row 24 = .ok (.iload_n 3, 1) := by decide +kernel
theorem dX6_row_25 : decode cX6_row 25 = .ok (.ifCond .ge 6, 3) := by decide +kernel
theorem dX6_row_28 : decode cX6_row 28 = .ok (.bipush (-14), 2) := by decide +kernel
theorem dX6_row_30 : decode cX6_row 30 = .ok (.ireturn, 1) := by decide +kernel
theorem dX6_row_31 : decode cX6_row 31 = .ok (.aload_n 0, 1) := by decide +kernel
theorem dX6_row_32 : decode cX6_row 32 = .ok (.getfield 46, 3) := by decide +kernel
theorem dX6_row_35 : decode cX6_row 35 = .ok (.iload_n 1, 1) := by decide +kernel
theorem dX6_row_36 : decode cX6_row 36 = .ok (.aaload, 1) := by decide +kernel
theorem dX6_row_37 : decode cX6_row 37 = .ok (.iload_n 2, 1) := by decide +kernel
theorem dX6_row_38 : decode cX6_row 38 = .ok (.iload_n 3, 1) := by decide +kernel
theorem dX6_row_39 : decode cX6_row 39 = .ok (.invokevirtual 259, 3) := by decide +kernel
theorem dX6_row_42 : decode cX6_row 42 = .ok (.iconst 1, 1) := by decide +kernel
theorem dX6_row_43 : decode cX6_row 43 = .ok (.ireturn, 1) := by decide +kernel
theorem dX6_put_0 : decode cX6_put 0 = .ok (.aload_n 0, 1) := by decide +kernel
theorem dX6_put_1 : decode cX6_put 1 = .ok (.iload_n 1, 1) := by decide +kernel
theorem dX6_put_2 : decode cX6_put 2 = .ok (.iload_n 2, 1) := by decide +kernel
theorem dX6_put_3 : decode cX6_put 3 = .ok (.invokevirtual 263, 3) := by decide +kernel
theorem dX6_put_6 : decode cX6_put 6 = .ok (.istore 5, 2) := by decide +kernel
theorem dX6_put_8 : decode cX6_put 8 = .ok (.iload 5, 2) := by decide +kernel
theorem dX6_put_10 : decode cX6_put 10 = .ok (.ifCond .eq 6, 3) := by decide +kernel
theorem dX6_put_13 : decode cX6_put 13 = .ok (.iload 5, 2) := by decide +kernel
theorem dX6_put_15 : decode cX6_put 15 = .ok (.ireturn, 1) := by decide +kernel
theorem dX6_put_16 : decode cX6_put 16 = .ok (.aload_n 0, 1) := by decide +kernel
theorem dX6_put_17 : decode cX6_put 17 = .ok (.getfield 46, 3) := by decide +kernel
theorem dX6_put_20 : decode cX6_put 20 = .ok (.iload_n 1, 1) := by decide +kernel
theorem dX6_put_21 : decode cX6_put 21 = .ok (.aaload, 1) := by decide +kernel
theorem dX6_put_22 : decode cX6_put 22 = .ok (.getfield 266, 3) := by decide +kernel
theorem dX6_put_25 : decode cX6_put 25 = .ok (.iload_n 2, 1) := by decide +kernel
theorem dX6_put_26 : decode cX6_put 26 = .ok (.aload_n 0, 1) := by decide +kernel
theorem dX6_put_27 : decode cX6_put 27 = .ok (.getfield 46, 3) := by decide +kernel
theorem dX6_put_30 : decode cX6_put 30 = .ok (.iload_n 1, 1) := by decide +kernel
theorem dX6_put_31 : decode cX6_put 31 = .ok (.aaload, 1) := by decide +kernel
theorem dX6_put_32 : decode cX6_put 32 = .ok (.lload_n 3, 1) := by decide +kernel
theorem dX6_put_33 : decode cX6_put 33 = .ok (.invokevirtual 270, 3) := by decide +kernel
theorem dX6_put_36 : decode cX6_put 36 = .ok (.lastore, 1) := by decide +kernel
theorem dX6_put_37 : decode cX6_put 37 = .ok (.iconst 1, 1) := by decide +kernel
theorem dX6_put_38 : decode cX6_put 38 = .ok (.ireturn, 1) := by decide +kernel
theorem dX6_element_0 : decode cX6_element 0 = .ok (.aload_n 0, 1) := by decide +kernel
theorem dX6_element_1 : decode cX6_element 1 = .ok (.iload_n 1, 1) := by decide +kernel
theorem dX6_element_2 : decode cX6_element 2 = .ok (.iload_n 2, 1) := by decide +kernel
theorem dX6_element_3 : decode cX6_element 3 = .ok (.invokevirtual 263, 3) := by decide +kernel
theorem dX6_element_6 : decode cX6_element 6 = .ok (.ifCond .eq 9, 3) := by decide +kernel
theorem dX6_element_9 : decode cX6_element 9 = .ok (.ldc2_w 276, 3) := by decide +kernel
theorem dX6_element_12 : decode cX6_element 12 = .ok (.goto 14, 3) := by decide +kernel
theorem dX6_element_15 : decode cX6_element 15 = .ok (.aload_n 0, 1) := by decide +kernel
theorem dX6_element_16 : decode cX6_element 16 = .ok (.getfield 46, 3) := by decide +kernel
theorem dX6_element_19 : decode cX6_element 19 = .ok (.iload_n 1, 1) := by decide +kernel
theorem dX6_element_20 : decode cX6_element 20 = .ok (.aaload, 1) := by decide +kernel
theorem dX6_element_21 : decode cX6_element 21 = .ok (.getfield 266, 3) := by decide +kernel
theorem dX6_element_24 : decode cX6_element 24 = .ok (.iload_n 2, 1) := by decide +kernel
theorem dX6_element_25 : decode cX6_element 25 = .ok (.laload, 1) := by decide +kernel
theorem dX6_element_26 : decode cX6_element 26 = .ok (.lreturn, 1) := by decide +kernel
theorem dX6_shift_0 : decode cX6_shift 0 = .ok (.iload_n 1, 1) := by decide +kernel
theorem dX6_shift_1 : decode cX6_shift 1 = .ok (.invokestatic 77, 3) := by decide +kernel
theorem dX6_shift_4 : decode cX6_shift 4 = .ok (.ifCond .eq 10, 3) := by decide +kernel
theorem dX6_shift_7 : decode cX6_shift 7 = .ok (.iload_n 3, 1) := by decide +kernel
theorem dX6_shift_8 : decode cX6_shift 8 = .ok (.invokestatic 77, 3) := by decide +kernel
theorem dX6_shift_11 : decode cX6_shift 11 = .ok (.ifCond .ne 5, 3) := by decide +kernel
theorem dX6_shift_14 : decode cX6_shift 14 = .ok (.iconst (-1), 1) := by decide +kernel
theorem dX6_shift_15 : decode cX6_shift 15 = .ok (.ireturn, 1) := by decide +kernel
theorem dX6_shift_16 : decode cX6_shift 16 = .ok (.aload_n 0, 1) := by decide +kernel
theorem dX6_shift_17 : decode cX6_shift 17 = .ok (.getfield 46, 3) := by decide +kernel
theorem dX6_shift_20 : decode cX6_shift 20 = .ok (.iload_n 1, 1) := by decide +kernel
theorem dX6_shift_21 : decode cX6_shift 21 = .ok (.aaload, 1) := by decide +kernel
theorem dX6_shift_22 : decode cX6_shift 22 = .ok (.astore 6, 2) := by decide +kernel
theorem dX6_shift_24 : decode cX6_shift 24 = .ok (.aload_n 0, 1) := by decide +kernel
theorem dX6_shift_25 : decode cX6_shift 25 = .ok (.getfield 46, 3) := by decide +kernel
theorem dX6_shift_28 : decode cX6_shift 28 = .ok (.iload_n 3, 1) := by decide +kernel
theorem dX6_shift_29 : decode cX6_shift 29 = .ok (.aaload, 1) := by decide +kernel
theorem dX6_shift_30 : decode cX6_shift 30 = .ok (.astore 7, 2) := by decide +kernel
theorem dX6_shift_32 : decode cX6_shift 32 = .ok (.aload 6, 2) := by decide +kernel
theorem dX6_shift_34 : decode cX6_shift 34 = .ok (.getfield 81, 3) := by decide +kernel
theorem dX6_shift_37 : decode cX6_shift 37 = .ok (.ifCond .eq 11, 3) := by decide +kernel
theorem dX6_shift_40 : decode cX6_shift 40 = .ok (.aload 7, 2) := by decide +kernel
theorem dX6_shift_42 : decode cX6_shift 42 = .ok (.getfield 81, 3) := by decide +kernel
theorem dX6_shift_45 : decode cX6_shift 45 = .ok (.ifCond .ne 6, 3) := by decide +kernel
theorem dX6_shift_48 : decode cX6_shift 48 = .ok (.bipush (-11), 2) := by decide +kernel
theorem dX6_shift_50 : decode cX6_shift 50 = .ok (.ireturn, 1) := by decide +kernel
theorem dX6_shift_51 : decode cX6_shift 51 = .ok (.aload 6, 2) := by decide +kernel
theorem dX6_shift_53 : decode cX6_shift 53 = .ok (.getfield 81, 3) := by decide +kernel
theorem dX6_shift_56 : decode cX6_shift 56 = .ok (.iconst 2, 1) := by decide +kernel
theorem dX6_shift_57 : decode cX6_shift 57 = .ok (.if_icmp .ne 16, 3) := by decide +kernel
theorem dX6_shift_60 : decode cX6_shift 60 = .ok (.aload 7, 2) := by decide +kernel
theorem dX6_shift_62 : decode cX6_shift 62 = .ok (.aload 6, 2) := by decide +kernel
theorem dX6_shift_64 : decode cX6_shift 64 = .ok (.getfield 278, 3) := by decide +kernel
theorem dX6_shift_67 : decode cX6_shift 67 = .ok (.invokevirtual 84, 3) := by decide +kernel
theorem dX6_shift_70 : decode cX6_shift 70 = .ok (.ifCond .ne 6, 3) := by decide +kernel
theorem dX6_shift_73 : decode cX6_shift 73 = .ok (.bipush (-12), 2) := by decide +kernel
theorem dX6_shift_75 : decode cX6_shift 75 = .ok (.ireturn, 1) := by decide +kernel
theorem dX6_shift_76 : decode cX6_shift 76 = .ok (.aload 6, 2) := by decide +kernel
theorem dX6_shift_78 : decode cX6_shift 78 = .ok (.iload_n 2, 1) := by decide +kernel
theorem dX6_shift_79 : decode cX6_shift 79 = .ok (.iload 5, 2) := by decide +kernel
theorem dX6_shift_81 : decode cX6_shift 81 = .ok (.invokevirtual 281, 3) := by decide +kernel
theorem dX6_shift_84 : decode cX6_shift 84 = .ok (.ifCond .eq 15, 3) := by decide +kernel
theorem dX6_shift_87 : decode cX6_shift 87 = .ok (.aload 7, 2) := by decide +kernel
theorem dX6_shift_89 : decode cX6_shift 89 = .ok (.iload 4, 2) := by decide +kernel
theorem dX6_shift_91 : decode cX6_shift 91 = .ok (.iload 5, 2) := by decide +kernel
theorem dX6_shift_93 : decode cX6_shift 93 = .ok (.invokevirtual 281, 3) := by decide +kernel
theorem dX6_shift_96 : decode cX6_shift 96 = .ok (.ifCond .ne 6, 3) := by decide +kernel
theorem dX6_shift_99 : decode cX6_shift 99 = .ok (.bipush (-13), 2) := by decide +kernel
theorem dX6_shift_101 : decode cX6_shift 101 = .ok (.ireturn, 1) := by decide +kernel
theorem dX6_shift_102 : decode cX6_shift 102 = .ok (.aload 6, 2) := by decide +kernel
theorem dX6_shift_104 : decode cX6_shift 104 = .ok (.getfield 266, 3) := by decide +kernel
theorem dX6_shift_107 : decode cX6_shift 107 = .ok (.iload_n 2, 1) := by decide +kernel
theorem dX6_shift_108 : decode cX6_shift 108 = .ok (.aload 7, 2) := by decide +kernel
theorem dX6_shift_110 : decode cX6_shift 110 = .ok (.getfield 266, 3) := by decide +kernel
theorem dX6_shift_113 : decode cX6_shift 113 = .ok (.iload 4, 2) := by decide +kernel
theorem dX6_shift_115 : decode cX6_shift 115 = .ok (.iload 5, 2) := by decide +kernel
theorem dX6_shift_117 : decode cX6_shift 117 = .ok (.invokestatic 284, 3) := by decide +kernel
theorem dX6_shift_120 : decode cX6_shift 120 = .ok (.iload 5, 2) := by decide +kernel
theorem dX6_shift_122 : decode cX6_shift 122 = .ok (.ireturn, 1) := by decide +kernel
theorem dX6_taken_0 : decode cX6_taken 0 = .ok (.iload_n 1, 1) := by decide +kernel
theorem dX6_taken_1 : decode cX6_taken 1 = .ok (.invokestatic 77, 3) := by decide +kernel
theorem dX6_taken_4 : decode cX6_taken 4 = .ok (.ifCond .eq 10, 3) := by decide +kernel
theorem dX6_taken_7 : decode cX6_taken 7 = .ok (.iload_n 2, 1) := by decide +kernel
theorem dX6_taken_8 : decode cX6_taken 8 = .ok (.invokestatic 238, 3) := by decide +kernel
theorem dX6_taken_11 : decode cX6_taken 11 = .ok (.ifCond .ne 5, 3) := by decide +kernel
theorem dX6_taken_14 : decode cX6_taken 14 = .ok (.iconst (-1), 1) := by decide +kernel
theorem dX6_taken_15 : decode cX6_taken 15 = .ok (.ireturn, 1) := by decide +kernel
theorem dX6_taken_16 : decode cX6_taken 16 = .ok (.aload_n 0, 1) := by decide +kernel
theorem dX6_taken_17 : decode cX6_taken 17 = .ok (.getfield 46, 3) := by decide +kernel
theorem dX6_taken_20 : decode cX6_taken 20 = .ok (.iload_n 1, 1) := by decide +kernel
theorem dX6_taken_21 : decode cX6_taken 21 = .ok (.aaload, 1) := by decide +kernel
theorem dX6_taken_22 : decode cX6_taken 22 = .ok (.astore_n 3, 1) := by decide +kernel
theorem dX6_taken_23 : decode cX6_taken 23 = .ok (.aload_n 3, 1) := by decide +kernel
theorem dX6_taken_24 : decode cX6_taken 24 = .ok (.getfield 81, 3) := by decide +kernel
theorem dX6_taken_27 : decode cX6_taken 27 = .ok (.ifCond .ne 6, 3) := by decide +kernel
theorem dX6_taken_30 : decode cX6_taken 30 = .ok (.bipush (-11), 2) := by decide +kernel
theorem dX6_taken_32 : decode cX6_taken 32 = .ok (.ireturn, 1) := by decide +kernel
theorem dX6_taken_33 : decode cX6_taken 33 = .ok (.aload_n 3, 1) := by decide +kernel
theorem dX6_taken_34 : decode cX6_taken 34 = .ok (.getfield 81, 3) := by decide +kernel
theorem dX6_taken_37 : decode cX6_taken 37 = .ok (.iconst 1, 1) := by decide +kernel
theorem dX6_taken_38 : decode cX6_taken 38 = .ok (.if_icmp .ne 24, 3) := by decide +kernel
theorem dX6_taken_41 : decode cX6_taken 41 = .ok (.aload_n 3, 1) := by decide +kernel
theorem dX6_taken_42 : decode cX6_taken 42 = .ok (.getfield 256, 3) := by decide +kernel
theorem dX6_taken_45 : decode cX6_taken 45 = .ok (.ifCond .lt 17, 3) := by decide +kernel
theorem dX6_taken_48 : decode cX6_taken 48 = .ok (.aload_n 3, 1) := by decide +kernel
theorem dX6_taken_49 : decode cX6_taken 49 = .ok (.getfield 256, 3) := by decide +kernel
theorem dX6_taken_52 : decode cX6_taken 52 = .ok (.aload_n 0, 1) := by decide +kernel
theorem dX6_taken_53 : decode cX6_taken 53 = .ok (.getfield 40, 3) := by decide +kernel
theorem dX6_taken_56 : decode cX6_taken 56 = .ok (.getfield 241, 3) := by decide +kernel
theorem dX6_taken_59 : decode cX6_taken 59 = .ok (.if_icmp .lt 6, 3) := by decide +kernel
theorem dX6_taken_62 : decode cX6_taken 62 = .ok (.bipush (-12), 2) := by decide +kernel
theorem dX6_taken_64 : decode cX6_taken 64 = .ok (.ireturn, 1) := by decide +kernel
theorem dX6_taken_65 : decode cX6_taken 65 = .ok (.aload_n 0, 1) := by decide +kernel
theorem dX6_taken_66 : decode cX6_taken 66 = .ok (.getfield 40, 3) := by decide +kernel
theorem dX6_taken_69 : decode cX6_taken 69 = .ok (.getfield 290, 3) := by decide +kernel
theorem dX6_taken_72 : decode cX6_taken 72 = .ok (.aload_n 3, 1) := by decide +kernel
theorem dX6_taken_73 : decode cX6_taken 73 = .ok (.getfield 256, 3) := by decide +kernel
theorem dX6_taken_76 : decode cX6_taken 76 = .ok (.iaload, 1) := by decide +kernel
theorem dX6_taken_77 : decode cX6_taken 77 = .ok (.istore 4, 2) := by decide +kernel
theorem dX6_taken_79 : decode cX6_taken 79 = .ok (.iload 4, 2) := by decide +kernel
theorem dX6_taken_81 : decode cX6_taken 81 = .ok (.iload_n 2, 1) := by decide +kernel
theorem dX6_taken_82 : decode cX6_taken 82 = .ok (.invokestatic 293, 3) := by decide +kernel
theorem dX6_taken_85 : decode cX6_taken 85 = .ok (.ifCond .eq 8, 3) := by decide +kernel
theorem dX6_taken_88 : decode cX6_taken 88 = .ok (.iload 4, 2) := by decide +kernel
theorem dX6_taken_90 : decode cX6_taken 90 = .ok (.goto 5, 3) := by decide +kernel
theorem dX6_taken_93 : decode cX6_taken 93 = .ok (.bipush (-12), 2) := by decide +kernel
theorem dX6_taken_95 : decode cX6_taken 95 = .ok (.ireturn, 1) := by decide +kernel
theorem dX6_count_0 : decode cX6_count 0 = .ok (.iload_n 1, 1) := by decide +kernel
theorem dX6_count_1 : decode cX6_count 1 = .ok (.tableswitch 99 0 6 #[43, 51, 59, 67, 75, 83, 91], 43) := by decide +kernel
theorem dX6_count_44 : decode cX6_count 44 = .ok (.aload_n 0, 1) := by decide +kernel
theorem dX6_count_45 : decode cX6_count 45 = .ok (.getfield 10, 3) := by decide +kernel
theorem dX6_count_48 : decode cX6_count 48 = .ok (.getfield 59, 3) := by decide +kernel
theorem dX6_count_51 : decode cX6_count 51 = .ok (.ireturn, 1) := by decide +kernel
theorem dX6_count_52 : decode cX6_count 52 = .ok (.aload_n 0, 1) := by decide +kernel
theorem dX6_count_53 : decode cX6_count 53 = .ok (.getfield 10, 3) := by decide +kernel
theorem dX6_count_56 : decode cX6_count 56 = .ok (.getfield 70, 3) := by decide +kernel
theorem dX6_count_59 : decode cX6_count 59 = .ok (.ireturn, 1) := by decide +kernel
theorem dX6_count_60 : decode cX6_count 60 = .ok (.aload_n 0, 1) := by decide +kernel
theorem dX6_count_61 : decode cX6_count 61 = .ok (.getfield 10, 3) := by decide +kernel
theorem dX6_count_64 : decode cX6_count 64 = .ok (.getfield 91, 3) := by decide +kernel
theorem dX6_count_67 : decode cX6_count 67 = .ok (.ireturn, 1) := by decide +kernel
theorem dX6_count_68 : decode cX6_count 68 = .ok (.aload_n 0, 1) := by decide +kernel
theorem dX6_count_69 : decode cX6_count 69 = .ok (.getfield 19, 3) := by decide +kernel
theorem dX6_count_72 : decode cX6_count 72 = .ok (.getfield 137, 3) := by decide +kernel
theorem dX6_count_75 : decode cX6_count 75 = .ok (.ireturn, 1) := by decide +kernel
theorem dX6_count_76 : decode cX6_count 76 = .ok (.aload_n 0, 1) := by decide +kernel
theorem dX6_count_77 : decode cX6_count 77 = .ok (.getfield 33, 3) := by decide +kernel
theorem dX6_count_80 : decode cX6_count 80 = .ok (.getfield 225, 3) := by decide +kernel
theorem dX6_count_83 : decode cX6_count 83 = .ok (.ireturn, 1) := by decide +kernel
theorem dX6_count_84 : decode cX6_count 84 = .ok (.aload_n 0, 1) := by decide +kernel
theorem dX6_count_85 : decode cX6_count 85 = .ok (.getfield 40, 3) := by decide +kernel
theorem dX6_count_88 : decode cX6_count 88 = .ok (.getfield 241, 3) := by decide +kernel
theorem dX6_count_91 : decode cX6_count 91 = .ok (.ireturn, 1) := by decide +kernel
theorem dX6_count_92 : decode cX6_count 92 = .ok (.aload_n 0, 1) := by decide +kernel
theorem dX6_count_93 : decode cX6_count 93 = .ok (.getfield 40, 3) := by decide +kernel
theorem dX6_count_96 : decode cX6_count 96 = .ok (.getfield 250, 3) := by decide +kernel
theorem dX6_count_99 : decode cX6_count 99 = .ok (.ireturn, 1) := by decide +kernel
theorem dX6_count_100 : decode cX6_count 100 = .ok (.iconst (-1), 1) := by decide +kernel
theorem dX6_count_101 : decode cX6_count 101 = .ok (.ireturn, 1) := by decide +kernel
theorem dX6_isWithin_0 : decode cX6_isWithin 0 = .ok (.iload_n 0, 1) := by decide +kernel
theorem dX6_isWithin_1 : decode cX6_isWithin 1 = .ok (.ifCond .lt 12, 3) := by decide +kernel
theorem dX6_isWithin_4 : decode cX6_isWithin 4 = .ok (.iload_n 0, 1) := by decide +kernel
theorem dX6_isWithin_5 : decode cX6_isWithin 5 = .ok (.iload_n 1, 1) := by decide +kernel
theorem dX6_isWithin_6 : decode cX6_isWithin 6 = .ok (.if_icmp .gt 7, 3) := by decide +kernel
theorem dX6_isWithin_9 : decode cX6_isWithin 9 = .ok (.iconst 1, 1) := by decide +kernel
theorem dX6_isWithin_10 : decode cX6_isWithin 10 = .ok (.goto 4, 3) := by decide +kernel
theorem dX6_isWithin_13 : decode cX6_isWithin 13 = .ok (.iconst 0, 1) := by decide +kernel
theorem dX6_isWithin_14 : decode cX6_isWithin 14 = .ok (.ireturn, 1) := by decide +kernel
theorem dX6_isShelf_0 : decode cX6_isShelf 0 = .ok (.iload_n 0, 1) := by decide +kernel
theorem dX6_isShelf_1 : decode cX6_isShelf 1 = .ok (.ifCond .lt 13, 3) := by decide +kernel
theorem dX6_isShelf_4 : decode cX6_isShelf 4 = .ok (.iload_n 0, 1) := by decide +kernel
theorem dX6_isShelf_5 : decode cX6_isShelf 5 = .ok (.bipush 6, 2) := by decide +kernel
theorem dX6_isShelf_7 : decode cX6_isShelf 7 = .ok (.if_icmp .ge 7, 3) := by decide +kernel
theorem dX6_isShelf_10 : decode cX6_isShelf 10 = .ok (.iconst 1, 1) := by decide +kernel
theorem dX6_isShelf_11 : decode cX6_isShelf 11 = .ok (.goto 4, 3) := by decide +kernel
theorem dX6_isShelf_14 : decode cX6_isShelf 14 = .ok (.iconst 0, 1) := by decide +kernel
theorem dX6_isShelf_15 : decode cX6_isShelf 15 = .ok (.ireturn, 1) := by decide +kernel
theorem dX6_isKind_0 : decode cX6_isKind 0 = .ok (.iload_n 0, 1) := by decide +kernel
theorem dX6_isKind_1 : decode cX6_isKind 1 = .ok (.ifCond .lt 13, 3) := by decide +kernel
theorem dX6_isKind_4 : decode cX6_isKind 4 = .ok (.iload_n 0, 1) := by decide +kernel
theorem dX6_isKind_5 : decode cX6_isKind 5 = .ok (.bipush 8, 2) := by decide +kernel
theorem dX6_isKind_7 : decode cX6_isKind 7 = .ok (.if_icmp .ge 7, 3) := by decide +kernel
theorem dX6_isKind_10 : decode cX6_isKind 10 = .ok (.iconst 1, 1) := by decide +kernel
theorem dX6_isKind_11 : decode cX6_isKind 11 = .ok (.goto 4, 3) := by decide +kernel
theorem dX6_isKind_14 : decode cX6_isKind 14 = .ok (.iconst 0, 1) := by decide +kernel
theorem dX6_isKind_15 : decode cX6_isKind 15 = .ok (.ireturn, 1) := by decide +kernel
theorem dX6_hasWell_0 : decode cX6_hasWell 0 = .ok (.aload_n 0, 1) := by decide +kernel
theorem dX6_hasWell_1 : decode cX6_hasWell 1 = .ok (.getfield 10, 3) := by decide +kernel
theorem dX6_hasWell_4 : decode cX6_hasWell 4 = .ok (.iload_n 1, 1) := by decide +kernel
theorem dX6_hasWell_5 : decode cX6_hasWell 5 = .ok (.invokevirtual 97, 3) := by decide +kernel
theorem dX6_hasWell_8 : decode cX6_hasWell 8 = .ok (.ifCond .eq 26, 3) := by decide +kernel
theorem dX6_hasWell_11 : decode cX6_hasWell 11 = .ok (.aload_n 0, 1) := by decide +kernel
theorem dX6_hasWell_12 : decode cX6_hasWell 12 = .ok (.getfield 10, 3) := by decide +kernel
theorem dX6_hasWell_15 : decode cX6_hasWell 15 = .ok (.iload_n 2, 1) := by decide +kernel
theorem dX6_hasWell_16 : decode cX6_hasWell 16 = .ok (.invokevirtual 118, 3) := by decide +kernel
theorem dX6_hasWell_19 : decode cX6_hasWell 19 = .ok (.ifCond .eq 15, 3) := by decide +kernel
theorem dX6_hasWell_22 : decode cX6_hasWell 22 = .ok (.iload_n 1, 1) := by decide +kernel
theorem dX6_hasWell_23 : decode cX6_hasWell 23 = .ok (.iload_n 2, 1) := by decide +kernel
theorem dX6_hasWell_24 : decode cX6_hasWell 24 = .ok (.ishr, 1) := by decide +kernel
theorem dX6_hasWell_25 : decode cX6_hasWell 25 = .ok (.iconst 1, 1) := by decide +kernel
theorem dX6_hasWell_26 : decode cX6_hasWell 26 = .ok (.iand, 1) := by decide +kernel
theorem dX6_hasWell_27 : decode cX6_hasWell 27 = .ok (.ifCond .eq 7, 3) := by decide +kernel
theorem dX6_hasWell_30 : decode cX6_hasWell 30 = .ok (.iconst 1, 1) := by decide +kernel
theorem dX6_hasWell_31 : decode cX6_hasWell 31 = .ok (.goto 4, 3) := by decide +kernel
theorem dX6_hasWell_34 : decode cX6_hasWell 34 = .ok (.iconst 0, 1) := by decide +kernel
theorem dX6_hasWell_35 : decode cX6_hasWell 35 = .ok (.ireturn, 1) := by decide +kernel
theorem dX6_settle_0 : decode cX6_settle 0 = .ok (.aload_n 0, 1) := by decide +kernel
theorem dX6_settle_1 : decode cX6_settle 1 = .ok (.getfield 26, 3) := by decide +kernel
theorem dX6_settle_4 : decode cX6_settle 4 = .ok (.aload_n 0, 1) := by decide +kernel
theorem dX6_settle_5 : decode cX6_settle 5 = .ok (.getfield 10, 3) := by decide +kernel
theorem dX6_settle_8 : decode cX6_settle 8 = .ok (.aload_n 0, 1) := by decide +kernel
theorem dX6_settle_9 : decode cX6_settle 9 = .ok (.getfield 19, 3) := by decide +kernel
theorem dX6_settle_12 : decode cX6_settle 12 = .ok (.aload_n 0, 1) := by decide +kernel
theorem dX6_settle_13 : decode cX6_settle 13 = .ok (.getfield 10, 3) := by decide +kernel
theorem dX6_settle_16 : decode cX6_settle 16 = .ok (.invokevirtual 182, 3) := by decide +kernel
theorem dX6_settle_19 : decode cX6_settle 19 = .ok (.aload_n 0, 1) := by decide +kernel
theorem dX6_settle_20 : decode cX6_settle 20 = .ok (.getfield 10, 3) := by decide +kernel
theorem dX6_settle_23 : decode cX6_settle 23 = .ok (.getfield 100, 3) := by decide +kernel
theorem dX6_settle_26 : decode cX6_settle 26 = .ok (.iconst (-1), 1) := by decide +kernel
theorem dX6_settle_27 : decode cX6_settle 27 = .ok (.invokevirtual 185, 3) := by decide +kernel
theorem dX6_settle_30 : decode cX6_settle 30 = .ok (.return_, 1) := by decide +kernel
theorem dX6_ofDoor_0 : decode cX6_ofDoor 0 = .ok (.iload_n 2, 1) := by decide +kernel
theorem dX6_ofDoor_1 : decode cX6_ofDoor 1 = .ok (.tableswitch 57 0 2 #[27, 37, 47], 27) := by decide +kernel
theorem dX6_ofDoor_28 : decode cX6_ofDoor 28 = .ok (.aload_n 0, 1) := by decide +kernel
theorem dX6_ofDoor_29 : decode cX6_ofDoor 29 = .ok (.getfield 10, 3) := by decide +kernel
theorem dX6_ofDoor_32 : decode cX6_ofDoor 32 = .ok (.getfield 173, 3) := by decide +kernel
theorem dX6_ofDoor_35 : decode cX6_ofDoor 35 = .ok (.iload_n 1, 1) := by decide +kernel
theorem dX6_ofDoor_36 : decode cX6_ofDoor 36 = .ok (.iaload, 1) := by decide +kernel
theorem dX6_ofDoor_37 : decode cX6_ofDoor 37 = .ok (.ireturn, 1) := by decide +kernel
theorem dX6_ofDoor_38 : decode cX6_ofDoor 38 = .ok (.aload_n 0, 1) := by decide +kernel
theorem dX6_ofDoor_39 : decode cX6_ofDoor 39 = .ok (.getfield 10, 3) := by decide +kernel
theorem dX6_ofDoor_42 : decode cX6_ofDoor 42 = .ok (.getfield 296, 3) := by decide +kernel
theorem dX6_ofDoor_45 : decode cX6_ofDoor 45 = .ok (.iload_n 1, 1) := by decide +kernel
theorem dX6_ofDoor_46 : decode cX6_ofDoor 46 = .ok (.iaload, 1) := by decide +kernel
theorem dX6_ofDoor_47 : decode cX6_ofDoor 47 = .ok (.ireturn, 1) := by decide +kernel
theorem dX6_ofDoor_48 : decode cX6_ofDoor 48 = .ok (.aload_n 0, 1) := by decide +kernel
theorem dX6_ofDoor_49 : decode cX6_ofDoor 49 = .ok (.getfield 10, 3) := by decide +kernel
theorem dX6_ofDoor_52 : decode cX6_ofDoor 52 = .ok (.iload_n 1, 1) := by decide +kernel
theorem dX6_ofDoor_53 : decode cX6_ofDoor 53 = .ok (.iconst (-1), 1) := by decide +kernel
theorem dX6_ofDoor_54 : decode cX6_ofDoor 54 = .ok (.invokevirtual 299, 3) := by decide +kernel
theorem dX6_ofDoor_57 : decode cX6_ofDoor 57 = .ok (.ireturn, 1) := by decide +kernel
theorem dX6_ofDoor_58 : decode cX6_ofDoor 58 = .ok (.aload_n 0, 1) := by decide +kernel
theorem dX6_ofDoor_59 : decode cX6_ofDoor 59 = .ok (.getfield 19, 3) := by decide +kernel
theorem dX6_ofDoor_62 : decode cX6_ofDoor 62 = .ok (.aload_n 0, 1) := by decide +kernel
theorem dX6_ofDoor_63 : decode cX6_ofDoor 63 = .ok (.getfield 10, 3) := by decide +kernel
theorem dX6_ofDoor_66 : decode cX6_ofDoor 66 = .ok (.iload_n 1, 1) := by decide +kernel
theorem dX6_ofDoor_67 : decode cX6_ofDoor 67 = .ok (.aload_n 0, 1) := by decide +kernel
theorem dX6_ofDoor_68 : decode cX6_ofDoor 68 = .ok (.getfield 10, 3) := by decide +kernel
theorem dX6_ofDoor_71 : decode cX6_ofDoor 71 = .ok (.getfield 100, 3) := by decide +kernel
theorem dX6_ofDoor_74 : decode cX6_ofDoor 74 = .ok (.iconst (-1), 1) := by decide +kernel
theorem dX6_ofDoor_75 : decode cX6_ofDoor 75 = .ok (.invokevirtual 302, 3) := by decide +kernel
theorem dX6_ofDoor_78 : decode cX6_ofDoor 78 = .ok (.ireturn, 1) := by decide +kernel
theorem dX6_joinsCome_0 : decode cX6_joinsCome 0 = .ok (.iconst 0, 1) := by decide +kernel
theorem dX6_joinsCome_1 : decode cX6_joinsCome 1 = .ok (.istore 4, 2) := by decide +kernel
theorem dX6_joinsCome_3 : decode cX6_joinsCome 3 = .ok (.iload 4, 2) := by decide +kernel
theorem dX6_joinsCome_5 : decode cX6_joinsCome 5 = .ok (.iload_n 3, 1) := by decide +kernel
theorem dX6_joinsCome_6 : decode cX6_joinsCome 6 = .ok (.if_icmp .ge 101, 3) := by decide +kernel
theorem dX6_joinsCome_9 : decode cX6_joinsCome 9 = .ok (.iload_n 2, 1) := by decide +kernel
theorem dX6_joinsCome_10 : decode cX6_joinsCome 10 = .ok (.aload_n 1, 1) := by decide +kernel
theorem dX6_joinsCome_11 : decode cX6_joinsCome 11 = .ok (.getfield 218, 3) := by decide +kernel
theorem dX6_joinsCome_14 : decode cX6_joinsCome 14 = .ok (.iconst 2, 1) := by decide +kernel
theorem dX6_joinsCome_15 : decode cX6_joinsCome 15 = .ok (.iload 4, 2) := by decide +kernel
theorem dX6_joinsCome_17 : decode cX6_joinsCome 17 = .ok (.imul, 1) := by decide +kernel
theorem dX6_joinsCome_18 : decode cX6_joinsCome 18 = .ok (.isub, 1) := by decide +kernel
theorem dX6_joinsCome_19 : decode cX6_joinsCome 19 = .ok (.iconst 1, 1) := by decide +kernel
theorem dX6_joinsCome_20 : decode cX6_joinsCome 20 = .ok (.isub, 1) := by decide +kernel
theorem dX6_joinsCome_21 : decode cX6_joinsCome 21 = .ok (.if_icmp .ge 86, 3) := by decide +kernel
theorem dX6_joinsCome_24 : decode cX6_joinsCome 24 = .ok (.aload_n 0, 1) := by decide +kernel
theorem dX6_joinsCome_25 : decode cX6_joinsCome 25 = .ok (.getfield 10, 3) := by decide +kernel
theorem dX6_joinsCome_28 : decode cX6_joinsCome 28 = .ok (.getfield 70, 3) := by decide +kernel
theorem dX6_joinsCome_31 : decode cX6_joinsCome 31 = .ok (.bipush 40, 2) := by decide +kernel
theorem dX6_joinsCome_33 : decode cX6_joinsCome 33 = .ok (.if_icmp .ge 74, 3) := by decide +kernel
theorem dX6_joinsCome_36 : decode cX6_joinsCome 36 = .ok (.aload_n 1, 1) := by decide +kernel
theorem dX6_joinsCome_37 : decode cX6_joinsCome 37 = .ok (.getfield 266, 3) := by decide +kernel
theorem dX6_joinsCome_40 : decode cX6_joinsCome 40 = .ok (.iload_n 2, 1) := by decide +kernel
theorem dX6_joinsCome_41 : decode cX6_joinsCome 41 = .ok (.iconst 2, 1) := by decide +kernel
theorem dX6_joinsCome_42 : decode cX6_joinsCome 42 = .ok (.iload 4, 2) := by decide +kernel
theorem dX6_joinsCome_44 : decode cX6_joinsCome 44 = .ok (.imul, 1) := by decide +kernel
theorem dX6_joinsCome_45 : decode cX6_joinsCome 45 = .ok (.iadd, 1) := by decide +kernel
theorem dX6_joinsCome_46 : decode cX6_joinsCome 46 = .ok (.laload, 1) := by decide +kernel
theorem dX6_joinsCome_47 : decode cX6_joinsCome 47 = .ok (.lstore 5, 2) := by decide +kernel
theorem dX6_joinsCome_49 : decode cX6_joinsCome 49 = .ok (.aload_n 1, 1) := by decide +kernel
theorem dX6_joinsCome_50 : decode cX6_joinsCome 50 = .ok (.getfield 266, 3) := by decide +kernel
theorem dX6_joinsCome_53 : decode cX6_joinsCome 53 = .ok (.iload_n 2, 1) := by decide +kernel
theorem dX6_joinsCome_54 : decode cX6_joinsCome 54 = .ok (.iconst 2, 1) := by decide +kernel
theorem dX6_joinsCome_55 : decode cX6_joinsCome 55 = .ok (.iload 4, 2) := by decide +kernel
theorem dX6_joinsCome_57 : decode cX6_joinsCome 57 = .ok (.imul, 1) := by decide +kernel
theorem dX6_joinsCome_58 : decode cX6_joinsCome 58 = .ok (.iadd, 1) := by decide +kernel
theorem dX6_joinsCome_59 : decode cX6_joinsCome 59 = .ok (.iconst 1, 1) := by decide +kernel
theorem dX6_joinsCome_60 : decode cX6_joinsCome 60 = .ok (.iadd, 1) := by decide +kernel
theorem dX6_joinsCome_61 : decode cX6_joinsCome 61 = .ok (.laload, 1) := by decide +kernel
theorem dX6_joinsCome_62 : decode cX6_joinsCome 62 = .ok (.lstore 7, 2) := by decide +kernel
theorem dX6_joinsCome_64 : decode cX6_joinsCome 64 = .ok (.aload_n 0, 1) := by decide +kernel
theorem dX6_joinsCome_65 : decode cX6_joinsCome 65 = .ok (.getfield 10, 3) := by decide +kernel
theorem dX6_joinsCome_68 : decode cX6_joinsCome 68 = .ok (.lload 5, 2) := by decide +kernel
theorem dX6_joinsCome_70 : decode cX6_joinsCome 70 = .ok (.l2i, 1) := by decide +kernel
theorem dX6_joinsCome_71 : decode cX6_joinsCome 71 = .ok (.lload 7, 2) := by decide +kernel
theorem dX6_joinsCome_73 : decode cX6_joinsCome 73 = .ok (.l2i, 1) := by decide +kernel
theorem dX6_joinsCome_74 : decode cX6_joinsCome 74 = .ok (.invokevirtual 67, 3) := by decide +kernel
theorem dX6_joinsCome_77 : decode cX6_joinsCome 77 = .ok (.ifCond .ne 6, 3) := by decide +kernel
theorem dX6_joinsCome_80 : decode cX6_joinsCome 80 = .ok (.goto 27, 3) := by decide +kernel
theorem dX6_joinsCome_83 : decode cX6_joinsCome 83 = .ok (.aload_n 0, 1) := by decide +kernel
theorem dX6_joinsCome_84 : decode cX6_joinsCome 84 = .ok (.getfield 10, 3) := by decide +kernel
theorem dX6_joinsCome_87 : decode cX6_joinsCome 87 = .ok (.bipush 100, 2) := by decide +kernel
theorem dX6_joinsCome_89 : decode cX6_joinsCome 89 = .ok (.lload 5, 2) := by decide +kernel
theorem dX6_joinsCome_91 : decode cX6_joinsCome 91 = .ok (.l2i, 1) := by decide +kernel
theorem dX6_joinsCome_92 : decode cX6_joinsCome 92 = .ok (.imul, 1) := by decide +kernel
theorem dX6_joinsCome_93 : decode cX6_joinsCome 93 = .ok (.lload 7, 2) := by decide +kernel
theorem dX6_joinsCome_95 : decode cX6_joinsCome 95 = .ok (.l2i, 1) := by decide +kernel
theorem dX6_joinsCome_96 : decode cX6_joinsCome 96 = .ok (.iadd, 1) := by decide +kernel
theorem dX6_joinsCome_97 : decode cX6_joinsCome 97 = .ok (.invokevirtual 73, 3) := by decide +kernel
theorem dX6_joinsCome_100 : decode cX6_joinsCome 100 = .ok (.pop, 1) := by decide +kernel
theorem dX6_joinsCome_101 : decode cX6_joinsCome 101 = .ok (.iinc 4 1, 3) := by decide +kernel
theorem dX6_joinsCome_104 : decode cX6_joinsCome 104 = .ok (.goto (-101), 3) := by decide +kernel
theorem dX6_joinsCome_107 : decode cX6_joinsCome 107 = .ok (.iload 4, 2) := by decide +kernel
theorem dX6_joinsCome_109 : decode cX6_joinsCome 109 = .ok (.ireturn, 1) := by decide +kernel
theorem dX6_growLonger_0 : decode cX6_growLonger 0 = .ok (.iconst 1, 1) := by decide +kernel
theorem dX6_growLonger_1 : decode cX6_growLonger 1 = .ok (.istore_n 2, 1) := by decide +kernel
theorem dX6_growLonger_2 : decode cX6_growLonger 2 = .ok (.iload_n 2, 1) := by decide +kernel
theorem dX6_growLonger_3 : decode cX6_growLonger 3 = .ok (.iload_n 1, 1) := by decide +kernel
theorem dX6_growLonger_4 : decode cX6_growLonger 4 = .ok (.if_icmp .ge 47, 3) := by decide +kernel
theorem dX6_growLonger_7 : decode cX6_growLonger 7 = .ok (.iconst 0, 1) := by decide +kernel
theorem dX6_growLonger_8 : decode cX6_growLonger 8 = .ok (.istore_n 3, 1) := by decide +kernel
theorem dX6_growLonger_9 : decode cX6_growLonger 9 = .ok (.iload_n 3, 1) := by decide +kernel
theorem dX6_growLonger_10 : decode cX6_growLonger 10 = .ok (.iload_n 1, 1) := by decide +kernel
theorem dX6_growLonger_11 : decode cX6_growLonger 11 = .ok (.if_icmp .ge 33, 3) := by decide +kernel
theorem dX6_growLonger_14 : decode cX6_growLonger 14 = .ok (.iload_n 3, 1) := by decide +kernel
theorem dX6_growLonger_15 : decode cX6_growLonger 15 = .ok (.iload_n 2, 1) := by decide +kernel
theorem dX6_growLonger_16 : decode cX6_growLonger 16 = .ok (.iand, 1) := by decide +kernel
theorem dX6_growLonger_17 : decode cX6_growLonger 17 = .ok (.ifCond .eq 21, 3) := by decide +kernel
theorem dX6_growLonger_20 : decode cX6_growLonger 20 = .ok (.aload_n 0, 1) := by decide +kernel
theorem dX6_growLonger_21 : decode cX6_growLonger 21 = .ok (.getfield 50, 3) := by decide +kernel
theorem dX6_growLonger_24 : decode cX6_growLonger 24 = .ok (.iload_n 3, 1) := by decide +kernel
theorem dX6_growLonger_25 : decode cX6_growLonger 25 = .ok (.iload_n 2, 1) := by decide +kernel
theorem dX6_growLonger_26 : decode cX6_growLonger 26 = .ok (.ixor, 1) := by decide +kernel
theorem dX6_growLonger_27 : decode cX6_growLonger 27 = .ok (.baload, 1) := by decide +kernel
theorem dX6_growLonger_28 : decode cX6_growLonger 28 = .ok (.ifCond .eq 10, 3) := by decide +kernel
theorem dX6_growLonger_31 : decode cX6_growLonger 31 = .ok (.aload_n 0, 1) := by decide +kernel
theorem dX6_growLonger_32 : decode cX6_growLonger 32 = .ok (.getfield 50, 3) := by decide +kernel
theorem dX6_growLonger_35 : decode cX6_growLonger 35 = .ok (.iload_n 3, 1) := by decide +kernel
theorem dX6_growLonger_36 : decode cX6_growLonger 36 = .ok (.iconst 1, 1) := by decide +kernel
theorem dX6_growLonger_37 : decode cX6_growLonger 37 = .ok (.bastore, 1) := by decide +kernel
theorem dX6_growLonger_38 : decode cX6_growLonger 38 = .ok (.iinc 3 1, 3) := by decide +kernel
theorem dX6_growLonger_41 : decode cX6_growLonger 41 = .ok (.goto (-32), 3) := by decide +kernel
theorem dX6_growLonger_44 : decode cX6_growLonger 44 = .ok (.iload_n 2, 1) := by decide +kernel
theorem dX6_growLonger_45 : decode cX6_growLonger 45 = .ok (.iload_n 2, 1) := by decide +kernel
theorem dX6_growLonger_46 : decode cX6_growLonger 46 = .ok (.iadd, 1) := by decide +kernel
theorem dX6_growLonger_47 : decode cX6_growLonger 47 = .ok (.istore_n 2, 1) := by decide +kernel
theorem dX6_growLonger_48 : decode cX6_growLonger 48 = .ok (.goto (-46), 3) := by decide +kernel
theorem dX6_growLonger_51 : decode cX6_growLonger 51 = .ok (.return_, 1) := by decide +kernel
theorem dX6_fewestGrown_0 : decode cX6_fewestGrown 0 = .ok (.bipush (-2), 2) := by decide +kernel
theorem dX6_fewestGrown_2 : decode cX6_fewestGrown 2 = .ok (.istore_n 2, 1) := by decide +kernel
theorem dX6_fewestGrown_3 : decode cX6_fewestGrown 3 = .ok (.iconst 0, 1) := by decide +kernel
theorem dX6_fewestGrown_4 : decode cX6_fewestGrown 4 = .ok (.istore_n 3, 1) := by decide +kernel
theorem dX6_fewestGrown_5 : decode cX6_fewestGrown 5 = .ok (.iload_n 3, 1) := by decide +kernel
theorem dX6_fewestGrown_6 : decode cX6_fewestGrown 6 = .ok (.iload_n 1, 1) := by decide +kernel
theorem dX6_fewestGrown_7 : decode cX6_fewestGrown 7 = .ok (.if_icmp .ge 35, 3) := by decide +kernel
theorem dX6_fewestGrown_10 : decode cX6_fewestGrown 10 = .ok (.aload_n 0, 1) := by decide +kernel
theorem dX6_fewestGrown_11 : decode cX6_fewestGrown 11 = .ok (.getfield 50, 3) := by decide +kernel
theorem dX6_fewestGrown_14 : decode cX6_fewestGrown 14 = .ok (.iload_n 3, 1) := by decide +kernel
theorem dX6_fewestGrown_15 : decode cX6_fewestGrown 15 = .ok (.baload, 1) := by decide +kernel
theorem dX6_fewestGrown_16 : decode cX6_fewestGrown 16 = .ok (.ifCond .eq 20, 3) := by decide +kernel
theorem dX6_fewestGrown_19 : decode cX6_fewestGrown 19 = .ok (.iload_n 2, 1) := by decide +kernel
theorem dX6_fewestGrown_20 : decode cX6_fewestGrown 20 = .ok (.ifCond .lt 14, 3) := by decide +kernel
theorem dX6_fewestGrown_23 : decode cX6_fewestGrown 23 = .ok (.iload_n 3, 1) := by decide +kernel
theorem dX6_fewestGrown_24 : decode cX6_fewestGrown 24 = .ok (.invokestatic 192, 3) := by decide +kernel
theorem dX6_fewestGrown_27 : decode cX6_fewestGrown 27 = .ok (.iload_n 2, 1) := by decide +kernel
theorem dX6_fewestGrown_28 : decode cX6_fewestGrown 28 = .ok (.invokestatic 192, 3) := by decide +kernel
theorem dX6_fewestGrown_31 : decode cX6_fewestGrown 31 = .ok (.if_icmp .ge 5, 3) := by decide +kernel
theorem dX6_fewestGrown_34 : decode cX6_fewestGrown 34 = .ok (.iload_n 3, 1) := by decide +kernel
theorem dX6_fewestGrown_35 : decode cX6_fewestGrown 35 = .ok (.istore_n 2, 1) := by decide +kernel
theorem dX6_fewestGrown_36 : decode cX6_fewestGrown 36 = .ok (.iinc 3 1, 3) := by decide +kernel
theorem dX6_fewestGrown_39 : decode cX6_fewestGrown 39 = .ok (.goto (-34), 3) := by decide +kernel
theorem dX6_fewestGrown_42 : decode cX6_fewestGrown 42 = .ok (.iload_n 2, 1) := by decide +kernel
theorem dX6_fewestGrown_43 : decode cX6_fewestGrown 43 = .ok (.ireturn, 1) := by decide +kernel
theorem dX6_isToldFrom_0 : decode cX6_isToldFrom 0 = .ok (.iconst 0, 1) := by decide +kernel
theorem dX6_isToldFrom_1 : decode cX6_isToldFrom 1 = .ok (.istore 4, 2) := by decide +kernel
theorem dX6_isToldFrom_3 : decode cX6_isToldFrom 3 = .ok (.iconst 0, 1) := by decide +kernel
theorem dX6_isToldFrom_4 : decode cX6_isToldFrom 4 = .ok (.istore 5, 2) := by decide +kernel
theorem dX6_isToldFrom_6 : decode cX6_isToldFrom 6 = .ok (.iload 5, 2) := by decide +kernel
theorem dX6_isToldFrom_8 : decode cX6_isToldFrom 8 = .ok (.aload_n 0, 1) := by decide +kernel
theorem dX6_isToldFrom_9 : decode cX6_isToldFrom 9 = .ok (.getfield 10, 3) := by decide +kernel
theorem dX6_isToldFrom_12 : decode cX6_isToldFrom 12 = .ok (.getfield 59, 3) := by decide +kernel
theorem dX6_isToldFrom_15 : decode cX6_isToldFrom 15 = .ok (.if_icmp .ge 59, 3) := by decide +kernel
theorem dX6_isToldFrom_18 : decode cX6_isToldFrom 18 = .ok (.iload_n 2, 1) := by decide +kernel
theorem dX6_isToldFrom_19 : decode cX6_isToldFrom 19 = .ok (.iload 5, 2) := by decide +kernel
theorem dX6_isToldFrom_21 : decode cX6_isToldFrom 21 = .ok (.ishr, 1) := by decide +kernel
theorem dX6_isToldFrom_22 : decode cX6_isToldFrom 22 = .ok (.iconst 1, 1) := by decide +kernel
theorem dX6_isToldFrom_23 : decode cX6_isToldFrom 23 = .ok (.iand, 1) := by decide +kernel
theorem dX6_isToldFrom_24 : decode cX6_isToldFrom 24 = .ok (.ifCond .ne 6, 3) := by decide +kernel
theorem dX6_isToldFrom_27 : decode cX6_isToldFrom 27 = .ok (.goto 41, 3) := by decide +kernel
theorem dX6_isToldFrom_30 : decode cX6_isToldFrom 30 = .ok (.iload 4, 2) := by decide +kernel
theorem dX6_isToldFrom_32 : decode cX6_isToldFrom 32 = .ok (.aload_n 3, 1) := by decide +kernel
theorem dX6_isToldFrom_33 : decode cX6_isToldFrom 33 = .ok (.getfield 218, 3) := by decide +kernel
theorem dX6_isToldFrom_36 : decode cX6_isToldFrom 36 = .ok (.if_icmp .ge 27, 3) := by decide +kernel
theorem dX6_isToldFrom_39 : decode cX6_isToldFrom 39 = .ok (.aload_n 3, 1) := by decide +kernel
theorem dX6_isToldFrom_40 : decode cX6_isToldFrom 40 = .ok (.getfield 266, 3) := by decide +kernel
theorem dX6_isToldFrom_43 : decode cX6_isToldFrom 43 = .ok (.iload 4, 2) := by decide +kernel
theorem dX6_isToldFrom_45 : decode cX6_isToldFrom 45 = .ok (.laload, 1) := by decide +kernel
theorem dX6_isToldFrom_46 : decode cX6_isToldFrom 46 = .ok (.aload_n 0, 1) := by decide +kernel
theorem dX6_isToldFrom_47 : decode cX6_isToldFrom 47 = .ok (.getfield 26, 3) := by decide +kernel
theorem dX6_isToldFrom_50 : decode cX6_isToldFrom 50 = .ok (.getfield 150, 3) := by decide +kernel
theorem dX6_isToldFrom_53 : decode cX6_isToldFrom 53 = .ok (.iload_n 1, 1) := by decide +kernel
theorem dX6_isToldFrom_54 : decode cX6_isToldFrom 54 = .ok (.aaload, 1) := by decide +kernel
theorem dX6_isToldFrom_55 : decode cX6_isToldFrom 55 = .ok (.iload 5, 2) := by decide +kernel
theorem dX6_isToldFrom_57 : decode cX6_isToldFrom 57 = .ok (.iaload, 1) := by decide +kernel
theorem dX6_isToldFrom_58 : decode cX6_isToldFrom 58 = .ok (.i2l, 1) := by decide +kernel
theorem dX6_isToldFrom_59 : decode cX6_isToldFrom 59 = .ok (.lcmp, 1) := by decide +kernel
theorem dX6_isToldFrom_60 : decode cX6_isToldFrom 60 = .ok (.ifCond .eq 5, 3) := by decide +kernel
theorem dX6_isToldFrom_63 : decode cX6_isToldFrom 63 = .ok (.iconst 0, 1) := by decide +kernel
theorem dX6_isToldFrom_64 : decode cX6_isToldFrom 64 = .ok (.ireturn, 1) := by decide +kernel
theorem dX6_isToldFrom_65 : decode cX6_isToldFrom 65 = .ok (.iinc 4 1, 3) := by decide +kernel
theorem dX6_isToldFrom_68 : decode cX6_isToldFrom 68 = .ok (.iinc 5 1, 3) := by decide +kernel
theorem dX6_isToldFrom_71 : decode cX6_isToldFrom 71 = .ok (.goto (-65), 3) := by decide +kernel
theorem dX6_isToldFrom_74 : decode cX6_isToldFrom 74 = .ok (.iconst 1, 1) := by decide +kernel
theorem dX6_isToldFrom_75 : decode cX6_isToldFrom 75 = .ok (.ireturn, 1) := by decide +kernel
theorem dX6_refusalOf_0 : decode cX6_refusalOf 0 = .ok (.iload_n 1, 1) := by decide +kernel
theorem dX6_refusalOf_1 : decode cX6_refusalOf 1 = .ok (.invokestatic 77, 3) := by decide +kernel
theorem dX6_refusalOf_4 : decode cX6_refusalOf 4 = .ok (.ifCond .ne 5, 3) := by decide +kernel
theorem dX6_refusalOf_7 : decode cX6_refusalOf 7 = .ok (.iconst (-1), 1) := by decide +kernel
theorem dX6_refusalOf_8 : decode cX6_refusalOf 8 = .ok (.ireturn, 1) := by decide +kernel
theorem dX6_refusalOf_9 : decode cX6_refusalOf 9 = .ok (.aload_n 0, 1) := by decide +kernel
theorem dX6_refusalOf_10 : decode cX6_refusalOf 10 = .ok (.getfield 46, 3) := by decide +kernel
theorem dX6_refusalOf_13 : decode cX6_refusalOf 13 = .ok (.iload_n 1, 1) := by decide +kernel
theorem dX6_refusalOf_14 : decode cX6_refusalOf 14 = .ok (.aaload, 1) := by decide +kernel
theorem dX6_refusalOf_15 : decode cX6_refusalOf 15 = .ok (.getfield 81, 3) := by decide +kernel
theorem dX6_refusalOf_18 : decode cX6_refusalOf 18 = .ok (.ifCond .ne 6, 3) := by decide +kernel
theorem dX6_refusalOf_21 : decode cX6_refusalOf 21 = .ok (.bipush (-11), 2) := by decide +kernel
theorem dX6_refusalOf_23 : decode cX6_refusalOf 23 = .ok (.ireturn, 1) := by decide +kernel
theorem dX6_refusalOf_24 : decode cX6_refusalOf 24 = .ok (.aload_n 0, 1) := by decide +kernel
theorem dX6_refusalOf_25 : decode cX6_refusalOf 25 = .ok (.getfield 46, 3) := by decide +kernel
theorem dX6_refusalOf_28 : decode cX6_refusalOf 28 = .ok (.iload_n 1, 1) := by decide +kernel
theorem dX6_refusalOf_29 : decode cX6_refusalOf 29 = .ok (.aaload, 1) := by decide +kernel
theorem dX6_refusalOf_30 : decode cX6_refusalOf 30 = .ok (.getfield 81, 3) := by decide +kernel
theorem dX6_refusalOf_33 : decode cX6_refusalOf 33 = .ok (.iconst 2, 1) := by decide +kernel
theorem dX6_refusalOf_34 : decode cX6_refusalOf 34 = .ok (.if_icmp .eq 6, 3) := by decide +kernel
theorem dX6_refusalOf_37 : decode cX6_refusalOf 37 = .ok (.bipush (-12), 2) := by decide +kernel
theorem dX6_refusalOf_39 : decode cX6_refusalOf 39 = .ok (.ireturn, 1) := by decide +kernel
theorem dX6_refusalOf_40 : decode cX6_refusalOf 40 = .ok (.iload_n 2, 1) := by decide +kernel
theorem dX6_refusalOf_41 : decode cX6_refusalOf 41 = .ok (.ifCond .lt 20, 3) := by decide +kernel
theorem dX6_refusalOf_44 : decode cX6_refusalOf 44 = .ok (.iload_n 2, 1) := by decide +kernel
theorem dX6_refusalOf_45 : decode cX6_refusalOf 45 = .ok (.aload_n 0, 1) := by decide +kernel
theorem dX6_refusalOf_46 : decode cX6_refusalOf 46 = .ok (.getfield 46, 3) := by decide +kernel
theorem dX6_refusalOf_49 : decode cX6_refusalOf 49 = .ok (.iload_n 1, 1) := by decide +kernel
theorem dX6_refusalOf_50 : decode cX6_refusalOf 50 = .ok (.aaload, 1) := by decide +kernel
theorem dX6_refusalOf_51 : decode cX6_refusalOf 51 = .ok (.getfield 218, 3) := by decide +kernel
theorem dX6_refusalOf_54 : decode cX6_refusalOf 54 = .ok (.if_icmp .ge 7, 3) := by decide +kernel
theorem dX6_refusalOf_57 : decode cX6_refusalOf 57 = .ok (.iconst 0, 1) := by decide +kernel
theorem dX6_refusalOf_58 : decode cX6_refusalOf 58 = .ok (.goto 5, 3) := by decide +kernel
theorem dX6_refusalOf_61 : decode cX6_refusalOf 61 = .ok (.bipush (-13), 2) := by decide +kernel
theorem dX6_refusalOf_63 : decode cX6_refusalOf 63 = .ok (.ireturn, 1) := by decide +kernel
theorem dX7_init_0 : decode cX7_init 0 = .ok (.aload_n 0, 1) := by decide +kernel
theorem dX7_init_1 : decode cX7_init 1 = .ok (.invokespecial 1, 3) := by decide +kernel
theorem dX7_init_4 : decode cX7_init 4 = .ok (.aload_n 0, 1) := by decide +kernel
theorem dX7_init_5 : decode cX7_init 5 = .ok (.bipush 14, 2) := by decide +kernel
theorem dX7_init_7 : decode cX7_init 7 = .ok (.newarray .int, 2) := by decide +kernel
theorem dX7_init_9 : decode cX7_init 9 = .ok (.putfield 7, 3) := by decide +kernel
theorem dX7_init_12 : decode cX7_init 12 = .ok (.aload_n 0, 1) := by decide +kernel
theorem dX7_init_13 : decode cX7_init 13 = .ok (.bipush 14, 2) := by decide +kernel
theorem dX7_init_15 : decode cX7_init 15 = .ok (.newarray .int, 2) := by decide +kernel
theorem dX7_init_17 : decode cX7_init 17 = .ok (.putfield 13, 3) := by decide +kernel
theorem dX7_init_20 : decode cX7_init 20 = .ok (.aload_n 0, 1) := by decide +kernel
theorem dX7_init_21 : decode cX7_init 21 = .ok (.bipush 41, 2) := by decide +kernel
theorem dX7_init_23 : decode cX7_init 23 = .ok (.newarray .int, 2) := by decide +kernel
theorem dX7_init_25 : decode cX7_init 25 = .ok (.putfield 16, 3) := by decide +kernel
theorem dX7_init_28 : decode cX7_init 28 = .ok (.aload_n 0, 1) := by decide +kernel
theorem dX7_init_29 : decode cX7_init 29 = .ok (.bipush 41, 2) := by decide +kernel
theorem dX7_init_31 : decode cX7_init 31 = .ok (.newarray .int, 2) := by decide +kernel
theorem dX7_init_33 : decode cX7_init 33 = .ok (.putfield 19, 3) := by decide +kernel
theorem dX7_init_36 : decode cX7_init 36 = .ok (.aload_n 0, 1) := by decide +kernel
theorem dX7_init_37 : decode cX7_init 37 = .ok (.bipush 10, 2) := by decide +kernel
theorem dX7_init_39 : decode cX7_init 39 = .ok (.newarray .int, 2) := by decide +kernel
theorem dX7_init_41 : decode cX7_init 41 = .ok (.putfield 22, 3) := by decide +kernel
theorem dX7_init_44 : decode cX7_init 44 = .ok (.aload_n 0, 1) := by decide +kernel
theorem dX7_init_45 : decode cX7_init 45 = .ok (.bipush 10, 2) := by decide +kernel
theorem dX7_init_47 : decode cX7_init 47 = .ok (.newarray .int, 2) := by decide +kernel
theorem dX7_init_49 : decode cX7_init 49 = .ok (.putfield 25, 3) := by decide +kernel
theorem dX7_init_52 : decode cX7_init 52 = .ok (.aload_n 0, 1) := by decide +kernel
theorem dX7_init_53 : decode cX7_init 53 = .ok (.bipush 10, 2) := by decide +kernel
theorem dX7_init_55 : decode cX7_init 55 = .ok (.newarray .int, 2) := by decide +kernel
theorem dX7_init_57 : decode cX7_init 57 = .ok (.putfield 28, 3) := by decide +kernel
theorem dX7_init_60 : decode cX7_init 60 = .ok (.aload_n 0, 1) := by decide +kernel
theorem dX7_init_61 : decode cX7_init 61 = .ok (.iconst 4, 1) := by decide +kernel
theorem dX7_init_62 : decode cX7_init 62 = .ok (.putfield 31, 3) := by decide +kernel
theorem dX7_init_65 : decode cX7_init 65 = .ok (.aload_n 0, 1) := by decide +kernel
theorem dX7_init_66 : decode cX7_init 66 = .ok (.bipush 40, 2) := by decide +kernel
theorem dX7_init_68 : decode cX7_init 68 = .ok (.newarray .int, 2) := by decide +kernel
theorem dX7_init_70 : decode cX7_init 70 = .ok (.putfield 35, 3) := by decide +kernel
theorem dX7_init_73 : decode cX7_init 73 = .ok (.aload_n 0, 1) := by decide +kernel
theorem dX7_init_74 : decode cX7_init 74 = .ok (.bipush 40, 2) := by decide +kernel
theorem dX7_init_76 : decode cX7_init 76 = .ok (.newarray .int, 2) := by decide +kernel
theorem dX7_init_78 : decode cX7_init 78 = .ok (.putfield 38, 3) := by decide +kernel
theorem dX7_init_81 : decode cX7_init 81 = .ok (.aload_n 0, 1) := by decide +kernel
theorem dX7_init_82 : decode cX7_init 82 = .ok (.bipush 40, 2) := by decide +kernel
theorem dX7_init_84 : decode cX7_init 84 = .ok (.newarray .int, 2) := by decide +kernel
theorem dX7_init_86 : decode cX7_init 86 = .ok (.putfield 41, 3) := by decide +kernel
theorem dX7_init_89 : decode cX7_init 89 = .ok (.aload_n 0, 1) := by decide +kernel
theorem dX7_init_90 : decode cX7_init 90 = .ok (.bipush 40, 2) := by decide +kernel
theorem dX7_init_92 : decode cX7_init 92 = .ok (.newarray .int, 2) := by decide +kernel
theorem dX7_init_94 : decode cX7_init 94 = .ok (.putfield 44, 3) := by decide +kernel
theorem dX7_init_97 : decode cX7_init 97 = .ok (.aload_n 0, 1) := by decide +kernel
theorem dX7_init_98 : decode cX7_init 98 = .ok (.bipush 120, 2) := by decide +kernel
theorem dX7_init_100 : decode cX7_init 100 = .ok (.newarray .byte, 2) := by decide +kernel
theorem dX7_init_102 : decode cX7_init 102 = .ok (.putfield 47, 3) := by decide +kernel
theorem dX7_init_105 : decode cX7_init 105 = .ok (.aload_n 0, 1) := by decide +kernel
theorem dX7_init_106 : decode cX7_init 106 = .ok (.sipush 260, 3) := by decide +kernel
theorem dX7_init_109 : decode cX7_init 109 = .ok (.newarray .byte, 2) := by decide +kernel
theorem dX7_init_111 : decode cX7_init 111 = .ok (.putfield 51, 3) := by decide +kernel
theorem dX7_init_114 : decode cX7_init 114 = .ok (.aload_n 0, 1) := by decide +kernel
theorem dX7_init_115 : decode cX7_init 115 = .ok (.sipush 260, 3) := by decide +kernel
theorem dX7_init_118 : decode cX7_init 118 = .ok (.newarray .int, 2) := by decide +kernel
theorem dX7_init_120 : decode cX7_init 120 = .ok (.putfield 54, 3) := by decide +kernel
theorem dX7_init_123 : decode cX7_init 123 = .ok (.aload_n 0, 1) := by decide +kernel
theorem dX7_init_124 : decode cX7_init 124 = .ok (.iconst 2, 1) := by decide +kernel
theorem dX7_init_125 : decode cX7_init 125 = .ok (.newarray .int, 2) := by decide +kernel
theorem dX7_init_127 : decode cX7_init 127 = .ok (.putfield 57, 3) := by decide +kernel
theorem dX7_init_130 : decode cX7_init 130 = .ok (.aload_n 0, 1) := by decide +kernel
theorem dX7_init_131 : decode cX7_init 131 = .ok (.bipush 122, 2) := by decide +kernel
theorem dX7_init_133 : decode cX7_init 133 = .ok (.newarray .short, 2) := by decide +kernel
theorem dX7_init_135 : decode cX7_init 135 = .ok (.putfield 60, 3) := by decide +kernel
theorem dX7_init_138 : decode cX7_init 138 = .ok (.aload_n 0, 1) := by decide +kernel
theorem dX7_init_139 : decode cX7_init 139 = .ok (.bipush 122, 2) := by decide +kernel
theorem dX7_init_141 : decode cX7_init 141 = .ok (.newarray .short, 2) := by decide +kernel
theorem dX7_init_143 : decode cX7_init 143 = .ok (.putfield 64, 3) := by decide +kernel
theorem dX7_init_146 : decode cX7_init 146 = .ok (.aload_n 0, 1) := by decide +kernel
theorem dX7_init_147 : decode cX7_init 147 = .ok (.iconst 5, 1) := by decide +kernel
theorem dX7_init_148 : decode cX7_init 148 = .ok (.newarray .int, 2) := by decide +kernel
theorem dX7_init_150 : decode cX7_init 150 = .ok (.putfield 67, 3) := by decide +kernel
theorem dX7_init_153 : decode cX7_init 153 = .ok (.aload_n 0, 1) := by decide +kernel
theorem dX7_init_154 : decode cX7_init 154 = .ok (.sipush 130, 3) := by decide +kernel
theorem dX7_init_157 : decode cX7_init 157 = .ok (.newarray .int, 2) := by decide +kernel
theorem dX7_init_159 : decode cX7_init 159 = .ok (.putfield 70, 3) := by decide +kernel
theorem dX7_init_162 : decode cX7_init 162 = .ok (.aload_n 0, 1) := by decide +kernel
theorem dX7_init_163 : decode cX7_init 163 = .ok (.sipush 196, 3) := by decide +kernel
theorem dX7_init_166 : decode cX7_init 166 = .ok (.newarray .int, 2) := by decide +kernel
theorem dX7_init_168 : decode cX7_init 168 = .ok (.putfield 73, 3) := by decide +kernel
theorem dX7_init_171 : decode cX7_init 171 = .ok (.aload_n 0, 1) := by decide +kernel
theorem dX7_init_172 : decode cX7_init 172 = .ok (.bipush 14, 2) := by decide +kernel
theorem dX7_init_174 : decode cX7_init 174 = .ok (.newarray .int, 2) := by decide +kernel
theorem dX7_init_176 : decode cX7_init 176 = .ok (.putfield 76, 3) := by decide +kernel
theorem dX7_init_179 : decode cX7_init 179 = .ok (.aload_n 0, 1) := by decide +kernel
theorem dX7_init_180 : decode cX7_init 180 = .ok (.bipush 14, 2) := by decide +kernel
theorem dX7_init_182 : decode cX7_init 182 = .ok (.newarray .int, 2) := by decide +kernel
theorem dX7_init_184 : decode cX7_init 184 = .ok (.putfield 79, 3) := by decide +kernel
theorem dX7_init_187 : decode cX7_init 187 = .ok (.aload_n 0, 1) := by decide +kernel
theorem dX7_init_188 : decode cX7_init 188 = .ok (.sipush 512, 3) := by decide +kernel
theorem dX7_init_191 : decode cX7_init 191 = .ok (.newarray .boolean, 2) := by decide +kernel
theorem dX7_init_193 : decode cX7_init 193 = .ok (.putfield 82, 3) := by decide +kernel
theorem dX7_init_196 : decode cX7_init 196 = .ok (.aload_n 0, 1) := by decide +kernel
theorem dX7_init_197 : decode cX7_init 197 = .ok (.sipush 512, 3) := by decide +kernel
theorem dX7_init_200 : decode cX7_init 200 = .ok (.newarray .boolean, 2) := by decide +kernel
theorem dX7_init_202 : decode cX7_init 202 = .ok (.putfield 86, 3) := by decide +kernel
theorem dX7_init_205 : decode cX7_init 205 = .ok (.aload_n 0, 1) := by decide +kernel
theorem dX7_init_206 : decode cX7_init 206 = .ok (.bipush 50, 2) := by decide +kernel
theorem dX7_init_208 : decode cX7_init 208 = .ok (.newarray .int, 2) := by decide +kernel
theorem dX7_init_210 : decode cX7_init 210 = .ok (.putfield 89, 3) := by decide +kernel
theorem dX7_init_213 : decode cX7_init 213 = .ok (.aload_n 0, 1) := by decide +kernel
theorem dX7_init_214 : decode cX7_init 214 = .ok (.bipush 24, 2) := by decide +kernel
theorem dX7_init_216 : decode cX7_init 216 = .ok (.newarray .int, 2) := by decide +kernel
theorem dX7_init_218 : decode cX7_init 218 = .ok (.putfield 92, 3) := by decide +kernel
theorem dX7_init_221 : decode cX7_init 221 = .ok (.aload_n 0, 1) := by decide +kernel
theorem dX7_init_222 : decode cX7_init 222 = .ok (.bipush 6, 2) := by decide +kernel
theorem dX7_init_224 : decode cX7_init 224 = .ok (.newarray .int, 2) := by decide +kernel
theorem dX7_init_226 : decode cX7_init 226 = .ok (.dup, 1) := by decide +kernel
theorem dX7_init_227 : decode cX7_init 227 = .ok (.iconst 0, 1) := by decide +kernel
theorem dX7_init_228 : decode cX7_init 228 = .ok (.iconst (-1), 1) := by decide +kernel
theorem dX7_init_229 : decode cX7_init 229 = .ok (.iastore, 1) := by decide +kernel
theorem dX7_init_230 : decode cX7_init 230 = .ok (.dup, 1) := by decide +kernel
theorem dX7_init_231 : decode cX7_init 231 = .ok (.iconst 1, 1) := by decide +kernel
theorem dX7_init_232 : decode cX7_init 232 = .ok (.iconst (-1), 1) := by decide +kernel
theorem dX7_init_233 : decode cX7_init 233 = .ok (.iastore, 1) := by decide +kernel
theorem dX7_init_234 : decode cX7_init 234 = .ok (.dup, 1) := by decide +kernel
theorem dX7_init_235 : decode cX7_init 235 = .ok (.iconst 2, 1) := by decide +kernel
theorem dX7_init_236 : decode cX7_init 236 = .ok (.iconst (-1), 1) := by decide +kernel
theorem dX7_init_237 : decode cX7_init 237 = .ok (.iastore, 1) := by decide +kernel
theorem dX7_init_238 : decode cX7_init 238 = .ok (.dup, 1) := by decide +kernel
theorem dX7_init_239 : decode cX7_init 239 = .ok (.iconst 3, 1) := by decide +kernel
theorem dX7_init_240 : decode cX7_init 240 = .ok (.iconst (-1), 1) := by decide +kernel
theorem dX7_init_241 : decode cX7_init 241 = .ok (.iastore, 1) := by decide +kernel
theorem dX7_init_242 : decode cX7_init 242 = .ok (.dup, 1) := by decide +kernel
theorem dX7_init_243 : decode cX7_init 243 = .ok (.iconst 4, 1) := by decide +kernel
theorem dX7_init_244 : decode cX7_init 244 = .ok (.iconst (-1), 1) := by decide +kernel
theorem dX7_init_245 : decode cX7_init 245 = .ok (.iastore, 1) := by decide +kernel
theorem dX7_init_246 : decode cX7_init 246 = .ok (.dup, 1) := by decide +kernel
theorem dX7_init_247 : decode cX7_init 247 = .ok (.iconst 5, 1) := by decide +kernel
theorem dX7_init_248 : decode cX7_init 248 = .ok (.iconst (-1), 1) := by decide +kernel
theorem dX7_init_249 : decode cX7_init 249 = .ok (.iastore, 1) := by decide +kernel
theorem dX7_init_250 : decode cX7_init 250 = .ok (.putfield 95, 3) := by decide +kernel
theorem dX7_init_253 : decode cX7_init 253 = .ok (.aload_n 0, 1) := by decide +kernel
theorem dX7_init_254 : decode cX7_init 254 = .ok (.bipush 6, 2) := by decide +kernel
theorem dX7_init_256 : decode cX7_init 256 = .ok (.newarray .int, 2) := by decide +kernel
theorem dX7_init_258 : decode cX7_init 258 = .ok (.putfield 98, 3) := by decide +kernel
theorem dX7_init_261 : decode cX7_init 261 = .ok (.aload_n 0, 1) := by decide +kernel
theorem dX7_init_262 : decode cX7_init 262 = .ok (.sipush 360, 3) := by decide +kernel
theorem dX7_init_265 : decode cX7_init 265 = .ok (.newarray .long, 2) := by decide +kernel
theorem dX7_init_267 : decode cX7_init 267 = .ok (.putfield 101, 3) := by decide +kernel
theorem dX7_init_270 : decode cX7_init 270 = .ok (.aload_n 0, 1) := by decide +kernel
theorem dX7_init_271 : decode cX7_init 271 = .ok (.bipush 60, 2) := by decide +kernel
theorem dX7_init_273 : decode cX7_init 273 = .ok (.newarray .long, 2) := by decide +kernel
theorem dX7_init_275 : decode cX7_init 275 = .ok (.putfield 105, 3) := by decide +kernel
theorem dX7_init_278 : decode cX7_init 278 = .ok (.return_, 1) := by decide +kernel
theorem dX7_in_0 : decode cX7_in 0 = .ok (.iload_n 0, 1) := by decide +kernel
theorem dX7_in_1 : decode cX7_in 1 = .ok (.iload_n 1, 1) := by decide +kernel
theorem dX7_in_2 : decode cX7_in 2 = .ok (.if_icmp .lt 12, 3) := by decide +kernel
theorem dX7_in_5 : decode cX7_in 5 = .ok (.iload_n 0, 1) := by decide +kernel
theorem dX7_in_6 : decode cX7_in 6 = .ok (.iload_n 2, 1) := by decide +kernel
theorem dX7_in_7 : decode cX7_in 7 = .ok (.if_icmp .gt 7, 3) := by decide +kernel
theorem dX7_in_10 : decode cX7_in 10 = .ok (.iconst 1, 1) := by decide +kernel
theorem dX7_in_11 : decode cX7_in 11 = .ok (.goto 4, 3) := by decide +kernel
theorem dX7_in_14 : decode cX7_in 14 = .ok (.iconst 0, 1) := by decide +kernel
theorem dX7_in_15 : decode cX7_in 15 = .ok (.ireturn, 1) := by decide +kernel
theorem dX7_held_0 : decode cX7_held 0 = .ok (.iload_n 0, 1) := by decide +kernel
theorem dX7_held_1 : decode cX7_held 1 = .ok (.iload_n 1, 1) := by decide +kernel
theorem dX7_held_2 : decode cX7_held 2 = .ok (.if_icmp .ge 7, 3) := by decide +kernel
theorem dX7_held_5 : decode cX7_held 5 = .ok (.iload_n 1, 1) := by decide +kernel
theorem dX7_held_6 : decode cX7_held 6 = .ok (.goto 13, 3) := by decide +kernel
theorem dX7_held_9 : decode cX7_held 9 = .ok (.iload_n 0, 1) := by decide +kernel
theorem dX7_held_10 : decode cX7_held 10 = .ok (.iload_n 2, 1) := by decide +kernel
theorem dX7_held_11 : decode cX7_held 11 = .ok (.if_icmp .le 7, 3) := by decide +kernel
theorem dX7_held_14 : decode cX7_held 14 = .ok (.iload_n 2, 1) := by decide +kernel
theorem dX7_held_15 : decode cX7_held 15 = .ok (.goto 4, 3) := by decide +kernel
theorem dX7_held_18 : decode cX7_held 18 = .ok (.iload_n 0, 1) := by decide +kernel
theorem dX7_held_19 : decode cX7_held 19 = .ok (.ireturn, 1) := by decide +kernel
theorem dX7_bitsOf_0 : decode cX7_bitsOf 0 = .ok (.iconst 0, 1) := by decide +kernel
theorem dX7_bitsOf_1 : decode cX7_bitsOf 1 = .ok (.istore_n 1, 1) := by decide +kernel
theorem dX7_bitsOf_2 : decode cX7_bitsOf 2 = .ok (.iload_n 0, 1) := by decide +kernel
theorem dX7_bitsOf_3 : decode cX7_bitsOf 3 = .ok (.istore_n 2, 1) := by decide +kernel
theorem dX7_bitsOf_4 : decode cX7_bitsOf 4 = .ok (.iload_n 2, 1) := by decide +kernel
theorem dX7_bitsOf_5 : decode cX7_bitsOf 5 = .ok (.ifCond .eq 15, 3) := by decide +kernel
theorem dX7_bitsOf_8 : decode cX7_bitsOf 8 = .ok (.iinc 1 1, 3) := by decide +kernel
theorem dX7_bitsOf_11 : decode cX7_bitsOf 11 = .ok (.iload_n 2, 1) := by decide +kernel
theorem dX7_bitsOf_12 : decode cX7_bitsOf 12 = .ok (.iload_n 2, 1) := by decide +kernel
theorem dX7_bitsOf_13 : decode cX7_bitsOf 13 = .ok (.iconst 1, 1) := by decide +kernel
theorem dX7_bitsOf_14 : decode cX7_bitsOf 14 = .ok (.isub, 1) := by decide +kernel
theorem dX7_bitsOf_15 : decode cX7_bitsOf 15 = .ok (.iand, 1) := by decide +kernel
theorem dX7_bitsOf_16 : decode cX7_bitsOf 16 = .ok (.istore_n 2, 1) := by decide +kernel
theorem dX7_bitsOf_17 : decode cX7_bitsOf 17 = .ok (.goto (-13), 3) := by decide +kernel
theorem dX7_bitsOf_20 : decode cX7_bitsOf 20 = .ok (.iload_n 1, 1) := by decide +kernel
theorem dX7_bitsOf_21 : decode cX7_bitsOf 21 = .ok (.ireturn, 1) := by decide +kernel
theorem dX7_isDoor_0 : decode cX7_isDoor 0 = .ok (.iload_n 1, 1) := by decide +kernel
theorem dX7_isDoor_1 : decode cX7_isDoor 1 = .ok (.iconst 0, 1) := by decide +kernel
theorem dX7_isDoor_2 : decode cX7_isDoor 2 = .ok (.aload_n 0, 1) := by decide +kernel
theorem dX7_isDoor_3 : decode cX7_isDoor 3 = .ok (.getfield 111, 3) := by decide +kernel
theorem dX7_isDoor_6 : decode cX7_isDoor 6 = .ok (.iconst 1, 1) := by decide +kernel
theorem dX7_isDoor_7 : decode cX7_isDoor 7 = .ok (.isub, 1) := by decide +kernel
theorem dX7_isDoor_8 : decode cX7_isDoor 8 = .ok (.invokestatic 114, 3) := by decide +kernel
theorem dX7_isDoor_11 : decode cX7_isDoor 11 = .ok (.ireturn, 1) := by decide +kernel
theorem dX7_areTwo_0 : decode cX7_areTwo 0 = .ok (.iload_n 1, 1) := by decide +kernel
theorem dX7_areTwo_1 : decode cX7_areTwo 1 = .ok (.ifCond .lt 40, 3) := by decide +kernel
theorem dX7_areTwo_4 : decode cX7_areTwo 4 = .ok (.aload_n 0, 1) := by decide +kernel
theorem dX7_areTwo_5 : decode cX7_areTwo 5 = .ok (.iload_n 1, 1) := by decide +kernel
theorem dX7_areTwo_6 : decode cX7_areTwo 6 = .ok (.bipush 100, 2) := by decide +kernel
theorem dX7_areTwo_8 : decode cX7_areTwo 8 = .ok (.idiv, 1) := by decide +kernel
theorem dX7_areTwo_9 : decode cX7_areTwo 9 = .ok (.invokevirtual 118, 3) := by decide +kernel
theorem dX7_areTwo_12 : decode cX7_areTwo 12 = .ok (.ifCond .eq 29, 3) := by decide +kernel
theorem dX7_areTwo_15 : decode cX7_areTwo 15 = .ok (.aload_n 0, 1) := by decide +kernel
theorem dX7_areTwo_16 : decode cX7_areTwo 16 = .ok (.iload_n 1, 1) := by decide +kernel
theorem dX7_areTwo_17 : decode cX7_areTwo 17 = .ok (.bipush 100, 2) := by decide +kernel
theorem dX7_areTwo_19 : decode cX7_areTwo 19 = .ok (.irem, 1) := by decide +kernel
theorem dX7_areTwo_20 : decode cX7_areTwo 20 = .ok (.invokevirtual 118, 3) := by decide +kernel
theorem dX7_areTwo_23 : decode cX7_areTwo 23 = .ok (.ifCond .eq 18, 3) := by decide +kernel
theorem dX7_areTwo_26 : decode cX7_areTwo 26 = .ok (.iload_n 1, 1) := by decide +kernel
theorem dX7_areTwo_27 : decode cX7_areTwo 27 = .ok (.bipush 100, 2) := by decide +kernel
theorem dX7_areTwo_29 : decode cX7_areTwo 29 = .ok (.idiv, 1) := by decide +kernel
theorem dX7_areTwo_30 : decode cX7_areTwo 30 = .ok (.iload_n 1, 1) := by decide +kernel
theorem dX7_areTwo_31 : decode cX7_areTwo 31 = .ok (.bipush 100, 2) := by decide +kernel
theorem dX7_areTwo_33 : decode cX7_areTwo 33 = .ok (.irem, 1) := by decide +kernel
theorem dX7_areTwo_34 : decode cX7_areTwo 34 = .ok (.if_icmp .eq 7, 3) := by decide +kernel
theorem dX7_areTwo_37 : decode cX7_areTwo 37 = .ok (.iconst 1, 1) := by decide +kernel
theorem dX7_areTwo_38 : decode cX7_areTwo 38 = .ok (.goto 4, 3) := by decide +kernel
theorem dX7_areTwo_41 : decode cX7_areTwo 41 = .ok (.iconst 0, 1) := by decide +kernel
theorem dX7_areTwo_42 : decode cX7_areTwo 42 = .ok (.ireturn, 1) := by decide +kernel
theorem dX7_isLaying_0 : decode cX7_isLaying 0 = .ok (.iload_n 1, 1) := by decide +kernel
theorem dX7_isLaying_1 : decode cX7_isLaying 1 = .ok (.ifCond .lt 16, 3) := by decide +kernel
theorem dX7_isLaying_4 : decode cX7_isLaying 4 = .ok (.iload_n 1, 1) := by decide +kernel
theorem dX7_isLaying_5 : decode cX7_isLaying 5 = .ok (.aload_n 0, 1) := by decide +kernel
theorem dX7_isLaying_6 : decode cX7_isLaying 6 = .ok (.getfield 111, 3) := by decide +kernel
theorem dX7_isLaying_9 : decode cX7_isLaying 9 = .ok (.ishr, 1) := by decide +kernel
theorem dX7_isLaying_10 : decode cX7_isLaying 10 = .ok (.ifCond .ne 7, 3) := by decide +kernel
theorem dX7_isLaying_13 : decode cX7_isLaying 13 = .ok (.iconst 1, 1) := by decide +kernel
theorem dX7_isLaying_14 : decode cX7_isLaying 14 = .ok (.goto 4, 3) := by decide +kernel
theorem dX7_isLaying_17 : decode cX7_isLaying 17 = .ok (.iconst 0, 1) := by decide +kernel
theorem dX7_isLaying_18 : decode cX7_isLaying 18 = .ok (.ireturn, 1) := by decide +kernel
theorem dX7_door_0 : decode cX7_door 0 = .ok (.iload_n 1, 1) := by decide +kernel
theorem dX7_door_1 : decode cX7_door 1 = .ok (.iconst 0, 1) := by decide +kernel
theorem dX7_door_2 : decode cX7_door 2 = .ok (.bipush 99, 2) := by decide +kernel
theorem dX7_door_4 : decode cX7_door 4 = .ok (.invokestatic 114, 3) := by decide +kernel
theorem dX7_door_7 : decode cX7_door 7 = .ok (.ifCond .eq 13, 3) := by decide +kernel
theorem dX7_door_10 : decode cX7_door 10 = .ok (.iload_n 2, 1) := by decide +kernel
theorem dX7_door_11 : decode cX7_door 11 = .ok (.iconst 0, 1) := by decide +kernel
theorem dX7_door_12 : decode cX7_door 12 = .ok (.bipush 9, 2) := by decide +kernel
theorem dX7_door_14 : decode cX7_door 14 = .ok (.invokestatic 114, 3) := by decide +kernel
theorem dX7_door_17 : decode cX7_door 17 = .ok (.ifCond .ne 5, 3) := by decide +kernel
theorem dX7_door_20 : decode cX7_door 20 = .ok (.iconst (-1), 1) := by decide +kernel
theorem dX7_door_21 : decode cX7_door 21 = .ok (.ireturn, 1) := by decide +kernel
theorem dX7_door_22 : decode cX7_door 22 = .ok (.aload_n 0, 1) := by decide +kernel
theorem dX7_door_23 : decode cX7_door 23 = .ok (.getfield 111, 3) := by decide +kernel
theorem dX7_door_26 : decode cX7_door 26 = .ok (.bipush 14, 2) := by decide +kernel
theorem dX7_door_28 : decode cX7_door 28 = .ok (.if_icmp .ne 6, 3) := by decide +kernel
theorem dX7_door_31 : decode cX7_door 31 = .ok (.bipush (-3), 2) := by decide +kernel
theorem dX7_door_33 : decode cX7_door 33 = .ok (.ireturn, 1) := by decide +kernel
theorem dX7_door_34 : decode cX7_door 34 = .ok (.aload_n 0, 1) := by decide +kernel
theorem dX7_door_35 : decode cX7_door 35 = .ok (.getfield 7, 3) := by decide +kernel
theorem dX7_door_38 : decode cX7_door 38 = .ok (.aload_n 0, 1) := by decide +kernel
theorem dX7_door_39 : decode cX7_door 39 = .ok (.getfield 111, 3) := by decide +kernel
theorem dX7_door_42 : decode cX7_door 42 = .ok (.iload_n 1, 1) := by decide +kernel
theorem dX7_door_43 : decode cX7_door 43 = .ok (.iastore, 1) := by decide +kernel
theorem dX7_door_44 : decode cX7_door 44 = .ok (.aload_n 0, 1) := by decide +kernel
theorem dX7_door_45 : decode cX7_door 45 = .ok (.getfield 13, 3) := by decide +kernel
theorem dX7_door_48 : decode cX7_door 48 = .ok (.aload_n 0, 1) := by decide +kernel
theorem dX7_door_49 : decode cX7_door 49 = .ok (.getfield 111, 3) := by decide +kernel
theorem dX7_door_52 : decode cX7_door 52 = .ok (.iload_n 2, 1) := by decide +kernel
theorem dX7_door_53 : decode cX7_door 53 = .ok (.iastore, 1) := by decide +kernel
theorem dX7_door_54 : decode cX7_door 54 = .ok (.aload_n 0, 1) := by decide +kernel
theorem dX7_door_55 : decode cX7_door 55 = .ok (.dup, 1) := by decide +kernel
theorem dX7_door_56 : decode cX7_door 56 = .ok (.getfield 111, 3) := by decide +kernel
theorem dX7_door_59 : decode cX7_door 59 = .ok (.iconst 1, 1) := by decide +kernel
theorem dX7_door_60 : decode cX7_door 60 = .ok (.iadd, 1) := by decide +kernel
theorem dX7_door_61 : decode cX7_door 61 = .ok (.putfield 111, 3) := by decide +kernel
theorem dX7_door_64 : decode cX7_door 64 = .ok (.aload_n 0, 1) := by decide +kernel
theorem dX7_door_65 : decode cX7_door 65 = .ok (.getfield 111, 3) := by decide +kernel
theorem dX7_door_68 : decode cX7_door 68 = .ok (.iconst 1, 1) := by decide +kernel
theorem dX7_door_69 : decode cX7_door 69 = .ok (.isub, 1) := by decide +kernel
theorem dX7_door_70 : decode cX7_door 70 = .ok (.ireturn, 1) := by decide +kernel
theorem dX7_addJoin_0 : decode cX7_addJoin 0 = .ok (.aload_n 0, 1) := by decide +kernel
theorem dX7_addJoin_1 : decode cX7_addJoin 1 = .ok (.getfield 16, 3) := by decide +kernel
theorem dX7_addJoin_4 : decode cX7_addJoin 4 = .ok (.aload_n 0, 1) := by decide +kernel
theorem dX7_addJoin_5 : decode cX7_addJoin 5 = .ok (.getfield 122, 3) := by decide +kernel
theorem dX7_addJoin_8 : decode cX7_addJoin 8 = .ok (.iload_n 1, 1) := by decide +kernel
theorem dX7_addJoin_9 : decode cX7_addJoin 9 = .ok (.iastore, 1) := by decide +kernel
theorem dX7_addJoin_10 : decode cX7_addJoin 10 = .ok (.aload_n 0, 1) := by decide +kernel
theorem dX7_addJoin_11 : decode cX7_addJoin 11 = .ok (.getfield 19, 3) := by decide +kernel
theorem dX7_addJoin_14 : decode cX7_addJoin 14 = .ok (.aload_n 0, 1) := by decide +kernel
theorem dX7_addJoin_15 : decode cX7_addJoin 15 = .ok (.getfield 122, 3) := by decide +kernel
theorem dX7_addJoin_18 : decode cX7_addJoin 18 = .ok (.iload_n 2, 1) := by decide +kernel
theorem dX7_addJoin_19 : decode cX7_addJoin 19 = .ok (.iastore, 1) := by decide +kernel
theorem dX7_addJoin_20 : decode cX7_addJoin 20 = .ok (.aload_n 0, 1) := by decide +kernel
theorem dX7_addJoin_21 : decode cX7_addJoin 21 = .ok (.dup, 1) := by decide +kernel
theorem dX7_addJoin_22 : decode cX7_addJoin 22 = .ok (.getfield 122, 3) := by decide +kernel
theorem dX7_addJoin_25 : decode cX7_addJoin 25 = .ok (.iconst 1, 1) := by decide +kernel
theorem dX7_addJoin_26 : decode cX7_addJoin 26 = .ok (.iadd, 1) := by decide +kernel
theorem dX7_addJoin_27 : decode cX7_addJoin 27 = .ok (.putfield 122, 3) := by decide +kernel
theorem dX7_addJoin_30 : decode cX7_addJoin 30 = .ok (.aload_n 0, 1) := by decide +kernel
theorem dX7_addJoin_31 : decode cX7_addJoin 31 = .ok (.getfield 122, 3) := by decide +kernel
theorem dX7_addJoin_34 : decode cX7_addJoin 34 = .ok (.iconst 1, 1) := by decide +kernel
theorem dX7_addJoin_35 : decode cX7_addJoin 35 = .ok (.isub, 1) := by decide +kernel
theorem dX7_addJoin_36 : decode cX7_addJoin 36 = .ok (.ireturn, 1) := by decide +kernel
theorem dX7_join_0 : decode cX7_join 0 = .ok (.aload_n 0, 1) := by decide +kernel
theorem dX7_join_1 : decode cX7_join 1 = .ok (.iload_n 1, 1) := by decide +kernel
theorem dX7_join_2 : decode cX7_join 2 = .ok (.invokevirtual 125, 3) := by decide +kernel
theorem dX7_join_5 : decode cX7_join 5 = .ok (.ifCond .ne 5, 3) := by decide +kernel
theorem dX7_join_8 : decode cX7_join 8 = .ok (.iconst (-1), 1) := by decide +kernel
theorem dX7_join_9 : decode cX7_join 9 = .ok (.ireturn, 1) := by decide +kernel
theorem dX7_join_10 : decode cX7_join 10 = .ok (.aload_n 0, 1) := by decide +kernel
theorem dX7_join_11 : decode cX7_join 11 = .ok (.getfield 122, 3) := by decide +kernel
theorem dX7_join_14 : decode cX7_join 14 = .ok (.bipush 40, 2) := by decide +kernel
theorem dX7_join_16 : decode cX7_join 16 = .ok (.if_icmp .ne 8, 3) := by decide +kernel
theorem dX7_join_19 : decode cX7_join 19 = .ok (.bipush (-3), 2) := by decide +kernel
theorem dX7_join_21 : decode cX7_join 21 = .ok (.goto 15, 3) := by decide +kernel
theorem dX7_join_24 : decode cX7_join 24 = .ok (.aload_n 0, 1) := by decide +kernel
theorem dX7_join_25 : decode cX7_join 25 = .ok (.iload_n 1, 1) := by decide +kernel
theorem dX7_join_26 : decode cX7_join 26 = .ok (.bipush 100, 2) := by decide +kernel
theorem dX7_join_28 : decode cX7_join 28 = .ok (.idiv, 1) := by decide +kernel
theorem dX7_join_29 : decode cX7_join 29 = .ok (.iload_n 1, 1) := by decide +kernel
theorem dX7_join_30 : decode cX7_join 30 = .ok (.bipush 100, 2) := by decide +kernel
theorem dX7_join_32 : decode cX7_join 32 = .ok (.irem, 1) := by decide +kernel
theorem dX7_join_33 : decode cX7_join 33 = .ok (.invokevirtual 128, 3) := by decide +kernel
theorem dX7_join_36 : decode cX7_join 36 = .ok (.ireturn, 1) := by decide +kernel
theorem dX7_joins_0 : decode cX7_joins 0 = .ok (.iload_n 1, 1) := by decide +kernel
theorem dX7_joins_1 : decode cX7_joins 1 = .ok (.invokestatic 132, 3) := by decide +kernel
theorem dX7_joins_4 : decode cX7_joins 4 = .ok (.ifCond .eq 13, 3) := by decide +kernel
theorem dX7_joins_7 : decode cX7_joins 7 = .ok (.iload_n 3, 1) := by decide +kernel
theorem dX7_joins_8 : decode cX7_joins 8 = .ok (.iconst 1, 1) := by decide +kernel
theorem dX7_joins_9 : decode cX7_joins 9 = .ok (.bipush 30, 2) := by decide +kernel
theorem dX7_joins_11 : decode cX7_joins 11 = .ok (.invokestatic 114, 3) := by decide +kernel
theorem dX7_joins_14 : decode cX7_joins 14 = .ok (.ifCond .ne 5, 3) := by decide +kernel
theorem dX7_joins_17 : decode cX7_joins 17 = .ok (.iconst (-1), 1) := by decide +kernel
theorem dX7_joins_18 : decode cX7_joins 18 = .ok (.ireturn, 1) := by decide +kernel
theorem dX7_joins_19 : decode cX7_joins 19 = .ok (.aload_n 0, 1) := by decide +kernel
theorem dX7_joins_20 : decode cX7_joins 20 = .ok (.getfield 95, 3) := by decide +kernel
theorem dX7_joins_23 : decode cX7_joins 23 = .ok (.iload_n 1, 1) := by decide +kernel
theorem dX7_joins_24 : decode cX7_joins 24 = .ok (.iaload, 1) := by decide +kernel
theorem dX7_joins_25 : decode cX7_joins 25 = .ok (.iconst (-1), 1) := by decide +kernel
theorem dX7_joins_26 : decode cX7_joins 26 = .ok (.if_icmp .eq 17, 3) := by decide +kernel
theorem dX7_joins_29 : decode cX7_joins 29 = .ok (.aload_n 0, 1) := by decide +kernel
theorem dX7_joins_30 : decode cX7_joins 30 = .ok (.getfield 95, 3) := by decide +kernel
theorem dX7_joins_33 : decode cX7_joins 33 = .ok (.iload_n 1, 1) := by decide +kernel
theorem dX7_joins_34 : decode cX7_joins 34 = .ok (.iaload, 1) := by decide +kernel
theorem dX7_joins_35 : decode cX7_joins 35 = .ok (.bipush (-2), 2) := by decide +kernel
theorem dX7_joins_37 : decode cX7_joins 37 = .ok (.if_icmp .eq 6, 3) := by decide +kernel
theorem dX7_joins_40 : decode cX7_joins 40 = .ok (.bipush (-12), 2) := by decide +kernel
theorem dX7_joins_42 : decode cX7_joins 42 = .ok (.ireturn, 1) := by decide +kernel
theorem dX7_joins_43 : decode cX7_joins 43 = .ok (.aload_n 0, 1) := by decide +kernel
theorem dX7_joins_44 : decode cX7_joins 44 = .ok (.getfield 95, 3) := by decide +kernel
theorem dX7_joins_47 : decode cX7_joins 47 = .ok (.iload_n 1, 1) := by decide +kernel
theorem dX7_joins_48 : decode cX7_joins 48 = .ok (.iaload, 1) := by decide +kernel
theorem dX7_joins_49 : decode cX7_joins 49 = .ok (.iconst (-1), 1) := by decide +kernel
theorem dX7_joins_50 : decode cX7_joins 50 = .ok (.if_icmp .ne 5, 3) := by decide +kernel
theorem dX7_joins_53 : decode cX7_joins 53 = .ok (.iconst 0, 1) := by decide +kernel
theorem dX7_joins_54 : decode cX7_joins 54 = .ok (.ireturn, 1) := by decide +kernel
theorem dX7_joins_55 : decode cX7_joins 55 = .ok (.iconst 0, 1) := by decide +kernel
theorem dX7_joins_56 : decode cX7_joins 56 = .ok (.istore 4, 2) := by decide +kernel
theorem dX7_joins_58 : decode cX7_joins 58 = .ok (.iload 4, 2) := by decide +kernel
theorem dX7_joins_60 : decode cX7_joins 60 = .ok (.iload_n 3, 1) := by decide +kernel
theorem dX7_joins_61 : decode cX7_joins 61 = .ok (.if_icmp .ge 122, 3) := by decide +kernel
theorem dX7_joins_64 : decode cX7_joins 64 = .ok (.iload_n 2, 1) := by decide +kernel
theorem dX7_joins_65 : decode cX7_joins 65 = .ok (.i2l, 1) := by decide +kernel
theorem dX7_joins_66 : decode cX7_joins 66 = .ok (.iconst 2, 1) := by decide +kernel
theorem dX7_joins_67 : decode cX7_joins 67 = .ok (.iload 4, 2) := by decide +kernel
theorem dX7_joins_69 : decode cX7_joins 69 = .ok (.imul, 1) := by decide +kernel
theorem dX7_joins_70 : decode cX7_joins 70 = .ok (.i2l, 1) := by decide +kernel
theorem dX7_joins_71 : decode cX7_joins 71 = .ok (.ladd, 1) := by decide +kernel
theorem dX7_joins_72 : decode cX7_joins 72 = .ok (.lstore 5, 2) := by decide +kernel
theorem dX7_joins_74 : decode cX7_joins 74 = .ok (.lload 5, 2) := by decide +kernel
theorem dX7_joins_76 : decode cX7_joins 76 = .ok (.lconst 0, 1) := by decide +kernel
theorem dX7_joins_77 : decode cX7_joins 77 = .ok (.lcmp, 1) := by decide +kernel
theorem dX7_joins_78 : decode cX7_joins 78 = .ok (.ifCond .lt 27, 3) := by decide +kernel
theorem dX7_joins_81 : decode cX7_joins 81 = .ok (.lload 5, 2) := by decide +kernel
theorem dX7_joins_83 : decode cX7_joins 83 = .ok (.lconst 1, 1) := by decide +kernel
theorem dX7_joins_84 : decode cX7_joins 84 = .ok (.ladd, 1) := by decide +kernel
theorem dX7_joins_85 : decode cX7_joins 85 = .ok (.aload_n 0, 1) := by decide +kernel
theorem dX7_joins_86 : decode cX7_joins 86 = .ok (.getfield 98, 3) := by decide +kernel
theorem dX7_joins_89 : decode cX7_joins 89 = .ok (.iload_n 1, 1) := by decide +kernel
theorem dX7_joins_90 : decode cX7_joins 90 = .ok (.iaload, 1) := by decide +kernel
theorem dX7_joins_91 : decode cX7_joins 91 = .ok (.i2l, 1) := by decide +kernel
theorem dX7_joins_92 : decode cX7_joins 92 = .ok (.lcmp, 1) := by decide +kernel
theorem dX7_joins_93 : decode cX7_joins 93 = .ok (.ifCond .ge 12, 3) := by decide +kernel
theorem dX7_joins_96 : decode cX7_joins 96 = .ok (.aload_n 0, 1) := by decide +kernel
theorem dX7_joins_97 : decode cX7_joins 97 = .ok (.getfield 122, 3) := by decide +kernel
theorem dX7_joins_100 : decode cX7_joins 100 = .ok (.bipush 40, 2) := by decide +kernel
theorem dX7_joins_102 : decode cX7_joins 102 = .ok (.if_icmp .ne 6, 3) := by decide +kernel
theorem dX7_joins_105 : decode cX7_joins 105 = .ok (.iload 4, 2) := by decide +kernel
theorem dX7_joins_107 : decode cX7_joins 107 = .ok (.ireturn, 1) := by decide +kernel
theorem dX7_joins_108 : decode cX7_joins 108 = .ok (.bipush 60, 2) := by decide +kernel
theorem dX7_joins_110 : decode cX7_joins 110 = .ok (.iload_n 1, 1) := by decide +kernel
theorem dX7_joins_111 : decode cX7_joins 111 = .ok (.imul, 1) := by decide +kernel
theorem dX7_joins_112 : decode cX7_joins 112 = .ok (.lload 5, 2) := by decide +kernel
theorem dX7_joins_114 : decode cX7_joins 114 = .ok (.l2i, 1) := by decide +kernel
theorem dX7_joins_115 : decode cX7_joins 115 = .ok (.iadd, 1) := by decide +kernel
theorem dX7_joins_116 : decode cX7_joins 116 = .ok (.istore 7, 2) := by decide +kernel
theorem dX7_joins_118 : decode cX7_joins 118 = .ok (.aload_n 0, 1) := by decide +kernel
theorem dX7_joins_119 : decode cX7_joins 119 = .ok (.getfield 101, 3) := by decide +kernel
theorem dX7_joins_122 : decode cX7_joins 122 = .ok (.iload 7, 2) := by decide +kernel
theorem dX7_joins_124 : decode cX7_joins 124 = .ok (.laload, 1) := by decide +kernel
theorem dX7_joins_125 : decode cX7_joins 125 = .ok (.l2i, 1) := by decide +kernel
theorem dX7_joins_126 : decode cX7_joins 126 = .ok (.istore 8, 2) := by decide +kernel
theorem dX7_joins_128 : decode cX7_joins 128 = .ok (.aload_n 0, 1) := by decide +kernel
theorem dX7_joins_129 : decode cX7_joins 129 = .ok (.getfield 101, 3) := by decide +kernel
theorem dX7_joins_132 : decode cX7_joins 132 = .ok (.iload 7, 2) := by decide +kernel
theorem dX7_joins_134 : decode cX7_joins 134 = .ok (.iconst 1, 1) := by decide +kernel
theorem dX7_joins_135 : decode cX7_joins 135 = .ok (.iadd, 1) := by decide +kernel
theorem dX7_joins_136 : decode cX7_joins 136 = .ok (.laload, 1) := by decide +kernel
theorem dX7_joins_137 : decode cX7_joins 137 = .ok (.l2i, 1) := by decide +kernel
theorem dX7_joins_138 : decode cX7_joins 138 = .ok (.istore 9, 2) := by decide +kernel
theorem dX7_joins_140 : decode cX7_joins 140 = .ok (.aload_n 0, 1) := by decide +kernel
theorem dX7_joins_141 : decode cX7_joins 141 = .ok (.iload 8, 2) := by decide +kernel
theorem dX7_joins_143 : decode cX7_joins 143 = .ok (.invokevirtual 118, 3) := by decide +kernel
theorem dX7_joins_146 : decode cX7_joins 146 = .ok (.ifCond .eq 19, 3) := by decide +kernel
theorem dX7_joins_149 : decode cX7_joins 149 = .ok (.aload_n 0, 1) := by decide +kernel
theorem dX7_joins_150 : decode cX7_joins 150 = .ok (.iload 9, 2) := by decide +kernel
theorem dX7_joins_152 : decode cX7_joins 152 = .ok (.invokevirtual 118, 3) := by decide +kernel
theorem dX7_joins_155 : decode cX7_joins 155 = .ok (.ifCond .eq 10, 3) := by decide +kernel
theorem dX7_joins_158 : decode cX7_joins 158 = .ok (.iload 8, 2) := by decide +kernel
theorem dX7_joins_160 : decode cX7_joins 160 = .ok (.iload 9, 2) := by decide +kernel
theorem dX7_joins_162 : decode cX7_joins 162 = .ok (.if_icmp .ne 6, 3) := by decide +kernel
theorem dX7_joins_165 : decode cX7_joins 165 = .ok (.iload 4, 2) := by decide +kernel
theorem dX7_joins_167 : decode cX7_joins 167 = .ok (.ireturn, 1) := by decide +kernel
theorem dX7_joins_168 : decode cX7_joins 168 = .ok (.aload_n 0, 1) := by decide +kernel
theorem dX7_joins_169 : decode cX7_joins 169 = .ok (.iload 8, 2) := by decide +kernel
theorem dX7_joins_171 : decode cX7_joins 171 = .ok (.iload 9, 2) := by decide +kernel
theorem dX7_joins_173 : decode cX7_joins 173 = .ok (.invokevirtual 128, 3) := by decide +kernel
theorem dX7_joins_176 : decode cX7_joins 176 = .ok (.pop, 1) := by decide +kernel
theorem dX7_joins_177 : decode cX7_joins 177 = .ok (.iinc 4 1, 3) := by decide +kernel
theorem dX7_joins_180 : decode cX7_joins 180 = .ok (.goto (-122), 3) := by decide +kernel
theorem dX7_joins_183 : decode cX7_joins 183 = .ok (.iload_n 3, 1) := by decide +kernel
theorem dX7_joins_184 : decode cX7_joins 184 = .ok (.ireturn, 1) := by decide +kernel
theorem dX7_wall_0 : decode cX7_wall 0 = .ok (.aload_n 0, 1) := by decide +kernel
theorem dX7_wall_1 : decode cX7_wall 1 = .ok (.iload_n 1, 1) := by decide +kernel
theorem dX7_wall_2 : decode cX7_wall 2 = .ok (.invokevirtual 125, 3) := by decide +kernel
theorem dX7_wall_5 : decode cX7_wall 5 = .ok (.ifCond .eq 13, 3) := by decide +kernel
theorem dX7_wall_8 : decode cX7_wall 8 = .ok (.iload_n 2, 1) := by decide +kernel
theorem dX7_wall_9 : decode cX7_wall 9 = .ok (.iconst 0, 1) := by decide +kernel
theorem dX7_wall_10 : decode cX7_wall 10 = .ok (.bipush 99, 2) := by decide +kernel
theorem dX7_wall_12 : decode cX7_wall 12 = .ok (.invokestatic 114, 3) := by decide +kernel
theorem dX7_wall_15 : decode cX7_wall 15 = .ok (.ifCond .ne 5, 3) := by decide +kernel
theorem dX7_wall_18 : decode cX7_wall 18 = .ok (.iconst (-1), 1) := by decide +kernel
theorem dX7_wall_19 : decode cX7_wall 19 = .ok (.ireturn, 1) := by decide +kernel
theorem dX7_wall_20 : decode cX7_wall 20 = .ok (.aload_n 0, 1) := by decide +kernel
theorem dX7_wall_21 : decode cX7_wall 21 = .ok (.getfield 135, 3) := by decide +kernel
theorem dX7_wall_24 : decode cX7_wall 24 = .ok (.bipush 10, 2) := by decide +kernel
theorem dX7_wall_26 : decode cX7_wall 26 = .ok (.if_icmp .ne 6, 3) := by decide +kernel
theorem dX7_wall_29 : decode cX7_wall 29 = .ok (.bipush (-3), 2) := by decide +kernel
theorem dX7_wall_31 : decode cX7_wall 31 = .ok (.ireturn, 1) := by decide +kernel
theorem dX7_wall_32 : decode cX7_wall 32 = .ok (.aload_n 0, 1) := by decide +kernel
theorem dX7_wall_33 : decode cX7_wall 33 = .ok (.getfield 22, 3) := by decide +kernel
theorem dX7_wall_36 : decode cX7_wall 36 = .ok (.aload_n 0, 1) := by decide +kernel
theorem dX7_wall_37 : decode cX7_wall 37 = .ok (.getfield 135, 3) := by decide +kernel
theorem dX7_wall_40 : decode cX7_wall 40 = .ok (.iload_n 1, 1) := by decide +kernel
theorem dX7_wall_41 : decode cX7_wall 41 = .ok (.bipush 100, 2) := by decide +kernel
theorem dX7_wall_43 : decode cX7_wall 43 = .ok (.idiv, 1) := by decide +kernel
theorem dX7_wall_44 : decode cX7_wall 44 = .ok (.iastore, 1) := by decide +kernel
theorem dX7_wall_45 : decode cX7_wall 45 = .ok (.aload_n 0, 1) := by decide +kernel
theorem dX7_wall_46 : decode cX7_wall 46 = .ok (.getfield 25, 3) := by decide +kernel
theorem dX7_wall_49 : decode cX7_wall 49 = .ok (.aload_n 0, 1) := by decide +kernel
theorem dX7_wall_50 : decode cX7_wall 50 = .ok (.getfield 135, 3) := by decide +kernel
theorem dX7_wall_53 : decode cX7_wall 53 = .ok (.iload_n 1, 1) := by decide +kernel
theorem dX7_wall_54 : decode cX7_wall 54 = .ok (.bipush 100, 2) := by decide +kernel
theorem dX7_wall_56 : decode cX7_wall 56 = .ok (.irem, 1) := by decide +kernel
theorem dX7_wall_57 : decode cX7_wall 57 = .ok (.iastore, 1) := by decide +kernel
theorem dX7_wall_58 : decode cX7_wall 58 = .ok (.aload_n 0, 1) := by decide +kernel
theorem dX7_wall_59 : decode cX7_wall 59 = .ok (.getfield 28, 3) := by decide +kernel
theorem dX7_wall_62 : decode cX7_wall 62 = .ok (.aload_n 0, 1) := by decide +kernel
theorem dX7_wall_63 : decode cX7_wall 63 = .ok (.getfield 135, 3) := by decide +kernel
theorem dX7_wall_66 : decode cX7_wall 66 = .ok (.iload_n 2, 1) := by decide +kernel
theorem dX7_wall_67 : decode cX7_wall 67 = .ok (.iastore, 1) := by decide +kernel
theorem dX7_wall_68 : decode cX7_wall 68 = .ok (.aload_n 0, 1) := by decide +kernel
theorem dX7_wall_69 : decode cX7_wall 69 = .ok (.dup, 1) := by decide +kernel
theorem dX7_wall_70 : decode cX7_wall 70 = .ok (.getfield 135, 3) := by decide +kernel
theorem dX7_wall_73 : decode cX7_wall 73 = .ok (.iconst 1, 1) := by decide +kernel
theorem dX7_wall_74 : decode cX7_wall 74 = .ok (.iadd, 1) := by decide +kernel
theorem dX7_wall_75 : decode cX7_wall 75 = .ok (.putfield 135, 3) := by decide +kernel
theorem dX7_wall_78 : decode cX7_wall 78 = .ok (.aload_n 0, 1) := by decide +kernel
theorem dX7_wall_79 : decode cX7_wall 79 = .ok (.getfield 135, 3) := by decide +kernel
theorem dX7_wall_82 : decode cX7_wall 82 = .ok (.iconst 1, 1) := by decide +kernel
theorem dX7_wall_83 : decode cX7_wall 83 = .ok (.isub, 1) := by decide +kernel
theorem dX7_wall_84 : decode cX7_wall 84 = .ok (.ireturn, 1) := by decide +kernel
theorem dX7_old_0 : decode cX7_old 0 = .ok (.aload_n 0, 1) := by decide +kernel
theorem dX7_old_1 : decode cX7_old 1 = .ok (.iload_n 1, 1) := by decide +kernel
theorem dX7_old_2 : decode cX7_old 2 = .ok (.invokevirtual 138, 3) := by decide +kernel
theorem dX7_old_5 : decode cX7_old 5 = .ok (.ifCond .ne 5, 3) := by decide +kernel
theorem dX7_old_8 : decode cX7_old 8 = .ok (.iconst (-1), 1) := by decide +kernel
theorem dX7_old_9 : decode cX7_old 9 = .ok (.ireturn, 1) := by decide +kernel
theorem dX7_old_10 : decode cX7_old 10 = .ok (.aload_n 0, 1) := by decide +kernel
theorem dX7_old_11 : decode cX7_old 11 = .ok (.getfield 141, 3) := by decide +kernel
theorem dX7_old_14 : decode cX7_old 14 = .ok (.istore_n 2, 1) := by decide +kernel
theorem dX7_old_15 : decode cX7_old 15 = .ok (.aload_n 0, 1) := by decide +kernel
theorem dX7_old_16 : decode cX7_old 16 = .ok (.iload_n 1, 1) := by decide +kernel
theorem dX7_old_17 : decode cX7_old 17 = .ok (.putfield 141, 3) := by decide +kernel
theorem dX7_old_20 : decode cX7_old 20 = .ok (.iload_n 2, 1) := by decide +kernel
theorem dX7_old_21 : decode cX7_old 21 = .ok (.ireturn, 1) := by decide +kernel
theorem dX7_near_0 : decode cX7_near 0 = .ok (.iload_n 1, 1) := by decide +kernel
theorem dX7_near_1 : decode cX7_near 1 = .ok (.iconst 0, 1) := by decide +kernel
theorem dX7_near_2 : decode cX7_near 2 = .ok (.bipush 9, 2) := by decide +kernel
theorem dX7_near_4 : decode cX7_near 4 = .ok (.invokestatic 114, 3) := by decide +kernel
theorem dX7_near_7 : decode cX7_near 7 = .ok (.ifCond .ne 5, 3) := by decide +kernel
theorem dX7_near_10 : decode cX7_near 10 = .ok (.iconst (-1), 1) := by decide +kernel
theorem dX7_near_11 : decode cX7_near 11 = .ok (.ireturn, 1) := by decide +kernel
theorem dX7_near_12 : decode cX7_near 12 = .ok (.aload_n 0, 1) := by decide +kernel
theorem dX7_near_13 : decode cX7_near 13 = .ok (.getfield 31, 3) := by decide +kernel
theorem dX7_near_16 : decode cX7_near 16 = .ok (.istore_n 2, 1) := by decide +kernel
theorem dX7_near_17 : decode cX7_near 17 = .ok (.aload_n 0, 1) := by decide +kernel
theorem dX7_near_18 : decode cX7_near 18 = .ok (.iload_n 1, 1) := by decide +kernel
theorem dX7_near_19 : decode cX7_near 19 = .ok (.putfield 31, 3) := by decide +kernel
theorem dX7_near_22 : decode cX7_near 22 = .ok (.iload_n 2, 1) := by decide +kernel
theorem dX7_near_23 : decode cX7_near 23 = .ok (.ireturn, 1) := by decide +kernel
theorem dX7_valueAt_0 : decode cX7_valueAt 0 = .ok (.iload_n 1, 1) := by decide +kernel
theorem dX7_valueAt_1 : decode cX7_valueAt 1 = .ok (.ifCond .ne 12, 3) := by decide +kernel
theorem dX7_valueAt_4 : decode cX7_valueAt 4 = .ok (.aload_n 0, 1) := by decide +kernel
theorem dX7_valueAt_5 : decode cX7_valueAt 5 = .ok (.getfield 7, 3) := by decide +kernel
theorem dX7_valueAt_8 : decode cX7_valueAt 8 = .ok (.iload_n 2, 1) := by decide +kernel
theorem dX7_valueAt_9 : decode cX7_valueAt 9 = .ok (.iaload, 1) := by decide +kernel
theorem dX7_valueAt_10 : decode cX7_valueAt 10 = .ok (.goto 23, 3) := by decide +kernel
theorem dX7_valueAt_13 : decode cX7_valueAt 13 = .ok (.iload_n 1, 1) := by decide +kernel
theorem dX7_valueAt_14 : decode cX7_valueAt 14 = .ok (.iconst 1, 1) := by decide +kernel
theorem dX7_valueAt_15 : decode cX7_valueAt 15 = .ok (.if_icmp .ne 12, 3) := by decide +kernel
theorem dX7_valueAt_18 : decode cX7_valueAt 18 = .ok (.aload_n 0, 1) := by decide +kernel
theorem dX7_valueAt_19 : decode cX7_valueAt 19 = .ok (.getfield 13, 3) := by decide +kernel
theorem dX7_valueAt_22 : decode cX7_valueAt 22 = .ok (.iload_n 2, 1) := by decide +kernel
theorem dX7_valueAt_23 : decode cX7_valueAt 23 = .ok (.iaload, 1) := by decide +kernel
theorem dX7_valueAt_24 : decode cX7_valueAt 24 = .ok (.goto 9, 3) := by decide +kernel
theorem dX7_valueAt_27 : decode cX7_valueAt 27 = .ok (.aload_n 0, 1) := by decide +kernel
theorem dX7_valueAt_28 : decode cX7_valueAt 28 = .ok (.getfield 28, 3) := by decide +kernel
theorem dX7_valueAt_31 : decode cX7_valueAt 31 = .ok (.iload_n 2, 1) := by decide +kernel
theorem dX7_valueAt_32 : decode cX7_valueAt 32 = .ok (.iaload, 1) := by decide +kernel
theorem dX7_valueAt_33 : decode cX7_valueAt 33 = .ok (.ireturn, 1) := by decide +kernel
theorem dX7_lays_0 : decode cX7_lays 0 = .ok (.iload_n 1, 1) := by decide +kernel
theorem dX7_lays_1 : decode cX7_lays 1 = .ok (.ifCond .ne 13, 3) := by decide +kernel
theorem dX7_lays_4 : decode cX7_lays 4 = .ok (.aload_n 0, 1) := by decide +kernel
theorem dX7_lays_5 : decode cX7_lays 5 = .ok (.getfield 7, 3) := by decide +kernel
theorem dX7_lays_8 : decode cX7_lays 8 = .ok (.iload_n 2, 1) := by decide +kernel
theorem dX7_lays_9 : decode cX7_lays 9 = .ok (.iload_n 3, 1) := by decide +kernel
theorem dX7_lays_10 : decode cX7_lays 10 = .ok (.iastore, 1) := by decide +kernel
theorem dX7_lays_11 : decode cX7_lays 11 = .ok (.goto 25, 3) := by decide +kernel
theorem dX7_lays_14 : decode cX7_lays 14 = .ok (.iload_n 1, 1) := by decide +kernel
theorem dX7_lays_15 : decode cX7_lays 15 = .ok (.iconst 1, 1) := by decide +kernel
theorem dX7_lays_16 : decode cX7_lays 16 = .ok (.if_icmp .ne 13, 3) := by decide +kernel
theorem dX7_lays_19 : decode cX7_lays 19 = .ok (.aload_n 0, 1) := by decide +kernel
theorem dX7_lays_20 : decode cX7_lays 20 = .ok (.getfield 13, 3) := by decide +kernel
theorem dX7_lays_23 : decode cX7_lays 23 = .ok (.iload_n 2, 1) := by decide +kernel
theorem dX7_lays_24 : decode cX7_lays 24 = .ok (.iload_n 3, 1) := by decide +kernel
theorem dX7_lays_25 : decode cX7_lays 25 = .ok (.iastore, 1) := by decide +kernel
theorem dX7_lays_26 : decode cX7_lays 26 = .ok (.goto 10, 3) := by decide +kernel
theorem dX7_lays_29 : decode cX7_lays 29 = .ok (.aload_n 0, 1) := by decide +kernel
theorem dX7_lays_30 : decode cX7_lays 30 = .ok (.getfield 28, 3) := by decide +kernel
theorem dX7_lays_33 : decode cX7_lays 33 = .ok (.iload_n 2, 1) := by decide +kernel
theorem dX7_lays_34 : decode cX7_lays 34 = .ok (.iload_n 3, 1) := by decide +kernel
theorem dX7_lays_35 : decode cX7_lays 35 = .ok (.iastore, 1) := by decide +kernel
theorem dX7_lays_36 : decode cX7_lays 36 = .ok (.return_, 1) := by decide +kernel
theorem dX7_changes_0 : decode cX7_changes 0 = .ok (.aload_n 0, 1) := by decide +kernel
theorem dX7_changes_1 : decode cX7_changes 1 = .ok (.iload_n 1, 1) := by decide +kernel
theorem dX7_changes_2 : decode cX7_changes 2 = .ok (.iload_n 2, 1) := by decide +kernel
theorem dX7_changes_3 : decode cX7_changes 3 = .ok (.invokevirtual 144, 3) := by decide +kernel
theorem dX7_changes_6 : decode cX7_changes 6 = .ok (.istore 4, 2) := by decide +kernel
theorem dX7_changes_8 : decode cX7_changes 8 = .ok (.iload 4, 2) := by decide +kernel
theorem dX7_changes_10 : decode cX7_changes 10 = .ok (.iload_n 3, 1) := by decide +kernel
theorem dX7_changes_11 : decode cX7_changes 11 = .ok (.if_icmp .ne 6, 3) := by decide +kernel
theorem dX7_changes_14 : decode cX7_changes 14 = .ok (.iload 4, 2) := by decide +kernel
theorem dX7_changes_16 : decode cX7_changes 16 = .ok (.ireturn, 1) := by decide +kernel
theorem dX7_changes_17 : decode cX7_changes 17 = .ok (.aload_n 0, 1) := by decide +kernel
theorem dX7_changes_18 : decode cX7_changes 18 = .ok (.iconst 0, 1) := by decide +kernel
theorem dX7_changes_19 : decode cX7_changes 19 = .ok (.putfield 147, 3) := by decide +kernel
theorem dX7_changes_22 : decode cX7_changes 22 = .ok (.aload_n 0, 1) := by decide +kernel
theorem dX7_changes_23 : decode cX7_changes 23 = .ok (.getfield 150, 3) := by decide +kernel
theorem dX7_changes_26 : decode cX7_changes 26 = .ok (.bipush 40, 2) := by decide +kernel
theorem dX7_changes_28 : decode cX7_changes 28 = .ok (.if_icmp .ne 93, 3) := by decide +kernel
theorem dX7_changes_31 : decode cX7_changes 31 = .ok (.iconst 1, 1) := by decide +kernel
theorem dX7_changes_32 : decode cX7_changes 32 = .ok (.istore 5, 2) := by decide +kernel
theorem dX7_changes_34 : decode cX7_changes 34 = .ok (.iload 5, 2) := by decide +kernel
theorem dX7_changes_36 : decode cX7_changes 36 = .ok (.bipush 40, 2) := by decide +kernel
theorem dX7_changes_38 : decode cX7_changes 38 = .ok (.if_icmp .ge 73, 3) := by decide +kernel
theorem dX7_changes_41 : decode cX7_changes 41 = .ok (.aload_n 0, 1) := by decide +kernel
theorem dX7_changes_42 : decode cX7_changes 42 = .ok (.getfield 35, 3) := by decide +kernel
theorem dX7_changes_45 : decode cX7_changes 45 = .ok (.iload 5, 2) := by decide +kernel
theorem dX7_changes_47 : decode cX7_changes 47 = .ok (.iconst 1, 1) := by decide +kernel
theorem dX7_changes_48 : decode cX7_changes 48 = .ok (.isub, 1) := by decide +kernel
theorem dX7_changes_49 : decode cX7_changes 49 = .ok (.aload_n 0, 1) := by decide +kernel
theorem dX7_changes_50 : decode cX7_changes 50 = .ok (.getfield 35, 3) := by decide +kernel
theorem dX7_changes_53 : decode cX7_changes 53 = .ok (.iload 5, 2) := by decide +kernel
theorem dX7_changes_55 : decode cX7_changes 55 = .ok (.iaload, 1) := by decide +kernel
theorem dX7_changes_56 : decode cX7_changes 56 = .ok (.iastore, 1) := by decide +kernel
theorem dX7_changes_57 : decode cX7_changes 57 = .ok (.aload_n 0, 1) := by decide +kernel
theorem dX7_changes_58 : decode cX7_changes 58 = .ok (.getfield 38, 3) := by decide +kernel
theorem dX7_changes_61 : decode cX7_changes 61 = .ok (.iload 5, 2) := by decide +kernel
theorem dX7_changes_63 : decode cX7_changes 63 = .ok (.iconst 1, 1) := by decide +kernel
theorem dX7_changes_64 : decode cX7_changes 64 = .ok (.isub, 1) := by decide +kernel
theorem dX7_changes_65 : decode cX7_changes 65 = .ok (.aload_n 0, 1) := by decide +kernel
theorem dX7_changes_66 : decode cX7_changes 66 = .ok (.getfield 38, 3) := by decide +kernel
theorem dX7_changes_69 : decode cX7_changes 69 = .ok (.iload 5, 2) := by decide +kernel
theorem dX7_changes_71 : decode cX7_changes 71 = .ok (.iaload, 1) := by decide +kernel
theorem dX7_changes_72 : decode cX7_changes 72 = .ok (.iastore, 1) := by decide +kernel
theorem dX7_changes_73 : decode cX7_changes 73 = .ok (.aload_n 0, 1) := by decide +kernel
theorem dX7_changes_74 : decode cX7_changes 74 = .ok (.getfield 41, 3) := by decide +kernel
theorem dX7_changes_77 : decode cX7_changes 77 = .ok (.iload 5, 2) := by decide +kernel
theorem dX7_changes_79 : decode cX7_changes 79 = .ok (.iconst 1, 1) := by decide +kernel
theorem dX7_changes_80 : decode cX7_changes 80 = .ok (.isub, 1) := by decide +kernel
theorem dX7_changes_81 : decode cX7_changes 81 = .ok (.aload_n 0, 1) := by decide +kernel
theorem dX7_changes_82 : decode cX7_changes 82 = .ok (.getfield 41, 3) := by decide +kernel
theorem dX7_changes_85 : decode cX7_changes 85 = .ok (.iload 5, 2) := by decide +kernel
theorem dX7_changes_87 : decode cX7_changes 87 = .ok (.iaload, 1) := by decide +kernel
theorem dX7_changes_88 : decode cX7_changes 88 = .ok (.iastore, 1) := by decide +kernel
theorem dX7_changes_89 : decode cX7_changes 89 = .ok (.aload_n 0, 1) := by decide +kernel
theorem dX7_changes_90 : decode cX7_changes 90 = .ok (.getfield 44, 3) := by decide +kernel
theorem dX7_changes_93 : decode cX7_changes 93 = .ok (.iload 5, 2) := by decide +kernel
theorem dX7_changes_95 : decode cX7_changes 95 = .ok (.iconst 1, 1) := by decide +kernel
theorem dX7_changes_96 : decode cX7_changes 96 = .ok (.isub, 1) := by decide +kernel
theorem dX7_changes_97 : decode cX7_changes 97 = .ok (.aload_n 0, 1) := by decide +kernel
theorem dX7_changes_98 : decode cX7_changes 98 = .ok (.getfield 44, 3) := by decide +kernel
theorem dX7_changes_101 : decode cX7_changes 101 = .ok (.iload 5, 2) := by decide +kernel
theorem dX7_changes_103 : decode cX7_changes 103 = .ok (.iaload, 1) := by decide +kernel
theorem dX7_changes_104 : decode cX7_changes 104 = .ok (.iastore, 1) := by decide +kernel
theorem dX7_changes_105 : decode cX7_changes 105 = .ok (.iinc 5 1, 3) := by decide +kernel
theorem dX7_changes_108 : decode cX7_changes 108 = .ok (.goto (-74), 3) := by decide +kernel
theorem dX7_changes_111 : decode cX7_changes 111 = .ok (.aload_n 0, 1) := by decide +kernel
theorem dX7_changes_112 : decode cX7_changes 112 = .ok (.dup, 1) := by decide +kernel
