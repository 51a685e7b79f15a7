theorem dX6_join_31 : decode cX6_join 31 = .ok (.bipush 40, 2) := by decide +kernel
theorem dX6_join_33 : decode cX6_join 33 = .ok (.if_icmp .lt 8, 3) := by decide +kernel
theorem dX6_join_36 : decode cX6_join 36 = .ok (.bipush (-3), 2) := by decide +kernel
theorem dX6_join_38 : decode cX6_join 38 = .ok (.goto 11, 3) := by decide +kernel
theorem dX6_join_41 : decode cX6_join 41 = .ok (.aload_n 0, 1) := by decide +kernel
theorem dX6_join_42 : decode cX6_join 42 = .ok (.getfield 10, 3) := by decide +kernel
theorem dX6_join_45 : decode cX6_join 45 = .ok (.iload_n 1, 1) := by decide +kernel
theorem dX6_join_46 : decode cX6_join 46 = .ok (.invokevirtual 73, 3) := by decide +kernel
theorem dX6_join_49 : decode cX6_join 49 = .ok (.ireturn, 1) := by decide +kernel
theorem dX6_joins_0 : decode cX6_joins 0 = .ok (.iload_n 1, 1) := by decide +kernel
theorem dX6_joins_1 : decode cX6_joins 1 = .ok (.invokestatic 77, 3) := by decide +kernel
theorem dX6_joins_4 : decode cX6_joins 4 = .ok (.ifCond .eq 14, 3) := by decide +kernel
theorem dX6_joins_7 : decode cX6_joins 7 = .ok (.iload_n 3, 1) := by decide +kernel
theorem dX6_joins_8 : decode cX6_joins 8 = .ok (.iconst 1, 1) := by decide +kernel
theorem dX6_joins_9 : decode cX6_joins 9 = .ok (.if_icmp .lt 9, 3) := by decide +kernel
theorem dX6_joins_12 : decode cX6_joins 12 = .ok (.iload_n 3, 1) := by decide +kernel
theorem dX6_joins_13 : decode cX6_joins 13 = .ok (.bipush 30, 2) := by decide +kernel
theorem dX6_joins_15 : decode cX6_joins 15 = .ok (.if_icmp .le 5, 3) := by decide +kernel
theorem dX6_joins_18 : decode cX6_joins 18 = .ok (.iconst (-1), 1) := by decide +kernel
theorem dX6_joins_19 : decode cX6_joins 19 = .ok (.ireturn, 1) := by decide +kernel
theorem dX6_joins_20 : decode cX6_joins 20 = .ok (.aload_n 0, 1) := by decide +kernel
theorem dX6_joins_21 : decode cX6_joins 21 = .ok (.getfield 46, 3) := by decide +kernel
theorem dX6_joins_24 : decode cX6_joins 24 = .ok (.iload_n 1, 1) := by decide +kernel
theorem dX6_joins_25 : decode cX6_joins 25 = .ok (.aaload, 1) := by decide +kernel
theorem dX6_joins_26 : decode cX6_joins 26 = .ok (.astore 4, 2) := by decide +kernel
theorem dX6_joins_28 : decode cX6_joins 28 = .ok (.aload 4, 2) := by decide +kernel
theorem dX6_joins_30 : decode cX6_joins 30 = .ok (.getfield 81, 3) := by decide +kernel
theorem dX6_joins_33 : decode cX6_joins 33 = .ok (.ifCond .ne 5, 3) := by decide +kernel
theorem dX6_joins_36 : decode cX6_joins 36 = .ok (.iconst 0, 1) := by decide +kernel
theorem dX6_joins_37 : decode cX6_joins 37 = .ok (.ireturn, 1) := by decide +kernel
theorem dX6_joins_38 : decode cX6_joins 38 = .ok (.aload 4, 2) := by decide +kernel
theorem dX6_joins_40 : decode cX6_joins 40 = .ok (.iconst 0, 1) := by decide +kernel
theorem dX6_joins_41 : decode cX6_joins 41 = .ok (.invokevirtual 84, 3) := by decide +kernel
theorem dX6_joins_44 : decode cX6_joins 44 = .ok (.ifCond .ne 6, 3) := by decide +kernel
theorem dX6_joins_47 : decode cX6_joins 47 = .ok (.bipush (-12), 2) := by decide +kernel
theorem dX6_joins_49 : decode cX6_joins 49 = .ok (.ireturn, 1) := by decide +kernel
theorem dX6_joins_50 : decode cX6_joins 50 = .ok (.iload_n 2, 1) := by decide +kernel
theorem dX6_joins_51 : decode cX6_joins 51 = .ok (.ifCond .ge 7, 3) := by decide +kernel
theorem dX6_joins_54 : decode cX6_joins 54 = .ok (.iconst 0, 1) := by decide +kernel
theorem dX6_joins_55 : decode cX6_joins 55 = .ok (.goto 11, 3) := by decide +kernel
theorem dX6_joins_58 : decode cX6_joins 58 = .ok (.aload_n 0, 1) := by decide +kernel
theorem dX6_joins_59 : decode cX6_joins 59 = .ok (.aload 4, 2) := by decide +kernel
theorem dX6_joins_61 : decode cX6_joins 61 = .ok (.iload_n 2, 1) := by decide +kernel
theorem dX6_joins_62 : decode cX6_joins 62 = .ok (.iload_n 3, 1) := by decide +kernel
theorem dX6_joins_63 : decode cX6_joins 63 = .ok (.invokevirtual 87, 3) := by decide +kernel
theorem dX6_joins_66 : decode cX6_joins 66 = .ok (.ireturn, 1) := by decide +kernel
theorem dX6_wall_0 : decode cX6_wall 0 = .ok (.iload_n 1, 1) := by decide +kernel
theorem dX6_wall_1 : decode cX6_wall 1 = .ok (.ifCond .lt 30, 3) := by decide +kernel
theorem dX6_wall_4 : decode cX6_wall 4 = .ok (.aload_n 0, 1) := by decide +kernel
theorem dX6_wall_5 : decode cX6_wall 5 = .ok (.getfield 10, 3) := by decide +kernel
theorem dX6_wall_8 : decode cX6_wall 8 = .ok (.iload_n 1, 1) := by decide +kernel
theorem dX6_wall_9 : decode cX6_wall 9 = .ok (.bipush 100, 2) := by decide +kernel
theorem dX6_wall_11 : decode cX6_wall 11 = .ok (.idiv, 1) := by decide +kernel
theorem dX6_wall_12 : decode cX6_wall 12 = .ok (.iload_n 1, 1) := by decide +kernel
theorem dX6_wall_13 : decode cX6_wall 13 = .ok (.bipush 100, 2) := by decide +kernel
theorem dX6_wall_15 : decode cX6_wall 15 = .ok (.irem, 1) := by decide +kernel
theorem dX6_wall_16 : decode cX6_wall 16 = .ok (.invokevirtual 67, 3) := by decide +kernel
theorem dX6_wall_19 : decode cX6_wall 19 = .ok (.ifCond .eq 12, 3) := by decide +kernel
theorem dX6_wall_22 : decode cX6_wall 22 = .ok (.iload_n 2, 1) := by decide +kernel
theorem dX6_wall_23 : decode cX6_wall 23 = .ok (.bipush 99, 2) := by decide +kernel
theorem dX6_wall_25 : decode cX6_wall 25 = .ok (.invokestatic 55, 3) := by decide +kernel
theorem dX6_wall_28 : decode cX6_wall 28 = .ok (.ifCond .ne 5, 3) := by decide +kernel
theorem dX6_wall_31 : decode cX6_wall 31 = .ok (.iconst (-1), 1) := by decide +kernel
theorem dX6_wall_32 : decode cX6_wall 32 = .ok (.ireturn, 1) := by decide +kernel
theorem dX6_wall_33 : decode cX6_wall 33 = .ok (.aload_n 0, 1) := by decide +kernel
theorem dX6_wall_34 : decode cX6_wall 34 = .ok (.getfield 10, 3) := by decide +kernel
theorem dX6_wall_37 : decode cX6_wall 37 = .ok (.getfield 91, 3) := by decide +kernel
theorem dX6_wall_40 : decode cX6_wall 40 = .ok (.bipush 10, 2) := by decide +kernel
theorem dX6_wall_42 : decode cX6_wall 42 = .ok (.if_icmp .lt 8, 3) := by decide +kernel
theorem dX6_wall_45 : decode cX6_wall 45 = .ok (.bipush (-3), 2) := by decide +kernel
theorem dX6_wall_47 : decode cX6_wall 47 = .ok (.goto 12, 3) := by decide +kernel
theorem dX6_wall_50 : decode cX6_wall 50 = .ok (.aload_n 0, 1) := by decide +kernel
theorem dX6_wall_51 : decode cX6_wall 51 = .ok (.getfield 10, 3) := by decide +kernel
theorem dX6_wall_54 : decode cX6_wall 54 = .ok (.iload_n 1, 1) := by decide +kernel
theorem dX6_wall_55 : decode cX6_wall 55 = .ok (.iload_n 2, 1) := by decide +kernel
theorem dX6_wall_56 : decode cX6_wall 56 = .ok (.invokevirtual 94, 3) := by decide +kernel
theorem dX6_wall_59 : decode cX6_wall 59 = .ok (.ireturn, 1) := by decide +kernel
theorem dX6_old_0 : decode cX6_old 0 = .ok (.aload_n 0, 1) := by decide +kernel
theorem dX6_old_1 : decode cX6_old 1 = .ok (.getfield 10, 3) := by decide +kernel
theorem dX6_old_4 : decode cX6_old 4 = .ok (.iload_n 1, 1) := by decide +kernel
theorem dX6_old_5 : decode cX6_old 5 = .ok (.invokevirtual 97, 3) := by decide +kernel
theorem dX6_old_8 : decode cX6_old 8 = .ok (.ifCond .ne 5, 3) := by decide +kernel
theorem dX6_old_11 : decode cX6_old 11 = .ok (.iconst (-1), 1) := by decide +kernel
theorem dX6_old_12 : decode cX6_old 12 = .ok (.ireturn, 1) := by decide +kernel
theorem dX6_old_13 : decode cX6_old 13 = .ok (.aload_n 0, 1) := by decide +kernel
theorem dX6_old_14 : decode cX6_old 14 = .ok (.getfield 10, 3) := by decide +kernel
theorem dX6_old_17 : decode cX6_old 17 = .ok (.getfield 100, 3) := by decide +kernel
theorem dX6_old_20 : decode cX6_old 20 = .ok (.istore_n 2, 1) := by decide +kernel
theorem dX6_old_21 : decode cX6_old 21 = .ok (.aload_n 0, 1) := by decide +kernel
theorem dX6_old_22 : decode cX6_old 22 = .ok (.getfield 10, 3) := by decide +kernel
theorem dX6_old_25 : decode cX6_old 25 = .ok (.iload_n 1, 1) := by decide +kernel
theorem dX6_old_26 : decode cX6_old 26 = .ok (.putfield 100, 3) := by decide +kernel
theorem dX6_old_29 : decode cX6_old 29 = .ok (.iload_n 2, 1) := by decide +kernel
theorem dX6_old_30 : decode cX6_old 30 = .ok (.ireturn, 1) := by decide +kernel
theorem dX6_near_0 : decode cX6_near 0 = .ok (.iload_n 1, 1) := by decide +kernel
theorem dX6_near_1 : decode cX6_near 1 = .ok (.bipush 9, 2) := by decide +kernel
theorem dX6_near_3 : decode cX6_near 3 = .ok (.invokestatic 55, 3) := by decide +kernel
theorem dX6_near_6 : decode cX6_near 6 = .ok (.ifCond .ne 5, 3) := by decide +kernel
theorem dX6_near_9 : decode cX6_near 9 = .ok (.iconst (-1), 1) := by decide +kernel
theorem dX6_near_10 : decode cX6_near 10 = .ok (.ireturn, 1) := by decide +kernel
theorem dX6_near_11 : decode cX6_near 11 = .ok (.aload_n 0, 1) := by decide +kernel
theorem dX6_near_12 : decode cX6_near 12 = .ok (.getfield 10, 3) := by decide +kernel
theorem dX6_near_15 : decode cX6_near 15 = .ok (.getfield 103, 3) := by decide +kernel
theorem dX6_near_18 : decode cX6_near 18 = .ok (.istore_n 2, 1) := by decide +kernel
theorem dX6_near_19 : decode cX6_near 19 = .ok (.aload_n 0, 1) := by decide +kernel
theorem dX6_near_20 : decode cX6_near 20 = .ok (.getfield 10, 3) := by decide +kernel
theorem dX6_near_23 : decode cX6_near 23 = .ok (.iload_n 1, 1) := by decide +kernel
theorem dX6_near_24 : decode cX6_near 24 = .ok (.putfield 103, 3) := by decide +kernel
theorem dX6_near_27 : decode cX6_near 27 = .ok (.iload_n 2, 1) := by decide +kernel
theorem dX6_near_28 : decode cX6_near 28 = .ok (.ireturn, 1) := by decide +kernel
theorem dX6_mend_0 : decode cX6_mend 0 = .ok (.aload_n 0, 1) := by decide +kernel
theorem dX6_mend_1 : decode cX6_mend 1 = .ok (.getfield 10, 3) := by decide +kernel
theorem dX6_mend_4 : decode cX6_mend 4 = .ok (.iload_n 2, 1) := by decide +kernel
theorem dX6_mend_5 : decode cX6_mend 5 = .ok (.iload_n 1, 1) := by decide +kernel
theorem dX6_mend_6 : decode cX6_mend 6 = .ok (.iload_n 3, 1) := by decide +kernel
theorem dX6_mend_7 : decode cX6_mend 7 = .ok (.invokevirtual 106, 3) := by decide +kernel
theorem dX6_mend_10 : decode cX6_mend 10 = .ok (.ifCond .ne 5, 3) := by decide +kernel
theorem dX6_mend_13 : decode cX6_mend 13 = .ok (.iconst (-1), 1) := by decide +kernel
theorem dX6_mend_14 : decode cX6_mend 14 = .ok (.ireturn, 1) := by decide +kernel
theorem dX6_mend_15 : decode cX6_mend 15 = .ok (.aload_n 0, 1) := by decide +kernel
theorem dX6_mend_16 : decode cX6_mend 16 = .ok (.getfield 10, 3) := by decide +kernel
theorem dX6_mend_19 : decode cX6_mend 19 = .ok (.iload_n 2, 1) := by decide +kernel
theorem dX6_mend_20 : decode cX6_mend 20 = .ok (.iload_n 1, 1) := by decide +kernel
theorem dX6_mend_21 : decode cX6_mend 21 = .ok (.iload_n 3, 1) := by decide +kernel
theorem dX6_mend_22 : decode cX6_mend 22 = .ok (.invokevirtual 110, 3) := by decide +kernel
theorem dX6_mend_25 : decode cX6_mend 25 = .ok (.istore 4, 2) := by decide +kernel
theorem dX6_mend_27 : decode cX6_mend 27 = .ok (.iload 4, 2) := by decide +kernel
theorem dX6_mend_29 : decode cX6_mend 29 = .ok (.iload_n 3, 1) := by decide +kernel
theorem dX6_mend_30 : decode cX6_mend 30 = .ok (.if_icmp .eq 15, 3) := by decide +kernel
theorem dX6_mend_33 : decode cX6_mend 33 = .ok (.aload_n 0, 1) := by decide +kernel
theorem dX6_mend_34 : decode cX6_mend 34 = .ok (.getfield 33, 3) := by decide +kernel
theorem dX6_mend_37 : decode cX6_mend 37 = .ok (.iload_n 2, 1) := by decide +kernel
theorem dX6_mend_38 : decode cX6_mend 38 = .ok (.iload_n 1, 1) := by decide +kernel
theorem dX6_mend_39 : decode cX6_mend 39 = .ok (.iload 4, 2) := by decide +kernel
theorem dX6_mend_41 : decode cX6_mend 41 = .ok (.iload_n 3, 1) := by decide +kernel
theorem dX6_mend_42 : decode cX6_mend 42 = .ok (.invokevirtual 114, 3) := by decide +kernel
theorem dX6_mend_45 : decode cX6_mend 45 = .ok (.iload 4, 2) := by decide +kernel
theorem dX6_mend_47 : decode cX6_mend 47 = .ok (.ireturn, 1) := by decide +kernel
theorem dX6_of_0 : decode cX6_of 0 = .ok (.iload_n 2, 1) := by decide +kernel
theorem dX6_of_1 : decode cX6_of 1 = .ok (.ifCond .lt 30, 3) := by decide +kernel
theorem dX6_of_4 : decode cX6_of 4 = .ok (.iload_n 2, 1) := by decide +kernel
theorem dX6_of_5 : decode cX6_of 5 = .ok (.iconst 3, 1) := by decide +kernel
theorem dX6_of_6 : decode cX6_of 6 = .ok (.if_icmp .gt 25, 3) := by decide +kernel
theorem dX6_of_9 : decode cX6_of 9 = .ok (.aload_n 0, 1) := by decide +kernel
theorem dX6_of_10 : decode cX6_of 10 = .ok (.getfield 10, 3) := by decide +kernel
theorem dX6_of_13 : decode cX6_of 13 = .ok (.iload_n 1, 1) := by decide +kernel
theorem dX6_of_14 : decode cX6_of 14 = .ok (.invokevirtual 118, 3) := by decide +kernel
theorem dX6_of_17 : decode cX6_of 17 = .ok (.ifCond .eq 12, 3) := by decide +kernel
theorem dX6_of_20 : decode cX6_of 20 = .ok (.aload_n 0, 1) := by decide +kernel
theorem dX6_of_21 : decode cX6_of 21 = .ok (.iload_n 1, 1) := by decide +kernel
theorem dX6_of_22 : decode cX6_of 22 = .ok (.iload_n 2, 1) := by decide +kernel
theorem dX6_of_23 : decode cX6_of 23 = .ok (.invokevirtual 121, 3) := by decide +kernel
theorem dX6_of_26 : decode cX6_of 26 = .ok (.goto 4, 3) := by decide +kernel
theorem dX6_of_29 : decode cX6_of 29 = .ok (.iconst (-1), 1) := by decide +kernel
theorem dX6_of_30 : decode cX6_of 30 = .ok (.ireturn, 1) := by decide +kernel
theorem dX6_of_31 : decode cX6_of 31 = .ok (.iload_n 2, 1) := by decide +kernel
theorem dX6_of_32 : decode cX6_of 32 = .ok (.bipush 10, 2) := by decide +kernel
theorem dX6_of_34 : decode cX6_of 34 = .ok (.if_icmp .ne 32, 3) := by decide +kernel
theorem dX6_of_37 : decode cX6_of 37 = .ok (.iload_n 1, 1) := by decide +kernel
theorem dX6_of_38 : decode cX6_of 38 = .ok (.ifCond .lt 26, 3) := by decide +kernel
theorem dX6_of_41 : decode cX6_of 41 = .ok (.iload_n 1, 1) := by decide +kernel
theorem dX6_of_42 : decode cX6_of 42 = .ok (.aload_n 0, 1) := by decide +kernel
theorem dX6_of_43 : decode cX6_of 43 = .ok (.getfield 10, 3) := by decide +kernel
theorem dX6_of_46 : decode cX6_of 46 = .ok (.getfield 70, 3) := by decide +kernel
theorem dX6_of_49 : decode cX6_of 49 = .ok (.if_icmp .ge 15, 3) := by decide +kernel
theorem dX6_of_52 : decode cX6_of 52 = .ok (.aload_n 0, 1) := by decide +kernel
theorem dX6_of_53 : decode cX6_of 53 = .ok (.getfield 10, 3) := by decide +kernel
theorem dX6_of_56 : decode cX6_of 56 = .ok (.getfield 124, 3) := by decide +kernel
theorem dX6_of_59 : decode cX6_of 59 = .ok (.iload_n 1, 1) := by decide +kernel
theorem dX6_of_60 : decode cX6_of 60 = .ok (.iaload, 1) := by decide +kernel
theorem dX6_of_61 : decode cX6_of 61 = .ok (.goto 4, 3) := by decide +kernel
theorem dX6_of_64 : decode cX6_of 64 = .ok (.iconst (-1), 1) := by decide +kernel
theorem dX6_of_65 : decode cX6_of 65 = .ok (.ireturn, 1) := by decide +kernel
theorem dX6_of_66 : decode cX6_of 66 = .ok (.iload_n 2, 1) := by decide +kernel
theorem dX6_of_67 : decode cX6_of 67 = .ok (.bipush 20, 2) := by decide +kernel
theorem dX6_of_69 : decode cX6_of 69 = .ok (.if_icmp .eq 9, 3) := by decide +kernel
theorem dX6_of_72 : decode cX6_of 72 = .ok (.iload_n 2, 1) := by decide +kernel
theorem dX6_of_73 : decode cX6_of 73 = .ok (.bipush 21, 2) := by decide +kernel
theorem dX6_of_75 : decode cX6_of 75 = .ok (.if_icmp .ne 42, 3) := by decide +kernel
theorem dX6_of_78 : decode cX6_of 78 = .ok (.aload_n 0, 1) := by decide +kernel
theorem dX6_of_79 : decode cX6_of 79 = .ok (.getfield 10, 3) := by decide +kernel
theorem dX6_of_82 : decode cX6_of 82 = .ok (.iload_n 1, 1) := by decide +kernel
theorem dX6_of_83 : decode cX6_of 83 = .ok (.invokevirtual 128, 3) := by decide +kernel
theorem dX6_of_86 : decode cX6_of 86 = .ok (.ifCond .eq 31, 3) := by decide +kernel
theorem dX6_of_89 : decode cX6_of 89 = .ok (.iload_n 2, 1) := by decide +kernel
theorem dX6_of_90 : decode cX6_of 90 = .ok (.bipush 20, 2) := by decide +kernel
theorem dX6_of_92 : decode cX6_of 92 = .ok (.if_icmp .ne 15, 3) := by decide +kernel
theorem dX6_of_95 : decode cX6_of 95 = .ok (.aload_n 0, 1) := by decide +kernel
theorem dX6_of_96 : decode cX6_of 96 = .ok (.getfield 10, 3) := by decide +kernel
theorem dX6_of_99 : decode cX6_of 99 = .ok (.getfield 131, 3) := by decide +kernel
theorem dX6_of_102 : decode cX6_of 102 = .ok (.iload_n 1, 1) := by decide +kernel
theorem dX6_of_103 : decode cX6_of 103 = .ok (.iaload, 1) := by decide +kernel
theorem dX6_of_104 : decode cX6_of 104 = .ok (.goto 12, 3) := by decide +kernel
theorem dX6_of_107 : decode cX6_of 107 = .ok (.aload_n 0, 1) := by decide +kernel
theorem dX6_of_108 : decode cX6_of 108 = .ok (.getfield 10, 3) := by decide +kernel
theorem dX6_of_111 : decode cX6_of 111 = .ok (.getfield 134, 3) := by decide +kernel
theorem dX6_of_114 : decode cX6_of 114 = .ok (.iload_n 1, 1) := by decide +kernel
theorem dX6_of_115 : decode cX6_of 115 = .ok (.iaload, 1) := by decide +kernel
theorem dX6_of_116 : decode cX6_of 116 = .ok (.ireturn, 1) := by decide +kernel
theorem dX6_of_117 : decode cX6_of 117 = .ok (.iconst (-1), 1) := by decide +kernel
theorem dX6_of_118 : decode cX6_of 118 = .ok (.ireturn, 1) := by decide +kernel
theorem dX6_feed_0 : decode cX6_feed 0 = .ok (.iload_n 1, 1) := by decide +kernel
theorem dX6_feed_1 : decode cX6_feed 1 = .ok (.sipush 255, 3) := by decide +kernel
theorem dX6_feed_4 : decode cX6_feed 4 = .ok (.invokestatic 55, 3) := by decide +kernel
theorem dX6_feed_7 : decode cX6_feed 7 = .ok (.ifCond .ne 5, 3) := by decide +kernel
theorem dX6_feed_10 : decode cX6_feed 10 = .ok (.iconst (-1), 1) := by decide +kernel
theorem dX6_feed_11 : decode cX6_feed 11 = .ok (.ireturn, 1) := by decide +kernel
theorem dX6_feed_12 : decode cX6_feed 12 = .ok (.aload_n 0, 1) := by decide +kernel
theorem dX6_feed_13 : decode cX6_feed 13 = .ok (.getfield 19, 3) := by decide +kernel
theorem dX6_feed_16 : decode cX6_feed 16 = .ok (.getfield 137, 3) := by decide +kernel
theorem dX6_feed_19 : decode cX6_feed 19 = .ok (.bipush 120, 2) := by decide +kernel
theorem dX6_feed_21 : decode cX6_feed 21 = .ok (.if_icmp .lt 8, 3) := by decide +kernel
theorem dX6_feed_24 : decode cX6_feed 24 = .ok (.bipush (-3), 2) := by decide +kernel
theorem dX6_feed_26 : decode cX6_feed 26 = .ok (.goto 11, 3) := by decide +kernel
theorem dX6_feed_29 : decode cX6_feed 29 = .ok (.aload_n 0, 1) := by decide +kernel
theorem dX6_feed_30 : decode cX6_feed 30 = .ok (.getfield 19, 3) := by decide +kernel
theorem dX6_feed_33 : decode cX6_feed 33 = .ok (.iload_n 1, 1) := by decide +kernel
theorem dX6_feed_34 : decode cX6_feed 34 = .ok (.invokevirtual 140, 3) := by decide +kernel
theorem dX6_feed_37 : decode cX6_feed 37 = .ok (.ireturn, 1) := by decide +kernel
theorem dX6_law_0 : decode cX6_law 0 = .ok (.aload_n 0, 1) := by decide +kernel
theorem dX6_law_1 : decode cX6_law 1 = .ok (.getfield 19, 3) := by decide +kernel
theorem dX6_law_4 : decode cX6_law 4 = .ok (.invokevirtual 143, 3) := by decide +kernel
theorem dX6_law_7 : decode cX6_law 7 = .ok (.istore_n 1, 1) := by decide +kernel
theorem dX6_law_8 : decode cX6_law 8 = .ok (.iload_n 1, 1) := by decide +kernel
theorem dX6_law_9 : decode cX6_law 9 = .ok (.ifCond .ge 7, 3) := by decide +kernel
theorem dX6_law_12 : decode cX6_law 12 = .ok (.iconst 1, 1) := by decide +kernel
theorem dX6_law_13 : decode cX6_law 13 = .ok (.goto 7, 3) := by decide +kernel
theorem dX6_law_16 : decode cX6_law 16 = .ok (.bipush (-100), 2) := by decide +kernel
theorem dX6_law_18 : decode cX6_law 18 = .ok (.iload_n 1, 1) := by decide +kernel
theorem dX6_law_19 : decode cX6_law 19 = .ok (.isub, 1) := by decide +kernel
theorem dX6_law_20 : decode cX6_law 20 = .ok (.ireturn, 1) := by decide +kernel
theorem dX6_far_0 : decode cX6_far 0 = .ok (.iload_n 1, 1) := by decide +kernel
theorem dX6_far_1 : decode cX6_far 1 = .ok (.ifCond .lt 31, 3) := by decide +kernel
theorem dX6_far_4 : decode cX6_far 4 = .ok (.aload_n 0, 1) := by decide +kernel
theorem dX6_far_5 : decode cX6_far 5 = .ok (.getfield 10, 3) := by decide +kernel
theorem dX6_far_8 : decode cX6_far 8 = .ok (.iload_n 1, 1) := by decide +kernel
theorem dX6_far_9 : decode cX6_far 9 = .ok (.bipush 100, 2) := by decide +kernel
theorem dX6_far_11 : decode cX6_far 11 = .ok (.idiv, 1) := by decide +kernel
theorem dX6_far_12 : decode cX6_far 12 = .ok (.invokevirtual 118, 3) := by decide +kernel
theorem dX6_far_15 : decode cX6_far 15 = .ok (.ifCond .eq 17, 3) := by decide +kernel
theorem dX6_far_18 : decode cX6_far 18 = .ok (.aload_n 0, 1) := by decide +kernel
theorem dX6_far_19 : decode cX6_far 19 = .ok (.getfield 10, 3) := by decide +kernel
theorem dX6_far_22 : decode cX6_far 22 = .ok (.iload_n 1, 1) := by decide +kernel
theorem dX6_far_23 : decode cX6_far 23 = .ok (.bipush 100, 2) := by decide +kernel
theorem dX6_far_25 : decode cX6_far 25 = .ok (.irem, 1) := by decide +kernel
theorem dX6_far_26 : decode cX6_far 26 = .ok (.invokevirtual 118, 3) := by decide +kernel
theorem dX6_far_29 : decode cX6_far 29 = .ok (.ifCond .ne 5, 3) := by decide +kernel
theorem dX6_far_32 : decode cX6_far 32 = .ok (.iconst (-1), 1) := by decide +kernel
theorem dX6_far_33 : decode cX6_far 33 = .ok (.ireturn, 1) := by decide +kernel
theorem dX6_far_34 : decode cX6_far 34 = .ok (.aload_n 0, 1) := by decide +kernel
theorem dX6_far_35 : decode cX6_far 35 = .ok (.invokevirtual 147, 3) := by decide +kernel
theorem dX6_far_38 : decode cX6_far 38 = .ok (.aload_n 0, 1) := by decide +kernel
theorem dX6_far_39 : decode cX6_far 39 = .ok (.getfield 26, 3) := by decide +kernel
theorem dX6_far_42 : decode cX6_far 42 = .ok (.getfield 150, 3) := by decide +kernel
theorem dX6_far_45 : decode cX6_far 45 = .ok (.iload_n 1, 1) := by decide +kernel
theorem dX6_far_46 : decode cX6_far 46 = .ok (.bipush 100, 2) := by decide +kernel
theorem dX6_far_48 : decode cX6_far 48 = .ok (.idiv, 1) := by decide +kernel
theorem dX6_far_49 : decode cX6_far 49 = .ok (.aaload, 1) := by decide +kernel
theorem dX6_far_50 : decode cX6_far 50 = .ok (.iload_n 1, 1) := by decide +kernel
theorem dX6_far_51 : decode cX6_far 51 = .ok (.bipush 100, 2) := by decide +kernel
theorem dX6_far_53 : decode cX6_far 53 = .ok (.irem, 1) := by decide +kernel
theorem dX6_far_54 : decode cX6_far 54 = .ok (.iaload, 1) := by decide +kernel
theorem dX6_far_55 : decode cX6_far 55 = .ok (.ireturn, 1) := by decide +kernel
theorem dX6_judge_0 : decode cX6_judge 0 = .ok (.aload_n 0, 1) := by decide +kernel
theorem dX6_judge_1 : decode cX6_judge 1 = .ok (.getfield 10, 3) := by decide +kernel
theorem dX6_judge_4 : decode cX6_judge 4 = .ok (.iload_n 1, 1) := by decide +kernel
theorem dX6_judge_5 : decode cX6_judge 5 = .ok (.invokevirtual 97, 3) := by decide +kernel
theorem dX6_judge_8 : decode cX6_judge 8 = .ok (.ifCond .ne 5, 3) := by decide +kernel
theorem dX6_judge_11 : decode cX6_judge 11 = .ok (.iconst (-1), 1) := by decide +kernel
theorem dX6_judge_12 : decode cX6_judge 12 = .ok (.ireturn, 1) := by decide +kernel
theorem dX6_judge_13 : decode cX6_judge 13 = .ok (.aload_n 0, 1) := by decide +kernel
theorem dX6_judge_14 : decode cX6_judge 14 = .ok (.invokevirtual 147, 3) := by decide +kernel
theorem dX6_judge_17 : decode cX6_judge 17 = .ok (.aload_n 0, 1) := by decide +kernel
theorem dX6_judge_18 : decode cX6_judge 18 = .ok (.getfield 26, 3) := by decide +kernel
theorem dX6_judge_21 : decode cX6_judge 21 = .ok (.iload_n 1, 1) := by decide +kernel
theorem dX6_judge_22 : decode cX6_judge 22 = .ok (.invokevirtual 154, 3) := by decide +kernel
theorem dX6_judge_25 : decode cX6_judge 25 = .ok (.ireturn, 1) := by decide +kernel
theorem dX6_best_0 : decode cX6_best 0 = .ok (.iload_n 1, 1) := by decide +kernel
theorem dX6_best_1 : decode cX6_best 1 = .ok (.ifCond .eq 15, 3) := by decide +kernel
theorem dX6_best_4 : decode cX6_best 4 = .ok (.iload_n 1, 1) := by decide +kernel
theorem dX6_best_5 : decode cX6_best 5 = .ok (.iconst 1, 1) := by decide +kernel
theorem dX6_best_6 : decode cX6_best 6 = .ok (.if_icmp .eq 10, 3) := by decide +kernel
theorem dX6_best_9 : decode cX6_best 9 = .ok (.iload_n 1, 1) := by decide +kernel
theorem dX6_best_10 : decode cX6_best 10 = .ok (.iconst 2, 1) := by decide +kernel
theorem dX6_best_11 : decode cX6_best 11 = .ok (.if_icmp .eq 5, 3) := by decide +kernel
theorem dX6_best_14 : decode cX6_best 14 = .ok (.iconst (-1), 1) := by decide +kernel
theorem dX6_best_15 : decode cX6_best 15 = .ok (.ireturn, 1) := by decide +kernel
theorem dX6_best_16 : decode cX6_best 16 = .ok (.aload_n 0, 1) := by decide +kernel
theorem dX6_best_17 : decode cX6_best 17 = .ok (.invokevirtual 147, 3) := by decide +kernel
theorem dX6_best_20 : decode cX6_best 20 = .ok (.aload_n 0, 1) := by decide +kernel
theorem dX6_best_21 : decode cX6_best 21 = .ok (.getfield 26, 3) := by decide +kernel
theorem dX6_best_24 : decode cX6_best 24 = .ok (.aload_n 0, 1) := by decide +kernel
theorem dX6_best_25 : decode cX6_best 25 = .ok (.getfield 10, 3) := by decide +kernel
theorem dX6_best_28 : decode cX6_best 28 = .ok (.iload_n 1, 1) := by decide +kernel
theorem dX6_best_29 : decode cX6_best 29 = .ok (.iconst 0, 1) := by decide +kernel
theorem dX6_best_30 : decode cX6_best 30 = .ok (.invokevirtual 157, 3) := by decide +kernel
theorem dX6_best_33 : decode cX6_best 33 = .ok (.ireturn, 1) := by decide +kernel
theorem dX6_all_0 : decode cX6_all 0 = .ok (.iload_n 1, 1) := by decide +kernel
theorem dX6_all_1 : decode cX6_all 1 = .ok (.iconst 2, 1) := by decide +kernel
theorem dX6_all_2 : decode cX6_all 2 = .ok (.invokestatic 55, 3) := by decide +kernel
theorem dX6_all_5 : decode cX6_all 5 = .ok (.ifCond .ne 5, 3) := by decide +kernel
theorem dX6_all_8 : decode cX6_all 8 = .ok (.iconst (-1), 1) := by decide +kernel
theorem dX6_all_9 : decode cX6_all 9 = .ok (.ireturn, 1) := by decide +kernel
theorem dX6_all_10 : decode cX6_all 10 = .ok (.aload_n 0, 1) := by decide +kernel
theorem dX6_all_11 : decode cX6_all 11 = .ok (.invokevirtual 147, 3) := by decide +kernel
theorem dX6_all_14 : decode cX6_all 14 = .ok (.iconst 0, 1) := by decide +kernel
theorem dX6_all_15 : decode cX6_all 15 = .ok (.istore_n 2, 1) := by decide +kernel
theorem dX6_all_16 : decode cX6_all 16 = .ok (.aload_n 0, 1) := by decide +kernel
theorem dX6_all_17 : decode cX6_all 17 = .ok (.getfield 26, 3) := by decide +kernel
theorem dX6_all_20 : decode cX6_all 20 = .ok (.getfield 161, 3) := by decide +kernel
theorem dX6_all_23 : decode cX6_all 23 = .ok (.istore_n 3, 1) := by decide +kernel
theorem dX6_all_24 : decode cX6_all 24 = .ok (.iconst 0, 1) := by decide +kernel
theorem dX6_all_25 : decode cX6_all 25 = .ok (.istore 4, 2) := by decide +kernel
theorem dX6_all_27 : decode cX6_all 27 = .ok (.iconst 0, 1) := by decide +kernel
theorem dX6_all_28 : decode cX6_all 28 = .ok (.istore 5, 2) := by decide +kernel
theorem dX6_all_30 : decode cX6_all 30 = .ok (.iload 5, 2) := by decide +kernel
theorem dX6_all_32 : decode cX6_all 32 = .ok (.aload_n 0, 1) := by decide +kernel
theorem dX6_all_33 : decode cX6_all 33 = .ok (.getfield 26, 3) := by decide +kernel
theorem dX6_all_36 : decode cX6_all 36 = .ok (.getfield 161, 3) := by decide +kernel
theorem dX6_all_39 : decode cX6_all 39 = .ok (.if_icmp .gt 36, 3) := by decide +kernel
theorem dX6_all_42 : decode cX6_all 42 = .ok (.aload_n 0, 1) := by decide +kernel
theorem dX6_all_43 : decode cX6_all 43 = .ok (.getfield 26, 3) := by decide +kernel
theorem dX6_all_46 : decode cX6_all 46 = .ok (.iload 5, 2) := by decide +kernel
theorem dX6_all_48 : decode cX6_all 48 = .ok (.invokevirtual 164, 3) := by decide +kernel
theorem dX6_all_51 : decode cX6_all 51 = .ok (.ifCond .eq 18, 3) := by decide +kernel
theorem dX6_all_54 : decode cX6_all 54 = .ok (.iinc 2 1, 3) := by decide +kernel
theorem dX6_all_57 : decode cX6_all 57 = .ok (.iload_n 3, 1) := by decide +kernel
theorem dX6_all_58 : decode cX6_all 58 = .ok (.iload 5, 2) := by decide +kernel
theorem dX6_all_60 : decode cX6_all 60 = .ok (.iand, 1) := by decide +kernel
theorem dX6_all_61 : decode cX6_all 61 = .ok (.istore_n 3, 1) := by decide +kernel
theorem dX6_all_62 : decode cX6_all 62 = .ok (.iload 4, 2) := by decide +kernel
theorem dX6_all_64 : decode cX6_all 64 = .ok (.iload 5, 2) := by decide +kernel
theorem dX6_all_66 : decode cX6_all 66 = .ok (.ior, 1) := by decide +kernel
theorem dX6_all_67 : decode cX6_all 67 = .ok (.istore 4, 2) := by decide +kernel
theorem dX6_all_69 : decode cX6_all 69 = .ok (.iinc 5 1, 3) := by decide +kernel
theorem dX6_all_72 : decode cX6_all 72 = .ok (.goto (-42), 3) := by decide +kernel
theorem dX6_all_75 : decode cX6_all 75 = .ok (.iload_n 1, 1) := by decide +kernel
theorem dX6_all_76 : decode cX6_all 76 = .ok (.ifCond .ne 5, 3) := by decide +kernel
theorem dX6_all_79 : decode cX6_all 79 = .ok (.iload_n 2, 1) := by decide +kernel
theorem dX6_all_80 : decode cX6_all 80 = .ok (.ireturn, 1) := by decide +kernel
theorem dX6_all_81 : decode cX6_all 81 = .ok (.iload_n 2, 1) := by decide +kernel
theorem dX6_all_82 : decode cX6_all 82 = .ok (.ifCond .ne 6, 3) := by decide +kernel
theorem dX6_all_85 : decode cX6_all 85 = .ok (.bipush (-2), 2) := by decide +kernel
theorem dX6_all_87 : decode cX6_all 87 = .ok (.ireturn, 1) := by decide +kernel
theorem dX6_all_88 : decode cX6_all 88 = .ok (.iload_n 1, 1) := by decide +kernel
theorem dX6_all_89 : decode cX6_all 89 = .ok (.iconst 1, 1) := by decide +kernel
theorem dX6_all_90 : decode cX6_all 90 = .ok (.if_icmp .ne 7, 3) := by decide +kernel
theorem dX6_all_93 : decode cX6_all 93 = .ok (.iload_n 3, 1) := by decide +kernel
theorem dX6_all_94 : decode cX6_all 94 = .ok (.goto 15, 3) := by decide +kernel
theorem dX6_all_97 : decode cX6_all 97 = .ok (.aload_n 0, 1) := by decide +kernel
theorem dX6_all_98 : decode cX6_all 98 = .ok (.getfield 26, 3) := by decide +kernel
theorem dX6_all_101 : decode cX6_all 101 = .ok (.getfield 161, 3) := by decide +kernel
theorem dX6_all_104 : decode cX6_all 104 = .ok (.iload 4, 2) := by decide +kernel
theorem dX6_all_106 : decode cX6_all 106 = .ok (.iconst (-1), 1) := by decide +kernel
theorem dX6_all_107 : decode cX6_all 107 = .ok (.ixor, 1) := by decide +kernel
theorem dX6_all_108 : decode cX6_all 108 = .ok (.iand, 1) := by decide +kernel
theorem dX6_all_109 : decode cX6_all 109 = .ok (.ireturn, 1) := by decide +kernel
theorem dX6_even_0 : decode cX6_even 0 = .ok (.aload_n 0, 1) := by decide +kernel
theorem dX6_even_1 : decode cX6_even 1 = .ok (.invokevirtual 147, 3) := by decide +kernel
theorem dX6_even_4 : decode cX6_even 4 = .ok (.iconst 0, 1) := by decide +kernel
theorem dX6_even_5 : decode cX6_even 5 = .ok (.istore_n 1, 1) := by decide +kernel
theorem dX6_even_6 : decode cX6_even 6 = .ok (.iload_n 1, 1) := by decide +kernel
theorem dX6_even_7 : decode cX6_even 7 = .ok (.aload_n 0, 1) := by decide +kernel
theorem dX6_even_8 : decode cX6_even 8 = .ok (.getfield 26, 3) := by decide +kernel
theorem dX6_even_11 : decode cX6_even 11 = .ok (.getfield 161, 3) := by decide +kernel
theorem dX6_even_14 : decode cX6_even 14 = .ok (.if_icmp .gt 33, 3) := by decide +kernel
theorem dX6_even_17 : decode cX6_even 17 = .ok (.aload_n 0, 1) := by decide +kernel
theorem dX6_even_18 : decode cX6_even 18 = .ok (.getfield 26, 3) := by decide +kernel
theorem dX6_even_21 : decode cX6_even 21 = .ok (.iload_n 1, 1) := by decide +kernel
theorem dX6_even_22 : decode cX6_even 22 = .ok (.invokevirtual 164, 3) := by decide +kernel
theorem dX6_even_25 : decode cX6_even 25 = .ok (.ifCond .eq 16, 3) := by decide +kernel
theorem dX6_even_28 : decode cX6_even 28 = .ok (.aload_n 0, 1) := by decide +kernel
theorem dX6_even_29 : decode cX6_even 29 = .ok (.getfield 26, 3) := by decide +kernel
theorem dX6_even_32 : decode cX6_even 32 = .ok (.iload_n 1, 1) := by decide +kernel
theorem dX6_even_33 : decode cX6_even 33 = .ok (.invokevirtual 167, 3) := by decide +kernel
theorem dX6_even_36 : decode cX6_even 36 = .ok (.ifCond .eq 5, 3) := by decide +kernel
theorem dX6_even_39 : decode cX6_even 39 = .ok (.iload_n 1, 1) := by decide +kernel
theorem dX6_even_40 : decode cX6_even 40 = .ok (.ireturn, 1) := by decide +kernel
theorem dX6_even_41 : decode cX6_even 41 = .ok (.iinc 1 1, 3) := by decide +kernel
theorem dX6_even_44 : decode cX6_even 44 = .ok (.goto (-38), 3) := by decide +kernel
theorem dX6_even_47 : decode cX6_even 47 = .ok (.bipush (-2), 2) := by decide +kernel
theorem dX6_even_49 : decode cX6_even 49 = .ok (.ireturn, 1) := by decide +kernel
theorem dX6_greedy_0 : decode cX6_greedy 0 = .ok (.iload_n 1, 1) := by decide +kernel
theorem dX6_greedy_1 : decode cX6_greedy 1 = .ok (.iconst 1, 1) := by decide +kernel
theorem dX6_greedy_2 : decode cX6_greedy 2 = .ok (.invokestatic 55, 3) := by decide +kernel
theorem dX6_greedy_5 : decode cX6_greedy 5 = .ok (.ifCond .ne 5, 3) := by decide +kernel
theorem dX6_greedy_8 : decode cX6_greedy 8 = .ok (.iconst (-1), 1) := by decide +kernel
theorem dX6_greedy_9 : decode cX6_greedy 9 = .ok (.ireturn, 1) := by decide +kernel
theorem dX6_greedy_10 : decode cX6_greedy 10 = .ok (.aload_n 0, 1) := by decide +kernel
theorem dX6_greedy_11 : decode cX6_greedy 11 = .ok (.invokevirtual 147, 3) := by decide +kernel
theorem dX6_greedy_14 : decode cX6_greedy 14 = .ok (.aload_n 0, 1) := by decide +kernel
theorem dX6_greedy_15 : decode cX6_greedy 15 = .ok (.getfield 10, 3) := by decide +kernel
theorem dX6_greedy_18 : decode cX6_greedy 18 = .ok (.getfield 100, 3) := by decide +kernel
theorem dX6_greedy_21 : decode cX6_greedy 21 = .ok (.istore_n 2, 1) := by decide +kernel
theorem dX6_greedy_22 : decode cX6_greedy 22 = .ok (.bipush (-2), 2) := by decide +kernel
theorem dX6_greedy_24 : decode cX6_greedy 24 = .ok (.istore_n 3, 1) := by decide +kernel
theorem dX6_greedy_25 : decode cX6_greedy 25 = .ok (.iconst 0, 1) := by decide +kernel
theorem dX6_greedy_26 : decode cX6_greedy 26 = .ok (.istore 4, 2) := by decide +kernel
theorem dX6_greedy_28 : decode cX6_greedy 28 = .ok (.iload 4, 2) := by decide +kernel
theorem dX6_greedy_30 : decode cX6_greedy 30 = .ok (.aload_n 0, 1) := by decide +kernel
theorem dX6_greedy_31 : decode cX6_greedy 31 = .ok (.getfield 10, 3) := by decide +kernel
theorem dX6_greedy_34 : decode cX6_greedy 34 = .ok (.getfield 59, 3) := by decide +kernel
theorem dX6_greedy_37 : decode cX6_greedy 37 = .ok (.if_icmp .ge 70, 3) := by decide +kernel
theorem dX6_greedy_40 : decode cX6_greedy 40 = .ok (.aload_n 0, 1) := by decide +kernel
theorem dX6_greedy_41 : decode cX6_greedy 41 = .ok (.getfield 26, 3) := by decide +kernel
theorem dX6_greedy_44 : decode cX6_greedy 44 = .ok (.iload 4, 2) := by decide +kernel
theorem dX6_greedy_46 : decode cX6_greedy 46 = .ok (.iload_n 2, 1) := by decide +kernel
theorem dX6_greedy_47 : decode cX6_greedy 47 = .ok (.invokevirtual 170, 3) := by decide +kernel
theorem dX6_greedy_50 : decode cX6_greedy 50 = .ok (.ifCond .eq 6, 3) := by decide +kernel
theorem dX6_greedy_53 : decode cX6_greedy 53 = .ok (.goto 48, 3) := by decide +kernel
theorem dX6_greedy_56 : decode cX6_greedy 56 = .ok (.aload_n 0, 1) := by decide +kernel
theorem dX6_greedy_57 : decode cX6_greedy 57 = .ok (.getfield 10, 3) := by decide +kernel
theorem dX6_greedy_60 : decode cX6_greedy 60 = .ok (.getfield 173, 3) := by decide +kernel
theorem dX6_greedy_63 : decode cX6_greedy 63 = .ok (.iload 4, 2) := by decide +kernel
theorem dX6_greedy_65 : decode cX6_greedy 65 = .ok (.iaload, 1) := by decide +kernel
theorem dX6_greedy_66 : decode cX6_greedy 66 = .ok (.ifCond .le 26, 3) := by decide +kernel
theorem dX6_greedy_69 : decode cX6_greedy 69 = .ok (.aload_n 0, 1) := by decide +kernel
theorem dX6_greedy_70 : decode cX6_greedy 70 = .ok (.getfield 26, 3) := by decide +kernel
theorem dX6_greedy_73 : decode cX6_greedy 73 = .ok (.iload 4, 2) := by decide +kernel
theorem dX6_greedy_75 : decode cX6_greedy 75 = .ok (.iload_n 2, 1) := by decide +kernel
theorem dX6_greedy_76 : decode cX6_greedy 76 = .ok (.invokevirtual 176, 3) := by decide +kernel
theorem dX6_greedy_79 : decode cX6_greedy 79 = .ok (.ifCond .eq 13, 3) := by decide +kernel
theorem dX6_greedy_82 : decode cX6_greedy 82 = .ok (.iload_n 2, 1) := by decide +kernel
theorem dX6_greedy_83 : decode cX6_greedy 83 = .ok (.iconst 1, 1) := by decide +kernel
theorem dX6_greedy_84 : decode cX6_greedy 84 = .ok (.iload 4, 2) := by decide +kernel
theorem dX6_greedy_86 : decode cX6_greedy 86 = .ok (.ishl, 1) := by decide +kernel
theorem dX6_greedy_87 : decode cX6_greedy 87 = .ok (.ior, 1) := by decide +kernel
theorem dX6_greedy_88 : decode cX6_greedy 88 = .ok (.istore_n 2, 1) := by decide +kernel
theorem dX6_greedy_89 : decode cX6_greedy 89 = .ok (.goto 12, 3) := by decide +kernel
theorem dX6_greedy_92 : decode cX6_greedy 92 = .ok (.iload_n 3, 1) := by decide +kernel
theorem dX6_greedy_93 : decode cX6_greedy 93 = .ok (.bipush (-2), 2) := by decide +kernel
theorem dX6_greedy_95 : decode cX6_greedy 95 = .ok (.if_icmp .ne 6, 3) := by decide +kernel
theorem dX6_greedy_98 : decode cX6_greedy 98 = .ok (.iload 4, 2) := by decide +kernel
theorem dX6_greedy_100 : decode cX6_greedy 100 = .ok (.istore_n 3, 1) := by decide +kernel
theorem dX6_greedy_101 : decode cX6_greedy 101 = .ok (.iinc 4 1, 3) := by decide +kernel
theorem dX6_greedy_104 : decode cX6_greedy 104 = .ok (.goto (-76), 3) := by decide +kernel
theorem dX6_greedy_107 : decode cX6_greedy 107 = .ok (.iload_n 1, 1) := by decide +kernel
theorem dX6_greedy_108 : decode cX6_greedy 108 = .ok (.ifCond .ne 7, 3) := by decide +kernel
theorem dX6_greedy_111 : decode cX6_greedy 111 = .ok (.iload_n 2, 1) := by decide +kernel
theorem dX6_greedy_112 : decode cX6_greedy 112 = .ok (.goto 4, 3) := by decide +kernel
theorem dX6_greedy_115 : decode cX6_greedy 115 = .ok (.iload_n 3, 1) := by decide +kernel
theorem dX6_greedy_116 : decode cX6_greedy 116 = .ok (.ireturn, 1) := by decide +kernel
theorem dX6_dry_0 : decode cX6_dry 0 = .ok (.aload_n 0, 1) := by decide +kernel
theorem dX6_dry_1 : decode cX6_dry 1 = .ok (.iload_n 1, 1) := by decide +kernel
theorem dX6_dry_2 : decode cX6_dry 2 = .ok (.iload_n 2, 1) := by decide +kernel
theorem dX6_dry_3 : decode cX6_dry 3 = .ok (.invokevirtual 179, 3) := by decide +kernel
theorem dX6_dry_6 : decode cX6_dry 6 = .ok (.ifCond .eq 11, 3) := by decide +kernel
theorem dX6_dry_9 : decode cX6_dry 9 = .ok (.iload_n 3, 1) := by decide +kernel
theorem dX6_dry_10 : decode cX6_dry 10 = .ok (.iconst 1, 1) := by decide +kernel
theorem dX6_dry_11 : decode cX6_dry 11 = .ok (.invokestatic 55, 3) := by decide +kernel
theorem dX6_dry_14 : decode cX6_dry 14 = .ok (.ifCond .ne 5, 3) := by decide +kernel
theorem dX6_dry_17 : decode cX6_dry 17 = .ok (.iconst (-1), 1) := by decide +kernel
theorem dX6_dry_18 : decode cX6_dry 18 = .ok (.ireturn, 1) := by decide +kernel
theorem dX6_dry_19 : decode cX6_dry 19 = .ok (.aload_n 0, 1) := by decide +kernel
theorem dX6_dry_20 : decode cX6_dry 20 = .ok (.invokevirtual 147, 3) := by decide +kernel
theorem dX6_dry_23 : decode cX6_dry 23 = .ok (.aload_n 0, 1) := by decide +kernel
theorem dX6_dry_24 : decode cX6_dry 24 = .ok (.getfield 26, 3) := by decide +kernel
theorem dX6_dry_27 : decode cX6_dry 27 = .ok (.iload_n 1, 1) := by decide +kernel
theorem dX6_dry_28 : decode cX6_dry 28 = .ok (.invokevirtual 164, 3) := by decide +kernel
theorem dX6_dry_31 : decode cX6_dry 31 = .ok (.ifCond .ne 6, 3) := by decide +kernel
theorem dX6_dry_34 : decode cX6_dry 34 = .ok (.bipush (-5), 2) := by decide +kernel
theorem dX6_dry_36 : decode cX6_dry 36 = .ok (.ireturn, 1) := by decide +kernel
theorem dX6_dry_37 : decode cX6_dry 37 = .ok (.iload_n 1, 1) := by decide +kernel
theorem dX6_dry_38 : decode cX6_dry 38 = .ok (.iconst 1, 1) := by decide +kernel
theorem dX6_dry_39 : decode cX6_dry 39 = .ok (.iload_n 2, 1) := by decide +kernel
theorem dX6_dry_40 : decode cX6_dry 40 = .ok (.ishl, 1) := by decide +kernel
theorem dX6_dry_41 : decode cX6_dry 41 = .ok (.iconst (-1), 1) := by decide +kernel
theorem dX6_dry_42 : decode cX6_dry 42 = .ok (.ixor, 1) := by decide +kernel
theorem dX6_dry_43 : decode cX6_dry 43 = .ok (.iand, 1) := by decide +kernel
theorem dX6_dry_44 : decode cX6_dry 44 = .ok (.istore 4, 2) := by decide +kernel
theorem dX6_dry_46 : decode cX6_dry 46 = .ok (.aload_n 0, 1) := by decide +kernel
theorem dX6_dry_47 : decode cX6_dry 47 = .ok (.getfield 26, 3) := by decide +kernel
theorem dX6_dry_50 : decode cX6_dry 50 = .ok (.aload_n 0, 1) := by decide +kernel
theorem dX6_dry_51 : decode cX6_dry 51 = .ok (.getfield 10, 3) := by decide +kernel
theorem dX6_dry_54 : decode cX6_dry 54 = .ok (.aload_n 0, 1) := by decide +kernel
theorem dX6_dry_55 : decode cX6_dry 55 = .ok (.getfield 19, 3) := by decide +kernel
theorem dX6_dry_58 : decode cX6_dry 58 = .ok (.aload_n 0, 1) := by decide +kernel
theorem dX6_dry_59 : decode cX6_dry 59 = .ok (.getfield 10, 3) := by decide +kernel
theorem dX6_dry_62 : decode cX6_dry 62 = .ok (.invokevirtual 182, 3) := by decide +kernel
theorem dX6_dry_65 : decode cX6_dry 65 = .ok (.aload_n 0, 1) := by decide +kernel
theorem dX6_dry_66 : decode cX6_dry 66 = .ok (.getfield 10, 3) := by decide +kernel
theorem dX6_dry_69 : decode cX6_dry 69 = .ok (.getfield 100, 3) := by decide +kernel
theorem dX6_dry_72 : decode cX6_dry 72 = .ok (.iconst 1, 1) := by decide +kernel
theorem dX6_dry_73 : decode cX6_dry 73 = .ok (.iload_n 2, 1) := by decide +kernel
theorem dX6_dry_74 : decode cX6_dry 74 = .ok (.ishl, 1) := by decide +kernel
theorem dX6_dry_75 : decode cX6_dry 75 = .ok (.iconst (-1), 1) := by decide +kernel
theorem dX6_dry_76 : decode cX6_dry 76 = .ok (.ixor, 1) := by decide +kernel
theorem dX6_dry_77 : decode cX6_dry 77 = .ok (.iand, 1) := by decide +kernel
theorem dX6_dry_78 : decode cX6_dry 78 = .ok (.iconst (-1), 1) := by decide +kernel
theorem dX6_dry_79 : decode cX6_dry 79 = .ok (.invokevirtual 185, 3) := by decide +kernel
theorem dX6_dry_82 : decode cX6_dry 82 = .ok (.aload_n 0, 1) := by decide +kernel
theorem dX6_dry_83 : decode cX6_dry 83 = .ok (.getfield 26, 3) := by decide +kernel
theorem dX6_dry_86 : decode cX6_dry 86 = .ok (.dup, 1) := by decide +kernel
theorem dX6_dry_87 : decode cX6_dry 87 = .ok (.getfield 189, 3) := by decide +kernel
theorem dX6_dry_90 : decode cX6_dry 90 = .ok (.iconst 1, 1) := by decide +kernel
theorem dX6_dry_91 : decode cX6_dry 91 = .ok (.iload_n 2, 1) := by decide +kernel
theorem dX6_dry_92 : decode cX6_dry 92 = .ok (.ishl, 1) := by decide +kernel
theorem dX6_dry_93 : decode cX6_dry 93 = .ok (.iconst (-1), 1) := by decide +kernel
theorem dX6_dry_94 : decode cX6_dry 94 = .ok (.ixor, 1) := by decide +kernel
theorem dX6_dry_95 : decode cX6_dry 95 = .ok (.iand, 1) := by decide +kernel
theorem dX6_dry_96 : decode cX6_dry 96 = .ok (.putfield 189, 3) := by decide +kernel
theorem dX6_dry_99 : decode cX6_dry 99 = .ok (.aload_n 0, 1) := by decide +kernel
theorem dX6_dry_100 : decode cX6_dry 100 = .ok (.getfield 26, 3) := by decide +kernel
theorem dX6_dry_103 : decode cX6_dry 103 = .ok (.aload_n 0, 1) := by decide +kernel
theorem dX6_dry_104 : decode cX6_dry 104 = .ok (.getfield 10, 3) := by decide +kernel
theorem dX6_dry_107 : decode cX6_dry 107 = .ok (.iconst 3, 1) := by decide +kernel
theorem dX6_dry_108 : decode cX6_dry 108 = .ok (.iload 4, 2) := by decide +kernel
theorem dX6_dry_110 : decode cX6_dry 110 = .ok (.invokevirtual 157, 3) := by decide +kernel
theorem dX6_dry_113 : decode cX6_dry 113 = .ok (.istore 5, 2) := by decide +kernel
theorem dX6_dry_115 : decode cX6_dry 115 = .ok (.iload 5, 2) := by decide +kernel
theorem dX6_dry_117 : decode cX6_dry 117 = .ok (.ifCond .lt 7, 3) := by decide +kernel
theorem dX6_dry_120 : decode cX6_dry 120 = .ok (.iload_n 3, 1) := by decide +kernel
theorem dX6_dry_121 : decode cX6_dry 121 = .ok (.ifCond .ne 8, 3) := by decide +kernel
theorem dX6_dry_124 : decode cX6_dry 124 = .ok (.iload 5, 2) := by decide +kernel
theorem dX6_dry_126 : decode cX6_dry 126 = .ok (.goto 11, 3) := by decide +kernel
theorem dX6_dry_129 : decode cX6_dry 129 = .ok (.iload 5, 2) := by decide +kernel
theorem dX6_dry_131 : decode cX6_dry 131 = .ok (.iload 4, 2) := by decide +kernel
theorem dX6_dry_133 : decode cX6_dry 133 = .ok (.ixor, 1) := by decide +kernel
theorem dX6_dry_134 : decode cX6_dry 134 = .ok (.invokestatic 192, 3) := by decide +kernel
theorem dX6_dry_137 : decode cX6_dry 137 = .ok (.ireturn, 1) := by decide +kernel
theorem dX6_grow_0 : decode cX6_grow 0 = .ok (.aload_n 0, 1) := by decide +kernel
theorem dX6_grow_1 : decode cX6_grow 1 = .ok (.getfield 10, 3) := by decide +kernel
theorem dX6_grow_4 : decode cX6_grow 4 = .ok (.getfield 59, 3) := by decide +kernel
theorem dX6_grow_7 : decode cX6_grow 7 = .ok (.bipush 9, 2) := by decide +kernel
theorem dX6_grow_9 : decode cX6_grow 9 = .ok (.if_icmp .le 6, 3) := by decide +kernel
theorem dX6_grow_12 : decode cX6_grow 12 = .ok (.bipush (-5), 2) := by decide +kernel
theorem dX6_grow_14 : decode cX6_grow 14 = .ok (.ireturn, 1) := by decide +kernel
theorem dX6_grow_15 : decode cX6_grow 15 = .ok (.iconst 1, 1) := by decide +kernel
theorem dX6_grow_16 : decode cX6_grow 16 = .ok (.aload_n 0, 1) := by decide +kernel
theorem dX6_grow_17 : decode cX6_grow 17 = .ok (.getfield 10, 3) := by decide +kernel
theorem dX6_grow_20 : decode cX6_grow 20 = .ok (.getfield 59, 3) := by decide +kernel
theorem dX6_grow_23 : decode cX6_grow 23 = .ok (.ishl, 1) := by decide +kernel
theorem dX6_grow_24 : decode cX6_grow 24 = .ok (.istore_n 1, 1) := by decide +kernel
theorem dX6_grow_25 : decode cX6_grow 25 = .ok (.iconst 0, 1) := by decide +kernel
theorem dX6_grow_26 : decode cX6_grow 26 = .ok (.istore_n 2, 1) := by decide +kernel
theorem dX6_grow_27 : decode cX6_grow 27 = .ok (.iload_n 2, 1) := by decide +kernel
theorem dX6_grow_28 : decode cX6_grow 28 = .ok (.iload_n 1, 1) := by decide +kernel
theorem dX6_grow_29 : decode cX6_grow 29 = .ok (.if_icmp .ge 16, 3) := by decide +kernel
theorem dX6_grow_32 : decode cX6_grow 32 = .ok (.aload_n 0, 1) := by decide +kernel
theorem dX6_grow_33 : decode cX6_grow 33 = .ok (.getfield 50, 3) := by decide +kernel
theorem dX6_grow_36 : decode cX6_grow 36 = .ok (.iload_n 2, 1) := by decide +kernel
theorem dX6_grow_37 : decode cX6_grow 37 = .ok (.iconst 1, 1) := by decide +kernel
theorem dX6_grow_38 : decode cX6_grow 38 = .ok (.bastore, 1) := by decide +kernel
theorem dX6_grow_39 : decode cX6_grow 39 = .ok (.iinc 2 1, 3) := by decide +kernel
theorem dX6_grow_42 : decode cX6_grow 42 = .ok (.goto (-15), 3) := by decide +kernel
theorem dX6_grow_45 : decode cX6_grow 45 = .ok (.iconst 0, 1) := by decide +kernel
theorem dX6_grow_46 : decode cX6_grow 46 = .ok (.istore_n 2, 1) := by decide +kernel
theorem dX6_grow_47 : decode cX6_grow 47 = .ok (.iload_n 2, 1) := by decide +kernel
theorem dX6_grow_48 : decode cX6_grow 48 = .ok (.bipush 9, 2) := by decide +kernel
theorem dX6_grow_50 : decode cX6_grow 50 = .ok (.if_icmp .gt 89, 3) := by decide +kernel
theorem dX6_grow_53 : decode cX6_grow 53 = .ok (.aload_n 0, 1) := by decide +kernel
theorem dX6_grow_54 : decode cX6_grow 54 = .ok (.getfield 26, 3) := by decide +kernel
theorem dX6_grow_57 : decode cX6_grow 57 = .ok (.aload_n 0, 1) := by decide +kernel
theorem dX6_grow_58 : decode cX6_grow 58 = .ok (.getfield 10, 3) := by decide +kernel
theorem dX6_grow_61 : decode cX6_grow 61 = .ok (.aload_n 0, 1) := by decide +kernel
theorem dX6_grow_62 : decode cX6_grow 62 = .ok (.getfield 19, 3) := by decide +kernel
theorem dX6_grow_65 : decode cX6_grow 65 = .ok (.aload_n 0, 1) := by decide +kernel
theorem dX6_grow_66 : decode cX6_grow 66 = .ok (.getfield 10, 3) := by decide +kernel
theorem dX6_grow_69 : decode cX6_grow 69 = .ok (.iload_n 2, 1) := by decide +kernel
theorem dX6_grow_70 : decode cX6_grow 70 = .ok (.invokevirtual 197, 3) := by decide +kernel
theorem dX6_grow_73 : decode cX6_grow 73 = .ok (.aload_n 0, 1) := by decide +kernel
theorem dX6_grow_74 : decode cX6_grow 74 = .ok (.getfield 10, 3) := by decide +kernel
theorem dX6_grow_77 : decode cX6_grow 77 = .ok (.getfield 100, 3) := by decide +kernel
theorem dX6_grow_80 : decode cX6_grow 80 = .ok (.iconst (-1), 1) := by decide +kernel
theorem dX6_grow_81 : decode cX6_grow 81 = .ok (.invokevirtual 185, 3) := by decide +kernel
theorem dX6_grow_84 : decode cX6_grow 84 = .ok (.aload_n 0, 1) := by decide +kernel
theorem dX6_grow_85 : decode cX6_grow 85 = .ok (.iload_n 1, 1) := by decide +kernel
theorem dX6_grow_86 : decode cX6_grow 86 = .ok (.invokevirtual 200, 3) := by decide +kernel
theorem dX6_grow_89 : decode cX6_grow 89 = .ok (.iconst 0, 1) := by decide +kernel
theorem dX6_grow_90 : decode cX6_grow 90 = .ok (.istore_n 3, 1) := by decide +kernel
theorem dX6_grow_91 : decode cX6_grow 91 = .ok (.iload_n 3, 1) := by decide +kernel
theorem dX6_grow_92 : decode cX6_grow 92 = .ok (.iload_n 1, 1) := by decide +kernel
theorem dX6_grow_93 : decode cX6_grow 93 = .ok (.if_icmp .ge 40, 3) := by decide +kernel
theorem dX6_grow_96 : decode cX6_grow 96 = .ok (.aload_n 0, 1) := by decide +kernel
theorem dX6_grow_97 : decode cX6_grow 97 = .ok (.getfield 50, 3) := by decide +kernel
theorem dX6_grow_100 : decode cX6_grow 100 = .ok (.iload_n 3, 1) := by decide +kernel
theorem dX6_grow_101 : decode cX6_grow 101 = .ok (.aload_n 0, 1) := by decide +kernel
theorem dX6_grow_102 : decode cX6_grow 102 = .ok (.getfield 50, 3) := by decide +kernel
theorem dX6_grow_105 : decode cX6_grow 105 = .ok (.iload_n 3, 1) := by decide +kernel
theorem dX6_grow_106 : decode cX6_grow 106 = .ok (.baload, 1) := by decide +kernel
theorem dX6_grow_107 : decode cX6_grow 107 = .ok (.ifCond .eq 18, 3) := by decide +kernel
theorem dX6_grow_110 : decode cX6_grow 110 = .ok (.aload_n 0, 1) := by decide +kernel
theorem dX6_grow_111 : decode cX6_grow 111 = .ok (.getfield 26, 3) := by decide +kernel
theorem dX6_grow_114 : decode cX6_grow 114 = .ok (.iload_n 3, 1) := by decide +kernel
theorem dX6_grow_115 : decode cX6_grow 115 = .ok (.invokevirtual 164, 3) := by decide +kernel
theorem dX6_grow_118 : decode cX6_grow 118 = .ok (.ifCond .eq 7, 3) := by decide +kernel
theorem dX6_grow_121 : decode cX6_grow 121 = .ok (.iconst 1, 1) := by decide +kernel
theorem dX6_grow_122 : decode cX6_grow 122 = .ok (.goto 4, 3) := by decide +kernel
theorem dX6_grow_125 : decode cX6_grow 125 = .ok (.iconst 0, 1) := by decide +kernel
theorem dX6_grow_126 : decode cX6_grow 126 = .ok (.bastore, 1) := by decide +kernel
theorem dX6_grow_127 : decode cX6_grow 127 = .ok (.iinc 3 1, 3) := by decide +kernel
theorem dX6_grow_130 : decode cX6_grow 130 = .ok (.goto (-39), 3) := by decide +kernel
theorem dX6_grow_133 : decode cX6_grow 133 = .ok (.iinc 2 1, 3) := by decide +kernel
theorem dX6_grow_136 : decode cX6_grow 136 = .ok (.goto (-89), 3) := by decide +kernel
theorem dX6_grow_139 : decode cX6_grow 139 = .ok (.aload_n 0, 1) := by decide +kernel
theorem dX6_grow_140 : decode cX6_grow 140 = .ok (.iload_n 1, 1) := by decide +kernel
theorem dX6_grow_141 : decode cX6_grow 141 = .ok (.invokevirtual 204, 3) := by decide +kernel
theorem dX6_grow_144 : decode cX6_grow 144 = .ok (.ireturn, 1) := by decide +kernel
theorem dX6_breaks_0 : decode cX6_breaks 0 = .ok (.iload_n 1, 1) := by decide +kernel
theorem dX6_breaks_1 : decode cX6_breaks 1 = .ok (.iconst 1, 1) := by decide +kernel
theorem dX6_breaks_2 : decode cX6_breaks 2 = .ok (.invokestatic 55, 3) := by decide +kernel
theorem dX6_breaks_5 : decode cX6_breaks 5 = .ok (.ifCond .ne 5, 3) := by decide +kernel
theorem dX6_breaks_8 : decode cX6_breaks 8 = .ok (.iconst (-1), 1) := by decide +kernel
theorem dX6_breaks_9 : decode cX6_breaks 9 = .ok (.ireturn, 1) := by decide +kernel
theorem dX6_breaks_10 : decode cX6_breaks 10 = .ok (.bipush (-2), 2) := by decide +kernel
theorem dX6_breaks_12 : decode cX6_breaks 12 = .ok (.istore_n 2, 1) := by decide +kernel
theorem dX6_breaks_13 : decode cX6_breaks 13 = .ok (.bipush 15, 2) := by decide +kernel
theorem dX6_breaks_15 : decode cX6_breaks 15 = .ok (.istore_n 3, 1) := by decide +kernel
theorem dX6_breaks_16 : decode cX6_breaks 16 = .ok (.iconst 0, 1) := by decide +kernel
theorem dX6_breaks_17 : decode cX6_breaks 17 = .ok (.istore 4, 2) := by decide +kernel
theorem dX6_breaks_19 : decode cX6_breaks 19 = .ok (.iload 4, 2) := by decide +kernel
theorem dX6_breaks_21 : decode cX6_breaks 21 = .ok (.aload_n 0, 1) := by decide +kernel
theorem dX6_breaks_22 : decode cX6_breaks 22 = .ok (.getfield 10, 3) := by decide +kernel
theorem dX6_breaks_25 : decode cX6_breaks 25 = .ok (.getfield 91, 3) := by decide +kernel
theorem dX6_breaks_28 : decode cX6_breaks 28 = .ok (.if_icmp .ge 114, 3) := by decide +kernel
theorem dX6_breaks_31 : decode cX6_breaks 31 = .ok (.aload_n 0, 1) := by decide +kernel
theorem dX6_breaks_32 : decode cX6_breaks 32 = .ok (.getfield 26, 3) := by decide +kernel
theorem dX6_breaks_35 : decode cX6_breaks 35 = .ok (.aload_n 0, 1) := by decide +kernel
theorem dX6_breaks_36 : decode cX6_breaks 36 = .ok (.getfield 10, 3) := by decide +kernel
theorem dX6_breaks_39 : decode cX6_breaks 39 = .ok (.aload_n 0, 1) := by decide +kernel
theorem dX6_breaks_40 : decode cX6_breaks 40 = .ok (.getfield 19, 3) := by decide +kernel
theorem dX6_breaks_43 : decode cX6_breaks 43 = .ok (.aload_n 0, 1) := by decide +kernel
theorem dX6_breaks_44 : decode cX6_breaks 44 = .ok (.getfield 10, 3) := by decide +kernel
theorem dX6_breaks_47 : decode cX6_breaks 47 = .ok (.invokevirtual 182, 3) := by decide +kernel
theorem dX6_breaks_50 : decode cX6_breaks 50 = .ok (.aload_n 0, 1) := by decide +kernel
theorem dX6_breaks_51 : decode cX6_breaks 51 = .ok (.getfield 10, 3) := by decide +kernel
theorem dX6_breaks_54 : decode cX6_breaks 54 = .ok (.getfield 100, 3) := by decide +kernel
theorem dX6_breaks_57 : decode cX6_breaks 57 = .ok (.iload 4, 2) := by decide +kernel
theorem dX6_breaks_59 : decode cX6_breaks 59 = .ok (.invokevirtual 185, 3) := by decide +kernel
theorem dX6_breaks_62 : decode cX6_breaks 62 = .ok (.aload_n 0, 1) := by decide +kernel
theorem dX6_breaks_63 : decode cX6_breaks 63 = .ok (.getfield 26, 3) := by decide +kernel
theorem dX6_breaks_66 : decode cX6_breaks 66 = .ok (.aload_n 0, 1) := by decide +kernel
theorem dX6_breaks_67 : decode cX6_breaks 67 = .ok (.getfield 10, 3) := by decide +kernel
theorem dX6_breaks_70 : decode cX6_breaks 70 = .ok (.iconst 0, 1) := by decide +kernel
theorem dX6_breaks_71 : decode cX6_breaks 71 = .ok (.iconst 0, 1) := by decide +kernel
theorem dX6_breaks_72 : decode cX6_breaks 72 = .ok (.invokevirtual 157, 3) := by decide +kernel
theorem dX6_breaks_75 : decode cX6_breaks 75 = .ok (.istore 5, 2) := by decide +kernel
theorem dX6_breaks_77 : decode cX6_breaks 77 = .ok (.iload 5, 2) := by decide +kernel
theorem dX6_breaks_79 : decode cX6_breaks 79 = .ok (.ifCond .ge 6, 3) := by decide +kernel
theorem dX6_breaks_82 : decode cX6_breaks 82 = .ok (.goto 54, 3) := by decide +kernel
theorem dX6_breaks_85 : decode cX6_breaks 85 = .ok (.iload 5, 2) := by decide +kernel
theorem dX6_breaks_87 : decode cX6_breaks 87 = .ok (.invokestatic 192, 3) := by decide +kernel
theorem dX6_breaks_90 : decode cX6_breaks 90 = .ok (.istore 6, 2) := by decide +kernel
theorem dX6_breaks_92 : decode cX6_breaks 92 = .ok (.iload_n 2, 1) := by decide +kernel
theorem dX6_breaks_93 : decode cX6_breaks 93 = .ok (.ifCond .lt 37, 3) := by decide +kernel
theorem dX6_breaks_96 : decode cX6_breaks 96 = .ok (.iload 6, 2) := by decide +kernel
theorem dX6_breaks_98 : decode cX6_breaks 98 = .ok (.iload_n 3, 1) := by decide +kernel
theorem dX6_breaks_99 : decode cX6_breaks 99 = .ok (.if_icmp .lt 31, 3) := by decide +kernel
theorem dX6_breaks_102 : decode cX6_breaks 102 = .ok (.iload 6, 2) := by decide +kernel
theorem dX6_breaks_104 : decode cX6_breaks 104 = .ok (.iload_n 3, 1) := by decide +kernel
theorem dX6_breaks_105 : decode cX6_breaks 105 = .ok (.if_icmp .ne 31, 3) := by decide +kernel
theorem dX6_breaks_108 : decode cX6_breaks 108 = .ok (.aload_n 0, 1) := by decide +kernel
theorem dX6_breaks_109 : decode cX6_breaks 109 = .ok (.getfield 10, 3) := by decide +kernel
theorem dX6_breaks_112 : decode cX6_breaks 112 = .ok (.getfield 134, 3) := by decide +kernel
theorem dX6_breaks_115 : decode cX6_breaks 115 = .ok (.iload 4, 2) := by decide +kernel
theorem dX6_breaks_117 : decode cX6_breaks 117 = .ok (.iaload, 1) := by decide +kernel
theorem dX6_breaks_118 : decode cX6_breaks 118 = .ok (.aload_n 0, 1) := by decide +kernel
theorem dX6_breaks_119 : decode cX6_breaks 119 = .ok (.getfield 10, 3) := by decide +kernel
theorem dX6_breaks_122 : decode cX6_breaks 122 = .ok (.getfield 134, 3) := by decide +kernel
theorem dX6_breaks_125 : decode cX6_breaks 125 = .ok (.iload_n 2, 1) := by decide +kernel
theorem dX6_breaks_126 : decode cX6_breaks 126 = .ok (.iaload, 1) := by decide +kernel
theorem dX6_breaks_127 : decode cX6_breaks 127 = .ok (.if_icmp .ge 9, 3) := by decide +kernel
theorem dX6_breaks_130 : decode cX6_breaks 130 = .ok (.iload 4, 2) := by decide +kernel
theorem dX6_breaks_132 : decode cX6_breaks 132 = .ok (.istore_n 2, 1) := by decide +kernel
theorem dX6_breaks_133 : decode cX6_breaks 133 = .ok (.iload 6, 2) := by decide +kernel
theorem dX6_breaks_135 : decode cX6_breaks 135 = .ok (.istore_n 3, 1) := by decide +kernel
theorem dX6_breaks_136 : decode cX6_breaks 136 = .ok (.iinc 4 1, 3) := by decide +kernel
theorem dX6_breaks_139 : decode cX6_breaks 139 = .ok (.goto (-120), 3) := by decide +kernel
theorem dX6_breaks_142 : decode cX6_breaks 142 = .ok (.iload_n 2, 1) := by decide +kernel
theorem dX6_breaks_143 : decode cX6_breaks 143 = .ok (.ifCond .lt 7, 3) := by decide +kernel
theorem dX6_breaks_146 : decode cX6_breaks 146 = .ok (.iload_n 1, 1) := by decide +kernel
theorem dX6_breaks_147 : decode cX6_breaks 147 = .ok (.ifCond .ne 7, 3) := by decide +kernel
theorem dX6_breaks_150 : decode cX6_breaks 150 = .ok (.iload_n 2, 1) := by decide +kernel
theorem dX6_breaks_151 : decode cX6_breaks 151 = .ok (.goto 4, 3) := by decide +kernel
theorem dX6_breaks_154 : decode cX6_breaks 154 = .ok (.iload_n 3, 1) := by decide +kernel
theorem dX6_breaks_155 : decode cX6_breaks 155 = .ok (.ireturn, 1) := by decide +kernel
theorem dX6_goes_0 : decode cX6_goes 0 = .ok (.aload_n 0, 1) := by decide +kernel
theorem dX6_goes_1 : decode cX6_goes 1 = .ok (.getfield 10, 3) := by decide +kernel
theorem dX6_goes_4 : decode cX6_goes 4 = .ok (.iload_n 1, 1) := by decide +kernel
theorem dX6_goes_5 : decode cX6_goes 5 = .ok (.invokevirtual 97, 3) := by decide +kernel
theorem dX6_goes_8 : decode cX6_goes 8 = .ok (.ifCond .eq 14, 3) := by decide +kernel
theorem dX6_goes_11 : decode cX6_goes 11 = .ok (.aload_n 0, 1) := by decide +kernel
theorem dX6_goes_12 : decode cX6_goes 12 = .ok (.getfield 10, 3) := by decide +kernel
theorem dX6_goes_15 : decode cX6_goes 15 = .ok (.iload_n 2, 1) := by decide +kernel
theorem dX6_goes_16 : decode cX6_goes 16 = .ok (.invokevirtual 118, 3) := by decide +kernel
theorem dX6_goes_19 : decode cX6_goes 19 = .ok (.ifCond .ne 5, 3) := by decide +kernel
theorem dX6_goes_22 : decode cX6_goes 22 = .ok (.iconst (-1), 1) := by decide +kernel
theorem dX6_goes_23 : decode cX6_goes 23 = .ok (.ireturn, 1) := by decide +kernel
theorem dX6_goes_24 : decode cX6_goes 24 = .ok (.aload_n 0, 1) := by decide +kernel
theorem dX6_goes_25 : decode cX6_goes 25 = .ok (.invokevirtual 147, 3) := by decide +kernel
theorem dX6_goes_28 : decode cX6_goes 28 = .ok (.aload_n 0, 1) := by decide +kernel
theorem dX6_goes_29 : decode cX6_goes 29 = .ok (.getfield 26, 3) := by decide +kernel
theorem dX6_goes_32 : decode cX6_goes 32 = .ok (.iload_n 1, 1) := by decide +kernel
theorem dX6_goes_33 : decode cX6_goes 33 = .ok (.iload_n 2, 1) := by decide +kernel
theorem dX6_goes_34 : decode cX6_goes 34 = .ok (.invokevirtual 207, 3) := by decide +kernel
theorem dX6_goes_37 : decode cX6_goes 37 = .ok (.ireturn, 1) := by decide +kernel
theorem dX6_worth_0 : decode cX6_worth 0 = .ok (.aload_n 0, 1) := by decide +kernel
theorem dX6_worth_1 : decode cX6_worth 1 = .ok (.iload_n 1, 1) := by decide +kernel
theorem dX6_worth_2 : decode cX6_worth 2 = .ok (.iload_n 2, 1) := by decide +kernel
theorem dX6_worth_3 : decode cX6_worth 3 = .ok (.invokevirtual 179, 3) := by decide +kernel
theorem dX6_worth_6 : decode cX6_worth 6 = .ok (.ifCond .ne 5, 3) := by decide +kernel
theorem dX6_worth_9 : decode cX6_worth 9 = .ok (.iconst (-1), 1) := by decide +kernel
theorem dX6_worth_10 : decode cX6_worth 10 = .ok (.ireturn, 1) := by decide +kernel
theorem dX6_worth_11 : decode cX6_worth 11 = .ok (.aload_n 0, 1) := by decide +kernel
theorem dX6_worth_12 : decode cX6_worth 12 = .ok (.invokevirtual 147, 3) := by decide +kernel
theorem dX6_worth_15 : decode cX6_worth 15 = .ok (.iconst 0, 1) := by decide +kernel
theorem dX6_worth_16 : decode cX6_worth 16 = .ok (.istore_n 3, 1) := by decide +kernel
theorem dX6_worth_17 : decode cX6_worth 17 = .ok (.iconst 0, 1) := by decide +kernel
theorem dX6_worth_18 : decode cX6_worth 18 = .ok (.istore 4, 2) := by decide +kernel
theorem dX6_worth_20 : decode cX6_worth 20 = .ok (.iload 4, 2) := by decide +kernel
theorem dX6_worth_22 : decode cX6_worth 22 = .ok (.aload_n 0, 1) := by decide +kernel
theorem dX6_worth_23 : decode cX6_worth 23 = .ok (.getfield 10, 3) := by decide +kernel
theorem dX6_worth_26 : decode cX6_worth 26 = .ok (.getfield 59, 3) := by decide +kernel
theorem dX6_worth_29 : decode cX6_worth 29 = .ok (.if_icmp .ge 26, 3) := by decide +kernel
theorem dX6_worth_32 : decode cX6_worth 32 = .ok (.aload_n 0, 1) := by decide +kernel
theorem dX6_worth_33 : decode cX6_worth 33 = .ok (.getfield 26, 3) := by decide +kernel
theorem dX6_worth_36 : decode cX6_worth 36 = .ok (.iload_n 1, 1) := by decide +kernel
theorem dX6_worth_37 : decode cX6_worth 37 = .ok (.iload 4, 2) := by decide +kernel
theorem dX6_worth_39 : decode cX6_worth 39 = .ok (.invokevirtual 207, 3) := by decide +kernel
theorem dX6_worth_42 : decode cX6_worth 42 = .ok (.iload_n 2, 1) := by decide +kernel
theorem dX6_worth_43 : decode cX6_worth 43 = .ok (.if_icmp .ne 6, 3) := by decide +kernel
theorem dX6_worth_46 : decode cX6_worth 46 = .ok (.iinc 3 1, 3) := by decide +kernel
theorem dX6_worth_49 : decode cX6_worth 49 = .ok (.iinc 4 1, 3) := by decide +kernel
theorem dX6_worth_52 : decode cX6_worth 52 = .ok (.goto (-32), 3) := by decide +kernel
theorem dX6_worth_55 : decode cX6_worth 55 = .ok (.iload_n 3, 1) := by decide +kernel
theorem dX6_worth_56 : decode cX6_worth 56 = .ok (.ireturn, 1) := by decide +kernel
theorem dX6_steps_0 : decode cX6_steps 0 = .ok (.aload_n 0, 1) := by decide +kernel
theorem dX6_steps_1 : decode cX6_steps 1 = .ok (.getfield 10, 3) := by decide +kernel
theorem dX6_steps_4 : decode cX6_steps 4 = .ok (.iload_n 1, 1) := by decide +kernel
theorem dX6_steps_5 : decode cX6_steps 5 = .ok (.invokevirtual 97, 3) := by decide +kernel
theorem dX6_steps_8 : decode cX6_steps 8 = .ok (.ifCond .eq 11, 3) := by decide +kernel
theorem dX6_steps_11 : decode cX6_steps 11 = .ok (.iload_n 2, 1) := by decide +kernel
theorem dX6_steps_12 : decode cX6_steps 12 = .ok (.iconst 1, 1) := by decide +kernel
theorem dX6_steps_13 : decode cX6_steps 13 = .ok (.invokestatic 55, 3) := by decide +kernel
theorem dX6_steps_16 : decode cX6_steps 16 = .ok (.ifCond .ne 5, 3) := by decide +kernel
theorem dX6_steps_19 : decode cX6_steps 19 = .ok (.iconst (-1), 1) := by decide +kernel
theorem dX6_steps_20 : decode cX6_steps 20 = .ok (.ireturn, 1) := by decide +kernel
theorem dX6_steps_21 : decode cX6_steps 21 = .ok (.aload_n 0, 1) := by decide +kernel
theorem dX6_steps_22 : decode cX6_steps 22 = .ok (.invokevirtual 147, 3) := by decide +kernel
theorem dX6_steps_25 : decode cX6_steps 25 = .ok (.iconst 0, 1) := by decide +kernel
theorem dX6_steps_26 : decode cX6_steps 26 = .ok (.istore_n 3, 1) := by decide +kernel
theorem dX6_steps_27 : decode cX6_steps 27 = .ok (.iconst 0, 1) := by decide +kernel
theorem dX6_steps_28 : decode cX6_steps 28 = .ok (.istore 4, 2) := by decide +kernel
theorem dX6_steps_30 : decode cX6_steps 30 = .ok (.iconst 0, 1) := by decide +kernel
theorem dX6_steps_31 : decode cX6_steps 31 = .ok (.istore 5, 2) := by decide +kernel
theorem dX6_steps_33 : decode cX6_steps 33 = .ok (.iload 5, 2) := by decide +kernel
theorem dX6_steps_35 : decode cX6_steps 35 = .ok (.aload_n 0, 1) := by decide +kernel
theorem dX6_steps_36 : decode cX6_steps 36 = .ok (.getfield 10, 3) := by decide +kernel
theorem dX6_steps_39 : decode cX6_steps 39 = .ok (.getfield 59, 3) := by decide +kernel
theorem dX6_steps_42 : decode cX6_steps 42 = .ok (.if_icmp .ge 69, 3) := by decide +kernel
theorem dX6_steps_45 : decode cX6_steps 45 = .ok (.aload_n 0, 1) := by decide +kernel
theorem dX6_steps_46 : decode cX6_steps 46 = .ok (.getfield 26, 3) := by decide +kernel
theorem dX6_steps_49 : decode cX6_steps 49 = .ok (.iload_n 1, 1) := by decide +kernel
theorem dX6_steps_50 : decode cX6_steps 50 = .ok (.iload 5, 2) := by decide +kernel
theorem dX6_steps_52 : decode cX6_steps 52 = .ok (.invokevirtual 207, 3) := by decide +kernel
theorem dX6_steps_55 : decode cX6_steps 55 = .ok (.istore 6, 2) := by decide +kernel
theorem dX6_steps_57 : decode cX6_steps 57 = .ok (.iload 6, 2) := by decide +kernel
theorem dX6_steps_59 : decode cX6_steps 59 = .ok (.ifCond .ge 8, 3) := by decide +kernel
theorem dX6_steps_62 : decode cX6_steps 62 = .ok (.bipush 99, 2) := by decide +kernel
theorem dX6_steps_64 : decode cX6_steps 64 = .ok (.goto 16, 3) := by decide +kernel
theorem dX6_steps_67 : decode cX6_steps 67 = .ok (.aload_n 0, 1) := by decide +kernel
theorem dX6_steps_68 : decode cX6_steps 68 = .ok (.getfield 26, 3) := by decide +kernel
theorem dX6_steps_71 : decode cX6_steps 71 = .ok (.getfield 150, 3) := by decide +kernel
theorem dX6_steps_74 : decode cX6_steps 74 = .ok (.iload 5, 2) := by decide +kernel
theorem dX6_steps_76 : decode cX6_steps 76 = .ok (.aaload, 1) := by decide +kernel
theorem dX6_steps_77 : decode cX6_steps 77 = .ok (.iload 6, 2) := by decide +kernel
theorem dX6_steps_79 : decode cX6_steps 79 = .ok (.iaload, 1) := by decide +kernel
theorem dX6_steps_80 : decode cX6_steps 80 = .ok (.istore 7, 2) := by decide +kernel
theorem dX6_steps_82 : decode cX6_steps 82 = .ok (.iload_n 3, 1) := by decide +kernel
theorem dX6_steps_83 : decode cX6_steps 83 = .ok (.iload 6, 2) := by decide +kernel
theorem dX6_steps_85 : decode cX6_steps 85 = .ok (.ifCond .ge 7, 3) := by decide +kernel
theorem dX6_steps_88 : decode cX6_steps 88 = .ok (.iconst 0, 1) := by decide +kernel
theorem dX6_steps_89 : decode cX6_steps 89 = .ok (.goto 5, 3) := by decide +kernel
theorem dX6_steps_92 : decode cX6_steps 92 = .ok (.iload 7, 2) := by decide +kernel
theorem dX6_steps_94 : decode cX6_steps 94 = .ok (.iadd, 1) := by decide +kernel
theorem dX6_steps_95 : decode cX6_steps 95 = .ok (.istore_n 3, 1) := by decide +kernel
theorem dX6_steps_96 : decode cX6_steps 96 = .ok (.iload 4, 2) := by decide +kernel
theorem dX6_steps_98 : decode cX6_steps 98 = .ok (.iload 7, 2) := by decide +kernel
theorem dX6_steps_100 : decode cX6_steps 100 = .ok (.invokestatic 210, 3) := by decide +kernel
theorem dX6_steps_103 : decode cX6_steps 103 = .ok (.istore 4, 2) := by decide +kernel
theorem dX6_steps_105 : decode cX6_steps 105 = .ok (.iinc 5 1, 3) := by decide +kernel
theorem dX6_steps_108 : decode cX6_steps 108 = .ok (.goto (-75), 3) := by decide +kernel
theorem dX6_steps_111 : decode cX6_steps 111 = .ok (.iload_n 2, 1) := by decide +kernel
theorem dX6_steps_112 : decode cX6_steps 112 = .ok (.ifCond .ne 7, 3) := by decide +kernel
theorem dX6_steps_115 : decode cX6_steps 115 = .ok (.iload_n 3, 1) := by decide +kernel
theorem dX6_steps_116 : decode cX6_steps 116 = .ok (.goto 5, 3) := by decide +kernel
theorem dX6_steps_119 : decode cX6_steps 119 = .ok (.iload 4, 2) := by decide +kernel
theorem dX6_steps_121 : decode cX6_steps 121 = .ok (.ireturn, 1) := by decide +kernel
theorem dX6_missed_0 : decode cX6_missed 0 = .ok (.aload_n 0, 1) := by decide +kernel
theorem dX6_missed_1 : decode cX6_missed 1 = .ok (.getfield 10, 3) := by decide +kernel
theorem dX6_missed_4 : decode cX6_missed 4 = .ok (.iload_n 1, 1) := by decide +kernel
theorem dX6_missed_5 : decode cX6_missed 5 = .ok (.invokevirtual 97, 3) := by decide +kernel
theorem dX6_missed_8 : decode cX6_missed 8 = .ok (.ifCond .ne 5, 3) := by decide +kernel
theorem dX6_missed_11 : decode cX6_missed 11 = .ok (.iconst (-1), 1) := by decide +kernel
theorem dX6_missed_12 : decode cX6_missed 12 = .ok (.ireturn, 1) := by decide +kernel
theorem dX6_missed_13 : decode cX6_missed 13 = .ok (.aload_n 0, 1) := by decide +kernel
theorem dX6_missed_14 : decode cX6_missed 14 = .ok (.invokevirtual 147, 3) := by decide +kernel
theorem dX6_missed_17 : decode cX6_missed 17 = .ok (.aload_n 0, 1) := by decide +kernel
theorem dX6_missed_18 : decode cX6_missed 18 = .ok (.getfield 26, 3) := by decide +kernel
theorem dX6_missed_21 : decode cX6_missed 21 = .ok (.iload_n 1, 1) := by decide +kernel
theorem dX6_missed_22 : decode cX6_missed 22 = .ok (.invokevirtual 215, 3) := by decide +kernel
theorem dX6_missed_25 : decode cX6_missed 25 = .ok (.ifCond .ne 6, 3) := by decide +kernel
theorem dX6_missed_28 : decode cX6_missed 28 = .ok (.bipush (-5), 2) := by decide +kernel
theorem dX6_missed_30 : decode cX6_missed 30 = .ok (.ireturn, 1) := by decide +kernel
theorem dX6_missed_31 : decode cX6_missed 31 = .ok (.iconst 0, 1) := by decide +kernel
theorem dX6_missed_32 : decode cX6_missed 32 = .ok (.istore_n 2, 1) := by decide +kernel
theorem dX6_missed_33 : decode cX6_missed 33 = .ok (.iconst 0, 1) := by decide +kernel
theorem dX6_missed_34 : decode cX6_missed 34 = .ok (.istore_n 3, 1) := by decide +kernel
theorem dX6_missed_35 : decode cX6_missed 35 = .ok (.iload_n 3, 1) := by decide +kernel
theorem dX6_missed_36 : decode cX6_missed 36 = .ok (.aload_n 0, 1) := by decide +kernel
theorem dX6_missed_37 : decode cX6_missed 37 = .ok (.getfield 10, 3) := by decide +kernel
theorem dX6_missed_40 : decode cX6_missed 40 = .ok (.getfield 59, 3) := by decide +kernel
theorem dX6_missed_43 : decode cX6_missed 43 = .ok (.if_icmp .ge 42, 3) := by decide +kernel
theorem dX6_missed_46 : decode cX6_missed 46 = .ok (.iload_n 1, 1) := by decide +kernel
theorem dX6_missed_47 : decode cX6_missed 47 = .ok (.iconst 1, 1) := by decide +kernel
theorem dX6_missed_48 : decode cX6_missed 48 = .ok (.iload_n 3, 1) := by decide +kernel
theorem dX6_missed_49 : decode cX6_missed 49 = .ok (.ishl, 1) := by decide +kernel
theorem dX6_missed_50 : decode cX6_missed 50 = .ok (.iand, 1) := by decide +kernel
theorem dX6_missed_51 : decode cX6_missed 51 = .ok (.istore 4, 2) := by decide +kernel
theorem dX6_missed_53 : decode cX6_missed 53 = .ok (.iload 4, 2) := by decide +kernel
theorem dX6_missed_55 : decode cX6_missed 55 = .ok (.ifCond .eq 24, 3) := by decide +kernel
theorem dX6_missed_58 : decode cX6_missed 58 = .ok (.aload_n 0, 1) := by decide +kernel
theorem dX6_missed_59 : decode cX6_missed 59 = .ok (.getfield 26, 3) := by decide +kernel
theorem dX6_missed_62 : decode cX6_missed 62 = .ok (.iload_n 1, 1) := by decide +kernel
theorem dX6_missed_63 : decode cX6_missed 63 = .ok (.iload 4, 2) := by decide +kernel
theorem dX6_missed_65 : decode cX6_missed 65 = .ok (.iconst (-1), 1) := by decide +kernel
theorem dX6_missed_66 : decode cX6_missed 66 = .ok (.ixor, 1) := by decide +kernel
theorem dX6_missed_67 : decode cX6_missed 67 = .ok (.iand, 1) := by decide +kernel
theorem dX6_missed_68 : decode cX6_missed 68 = .ok (.invokevirtual 215, 3) := by decide +kernel
theorem dX6_missed_71 : decode cX6_missed 71 = .ok (.ifCond .eq 8, 3) := by decide +kernel
theorem dX6_missed_74 : decode cX6_missed 74 = .ok (.iload_n 2, 1) := by decide +kernel
theorem dX6_missed_75 : decode cX6_missed 75 = .ok (.iload 4, 2) := by decide +kernel
theorem dX6_missed_77 : decode cX6_missed 77 = .ok (.ior, 1) := by decide +kernel
theorem dX6_missed_78 : decode cX6_missed 78 = .ok (.istore_n 2, 1) := by decide +kernel
theorem dX6_missed_79 : decode cX6_missed 79 = .ok (.iinc 3 1, 3) := by decide +kernel
theorem dX6_missed_82 : decode cX6_missed 82 = .ok (.goto (-47), 3) := by decide +kernel
theorem dX6_missed_85 : decode cX6_missed 85 = .ok (.iload_n 2, 1) := by decide +kernel
theorem dX6_missed_86 : decode cX6_missed 86 = .ok (.ireturn, 1) := by decide +kernel
theorem dX6_stood_0 : decode cX6_stood 0 = .ok (.iload_n 1, 1) := by decide +kernel
theorem dX6_stood_1 : decode cX6_stood 1 = .ok (.invokestatic 77, 3) := by decide +kernel
theorem dX6_stood_4 : decode cX6_stood 4 = .ok (.ifCond .eq 14, 3) := by decide +kernel
theorem dX6_stood_7 : decode cX6_stood 7 = .ok (.aload_n 0, 1) := by decide +kernel
theorem dX6_stood_8 : decode cX6_stood 8 = .ok (.getfield 10, 3) := by decide +kernel
theorem dX6_stood_11 : decode cX6_stood 11 = .ok (.iload_n 2, 1) := by decide +kernel
theorem dX6_stood_12 : decode cX6_stood 12 = .ok (.invokevirtual 97, 3) := by decide +kernel
theorem dX6_stood_15 : decode cX6_stood 15 = .ok (.ifCond .ne 5, 3) := by decide +kernel
theorem dX6_stood_18 : decode cX6_stood 18 = .ok (.iconst (-1), 1) := by decide +kernel
theorem dX6_stood_19 : decode cX6_stood 19 = .ok (.ireturn, 1) := by decide +kernel
theorem dX6_stood_20 : decode cX6_stood 20 = .ok (.aload_n 0, 1) := by decide +kernel
theorem dX6_stood_21 : decode cX6_stood 21 = .ok (.getfield 46, 3) := by decide +kernel
theorem dX6_stood_24 : decode cX6_stood 24 = .ok (.iload_n 1, 1) := by decide +kernel
theorem dX6_stood_25 : decode cX6_stood 25 = .ok (.aaload, 1) := by decide +kernel
theorem dX6_stood_26 : decode cX6_stood 26 = .ok (.astore_n 3, 1) := by decide +kernel
theorem dX6_stood_27 : decode cX6_stood 27 = .ok (.aload_n 3, 1) := by decide +kernel
theorem dX6_stood_28 : decode cX6_stood 28 = .ok (.getfield 81, 3) := by decide +kernel
theorem dX6_stood_31 : decode cX6_stood 31 = .ok (.ifCond .ne 6, 3) := by decide +kernel
theorem dX6_stood_34 : decode cX6_stood 34 = .ok (.bipush (-11), 2) := by decide +kernel
theorem dX6_stood_36 : decode cX6_stood 36 = .ok (.ireturn, 1) := by decide +kernel
theorem dX6_stood_37 : decode cX6_stood 37 = .ok (.aload_n 3, 1) := by decide +kernel
theorem dX6_stood_38 : decode cX6_stood 38 = .ok (.iconst 0, 1) := by decide +kernel
theorem dX6_stood_39 : decode cX6_stood 39 = .ok (.invokevirtual 84, 3) := by decide +kernel
theorem dX6_stood_42 : decode cX6_stood 42 = .ok (.ifCond .ne 6, 3) := by decide +kernel
theorem dX6_stood_45 : decode cX6_stood 45 = .ok (.bipush (-12), 2) := by decide +kernel
theorem dX6_stood_47 : decode cX6_stood 47 = .ok (.ireturn, 1) := by decide +kernel
theorem dX6_stood_48 : decode cX6_stood 48 = .ok (.aload_n 3, 1) := by decide +kernel
theorem dX6_stood_49 : decode cX6_stood 49 = .ok (.getfield 218, 3) := by decide +kernel
theorem dX6_stood_52 : decode cX6_stood 52 = .ok (.iload_n 2, 1) := by decide +kernel
theorem dX6_stood_53 : decode cX6_stood 53 = .ok (.invokestatic 192, 3) := by decide +kernel
theorem dX6_stood_56 : decode cX6_stood 56 = .ok (.if_icmp .ge 6, 3) := by decide +kernel
theorem dX6_stood_59 : decode cX6_stood 59 = .ok (.bipush (-13), 2) := by decide +kernel
theorem dX6_stood_61 : decode cX6_stood 61 = .ok (.ireturn, 1) := by decide +kernel
theorem dX6_stood_62 : decode cX6_stood 62 = .ok (.aload_n 0, 1) := by decide +kernel
theorem dX6_stood_63 : decode cX6_stood 63 = .ok (.invokevirtual 147, 3) := by decide +kernel
theorem dX6_stood_66 : decode cX6_stood 66 = .ok (.iconst 0, 1) := by decide +kernel
theorem dX6_stood_67 : decode cX6_stood 67 = .ok (.istore 4, 2) := by decide +kernel
theorem dX6_stood_69 : decode cX6_stood 69 = .ok (.iconst 0, 1) := by decide +kernel
theorem dX6_stood_70 : decode cX6_stood 70 = .ok (.istore 5, 2) := by decide +kernel
theorem dX6_stood_72 : decode cX6_stood 72 = .ok (.iload 5, 2) := by decide +kernel
theorem dX6_stood_74 : decode cX6_stood 74 = .ok (.aload_n 0, 1) := by decide +kernel
theorem dX6_stood_75 : decode cX6_stood 75 = .ok (.getfield 10, 3) := by decide +kernel
theorem dX6_stood_78 : decode cX6_stood 78 = .ok (.getfield 59, 3) := by decide +kernel
theorem dX6_stood_81 : decode cX6_stood 81 = .ok (.if_icmp .ge 33, 3) := by decide +kernel
theorem dX6_stood_84 : decode cX6_stood 84 = .ok (.iload 4, 2) := by decide +kernel
theorem dX6_stood_86 : decode cX6_stood 86 = .ok (.aload_n 0, 1) := by decide +kernel
theorem dX6_stood_87 : decode cX6_stood 87 = .ok (.iload 5, 2) := by decide +kernel
theorem dX6_stood_89 : decode cX6_stood 89 = .ok (.iload_n 2, 1) := by decide +kernel
theorem dX6_stood_90 : decode cX6_stood 90 = .ok (.aload_n 3, 1) := by decide +kernel
theorem dX6_stood_91 : decode cX6_stood 91 = .ok (.invokevirtual 221, 3) := by decide +kernel
theorem dX6_stood_94 : decode cX6_stood 94 = .ok (.ifCond .eq 10, 3) := by decide +kernel
theorem dX6_stood_97 : decode cX6_stood 97 = .ok (.iconst 1, 1) := by decide +kernel
theorem dX6_stood_98 : decode cX6_stood 98 = .ok (.iload 5, 2) := by decide +kernel
theorem dX6_stood_100 : decode cX6_stood 100 = .ok (.ishl, 1) := by decide +kernel
theorem dX6_stood_101 : decode cX6_stood 101 = .ok (.goto 4, 3) := by decide +kernel
theorem dX6_stood_104 : decode cX6_stood 104 = .ok (.iconst 0, 1) := by decide +kernel
theorem dX6_stood_105 : decode cX6_stood 105 = .ok (.ior, 1) := by decide +kernel
theorem dX6_stood_106 : decode cX6_stood 106 = .ok (.istore 4, 2) := by decide +kernel
theorem dX6_stood_108 : decode cX6_stood 108 = .ok (.iinc 5 1, 3) := by decide +kernel
theorem dX6_stood_111 : decode cX6_stood 111 = .ok (.goto (-39), 3) := by decide +kernel
theorem dX6_stood_114 : decode cX6_stood 114 = .ok (.iload 4, 2) := by decide +kernel
theorem dX6_stood_116 : decode cX6_stood 116 = .ok (.ireturn, 1) := by decide +kernel
theorem dX6_turn_0 : decode cX6_turn 0 = .ok (.iload_n 1, 1) := by decide +kernel
theorem dX6_turn_1 : decode cX6_turn 1 = .ok (.bipush 99, 2) := by decide +kernel
theorem dX6_turn_3 : decode cX6_turn 3 = .ok (.invokestatic 55, 3) := by decide +kernel
theorem dX6_turn_6 : decode cX6_turn 6 = .ok (.ifCond .eq 11, 3) := by decide +kernel
theorem dX6_turn_9 : decode cX6_turn 9 = .ok (.iload_n 2, 1) := by decide +kernel
theorem dX6_turn_10 : decode cX6_turn 10 = .ok (.iconst 1, 1) := by decide +kernel
theorem dX6_turn_11 : decode cX6_turn 11 = .ok (.invokestatic 55, 3) := by decide +kernel
theorem dX6_turn_14 : decode cX6_turn 14 = .ok (.ifCond .ne 5, 3) := by decide +kernel
theorem dX6_turn_17 : decode cX6_turn 17 = .ok (.iconst (-1), 1) := by decide +kernel
theorem dX6_turn_18 : decode cX6_turn 18 = .ok (.ireturn, 1) := by decide +kernel
theorem dX6_turn_19 : decode cX6_turn 19 = .ok (.aload_n 0, 1) := by decide +kernel
theorem dX6_turn_20 : decode cX6_turn 20 = .ok (.invokevirtual 147, 3) := by decide +kernel
theorem dX6_turn_23 : decode cX6_turn 23 = .ok (.aload_n 0, 1) := by decide +kernel
theorem dX6_turn_24 : decode cX6_turn 24 = .ok (.getfield 10, 3) := by decide +kernel
theorem dX6_turn_27 : decode cX6_turn 27 = .ok (.getfield 100, 3) := by decide +kernel
theorem dX6_turn_30 : decode cX6_turn 30 = .ok (.istore_n 3, 1) := by decide +kernel
theorem dX6_turn_31 : decode cX6_turn 31 = .ok (.iconst 0, 1) := by decide +kernel
theorem dX6_turn_32 : decode cX6_turn 32 = .ok (.istore 4, 2) := by decide +kernel
theorem dX6_turn_34 : decode cX6_turn 34 = .ok (.iconst 1, 1) := by decide +kernel
theorem dX6_turn_35 : decode cX6_turn 35 = .ok (.istore 5, 2) := by decide +kernel
theorem dX6_turn_37 : decode cX6_turn 37 = .ok (.iconst 0, 1) := by decide +kernel
theorem dX6_turn_38 : decode cX6_turn 38 = .ok (.istore 6, 2) := by decide +kernel
theorem dX6_turn_40 : decode cX6_turn 40 = .ok (.iload 6, 2) := by decide +kernel
theorem dX6_turn_42 : decode cX6_turn 42 = .ok (.bipush 14, 2) := by decide +kernel
theorem dX6_turn_44 : decode cX6_turn 44 = .ok (.if_icmp .gt 126, 3) := by decide +kernel
theorem dX6_turn_47 : decode cX6_turn 47 = .ok (.iload 5, 2) := by decide +kernel
theorem dX6_turn_49 : decode cX6_turn 49 = .ok (.ifCond .eq 121, 3) := by decide +kernel
theorem dX6_turn_52 : decode cX6_turn 52 = .ok (.iload_n 3, 1) := by decide +kernel
theorem dX6_turn_53 : decode cX6_turn 53 = .ok (.istore 7, 2) := by decide +kernel
theorem dX6_turn_55 : decode cX6_turn 55 = .ok (.iconst 0, 1) := by decide +kernel
theorem dX6_turn_56 : decode cX6_turn 56 = .ok (.istore 8, 2) := by decide +kernel
theorem dX6_turn_58 : decode cX6_turn 58 = .ok (.iload 8, 2) := by decide +kernel
theorem dX6_turn_60 : decode cX6_turn 60 = .ok (.aload_n 0, 1) := by decide +kernel
theorem dX6_turn_61 : decode cX6_turn 61 = .ok (.getfield 10, 3) := by decide +kernel
theorem dX6_turn_64 : decode cX6_turn 64 = .ok (.getfield 59, 3) := by decide +kernel
theorem dX6_turn_67 : decode cX6_turn 67 = .ok (.if_icmp .ge 84, 3) := by decide +kernel
theorem dX6_turn_70 : decode cX6_turn 70 = .ok (.aload_n 0, 1) := by decide +kernel
theorem dX6_turn_71 : decode cX6_turn 71 = .ok (.getfield 10, 3) := by decide +kernel
theorem dX6_turn_74 : decode cX6_turn 74 = .ok (.getfield 173, 3) := by decide +kernel
theorem dX6_turn_77 : decode cX6_turn 77 = .ok (.iload 8, 2) := by decide +kernel
theorem dX6_turn_79 : decode cX6_turn 79 = .ok (.iaload, 1) := by decide +kernel
theorem dX6_turn_80 : decode cX6_turn 80 = .ok (.ifCond .le 21, 3) := by decide +kernel
theorem dX6_turn_83 : decode cX6_turn 83 = .ok (.aload_n 0, 1) := by decide +kernel
theorem dX6_turn_84 : decode cX6_turn 84 = .ok (.getfield 10, 3) := by decide +kernel
theorem dX6_turn_87 : decode cX6_turn 87 = .ok (.getfield 173, 3) := by decide +kernel
theorem dX6_turn_90 : decode cX6_turn 90 = .ok (.iload 8, 2) := by decide +kernel
theorem dX6_turn_92 : decode cX6_turn 92 = .ok (.iaload, 1) := by decide +kernel
theorem dX6_turn_93 : decode cX6_turn 93 = .ok (.iload_n 1, 1) := by decide +kernel
theorem dX6_turn_94 : decode cX6_turn 94 = .ok (.if_icmp .gt 7, 3) := by decide +kernel
theorem dX6_turn_97 : decode cX6_turn 97 = .ok (.iconst 1, 1) := by decide +kernel
theorem dX6_turn_98 : decode cX6_turn 98 = .ok (.goto 4, 3) := by decide +kernel
theorem dX6_turn_101 : decode cX6_turn 101 = .ok (.iconst 0, 1) := by decide +kernel
theorem dX6_turn_102 : decode cX6_turn 102 = .ok (.istore 9, 2) := by decide +kernel
theorem dX6_turn_104 : decode cX6_turn 104 = .ok (.iload 9, 2) := by decide +kernel
theorem dX6_turn_106 : decode cX6_turn 106 = .ok (.ifCond .eq 39, 3) := by decide +kernel
theorem dX6_turn_109 : decode cX6_turn 109 = .ok (.aload_n 0, 1) := by decide +kernel
theorem dX6_turn_110 : decode cX6_turn 110 = .ok (.getfield 26, 3) := by decide +kernel
theorem dX6_turn_113 : decode cX6_turn 113 = .ok (.iload 8, 2) := by decide +kernel
theorem dX6_turn_115 : decode cX6_turn 115 = .ok (.iload_n 3, 1) := by decide +kernel
theorem dX6_turn_116 : decode cX6_turn 116 = .ok (.invokevirtual 170, 3) := by decide +kernel
theorem dX6_turn_119 : decode cX6_turn 119 = .ok (.ifCond .ne 26, 3) := by decide +kernel
theorem dX6_turn_122 : decode cX6_turn 122 = .ok (.aload_n 0, 1) := by decide +kernel
theorem dX6_turn_123 : decode cX6_turn 123 = .ok (.getfield 26, 3) := by decide +kernel
theorem dX6_turn_126 : decode cX6_turn 126 = .ok (.iload 8, 2) := by decide +kernel
theorem dX6_turn_128 : decode cX6_turn 128 = .ok (.iload_n 3, 1) := by decide +kernel
theorem dX6_turn_129 : decode cX6_turn 129 = .ok (.invokevirtual 176, 3) := by decide +kernel
theorem dX6_turn_132 : decode cX6_turn 132 = .ok (.ifCond .eq 13, 3) := by decide +kernel
theorem dX6_turn_135 : decode cX6_turn 135 = .ok (.iload_n 3, 1) := by decide +kernel
theorem dX6_turn_136 : decode cX6_turn 136 = .ok (.iconst 1, 1) := by decide +kernel
theorem dX6_turn_137 : decode cX6_turn 137 = .ok (.iload 8, 2) := by decide +kernel
theorem dX6_turn_139 : decode cX6_turn 139 = .ok (.ishl, 1) := by decide +kernel
theorem dX6_turn_140 : decode cX6_turn 140 = .ok (.ior, 1) := by decide +kernel
theorem dX6_turn_141 : decode cX6_turn 141 = .ok (.istore_n 3, 1) := by decide +kernel
theorem dX6_turn_142 : decode cX6_turn 142 = .ok (.iinc 4 1, 3) := by decide +kernel
theorem dX6_turn_145 : decode cX6_turn 145 = .ok (.iinc 8 1, 3) := by decide +kernel
theorem dX6_turn_148 : decode cX6_turn 148 = .ok (.goto (-90), 3) := by decide +kernel
theorem dX6_turn_151 : decode cX6_turn 151 = .ok (.iload_n 3, 1) := by decide +kernel
theorem dX6_turn_152 : decode cX6_turn 152 = .ok (.iload 7, 2) := by decide +kernel
theorem dX6_turn_154 : decode cX6_turn 154 = .ok (.if_icmp .eq 7, 3) := by decide +kernel
theorem dX6_turn_157 : decode cX6_turn 157 = .ok (.iconst 1, 1) := by decide +kernel
theorem dX6_turn_158 : decode cX6_turn 158 = .ok (.goto 4, 3) := by decide +kernel
theorem dX6_turn_161 : decode cX6_turn 161 = .ok (.iconst 0, 1) := by decide +kernel
theorem dX6_turn_162 : decode cX6_turn 162 = .ok (.istore 5, 2) := by decide +kernel
theorem dX6_turn_164 : decode cX6_turn 164 = .ok (.iinc 6 1, 3) := by decide +kernel
theorem dX6_turn_167 : decode cX6_turn 167 = .ok (.goto (-127), 3) := by decide +kernel
theorem dX6_turn_170 : decode cX6_turn 170 = .ok (.iload_n 2, 1) := by decide +kernel
theorem dX6_turn_171 : decode cX6_turn 171 = .ok (.ifCond .ne 8, 3) := by decide +kernel
theorem dX6_turn_174 : decode cX6_turn 174 = .ok (.iload 4, 2) := by decide +kernel
theorem dX6_turn_176 : decode cX6_turn 176 = .ok (.goto 4, 3) := by decide +kernel
theorem dX6_turn_179 : decode cX6_turn 179 = .ok (.iload_n 3, 1) := by decide +kernel
theorem dX6_turn_180 : decode cX6_turn 180 = .ok (.ireturn, 1) := by decide +kernel
theorem dX6_undo_0 : decode cX6_undo 0 = .ok (.aload_n 0, 1) := by decide +kernel
theorem dX6_undo_1 : decode cX6_undo 1 = .ok (.getfield 33, 3) := by decide +kernel
theorem dX6_undo_4 : decode cX6_undo 4 = .ok (.getfield 225, 3) := by decide +kernel
theorem dX6_undo_7 : decode cX6_undo 7 = .ok (.ifCond .ne 8, 3) := by decide +kernel
theorem dX6_undo_10 : decode cX6_undo 10 = .ok (.bipush (-5), 2) := by decide +kernel
theorem dX6_undo_12 : decode cX6_undo 12 = .ok (.goto 14, 3) := by decide +kernel
theorem dX6_undo_15 : decode cX6_undo 15 = .ok (.aload_n 0, 1) := by decide +kernel
theorem dX6_undo_16 : decode cX6_undo 16 = .ok (.getfield 33, 3) := by decide +kernel
theorem dX6_undo_19 : decode cX6_undo 19 = .ok (.aload_n 0, 1) := by decide +kernel
theorem dX6_undo_20 : decode cX6_undo 20 = .ok (.getfield 10, 3) := by decide +kernel
theorem dX6_undo_23 : decode cX6_undo 23 = .ok (.invokevirtual 228, 3) := by decide +kernel
theorem dX6_undo_26 : decode cX6_undo 26 = .ok (.ireturn, 1) := by decide +kernel
theorem dX6_redo_0 : decode cX6_redo 0 = .ok (.aload_n 0, 1) := by decide +kernel
theorem dX6_redo_1 : decode cX6_redo 1 = .ok (.getfield 33, 3) := by decide +kernel
theorem dX6_redo_4 : decode cX6_redo 4 = .ok (.getfield 225, 3) := by decide +kernel
theorem dX6_redo_7 : decode cX6_redo 7 = .ok (.aload_n 0, 1) := by decide +kernel
theorem dX6_redo_8 : decode cX6_redo 8 = .ok (.getfield 33, 3) := by decide +kernel
theorem dX6_redo_11 : decode cX6_redo 11 = .ok (.getfield 232, 3) := by decide +kernel
theorem dX6_redo_14 : decode cX6_redo 14 = .ok (.if_icmp .ne 8, 3) := by decide +kernel
theorem dX6_redo_17 : decode cX6_redo 17 = .ok (.bipush (-5), 2) := by decide +kernel
theorem dX6_redo_19 : decode cX6_redo 19 = .ok (.goto 14, 3) := by decide +kernel
theorem dX6_redo_22 : decode cX6_redo 22 = .ok (.aload_n 0, 1) := by decide +kernel
theorem dX6_redo_23 : decode cX6_redo 23 = .ok (.getfield 33, 3) := by decide +kernel
theorem dX6_redo_26 : decode cX6_redo 26 = .ok (.aload_n 0, 1) := by decide +kernel
theorem dX6_redo_27 : decode cX6_redo 27 = .ok (.getfield 10, 3) := by decide +kernel
theorem dX6_redo_30 : decode cX6_redo 30 = .ok (.invokevirtual 235, 3) := by decide +kernel
theorem dX6_redo_33 : decode cX6_redo 33 = .ok (.ireturn, 1) := by decide +kernel
theorem dX6_body_0 : decode cX6_body 0 = .ok (.iload_n 1, 1) := by decide +kernel
theorem dX6_body_1 : decode cX6_body 1 = .ok (.invokestatic 238, 3) := by decide +kernel
theorem dX6_body_4 : decode cX6_body 4 = .ok (.ifCond .ne 5, 3) := by decide +kernel
theorem dX6_body_7 : decode cX6_body 7 = .ok (.iconst (-1), 1) := by decide +kernel
theorem dX6_body_8 : decode cX6_body 8 = .ok (.ireturn, 1) := by decide +kernel
theorem dX6_body_9 : decode cX6_body 9 = .ok (.aload_n 0, 1) := by decide +kernel
theorem dX6_body_10 : decode cX6_body 10 = .ok (.getfield 40, 3) := by decide +kernel
theorem dX6_body_13 : decode cX6_body 13 = .ok (.getfield 241, 3) := by decide +kernel
theorem dX6_body_16 : decode cX6_body 16 = .ok (.bipush 50, 2) := by decide +kernel
theorem dX6_body_18 : decode cX6_body 18 = .ok (.if_icmp .lt 8, 3) := by decide +kernel
theorem dX6_body_21 : decode cX6_body 21 = .ok (.bipush (-3), 2) := by decide +kernel
theorem dX6_body_23 : decode cX6_body 23 = .ok (.goto 11, 3) := by decide +kernel
theorem dX6_body_26 : decode cX6_body 26 = .ok (.aload_n 0, 1) := by decide +kernel
theorem dX6_body_27 : decode cX6_body 27 = .ok (.getfield 40, 3) := by decide +kernel
theorem dX6_body_30 : decode cX6_body 30 = .ok (.iload_n 1, 1) := by decide +kernel
theorem dX6_body_31 : decode cX6_body 31 = .ok (.invokevirtual 244, 3) := by decide +kernel
theorem dX6_body_34 : decode cX6_body 34 = .ok (.ireturn, 1) := by decide +kernel
theorem dX6_act_0 : decode cX6_act 0 = .ok (.aload_n 0, 1) := by decide +kernel
theorem dX6_act_1 : decode cX6_act 1 = .ok (.getfield 40, 3) := by decide +kernel
theorem dX6_act_4 : decode cX6_act 4 = .ok (.iload_n 1, 1) := by decide +kernel
theorem dX6_act_5 : decode cX6_act 5 = .ok (.iload_n 2, 1) := by decide +kernel
theorem dX6_act_6 : decode cX6_act 6 = .ok (.iload_n 3, 1) := by decide +kernel
theorem dX6_act_7 : decode cX6_act 7 = .ok (.invokevirtual 247, 3) := by decide +kernel
theorem dX6_act_10 : decode cX6_act 10 = .ok (.ireturn, 1) := by decide +kernel
theorem dX6_trace_0 : decode cX6_trace 0 = .ok (.iload_n 1, 1) := by decide +kernel
theorem dX6_trace_1 : decode cX6_trace 1 = .ok (.ifCond .lt 32, 3) := by decide +kernel
theorem dX6_trace_4 : decode cX6_trace 4 = .ok (.iload_n 1, 1) := by decide +kernel
theorem dX6_trace_5 : decode cX6_trace 5 = .ok (.bipush 24, 2) := by decide +kernel
theorem dX6_trace_7 : decode cX6_trace 7 = .ok (.if_icmp .ge 26, 3) := by decide +kernel
theorem dX6_trace_10 : decode cX6_trace 10 = .ok (.iload_n 1, 1) := by decide +kernel
theorem dX6_trace_11 : decode cX6_trace 11 = .ok (.aload_n 0, 1) := by decide +kernel
theorem dX6_trace_12 : decode cX6_trace 12 = .ok (.getfield 40, 3) := by decide +kernel
theorem dX6_trace_15 : decode cX6_trace 15 = .ok (.getfield 250, 3) := by decide +kernel
theorem dX6_trace_18 : decode cX6_trace 18 = .ok (.if_icmp .ge 15, 3) := by decide +kernel
theorem dX6_trace_21 : decode cX6_trace 21 = .ok (.aload_n 0, 1) := by decide +kernel
theorem dX6_trace_22 : decode cX6_trace 22 = .ok (.getfield 40, 3) := by decide +kernel
theorem dX6_trace_25 : decode cX6_trace 25 = .ok (.getfield 253, 3) := by decide +kernel
theorem dX6_trace_28 : decode cX6_trace 28 = .ok (.iload_n 1, 1) := by decide +kernel
theorem dX6_trace_29 : decode cX6_trace 29 = .ok (.iaload, 1) := by decide +kernel
theorem dX6_trace_30 : decode cX6_trace 30 = .ok (.goto 4, 3) := by decide +kernel
theorem dX6_trace_33 : decode cX6_trace 33 = .ok (.iconst (-1), 1) := by decide +kernel
theorem dX6_trace_34 : decode cX6_trace 34 = .ok (.ireturn, 1) := by decide +kernel
theorem dX6_keep_0 : decode cX6_keep 0 = .ok (.iload_n 1, 1) := by decide +kernel
theorem dX6_keep_1 : decode cX6_keep 1 = .ok (.invokestatic 77, 3) := by decide +kernel
theorem dX6_keep_4 : decode cX6_keep 4 = .ok (.ifCond .eq 19, 3) := by decide +kernel
theorem dX6_keep_7 : decode cX6_keep 7 = .ok (.iload_n 2, 1) := by decide +kernel
theorem dX6_keep_8 : decode cX6_keep 8 = .ok (.iconst (-1), 1) := by decide +kernel
theorem dX6_keep_9 : decode cX6_keep 9 = .ok (.if_icmp .lt 14, 3) := by decide +kernel
theorem dX6_keep_12 : decode cX6_keep 12 = .ok (.iload_n 2, 1) := by decide +kernel
theorem dX6_keep_13 : decode cX6_keep 13 = .ok (.aload_n 0, 1) := by decide +kernel
theorem dX6_keep_14 : decode cX6_keep 14 = .ok (.getfield 40, 3) := by decide +kernel
theorem dX6_keep_17 : decode cX6_keep 17 = .ok (.getfield 241, 3) := by decide +kernel
theorem dX6_keep_20 : decode cX6_keep 20 = .ok (.if_icmp .lt 5, 3) := by decide +kernel
theorem dX6_keep_23 : decode cX6_keep 23 = .ok (.iconst (-1), 1) := by decide +kernel
theorem dX6_keep_24 : decode cX6_keep 24 = .ok (.ireturn, 1) := by decide +kernel
theorem dX6_keep_25 : decode cX6_keep 25 = .ok (.aload_n 0, 1) := by decide +kernel
theorem dX6_keep_26 : decode cX6_keep 26 = .ok (.getfield 46, 3) := by decide +kernel
theorem dX6_keep_29 : decode cX6_keep 29 = .ok (.iload_n 1, 1) := by decide +kernel
theorem dX6_keep_30 : decode cX6_keep 30 = .ok (.aaload, 1) := by decide +kernel
theorem dX6_keep_31 : decode cX6_keep 31 = .ok (.iload_n 2, 1) := by decide +kernel
theorem dX6_keep_32 : decode cX6_keep 32 = .ok (.ifCond .ge 7, 3) := by decide +kernel
theorem dX6_keep_35 : decode cX6_keep 35 = .ok (.iconst 0, 1) := by decide +kernel
theorem dX6_keep_36 : decode cX6_keep 36 = .ok (.goto 4, 3) := by decide +kernel
theorem dX6_keep_39 : decode cX6_keep 39 = .ok (.iconst 1, 1) := by decide +kernel
theorem dX6_keep_40 : decode cX6_keep 40 = .ok (.putfield 81, 3) := by decide +kernel
theorem dX6_keep_43 : decode cX6_keep 43 = .ok (.aload_n 0, 1) := by decide +kernel
theorem dX6_keep_44 : decode cX6_keep 44 = .ok (.getfield 46, 3) := by decide +kernel
theorem dX6_keep_47 : decode cX6_keep 47 = .ok (.iload_n 1, 1) := by decide +kernel
theorem dX6_keep_48 : decode cX6_keep 48 = .ok (.aaload, 1) := by decide +kernel
theorem dX6_keep_49 : decode cX6_keep 49 = .ok (.iload_n 2, 1) := by decide +kernel
theorem dX6_keep_50 : decode cX6_keep 50 = .ok (.putfield 256, 3) := by decide +kernel
theorem dX6_keep_53 : decode cX6_keep 53 = .ok (.iconst 1, 1) := by decide +kernel
theorem dX6_keep_54 : decode cX6_keep 54 = .ok (.ireturn, 1) := by decide +kernel
theorem dX6_row_0 : decode cX6_row 0 = .ok (.iload_n 1, 1) := by decide +kernel
theorem dX6_row_1 : decode cX6_row 1 = .ok (.invokestatic 77, 3) := by decide +kernel
theorem dX6_row_4 : decode cX6_row 4 = .ok (.ifCond .eq 18, 3) := by decide +kernel
theorem dX6_row_7 : decode cX6_row 7 = .ok (.iload_n 2, 1) := by decide +kernel
theorem dX6_row_8 : decode cX6_row 8 = .ok (.ifCond .lt 14, 3) := by decide +kernel
theorem dX6_row_11 : decode cX6_row 11 = .ok (.iload_n 2, 1) := by decide +kernel
theorem dX6_row_12 : decode cX6_row 12 = .ok (.iconst 5, 1) := by decide +kernel
theorem dX6_row_13 : decode cX6_row 13 = .ok (.if_icmp .ge 9, 3) := by decide +kernel
theorem dX6_row_16 : decode cX6_row 16 = .ok (.iload_n 3, 1) := by decide +kernel
