theorem dX3_lay_186 : decode cX3_lay 186 = .ok (.getfield 29, 3) := by decide +kernel
theorem dX3_lay_189 : decode cX3_lay 189 = .ok (.invokestatic 93, 3) := by decide +kernel
theorem dX3_lay_192 : decode cX3_lay 192 = .ok (.aload_n 0, 1) := by decide +kernel
theorem dX3_lay_193 : decode cX3_lay 193 = .ok (.getfield 23, 3) := by decide +kernel
theorem dX3_lay_196 : decode cX3_lay 196 = .ok (.bipush 7, 2) := by decide +kernel
theorem dX3_lay_198 : decode cX3_lay 198 = .ok (.aload_n 0, 1) := by decide +kernel
theorem dX3_lay_199 : decode cX3_lay 199 = .ok (.getfield 32, 3) := by decide +kernel
theorem dX3_lay_202 : decode cX3_lay 202 = .ok (.invokestatic 93, 3) := by decide +kernel
theorem dX3_lay_205 : decode cX3_lay 205 = .ok (.aload_n 0, 1) := by decide +kernel
theorem dX3_lay_206 : decode cX3_lay 206 = .ok (.getfield 26, 3) := by decide +kernel
theorem dX3_lay_209 : decode cX3_lay 209 = .ok (.iconst 0, 1) := by decide +kernel
theorem dX3_lay_210 : decode cX3_lay 210 = .ok (.aload_n 0, 1) := by decide +kernel
theorem dX3_lay_211 : decode cX3_lay 211 = .ok (.getfield 35, 3) := by decide +kernel
theorem dX3_lay_214 : decode cX3_lay 214 = .ok (.invokestatic 93, 3) := by decide +kernel
theorem dX3_lay_217 : decode cX3_lay 217 = .ok (.aload_n 0, 1) := by decide +kernel
theorem dX3_lay_218 : decode cX3_lay 218 = .ok (.getfield 26, 3) := by decide +kernel
theorem dX3_lay_221 : decode cX3_lay 221 = .ok (.bipush 7, 2) := by decide +kernel
theorem dX3_lay_223 : decode cX3_lay 223 = .ok (.aload_n 0, 1) := by decide +kernel
theorem dX3_lay_224 : decode cX3_lay 224 = .ok (.getfield 38, 3) := by decide +kernel
theorem dX3_lay_227 : decode cX3_lay 227 = .ok (.invokestatic 93, 3) := by decide +kernel
theorem dX3_lay_230 : decode cX3_lay 230 = .ok (.return_, 1) := by decide +kernel
theorem dX3_isThere_0 : decode cX3_isThere 0 = .ok (.aload_n 0, 1) := by decide +kernel
theorem dX3_isThere_1 : decode cX3_isThere 1 = .ok (.getfield 41, 3) := by decide +kernel
theorem dX3_isThere_4 : decode cX3_isThere 4 = .ok (.iload_n 1, 1) := by decide +kernel
theorem dX3_isThere_5 : decode cX3_isThere 5 = .ok (.ishr, 1) := by decide +kernel
theorem dX3_isThere_6 : decode cX3_isThere 6 = .ok (.iconst 1, 1) := by decide +kernel
theorem dX3_isThere_7 : decode cX3_isThere 7 = .ok (.iand, 1) := by decide +kernel
theorem dX3_isThere_8 : decode cX3_isThere 8 = .ok (.ifCond .eq 7, 3) := by decide +kernel
theorem dX3_isThere_11 : decode cX3_isThere 11 = .ok (.iconst 1, 1) := by decide +kernel
theorem dX3_isThere_12 : decode cX3_isThere 12 = .ok (.goto 4, 3) := by decide +kernel
theorem dX3_isThere_15 : decode cX3_isThere 15 = .ok (.iconst 0, 1) := by decide +kernel
theorem dX3_isThere_16 : decode cX3_isThere 16 = .ok (.ireturn, 1) := by decide +kernel
theorem dX3_link_0 : decode cX3_link 0 = .ok (.iload_n 1, 1) := by decide +kernel
theorem dX3_link_1 : decode cX3_link 1 = .ok (.bipush 100, 2) := by decide +kernel
theorem dX3_link_3 : decode cX3_link 3 = .ok (.idiv, 1) := by decide +kernel
theorem dX3_link_4 : decode cX3_link 4 = .ok (.istore_n 2, 1) := by decide +kernel
theorem dX3_link_5 : decode cX3_link 5 = .ok (.iload_n 1, 1) := by decide +kernel
theorem dX3_link_6 : decode cX3_link 6 = .ok (.bipush 100, 2) := by decide +kernel
theorem dX3_link_8 : decode cX3_link 8 = .ok (.irem, 1) := by decide +kernel
theorem dX3_link_9 : decode cX3_link 9 = .ok (.istore_n 3, 1) := by decide +kernel
theorem dX3_link_10 : decode cX3_link 10 = .ok (.aload_n 0, 1) := by decide +kernel
theorem dX3_link_11 : decode cX3_link 11 = .ok (.iload_n 2, 1) := by decide +kernel
theorem dX3_link_12 : decode cX3_link 12 = .ok (.invokevirtual 57, 3) := by decide +kernel
theorem dX3_link_15 : decode cX3_link 15 = .ok (.ifCond .eq 35, 3) := by decide +kernel
theorem dX3_link_18 : decode cX3_link 18 = .ok (.aload_n 0, 1) := by decide +kernel
theorem dX3_link_19 : decode cX3_link 19 = .ok (.iload_n 3, 1) := by decide +kernel
theorem dX3_link_20 : decode cX3_link 20 = .ok (.invokevirtual 57, 3) := by decide +kernel
theorem dX3_link_23 : decode cX3_link 23 = .ok (.ifCond .eq 27, 3) := by decide +kernel
theorem dX3_link_26 : decode cX3_link 26 = .ok (.aload_n 0, 1) := by decide +kernel
theorem dX3_link_27 : decode cX3_link 27 = .ok (.getfield 16, 3) := by decide +kernel
theorem dX3_link_30 : decode cX3_link 30 = .ok (.iload_n 2, 1) := by decide +kernel
theorem dX3_link_31 : decode cX3_link 31 = .ok (.dup2, 1) := by decide +kernel
theorem dX3_link_32 : decode cX3_link 32 = .ok (.iaload, 1) := by decide +kernel
theorem dX3_link_33 : decode cX3_link 33 = .ok (.iconst 1, 1) := by decide +kernel
theorem dX3_link_34 : decode cX3_link 34 = .ok (.iload_n 3, 1) := by decide +kernel
theorem dX3_link_35 : decode cX3_link 35 = .ok (.ishl, 1) := by decide +kernel
theorem dX3_link_36 : decode cX3_link 36 = .ok (.ior, 1) := by decide +kernel
theorem dX3_link_37 : decode cX3_link 37 = .ok (.iastore, 1) := by decide +kernel
theorem dX3_link_38 : decode cX3_link 38 = .ok (.aload_n 0, 1) := by decide +kernel
theorem dX3_link_39 : decode cX3_link 39 = .ok (.getfield 16, 3) := by decide +kernel
theorem dX3_link_42 : decode cX3_link 42 = .ok (.iload_n 3, 1) := by decide +kernel
theorem dX3_link_43 : decode cX3_link 43 = .ok (.dup2, 1) := by decide +kernel
theorem dX3_link_44 : decode cX3_link 44 = .ok (.iaload, 1) := by decide +kernel
theorem dX3_link_45 : decode cX3_link 45 = .ok (.iconst 1, 1) := by decide +kernel
theorem dX3_link_46 : decode cX3_link 46 = .ok (.iload_n 2, 1) := by decide +kernel
theorem dX3_link_47 : decode cX3_link 47 = .ok (.ishl, 1) := by decide +kernel
theorem dX3_link_48 : decode cX3_link 48 = .ok (.ior, 1) := by decide +kernel
theorem dX3_link_49 : decode cX3_link 49 = .ok (.iastore, 1) := by decide +kernel
theorem dX3_link_50 : decode cX3_link 50 = .ok (.return_, 1) := by decide +kernel
theorem dX3_walk_0 : decode cX3_walk 0 = .ok (.iconst 0, 1) := by decide +kernel
theorem dX3_walk_1 : decode cX3_walk 1 = .ok (.istore_n 2, 1) := by decide +kernel
theorem dX3_walk_2 : decode cX3_walk 2 = .ok (.iload_n 2, 1) := by decide +kernel
theorem dX3_walk_3 : decode cX3_walk 3 = .ok (.bipush 14, 2) := by decide +kernel
theorem dX3_walk_5 : decode cX3_walk 5 = .ok (.if_icmp .ge 19, 3) := by decide +kernel
theorem dX3_walk_8 : decode cX3_walk 8 = .ok (.aload_n 0, 1) := by decide +kernel
theorem dX3_walk_9 : decode cX3_walk 9 = .ok (.getfield 13, 3) := by decide +kernel
theorem dX3_walk_12 : decode cX3_walk 12 = .ok (.iload_n 1, 1) := by decide +kernel
theorem dX3_walk_13 : decode cX3_walk 13 = .ok (.aaload, 1) := by decide +kernel
theorem dX3_walk_14 : decode cX3_walk 14 = .ok (.iload_n 2, 1) := by decide +kernel
theorem dX3_walk_15 : decode cX3_walk 15 = .ok (.bipush 99, 2) := by decide +kernel
theorem dX3_walk_17 : decode cX3_walk 17 = .ok (.iastore, 1) := by decide +kernel
theorem dX3_walk_18 : decode cX3_walk 18 = .ok (.iinc 2 1, 3) := by decide +kernel
theorem dX3_walk_21 : decode cX3_walk 21 = .ok (.goto (-19), 3) := by decide +kernel
theorem dX3_walk_24 : decode cX3_walk 24 = .ok (.iconst 1, 1) := by decide +kernel
theorem dX3_walk_25 : decode cX3_walk 25 = .ok (.iload_n 1, 1) := by decide +kernel
theorem dX3_walk_26 : decode cX3_walk 26 = .ok (.ishl, 1) := by decide +kernel
theorem dX3_walk_27 : decode cX3_walk 27 = .ok (.istore_n 2, 1) := by decide +kernel
theorem dX3_walk_28 : decode cX3_walk 28 = .ok (.iload_n 2, 1) := by decide +kernel
theorem dX3_walk_29 : decode cX3_walk 29 = .ok (.istore_n 3, 1) := by decide +kernel
theorem dX3_walk_30 : decode cX3_walk 30 = .ok (.iconst 0, 1) := by decide +kernel
theorem dX3_walk_31 : decode cX3_walk 31 = .ok (.istore 4, 2) := by decide +kernel
theorem dX3_walk_33 : decode cX3_walk 33 = .ok (.iload 4, 2) := by decide +kernel
theorem dX3_walk_35 : decode cX3_walk 35 = .ok (.bipush 14, 2) := by decide +kernel
theorem dX3_walk_37 : decode cX3_walk 37 = .ok (.if_icmp .ge 75, 3) := by decide +kernel
theorem dX3_walk_40 : decode cX3_walk 40 = .ok (.iload_n 3, 1) := by decide +kernel
theorem dX3_walk_41 : decode cX3_walk 41 = .ok (.ifCond .eq 71, 3) := by decide +kernel
theorem dX3_walk_44 : decode cX3_walk 44 = .ok (.iconst 0, 1) := by decide +kernel
theorem dX3_walk_45 : decode cX3_walk 45 = .ok (.istore 5, 2) := by decide +kernel
theorem dX3_walk_47 : decode cX3_walk 47 = .ok (.iconst 0, 1) := by decide +kernel
theorem dX3_walk_48 : decode cX3_walk 48 = .ok (.istore 6, 2) := by decide +kernel
theorem dX3_walk_50 : decode cX3_walk 50 = .ok (.iload 6, 2) := by decide +kernel
theorem dX3_walk_52 : decode cX3_walk 52 = .ok (.bipush 14, 2) := by decide +kernel
theorem dX3_walk_54 : decode cX3_walk 54 = .ok (.if_icmp .ge 41, 3) := by decide +kernel
theorem dX3_walk_57 : decode cX3_walk 57 = .ok (.iload_n 3, 1) := by decide +kernel
theorem dX3_walk_58 : decode cX3_walk 58 = .ok (.iload 6, 2) := by decide +kernel
theorem dX3_walk_60 : decode cX3_walk 60 = .ok (.ishr, 1) := by decide +kernel
theorem dX3_walk_61 : decode cX3_walk 61 = .ok (.iconst 1, 1) := by decide +kernel
theorem dX3_walk_62 : decode cX3_walk 62 = .ok (.iand, 1) := by decide +kernel
theorem dX3_walk_63 : decode cX3_walk 63 = .ok (.ifCond .eq 26, 3) := by decide +kernel
theorem dX3_walk_66 : decode cX3_walk 66 = .ok (.aload_n 0, 1) := by decide +kernel
theorem dX3_walk_67 : decode cX3_walk 67 = .ok (.getfield 13, 3) := by decide +kernel
theorem dX3_walk_70 : decode cX3_walk 70 = .ok (.iload_n 1, 1) := by decide +kernel
theorem dX3_walk_71 : decode cX3_walk 71 = .ok (.aaload, 1) := by decide +kernel
theorem dX3_walk_72 : decode cX3_walk 72 = .ok (.iload 6, 2) := by decide +kernel
theorem dX3_walk_74 : decode cX3_walk 74 = .ok (.iload 4, 2) := by decide +kernel
theorem dX3_walk_76 : decode cX3_walk 76 = .ok (.iastore, 1) := by decide +kernel
theorem dX3_walk_77 : decode cX3_walk 77 = .ok (.iload 5, 2) := by decide +kernel
theorem dX3_walk_79 : decode cX3_walk 79 = .ok (.aload_n 0, 1) := by decide +kernel
theorem dX3_walk_80 : decode cX3_walk 80 = .ok (.getfield 16, 3) := by decide +kernel
theorem dX3_walk_83 : decode cX3_walk 83 = .ok (.iload 6, 2) := by decide +kernel
theorem dX3_walk_85 : decode cX3_walk 85 = .ok (.iaload, 1) := by decide +kernel
theorem dX3_walk_86 : decode cX3_walk 86 = .ok (.ior, 1) := by decide +kernel
theorem dX3_walk_87 : decode cX3_walk 87 = .ok (.istore 5, 2) := by decide +kernel
theorem dX3_walk_89 : decode cX3_walk 89 = .ok (.iinc 6 1, 3) := by decide +kernel
theorem dX3_walk_92 : decode cX3_walk 92 = .ok (.goto (-42), 3) := by decide +kernel
theorem dX3_walk_95 : decode cX3_walk 95 = .ok (.iload 5, 2) := by decide +kernel
theorem dX3_walk_97 : decode cX3_walk 97 = .ok (.iload_n 2, 1) := by decide +kernel
theorem dX3_walk_98 : decode cX3_walk 98 = .ok (.iconst (-1), 1) := by decide +kernel
theorem dX3_walk_99 : decode cX3_walk 99 = .ok (.ixor, 1) := by decide +kernel
theorem dX3_walk_100 : decode cX3_walk 100 = .ok (.iand, 1) := by decide +kernel
theorem dX3_walk_101 : decode cX3_walk 101 = .ok (.istore_n 3, 1) := by decide +kernel
theorem dX3_walk_102 : decode cX3_walk 102 = .ok (.iload_n 2, 1) := by decide +kernel
theorem dX3_walk_103 : decode cX3_walk 103 = .ok (.iload_n 3, 1) := by decide +kernel
theorem dX3_walk_104 : decode cX3_walk 104 = .ok (.ior, 1) := by decide +kernel
theorem dX3_walk_105 : decode cX3_walk 105 = .ok (.istore_n 2, 1) := by decide +kernel
theorem dX3_walk_106 : decode cX3_walk 106 = .ok (.iinc 4 1, 3) := by decide +kernel
theorem dX3_walk_109 : decode cX3_walk 109 = .ok (.goto (-76), 3) := by decide +kernel
theorem dX3_walk_112 : decode cX3_walk 112 = .ok (.return_, 1) := by decide +kernel
theorem dX3_measure_0 : decode cX3_measure 0 = .ok (.aload_n 0, 1) := by decide +kernel
theorem dX3_measure_1 : decode cX3_measure 1 = .ok (.getfield 23, 3) := by decide +kernel
theorem dX3_measure_4 : decode cX3_measure 4 = .ok (.iload_n 1, 1) := by decide +kernel
theorem dX3_measure_5 : decode cX3_measure 5 = .ok (.iconst 0, 1) := by decide +kernel
theorem dX3_measure_6 : decode cX3_measure 6 = .ok (.iastore, 1) := by decide +kernel
theorem dX3_measure_7 : decode cX3_measure 7 = .ok (.aload_n 0, 1) := by decide +kernel
theorem dX3_measure_8 : decode cX3_measure 8 = .ok (.getfield 26, 3) := by decide +kernel
theorem dX3_measure_11 : decode cX3_measure 11 = .ok (.iload_n 1, 1) := by decide +kernel
theorem dX3_measure_12 : decode cX3_measure 12 = .ok (.iconst 0, 1) := by decide +kernel
theorem dX3_measure_13 : decode cX3_measure 13 = .ok (.iastore, 1) := by decide +kernel
theorem dX3_measure_14 : decode cX3_measure 14 = .ok (.iconst 0, 1) := by decide +kernel
theorem dX3_measure_15 : decode cX3_measure 15 = .ok (.istore_n 3, 1) := by decide +kernel
theorem dX3_measure_16 : decode cX3_measure 16 = .ok (.iload_n 3, 1) := by decide +kernel
theorem dX3_measure_17 : decode cX3_measure 17 = .ok (.bipush 14, 2) := by decide +kernel
theorem dX3_measure_19 : decode cX3_measure 19 = .ok (.if_icmp .ge 75, 3) := by decide +kernel
theorem dX3_measure_22 : decode cX3_measure 22 = .ok (.aload_n 0, 1) := by decide +kernel
theorem dX3_measure_23 : decode cX3_measure 23 = .ok (.iload_n 1, 1) := by decide +kernel
theorem dX3_measure_24 : decode cX3_measure 24 = .ok (.invokevirtual 57, 3) := by decide +kernel
theorem dX3_measure_27 : decode cX3_measure 27 = .ok (.ifCond .eq 67, 3) := by decide +kernel
theorem dX3_measure_30 : decode cX3_measure 30 = .ok (.aload_n 0, 1) := by decide +kernel
theorem dX3_measure_31 : decode cX3_measure 31 = .ok (.getfield 13, 3) := by decide +kernel
theorem dX3_measure_34 : decode cX3_measure 34 = .ok (.iload_n 3, 1) := by decide +kernel
theorem dX3_measure_35 : decode cX3_measure 35 = .ok (.aaload, 1) := by decide +kernel
theorem dX3_measure_36 : decode cX3_measure 36 = .ok (.iload_n 1, 1) := by decide +kernel
theorem dX3_measure_37 : decode cX3_measure 37 = .ok (.iaload, 1) := by decide +kernel
theorem dX3_measure_38 : decode cX3_measure 38 = .ok (.aload_n 0, 1) := by decide +kernel
theorem dX3_measure_39 : decode cX3_measure 39 = .ok (.getfield 20, 3) := by decide +kernel
theorem dX3_measure_42 : decode cX3_measure 42 = .ok (.iload_n 3, 1) := by decide +kernel
theorem dX3_measure_43 : decode cX3_measure 43 = .ok (.iaload, 1) := by decide +kernel
theorem dX3_measure_44 : decode cX3_measure 44 = .ok (.if_icmp .gt 15, 3) := by decide +kernel
theorem dX3_measure_47 : decode cX3_measure 47 = .ok (.aload_n 0, 1) := by decide +kernel
theorem dX3_measure_48 : decode cX3_measure 48 = .ok (.getfield 23, 3) := by decide +kernel
theorem dX3_measure_51 : decode cX3_measure 51 = .ok (.iload_n 1, 1) := by decide +kernel
theorem dX3_measure_52 : decode cX3_measure 52 = .ok (.dup2, 1) := by decide +kernel
theorem dX3_measure_53 : decode cX3_measure 53 = .ok (.iaload, 1) := by decide +kernel
theorem dX3_measure_54 : decode cX3_measure 54 = .ok (.iconst 1, 1) := by decide +kernel
theorem dX3_measure_55 : decode cX3_measure 55 = .ok (.iload_n 3, 1) := by decide +kernel
theorem dX3_measure_56 : decode cX3_measure 56 = .ok (.ishl, 1) := by decide +kernel
theorem dX3_measure_57 : decode cX3_measure 57 = .ok (.ior, 1) := by decide +kernel
theorem dX3_measure_58 : decode cX3_measure 58 = .ok (.iastore, 1) := by decide +kernel
theorem dX3_measure_59 : decode cX3_measure 59 = .ok (.iload_n 3, 1) := by decide +kernel
theorem dX3_measure_60 : decode cX3_measure 60 = .ok (.iload_n 1, 1) := by decide +kernel
theorem dX3_measure_61 : decode cX3_measure 61 = .ok (.if_icmp .eq 27, 3) := by decide +kernel
theorem dX3_measure_64 : decode cX3_measure 64 = .ok (.aload_n 0, 1) := by decide +kernel
theorem dX3_measure_65 : decode cX3_measure 65 = .ok (.getfield 13, 3) := by decide +kernel
theorem dX3_measure_68 : decode cX3_measure 68 = .ok (.iload_n 3, 1) := by decide +kernel
theorem dX3_measure_69 : decode cX3_measure 69 = .ok (.aaload, 1) := by decide +kernel
theorem dX3_measure_70 : decode cX3_measure 70 = .ok (.iload_n 1, 1) := by decide +kernel
theorem dX3_measure_71 : decode cX3_measure 71 = .ok (.iaload, 1) := by decide +kernel
theorem dX3_measure_72 : decode cX3_measure 72 = .ok (.iload_n 2, 1) := by decide +kernel
theorem dX3_measure_73 : decode cX3_measure 73 = .ok (.if_icmp .ge 15, 3) := by decide +kernel
theorem dX3_measure_76 : decode cX3_measure 76 = .ok (.aload_n 0, 1) := by decide +kernel
theorem dX3_measure_77 : decode cX3_measure 77 = .ok (.getfield 26, 3) := by decide +kernel
theorem dX3_measure_80 : decode cX3_measure 80 = .ok (.iload_n 1, 1) := by decide +kernel
theorem dX3_measure_81 : decode cX3_measure 81 = .ok (.dup2, 1) := by decide +kernel
theorem dX3_measure_82 : decode cX3_measure 82 = .ok (.iaload, 1) := by decide +kernel
theorem dX3_measure_83 : decode cX3_measure 83 = .ok (.iconst 1, 1) := by decide +kernel
theorem dX3_measure_84 : decode cX3_measure 84 = .ok (.iload_n 3, 1) := by decide +kernel
theorem dX3_measure_85 : decode cX3_measure 85 = .ok (.ishl, 1) := by decide +kernel
theorem dX3_measure_86 : decode cX3_measure 86 = .ok (.ior, 1) := by decide +kernel
theorem dX3_measure_87 : decode cX3_measure 87 = .ok (.iastore, 1) := by decide +kernel
theorem dX3_measure_88 : decode cX3_measure 88 = .ok (.iinc 3 1, 3) := by decide +kernel
theorem dX3_measure_91 : decode cX3_measure 91 = .ok (.goto (-75), 3) := by decide +kernel
theorem dX3_measure_94 : decode cX3_measure 94 = .ok (.return_, 1) := by decide +kernel
theorem dX3_gather_0 : decode cX3_gather 0 = .ok (.aload_n 2, 1) := by decide +kernel
theorem dX3_gather_1 : decode cX3_gather 1 = .ok (.iconst 0, 1) := by decide +kernel
theorem dX3_gather_2 : decode cX3_gather 2 = .ok (.iconst 0, 1) := by decide +kernel
theorem dX3_gather_3 : decode cX3_gather 3 = .ok (.iastore, 1) := by decide +kernel
theorem dX3_gather_4 : decode cX3_gather 4 = .ok (.iconst 0, 1) := by decide +kernel
theorem dX3_gather_5 : decode cX3_gather 5 = .ok (.istore_n 3, 1) := by decide +kernel
theorem dX3_gather_6 : decode cX3_gather 6 = .ok (.iload_n 3, 1) := by decide +kernel
theorem dX3_gather_7 : decode cX3_gather 7 = .ok (.bipush 7, 2) := by decide +kernel
theorem dX3_gather_9 : decode cX3_gather 9 = .ok (.if_icmp .ge 46, 3) := by decide +kernel
theorem dX3_gather_12 : decode cX3_gather 12 = .ok (.iconst 1, 1) := by decide +kernel
theorem dX3_gather_13 : decode cX3_gather 13 = .ok (.iload_n 3, 1) := by decide +kernel
theorem dX3_gather_14 : decode cX3_gather 14 = .ok (.ishl, 1) := by decide +kernel
theorem dX3_gather_15 : decode cX3_gather 15 = .ok (.istore 4, 2) := by decide +kernel
theorem dX3_gather_17 : decode cX3_gather 17 = .ok (.iload 4, 2) := by decide +kernel
theorem dX3_gather_19 : decode cX3_gather 19 = .ok (.iconst 2, 1) := by decide +kernel
theorem dX3_gather_20 : decode cX3_gather 20 = .ok (.iload_n 3, 1) := by decide +kernel
theorem dX3_gather_21 : decode cX3_gather 21 = .ok (.ishl, 1) := by decide +kernel
theorem dX3_gather_22 : decode cX3_gather 22 = .ok (.if_icmp .ge 27, 3) := by decide +kernel
theorem dX3_gather_25 : decode cX3_gather 25 = .ok (.aload_n 2, 1) := by decide +kernel
theorem dX3_gather_26 : decode cX3_gather 26 = .ok (.iload 4, 2) := by decide +kernel
theorem dX3_gather_28 : decode cX3_gather 28 = .ok (.aload_n 2, 1) := by decide +kernel
theorem dX3_gather_29 : decode cX3_gather 29 = .ok (.iload 4, 2) := by decide +kernel
theorem dX3_gather_31 : decode cX3_gather 31 = .ok (.iconst 1, 1) := by decide +kernel
theorem dX3_gather_32 : decode cX3_gather 32 = .ok (.iload_n 3, 1) := by decide +kernel
theorem dX3_gather_33 : decode cX3_gather 33 = .ok (.ishl, 1) := by decide +kernel
theorem dX3_gather_34 : decode cX3_gather 34 = .ok (.ixor, 1) := by decide +kernel
theorem dX3_gather_35 : decode cX3_gather 35 = .ok (.iaload, 1) := by decide +kernel
theorem dX3_gather_36 : decode cX3_gather 36 = .ok (.aload_n 0, 1) := by decide +kernel
theorem dX3_gather_37 : decode cX3_gather 37 = .ok (.iload_n 1, 1) := by decide +kernel
theorem dX3_gather_38 : decode cX3_gather 38 = .ok (.iload_n 3, 1) := by decide +kernel
theorem dX3_gather_39 : decode cX3_gather 39 = .ok (.iadd, 1) := by decide +kernel
theorem dX3_gather_40 : decode cX3_gather 40 = .ok (.iaload, 1) := by decide +kernel
theorem dX3_gather_41 : decode cX3_gather 41 = .ok (.ior, 1) := by decide +kernel
theorem dX3_gather_42 : decode cX3_gather 42 = .ok (.iastore, 1) := by decide +kernel
theorem dX3_gather_43 : decode cX3_gather 43 = .ok (.iinc 4 1, 3) := by decide +kernel
theorem dX3_gather_46 : decode cX3_gather 46 = .ok (.goto (-29), 3) := by decide +kernel
theorem dX3_gather_49 : decode cX3_gather 49 = .ok (.iinc 3 1, 3) := by decide +kernel
theorem dX3_gather_52 : decode cX3_gather 52 = .ok (.goto (-46), 3) := by decide +kernel
theorem dX3_gather_55 : decode cX3_gather 55 = .ok (.return_, 1) := by decide +kernel
theorem dX3_served_0 : decode cX3_served 0 = .ok (.aload_n 0, 1) := by decide +kernel
theorem dX3_served_1 : decode cX3_served 1 = .ok (.getfield 29, 3) := by decide +kernel
theorem dX3_served_4 : decode cX3_served 4 = .ok (.iload_n 1, 1) := by decide +kernel
theorem dX3_served_5 : decode cX3_served 5 = .ok (.bipush 127, 2) := by decide +kernel
theorem dX3_served_7 : decode cX3_served 7 = .ok (.iand, 1) := by decide +kernel
theorem dX3_served_8 : decode cX3_served 8 = .ok (.iaload, 1) := by decide +kernel
theorem dX3_served_9 : decode cX3_served 9 = .ok (.aload_n 0, 1) := by decide +kernel
theorem dX3_served_10 : decode cX3_served 10 = .ok (.getfield 32, 3) := by decide +kernel
theorem dX3_served_13 : decode cX3_served 13 = .ok (.iload_n 1, 1) := by decide +kernel
theorem dX3_served_14 : decode cX3_served 14 = .ok (.bipush 7, 2) := by decide +kernel
theorem dX3_served_16 : decode cX3_served 16 = .ok (.ishr, 1) := by decide +kernel
theorem dX3_served_17 : decode cX3_served 17 = .ok (.bipush 127, 2) := by decide +kernel
theorem dX3_served_19 : decode cX3_served 19 = .ok (.iand, 1) := by decide +kernel
theorem dX3_served_20 : decode cX3_served 20 = .ok (.iaload, 1) := by decide +kernel
theorem dX3_served_21 : decode cX3_served 21 = .ok (.ior, 1) := by decide +kernel
theorem dX3_served_22 : decode cX3_served 22 = .ok (.ireturn, 1) := by decide +kernel
theorem dX3_crowded_0 : decode cX3_crowded 0 = .ok (.aload_n 0, 1) := by decide +kernel
theorem dX3_crowded_1 : decode cX3_crowded 1 = .ok (.getfield 35, 3) := by decide +kernel
theorem dX3_crowded_4 : decode cX3_crowded 4 = .ok (.iload_n 1, 1) := by decide +kernel
theorem dX3_crowded_5 : decode cX3_crowded 5 = .ok (.bipush 127, 2) := by decide +kernel
theorem dX3_crowded_7 : decode cX3_crowded 7 = .ok (.iand, 1) := by decide +kernel
theorem dX3_crowded_8 : decode cX3_crowded 8 = .ok (.iaload, 1) := by decide +kernel
theorem dX3_crowded_9 : decode cX3_crowded 9 = .ok (.aload_n 0, 1) := by decide +kernel
theorem dX3_crowded_10 : decode cX3_crowded 10 = .ok (.getfield 38, 3) := by decide +kernel
theorem dX3_crowded_13 : decode cX3_crowded 13 = .ok (.iload_n 1, 1) := by decide +kernel
theorem dX3_crowded_14 : decode cX3_crowded 14 = .ok (.bipush 7, 2) := by decide +kernel
theorem dX3_crowded_16 : decode cX3_crowded 16 = .ok (.ishr, 1) := by decide +kernel
theorem dX3_crowded_17 : decode cX3_crowded 17 = .ok (.bipush 127, 2) := by decide +kernel
theorem dX3_crowded_19 : decode cX3_crowded 19 = .ok (.iand, 1) := by decide +kernel
theorem dX3_crowded_20 : decode cX3_crowded 20 = .ok (.iaload, 1) := by decide +kernel
theorem dX3_crowded_21 : decode cX3_crowded 21 = .ok (.ior, 1) := by decide +kernel
theorem dX3_crowded_22 : decode cX3_crowded 22 = .ok (.ireturn, 1) := by decide +kernel
theorem dX3_isServed_0 : decode cX3_isServed 0 = .ok (.aload_n 0, 1) := by decide +kernel
theorem dX3_isServed_1 : decode cX3_isServed 1 = .ok (.iload_n 2, 1) := by decide +kernel
theorem dX3_isServed_2 : decode cX3_isServed 2 = .ok (.invokevirtual 97, 3) := by decide +kernel
theorem dX3_isServed_5 : decode cX3_isServed 5 = .ok (.iload_n 1, 1) := by decide +kernel
theorem dX3_isServed_6 : decode cX3_isServed 6 = .ok (.ishr, 1) := by decide +kernel
theorem dX3_isServed_7 : decode cX3_isServed 7 = .ok (.iconst 1, 1) := by decide +kernel
theorem dX3_isServed_8 : decode cX3_isServed 8 = .ok (.iand, 1) := by decide +kernel
theorem dX3_isServed_9 : decode cX3_isServed 9 = .ok (.ifCond .eq 7, 3) := by decide +kernel
theorem dX3_isServed_12 : decode cX3_isServed 12 = .ok (.iconst 1, 1) := by decide +kernel
theorem dX3_isServed_13 : decode cX3_isServed 13 = .ok (.goto 4, 3) := by decide +kernel
theorem dX3_isServed_16 : decode cX3_isServed 16 = .ok (.iconst 0, 1) := by decide +kernel
theorem dX3_isServed_17 : decode cX3_isServed 17 = .ok (.ireturn, 1) := by decide +kernel
theorem dX3_isClear_0 : decode cX3_isClear 0 = .ok (.aload_n 0, 1) := by decide +kernel
theorem dX3_isClear_1 : decode cX3_isClear 1 = .ok (.iload_n 2, 1) := by decide +kernel
theorem dX3_isClear_2 : decode cX3_isClear 2 = .ok (.invokevirtual 101, 3) := by decide +kernel
theorem dX3_isClear_5 : decode cX3_isClear 5 = .ok (.iload_n 1, 1) := by decide +kernel
theorem dX3_isClear_6 : decode cX3_isClear 6 = .ok (.ishr, 1) := by decide +kernel
theorem dX3_isClear_7 : decode cX3_isClear 7 = .ok (.iconst 1, 1) := by decide +kernel
theorem dX3_isClear_8 : decode cX3_isClear 8 = .ok (.iand, 1) := by decide +kernel
theorem dX3_isClear_9 : decode cX3_isClear 9 = .ok (.ifCond .ne 7, 3) := by decide +kernel
theorem dX3_isClear_12 : decode cX3_isClear 12 = .ok (.iconst 1, 1) := by decide +kernel
theorem dX3_isClear_13 : decode cX3_isClear 13 = .ok (.goto 4, 3) := by decide +kernel
theorem dX3_isClear_16 : decode cX3_isClear 16 = .ok (.iconst 0, 1) := by decide +kernel
theorem dX3_isClear_17 : decode cX3_isClear 17 = .ok (.ireturn, 1) := by decide +kernel
theorem dX3_isLawful_0 : decode cX3_isLawful 0 = .ok (.aload_n 0, 1) := by decide +kernel
theorem dX3_isLawful_1 : decode cX3_isLawful 1 = .ok (.iload_n 1, 1) := by decide +kernel
theorem dX3_isLawful_2 : decode cX3_isLawful 2 = .ok (.invokevirtual 97, 3) := by decide +kernel
theorem dX3_isLawful_5 : decode cX3_isLawful 5 = .ok (.aload_n 0, 1) := by decide +kernel
theorem dX3_isLawful_6 : decode cX3_isLawful 6 = .ok (.getfield 41, 3) := by decide +kernel
theorem dX3_isLawful_9 : decode cX3_isLawful 9 = .ok (.if_icmp .ne 17, 3) := by decide +kernel
theorem dX3_isLawful_12 : decode cX3_isLawful 12 = .ok (.aload_n 0, 1) := by decide +kernel
theorem dX3_isLawful_13 : decode cX3_isLawful 13 = .ok (.iload_n 1, 1) := by decide +kernel
theorem dX3_isLawful_14 : decode cX3_isLawful 14 = .ok (.invokevirtual 101, 3) := by decide +kernel
theorem dX3_isLawful_17 : decode cX3_isLawful 17 = .ok (.iload_n 1, 1) := by decide +kernel
theorem dX3_isLawful_18 : decode cX3_isLawful 18 = .ok (.iand, 1) := by decide +kernel
theorem dX3_isLawful_19 : decode cX3_isLawful 19 = .ok (.ifCond .ne 7, 3) := by decide +kernel
theorem dX3_isLawful_22 : decode cX3_isLawful 22 = .ok (.iconst 1, 1) := by decide +kernel
theorem dX3_isLawful_23 : decode cX3_isLawful 23 = .ok (.goto 4, 3) := by decide +kernel
theorem dX3_isLawful_26 : decode cX3_isLawful 26 = .ok (.iconst 0, 1) := by decide +kernel
theorem dX3_isLawful_27 : decode cX3_isLawful 27 = .ok (.ireturn, 1) := by decide +kernel
theorem dX3_mayBe_0 : decode cX3_mayBe 0 = .ok (.iload_n 1, 1) := by decide +kernel
theorem dX3_mayBe_1 : decode cX3_mayBe 1 = .ok (.aload_n 0, 1) := by decide +kernel
theorem dX3_mayBe_2 : decode cX3_mayBe 2 = .ok (.getfield 45, 3) := by decide +kernel
theorem dX3_mayBe_5 : decode cX3_mayBe 5 = .ok (.iand, 1) := by decide +kernel
theorem dX3_mayBe_6 : decode cX3_mayBe 6 = .ok (.aload_n 0, 1) := by decide +kernel
theorem dX3_mayBe_7 : decode cX3_mayBe 7 = .ok (.getfield 45, 3) := by decide +kernel
theorem dX3_mayBe_10 : decode cX3_mayBe 10 = .ok (.if_icmp .ne 26, 3) := by decide +kernel
theorem dX3_mayBe_13 : decode cX3_mayBe 13 = .ok (.iload_n 1, 1) := by decide +kernel
theorem dX3_mayBe_14 : decode cX3_mayBe 14 = .ok (.aload_n 0, 1) := by decide +kernel
theorem dX3_mayBe_15 : decode cX3_mayBe 15 = .ok (.getfield 54, 3) := by decide +kernel
theorem dX3_mayBe_18 : decode cX3_mayBe 18 = .ok (.iconst (-1), 1) := by decide +kernel
theorem dX3_mayBe_19 : decode cX3_mayBe 19 = .ok (.ixor, 1) := by decide +kernel
theorem dX3_mayBe_20 : decode cX3_mayBe 20 = .ok (.iand, 1) := by decide +kernel
theorem dX3_mayBe_21 : decode cX3_mayBe 21 = .ok (.ifCond .ne 15, 3) := by decide +kernel
theorem dX3_mayBe_24 : decode cX3_mayBe 24 = .ok (.aload_n 0, 1) := by decide +kernel
theorem dX3_mayBe_25 : decode cX3_mayBe 25 = .ok (.iload_n 1, 1) := by decide +kernel
theorem dX3_mayBe_26 : decode cX3_mayBe 26 = .ok (.invokevirtual 104, 3) := by decide +kernel
theorem dX3_mayBe_29 : decode cX3_mayBe 29 = .ok (.ifCond .eq 7, 3) := by decide +kernel
theorem dX3_mayBe_32 : decode cX3_mayBe 32 = .ok (.iconst 1, 1) := by decide +kernel
theorem dX3_mayBe_33 : decode cX3_mayBe 33 = .ok (.goto 4, 3) := by decide +kernel
theorem dX3_mayBe_36 : decode cX3_mayBe 36 = .ok (.iconst 0, 1) := by decide +kernel
theorem dX3_mayBe_37 : decode cX3_mayBe 37 = .ok (.ireturn, 1) := by decide +kernel
theorem dX3_isEven_0 : decode cX3_isEven 0 = .ok (.iconst 0, 1) := by decide +kernel
theorem dX3_isEven_1 : decode cX3_isEven 1 = .ok (.istore_n 2, 1) := by decide +kernel
theorem dX3_isEven_2 : decode cX3_isEven 2 = .ok (.iconst 0, 1) := by decide +kernel
theorem dX3_isEven_3 : decode cX3_isEven 3 = .ok (.istore_n 3, 1) := by decide +kernel
theorem dX3_isEven_4 : decode cX3_isEven 4 = .ok (.iload_n 3, 1) := by decide +kernel
theorem dX3_isEven_5 : decode cX3_isEven 5 = .ok (.bipush 14, 2) := by decide +kernel
theorem dX3_isEven_7 : decode cX3_isEven 7 = .ok (.if_icmp .ge 39, 3) := by decide +kernel
theorem dX3_isEven_10 : decode cX3_isEven 10 = .ok (.iload_n 1, 1) := by decide +kernel
theorem dX3_isEven_11 : decode cX3_isEven 11 = .ok (.iload_n 3, 1) := by decide +kernel
theorem dX3_isEven_12 : decode cX3_isEven 12 = .ok (.ishr, 1) := by decide +kernel
theorem dX3_isEven_13 : decode cX3_isEven 13 = .ok (.iconst 1, 1) := by decide +kernel
theorem dX3_isEven_14 : decode cX3_isEven 14 = .ok (.iand, 1) := by decide +kernel
theorem dX3_isEven_15 : decode cX3_isEven 15 = .ok (.ifCond .eq 25, 3) := by decide +kernel
theorem dX3_isEven_18 : decode cX3_isEven 18 = .ok (.iload_n 2, 1) := by decide +kernel
theorem dX3_isEven_19 : decode cX3_isEven 19 = .ok (.aload_n 0, 1) := by decide +kernel
theorem dX3_isEven_20 : decode cX3_isEven 20 = .ok (.getfield 23, 3) := by decide +kernel
theorem dX3_isEven_23 : decode cX3_isEven 23 = .ok (.iload_n 3, 1) := by decide +kernel
theorem dX3_isEven_24 : decode cX3_isEven 24 = .ok (.iaload, 1) := by decide +kernel
theorem dX3_isEven_25 : decode cX3_isEven 25 = .ok (.iand, 1) := by decide +kernel
theorem dX3_isEven_26 : decode cX3_isEven 26 = .ok (.ifCond .eq 5, 3) := by decide +kernel
theorem dX3_isEven_29 : decode cX3_isEven 29 = .ok (.iconst 0, 1) := by decide +kernel
theorem dX3_isEven_30 : decode cX3_isEven 30 = .ok (.ireturn, 1) := by decide +kernel
theorem dX3_isEven_31 : decode cX3_isEven 31 = .ok (.iload_n 2, 1) := by decide +kernel
theorem dX3_isEven_32 : decode cX3_isEven 32 = .ok (.aload_n 0, 1) := by decide +kernel
theorem dX3_isEven_33 : decode cX3_isEven 33 = .ok (.getfield 23, 3) := by decide +kernel
theorem dX3_isEven_36 : decode cX3_isEven 36 = .ok (.iload_n 3, 1) := by decide +kernel
theorem dX3_isEven_37 : decode cX3_isEven 37 = .ok (.iaload, 1) := by decide +kernel
theorem dX3_isEven_38 : decode cX3_isEven 38 = .ok (.ior, 1) := by decide +kernel
theorem dX3_isEven_39 : decode cX3_isEven 39 = .ok (.istore_n 2, 1) := by decide +kernel
theorem dX3_isEven_40 : decode cX3_isEven 40 = .ok (.iinc 3 1, 3) := by decide +kernel
theorem dX3_isEven_43 : decode cX3_isEven 43 = .ok (.goto (-39), 3) := by decide +kernel
theorem dX3_isEven_46 : decode cX3_isEven 46 = .ok (.iload_n 2, 1) := by decide +kernel
theorem dX3_isEven_47 : decode cX3_isEven 47 = .ok (.aload_n 0, 1) := by decide +kernel
theorem dX3_isEven_48 : decode cX3_isEven 48 = .ok (.getfield 41, 3) := by decide +kernel
theorem dX3_isEven_51 : decode cX3_isEven 51 = .ok (.if_icmp .ne 7, 3) := by decide +kernel
theorem dX3_isEven_54 : decode cX3_isEven 54 = .ok (.iconst 1, 1) := by decide +kernel
theorem dX3_isEven_55 : decode cX3_isEven 55 = .ok (.goto 4, 3) := by decide +kernel
theorem dX3_isEven_58 : decode cX3_isEven 58 = .ok (.iconst 0, 1) := by decide +kernel
theorem dX3_isEven_59 : decode cX3_isEven 59 = .ok (.ireturn, 1) := by decide +kernel
theorem dX3_judged_0 : decode cX3_judged 0 = .ok (.iconst 0, 1) := by decide +kernel
theorem dX3_judged_1 : decode cX3_judged 1 = .ok (.istore_n 2, 1) := by decide +kernel
theorem dX3_judged_2 : decode cX3_judged 2 = .ok (.iload_n 2, 1) := by decide +kernel
theorem dX3_judged_3 : decode cX3_judged 3 = .ok (.bipush 14, 2) := by decide +kernel
theorem dX3_judged_5 : decode cX3_judged 5 = .ok (.if_icmp .ge 28, 3) := by decide +kernel
theorem dX3_judged_8 : decode cX3_judged 8 = .ok (.aload_n 0, 1) := by decide +kernel
theorem dX3_judged_9 : decode cX3_judged 9 = .ok (.iload_n 2, 1) := by decide +kernel
theorem dX3_judged_10 : decode cX3_judged 10 = .ok (.invokevirtual 57, 3) := by decide +kernel
theorem dX3_judged_13 : decode cX3_judged 13 = .ok (.ifCond .eq 14, 3) := by decide +kernel
theorem dX3_judged_16 : decode cX3_judged 16 = .ok (.aload_n 0, 1) := by decide +kernel
theorem dX3_judged_17 : decode cX3_judged 17 = .ok (.iload_n 2, 1) := by decide +kernel
theorem dX3_judged_18 : decode cX3_judged 18 = .ok (.iload_n 1, 1) := by decide +kernel
theorem dX3_judged_19 : decode cX3_judged 19 = .ok (.invokevirtual 107, 3) := by decide +kernel
theorem dX3_judged_22 : decode cX3_judged 22 = .ok (.ifCond .ne 5, 3) := by decide +kernel
theorem dX3_judged_25 : decode cX3_judged 25 = .ok (.iload_n 2, 1) := by decide +kernel
theorem dX3_judged_26 : decode cX3_judged 26 = .ok (.ireturn, 1) := by decide +kernel
theorem dX3_judged_27 : decode cX3_judged 27 = .ok (.iinc 2 1, 3) := by decide +kernel
theorem dX3_judged_30 : decode cX3_judged 30 = .ok (.goto (-28), 3) := by decide +kernel
theorem dX3_judged_33 : decode cX3_judged 33 = .ok (.iconst 0, 1) := by decide +kernel
theorem dX3_judged_34 : decode cX3_judged 34 = .ok (.istore_n 2, 1) := by decide +kernel
theorem dX3_judged_35 : decode cX3_judged 35 = .ok (.iload_n 2, 1) := by decide +kernel
theorem dX3_judged_36 : decode cX3_judged 36 = .ok (.bipush 14, 2) := by decide +kernel
theorem dX3_judged_38 : decode cX3_judged 38 = .ok (.if_icmp .ge 68, 3) := by decide +kernel
theorem dX3_judged_41 : decode cX3_judged 41 = .ok (.iload_n 1, 1) := by decide +kernel
theorem dX3_judged_42 : decode cX3_judged 42 = .ok (.iload_n 2, 1) := by decide +kernel
theorem dX3_judged_43 : decode cX3_judged 43 = .ok (.ishr, 1) := by decide +kernel
theorem dX3_judged_44 : decode cX3_judged 44 = .ok (.iconst 1, 1) := by decide +kernel
theorem dX3_judged_45 : decode cX3_judged 45 = .ok (.iand, 1) := by decide +kernel
theorem dX3_judged_46 : decode cX3_judged 46 = .ok (.ifCond .eq 14, 3) := by decide +kernel
theorem dX3_judged_49 : decode cX3_judged 49 = .ok (.aload_n 0, 1) := by decide +kernel
theorem dX3_judged_50 : decode cX3_judged 50 = .ok (.getfield 26, 3) := by decide +kernel
theorem dX3_judged_53 : decode cX3_judged 53 = .ok (.iload_n 2, 1) := by decide +kernel
theorem dX3_judged_54 : decode cX3_judged 54 = .ok (.iaload, 1) := by decide +kernel
theorem dX3_judged_55 : decode cX3_judged 55 = .ok (.iload_n 1, 1) := by decide +kernel
theorem dX3_judged_56 : decode cX3_judged 56 = .ok (.iand, 1) := by decide +kernel
theorem dX3_judged_57 : decode cX3_judged 57 = .ok (.goto 4, 3) := by decide +kernel
theorem dX3_judged_60 : decode cX3_judged 60 = .ok (.iconst 0, 1) := by decide +kernel
theorem dX3_judged_61 : decode cX3_judged 61 = .ok (.istore_n 3, 1) := by decide +kernel
theorem dX3_judged_62 : decode cX3_judged 62 = .ok (.iload_n 2, 1) := by decide +kernel
theorem dX3_judged_63 : decode cX3_judged 63 = .ok (.iconst 1, 1) := by decide +kernel
theorem dX3_judged_64 : decode cX3_judged 64 = .ok (.iadd, 1) := by decide +kernel
theorem dX3_judged_65 : decode cX3_judged 65 = .ok (.istore 4, 2) := by decide +kernel
theorem dX3_judged_67 : decode cX3_judged 67 = .ok (.iload 4, 2) := by decide +kernel
theorem dX3_judged_69 : decode cX3_judged 69 = .ok (.bipush 14, 2) := by decide +kernel
theorem dX3_judged_71 : decode cX3_judged 71 = .ok (.if_icmp .ge 29, 3) := by decide +kernel
theorem dX3_judged_74 : decode cX3_judged 74 = .ok (.iload_n 3, 1) := by decide +kernel
theorem dX3_judged_75 : decode cX3_judged 75 = .ok (.iload 4, 2) := by decide +kernel
theorem dX3_judged_77 : decode cX3_judged 77 = .ok (.ishr, 1) := by decide +kernel
theorem dX3_judged_78 : decode cX3_judged 78 = .ok (.iconst 1, 1) := by decide +kernel
theorem dX3_judged_79 : decode cX3_judged 79 = .ok (.iand, 1) := by decide +kernel
theorem dX3_judged_80 : decode cX3_judged 80 = .ok (.ifCond .eq 14, 3) := by decide +kernel
theorem dX3_judged_83 : decode cX3_judged 83 = .ok (.bipush 100, 2) := by decide +kernel
theorem dX3_judged_85 : decode cX3_judged 85 = .ok (.bipush 16, 2) := by decide +kernel
theorem dX3_judged_87 : decode cX3_judged 87 = .ok (.iload_n 2, 1) := by decide +kernel
theorem dX3_judged_88 : decode cX3_judged 88 = .ok (.imul, 1) := by decide +kernel
theorem dX3_judged_89 : decode cX3_judged 89 = .ok (.iadd, 1) := by decide +kernel
theorem dX3_judged_90 : decode cX3_judged 90 = .ok (.iload 4, 2) := by decide +kernel
theorem dX3_judged_92 : decode cX3_judged 92 = .ok (.iadd, 1) := by decide +kernel
theorem dX3_judged_93 : decode cX3_judged 93 = .ok (.ireturn, 1) := by decide +kernel
theorem dX3_judged_94 : decode cX3_judged 94 = .ok (.iinc 4 1, 3) := by decide +kernel
theorem dX3_judged_97 : decode cX3_judged 97 = .ok (.goto (-30), 3) := by decide +kernel
theorem dX3_judged_100 : decode cX3_judged 100 = .ok (.iinc 2 1, 3) := by decide +kernel
theorem dX3_judged_103 : decode cX3_judged 103 = .ok (.goto (-68), 3) := by decide +kernel
theorem dX3_judged_106 : decode cX3_judged 106 = .ok (.bipush (-2), 2) := by decide +kernel
theorem dX3_judged_108 : decode cX3_judged 108 = .ok (.ireturn, 1) := by decide +kernel
theorem dX3_least_0 : decode cX3_least 0 = .ok (.bipush (-2), 2) := by decide +kernel
theorem dX3_least_2 : decode cX3_least 2 = .ok (.istore 4, 2) := by decide +kernel
theorem dX3_least_4 : decode cX3_least 4 = .ok (.iconst 0, 1) := by decide +kernel
theorem dX3_least_5 : decode cX3_least 5 = .ok (.istore 5, 2) := by decide +kernel
theorem dX3_least_7 : decode cX3_least 7 = .ok (.iconst 0, 1) := by decide +kernel
theorem dX3_least_8 : decode cX3_least 8 = .ok (.istore 6, 2) := by decide +kernel
theorem dX3_least_10 : decode cX3_least 10 = .ok (.iload 6, 2) := by decide +kernel
theorem dX3_least_12 : decode cX3_least 12 = .ok (.aload_n 0, 1) := by decide +kernel
theorem dX3_least_13 : decode cX3_least 13 = .ok (.getfield 41, 3) := by decide +kernel
theorem dX3_least_16 : decode cX3_least 16 = .ok (.if_icmp .gt 52, 3) := by decide +kernel
theorem dX3_least_19 : decode cX3_least 19 = .ok (.aload_n 0, 1) := by decide +kernel
theorem dX3_least_20 : decode cX3_least 20 = .ok (.iload 6, 2) := by decide +kernel
theorem dX3_least_22 : decode cX3_least 22 = .ok (.invokevirtual 111, 3) := by decide +kernel
theorem dX3_least_25 : decode cX3_least 25 = .ok (.ifCond .ne 6, 3) := by decide +kernel
theorem dX3_least_28 : decode cX3_least 28 = .ok (.goto 34, 3) := by decide +kernel
theorem dX3_least_31 : decode cX3_least 31 = .ok (.aload_n 0, 1) := by decide +kernel
theorem dX3_least_32 : decode cX3_least 32 = .ok (.aload_n 1, 1) := by decide +kernel
theorem dX3_least_33 : decode cX3_least 33 = .ok (.iload_n 2, 1) := by decide +kernel
theorem dX3_least_34 : decode cX3_least 34 = .ok (.iload 6, 2) := by decide +kernel
theorem dX3_least_36 : decode cX3_least 36 = .ok (.iload_n 3, 1) := by decide +kernel
theorem dX3_least_37 : decode cX3_least 37 = .ok (.invokevirtual 114, 3) := by decide +kernel
theorem dX3_least_40 : decode cX3_least 40 = .ok (.istore 7, 2) := by decide +kernel
theorem dX3_least_42 : decode cX3_least 42 = .ok (.iload 4, 2) := by decide +kernel
theorem dX3_least_44 : decode cX3_least 44 = .ok (.ifCond .lt 10, 3) := by decide +kernel
theorem dX3_least_47 : decode cX3_least 47 = .ok (.iload 7, 2) := by decide +kernel
theorem dX3_least_49 : decode cX3_least 49 = .ok (.iload 5, 2) := by decide +kernel
theorem dX3_least_51 : decode cX3_least 51 = .ok (.if_icmp .ge 11, 3) := by decide +kernel
theorem dX3_least_54 : decode cX3_least 54 = .ok (.iload 6, 2) := by decide +kernel
theorem dX3_least_56 : decode cX3_least 56 = .ok (.istore 4, 2) := by decide +kernel
theorem dX3_least_58 : decode cX3_least 58 = .ok (.iload 7, 2) := by decide +kernel
theorem dX3_least_60 : decode cX3_least 60 = .ok (.istore 5, 2) := by decide +kernel
theorem dX3_least_62 : decode cX3_least 62 = .ok (.iinc 6 1, 3) := by decide +kernel
theorem dX3_least_65 : decode cX3_least 65 = .ok (.goto (-55), 3) := by decide +kernel
theorem dX3_least_68 : decode cX3_least 68 = .ok (.iload 4, 2) := by decide +kernel
theorem dX3_least_70 : decode cX3_least 70 = .ok (.ireturn, 1) := by decide +kernel
theorem dX3_weight_0 : decode cX3_weight 0 = .ok (.iload_n 2, 1) := by decide +kernel
theorem dX3_weight_1 : decode cX3_weight 1 = .ok (.tableswitch 50 0 3 #[31, 36, 50, 42], 31) := by decide +kernel
theorem dX3_weight_32 : decode cX3_weight 32 = .ok (.iload_n 3, 1) := by decide +kernel
theorem dX3_weight_33 : decode cX3_weight 33 = .ok (.invokestatic 117, 3) := by decide +kernel
theorem dX3_weight_36 : decode cX3_weight 36 = .ok (.ireturn, 1) := by decide +kernel
theorem dX3_weight_37 : decode cX3_weight 37 = .ok (.iload_n 3, 1) := by decide +kernel
theorem dX3_weight_38 : decode cX3_weight 38 = .ok (.invokestatic 117, 3) := by decide +kernel
theorem dX3_weight_41 : decode cX3_weight 41 = .ok (.ineg, 1) := by decide +kernel
theorem dX3_weight_42 : decode cX3_weight 42 = .ok (.ireturn, 1) := by decide +kernel
theorem dX3_weight_43 : decode cX3_weight 43 = .ok (.iload_n 3, 1) := by decide +kernel
theorem dX3_weight_44 : decode cX3_weight 44 = .ok (.iload 4, 2) := by decide +kernel
theorem dX3_weight_46 : decode cX3_weight 46 = .ok (.ixor, 1) := by decide +kernel
theorem dX3_weight_47 : decode cX3_weight 47 = .ok (.invokestatic 117, 3) := by decide +kernel
theorem dX3_weight_50 : decode cX3_weight 50 = .ok (.ireturn, 1) := by decide +kernel
theorem dX3_weight_51 : decode cX3_weight 51 = .ok (.aload_n 1, 1) := by decide +kernel
theorem dX3_weight_52 : decode cX3_weight 52 = .ok (.iload_n 3, 1) := by decide +kernel
theorem dX3_weight_53 : decode cX3_weight 53 = .ok (.aload_n 0, 1) := by decide +kernel
theorem dX3_weight_54 : decode cX3_weight 54 = .ok (.getfield 45, 3) := by decide +kernel
theorem dX3_weight_57 : decode cX3_weight 57 = .ok (.iconst (-1), 1) := by decide +kernel
theorem dX3_weight_58 : decode cX3_weight 58 = .ok (.ixor, 1) := by decide +kernel
theorem dX3_weight_59 : decode cX3_weight 59 = .ok (.iand, 1) := by decide +kernel
theorem dX3_weight_60 : decode cX3_weight 60 = .ok (.invokestatic 122, 3) := by decide +kernel
theorem dX3_weight_63 : decode cX3_weight 63 = .ok (.ireturn, 1) := by decide +kernel
theorem dX3_priceOf_0 : decode cX3_priceOf 0 = .ok (.iconst 0, 1) := by decide +kernel
theorem dX3_priceOf_1 : decode cX3_priceOf 1 = .ok (.istore_n 2, 1) := by decide +kernel
theorem dX3_priceOf_2 : decode cX3_priceOf 2 = .ok (.iconst 0, 1) := by decide +kernel
theorem dX3_priceOf_3 : decode cX3_priceOf 3 = .ok (.istore_n 3, 1) := by decide +kernel
theorem dX3_priceOf_4 : decode cX3_priceOf 4 = .ok (.iload_n 3, 1) := by decide +kernel
theorem dX3_priceOf_5 : decode cX3_priceOf 5 = .ok (.aload_n 0, 1) := by decide +kernel
theorem dX3_priceOf_6 : decode cX3_priceOf 6 = .ok (.getfield 126, 3) := by decide +kernel
theorem dX3_priceOf_9 : decode cX3_priceOf 9 = .ok (.if_icmp .ge 30, 3) := by decide +kernel
theorem dX3_priceOf_12 : decode cX3_priceOf 12 = .ok (.iload_n 2, 1) := by decide +kernel
theorem dX3_priceOf_13 : decode cX3_priceOf 13 = .ok (.iload_n 1, 1) := by decide +kernel
theorem dX3_priceOf_14 : decode cX3_priceOf 14 = .ok (.iload_n 3, 1) := by decide +kernel
theorem dX3_priceOf_15 : decode cX3_priceOf 15 = .ok (.ishr, 1) := by decide +kernel
theorem dX3_priceOf_16 : decode cX3_priceOf 16 = .ok (.iconst 1, 1) := by decide +kernel
theorem dX3_priceOf_17 : decode cX3_priceOf 17 = .ok (.iand, 1) := by decide +kernel
theorem dX3_priceOf_18 : decode cX3_priceOf 18 = .ok (.ifCond .eq 12, 3) := by decide +kernel
theorem dX3_priceOf_21 : decode cX3_priceOf 21 = .ok (.aload_n 0, 1) := by decide +kernel
theorem dX3_priceOf_22 : decode cX3_priceOf 22 = .ok (.getfield 129, 3) := by decide +kernel
theorem dX3_priceOf_25 : decode cX3_priceOf 25 = .ok (.iload_n 3, 1) := by decide +kernel
theorem dX3_priceOf_26 : decode cX3_priceOf 26 = .ok (.iaload, 1) := by decide +kernel
theorem dX3_priceOf_27 : decode cX3_priceOf 27 = .ok (.goto 4, 3) := by decide +kernel
theorem dX3_priceOf_30 : decode cX3_priceOf 30 = .ok (.iconst 0, 1) := by decide +kernel
theorem dX3_priceOf_31 : decode cX3_priceOf 31 = .ok (.iadd, 1) := by decide +kernel
theorem dX3_priceOf_32 : decode cX3_priceOf 32 = .ok (.istore_n 2, 1) := by decide +kernel
theorem dX3_priceOf_33 : decode cX3_priceOf 33 = .ok (.iinc 3 1, 3) := by decide +kernel
theorem dX3_priceOf_36 : decode cX3_priceOf 36 = .ok (.goto (-32), 3) := by decide +kernel
theorem dX3_priceOf_39 : decode cX3_priceOf 39 = .ok (.iload_n 2, 1) := by decide +kernel
theorem dX3_priceOf_40 : decode cX3_priceOf 40 = .ok (.ireturn, 1) := by decide +kernel
theorem dX3_nearest_0 : decode cX3_nearest 0 = .ok (.bipush (-2), 2) := by decide +kernel
theorem dX3_nearest_2 : decode cX3_nearest 2 = .ok (.istore_n 3, 1) := by decide +kernel
theorem dX3_nearest_3 : decode cX3_nearest 3 = .ok (.bipush 99, 2) := by decide +kernel
theorem dX3_nearest_5 : decode cX3_nearest 5 = .ok (.istore 4, 2) := by decide +kernel
theorem dX3_nearest_7 : decode cX3_nearest 7 = .ok (.iconst 0, 1) := by decide +kernel
theorem dX3_nearest_8 : decode cX3_nearest 8 = .ok (.istore 5, 2) := by decide +kernel
theorem dX3_nearest_10 : decode cX3_nearest 10 = .ok (.iload 5, 2) := by decide +kernel
theorem dX3_nearest_12 : decode cX3_nearest 12 = .ok (.bipush 14, 2) := by decide +kernel
theorem dX3_nearest_14 : decode cX3_nearest 14 = .ok (.if_icmp .ge 46, 3) := by decide +kernel
theorem dX3_nearest_17 : decode cX3_nearest 17 = .ok (.iload_n 1, 1) := by decide +kernel
theorem dX3_nearest_18 : decode cX3_nearest 18 = .ok (.iload 5, 2) := by decide +kernel
theorem dX3_nearest_20 : decode cX3_nearest 20 = .ok (.ishr, 1) := by decide +kernel
theorem dX3_nearest_21 : decode cX3_nearest 21 = .ok (.iconst 1, 1) := by decide +kernel
theorem dX3_nearest_22 : decode cX3_nearest 22 = .ok (.iand, 1) := by decide +kernel
theorem dX3_nearest_23 : decode cX3_nearest 23 = .ok (.ifCond .eq 31, 3) := by decide +kernel
theorem dX3_nearest_26 : decode cX3_nearest 26 = .ok (.aload_n 0, 1) := by decide +kernel
theorem dX3_nearest_27 : decode cX3_nearest 27 = .ok (.getfield 13, 3) := by decide +kernel
theorem dX3_nearest_30 : decode cX3_nearest 30 = .ok (.iload_n 2, 1) := by decide +kernel
theorem dX3_nearest_31 : decode cX3_nearest 31 = .ok (.aaload, 1) := by decide +kernel
theorem dX3_nearest_32 : decode cX3_nearest 32 = .ok (.iload 5, 2) := by decide +kernel
theorem dX3_nearest_34 : decode cX3_nearest 34 = .ok (.iaload, 1) := by decide +kernel
theorem dX3_nearest_35 : decode cX3_nearest 35 = .ok (.iload 4, 2) := by decide +kernel
theorem dX3_nearest_37 : decode cX3_nearest 37 = .ok (.if_icmp .ge 17, 3) := by decide +kernel
theorem dX3_nearest_40 : decode cX3_nearest 40 = .ok (.iload 5, 2) := by decide +kernel
theorem dX3_nearest_42 : decode cX3_nearest 42 = .ok (.istore_n 3, 1) := by decide +kernel
theorem dX3_nearest_43 : decode cX3_nearest 43 = .ok (.aload_n 0, 1) := by decide +kernel
theorem dX3_nearest_44 : decode cX3_nearest 44 = .ok (.getfield 13, 3) := by decide +kernel
theorem dX3_nearest_47 : decode cX3_nearest 47 = .ok (.iload_n 2, 1) := by decide +kernel
theorem dX3_nearest_48 : decode cX3_nearest 48 = .ok (.aaload, 1) := by decide +kernel
theorem dX3_nearest_49 : decode cX3_nearest 49 = .ok (.iload 5, 2) := by decide +kernel
theorem dX3_nearest_51 : decode cX3_nearest 51 = .ok (.iaload, 1) := by decide +kernel
theorem dX3_nearest_52 : decode cX3_nearest 52 = .ok (.istore 4, 2) := by decide +kernel
theorem dX3_nearest_54 : decode cX3_nearest 54 = .ok (.iinc 5 1, 3) := by decide +kernel
theorem dX3_nearest_57 : decode cX3_nearest 57 = .ok (.goto (-47), 3) := by decide +kernel
theorem dX3_nearest_60 : decode cX3_nearest 60 = .ok (.iload_n 3, 1) := by decide +kernel
theorem dX3_nearest_61 : decode cX3_nearest 61 = .ok (.ireturn, 1) := by decide +kernel
theorem dX4_init_0 : decode cX4_init 0 = .ok (.aload_n 0, 1) := by decide +kernel
theorem dX4_init_1 : decode cX4_init 1 = .ok (.invokespecial 3, 3) := by decide +kernel
theorem dX4_init_4 : decode cX4_init 4 = .ok (.aload_n 0, 1) := by decide +kernel
theorem dX4_init_5 : decode cX4_init 5 = .ok (.bipush 60, 2) := by decide +kernel
theorem dX4_init_7 : decode cX4_init 7 = .ok (.newarray .long, 2) := by decide +kernel
theorem dX4_init_9 : decode cX4_init 9 = .ok (.putfield 9, 3) := by decide +kernel
theorem dX4_init_12 : decode cX4_init 12 = .ok (.return_, 1) := by decide +kernel
theorem dX4_isRowOf_0 : decode cX4_isRowOf 0 = .ok (.aload_n 0, 1) := by decide +kernel
theorem dX4_isRowOf_1 : decode cX4_isRowOf 1 = .ok (.getfield 15, 3) := by decide +kernel
theorem dX4_isRowOf_4 : decode cX4_isRowOf 4 = .ok (.iconst 2, 1) := by decide +kernel
theorem dX4_isRowOf_5 : decode cX4_isRowOf 5 = .ok (.if_icmp .ne 15, 3) := by decide +kernel
theorem dX4_isRowOf_8 : decode cX4_isRowOf 8 = .ok (.aload_n 0, 1) := by decide +kernel
theorem dX4_isRowOf_9 : decode cX4_isRowOf 9 = .ok (.getfield 19, 3) := by decide +kernel
theorem dX4_isRowOf_12 : decode cX4_isRowOf 12 = .ok (.iload_n 1, 1) := by decide +kernel
theorem dX4_isRowOf_13 : decode cX4_isRowOf 13 = .ok (.if_icmp .ne 7, 3) := by decide +kernel
theorem dX4_isRowOf_16 : decode cX4_isRowOf 16 = .ok (.iconst 1, 1) := by decide +kernel
theorem dX4_isRowOf_17 : decode cX4_isRowOf 17 = .ok (.goto 4, 3) := by decide +kernel
theorem dX4_isRowOf_20 : decode cX4_isRowOf 20 = .ok (.iconst 0, 1) := by decide +kernel
theorem dX4_isRowOf_21 : decode cX4_isRowOf 21 = .ok (.ireturn, 1) := by decide +kernel
theorem dX4_becomeRow_0 : decode cX4_becomeRow 0 = .ok (.aload_n 0, 1) := by decide +kernel
theorem dX4_becomeRow_1 : decode cX4_becomeRow 1 = .ok (.iconst 2, 1) := by decide +kernel
theorem dX4_becomeRow_2 : decode cX4_becomeRow 2 = .ok (.putfield 15, 3) := by decide +kernel
theorem dX4_becomeRow_5 : decode cX4_becomeRow 5 = .ok (.aload_n 0, 1) := by decide +kernel
theorem dX4_becomeRow_6 : decode cX4_becomeRow 6 = .ok (.iload_n 1, 1) := by decide +kernel
theorem dX4_becomeRow_7 : decode cX4_becomeRow 7 = .ok (.putfield 19, 3) := by decide +kernel
theorem dX4_becomeRow_10 : decode cX4_becomeRow 10 = .ok (.aload_n 0, 1) := by decide +kernel
theorem dX4_becomeRow_11 : decode cX4_becomeRow 11 = .ok (.iload_n 2, 1) := by decide +kernel
theorem dX4_becomeRow_12 : decode cX4_becomeRow 12 = .ok (.putfield 22, 3) := by decide +kernel
theorem dX4_becomeRow_15 : decode cX4_becomeRow 15 = .ok (.iconst 0, 1) := by decide +kernel
theorem dX4_becomeRow_16 : decode cX4_becomeRow 16 = .ok (.istore_n 3, 1) := by decide +kernel
theorem dX4_becomeRow_17 : decode cX4_becomeRow 17 = .ok (.iload_n 3, 1) := by decide +kernel
theorem dX4_becomeRow_18 : decode cX4_becomeRow 18 = .ok (.bipush 60, 2) := by decide +kernel
theorem dX4_becomeRow_20 : decode cX4_becomeRow 20 = .ok (.if_icmp .ge 16, 3) := by decide +kernel
theorem dX4_becomeRow_23 : decode cX4_becomeRow 23 = .ok (.aload_n 0, 1) := by decide +kernel
theorem dX4_becomeRow_24 : decode cX4_becomeRow 24 = .ok (.getfield 9, 3) := by decide +kernel
theorem dX4_becomeRow_27 : decode cX4_becomeRow 27 = .ok (.iload_n 3, 1) := by decide +kernel
theorem dX4_becomeRow_28 : decode cX4_becomeRow 28 = .ok (.lconst 0, 1) := by decide +kernel
theorem dX4_becomeRow_29 : decode cX4_becomeRow 29 = .ok (.lastore, 1) := by decide +kernel
theorem dX4_becomeRow_30 : decode cX4_becomeRow 30 = .ok (.iinc 3 1, 3) := by decide +kernel
theorem dX4_becomeRow_33 : decode cX4_becomeRow 33 = .ok (.goto (-16), 3) := by decide +kernel
theorem dX4_becomeRow_36 : decode cX4_becomeRow 36 = .ok (.return_, 1) := by decide +kernel
theorem dX4_hasRun_0 : decode cX4_hasRun 0 = .ok (.iload_n 2, 1) := by decide +kernel
theorem dX4_hasRun_1 : decode cX4_hasRun 1 = .ok (.ifCond .lt 29, 3) := by decide +kernel
theorem dX4_hasRun_4 : decode cX4_hasRun 4 = .ok (.iload_n 1, 1) := by decide +kernel
theorem dX4_hasRun_5 : decode cX4_hasRun 5 = .ok (.ifCond .lt 25, 3) := by decide +kernel
theorem dX4_hasRun_8 : decode cX4_hasRun 8 = .ok (.iload_n 2, 1) := by decide +kernel
theorem dX4_hasRun_9 : decode cX4_hasRun 9 = .ok (.aload_n 0, 1) := by decide +kernel
theorem dX4_hasRun_10 : decode cX4_hasRun 10 = .ok (.getfield 22, 3) := by decide +kernel
theorem dX4_hasRun_13 : decode cX4_hasRun 13 = .ok (.if_icmp .gt 17, 3) := by decide +kernel
theorem dX4_hasRun_16 : decode cX4_hasRun 16 = .ok (.iload_n 1, 1) := by decide +kernel
theorem dX4_hasRun_17 : decode cX4_hasRun 17 = .ok (.aload_n 0, 1) := by decide +kernel
theorem dX4_hasRun_18 : decode cX4_hasRun 18 = .ok (.getfield 22, 3) := by decide +kernel
theorem dX4_hasRun_21 : decode cX4_hasRun 21 = .ok (.iload_n 2, 1) := by decide +kernel
theorem dX4_hasRun_22 : decode cX4_hasRun 22 = .ok (.isub, 1) := by decide +kernel
theorem dX4_hasRun_23 : decode cX4_hasRun 23 = .ok (.if_icmp .gt 7, 3) := by decide +kernel
theorem dX4_hasRun_26 : decode cX4_hasRun 26 = .ok (.iconst 1, 1) := by decide +kernel
theorem dX4_hasRun_27 : decode cX4_hasRun 27 = .ok (.goto 4, 3) := by decide +kernel
theorem dX4_hasRun_30 : decode cX4_hasRun 30 = .ok (.iconst 0, 1) := by decide +kernel
theorem dX4_hasRun_31 : decode cX4_hasRun 31 = .ok (.ireturn, 1) := by decide +kernel
theorem dX4_lowestBits_0 : decode cX4_lowestBits 0 = .ok (.aload_n 0, 1) := by decide +kernel
theorem dX4_lowestBits_1 : decode cX4_lowestBits 1 = .ok (.getfield 19, 3) := by decide +kernel
theorem dX4_lowestBits_4 : decode cX4_lowestBits 4 = .ok (.tableswitch 48 0 3 #[32, 37, 42, 46], 32) := by decide +kernel
theorem dX4_lowestBits_36 : decode cX4_lowestBits 36 = .ok (.lload_n 1, 1) := by decide +kernel
theorem dX4_lowestBits_37 : decode cX4_lowestBits 37 = .ok (.l2i, 1) := by decide +kernel
theorem dX4_lowestBits_38 : decode cX4_lowestBits 38 = .ok (.i2b, 1) := by decide +kernel
theorem dX4_lowestBits_39 : decode cX4_lowestBits 39 = .ok (.i2l, 1) := by decide +kernel
theorem dX4_lowestBits_40 : decode cX4_lowestBits 40 = .ok (.lreturn, 1) := by decide +kernel
theorem dX4_lowestBits_41 : decode cX4_lowestBits 41 = .ok (.lload_n 1, 1) := by decide +kernel
theorem dX4_lowestBits_42 : decode cX4_lowestBits 42 = .ok (.l2i, 1) := by decide +kernel
theorem dX4_lowestBits_43 : decode cX4_lowestBits 43 = .ok (.i2s, 1) := by decide +kernel
theorem dX4_lowestBits_44 : decode cX4_lowestBits 44 = .ok (.i2l, 1) := by decide +kernel
theorem dX4_lowestBits_45 : decode cX4_lowestBits 45 = .ok (.lreturn, 1) := by decide +kernel
theorem dX4_lowestBits_46 : decode cX4_lowestBits 46 = .ok (.lload_n 1, 1) := by decide +kernel
theorem dX4_lowestBits_47 : decode cX4_lowestBits 47 = .ok (.l2i, 1) := by decide +kernel
theorem dX4_lowestBits_48 : decode cX4_lowestBits 48 = .ok (.i2l, 1) := by decide +kernel
theorem dX4_lowestBits_49 : decode cX4_lowestBits 49 = .ok (.lreturn, 1) := by decide +kernel
theorem dX4_lowestBits_50 : decode cX4_lowestBits 50 = .ok (.lload_n 1, 1) := by decide +kernel
theorem dX4_lowestBits_51 : decode cX4_lowestBits 51 = .ok (.lreturn, 1) := by decide +kernel
theorem dX4_lowestBits_52 : decode cX4_lowestBits 52 = .ok (.lload_n 1, 1) := by decide +kernel
theorem dX4_lowestBits_53 : decode cX4_lowestBits 53 = .ok (.lconst 0, 1) := by decide +kernel
theorem dX4_lowestBits_54 : decode cX4_lowestBits 54 = .ok (.lcmp, 1) := by decide +kernel
theorem dX4_lowestBits_55 : decode cX4_lowestBits 55 = .ok (.ifCond .eq 7, 3) := by decide +kernel
theorem dX4_lowestBits_58 : decode cX4_lowestBits 58 = .ok (.lconst 1, 1) := by decide +kernel
theorem dX4_lowestBits_59 : decode cX4_lowestBits 59 = .ok (.goto 4, 3) := by decide +kernel
theorem dX4_lowestBits_62 : decode cX4_lowestBits 62 = .ok (.lconst 0, 1) := by decide +kernel
theorem dX4_lowestBits_63 : decode cX4_lowestBits 63 = .ok (.lreturn, 1) := by decide +kernel
theorem dX5_init_0 : decode cX5_init 0 = .ok (.aload_n 0, 1) := by decide +kernel
theorem dX5_init_1 : decode cX5_init 1 = .ok (.invokespecial 3, 3) := by decide +kernel
theorem dX5_init_4 : decode cX5_init 4 = .ok (.aload_n 0, 1) := by decide +kernel
theorem dX5_init_5 : decode cX5_init 5 = .ok (.bipush 14, 2) := by decide +kernel
theorem dX5_init_7 : decode cX5_init 7 = .ok (.newarray .int, 2) := by decide +kernel
theorem dX5_init_9 : decode cX5_init 9 = .ok (.putfield 9, 3) := by decide +kernel
theorem dX5_init_12 : decode cX5_init 12 = .ok (.aload_n 0, 1) := by decide +kernel
theorem dX5_init_13 : decode cX5_init 13 = .ok (.bipush 14, 2) := by decide +kernel
theorem dX5_init_15 : decode cX5_init 15 = .ok (.newarray .int, 2) := by decide +kernel
theorem dX5_init_17 : decode cX5_init 17 = .ok (.putfield 15, 3) := by decide +kernel
theorem dX5_init_20 : decode cX5_init 20 = .ok (.aload_n 0, 1) := by decide +kernel
theorem dX5_init_21 : decode cX5_init 21 = .ok (.bipush 40, 2) := by decide +kernel
theorem dX5_init_23 : decode cX5_init 23 = .ok (.newarray .int, 2) := by decide +kernel
theorem dX5_init_25 : decode cX5_init 25 = .ok (.putfield 18, 3) := by decide +kernel
theorem dX5_init_28 : decode cX5_init 28 = .ok (.aload_n 0, 1) := by decide +kernel
theorem dX5_init_29 : decode cX5_init 29 = .ok (.bipush 10, 2) := by decide +kernel
theorem dX5_init_31 : decode cX5_init 31 = .ok (.newarray .int, 2) := by decide +kernel
theorem dX5_init_33 : decode cX5_init 33 = .ok (.putfield 21, 3) := by decide +kernel
theorem dX5_init_36 : decode cX5_init 36 = .ok (.aload_n 0, 1) := by decide +kernel
theorem dX5_init_37 : decode cX5_init 37 = .ok (.bipush 10, 2) := by decide +kernel
theorem dX5_init_39 : decode cX5_init 39 = .ok (.newarray .int, 2) := by decide +kernel
theorem dX5_init_41 : decode cX5_init 41 = .ok (.putfield 24, 3) := by decide +kernel
theorem dX5_init_44 : decode cX5_init 44 = .ok (.aload_n 0, 1) := by decide +kernel
theorem dX5_init_45 : decode cX5_init 45 = .ok (.iconst 4, 1) := by decide +kernel
theorem dX5_init_46 : decode cX5_init 46 = .ok (.putfield 27, 3) := by decide +kernel
theorem dX5_init_49 : decode cX5_init 49 = .ok (.return_, 1) := by decide +kernel
theorem dX5_addDoor_0 : decode cX5_addDoor 0 = .ok (.aload_n 0, 1) := by decide +kernel
theorem dX5_addDoor_1 : decode cX5_addDoor 1 = .ok (.getfield 9, 3) := by decide +kernel
theorem dX5_addDoor_4 : decode cX5_addDoor 4 = .ok (.aload_n 0, 1) := by decide +kernel
theorem dX5_addDoor_5 : decode cX5_addDoor 5 = .ok (.getfield 31, 3) := by decide +kernel
theorem dX5_addDoor_8 : decode cX5_addDoor 8 = .ok (.iload_n 1, 1) := by decide +kernel
theorem dX5_addDoor_9 : decode cX5_addDoor 9 = .ok (.iastore, 1) := by decide +kernel
theorem dX5_addDoor_10 : decode cX5_addDoor 10 = .ok (.aload_n 0, 1) := by decide +kernel
theorem dX5_addDoor_11 : decode cX5_addDoor 11 = .ok (.getfield 15, 3) := by decide +kernel
theorem dX5_addDoor_14 : decode cX5_addDoor 14 = .ok (.aload_n 0, 1) := by decide +kernel
theorem dX5_addDoor_15 : decode cX5_addDoor 15 = .ok (.getfield 31, 3) := by decide +kernel
theorem dX5_addDoor_18 : decode cX5_addDoor 18 = .ok (.iload_n 2, 1) := by decide +kernel
theorem dX5_addDoor_19 : decode cX5_addDoor 19 = .ok (.iastore, 1) := by decide +kernel
theorem dX5_addDoor_20 : decode cX5_addDoor 20 = .ok (.aload_n 0, 1) := by decide +kernel
theorem dX5_addDoor_21 : decode cX5_addDoor 21 = .ok (.dup, 1) := by decide +kernel
theorem dX5_addDoor_22 : decode cX5_addDoor 22 = .ok (.getfield 31, 3) := by decide +kernel
theorem dX5_addDoor_25 : decode cX5_addDoor 25 = .ok (.dup_x1, 1) := by decide +kernel
theorem dX5_addDoor_26 : decode cX5_addDoor 26 = .ok (.iconst 1, 1) := by decide +kernel
theorem dX5_addDoor_27 : decode cX5_addDoor 27 = .ok (.iadd, 1) := by decide +kernel
theorem dX5_addDoor_28 : decode cX5_addDoor 28 = .ok (.putfield 31, 3) := by decide +kernel
theorem dX5_addDoor_31 : decode cX5_addDoor 31 = .ok (.ireturn, 1) := by decide +kernel
theorem dX5_addJoin_0 : decode cX5_addJoin 0 = .ok (.aload_n 0, 1) := by decide +kernel
theorem dX5_addJoin_1 : decode cX5_addJoin 1 = .ok (.getfield 18, 3) := by decide +kernel
theorem dX5_addJoin_4 : decode cX5_addJoin 4 = .ok (.aload_n 0, 1) := by decide +kernel
theorem dX5_addJoin_5 : decode cX5_addJoin 5 = .ok (.getfield 34, 3) := by decide +kernel
theorem dX5_addJoin_8 : decode cX5_addJoin 8 = .ok (.iload_n 1, 1) := by decide +kernel
theorem dX5_addJoin_9 : decode cX5_addJoin 9 = .ok (.iastore, 1) := by decide +kernel
theorem dX5_addJoin_10 : decode cX5_addJoin 10 = .ok (.aload_n 0, 1) := by decide +kernel
theorem dX5_addJoin_11 : decode cX5_addJoin 11 = .ok (.dup, 1) := by decide +kernel
theorem dX5_addJoin_12 : decode cX5_addJoin 12 = .ok (.getfield 34, 3) := by decide +kernel
theorem dX5_addJoin_15 : decode cX5_addJoin 15 = .ok (.dup_x1, 1) := by decide +kernel
theorem dX5_addJoin_16 : decode cX5_addJoin 16 = .ok (.iconst 1, 1) := by decide +kernel
theorem dX5_addJoin_17 : decode cX5_addJoin 17 = .ok (.iadd, 1) := by decide +kernel
theorem dX5_addJoin_18 : decode cX5_addJoin 18 = .ok (.putfield 34, 3) := by decide +kernel
theorem dX5_addJoin_21 : decode cX5_addJoin 21 = .ok (.ireturn, 1) := by decide +kernel
theorem dX5_addWall_0 : decode cX5_addWall 0 = .ok (.aload_n 0, 1) := by decide +kernel
theorem dX5_addWall_1 : decode cX5_addWall 1 = .ok (.getfield 21, 3) := by decide +kernel
theorem dX5_addWall_4 : decode cX5_addWall 4 = .ok (.aload_n 0, 1) := by decide +kernel
theorem dX5_addWall_5 : decode cX5_addWall 5 = .ok (.getfield 37, 3) := by decide +kernel
theorem dX5_addWall_8 : decode cX5_addWall 8 = .ok (.iload_n 1, 1) := by decide +kernel
theorem dX5_addWall_9 : decode cX5_addWall 9 = .ok (.iastore, 1) := by decide +kernel
theorem dX5_addWall_10 : decode cX5_addWall 10 = .ok (.aload_n 0, 1) := by decide +kernel
theorem dX5_addWall_11 : decode cX5_addWall 11 = .ok (.getfield 24, 3) := by decide +kernel
theorem dX5_addWall_14 : decode cX5_addWall 14 = .ok (.aload_n 0, 1) := by decide +kernel
theorem dX5_addWall_15 : decode cX5_addWall 15 = .ok (.getfield 37, 3) := by decide +kernel
theorem dX5_addWall_18 : decode cX5_addWall 18 = .ok (.iload_n 2, 1) := by decide +kernel
theorem dX5_addWall_19 : decode cX5_addWall 19 = .ok (.iastore, 1) := by decide +kernel
theorem dX5_addWall_20 : decode cX5_addWall 20 = .ok (.aload_n 0, 1) := by decide +kernel
theorem dX5_addWall_21 : decode cX5_addWall 21 = .ok (.dup, 1) := by decide +kernel
theorem dX5_addWall_22 : decode cX5_addWall 22 = .ok (.getfield 37, 3) := by decide +kernel
theorem dX5_addWall_25 : decode cX5_addWall 25 = .ok (.dup_x1, 1) := by decide +kernel
theorem dX5_addWall_26 : decode cX5_addWall 26 = .ok (.iconst 1, 1) := by decide +kernel
theorem dX5_addWall_27 : decode cX5_addWall 27 = .ok (.iadd, 1) := by decide +kernel
theorem dX5_addWall_28 : decode cX5_addWall 28 = .ok (.putfield 37, 3) := by decide +kernel
theorem dX5_addWall_31 : decode cX5_addWall 31 = .ok (.ireturn, 1) := by decide +kernel
theorem dX5_isDoor_0 : decode cX5_isDoor 0 = .ok (.iload_n 1, 1) := by decide +kernel
theorem dX5_isDoor_1 : decode cX5_isDoor 1 = .ok (.ifCond .lt 15, 3) := by decide +kernel
theorem dX5_isDoor_4 : decode cX5_isDoor 4 = .ok (.iload_n 1, 1) := by decide +kernel
theorem dX5_isDoor_5 : decode cX5_isDoor 5 = .ok (.aload_n 0, 1) := by decide +kernel
theorem dX5_isDoor_6 : decode cX5_isDoor 6 = .ok (.getfield 31, 3) := by decide +kernel
theorem dX5_isDoor_9 : decode cX5_isDoor 9 = .ok (.if_icmp .ge 7, 3) := by decide +kernel
theorem dX5_isDoor_12 : decode cX5_isDoor 12 = .ok (.iconst 1, 1) := by decide +kernel
theorem dX5_isDoor_13 : decode cX5_isDoor 13 = .ok (.goto 4, 3) := by decide +kernel
theorem dX5_isDoor_16 : decode cX5_isDoor 16 = .ok (.iconst 0, 1) := by decide +kernel
theorem dX5_isDoor_17 : decode cX5_isDoor 17 = .ok (.ireturn, 1) := by decide +kernel
theorem dX5_isWall_0 : decode cX5_isWall 0 = .ok (.iload_n 1, 1) := by decide +kernel
theorem dX5_isWall_1 : decode cX5_isWall 1 = .ok (.ifCond .lt 15, 3) := by decide +kernel
theorem dX5_isWall_4 : decode cX5_isWall 4 = .ok (.iload_n 1, 1) := by decide +kernel
theorem dX5_isWall_5 : decode cX5_isWall 5 = .ok (.aload_n 0, 1) := by decide +kernel
theorem dX5_isWall_6 : decode cX5_isWall 6 = .ok (.getfield 37, 3) := by decide +kernel
theorem dX5_isWall_9 : decode cX5_isWall 9 = .ok (.if_icmp .ge 7, 3) := by decide +kernel
theorem dX5_isWall_12 : decode cX5_isWall 12 = .ok (.iconst 1, 1) := by decide +kernel
theorem dX5_isWall_13 : decode cX5_isWall 13 = .ok (.goto 4, 3) := by decide +kernel
theorem dX5_isWall_16 : decode cX5_isWall 16 = .ok (.iconst 0, 1) := by decide +kernel
theorem dX5_isWall_17 : decode cX5_isWall 17 = .ok (.ireturn, 1) := by decide +kernel
theorem dX5_areUnlike_0 : decode cX5_areUnlike 0 = .ok (.aload_n 0, 1) := by decide +kernel
theorem dX5_areUnlike_1 : decode cX5_areUnlike 1 = .ok (.iload_n 1, 1) := by decide +kernel
theorem dX5_areUnlike_2 : decode cX5_areUnlike 2 = .ok (.invokevirtual 40, 3) := by decide +kernel
theorem dX5_areUnlike_5 : decode cX5_areUnlike 5 = .ok (.ifCond .eq 20, 3) := by decide +kernel
theorem dX5_areUnlike_8 : decode cX5_areUnlike 8 = .ok (.aload_n 0, 1) := by decide +kernel
theorem dX5_areUnlike_9 : decode cX5_areUnlike 9 = .ok (.iload_n 2, 1) := by decide +kernel
theorem dX5_areUnlike_10 : decode cX5_areUnlike 10 = .ok (.invokevirtual 40, 3) := by decide +kernel
theorem dX5_areUnlike_13 : decode cX5_areUnlike 13 = .ok (.ifCond .eq 12, 3) := by decide +kernel
theorem dX5_areUnlike_16 : decode cX5_areUnlike 16 = .ok (.iload_n 1, 1) := by decide +kernel
theorem dX5_areUnlike_17 : decode cX5_areUnlike 17 = .ok (.iload_n 2, 1) := by decide +kernel
theorem dX5_areUnlike_18 : decode cX5_areUnlike 18 = .ok (.if_icmp .eq 7, 3) := by decide +kernel
theorem dX5_areUnlike_21 : decode cX5_areUnlike 21 = .ok (.iconst 1, 1) := by decide +kernel
theorem dX5_areUnlike_22 : decode cX5_areUnlike 22 = .ok (.goto 4, 3) := by decide +kernel
theorem dX5_areUnlike_25 : decode cX5_areUnlike 25 = .ok (.iconst 0, 1) := by decide +kernel
theorem dX5_areUnlike_26 : decode cX5_areUnlike 26 = .ok (.ireturn, 1) := by decide +kernel
theorem dX5_areDoors_0 : decode cX5_areDoors 0 = .ok (.iload_n 1, 1) := by decide +kernel
theorem dX5_areDoors_1 : decode cX5_areDoors 1 = .ok (.aload_n 0, 1) := by decide +kernel
theorem dX5_areDoors_2 : decode cX5_areDoors 2 = .ok (.invokevirtual 44, 3) := by decide +kernel
theorem dX5_areDoors_5 : decode cX5_areDoors 5 = .ok (.iconst (-1), 1) := by decide +kernel
theorem dX5_areDoors_6 : decode cX5_areDoors 6 = .ok (.ixor, 1) := by decide +kernel
theorem dX5_areDoors_7 : decode cX5_areDoors 7 = .ok (.iand, 1) := by decide +kernel
theorem dX5_areDoors_8 : decode cX5_areDoors 8 = .ok (.ifCond .ne 7, 3) := by decide +kernel
theorem dX5_areDoors_11 : decode cX5_areDoors 11 = .ok (.iconst 1, 1) := by decide +kernel
theorem dX5_areDoors_12 : decode cX5_areDoors 12 = .ok (.goto 4, 3) := by decide +kernel
theorem dX5_areDoors_15 : decode cX5_areDoors 15 = .ok (.iconst 0, 1) := by decide +kernel
theorem dX5_areDoors_16 : decode cX5_areDoors 16 = .ok (.ireturn, 1) := by decide +kernel
theorem dX5_everyDoor_0 : decode cX5_everyDoor 0 = .ok (.iconst 1, 1) := by decide +kernel
theorem dX5_everyDoor_1 : decode cX5_everyDoor 1 = .ok (.aload_n 0, 1) := by decide +kernel
theorem dX5_everyDoor_2 : decode cX5_everyDoor 2 = .ok (.getfield 31, 3) := by decide +kernel
theorem dX5_everyDoor_5 : decode cX5_everyDoor 5 = .ok (.ishl, 1) := by decide +kernel
theorem dX5_everyDoor_6 : decode cX5_everyDoor 6 = .ok (.iconst 1, 1) := by decide +kernel
theorem dX5_everyDoor_7 : decode cX5_everyDoor 7 = .ok (.isub, 1) := by decide +kernel
theorem dX5_everyDoor_8 : decode cX5_everyDoor 8 = .ok (.ireturn, 1) := by decide +kernel
theorem dX5_builtBy_0 : decode cX5_builtBy 0 = .ok (.iconst 0, 1) := by decide +kernel
theorem dX5_builtBy_1 : decode cX5_builtBy 1 = .ok (.istore_n 2, 1) := by decide +kernel
theorem dX5_builtBy_2 : decode cX5_builtBy 2 = .ok (.iconst 0, 1) := by decide +kernel
theorem dX5_builtBy_3 : decode cX5_builtBy 3 = .ok (.istore_n 3, 1) := by decide +kernel
theorem dX5_builtBy_4 : decode cX5_builtBy 4 = .ok (.iload_n 3, 1) := by decide +kernel
theorem dX5_builtBy_5 : decode cX5_builtBy 5 = .ok (.aload_n 0, 1) := by decide +kernel
theorem dX5_builtBy_6 : decode cX5_builtBy 6 = .ok (.getfield 31, 3) := by decide +kernel
theorem dX5_builtBy_9 : decode cX5_builtBy 9 = .ok (.if_icmp .ge 29, 3) := by decide +kernel
theorem dX5_builtBy_12 : decode cX5_builtBy 12 = .ok (.iload_n 2, 1) := by decide +kernel
theorem dX5_builtBy_13 : decode cX5_builtBy 13 = .ok (.aload_n 0, 1) := by decide +kernel
theorem dX5_builtBy_14 : decode cX5_builtBy 14 = .ok (.getfield 15, 3) := by decide +kernel
theorem dX5_builtBy_17 : decode cX5_builtBy 17 = .ok (.iload_n 3, 1) := by decide +kernel
theorem dX5_builtBy_18 : decode cX5_builtBy 18 = .ok (.iaload, 1) := by decide +kernel
theorem dX5_builtBy_19 : decode cX5_builtBy 19 = .ok (.iload_n 1, 1) := by decide +kernel
theorem dX5_builtBy_20 : decode cX5_builtBy 20 = .ok (.if_icmp .gt 9, 3) := by decide +kernel
theorem dX5_builtBy_23 : decode cX5_builtBy 23 = .ok (.iconst 1, 1) := by decide +kernel
theorem dX5_builtBy_24 : decode cX5_builtBy 24 = .ok (.iload_n 3, 1) := by decide +kernel
theorem dX5_builtBy_25 : decode cX5_builtBy 25 = .ok (.ishl, 1) := by decide +kernel
theorem dX5_builtBy_26 : decode cX5_builtBy 26 = .ok (.goto 4, 3) := by decide +kernel
theorem dX5_builtBy_29 : decode cX5_builtBy 29 = .ok (.iconst 0, 1) := by decide +kernel
theorem dX5_builtBy_30 : decode cX5_builtBy 30 = .ok (.ior, 1) := by decide +kernel
theorem dX5_builtBy_31 : decode cX5_builtBy 31 = .ok (.istore_n 2, 1) := by decide +kernel
theorem dX5_builtBy_32 : decode cX5_builtBy 32 = .ok (.iinc 3 1, 3) := by decide +kernel
theorem dX5_builtBy_35 : decode cX5_builtBy 35 = .ok (.goto (-31), 3) := by decide +kernel
theorem dX5_builtBy_38 : decode cX5_builtBy 38 = .ok (.iload_n 2, 1) := by decide +kernel
theorem dX5_builtBy_39 : decode cX5_builtBy 39 = .ok (.ireturn, 1) := by decide +kernel
theorem dX5_soil_0 : decode cX5_soil 0 = .ok (.iconst 0, 1) := by decide +kernel
theorem dX5_soil_1 : decode cX5_soil 1 = .ok (.istore_n 1, 1) := by decide +kernel
theorem dX5_soil_2 : decode cX5_soil 2 = .ok (.iconst 0, 1) := by decide +kernel
theorem dX5_soil_3 : decode cX5_soil 3 = .ok (.istore_n 2, 1) := by decide +kernel
theorem dX5_soil_4 : decode cX5_soil 4 = .ok (.iload_n 2, 1) := by decide +kernel
theorem dX5_soil_5 : decode cX5_soil 5 = .ok (.aload_n 0, 1) := by decide +kernel
theorem dX5_soil_6 : decode cX5_soil 6 = .ok (.getfield 31, 3) := by decide +kernel
theorem dX5_soil_9 : decode cX5_soil 9 = .ok (.if_icmp .ge 28, 3) := by decide +kernel
theorem dX5_soil_12 : decode cX5_soil 12 = .ok (.iload_n 1, 1) := by decide +kernel
theorem dX5_soil_13 : decode cX5_soil 13 = .ok (.aload_n 0, 1) := by decide +kernel
theorem dX5_soil_14 : decode cX5_soil 14 = .ok (.getfield 9, 3) := by decide +kernel
theorem dX5_soil_17 : decode cX5_soil 17 = .ok (.iload_n 2, 1) := by decide +kernel
theorem dX5_soil_18 : decode cX5_soil 18 = .ok (.iaload, 1) := by decide +kernel
theorem dX5_soil_19 : decode cX5_soil 19 = .ok (.ifCond .le 9, 3) := by decide +kernel
theorem dX5_soil_22 : decode cX5_soil 22 = .ok (.iconst 1, 1) := by decide +kernel
theorem dX5_soil_23 : decode cX5_soil 23 = .ok (.iload_n 2, 1) := by decide +kernel
theorem dX5_soil_24 : decode cX5_soil 24 = .ok (.ishl, 1) := by decide +kernel
theorem dX5_soil_25 : decode cX5_soil 25 = .ok (.goto 4, 3) := by decide +kernel
theorem dX5_soil_28 : decode cX5_soil 28 = .ok (.iconst 0, 1) := by decide +kernel
theorem dX5_soil_29 : decode cX5_soil 29 = .ok (.ior, 1) := by decide +kernel
theorem dX5_soil_30 : decode cX5_soil 30 = .ok (.istore_n 1, 1) := by decide +kernel
theorem dX5_soil_31 : decode cX5_soil 31 = .ok (.iinc 2 1, 3) := by decide +kernel
theorem dX5_soil_34 : decode cX5_soil 34 = .ok (.goto (-30), 3) := by decide +kernel
theorem dX5_soil_37 : decode cX5_soil 37 = .ok (.iload_n 1, 1) := by decide +kernel
theorem dX5_soil_38 : decode cX5_soil 38 = .ok (.ireturn, 1) := by decide +kernel
theorem dX5_joinsAt_0 : decode cX5_joinsAt 0 = .ok (.aload_n 0, 1) := by decide +kernel
theorem dX5_joinsAt_1 : decode cX5_joinsAt 1 = .ok (.iload_n 2, 1) := by decide +kernel
theorem dX5_joinsAt_2 : decode cX5_joinsAt 2 = .ok (.invokevirtual 48, 3) := by decide +kernel
theorem dX5_joinsAt_5 : decode cX5_joinsAt 5 = .ok (.ifCond .eq 20, 3) := by decide +kernel
theorem dX5_joinsAt_8 : decode cX5_joinsAt 8 = .ok (.aload_n 0, 1) := by decide +kernel
theorem dX5_joinsAt_9 : decode cX5_joinsAt 9 = .ok (.getfield 21, 3) := by decide +kernel
theorem dX5_joinsAt_12 : decode cX5_joinsAt 12 = .ok (.iload_n 2, 1) := by decide +kernel
theorem dX5_joinsAt_13 : decode cX5_joinsAt 13 = .ok (.iaload, 1) := by decide +kernel
theorem dX5_joinsAt_14 : decode cX5_joinsAt 14 = .ok (.iload_n 1, 1) := by decide +kernel
theorem dX5_joinsAt_15 : decode cX5_joinsAt 15 = .ok (.invokestatic 51, 3) := by decide +kernel
theorem dX5_joinsAt_18 : decode cX5_joinsAt 18 = .ok (.ifCond .eq 7, 3) := by decide +kernel
theorem dX5_joinsAt_21 : decode cX5_joinsAt 21 = .ok (.iconst 1, 1) := by decide +kernel
theorem dX5_joinsAt_22 : decode cX5_joinsAt 22 = .ok (.goto 4, 3) := by decide +kernel
theorem dX5_joinsAt_25 : decode cX5_joinsAt 25 = .ok (.iconst 0, 1) := by decide +kernel
theorem dX5_joinsAt_26 : decode cX5_joinsAt 26 = .ok (.istore_n 3, 1) := by decide +kernel
theorem dX5_joinsAt_27 : decode cX5_joinsAt 27 = .ok (.iconst 0, 1) := by decide +kernel
theorem dX5_joinsAt_28 : decode cX5_joinsAt 28 = .ok (.istore 4, 2) := by decide +kernel
theorem dX5_joinsAt_30 : decode cX5_joinsAt 30 = .ok (.iload 4, 2) := by decide +kernel
theorem dX5_joinsAt_32 : decode cX5_joinsAt 32 = .ok (.aload_n 0, 1) := by decide +kernel
theorem dX5_joinsAt_33 : decode cX5_joinsAt 33 = .ok (.getfield 34, 3) := by decide +kernel
theorem dX5_joinsAt_36 : decode cX5_joinsAt 36 = .ok (.if_icmp .ge 31, 3) := by decide +kernel
theorem dX5_joinsAt_39 : decode cX5_joinsAt 39 = .ok (.iload_n 3, 1) := by decide +kernel
theorem dX5_joinsAt_40 : decode cX5_joinsAt 40 = .ok (.aload_n 0, 1) := by decide +kernel
theorem dX5_joinsAt_41 : decode cX5_joinsAt 41 = .ok (.getfield 18, 3) := by decide +kernel
theorem dX5_joinsAt_44 : decode cX5_joinsAt 44 = .ok (.iload 4, 2) := by decide +kernel
theorem dX5_joinsAt_46 : decode cX5_joinsAt 46 = .ok (.iaload, 1) := by decide +kernel
theorem dX5_joinsAt_47 : decode cX5_joinsAt 47 = .ok (.iload_n 1, 1) := by decide +kernel
theorem dX5_joinsAt_48 : decode cX5_joinsAt 48 = .ok (.invokestatic 51, 3) := by decide +kernel
theorem dX5_joinsAt_51 : decode cX5_joinsAt 51 = .ok (.ifCond .eq 7, 3) := by decide +kernel
theorem dX5_joinsAt_54 : decode cX5_joinsAt 54 = .ok (.iconst 1, 1) := by decide +kernel
theorem dX5_joinsAt_55 : decode cX5_joinsAt 55 = .ok (.goto 4, 3) := by decide +kernel
theorem dX5_joinsAt_58 : decode cX5_joinsAt 58 = .ok (.iconst 0, 1) := by decide +kernel
theorem dX5_joinsAt_59 : decode cX5_joinsAt 59 = .ok (.iadd, 1) := by decide +kernel
theorem dX5_joinsAt_60 : decode cX5_joinsAt 60 = .ok (.istore_n 3, 1) := by decide +kernel
theorem dX5_joinsAt_61 : decode cX5_joinsAt 61 = .ok (.iinc 4 1, 3) := by decide +kernel
theorem dX5_joinsAt_64 : decode cX5_joinsAt 64 = .ok (.goto (-34), 3) := by decide +kernel
theorem dX5_joinsAt_67 : decode cX5_joinsAt 67 = .ok (.iload_n 3, 1) := by decide +kernel
theorem dX5_joinsAt_68 : decode cX5_joinsAt 68 = .ok (.ireturn, 1) := by decide +kernel
theorem dX5_isEnd_0 : decode cX5_isEnd 0 = .ok (.iload_n 0, 1) := by decide +kernel
theorem dX5_isEnd_1 : decode cX5_isEnd 1 = .ok (.bipush 100, 2) := by decide +kernel
theorem dX5_isEnd_3 : decode cX5_isEnd 3 = .ok (.idiv, 1) := by decide +kernel
theorem dX5_isEnd_4 : decode cX5_isEnd 4 = .ok (.iload_n 1, 1) := by decide +kernel
theorem dX5_isEnd_5 : decode cX5_isEnd 5 = .ok (.if_icmp .eq 11, 3) := by decide +kernel
theorem dX5_isEnd_8 : decode cX5_isEnd 8 = .ok (.iload_n 0, 1) := by decide +kernel
theorem dX5_isEnd_9 : decode cX5_isEnd 9 = .ok (.bipush 100, 2) := by decide +kernel
theorem dX5_isEnd_11 : decode cX5_isEnd 11 = .ok (.irem, 1) := by decide +kernel
theorem dX5_isEnd_12 : decode cX5_isEnd 12 = .ok (.iload_n 1, 1) := by decide +kernel
theorem dX5_isEnd_13 : decode cX5_isEnd 13 = .ok (.if_icmp .ne 7, 3) := by decide +kernel
theorem dX5_isEnd_16 : decode cX5_isEnd 16 = .ok (.iconst 1, 1) := by decide +kernel
theorem dX5_isEnd_17 : decode cX5_isEnd 17 = .ok (.goto 4, 3) := by decide +kernel
theorem dX5_isEnd_20 : decode cX5_isEnd 20 = .ok (.iconst 0, 1) := by decide +kernel
theorem dX5_isEnd_21 : decode cX5_isEnd 21 = .ok (.ireturn, 1) := by decide +kernel
theorem dX5_canBecome_0 : decode cX5_canBecome 0 = .ok (.iload_n 1, 1) := by decide +kernel
theorem dX5_canBecome_1 : decode cX5_canBecome 1 = .ok (.tableswitch 96 0 2 #[27, 50, 73], 27) := by decide +kernel
theorem dX5_canBecome_28 : decode cX5_canBecome 28 = .ok (.aload_n 0, 1) := by decide +kernel
theorem dX5_canBecome_29 : decode cX5_canBecome 29 = .ok (.iload_n 2, 1) := by decide +kernel
theorem dX5_canBecome_30 : decode cX5_canBecome 30 = .ok (.invokevirtual 40, 3) := by decide +kernel
theorem dX5_canBecome_33 : decode cX5_canBecome 33 = .ok (.ifCond .eq 16, 3) := by decide +kernel
theorem dX5_canBecome_36 : decode cX5_canBecome 36 = .ok (.iload_n 3, 1) := by decide +kernel
theorem dX5_canBecome_37 : decode cX5_canBecome 37 = .ok (.bipush 99, 2) := by decide +kernel
theorem dX5_canBecome_39 : decode cX5_canBecome 39 = .ok (.invokestatic 55, 3) := by decide +kernel
theorem dX5_canBecome_42 : decode cX5_canBecome 42 = .ok (.ifCond .eq 7, 3) := by decide +kernel
theorem dX5_canBecome_45 : decode cX5_canBecome 45 = .ok (.iconst 1, 1) := by decide +kernel
theorem dX5_canBecome_46 : decode cX5_canBecome 46 = .ok (.goto 4, 3) := by decide +kernel
theorem dX5_canBecome_49 : decode cX5_canBecome 49 = .ok (.iconst 0, 1) := by decide +kernel
theorem dX5_canBecome_50 : decode cX5_canBecome 50 = .ok (.ireturn, 1) := by decide +kernel
theorem dX5_canBecome_51 : decode cX5_canBecome 51 = .ok (.aload_n 0, 1) := by decide +kernel
theorem dX5_canBecome_52 : decode cX5_canBecome 52 = .ok (.iload_n 2, 1) := by decide +kernel
theorem dX5_canBecome_53 : decode cX5_canBecome 53 = .ok (.invokevirtual 40, 3) := by decide +kernel
theorem dX5_canBecome_56 : decode cX5_canBecome 56 = .ok (.ifCond .eq 16, 3) := by decide +kernel
theorem dX5_canBecome_59 : decode cX5_canBecome 59 = .ok (.iload_n 3, 1) := by decide +kernel
theorem dX5_canBecome_60 : decode cX5_canBecome 60 = .ok (.bipush 9, 2) := by decide +kernel
theorem dX5_canBecome_62 : decode cX5_canBecome 62 = .ok (.invokestatic 55, 3) := by decide +kernel
theorem dX5_canBecome_65 : decode cX5_canBecome 65 = .ok (.ifCond .eq 7, 3) := by decide +kernel
theorem dX5_canBecome_68 : decode cX5_canBecome 68 = .ok (.iconst 1, 1) := by decide +kernel
theorem dX5_canBecome_69 : decode cX5_canBecome 69 = .ok (.goto 4, 3) := by decide +kernel
theorem dX5_canBecome_72 : decode cX5_canBecome 72 = .ok (.iconst 0, 1) := by decide +kernel
theorem dX5_canBecome_73 : decode cX5_canBecome 73 = .ok (.ireturn, 1) := by decide +kernel
theorem dX5_canBecome_74 : decode cX5_canBecome 74 = .ok (.aload_n 0, 1) := by decide +kernel
theorem dX5_canBecome_75 : decode cX5_canBecome 75 = .ok (.iload_n 2, 1) := by decide +kernel
theorem dX5_canBecome_76 : decode cX5_canBecome 76 = .ok (.invokevirtual 48, 3) := by decide +kernel
theorem dX5_canBecome_79 : decode cX5_canBecome 79 = .ok (.ifCond .eq 16, 3) := by decide +kernel
theorem dX5_canBecome_82 : decode cX5_canBecome 82 = .ok (.iload_n 3, 1) := by decide +kernel
theorem dX5_canBecome_83 : decode cX5_canBecome 83 = .ok (.bipush 99, 2) := by decide +kernel
theorem dX5_canBecome_85 : decode cX5_canBecome 85 = .ok (.invokestatic 55, 3) := by decide +kernel
theorem dX5_canBecome_88 : decode cX5_canBecome 88 = .ok (.ifCond .eq 7, 3) := by decide +kernel
theorem dX5_canBecome_91 : decode cX5_canBecome 91 = .ok (.iconst 1, 1) := by decide +kernel
theorem dX5_canBecome_92 : decode cX5_canBecome 92 = .ok (.goto 4, 3) := by decide +kernel
theorem dX5_canBecome_95 : decode cX5_canBecome 95 = .ok (.iconst 0, 1) := by decide +kernel
theorem dX5_canBecome_96 : decode cX5_canBecome 96 = .ok (.ireturn, 1) := by decide +kernel
theorem dX5_canBecome_97 : decode cX5_canBecome 97 = .ok (.iconst 0, 1) := by decide +kernel
theorem dX5_canBecome_98 : decode cX5_canBecome 98 = .ok (.ireturn, 1) := by decide +kernel
theorem dX5_become_0 : decode cX5_become 0 = .ok (.iload_n 1, 1) := by decide +kernel
theorem dX5_become_1 : decode cX5_become 1 = .ok (.ifCond .ne 10, 3) := by decide +kernel
theorem dX5_become_4 : decode cX5_become 4 = .ok (.aload_n 0, 1) := by decide +kernel
theorem dX5_become_5 : decode cX5_become 5 = .ok (.getfield 9, 3) := by decide +kernel
theorem dX5_become_8 : decode cX5_become 8 = .ok (.goto 19, 3) := by decide +kernel
theorem dX5_become_11 : decode cX5_become 11 = .ok (.iload_n 1, 1) := by decide +kernel
theorem dX5_become_12 : decode cX5_become 12 = .ok (.iconst 1, 1) := by decide +kernel
theorem dX5_become_13 : decode cX5_become 13 = .ok (.if_icmp .ne 10, 3) := by decide +kernel
theorem dX5_become_16 : decode cX5_become 16 = .ok (.aload_n 0, 1) := by decide +kernel
theorem dX5_become_17 : decode cX5_become 17 = .ok (.getfield 15, 3) := by decide +kernel
theorem dX5_become_20 : decode cX5_become 20 = .ok (.goto 7, 3) := by decide +kernel
theorem dX5_become_23 : decode cX5_become 23 = .ok (.aload_n 0, 1) := by decide +kernel
theorem dX5_become_24 : decode cX5_become 24 = .ok (.getfield 24, 3) := by decide +kernel
theorem dX5_become_27 : decode cX5_become 27 = .ok (.astore 4, 2) := by decide +kernel
theorem dX5_become_29 : decode cX5_become 29 = .ok (.iload_n 2, 1) := by decide +kernel
theorem dX5_become_30 : decode cX5_become 30 = .ok (.ifCond .lt 10, 3) := by decide +kernel
theorem dX5_become_33 : decode cX5_become 33 = .ok (.iload_n 2, 1) := by decide +kernel
theorem dX5_become_34 : decode cX5_become 34 = .ok (.aload 4, 2) := by decide +kernel
theorem dX5_become_36 : decode cX5_become 36 = .ok (.arraylength, 1) := by decide +kernel
theorem dX5_become_37 : decode cX5_become 37 = .ok (.if_icmp .lt 5, 3) := by decide +kernel
theorem dX5_become_40 : decode cX5_become 40 = .ok (.iconst (-1), 1) := by decide +kernel
theorem dX5_become_41 : decode cX5_become 41 = .ok (.ireturn, 1) := by decide +kernel
theorem dX5_become_42 : decode cX5_become 42 = .ok (.aload 4, 2) := by decide +kernel
theorem dX5_become_44 : decode cX5_become 44 = .ok (.iload_n 2, 1) := by decide +kernel
theorem dX5_become_45 : decode cX5_become 45 = .ok (.iaload, 1) := by decide +kernel
theorem dX5_become_46 : decode cX5_become 46 = .ok (.istore 5, 2) := by decide +kernel
theorem dX5_become_48 : decode cX5_become 48 = .ok (.aload 4, 2) := by decide +kernel
theorem dX5_become_50 : decode cX5_become 50 = .ok (.iload_n 2, 1) := by decide +kernel
theorem dX5_become_51 : decode cX5_become 51 = .ok (.iload_n 3, 1) := by decide +kernel
theorem dX5_become_52 : decode cX5_become 52 = .ok (.iastore, 1) := by decide +kernel
theorem dX5_become_53 : decode cX5_become 53 = .ok (.iload 5, 2) := by decide +kernel
theorem dX5_become_55 : decode cX5_become 55 = .ok (.ireturn, 1) := by decide +kernel
theorem dJ6_bitCount_0f7a4_0 : decode cJ6_bitCount_0f7a4 0 = .ok (.iload_n 0, 1) := by decide +kernel
theorem dJ6_bitCount_0f7a4_1 : decode cJ6_bitCount_0f7a4 1 = .ok (.iload_n 0, 1) := by decide +kernel
theorem dJ6_bitCount_0f7a4_2 : decode cJ6_bitCount_0f7a4 2 = .ok (.iconst 1, 1) := by decide +kernel
theorem dJ6_bitCount_0f7a4_3 : decode cJ6_bitCount_0f7a4 3 = .ok (.iushr, 1) := by decide +kernel
theorem dJ6_bitCount_0f7a4_4 : decode cJ6_bitCount_0f7a4 4 = .ok (.ldc_w 265, 3) := by decide +kernel
theorem dJ6_bitCount_0f7a4_7 : decode cJ6_bitCount_0f7a4 7 = .ok (.iand, 1) := by decide +kernel
theorem dJ6_bitCount_0f7a4_8 : decode cJ6_bitCount_0f7a4 8 = .ok (.isub, 1) := by decide +kernel
theorem dJ6_bitCount_0f7a4_9 : decode cJ6_bitCount_0f7a4 9 = .ok (.istore_n 0, 1) := by decide +kernel
theorem dJ6_bitCount_0f7a4_10 : decode cJ6_bitCount_0f7a4 10 = .ok (.iload_n 0, 1) := by decide +kernel
theorem dJ6_bitCount_0f7a4_11 : decode cJ6_bitCount_0f7a4 11 = .ok (.ldc_w 266, 3) := by decide +kernel
theorem dJ6_bitCount_0f7a4_14 : decode cJ6_bitCount_0f7a4 14 = .ok (.iand, 1) := by decide +kernel
theorem dJ6_bitCount_0f7a4_15 : decode cJ6_bitCount_0f7a4 15 = .ok (.iload_n 0, 1) := by decide +kernel
theorem dJ6_bitCount_0f7a4_16 : decode cJ6_bitCount_0f7a4 16 = .ok (.iconst 2, 1) := by decide +kernel
theorem dJ6_bitCount_0f7a4_17 : decode cJ6_bitCount_0f7a4 17 = .ok (.iushr, 1) := by decide +kernel
theorem dJ6_bitCount_0f7a4_18 : decode cJ6_bitCount_0f7a4 18 = .ok (.ldc_w 266, 3) := by decide +kernel
theorem dJ6_bitCount_0f7a4_21 : decode cJ6_bitCount_0f7a4 21 = .ok (.iand, 1) := by decide +kernel
theorem dJ6_bitCount_0f7a4_22 : decode cJ6_bitCount_0f7a4 22 = .ok (.iadd, 1) := by decide +kernel
theorem dJ6_bitCount_0f7a4_23 : decode cJ6_bitCount_0f7a4 23 = .ok (.istore_n 0, 1) := by decide +kernel
theorem dJ6_bitCount_0f7a4_24 : decode cJ6_bitCount_0f7a4 24 = .ok (.iload_n 0, 1) := by decide +kernel
theorem dJ6_bitCount_0f7a4_25 : decode cJ6_bitCount_0f7a4 25 = .ok (.iload_n 0, 1) := by decide +kernel
theorem dJ6_bitCount_0f7a4_26 : decode cJ6_bitCount_0f7a4 26 = .ok (.iconst 4, 1) := by decide +kernel
theorem dJ6_bitCount_0f7a4_27 : decode cJ6_bitCount_0f7a4 27 = .ok (.iushr, 1) := by decide +kernel
theorem dJ6_bitCount_0f7a4_28 : decode cJ6_bitCount_0f7a4 28 = .ok (.iadd, 1) := by decide +kernel
theorem dJ6_bitCount_0f7a4_29 : decode cJ6_bitCount_0f7a4 29 = .ok (.ldc_w 267, 3) := by decide +kernel
theorem dJ6_bitCount_0f7a4_32 : decode cJ6_bitCount_0f7a4 32 = .ok (.iand, 1) := by decide +kernel
theorem dJ6_bitCount_0f7a4_33 : decode cJ6_bitCount_0f7a4 33 = .ok (.istore_n 0, 1) := by decide +kernel
theorem dJ6_bitCount_0f7a4_34 : decode cJ6_bitCount_0f7a4 34 = .ok (.iload_n 0, 1) := by decide +kernel
theorem dJ6_bitCount_0f7a4_35 : decode cJ6_bitCount_0f7a4 35 = .ok (.iload_n 0, 1) := by decide +kernel
theorem dJ6_bitCount_0f7a4_36 : decode cJ6_bitCount_0f7a4 36 = .ok (.bipush 8, 2) := by decide +kernel
theorem dJ6_bitCount_0f7a4_38 : decode cJ6_bitCount_0f7a4 38 = .ok (.iushr, 1) := by decide +kernel
theorem dJ6_bitCount_0f7a4_39 : decode cJ6_bitCount_0f7a4 39 = .ok (.iadd, 1) := by decide +kernel
theorem dJ6_bitCount_0f7a4_40 : decode cJ6_bitCount_0f7a4 40 = .ok (.istore_n 0, 1) := by decide +kernel
theorem dJ6_bitCount_0f7a4_41 : decode cJ6_bitCount_0f7a4 41 = .ok (.iload_n 0, 1) := by decide +kernel
theorem dJ6_bitCount_0f7a4_42 : decode cJ6_bitCount_0f7a4 42 = .ok (.iload_n 0, 1) := by decide +kernel
theorem dJ6_bitCount_0f7a4_43 : decode cJ6_bitCount_0f7a4 43 = .ok (.bipush 16, 2) := by decide +kernel
theorem dJ6_bitCount_0f7a4_45 : decode cJ6_bitCount_0f7a4 45 = .ok (.iushr, 1) := by decide +kernel
theorem dJ6_bitCount_0f7a4_46 : decode cJ6_bitCount_0f7a4 46 = .ok (.iadd, 1) := by decide +kernel
theorem dJ6_bitCount_0f7a4_47 : decode cJ6_bitCount_0f7a4 47 = .ok (.istore_n 0, 1) := by decide +kernel
theorem dJ6_bitCount_0f7a4_48 : decode cJ6_bitCount_0f7a4 48 = .ok (.iload_n 0, 1) := by decide +kernel
theorem dJ6_bitCount_0f7a4_49 : decode cJ6_bitCount_0f7a4 49 = .ok (.bipush 63, 2) := by decide +kernel
theorem dJ6_bitCount_0f7a4_51 : decode cJ6_bitCount_0f7a4 51 = .ok (.iand, 1) := by decide +kernel
theorem dJ6_bitCount_0f7a4_52 : decode cJ6_bitCount_0f7a4 52 = .ok (.ireturn, 1) := by decide +kernel
theorem dJ9_max_7cf53_0 : decode cJ9_max_7cf53 0 = .ok (.iload_n 0, 1) := by decide +kernel
theorem dJ9_max_7cf53_1 : decode cJ9_max_7cf53 1 = .ok (.iload_n 1, 1) := by decide +kernel
theorem dJ9_max_7cf53_2 : decode cJ9_max_7cf53 2 = .ok (.if_icmp .lt 7, 3) := by decide +kernel
theorem dJ9_max_7cf53_5 : decode cJ9_max_7cf53 5 = .ok (.iload_n 0, 1) := by decide +kernel
theorem dJ9_max_7cf53_6 : decode cJ9_max_7cf53 6 = .ok (.goto 4, 3) := by decide +kernel
theorem dJ9_max_7cf53_9 : decode cJ9_max_7cf53 9 = .ok (.iload_n 1, 1) := by decide +kernel
theorem dJ9_max_7cf53_10 : decode cJ9_max_7cf53 10 = .ok (.ireturn, 1) := by decide +kernel
theorem dJ9_min_7cf53_0 : decode cJ9_min_7cf53 0 = .ok (.iload_n 0, 1) := by decide +kernel
theorem dJ9_min_7cf53_1 : decode cJ9_min_7cf53 1 = .ok (.iload_n 1, 1) := by decide +kernel
theorem dJ9_min_7cf53_2 : decode cJ9_min_7cf53 2 = .ok (.if_icmp .gt 7, 3) := by decide +kernel
theorem dJ9_min_7cf53_5 : decode cJ9_min_7cf53 5 = .ok (.iload_n 0, 1) := by decide +kernel
theorem dJ9_min_7cf53_6 : decode cJ9_min_7cf53 6 = .ok (.goto 4, 3) := by decide +kernel
theorem dJ9_min_7cf53_9 : decode cJ9_min_7cf53 9 = .ok (.iload_n 1, 1) := by decide +kernel
theorem dJ9_min_7cf53_10 : decode cJ9_min_7cf53 10 = .ok (.ireturn, 1) := by decide +kernel
theorem dX6_init_0 : decode cX6_init 0 = .ok (.aload_n 0, 1) := by decide +kernel
theorem dX6_init_1 : decode cX6_init 1 = .ok (.invokespecial 1, 3) := by decide +kernel
theorem dX6_init_4 : decode cX6_init 4 = .ok (.aload_n 0, 1) := by decide +kernel
theorem dX6_init_5 : decode cX6_init 5 = .ok (.new 7, 3) := by decide +kernel
theorem dX6_init_8 : decode cX6_init 8 = .ok (.dup, 1) := by decide +kernel
theorem dX6_init_9 : decode cX6_init 9 = .ok (.invokespecial 9, 3) := by decide +kernel
theorem dX6_init_12 : decode cX6_init 12 = .ok (.putfield 10, 3) := by decide +kernel
theorem dX6_init_15 : decode cX6_init 15 = .ok (.aload_n 0, 1) := by decide +kernel
theorem dX6_init_16 : decode cX6_init 16 = .ok (.new 16, 3) := by decide +kernel
theorem dX6_init_19 : decode cX6_init 19 = .ok (.dup, 1) := by decide +kernel
theorem dX6_init_20 : decode cX6_init 20 = .ok (.invokespecial 18, 3) := by decide +kernel
theorem dX6_init_23 : decode cX6_init 23 = .ok (.putfield 19, 3) := by decide +kernel
theorem dX6_init_26 : decode cX6_init 26 = .ok (.aload_n 0, 1) := by decide +kernel
theorem dX6_init_27 : decode cX6_init 27 = .ok (.new 23, 3) := by decide +kernel
theorem dX6_init_30 : decode cX6_init 30 = .ok (.dup, 1) := by decide +kernel
theorem dX6_init_31 : decode cX6_init 31 = .ok (.invokespecial 25, 3) := by decide +kernel
theorem dX6_init_34 : decode cX6_init 34 = .ok (.putfield 26, 3) := by decide +kernel
theorem dX6_init_37 : decode cX6_init 37 = .ok (.aload_n 0, 1) := by decide +kernel
theorem dX6_init_38 : decode cX6_init 38 = .ok (.new 30, 3) := by decide +kernel
theorem dX6_init_41 : decode cX6_init 41 = .ok (.dup, 1) := by decide +kernel
theorem dX6_init_42 : decode cX6_init 42 = .ok (.invokespecial 32, 3) := by decide +kernel
theorem dX6_init_45 : decode cX6_init 45 = .ok (.putfield 33, 3) := by decide +kernel
theorem dX6_init_48 : decode cX6_init 48 = .ok (.aload_n 0, 1) := by decide +kernel
theorem dX6_init_49 : decode cX6_init 49 = .ok (.new 37, 3) := by decide +kernel
theorem dX6_init_52 : decode cX6_init 52 = .ok (.dup, 1) := by decide +kernel
theorem dX6_init_53 : decode cX6_init 53 = .ok (.invokespecial 39, 3) := by decide +kernel
theorem dX6_init_56 : decode cX6_init 56 = .ok (.putfield 40, 3) := by decide +kernel
theorem dX6_init_59 : decode cX6_init 59 = .ok (.aload_n 0, 1) := by decide +kernel
theorem dX6_init_60 : decode cX6_init 60 = .ok (.bipush 6, 2) := by decide +kernel
theorem dX6_init_62 : decode cX6_init 62 = .ok (.anewarray 44, 3) := by decide +kernel
theorem dX6_init_65 : decode cX6_init 65 = .ok (.putfield 46, 3) := by decide +kernel
theorem dX6_init_68 : decode cX6_init 68 = .ok (.aload_n 0, 1) := by decide +kernel
theorem dX6_init_69 : decode cX6_init 69 = .ok (.sipush 512, 3) := by decide +kernel
theorem dX6_init_72 : decode cX6_init 72 = .ok (.newarray .boolean, 2) := by decide +kernel
theorem dX6_init_74 : decode cX6_init 74 = .ok (.putfield 50, 3) := by decide +kernel
theorem dX6_init_77 : decode cX6_init 77 = .ok (.iconst 0, 1) := by decide +kernel
theorem dX6_init_78 : decode cX6_init 78 = .ok (.istore_n 1, 1) := by decide +kernel
theorem dX6_init_79 : decode cX6_init 79 = .ok (.iload_n 1, 1) := by decide +kernel
theorem dX6_init_80 : decode cX6_init 80 = .ok (.bipush 6, 2) := by decide +kernel
theorem dX6_init_82 : decode cX6_init 82 = .ok (.if_icmp .ge 22, 3) := by decide +kernel
theorem dX6_init_85 : decode cX6_init 85 = .ok (.aload_n 0, 1) := by decide +kernel
theorem dX6_init_86 : decode cX6_init 86 = .ok (.getfield 46, 3) := by decide +kernel
theorem dX6_init_89 : decode cX6_init 89 = .ok (.iload_n 1, 1) := by decide +kernel
theorem dX6_init_90 : decode cX6_init 90 = .ok (.new 44, 3) := by decide +kernel
theorem dX6_init_93 : decode cX6_init 93 = .ok (.dup, 1) := by decide +kernel
theorem dX6_init_94 : decode cX6_init 94 = .ok (.invokespecial 54, 3) := by decide +kernel
theorem dX6_init_97 : decode cX6_init 97 = .ok (.aastore, 1) := by decide +kernel
theorem dX6_init_98 : decode cX6_init 98 = .ok (.iinc 1 1, 3) := by decide +kernel
theorem dX6_init_101 : decode cX6_init 101 = .ok (.goto (-22), 3) := by decide +kernel
theorem dX6_init_104 : decode cX6_init 104 = .ok (.return_, 1) := by decide +kernel
theorem dX6_door_0 : decode cX6_door 0 = .ok (.iload_n 1, 1) := by decide +kernel
theorem dX6_door_1 : decode cX6_door 1 = .ok (.bipush 99, 2) := by decide +kernel
theorem dX6_door_3 : decode cX6_door 3 = .ok (.invokestatic 55, 3) := by decide +kernel
theorem dX6_door_6 : decode cX6_door 6 = .ok (.ifCond .eq 12, 3) := by decide +kernel
theorem dX6_door_9 : decode cX6_door 9 = .ok (.iload_n 2, 1) := by decide +kernel
theorem dX6_door_10 : decode cX6_door 10 = .ok (.bipush 9, 2) := by decide +kernel
theorem dX6_door_12 : decode cX6_door 12 = .ok (.invokestatic 55, 3) := by decide +kernel
theorem dX6_door_15 : decode cX6_door 15 = .ok (.ifCond .ne 5, 3) := by decide +kernel
theorem dX6_door_18 : decode cX6_door 18 = .ok (.iconst (-1), 1) := by decide +kernel
theorem dX6_door_19 : decode cX6_door 19 = .ok (.ireturn, 1) := by decide +kernel
theorem dX6_door_20 : decode cX6_door 20 = .ok (.aload_n 0, 1) := by decide +kernel
theorem dX6_door_21 : decode cX6_door 21 = .ok (.getfield 10, 3) := by decide +kernel
theorem dX6_door_24 : decode cX6_door 24 = .ok (.getfield 59, 3) := by decide +kernel
theorem dX6_door_27 : decode cX6_door 27 = .ok (.bipush 14, 2) := by decide +kernel
theorem dX6_door_29 : decode cX6_door 29 = .ok (.if_icmp .lt 8, 3) := by decide +kernel
theorem dX6_door_32 : decode cX6_door 32 = .ok (.bipush (-3), 2) := by decide +kernel
theorem dX6_door_34 : decode cX6_door 34 = .ok (.goto 12, 3) := by decide +kernel
theorem dX6_door_37 : decode cX6_door 37 = .ok (.aload_n 0, 1) := by decide +kernel
theorem dX6_door_38 : decode cX6_door 38 = .ok (.getfield 10, 3) := by decide +kernel
theorem dX6_door_41 : decode cX6_door 41 = .ok (.iload_n 1, 1) := by decide +kernel
theorem dX6_door_42 : decode cX6_door 42 = .ok (.iload_n 2, 1) := by decide +kernel
theorem dX6_door_43 : decode cX6_door 43 = .ok (.invokevirtual 63, 3) := by decide +kernel
theorem dX6_door_46 : decode cX6_door 46 = .ok (.ireturn, 1) := by decide +kernel
theorem dX6_join_0 : decode cX6_join 0 = .ok (.iload_n 1, 1) := by decide +kernel
theorem dX6_join_1 : decode cX6_join 1 = .ok (.ifCond .lt 21, 3) := by decide +kernel
theorem dX6_join_4 : decode cX6_join 4 = .ok (.aload_n 0, 1) := by decide +kernel
theorem dX6_join_5 : decode cX6_join 5 = .ok (.getfield 10, 3) := by decide +kernel
theorem dX6_join_8 : decode cX6_join 8 = .ok (.iload_n 1, 1) := by decide +kernel
theorem dX6_join_9 : decode cX6_join 9 = .ok (.bipush 100, 2) := by decide +kernel
theorem dX6_join_11 : decode cX6_join 11 = .ok (.idiv, 1) := by decide +kernel
theorem dX6_join_12 : decode cX6_join 12 = .ok (.iload_n 1, 1) := by decide +kernel
theorem dX6_join_13 : decode cX6_join 13 = .ok (.bipush 100, 2) := by decide +kernel
theorem dX6_join_15 : decode cX6_join 15 = .ok (.irem, 1) := by decide +kernel
theorem dX6_join_16 : decode cX6_join 16 = .ok (.invokevirtual 67, 3) := by decide +kernel
theorem dX6_join_19 : decode cX6_join 19 = .ok (.ifCond .ne 5, 3) := by decide +kernel
theorem dX6_join_22 : decode cX6_join 22 = .ok (.iconst (-1), 1) := by decide +kernel
theorem dX6_join_23 : decode cX6_join 23 = .ok (.ireturn, 1) := by decide +kernel
theorem dX6_join_24 : decode cX6_join 24 = .ok (.aload_n 0, 1) := by decide +kernel
theorem dX6_join_25 : decode cX6_join 25 = .ok (.getfield 10, 3) := by decide +kernel
theorem dX6_join_28 : decode cX6_join 28 = .ok (.getfield 70, 3) := by decide +kernel
