theorem dX0_init_0 : decode cX0_init 0 = .ok (.aload_n 0, 1) := by decide +kernel
theorem dX0_init_1 : decode cX0_init 1 = .ok (.invokespecial 3, 3) := by decide +kernel
theorem dX0_init_4 : decode cX0_init 4 = .ok (.aload_n 0, 1) := by decide +kernel
theorem dX0_init_5 : decode cX0_init 5 = .ok (.bipush 50, 2) := by decide +kernel
theorem dX0_init_7 : decode cX0_init 7 = .ok (.newarray .int, 2) := by decide +kernel
theorem dX0_init_9 : decode cX0_init 9 = .ok (.putfield 9, 3) := by decide +kernel
theorem dX0_init_12 : decode cX0_init 12 = .ok (.aload_n 0, 1) := by decide +kernel
theorem dX0_init_13 : decode cX0_init 13 = .ok (.bipush 24, 2) := by decide +kernel
theorem dX0_init_15 : decode cX0_init 15 = .ok (.newarray .int, 2) := by decide +kernel
theorem dX0_init_17 : decode cX0_init 17 = .ok (.putfield 15, 3) := by decide +kernel
theorem dX0_init_20 : decode cX0_init 20 = .ok (.return_, 1) := by decide +kernel
theorem dX0_addBody_0 : decode cX0_addBody 0 = .ok (.aload_n 0, 1) := by decide +kernel
theorem dX0_addBody_1 : decode cX0_addBody 1 = .ok (.getfield 9, 3) := by decide +kernel
theorem dX0_addBody_4 : decode cX0_addBody 4 = .ok (.aload_n 0, 1) := by decide +kernel
theorem dX0_addBody_5 : decode cX0_addBody 5 = .ok (.getfield 18, 3) := by decide +kernel
theorem dX0_addBody_8 : decode cX0_addBody 8 = .ok (.iload_n 1, 1) := by decide +kernel
theorem dX0_addBody_9 : decode cX0_addBody 9 = .ok (.iastore, 1) := by decide +kernel
theorem dX0_addBody_10 : decode cX0_addBody 10 = .ok (.aload_n 0, 1) := by decide +kernel
theorem dX0_addBody_11 : decode cX0_addBody 11 = .ok (.dup, 1) := by decide +kernel
theorem dX0_addBody_12 : decode cX0_addBody 12 = .ok (.getfield 18, 3) := by decide +kernel
theorem dX0_addBody_15 : decode cX0_addBody 15 = .ok (.dup_x1, 1) := by decide +kernel
theorem dX0_addBody_16 : decode cX0_addBody 16 = .ok (.iconst 1, 1) := by decide +kernel
theorem dX0_addBody_17 : decode cX0_addBody 17 = .ok (.iadd, 1) := by decide +kernel
theorem dX0_addBody_18 : decode cX0_addBody 18 = .ok (.putfield 18, 3) := by decide +kernel
theorem dX0_addBody_21 : decode cX0_addBody 21 = .ok (.ireturn, 1) := by decide +kernel
theorem dX0_start_0 : decode cX0_start 0 = .ok (.aload_n 0, 1) := by decide +kernel
theorem dX0_start_1 : decode cX0_start 1 = .ok (.iconst 0, 1) := by decide +kernel
theorem dX0_start_2 : decode cX0_start 2 = .ok (.putfield 22, 3) := by decide +kernel
theorem dX0_start_5 : decode cX0_start 5 = .ok (.iload_n 1, 1) := by decide +kernel
theorem dX0_start_6 : decode cX0_start 6 = .ok (.ifCond .lt 20, 3) := by decide +kernel
theorem dX0_start_9 : decode cX0_start 9 = .ok (.iload_n 1, 1) := by decide +kernel
theorem dX0_start_10 : decode cX0_start 10 = .ok (.aload_n 0, 1) := by decide +kernel
theorem dX0_start_11 : decode cX0_start 11 = .ok (.getfield 18, 3) := by decide +kernel
theorem dX0_start_14 : decode cX0_start 14 = .ok (.if_icmp .ge 12, 3) := by decide +kernel
theorem dX0_start_17 : decode cX0_start 17 = .ok (.iload_n 2, 1) := by decide +kernel
theorem dX0_start_18 : decode cX0_start 18 = .ok (.ifCond .lt 8, 3) := by decide +kernel
theorem dX0_start_21 : decode cX0_start 21 = .ok (.iload_n 2, 1) := by decide +kernel
theorem dX0_start_22 : decode cX0_start 22 = .ok (.iconst 4, 1) := by decide +kernel
theorem dX0_start_23 : decode cX0_start 23 = .ok (.if_icmp .lt 5, 3) := by decide +kernel
theorem dX0_start_26 : decode cX0_start 26 = .ok (.iconst 0, 1) := by decide +kernel
theorem dX0_start_27 : decode cX0_start 27 = .ok (.ireturn, 1) := by decide +kernel
theorem dX0_start_28 : decode cX0_start 28 = .ok (.aload_n 0, 1) := by decide +kernel
theorem dX0_start_29 : decode cX0_start 29 = .ok (.iload_n 1, 1) := by decide +kernel
theorem dX0_start_30 : decode cX0_start 30 = .ok (.putfield 25, 3) := by decide +kernel
theorem dX0_start_33 : decode cX0_start 33 = .ok (.aload_n 0, 1) := by decide +kernel
theorem dX0_start_34 : decode cX0_start 34 = .ok (.aload_n 0, 1) := by decide +kernel
theorem dX0_start_35 : decode cX0_start 35 = .ok (.getfield 9, 3) := by decide +kernel
theorem dX0_start_38 : decode cX0_start 38 = .ok (.iload_n 1, 1) := by decide +kernel
theorem dX0_start_39 : decode cX0_start 39 = .ok (.iaload, 1) := by decide +kernel
theorem dX0_start_40 : decode cX0_start 40 = .ok (.putfield 28, 3) := by decide +kernel
theorem dX0_start_43 : decode cX0_start 43 = .ok (.aload_n 0, 1) := by decide +kernel
theorem dX0_start_44 : decode cX0_start 44 = .ok (.aload_n 0, 1) := by decide +kernel
theorem dX0_start_45 : decode cX0_start 45 = .ok (.getfield 28, 3) := by decide +kernel
theorem dX0_start_48 : decode cX0_start 48 = .ok (.iload_n 2, 1) := by decide +kernel
theorem dX0_start_49 : decode cX0_start 49 = .ok (.iload_n 3, 1) := by decide +kernel
theorem dX0_start_50 : decode cX0_start 50 = .ok (.iconst 0, 1) := by decide +kernel
theorem dX0_start_51 : decode cX0_start 51 = .ok (.invokevirtual 31, 3) := by decide +kernel
theorem dX0_start_54 : decode cX0_start 54 = .ok (.ireturn, 1) := by decide +kernel
theorem dX0_isUnder_0 : decode cX0_isUnder 0 = .ok (.iload_n 0, 1) := by decide +kernel
theorem dX0_isUnder_1 : decode cX0_isUnder 1 = .ok (.istore_n 2, 1) := by decide +kernel
theorem dX0_isUnder_2 : decode cX0_isUnder 2 = .ok (.iconst 0, 1) := by decide +kernel
theorem dX0_isUnder_3 : decode cX0_isUnder 3 = .ok (.istore_n 3, 1) := by decide +kernel
theorem dX0_isUnder_4 : decode cX0_isUnder 4 = .ok (.iload_n 3, 1) := by decide +kernel
theorem dX0_isUnder_5 : decode cX0_isUnder 5 = .ok (.bipush 8, 2) := by decide +kernel
theorem dX0_isUnder_7 : decode cX0_isUnder 7 = .ok (.if_icmp .ge 24, 3) := by decide +kernel
theorem dX0_isUnder_10 : decode cX0_isUnder 10 = .ok (.iload_n 2, 1) := by decide +kernel
theorem dX0_isUnder_11 : decode cX0_isUnder 11 = .ok (.ifCond .lt 20, 3) := by decide +kernel
theorem dX0_isUnder_14 : decode cX0_isUnder 14 = .ok (.iload_n 2, 1) := by decide +kernel
theorem dX0_isUnder_15 : decode cX0_isUnder 15 = .ok (.iload_n 1, 1) := by decide +kernel
theorem dX0_isUnder_16 : decode cX0_isUnder 16 = .ok (.if_icmp .eq 15, 3) := by decide +kernel
theorem dX0_isUnder_19 : decode cX0_isUnder 19 = .ok (.getstatic 35, 3) := by decide +kernel
theorem dX0_isUnder_22 : decode cX0_isUnder 22 = .ok (.iload_n 2, 1) := by decide +kernel
theorem dX0_isUnder_23 : decode cX0_isUnder 23 = .ok (.iaload, 1) := by decide +kernel
theorem dX0_isUnder_24 : decode cX0_isUnder 24 = .ok (.istore_n 2, 1) := by decide +kernel
theorem dX0_isUnder_25 : decode cX0_isUnder 25 = .ok (.iinc 3 1, 3) := by decide +kernel
theorem dX0_isUnder_28 : decode cX0_isUnder 28 = .ok (.goto (-24), 3) := by decide +kernel
theorem dX0_isUnder_31 : decode cX0_isUnder 31 = .ok (.iload_n 2, 1) := by decide +kernel
theorem dX0_isUnder_32 : decode cX0_isUnder 32 = .ok (.iload_n 1, 1) := by decide +kernel
theorem dX0_isUnder_33 : decode cX0_isUnder 33 = .ok (.if_icmp .ne 7, 3) := by decide +kernel
theorem dX0_isUnder_36 : decode cX0_isUnder 36 = .ok (.iconst 1, 1) := by decide +kernel
theorem dX0_isUnder_37 : decode cX0_isUnder 37 = .ok (.goto 4, 3) := by decide +kernel
theorem dX0_isUnder_40 : decode cX0_isUnder 40 = .ok (.iconst 0, 1) := by decide +kernel
theorem dX0_isUnder_41 : decode cX0_isUnder 41 = .ok (.ireturn, 1) := by decide +kernel
theorem dX0_ownerOf_0 : decode cX0_ownerOf 0 = .ok (.iload_n 0, 1) := by decide +kernel
theorem dX0_ownerOf_1 : decode cX0_ownerOf 1 = .ok (.istore_n 2, 1) := by decide +kernel
theorem dX0_ownerOf_2 : decode cX0_ownerOf 2 = .ok (.iconst 0, 1) := by decide +kernel
theorem dX0_ownerOf_3 : decode cX0_ownerOf 3 = .ok (.istore_n 3, 1) := by decide +kernel
theorem dX0_ownerOf_4 : decode cX0_ownerOf 4 = .ok (.iload_n 3, 1) := by decide +kernel
theorem dX0_ownerOf_5 : decode cX0_ownerOf 5 = .ok (.bipush 8, 2) := by decide +kernel
theorem dX0_ownerOf_7 : decode cX0_ownerOf 7 = .ok (.if_icmp .ge 31, 3) := by decide +kernel
theorem dX0_ownerOf_10 : decode cX0_ownerOf 10 = .ok (.iload_n 2, 1) := by decide +kernel
theorem dX0_ownerOf_11 : decode cX0_ownerOf 11 = .ok (.ifCond .lt 27, 3) := by decide +kernel
theorem dX0_ownerOf_14 : decode cX0_ownerOf 14 = .ok (.getstatic 38, 3) := by decide +kernel
theorem dX0_ownerOf_17 : decode cX0_ownerOf 17 = .ok (.iconst 4, 1) := by decide +kernel
theorem dX0_ownerOf_18 : decode cX0_ownerOf 18 = .ok (.iload_n 2, 1) := by decide +kernel
theorem dX0_ownerOf_19 : decode cX0_ownerOf 19 = .ok (.imul, 1) := by decide +kernel
theorem dX0_ownerOf_20 : decode cX0_ownerOf 20 = .ok (.iload_n 1, 1) := by decide +kernel
theorem dX0_ownerOf_21 : decode cX0_ownerOf 21 = .ok (.iadd, 1) := by decide +kernel
theorem dX0_ownerOf_22 : decode cX0_ownerOf 22 = .ok (.iaload, 1) := by decide +kernel
theorem dX0_ownerOf_23 : decode cX0_ownerOf 23 = .ok (.ifCond .ne 15, 3) := by decide +kernel
theorem dX0_ownerOf_26 : decode cX0_ownerOf 26 = .ok (.getstatic 35, 3) := by decide +kernel
theorem dX0_ownerOf_29 : decode cX0_ownerOf 29 = .ok (.iload_n 2, 1) := by decide +kernel
theorem dX0_ownerOf_30 : decode cX0_ownerOf 30 = .ok (.iaload, 1) := by decide +kernel
theorem dX0_ownerOf_31 : decode cX0_ownerOf 31 = .ok (.istore_n 2, 1) := by decide +kernel
theorem dX0_ownerOf_32 : decode cX0_ownerOf 32 = .ok (.iinc 3 1, 3) := by decide +kernel
theorem dX0_ownerOf_35 : decode cX0_ownerOf 35 = .ok (.goto (-31), 3) := by decide +kernel
theorem dX0_ownerOf_38 : decode cX0_ownerOf 38 = .ok (.iload_n 2, 1) := by decide +kernel
theorem dX0_ownerOf_39 : decode cX0_ownerOf 39 = .ok (.ireturn, 1) := by decide +kernel
theorem dX0_note_0 : decode cX0_note 0 = .ok (.aload_n 0, 1) := by decide +kernel
theorem dX0_note_1 : decode cX0_note 1 = .ok (.getfield 22, 3) := by decide +kernel
theorem dX0_note_4 : decode cX0_note 4 = .ok (.bipush 24, 2) := by decide +kernel
theorem dX0_note_6 : decode cX0_note 6 = .ok (.if_icmp .ge 13, 3) := by decide +kernel
theorem dX0_note_9 : decode cX0_note 9 = .ok (.aload_n 0, 1) := by decide +kernel
theorem dX0_note_10 : decode cX0_note 10 = .ok (.getfield 15, 3) := by decide +kernel
theorem dX0_note_13 : decode cX0_note 13 = .ok (.aload_n 0, 1) := by decide +kernel
theorem dX0_note_14 : decode cX0_note 14 = .ok (.getfield 22, 3) := by decide +kernel
theorem dX0_note_17 : decode cX0_note 17 = .ok (.iload_n 1, 1) := by decide +kernel
theorem dX0_note_18 : decode cX0_note 18 = .ok (.iastore, 1) := by decide +kernel
theorem dX0_note_19 : decode cX0_note 19 = .ok (.aload_n 0, 1) := by decide +kernel
theorem dX0_note_20 : decode cX0_note 20 = .ok (.dup, 1) := by decide +kernel
theorem dX0_note_21 : decode cX0_note 21 = .ok (.getfield 22, 3) := by decide +kernel
theorem dX0_note_24 : decode cX0_note 24 = .ok (.iconst 1, 1) := by decide +kernel
theorem dX0_note_25 : decode cX0_note 25 = .ok (.iadd, 1) := by decide +kernel
theorem dX0_note_26 : decode cX0_note 26 = .ok (.putfield 22, 3) := by decide +kernel
theorem dX0_note_29 : decode cX0_note 29 = .ok (.return_, 1) := by decide +kernel
theorem dX0_run_0 : decode cX0_run 0 = .ok (.iload_n 1, 1) := by decide +kernel
theorem dX0_run_1 : decode cX0_run 1 = .ok (.iload_n 2, 1) := by decide +kernel
theorem dX0_run_2 : decode cX0_run 2 = .ok (.invokestatic 41, 3) := by decide +kernel
theorem dX0_run_5 : decode cX0_run 5 = .ok (.istore 5, 2) := by decide +kernel
theorem dX0_run_7 : decode cX0_run 7 = .ok (.iload 5, 2) := by decide +kernel
theorem dX0_run_9 : decode cX0_run 9 = .ok (.ifCond .lt 10, 3) := by decide +kernel
theorem dX0_run_12 : decode cX0_run 12 = .ok (.iload 4, 2) := by decide +kernel
theorem dX0_run_14 : decode cX0_run 14 = .ok (.bipush 30, 2) := by decide +kernel
theorem dX0_run_16 : decode cX0_run 16 = .ok (.if_icmp .le 5, 3) := by decide +kernel
theorem dX0_run_19 : decode cX0_run 19 = .ok (.iconst 0, 1) := by decide +kernel
theorem dX0_run_20 : decode cX0_run 20 = .ok (.ireturn, 1) := by decide +kernel
theorem dX0_run_21 : decode cX0_run 21 = .ok (.getstatic 35, 3) := by decide +kernel
theorem dX0_run_24 : decode cX0_run 24 = .ok (.iload 5, 2) := by decide +kernel
theorem dX0_run_26 : decode cX0_run 26 = .ok (.iaload, 1) := by decide +kernel
theorem dX0_run_27 : decode cX0_run 27 = .ok (.istore 6, 2) := by decide +kernel
theorem dX0_run_29 : decode cX0_run 29 = .ok (.iload 4, 2) := by decide +kernel
theorem dX0_run_31 : decode cX0_run 31 = .ok (.iconst 1, 1) := by decide +kernel
theorem dX0_run_32 : decode cX0_run 32 = .ok (.iadd, 1) := by decide +kernel
theorem dX0_run_33 : decode cX0_run 33 = .ok (.istore 7, 2) := by decide +kernel
theorem dX0_run_35 : decode cX0_run 35 = .ok (.getstatic 38, 3) := by decide +kernel
theorem dX0_run_38 : decode cX0_run 38 = .ok (.iconst 4, 1) := by decide +kernel
theorem dX0_run_39 : decode cX0_run 39 = .ok (.iload 5, 2) := by decide +kernel
theorem dX0_run_41 : decode cX0_run 41 = .ok (.imul, 1) := by decide +kernel
theorem dX0_run_42 : decode cX0_run 42 = .ok (.iload_n 2, 1) := by decide +kernel
theorem dX0_run_43 : decode cX0_run 43 = .ok (.iadd, 1) := by decide +kernel
theorem dX0_run_44 : decode cX0_run 44 = .ok (.iaload, 1) := by decide +kernel
theorem dX0_run_45 : decode cX0_run 45 = .ok (.istore 8, 2) := by decide +kernel
theorem dX0_run_47 : decode cX0_run 47 = .ok (.aload_n 0, 1) := by decide +kernel
theorem dX0_run_48 : decode cX0_run 48 = .ok (.iload 8, 2) := by decide +kernel
theorem dX0_run_50 : decode cX0_run 50 = .ok (.invokevirtual 45, 3) := by decide +kernel
theorem dX0_run_53 : decode cX0_run 53 = .ok (.iload 8, 2) := by decide +kernel
theorem dX0_run_55 : decode cX0_run 55 = .ok (.lookupswitch 306 #[(1, 113), (2, 120), (10, 146), (11, 161), (20, 168), (30, 181), (40, 193), (41, 206), (50, 219), (60, 232), (61, 256), (70, 269), (80, 282)], 113) := by decide +kernel
theorem dX0_run_168 : decode cX0_run 168 = .ok (.iload_n 3, 1) := by decide +kernel
theorem dX0_run_169 : decode cX0_run 169 = .ok (.aload_n 0, 1) := by decide +kernel
theorem dX0_run_170 : decode cX0_run 170 = .ok (.getfield 25, 3) := by decide +kernel
theorem dX0_run_173 : decode cX0_run 173 = .ok (.iadd, 1) := by decide +kernel
theorem dX0_run_174 : decode cX0_run 174 = .ok (.ireturn, 1) := by decide +kernel
theorem dX0_run_175 : decode cX0_run 175 = .ok (.aload_n 0, 1) := by decide +kernel
theorem dX0_run_176 : decode cX0_run 176 = .ok (.aload_n 0, 1) := by decide +kernel
theorem dX0_run_177 : decode cX0_run 177 = .ok (.getfield 28, 3) := by decide +kernel
theorem dX0_run_180 : decode cX0_run 180 = .ok (.iconst 1, 1) := by decide +kernel
theorem dX0_run_181 : decode cX0_run 181 = .ok (.iload_n 3, 1) := by decide +kernel
theorem dX0_run_182 : decode cX0_run 182 = .ok (.iload 7, 2) := by decide +kernel
theorem dX0_run_184 : decode cX0_run 184 = .ok (.invokevirtual 31, 3) := by decide +kernel
theorem dX0_run_187 : decode cX0_run 187 = .ok (.aload_n 0, 1) := by decide +kernel
theorem dX0_run_188 : decode cX0_run 188 = .ok (.aload_n 0, 1) := by decide +kernel
theorem dX0_run_189 : decode cX0_run 189 = .ok (.getfield 28, 3) := by decide +kernel
theorem dX0_run_192 : decode cX0_run 192 = .ok (.iconst 2, 1) := by decide +kernel
theorem dX0_run_193 : decode cX0_run 193 = .ok (.iconst 1, 1) := by decide +kernel
theorem dX0_run_194 : decode cX0_run 194 = .ok (.iload 7, 2) := by decide +kernel
theorem dX0_run_196 : decode cX0_run 196 = .ok (.invokevirtual 31, 3) := by decide +kernel
theorem dX0_run_199 : decode cX0_run 199 = .ok (.isub, 1) := by decide +kernel
theorem dX0_run_200 : decode cX0_run 200 = .ok (.ireturn, 1) := by decide +kernel
theorem dX0_run_201 : decode cX0_run 201 = .ok (.aload_n 0, 1) := by decide +kernel
theorem dX0_run_202 : decode cX0_run 202 = .ok (.aload_n 0, 1) := by decide +kernel
theorem dX0_run_203 : decode cX0_run 203 = .ok (.getfield 28, 3) := by decide +kernel
theorem dX0_run_206 : decode cX0_run 206 = .ok (.iconst 0, 1) := by decide +kernel
theorem dX0_run_207 : decode cX0_run 207 = .ok (.iload_n 3, 1) := by decide +kernel
theorem dX0_run_208 : decode cX0_run 208 = .ok (.iload 7, 2) := by decide +kernel
theorem dX0_run_210 : decode cX0_run 210 = .ok (.invokevirtual 31, 3) := by decide +kernel
theorem dX0_run_213 : decode cX0_run 213 = .ok (.iconst 2, 1) := by decide +kernel
theorem dX0_run_214 : decode cX0_run 214 = .ok (.imul, 1) := by decide +kernel
theorem dX0_run_215 : decode cX0_run 215 = .ok (.ireturn, 1) := by decide +kernel
theorem dX0_run_216 : decode cX0_run 216 = .ok (.iload_n 3, 1) := by decide +kernel
theorem dX0_run_217 : decode cX0_run 217 = .ok (.aload_n 0, 1) := by decide +kernel
theorem dX0_run_218 : decode cX0_run 218 = .ok (.getfield 25, 3) := by decide +kernel
theorem dX0_run_221 : decode cX0_run 221 = .ok (.ixor, 1) := by decide +kernel
theorem dX0_run_222 : decode cX0_run 222 = .ok (.ireturn, 1) := by decide +kernel
theorem dX0_run_223 : decode cX0_run 223 = .ok (.aload_n 0, 1) := by decide +kernel
theorem dX0_run_224 : decode cX0_run 224 = .ok (.iload 6, 2) := by decide +kernel
theorem dX0_run_226 : decode cX0_run 226 = .ok (.iconst 0, 1) := by decide +kernel
theorem dX0_run_227 : decode cX0_run 227 = .ok (.iload_n 3, 1) := by decide +kernel
theorem dX0_run_228 : decode cX0_run 228 = .ok (.iload 7, 2) := by decide +kernel
theorem dX0_run_230 : decode cX0_run 230 = .ok (.invokevirtual 31, 3) := by decide +kernel
theorem dX0_run_233 : decode cX0_run 233 = .ok (.iconst 3, 1) := by decide +kernel
theorem dX0_run_234 : decode cX0_run 234 = .ok (.iadd, 1) := by decide +kernel
theorem dX0_run_235 : decode cX0_run 235 = .ok (.ireturn, 1) := by decide +kernel
theorem dX0_run_236 : decode cX0_run 236 = .ok (.aload_n 0, 1) := by decide +kernel
theorem dX0_run_237 : decode cX0_run 237 = .ok (.iload 6, 2) := by decide +kernel
theorem dX0_run_239 : decode cX0_run 239 = .ok (.iconst 1, 1) := by decide +kernel
theorem dX0_run_240 : decode cX0_run 240 = .ok (.iload_n 3, 1) := by decide +kernel
theorem dX0_run_241 : decode cX0_run 241 = .ok (.iload 7, 2) := by decide +kernel
theorem dX0_run_243 : decode cX0_run 243 = .ok (.invokevirtual 31, 3) := by decide +kernel
theorem dX0_run_246 : decode cX0_run 246 = .ok (.ineg, 1) := by decide +kernel
theorem dX0_run_247 : decode cX0_run 247 = .ok (.ireturn, 1) := by decide +kernel
theorem dX0_run_248 : decode cX0_run 248 = .ok (.aload_n 0, 1) := by decide +kernel
theorem dX0_run_249 : decode cX0_run 249 = .ok (.iload 6, 2) := by decide +kernel
theorem dX0_run_251 : decode cX0_run 251 = .ok (.iconst 2, 1) := by decide +kernel
theorem dX0_run_252 : decode cX0_run 252 = .ok (.iload_n 3, 1) := by decide +kernel
theorem dX0_run_253 : decode cX0_run 253 = .ok (.iload 7, 2) := by decide +kernel
theorem dX0_run_255 : decode cX0_run 255 = .ok (.invokevirtual 31, 3) := by decide +kernel
theorem dX0_run_258 : decode cX0_run 258 = .ok (.iconst 3, 1) := by decide +kernel
theorem dX0_run_259 : decode cX0_run 259 = .ok (.imul, 1) := by decide +kernel
theorem dX0_run_260 : decode cX0_run 260 = .ok (.ireturn, 1) := by decide +kernel
theorem dX0_run_261 : decode cX0_run 261 = .ok (.aload_n 0, 1) := by decide +kernel
theorem dX0_run_262 : decode cX0_run 262 = .ok (.iload 6, 2) := by decide +kernel
theorem dX0_run_264 : decode cX0_run 264 = .ok (.iconst 1, 1) := by decide +kernel
theorem dX0_run_265 : decode cX0_run 265 = .ok (.iload_n 3, 1) := by decide +kernel
theorem dX0_run_266 : decode cX0_run 266 = .ok (.iconst 1, 1) := by decide +kernel
theorem dX0_run_267 : decode cX0_run 267 = .ok (.iadd, 1) := by decide +kernel
theorem dX0_run_268 : decode cX0_run 268 = .ok (.iload 7, 2) := by decide +kernel
theorem dX0_run_270 : decode cX0_run 270 = .ok (.invokevirtual 31, 3) := by decide +kernel
theorem dX0_run_273 : decode cX0_run 273 = .ok (.ireturn, 1) := by decide +kernel
theorem dX0_run_274 : decode cX0_run 274 = .ok (.aload_n 0, 1) := by decide +kernel
theorem dX0_run_275 : decode cX0_run 275 = .ok (.iload 6, 2) := by decide +kernel
theorem dX0_run_277 : decode cX0_run 277 = .ok (.iconst 3, 1) := by decide +kernel
theorem dX0_run_278 : decode cX0_run 278 = .ok (.iload_n 3, 1) := by decide +kernel
theorem dX0_run_279 : decode cX0_run 279 = .ok (.iload 7, 2) := by decide +kernel
theorem dX0_run_281 : decode cX0_run 281 = .ok (.invokevirtual 31, 3) := by decide +kernel
theorem dX0_run_284 : decode cX0_run 284 = .ok (.iconst 5, 1) := by decide +kernel
theorem dX0_run_285 : decode cX0_run 285 = .ok (.ixor, 1) := by decide +kernel
theorem dX0_run_286 : decode cX0_run 286 = .ok (.ireturn, 1) := by decide +kernel
theorem dX0_run_287 : decode cX0_run 287 = .ok (.aload_n 0, 1) := by decide +kernel
theorem dX0_run_288 : decode cX0_run 288 = .ok (.iload 6, 2) := by decide +kernel
theorem dX0_run_290 : decode cX0_run 290 = .ok (.iconst 2, 1) := by decide +kernel
theorem dX0_run_291 : decode cX0_run 291 = .ok (.iload_n 3, 1) := by decide +kernel
theorem dX0_run_292 : decode cX0_run 292 = .ok (.iload 7, 2) := by decide +kernel
theorem dX0_run_294 : decode cX0_run 294 = .ok (.invokevirtual 31, 3) := by decide +kernel
theorem dX0_run_297 : decode cX0_run 297 = .ok (.aload_n 0, 1) := by decide +kernel
theorem dX0_run_298 : decode cX0_run 298 = .ok (.aload_n 0, 1) := by decide +kernel
theorem dX0_run_299 : decode cX0_run 299 = .ok (.getfield 28, 3) := by decide +kernel
theorem dX0_run_302 : decode cX0_run 302 = .ok (.iconst 0, 1) := by decide +kernel
theorem dX0_run_303 : decode cX0_run 303 = .ok (.iconst 2, 1) := by decide +kernel
theorem dX0_run_304 : decode cX0_run 304 = .ok (.iload 7, 2) := by decide +kernel
theorem dX0_run_306 : decode cX0_run 306 = .ok (.invokevirtual 31, 3) := by decide +kernel
theorem dX0_run_309 : decode cX0_run 309 = .ok (.isub, 1) := by decide +kernel
theorem dX0_run_310 : decode cX0_run 310 = .ok (.ireturn, 1) := by decide +kernel
theorem dX0_run_311 : decode cX0_run 311 = .ok (.aload_n 0, 1) := by decide +kernel
theorem dX0_run_312 : decode cX0_run 312 = .ok (.iload 6, 2) := by decide +kernel
theorem dX0_run_314 : decode cX0_run 314 = .ok (.iconst 3, 1) := by decide +kernel
theorem dX0_run_315 : decode cX0_run 315 = .ok (.iload_n 3, 1) := by decide +kernel
theorem dX0_run_316 : decode cX0_run 316 = .ok (.iload 7, 2) := by decide +kernel
theorem dX0_run_318 : decode cX0_run 318 = .ok (.invokevirtual 31, 3) := by decide +kernel
theorem dX0_run_321 : decode cX0_run 321 = .ok (.iconst 1, 1) := by decide +kernel
theorem dX0_run_322 : decode cX0_run 322 = .ok (.iadd, 1) := by decide +kernel
theorem dX0_run_323 : decode cX0_run 323 = .ok (.ireturn, 1) := by decide +kernel
theorem dX0_run_324 : decode cX0_run 324 = .ok (.aload_n 0, 1) := by decide +kernel
theorem dX0_run_325 : decode cX0_run 325 = .ok (.iload 6, 2) := by decide +kernel
theorem dX0_run_327 : decode cX0_run 327 = .ok (.iconst 0, 1) := by decide +kernel
theorem dX0_run_328 : decode cX0_run 328 = .ok (.iload_n 3, 1) := by decide +kernel
theorem dX0_run_329 : decode cX0_run 329 = .ok (.iload 7, 2) := by decide +kernel
theorem dX0_run_331 : decode cX0_run 331 = .ok (.invokevirtual 31, 3) := by decide +kernel
theorem dX0_run_334 : decode cX0_run 334 = .ok (.iconst 2, 1) := by decide +kernel
theorem dX0_run_335 : decode cX0_run 335 = .ok (.imul, 1) := by decide +kernel
theorem dX0_run_336 : decode cX0_run 336 = .ok (.ireturn, 1) := by decide +kernel
theorem dX0_run_337 : decode cX0_run 337 = .ok (.aload_n 0, 1) := by decide +kernel
theorem dX0_run_338 : decode cX0_run 338 = .ok (.iload 6, 2) := by decide +kernel
theorem dX0_run_340 : decode cX0_run 340 = .ok (.iconst 1, 1) := by decide +kernel
theorem dX0_run_341 : decode cX0_run 341 = .ok (.iload_n 3, 1) := by decide +kernel
theorem dX0_run_342 : decode cX0_run 342 = .ok (.iload 7, 2) := by decide +kernel
theorem dX0_run_344 : decode cX0_run 344 = .ok (.invokevirtual 31, 3) := by decide +kernel
theorem dX0_run_347 : decode cX0_run 347 = .ok (.aload_n 0, 1) := by decide +kernel
theorem dX0_run_348 : decode cX0_run 348 = .ok (.aload_n 0, 1) := by decide +kernel
theorem dX0_run_349 : decode cX0_run 349 = .ok (.getfield 28, 3) := by decide +kernel
theorem dX0_run_352 : decode cX0_run 352 = .ok (.iconst 2, 1) := by decide +kernel
theorem dX0_run_353 : decode cX0_run 353 = .ok (.iconst 2, 1) := by decide +kernel
theorem dX0_run_354 : decode cX0_run 354 = .ok (.iload 7, 2) := by decide +kernel
theorem dX0_run_356 : decode cX0_run 356 = .ok (.invokevirtual 31, 3) := by decide +kernel
theorem dX0_run_359 : decode cX0_run 359 = .ok (.iadd, 1) := by decide +kernel
theorem dX0_run_360 : decode cX0_run 360 = .ok (.ireturn, 1) := by decide +kernel
theorem dX0_run_361 : decode cX0_run 361 = .ok (.aload_n 0, 1) := by decide +kernel
theorem dX0_run_362 : decode cX0_run 362 = .ok (.iload 6, 2) := by decide +kernel
theorem dX0_run_364 : decode cX0_run 364 = .ok (.iconst 0, 1) := by decide +kernel
theorem dX0_run_365 : decode cX0_run 365 = .ok (.iload_n 3, 1) := by decide +kernel
theorem dX0_run_366 : decode cX0_run 366 = .ok (.iload 7, 2) := by decide +kernel
theorem dX0_run_368 : decode cX0_run 368 = .ok (.invokevirtual 31, 3) := by decide +kernel
theorem dX0_run_371 : decode cX0_run 371 = .ok (.iconst 1, 1) := by decide +kernel
theorem dX0_run_372 : decode cX0_run 372 = .ok (.isub, 1) := by decide +kernel
theorem dX0_run_373 : decode cX0_run 373 = .ok (.ireturn, 1) := by decide +kernel
theorem dX1_init_0 : decode cX1_init 0 = .ok (.aload_n 0, 1) := by decide +kernel
theorem dX1_init_1 : decode cX1_init 1 = .ok (.invokespecial 3, 3) := by decide +kernel
theorem dX1_init_4 : decode cX1_init 4 = .ok (.aload_n 0, 1) := by decide +kernel
theorem dX1_init_5 : decode cX1_init 5 = .ok (.bipush 40, 2) := by decide +kernel
theorem dX1_init_7 : decode cX1_init 7 = .ok (.newarray .int, 2) := by decide +kernel
theorem dX1_init_9 : decode cX1_init 9 = .ok (.putfield 9, 3) := by decide +kernel
theorem dX1_init_12 : decode cX1_init 12 = .ok (.aload_n 0, 1) := by decide +kernel
theorem dX1_init_13 : decode cX1_init 13 = .ok (.bipush 40, 2) := by decide +kernel
theorem dX1_init_15 : decode cX1_init 15 = .ok (.newarray .int, 2) := by decide +kernel
theorem dX1_init_17 : decode cX1_init 17 = .ok (.putfield 15, 3) := by decide +kernel
theorem dX1_init_20 : decode cX1_init 20 = .ok (.aload_n 0, 1) := by decide +kernel
theorem dX1_init_21 : decode cX1_init 21 = .ok (.bipush 40, 2) := by decide +kernel
theorem dX1_init_23 : decode cX1_init 23 = .ok (.newarray .int, 2) := by decide +kernel
theorem dX1_init_25 : decode cX1_init 25 = .ok (.putfield 18, 3) := by decide +kernel
theorem dX1_init_28 : decode cX1_init 28 = .ok (.aload_n 0, 1) := by decide +kernel
theorem dX1_init_29 : decode cX1_init 29 = .ok (.bipush 40, 2) := by decide +kernel
theorem dX1_init_31 : decode cX1_init 31 = .ok (.newarray .int, 2) := by decide +kernel
theorem dX1_init_33 : decode cX1_init 33 = .ok (.putfield 21, 3) := by decide +kernel
theorem dX1_init_36 : decode cX1_init 36 = .ok (.return_, 1) := by decide +kernel
theorem dX1_note_0 : decode cX1_note 0 = .ok (.aload_n 0, 1) := by decide +kernel
theorem dX1_note_1 : decode cX1_note 1 = .ok (.getfield 24, 3) := by decide +kernel
theorem dX1_note_4 : decode cX1_note 4 = .ok (.bipush 40, 2) := by decide +kernel
theorem dX1_note_6 : decode cX1_note 6 = .ok (.if_icmp .lt 7, 3) := by decide +kernel
theorem dX1_note_9 : decode cX1_note 9 = .ok (.aload_n 0, 1) := by decide +kernel
theorem dX1_note_10 : decode cX1_note 10 = .ok (.invokevirtual 28, 3) := by decide +kernel
theorem dX1_note_13 : decode cX1_note 13 = .ok (.aload_n 0, 1) := by decide +kernel
theorem dX1_note_14 : decode cX1_note 14 = .ok (.getfield 9, 3) := by decide +kernel
theorem dX1_note_17 : decode cX1_note 17 = .ok (.aload_n 0, 1) := by decide +kernel
theorem dX1_note_18 : decode cX1_note 18 = .ok (.getfield 24, 3) := by decide +kernel
theorem dX1_note_21 : decode cX1_note 21 = .ok (.iload_n 1, 1) := by decide +kernel
theorem dX1_note_22 : decode cX1_note 22 = .ok (.iastore, 1) := by decide +kernel
theorem dX1_note_23 : decode cX1_note 23 = .ok (.aload_n 0, 1) := by decide +kernel
theorem dX1_note_24 : decode cX1_note 24 = .ok (.getfield 15, 3) := by decide +kernel
theorem dX1_note_27 : decode cX1_note 27 = .ok (.aload_n 0, 1) := by decide +kernel
theorem dX1_note_28 : decode cX1_note 28 = .ok (.getfield 24, 3) := by decide +kernel
theorem dX1_note_31 : decode cX1_note 31 = .ok (.iload_n 2, 1) := by decide +kernel
theorem dX1_note_32 : decode cX1_note 32 = .ok (.iastore, 1) := by decide +kernel
theorem dX1_note_33 : decode cX1_note 33 = .ok (.aload_n 0, 1) := by decide +kernel
theorem dX1_note_34 : decode cX1_note 34 = .ok (.getfield 18, 3) := by decide +kernel
theorem dX1_note_37 : decode cX1_note 37 = .ok (.aload_n 0, 1) := by decide +kernel
theorem dX1_note_38 : decode cX1_note 38 = .ok (.getfield 24, 3) := by decide +kernel
theorem dX1_note_41 : decode cX1_note 41 = .ok (.iload_n 3, 1) := by decide +kernel
theorem dX1_note_42 : decode cX1_note 42 = .ok (.iastore, 1) := by decide +kernel
theorem dX1_note_43 : decode cX1_note 43 = .ok (.aload_n 0, 1) := by decide +kernel
theorem dX1_note_44 : decode cX1_note 44 = .ok (.getfield 21, 3) := by decide +kernel
theorem dX1_note_47 : decode cX1_note 47 = .ok (.aload_n 0, 1) := by decide +kernel
theorem dX1_note_48 : decode cX1_note 48 = .ok (.getfield 24, 3) := by decide +kernel
theorem dX1_note_51 : decode cX1_note 51 = .ok (.iload 4, 2) := by decide +kernel
theorem dX1_note_53 : decode cX1_note 53 = .ok (.iastore, 1) := by decide +kernel
theorem dX1_note_54 : decode cX1_note 54 = .ok (.aload_n 0, 1) := by decide +kernel
theorem dX1_note_55 : decode cX1_note 55 = .ok (.dup, 1) := by decide +kernel
theorem dX1_note_56 : decode cX1_note 56 = .ok (.getfield 24, 3) := by decide +kernel
theorem dX1_note_59 : decode cX1_note 59 = .ok (.iconst 1, 1) := by decide +kernel
theorem dX1_note_60 : decode cX1_note 60 = .ok (.iadd, 1) := by decide +kernel
theorem dX1_note_61 : decode cX1_note 61 = .ok (.putfield 24, 3) := by decide +kernel
theorem dX1_note_64 : decode cX1_note 64 = .ok (.aload_n 0, 1) := by decide +kernel
theorem dX1_note_65 : decode cX1_note 65 = .ok (.aload_n 0, 1) := by decide +kernel
theorem dX1_note_66 : decode cX1_note 66 = .ok (.getfield 24, 3) := by decide +kernel
theorem dX1_note_69 : decode cX1_note 69 = .ok (.putfield 31, 3) := by decide +kernel
theorem dX1_note_72 : decode cX1_note 72 = .ok (.return_, 1) := by decide +kernel
theorem dX1_forgetFirst_0 : decode cX1_forgetFirst 0 = .ok (.aload_n 0, 1) := by decide +kernel
theorem dX1_forgetFirst_1 : decode cX1_forgetFirst 1 = .ok (.getfield 9, 3) := by decide +kernel
theorem dX1_forgetFirst_4 : decode cX1_forgetFirst 4 = .ok (.iconst 1, 1) := by decide +kernel
theorem dX1_forgetFirst_5 : decode cX1_forgetFirst 5 = .ok (.aload_n 0, 1) := by decide +kernel
theorem dX1_forgetFirst_6 : decode cX1_forgetFirst 6 = .ok (.getfield 9, 3) := by decide +kernel
theorem dX1_forgetFirst_9 : decode cX1_forgetFirst 9 = .ok (.iconst 0, 1) := by decide +kernel
theorem dX1_forgetFirst_10 : decode cX1_forgetFirst 10 = .ok (.bipush 39, 2) := by decide +kernel
theorem dX1_forgetFirst_12 : decode cX1_forgetFirst 12 = .ok (.invokestatic 34, 3) := by decide +kernel
theorem dX1_forgetFirst_15 : decode cX1_forgetFirst 15 = .ok (.aload_n 0, 1) := by decide +kernel
theorem dX1_forgetFirst_16 : decode cX1_forgetFirst 16 = .ok (.getfield 15, 3) := by decide +kernel
theorem dX1_forgetFirst_19 : decode cX1_forgetFirst 19 = .ok (.iconst 1, 1) := by decide +kernel
theorem dX1_forgetFirst_20 : decode cX1_forgetFirst 20 = .ok (.aload_n 0, 1) := by decide +kernel
theorem dX1_forgetFirst_21 : decode cX1_forgetFirst 21 = .ok (.getfield 15, 3) := by decide +kernel
theorem dX1_forgetFirst_24 : decode cX1_forgetFirst 24 = .ok (.iconst 0, 1) := by decide +kernel
theorem dX1_forgetFirst_25 : decode cX1_forgetFirst 25 = .ok (.bipush 39, 2) := by decide +kernel
theorem dX1_forgetFirst_27 : decode cX1_forgetFirst 27 = .ok (.invokestatic 34, 3) := by decide +kernel
theorem dX1_forgetFirst_30 : decode cX1_forgetFirst 30 = .ok (.aload_n 0, 1) := by decide +kernel
theorem dX1_forgetFirst_31 : decode cX1_forgetFirst 31 = .ok (.getfield 18, 3) := by decide +kernel
theorem dX1_forgetFirst_34 : decode cX1_forgetFirst 34 = .ok (.iconst 1, 1) := by decide +kernel
theorem dX1_forgetFirst_35 : decode cX1_forgetFirst 35 = .ok (.aload_n 0, 1) := by decide +kernel
theorem dX1_forgetFirst_36 : decode cX1_forgetFirst 36 = .ok (.getfield 18, 3) := by decide +kernel
theorem dX1_forgetFirst_39 : decode cX1_forgetFirst 39 = .ok (.iconst 0, 1) := by decide +kernel
theorem dX1_forgetFirst_40 : decode cX1_forgetFirst 40 = .ok (.bipush 39, 2) := by decide +kernel
theorem dX1_forgetFirst_42 : decode cX1_forgetFirst 42 = .ok (.invokestatic 34, 3) := by decide +kernel
theorem dX1_forgetFirst_45 : decode cX1_forgetFirst 45 = .ok (.aload_n 0, 1) := by decide +kernel
theorem dX1_forgetFirst_46 : decode cX1_forgetFirst 46 = .ok (.getfield 21, 3) := by decide +kernel
theorem dX1_forgetFirst_49 : decode cX1_forgetFirst 49 = .ok (.iconst 1, 1) := by decide +kernel
theorem dX1_forgetFirst_50 : decode cX1_forgetFirst 50 = .ok (.aload_n 0, 1) := by decide +kernel
theorem dX1_forgetFirst_51 : decode cX1_forgetFirst 51 = .ok (.getfield 21, 3) := by decide +kernel
theorem dX1_forgetFirst_54 : decode cX1_forgetFirst 54 = .ok (.iconst 0, 1) := by decide +kernel
theorem dX1_forgetFirst_55 : decode cX1_forgetFirst 55 = .ok (.bipush 39, 2) := by decide +kernel
theorem dX1_forgetFirst_57 : decode cX1_forgetFirst 57 = .ok (.invokestatic 34, 3) := by decide +kernel
theorem dX1_forgetFirst_60 : decode cX1_forgetFirst 60 = .ok (.aload_n 0, 1) := by decide +kernel
theorem dX1_forgetFirst_61 : decode cX1_forgetFirst 61 = .ok (.bipush 39, 2) := by decide +kernel
theorem dX1_forgetFirst_63 : decode cX1_forgetFirst 63 = .ok (.putfield 24, 3) := by decide +kernel
theorem dX1_forgetFirst_66 : decode cX1_forgetFirst 66 = .ok (.return_, 1) := by decide +kernel
theorem dX1_takeBack_0 : decode cX1_takeBack 0 = .ok (.aload_n 0, 1) := by decide +kernel
theorem dX1_takeBack_1 : decode cX1_takeBack 1 = .ok (.dup, 1) := by decide +kernel
theorem dX1_takeBack_2 : decode cX1_takeBack 2 = .ok (.getfield 24, 3) := by decide +kernel
theorem dX1_takeBack_5 : decode cX1_takeBack 5 = .ok (.iconst 1, 1) := by decide +kernel
theorem dX1_takeBack_6 : decode cX1_takeBack 6 = .ok (.isub, 1) := by decide +kernel
theorem dX1_takeBack_7 : decode cX1_takeBack 7 = .ok (.putfield 24, 3) := by decide +kernel
theorem dX1_takeBack_10 : decode cX1_takeBack 10 = .ok (.aload_n 1, 1) := by decide +kernel
theorem dX1_takeBack_11 : decode cX1_takeBack 11 = .ok (.aload_n 0, 1) := by decide +kernel
theorem dX1_takeBack_12 : decode cX1_takeBack 12 = .ok (.getfield 9, 3) := by decide +kernel
theorem dX1_takeBack_15 : decode cX1_takeBack 15 = .ok (.aload_n 0, 1) := by decide +kernel
theorem dX1_takeBack_16 : decode cX1_takeBack 16 = .ok (.getfield 24, 3) := by decide +kernel
theorem dX1_takeBack_19 : decode cX1_takeBack 19 = .ok (.iaload, 1) := by decide +kernel
theorem dX1_takeBack_20 : decode cX1_takeBack 20 = .ok (.aload_n 0, 1) := by decide +kernel
theorem dX1_takeBack_21 : decode cX1_takeBack 21 = .ok (.getfield 15, 3) := by decide +kernel
theorem dX1_takeBack_24 : decode cX1_takeBack 24 = .ok (.aload_n 0, 1) := by decide +kernel
theorem dX1_takeBack_25 : decode cX1_takeBack 25 = .ok (.getfield 24, 3) := by decide +kernel
theorem dX1_takeBack_28 : decode cX1_takeBack 28 = .ok (.iaload, 1) := by decide +kernel
theorem dX1_takeBack_29 : decode cX1_takeBack 29 = .ok (.aload_n 0, 1) := by decide +kernel
theorem dX1_takeBack_30 : decode cX1_takeBack 30 = .ok (.getfield 18, 3) := by decide +kernel
theorem dX1_takeBack_33 : decode cX1_takeBack 33 = .ok (.aload_n 0, 1) := by decide +kernel
theorem dX1_takeBack_34 : decode cX1_takeBack 34 = .ok (.getfield 24, 3) := by decide +kernel
theorem dX1_takeBack_37 : decode cX1_takeBack 37 = .ok (.iaload, 1) := by decide +kernel
theorem dX1_takeBack_38 : decode cX1_takeBack 38 = .ok (.invokevirtual 40, 3) := by decide +kernel
theorem dX1_takeBack_41 : decode cX1_takeBack 41 = .ok (.pop, 1) := by decide +kernel
theorem dX1_takeBack_42 : decode cX1_takeBack 42 = .ok (.aload_n 0, 1) := by decide +kernel
theorem dX1_takeBack_43 : decode cX1_takeBack 43 = .ok (.getfield 24, 3) := by decide +kernel
theorem dX1_takeBack_46 : decode cX1_takeBack 46 = .ok (.ireturn, 1) := by decide +kernel
theorem dX1_doAgain_0 : decode cX1_doAgain 0 = .ok (.aload_n 1, 1) := by decide +kernel
theorem dX1_doAgain_1 : decode cX1_doAgain 1 = .ok (.aload_n 0, 1) := by decide +kernel
theorem dX1_doAgain_2 : decode cX1_doAgain 2 = .ok (.getfield 9, 3) := by decide +kernel
theorem dX1_doAgain_5 : decode cX1_doAgain 5 = .ok (.aload_n 0, 1) := by decide +kernel
theorem dX1_doAgain_6 : decode cX1_doAgain 6 = .ok (.getfield 24, 3) := by decide +kernel
theorem dX1_doAgain_9 : decode cX1_doAgain 9 = .ok (.iaload, 1) := by decide +kernel
theorem dX1_doAgain_10 : decode cX1_doAgain 10 = .ok (.aload_n 0, 1) := by decide +kernel
theorem dX1_doAgain_11 : decode cX1_doAgain 11 = .ok (.getfield 15, 3) := by decide +kernel
theorem dX1_doAgain_14 : decode cX1_doAgain 14 = .ok (.aload_n 0, 1) := by decide +kernel
theorem dX1_doAgain_15 : decode cX1_doAgain 15 = .ok (.getfield 24, 3) := by decide +kernel
theorem dX1_doAgain_18 : decode cX1_doAgain 18 = .ok (.iaload, 1) := by decide +kernel
theorem dX1_doAgain_19 : decode cX1_doAgain 19 = .ok (.aload_n 0, 1) := by decide +kernel
theorem dX1_doAgain_20 : decode cX1_doAgain 20 = .ok (.getfield 21, 3) := by decide +kernel
theorem dX1_doAgain_23 : decode cX1_doAgain 23 = .ok (.aload_n 0, 1) := by decide +kernel
theorem dX1_doAgain_24 : decode cX1_doAgain 24 = .ok (.getfield 24, 3) := by decide +kernel
theorem dX1_doAgain_27 : decode cX1_doAgain 27 = .ok (.iaload, 1) := by decide +kernel
theorem dX1_doAgain_28 : decode cX1_doAgain 28 = .ok (.invokevirtual 40, 3) := by decide +kernel
theorem dX1_doAgain_31 : decode cX1_doAgain 31 = .ok (.pop, 1) := by decide +kernel
theorem dX1_doAgain_32 : decode cX1_doAgain 32 = .ok (.aload_n 0, 1) := by decide +kernel
theorem dX1_doAgain_33 : decode cX1_doAgain 33 = .ok (.dup, 1) := by decide +kernel
theorem dX1_doAgain_34 : decode cX1_doAgain 34 = .ok (.getfield 24, 3) := by decide +kernel
theorem dX1_doAgain_37 : decode cX1_doAgain 37 = .ok (.iconst 1, 1) := by decide +kernel
theorem dX1_doAgain_38 : decode cX1_doAgain 38 = .ok (.iadd, 1) := by decide +kernel
theorem dX1_doAgain_39 : decode cX1_doAgain 39 = .ok (.putfield 24, 3) := by decide +kernel
theorem dX1_doAgain_42 : decode cX1_doAgain 42 = .ok (.aload_n 0, 1) := by decide +kernel
theorem dX1_doAgain_43 : decode cX1_doAgain 43 = .ok (.getfield 31, 3) := by decide +kernel
theorem dX1_doAgain_46 : decode cX1_doAgain 46 = .ok (.aload_n 0, 1) := by decide +kernel
theorem dX1_doAgain_47 : decode cX1_doAgain 47 = .ok (.getfield 24, 3) := by decide +kernel
theorem dX1_doAgain_50 : decode cX1_doAgain 50 = .ok (.isub, 1) := by decide +kernel
theorem dX1_doAgain_51 : decode cX1_doAgain 51 = .ok (.ireturn, 1) := by decide +kernel
theorem dX2_init_0 : decode cX2_init 0 = .ok (.aload_n 0, 1) := by decide +kernel
theorem dX2_init_1 : decode cX2_init 1 = .ok (.invokespecial 3, 3) := by decide +kernel
theorem dX2_init_4 : decode cX2_init 4 = .ok (.aload_n 0, 1) := by decide +kernel
theorem dX2_init_5 : decode cX2_init 5 = .ok (.bipush 120, 2) := by decide +kernel
theorem dX2_init_7 : decode cX2_init 7 = .ok (.newarray .byte, 2) := by decide +kernel
theorem dX2_init_9 : decode cX2_init 9 = .ok (.putfield 9, 3) := by decide +kernel
theorem dX2_init_12 : decode cX2_init 12 = .ok (.aload_n 0, 1) := by decide +kernel
theorem dX2_init_13 : decode cX2_init 13 = .ok (.bipush 120, 2) := by decide +kernel
theorem dX2_init_15 : decode cX2_init 15 = .ok (.newarray .byte, 2) := by decide +kernel
theorem dX2_init_17 : decode cX2_init 17 = .ok (.putfield 15, 3) := by decide +kernel
theorem dX2_init_20 : decode cX2_init 20 = .ok (.aload_n 0, 1) := by decide +kernel
theorem dX2_init_21 : decode cX2_init 21 = .ok (.aload_n 0, 1) := by decide +kernel
theorem dX2_init_22 : decode cX2_init 22 = .ok (.getfield 15, 3) := by decide +kernel
theorem dX2_init_25 : decode cX2_init 25 = .ok (.putfield 18, 3) := by decide +kernel
theorem dX2_init_28 : decode cX2_init 28 = .ok (.return_, 1) := by decide +kernel
theorem dX2_takeByte_0 : decode cX2_takeByte 0 = .ok (.aload_n 0, 1) := by decide +kernel
theorem dX2_takeByte_1 : decode cX2_takeByte 1 = .ok (.getfield 9, 3) := by decide +kernel
theorem dX2_takeByte_4 : decode cX2_takeByte 4 = .ok (.aload_n 0, 1) := by decide +kernel
theorem dX2_takeByte_5 : decode cX2_takeByte 5 = .ok (.getfield 21, 3) := by decide +kernel
theorem dX2_takeByte_8 : decode cX2_takeByte 8 = .ok (.iload_n 1, 1) := by decide +kernel
theorem dX2_takeByte_9 : decode cX2_takeByte 9 = .ok (.i2b, 1) := by decide +kernel
theorem dX2_takeByte_10 : decode cX2_takeByte 10 = .ok (.bastore, 1) := by decide +kernel
theorem dX2_takeByte_11 : decode cX2_takeByte 11 = .ok (.aload_n 0, 1) := by decide +kernel
theorem dX2_takeByte_12 : decode cX2_takeByte 12 = .ok (.dup, 1) := by decide +kernel
theorem dX2_takeByte_13 : decode cX2_takeByte 13 = .ok (.getfield 21, 3) := by decide +kernel
theorem dX2_takeByte_16 : decode cX2_takeByte 16 = .ok (.iconst 1, 1) := by decide +kernel
theorem dX2_takeByte_17 : decode cX2_takeByte 17 = .ok (.iadd, 1) := by decide +kernel
theorem dX2_takeByte_18 : decode cX2_takeByte 18 = .ok (.putfield 21, 3) := by decide +kernel
theorem dX2_takeByte_21 : decode cX2_takeByte 21 = .ok (.aload_n 0, 1) := by decide +kernel
theorem dX2_takeByte_22 : decode cX2_takeByte 22 = .ok (.getfield 21, 3) := by decide +kernel
theorem dX2_takeByte_25 : decode cX2_takeByte 25 = .ok (.ireturn, 1) := by decide +kernel
theorem dX2_enact_0 : decode cX2_enact 0 = .ok (.aload_n 0, 1) := by decide +kernel
theorem dX2_enact_1 : decode cX2_enact 1 = .ok (.aload_n 0, 1) := by decide +kernel
theorem dX2_enact_2 : decode cX2_enact 2 = .ok (.getfield 9, 3) := by decide +kernel
theorem dX2_enact_5 : decode cX2_enact 5 = .ok (.aload_n 0, 1) := by decide +kernel
theorem dX2_enact_6 : decode cX2_enact 6 = .ok (.getfield 21, 3) := by decide +kernel
theorem dX2_enact_9 : decode cX2_enact 9 = .ok (.invokevirtual 25, 3) := by decide +kernel
theorem dX2_enact_12 : decode cX2_enact 12 = .ok (.pop, 1) := by decide +kernel
theorem dX2_enact_13 : decode cX2_enact 13 = .ok (.aload_n 0, 1) := by decide +kernel
theorem dX2_enact_14 : decode cX2_enact 14 = .ok (.getfield 29, 3) := by decide +kernel
theorem dX2_enact_17 : decode cX2_enact 17 = .ok (.ifCond .ge 28, 3) := by decide +kernel
theorem dX2_enact_20 : decode cX2_enact 20 = .ok (.aload_n 0, 1) := by decide +kernel
theorem dX2_enact_21 : decode cX2_enact 21 = .ok (.getfield 9, 3) := by decide +kernel
theorem dX2_enact_24 : decode cX2_enact 24 = .ok (.iconst 0, 1) := by decide +kernel
theorem dX2_enact_25 : decode cX2_enact 25 = .ok (.aload_n 0, 1) := by decide +kernel
theorem dX2_enact_26 : decode cX2_enact 26 = .ok (.getfield 15, 3) := by decide +kernel
theorem dX2_enact_29 : decode cX2_enact 29 = .ok (.iconst 0, 1) := by decide +kernel
theorem dX2_enact_30 : decode cX2_enact 30 = .ok (.aload_n 0, 1) := by decide +kernel
theorem dX2_enact_31 : decode cX2_enact 31 = .ok (.getfield 21, 3) := by decide +kernel
theorem dX2_enact_34 : decode cX2_enact 34 = .ok (.invokestatic 32, 3) := by decide +kernel
theorem dX2_enact_37 : decode cX2_enact 37 = .ok (.aload_n 0, 1) := by decide +kernel
theorem dX2_enact_38 : decode cX2_enact 38 = .ok (.aload_n 0, 1) := by decide +kernel
theorem dX2_enact_39 : decode cX2_enact 39 = .ok (.getfield 21, 3) := by decide +kernel
theorem dX2_enact_42 : decode cX2_enact 42 = .ok (.putfield 38, 3) := by decide +kernel
theorem dX2_enact_45 : decode cX2_enact 45 = .ok (.aload_n 0, 1) := by decide +kernel
theorem dX2_enact_46 : decode cX2_enact 46 = .ok (.iconst 0, 1) := by decide +kernel
theorem dX2_enact_47 : decode cX2_enact 47 = .ok (.putfield 21, 3) := by decide +kernel
theorem dX2_enact_50 : decode cX2_enact 50 = .ok (.aload_n 0, 1) := by decide +kernel
theorem dX2_enact_51 : decode cX2_enact 51 = .ok (.getfield 29, 3) := by decide +kernel
theorem dX2_enact_54 : decode cX2_enact 54 = .ok (.ireturn, 1) := by decide +kernel
theorem dX2_reachOf_0 : decode cX2_reachOf 0 = .ok (.aload_n 0, 1) := by decide +kernel
theorem dX2_reachOf_1 : decode cX2_reachOf 1 = .ok (.getfield 38, 3) := by decide +kernel
theorem dX2_reachOf_4 : decode cX2_reachOf 4 = .ok (.ifCond .ne 5, 3) := by decide +kernel
theorem dX2_reachOf_7 : decode cX2_reachOf 7 = .ok (.iconst 3, 1) := by decide +kernel
theorem dX2_reachOf_8 : decode cX2_reachOf 8 = .ok (.ireturn, 1) := by decide +kernel
theorem dX2_reachOf_9 : decode cX2_reachOf 9 = .ok (.aload_n 0, 1) := by decide +kernel
theorem dX2_reachOf_10 : decode cX2_reachOf 10 = .ok (.iload_n 2, 1) := by decide +kernel
theorem dX2_reachOf_11 : decode cX2_reachOf 11 = .ok (.putfield 41, 3) := by decide +kernel
theorem dX2_reachOf_14 : decode cX2_reachOf 14 = .ok (.aload_n 0, 1) := by decide +kernel
theorem dX2_reachOf_15 : decode cX2_reachOf 15 = .ok (.aload_n 1, 1) := by decide +kernel
theorem dX2_reachOf_16 : decode cX2_reachOf 16 = .ok (.getfield 44, 3) := by decide +kernel
theorem dX2_reachOf_19 : decode cX2_reachOf 19 = .ok (.iload_n 2, 1) := by decide +kernel
theorem dX2_reachOf_20 : decode cX2_reachOf 20 = .ok (.iaload, 1) := by decide +kernel
theorem dX2_reachOf_21 : decode cX2_reachOf 21 = .ok (.putfield 50, 3) := by decide +kernel
theorem dX2_reachOf_24 : decode cX2_reachOf 24 = .ok (.aload_n 0, 1) := by decide +kernel
theorem dX2_reachOf_25 : decode cX2_reachOf 25 = .ok (.aload_n 1, 1) := by decide +kernel
theorem dX2_reachOf_26 : decode cX2_reachOf 26 = .ok (.getfield 53, 3) := by decide +kernel
theorem dX2_reachOf_29 : decode cX2_reachOf 29 = .ok (.iload_n 2, 1) := by decide +kernel
theorem dX2_reachOf_30 : decode cX2_reachOf 30 = .ok (.iaload, 1) := by decide +kernel
theorem dX2_reachOf_31 : decode cX2_reachOf 31 = .ok (.putfield 56, 3) := by decide +kernel
theorem dX2_reachOf_34 : decode cX2_reachOf 34 = .ok (.aload_n 0, 1) := by decide +kernel
theorem dX2_reachOf_35 : decode cX2_reachOf 35 = .ok (.aload_n 1, 1) := by decide +kernel
theorem dX2_reachOf_36 : decode cX2_reachOf 36 = .ok (.iload_n 2, 1) := by decide +kernel
theorem dX2_reachOf_37 : decode cX2_reachOf 37 = .ok (.iload 4, 2) := by decide +kernel
theorem dX2_reachOf_39 : decode cX2_reachOf 39 = .ok (.invokevirtual 59, 3) := by decide +kernel
theorem dX2_reachOf_42 : decode cX2_reachOf 42 = .ok (.putfield 63, 3) := by decide +kernel
theorem dX2_reachOf_45 : decode cX2_reachOf 45 = .ok (.aload_n 0, 1) := by decide +kernel
theorem dX2_reachOf_46 : decode cX2_reachOf 46 = .ok (.iload_n 3, 1) := by decide +kernel
theorem dX2_reachOf_47 : decode cX2_reachOf 47 = .ok (.iload_n 2, 1) := by decide +kernel
theorem dX2_reachOf_48 : decode cX2_reachOf 48 = .ok (.ishr, 1) := by decide +kernel
theorem dX2_reachOf_49 : decode cX2_reachOf 49 = .ok (.iconst 1, 1) := by decide +kernel
theorem dX2_reachOf_50 : decode cX2_reachOf 50 = .ok (.iand, 1) := by decide +kernel
theorem dX2_reachOf_51 : decode cX2_reachOf 51 = .ok (.putfield 66, 3) := by decide +kernel
theorem dX2_reachOf_54 : decode cX2_reachOf 54 = .ok (.iconst 0, 1) := by decide +kernel
theorem dX2_reachOf_55 : decode cX2_reachOf 55 = .ok (.bipush 20, 2) := by decide +kernel
theorem dX2_reachOf_57 : decode cX2_reachOf 57 = .ok (.aload_n 0, 1) := by decide +kernel
theorem dX2_reachOf_58 : decode cX2_reachOf 58 = .ok (.aload_n 0, 1) := by decide +kernel
theorem dX2_reachOf_59 : decode cX2_reachOf 59 = .ok (.getfield 15, 3) := by decide +kernel
theorem dX2_reachOf_62 : decode cX2_reachOf 62 = .ok (.aload_n 0, 1) := by decide +kernel
theorem dX2_reachOf_63 : decode cX2_reachOf 63 = .ok (.getfield 38, 3) := by decide +kernel
theorem dX2_reachOf_66 : decode cX2_reachOf 66 = .ok (.invokevirtual 25, 3) := by decide +kernel
theorem dX2_reachOf_69 : decode cX2_reachOf 69 = .ok (.invokestatic 69, 3) := by decide +kernel
theorem dX2_reachOf_72 : decode cX2_reachOf 72 = .ok (.invokestatic 74, 3) := by decide +kernel
theorem dX2_reachOf_75 : decode cX2_reachOf 75 = .ok (.ireturn, 1) := by decide +kernel
theorem dX2_worked_0 : decode cX2_worked 0 = .ok (.aload_n 0, 1) := by decide +kernel
theorem dX2_worked_1 : decode cX2_worked 1 = .ok (.aload_n 1, 1) := by decide +kernel
theorem dX2_worked_2 : decode cX2_worked 2 = .ok (.putfield 18, 3) := by decide +kernel
theorem dX2_worked_5 : decode cX2_worked 5 = .ok (.aload_n 0, 1) := by decide +kernel
theorem dX2_worked_6 : decode cX2_worked 6 = .ok (.iload_n 2, 1) := by decide +kernel
theorem dX2_worked_7 : decode cX2_worked 7 = .ok (.putfield 77, 3) := by decide +kernel
theorem dX2_worked_10 : decode cX2_worked 10 = .ok (.aload_n 0, 1) := by decide +kernel
theorem dX2_worked_11 : decode cX2_worked 11 = .ok (.iconst 0, 1) := by decide +kernel
theorem dX2_worked_12 : decode cX2_worked 12 = .ok (.putfield 80, 3) := by decide +kernel
theorem dX2_worked_15 : decode cX2_worked 15 = .ok (.aload_n 0, 1) := by decide +kernel
theorem dX2_worked_16 : decode cX2_worked 16 = .ok (.iconst (-1), 1) := by decide +kernel
theorem dX2_worked_17 : decode cX2_worked 17 = .ok (.putfield 29, 3) := by decide +kernel
theorem dX2_worked_20 : decode cX2_worked 20 = .ok (.iconst 0, 1) := by decide +kernel
theorem dX2_worked_21 : decode cX2_worked 21 = .ok (.istore_n 3, 1) := by decide +kernel
theorem dX2_worked_22 : decode cX2_worked 22 = .ok (.iconst 0, 1) := by decide +kernel
theorem dX2_worked_23 : decode cX2_worked 23 = .ok (.istore 4, 2) := by decide +kernel
theorem dX2_worked_25 : decode cX2_worked 25 = .ok (.iconst 1, 1) := by decide +kernel
theorem dX2_worked_26 : decode cX2_worked 26 = .ok (.istore 5, 2) := by decide +kernel
theorem dX2_worked_28 : decode cX2_worked 28 = .ok (.iconst 0, 1) := by decide +kernel
theorem dX2_worked_29 : decode cX2_worked 29 = .ok (.istore 6, 2) := by decide +kernel
theorem dX2_worked_31 : decode cX2_worked 31 = .ok (.iload 6, 2) := by decide +kernel
theorem dX2_worked_33 : decode cX2_worked 33 = .ok (.bipush 120, 2) := by decide +kernel
theorem dX2_worked_35 : decode cX2_worked 35 = .ok (.if_icmp .gt 121, 3) := by decide +kernel
theorem dX2_worked_38 : decode cX2_worked 38 = .ok (.iload 5, 2) := by decide +kernel
theorem dX2_worked_40 : decode cX2_worked 40 = .ok (.ifCond .eq 116, 3) := by decide +kernel
theorem dX2_worked_43 : decode cX2_worked 43 = .ok (.aload_n 0, 1) := by decide +kernel
theorem dX2_worked_44 : decode cX2_worked 44 = .ok (.iconst 0, 1) := by decide +kernel
theorem dX2_worked_45 : decode cX2_worked 45 = .ok (.iconst 0, 1) := by decide +kernel
theorem dX2_worked_46 : decode cX2_worked 46 = .ok (.invokevirtual 83, 3) := by decide +kernel
theorem dX2_worked_49 : decode cX2_worked 49 = .ok (.istore 7, 2) := by decide +kernel
theorem dX2_worked_51 : decode cX2_worked 51 = .ok (.iload 7, 2) := by decide +kernel
theorem dX2_worked_53 : decode cX2_worked 53 = .ok (.istore 8, 2) := by decide +kernel
theorem dX2_worked_55 : decode cX2_worked 55 = .ok (.aload_n 0, 1) := by decide +kernel
theorem dX2_worked_56 : decode cX2_worked 56 = .ok (.invokevirtual 86, 3) := by decide +kernel
theorem dX2_worked_59 : decode cX2_worked 59 = .ok (.bipush 63, 2) := by decide +kernel
theorem dX2_worked_61 : decode cX2_worked 61 = .ok (.if_icmp .ne 7, 3) := by decide +kernel
theorem dX2_worked_64 : decode cX2_worked 64 = .ok (.iconst 1, 1) := by decide +kernel
theorem dX2_worked_65 : decode cX2_worked 65 = .ok (.goto 4, 3) := by decide +kernel
theorem dX2_worked_68 : decode cX2_worked 68 = .ok (.iconst 0, 1) := by decide +kernel
theorem dX2_worked_69 : decode cX2_worked 69 = .ok (.istore 9, 2) := by decide +kernel
theorem dX2_worked_71 : decode cX2_worked 71 = .ok (.iload 9, 2) := by decide +kernel
theorem dX2_worked_73 : decode cX2_worked 73 = .ok (.ifCond .eq 21, 3) := by decide +kernel
theorem dX2_worked_76 : decode cX2_worked 76 = .ok (.aload_n 0, 1) := by decide +kernel
theorem dX2_worked_77 : decode cX2_worked 77 = .ok (.dup, 1) := by decide +kernel
theorem dX2_worked_78 : decode cX2_worked 78 = .ok (.getfield 80, 3) := by decide +kernel
theorem dX2_worked_81 : decode cX2_worked 81 = .ok (.iconst 1, 1) := by decide +kernel
theorem dX2_worked_82 : decode cX2_worked 82 = .ok (.iadd, 1) := by decide +kernel
theorem dX2_worked_83 : decode cX2_worked 83 = .ok (.putfield 80, 3) := by decide +kernel
theorem dX2_worked_86 : decode cX2_worked 86 = .ok (.aload_n 0, 1) := by decide +kernel
theorem dX2_worked_87 : decode cX2_worked 87 = .ok (.iconst 0, 1) := by decide +kernel
theorem dX2_worked_88 : decode cX2_worked 88 = .ok (.iconst 0, 1) := by decide +kernel
theorem dX2_worked_89 : decode cX2_worked 89 = .ok (.invokevirtual 83, 3) := by decide +kernel
theorem dX2_worked_92 : decode cX2_worked 92 = .ok (.istore 8, 2) := by decide +kernel
theorem dX2_worked_94 : decode cX2_worked 94 = .ok (.iload 4, 2) := by decide +kernel
theorem dX2_worked_96 : decode cX2_worked 96 = .ok (.ifCond .ne 19, 3) := by decide +kernel
theorem dX2_worked_99 : decode cX2_worked 99 = .ok (.iload 9, 2) := by decide +kernel
theorem dX2_worked_101 : decode cX2_worked 101 = .ok (.ifCond .eq 8, 3) := by decide +kernel
theorem dX2_worked_104 : decode cX2_worked 104 = .ok (.iload 7, 2) := by decide +kernel
theorem dX2_worked_106 : decode cX2_worked 106 = .ok (.ifCond .eq 9, 3) := by decide +kernel
theorem dX2_worked_109 : decode cX2_worked 109 = .ok (.iconst 1, 1) := by decide +kernel
theorem dX2_worked_110 : decode cX2_worked 110 = .ok (.istore 4, 2) := by decide +kernel
theorem dX2_worked_112 : decode cX2_worked 112 = .ok (.iload 8, 2) := by decide +kernel
theorem dX2_worked_114 : decode cX2_worked 114 = .ok (.istore_n 3, 1) := by decide +kernel
theorem dX2_worked_115 : decode cX2_worked 115 = .ok (.aload_n 0, 1) := by decide +kernel
theorem dX2_worked_116 : decode cX2_worked 116 = .ok (.invokevirtual 86, 3) := by decide +kernel
theorem dX2_worked_119 : decode cX2_worked 119 = .ok (.bipush 59, 2) := by decide +kernel
theorem dX2_worked_121 : decode cX2_worked 121 = .ok (.if_icmp .ne 7, 3) := by decide +kernel
theorem dX2_worked_124 : decode cX2_worked 124 = .ok (.iconst 1, 1) := by decide +kernel
theorem dX2_worked_125 : decode cX2_worked 125 = .ok (.goto 4, 3) := by decide +kernel
theorem dX2_worked_128 : decode cX2_worked 128 = .ok (.iconst 0, 1) := by decide +kernel
theorem dX2_worked_129 : decode cX2_worked 129 = .ok (.istore 5, 2) := by decide +kernel
theorem dX2_worked_131 : decode cX2_worked 131 = .ok (.aload_n 0, 1) := by decide +kernel
theorem dX2_worked_132 : decode cX2_worked 132 = .ok (.dup, 1) := by decide +kernel
theorem dX2_worked_133 : decode cX2_worked 133 = .ok (.getfield 80, 3) := by decide +kernel
theorem dX2_worked_136 : decode cX2_worked 136 = .ok (.iload 5, 2) := by decide +kernel
theorem dX2_worked_138 : decode cX2_worked 138 = .ok (.ifCond .eq 7, 3) := by decide +kernel
theorem dX2_worked_141 : decode cX2_worked 141 = .ok (.iconst 1, 1) := by decide +kernel
theorem dX2_worked_142 : decode cX2_worked 142 = .ok (.goto 4, 3) := by decide +kernel
theorem dX2_worked_145 : decode cX2_worked 145 = .ok (.iconst 0, 1) := by decide +kernel
theorem dX2_worked_146 : decode cX2_worked 146 = .ok (.iadd, 1) := by decide +kernel
theorem dX2_worked_147 : decode cX2_worked 147 = .ok (.putfield 80, 3) := by decide +kernel
theorem dX2_worked_150 : decode cX2_worked 150 = .ok (.iinc 6 1, 3) := by decide +kernel
theorem dX2_worked_153 : decode cX2_worked 153 = .ok (.goto (-122), 3) := by decide +kernel
theorem dX2_worked_156 : decode cX2_worked 156 = .ok (.aload_n 0, 1) := by decide +kernel
theorem dX2_worked_157 : decode cX2_worked 157 = .ok (.getfield 80, 3) := by decide +kernel
theorem dX2_worked_160 : decode cX2_worked 160 = .ok (.aload_n 0, 1) := by decide +kernel
theorem dX2_worked_161 : decode cX2_worked 161 = .ok (.getfield 77, 3) := by decide +kernel
theorem dX2_worked_164 : decode cX2_worked 164 = .ok (.if_icmp .ge 8, 3) := by decide +kernel
theorem dX2_worked_167 : decode cX2_worked 167 = .ok (.aload_n 0, 1) := by decide +kernel
theorem dX2_worked_168 : decode cX2_worked 168 = .ok (.invokevirtual 90, 3) := by decide +kernel
theorem dX2_worked_171 : decode cX2_worked 171 = .ok (.pop, 1) := by decide +kernel
theorem dX2_worked_172 : decode cX2_worked 172 = .ok (.iload_n 3, 1) := by decide +kernel
theorem dX2_worked_173 : decode cX2_worked 173 = .ok (.ireturn, 1) := by decide +kernel
theorem dX2_next_0 : decode cX2_next 0 = .ok (.aload_n 0, 1) := by decide +kernel
theorem dX2_next_1 : decode cX2_next 1 = .ok (.getfield 29, 3) := by decide +kernel
theorem dX2_next_4 : decode cX2_next 4 = .ok (.ifCond .ge 42, 3) := by decide +kernel
theorem dX2_next_7 : decode cX2_next 7 = .ok (.aload_n 0, 1) := by decide +kernel
theorem dX2_next_8 : decode cX2_next 8 = .ok (.getfield 80, 3) := by decide +kernel
theorem dX2_next_11 : decode cX2_next 11 = .ok (.aload_n 0, 1) := by decide +kernel
theorem dX2_next_12 : decode cX2_next 12 = .ok (.getfield 77, 3) := by decide +kernel
theorem dX2_next_15 : decode cX2_next 15 = .ok (.if_icmp .ge 31, 3) := by decide +kernel
theorem dX2_next_18 : decode cX2_next 18 = .ok (.aload_n 0, 1) := by decide +kernel
theorem dX2_next_19 : decode cX2_next 19 = .ok (.getfield 80, 3) := by decide +kernel
theorem dX2_next_22 : decode cX2_next 22 = .ok (.aload_n 0, 1) := by decide +kernel
theorem dX2_next_23 : decode cX2_next 23 = .ok (.getfield 18, 3) := by decide +kernel
theorem dX2_next_26 : decode cX2_next 26 = .ok (.arraylength, 1) := by decide +kernel
theorem dX2_next_27 : decode cX2_next 27 = .ok (.if_icmp .ge 19, 3) := by decide +kernel
theorem dX2_next_30 : decode cX2_next 30 = .ok (.aload_n 0, 1) := by decide +kernel
theorem dX2_next_31 : decode cX2_next 31 = .ok (.getfield 18, 3) := by decide +kernel
theorem dX2_next_34 : decode cX2_next 34 = .ok (.aload_n 0, 1) := by decide +kernel
theorem dX2_next_35 : decode cX2_next 35 = .ok (.getfield 80, 3) := by decide +kernel
theorem dX2_next_38 : decode cX2_next 38 = .ok (.baload, 1) := by decide +kernel
theorem dX2_next_39 : decode cX2_next 39 = .ok (.sipush 255, 3) := by decide +kernel
theorem dX2_next_42 : decode cX2_next 42 = .ok (.iand, 1) := by decide +kernel
theorem dX2_next_43 : decode cX2_next 43 = .ok (.goto 4, 3) := by decide +kernel
theorem dX2_next_46 : decode cX2_next 46 = .ok (.iconst (-1), 1) := by decide +kernel
theorem dX2_next_47 : decode cX2_next 47 = .ok (.ireturn, 1) := by decide +kernel
theorem dX2_broken_0 : decode cX2_broken 0 = .ok (.aload_n 0, 1) := by decide +kernel
theorem dX2_broken_1 : decode cX2_broken 1 = .ok (.aload_n 0, 1) := by decide +kernel
theorem dX2_broken_2 : decode cX2_broken 2 = .ok (.getfield 29, 3) := by decide +kernel
theorem dX2_broken_5 : decode cX2_broken 5 = .ok (.ifCond .ge 10, 3) := by decide +kernel
theorem dX2_broken_8 : decode cX2_broken 8 = .ok (.aload_n 0, 1) := by decide +kernel
theorem dX2_broken_9 : decode cX2_broken 9 = .ok (.getfield 80, 3) := by decide +kernel
theorem dX2_broken_12 : decode cX2_broken 12 = .ok (.goto 7, 3) := by decide +kernel
theorem dX2_broken_15 : decode cX2_broken 15 = .ok (.aload_n 0, 1) := by decide +kernel
theorem dX2_broken_16 : decode cX2_broken 16 = .ok (.getfield 29, 3) := by decide +kernel
theorem dX2_broken_19 : decode cX2_broken 19 = .ok (.putfield 29, 3) := by decide +kernel
theorem dX2_broken_22 : decode cX2_broken 22 = .ok (.iconst 0, 1) := by decide +kernel
theorem dX2_broken_23 : decode cX2_broken 23 = .ok (.ireturn, 1) := by decide +kernel
theorem dX2_ranked_0 : decode cX2_ranked 0 = .ok (.iload_n 1, 1) := by decide +kernel
theorem dX2_ranked_1 : decode cX2_ranked 1 = .ok (.iconst 5, 1) := by decide +kernel
theorem dX2_ranked_2 : decode cX2_ranked 2 = .ok (.if_icmp .lt 9, 3) := by decide +kernel
theorem dX2_ranked_5 : decode cX2_ranked 5 = .ok (.aload_n 0, 1) := by decide +kernel
theorem dX2_ranked_6 : decode cX2_ranked 6 = .ok (.iload_n 2, 1) := by decide +kernel
theorem dX2_ranked_7 : decode cX2_ranked 7 = .ok (.invokevirtual 93, 3) := by decide +kernel
theorem dX2_ranked_10 : decode cX2_ranked 10 = .ok (.ireturn, 1) := by decide +kernel
theorem dX2_ranked_11 : decode cX2_ranked 11 = .ok (.aload_n 0, 1) := by decide +kernel
theorem dX2_ranked_12 : decode cX2_ranked 12 = .ok (.iload_n 1, 1) := by decide +kernel
theorem dX2_ranked_13 : decode cX2_ranked 13 = .ok (.iconst 1, 1) := by decide +kernel
theorem dX2_ranked_14 : decode cX2_ranked 14 = .ok (.iadd, 1) := by decide +kernel
theorem dX2_ranked_15 : decode cX2_ranked 15 = .ok (.iload_n 2, 1) := by decide +kernel
theorem dX2_ranked_16 : decode cX2_ranked 16 = .ok (.invokevirtual 83, 3) := by decide +kernel
theorem dX2_ranked_19 : decode cX2_ranked 19 = .ok (.istore_n 3, 1) := by decide +kernel
theorem dX2_ranked_20 : decode cX2_ranked 20 = .ok (.iload_n 1, 1) := by decide +kernel
theorem dX2_ranked_21 : decode cX2_ranked 21 = .ok (.iconst 2, 1) := by decide +kernel
theorem dX2_ranked_22 : decode cX2_ranked 22 = .ok (.if_icmp .ne 7, 3) := by decide +kernel
theorem dX2_ranked_25 : decode cX2_ranked 25 = .ok (.iconst 1, 1) := by decide +kernel
theorem dX2_ranked_26 : decode cX2_ranked 26 = .ok (.goto 5, 3) := by decide +kernel
theorem dX2_ranked_29 : decode cX2_ranked 29 = .ok (.bipush 120, 2) := by decide +kernel
theorem dX2_ranked_31 : decode cX2_ranked 31 = .ok (.istore 4, 2) := by decide +kernel
theorem dX2_ranked_33 : decode cX2_ranked 33 = .ok (.iconst 0, 1) := by decide +kernel
theorem dX2_ranked_34 : decode cX2_ranked 34 = .ok (.istore 5, 2) := by decide +kernel
theorem dX2_ranked_36 : decode cX2_ranked 36 = .ok (.iload 5, 2) := by decide +kernel
theorem dX2_ranked_38 : decode cX2_ranked 38 = .ok (.iload 4, 2) := by decide +kernel
theorem dX2_ranked_40 : decode cX2_ranked 40 = .ok (.if_icmp .ge 51, 3) := by decide +kernel
theorem dX2_ranked_43 : decode cX2_ranked 43 = .ok (.aload_n 0, 1) := by decide +kernel
theorem dX2_ranked_44 : decode cX2_ranked 44 = .ok (.invokevirtual 86, 3) := by decide +kernel
theorem dX2_ranked_47 : decode cX2_ranked 47 = .ok (.invokestatic 97, 3) := by decide +kernel
theorem dX2_ranked_50 : decode cX2_ranked 50 = .ok (.iload_n 1, 1) := by decide +kernel
theorem dX2_ranked_51 : decode cX2_ranked 51 = .ok (.if_icmp .ne 40, 3) := by decide +kernel
theorem dX2_ranked_54 : decode cX2_ranked 54 = .ok (.aload_n 0, 1) := by decide +kernel
theorem dX2_ranked_55 : decode cX2_ranked 55 = .ok (.invokevirtual 86, 3) := by decide +kernel
theorem dX2_ranked_58 : decode cX2_ranked 58 = .ok (.istore 6, 2) := by decide +kernel
theorem dX2_ranked_60 : decode cX2_ranked 60 = .ok (.aload_n 0, 1) := by decide +kernel
theorem dX2_ranked_61 : decode cX2_ranked 61 = .ok (.dup, 1) := by decide +kernel
theorem dX2_ranked_62 : decode cX2_ranked 62 = .ok (.getfield 80, 3) := by decide +kernel
theorem dX2_ranked_65 : decode cX2_ranked 65 = .ok (.iconst 1, 1) := by decide +kernel
theorem dX2_ranked_66 : decode cX2_ranked 66 = .ok (.iadd, 1) := by decide +kernel
theorem dX2_ranked_67 : decode cX2_ranked 67 = .ok (.putfield 80, 3) := by decide +kernel
theorem dX2_ranked_70 : decode cX2_ranked 70 = .ok (.iload 6, 2) := by decide +kernel
theorem dX2_ranked_72 : decode cX2_ranked 72 = .ok (.iload_n 3, 1) := by decide +kernel
theorem dX2_ranked_73 : decode cX2_ranked 73 = .ok (.aload_n 0, 1) := by decide +kernel
theorem dX2_ranked_74 : decode cX2_ranked 74 = .ok (.iload_n 1, 1) := by decide +kernel
theorem dX2_ranked_75 : decode cX2_ranked 75 = .ok (.iconst 1, 1) := by decide +kernel
theorem dX2_ranked_76 : decode cX2_ranked 76 = .ok (.iadd, 1) := by decide +kernel
theorem dX2_ranked_77 : decode cX2_ranked 77 = .ok (.iload_n 2, 1) := by decide +kernel
theorem dX2_ranked_78 : decode cX2_ranked 78 = .ok (.invokevirtual 83, 3) := by decide +kernel
theorem dX2_ranked_81 : decode cX2_ranked 81 = .ok (.invokestatic 100, 3) := by decide +kernel
theorem dX2_ranked_84 : decode cX2_ranked 84 = .ok (.istore_n 3, 1) := by decide +kernel
theorem dX2_ranked_85 : decode cX2_ranked 85 = .ok (.iinc 5 1, 3) := by decide +kernel
theorem dX2_ranked_88 : decode cX2_ranked 88 = .ok (.goto (-52), 3) := by decide +kernel
theorem dX2_ranked_91 : decode cX2_ranked 91 = .ok (.iload_n 3, 1) := by decide +kernel
theorem dX2_ranked_92 : decode cX2_ranked 92 = .ok (.ireturn, 1) := by decide +kernel
theorem dX2_operand_0 : decode cX2_operand 0 = .ok (.aload_n 0, 1) := by decide +kernel
theorem dX2_operand_1 : decode cX2_operand 1 = .ok (.invokevirtual 86, 3) := by decide +kernel
theorem dX2_operand_4 : decode cX2_operand 4 = .ok (.istore_n 2, 1) := by decide +kernel
theorem dX2_operand_5 : decode cX2_operand 5 = .ok (.iload_n 2, 1) := by decide +kernel
theorem dX2_operand_6 : decode cX2_operand 6 = .ok (.invokestatic 104, 3) := by decide +kernel
theorem dX2_operand_9 : decode cX2_operand 9 = .ok (.ifCond .eq 8, 3) := by decide +kernel
theorem dX2_operand_12 : decode cX2_operand 12 = .ok (.aload_n 0, 1) := by decide +kernel
theorem dX2_operand_13 : decode cX2_operand 13 = .ok (.invokevirtual 108, 3) := by decide +kernel
theorem dX2_operand_16 : decode cX2_operand 16 = .ok (.ireturn, 1) := by decide +kernel
theorem dX2_operand_17 : decode cX2_operand 17 = .ok (.iload_n 2, 1) := by decide +kernel
theorem dX2_operand_18 : decode cX2_operand 18 = .ok (.bipush 40, 2) := by decide +kernel
theorem dX2_operand_20 : decode cX2_operand 20 = .ok (.if_icmp .eq 21, 3) := by decide +kernel
theorem dX2_operand_23 : decode cX2_operand 23 = .ok (.iload_n 2, 1) := by decide +kernel
theorem dX2_operand_24 : decode cX2_operand 24 = .ok (.bipush 33, 2) := by decide +kernel
theorem dX2_operand_26 : decode cX2_operand 26 = .ok (.if_icmp .eq 15, 3) := by decide +kernel
theorem dX2_operand_29 : decode cX2_operand 29 = .ok (.iload_n 2, 1) := by decide +kernel
theorem dX2_operand_30 : decode cX2_operand 30 = .ok (.bipush 45, 2) := by decide +kernel
theorem dX2_operand_32 : decode cX2_operand 32 = .ok (.if_icmp .eq 9, 3) := by decide +kernel
theorem dX2_operand_35 : decode cX2_operand 35 = .ok (.aload_n 0, 1) := by decide +kernel
theorem dX2_operand_36 : decode cX2_operand 36 = .ok (.iload_n 2, 1) := by decide +kernel
theorem dX2_operand_37 : decode cX2_operand 37 = .ok (.invokevirtual 111, 3) := by decide +kernel
theorem dX2_operand_40 : decode cX2_operand 40 = .ok (.ireturn, 1) := by decide +kernel
theorem dX2_operand_41 : decode cX2_operand 41 = .ok (.iload_n 1, 1) := by decide +kernel
theorem dX2_operand_42 : decode cX2_operand 42 = .ok (.bipush 6, 2) := by decide +kernel
theorem dX2_operand_44 : decode cX2_operand 44 = .ok (.if_icmp .lt 8, 3) := by decide +kernel
theorem dX2_operand_47 : decode cX2_operand 47 = .ok (.aload_n 0, 1) := by decide +kernel
theorem dX2_operand_48 : decode cX2_operand 48 = .ok (.invokevirtual 90, 3) := by decide +kernel
theorem dX2_operand_51 : decode cX2_operand 51 = .ok (.ireturn, 1) := by decide +kernel
theorem dX2_operand_52 : decode cX2_operand 52 = .ok (.aload_n 0, 1) := by decide +kernel
theorem dX2_operand_53 : decode cX2_operand 53 = .ok (.dup, 1) := by decide +kernel
theorem dX2_operand_54 : decode cX2_operand 54 = .ok (.getfield 80, 3) := by decide +kernel
theorem dX2_operand_57 : decode cX2_operand 57 = .ok (.iconst 1, 1) := by decide +kernel
theorem dX2_operand_58 : decode cX2_operand 58 = .ok (.iadd, 1) := by decide +kernel
theorem dX2_operand_59 : decode cX2_operand 59 = .ok (.putfield 80, 3) := by decide +kernel
theorem dX2_operand_62 : decode cX2_operand 62 = .ok (.iload_n 2, 1) := by decide +kernel
theorem dX2_operand_63 : decode cX2_operand 63 = .ok (.bipush 40, 2) := by decide +kernel
theorem dX2_operand_65 : decode cX2_operand 65 = .ok (.if_icmp .eq 32, 3) := by decide +kernel
theorem dX2_operand_68 : decode cX2_operand 68 = .ok (.aload_n 0, 1) := by decide +kernel
theorem dX2_operand_69 : decode cX2_operand 69 = .ok (.iload_n 1, 1) := by decide +kernel
theorem dX2_operand_70 : decode cX2_operand 70 = .ok (.iconst 1, 1) := by decide +kernel
theorem dX2_operand_71 : decode cX2_operand 71 = .ok (.iadd, 1) := by decide +kernel
theorem dX2_operand_72 : decode cX2_operand 72 = .ok (.invokevirtual 93, 3) := by decide +kernel
theorem dX2_operand_75 : decode cX2_operand 75 = .ok (.istore_n 3, 1) := by decide +kernel
theorem dX2_operand_76 : decode cX2_operand 76 = .ok (.iload_n 2, 1) := by decide +kernel
theorem dX2_operand_77 : decode cX2_operand 77 = .ok (.bipush 45, 2) := by decide +kernel
theorem dX2_operand_79 : decode cX2_operand 79 = .ok (.if_icmp .ne 8, 3) := by decide +kernel
theorem dX2_operand_82 : decode cX2_operand 82 = .ok (.iload_n 3, 1) := by decide +kernel
theorem dX2_operand_83 : decode cX2_operand 83 = .ok (.ineg, 1) := by decide +kernel
theorem dX2_operand_84 : decode cX2_operand 84 = .ok (.goto 12, 3) := by decide +kernel
theorem dX2_operand_87 : decode cX2_operand 87 = .ok (.iload_n 3, 1) := by decide +kernel
theorem dX2_operand_88 : decode cX2_operand 88 = .ok (.ifCond .ne 7, 3) := by decide +kernel
theorem dX2_operand_91 : decode cX2_operand 91 = .ok (.iconst 1, 1) := by decide +kernel
theorem dX2_operand_92 : decode cX2_operand 92 = .ok (.goto 4, 3) := by decide +kernel
theorem dX2_operand_95 : decode cX2_operand 95 = .ok (.iconst 0, 1) := by decide +kernel
theorem dX2_operand_96 : decode cX2_operand 96 = .ok (.ireturn, 1) := by decide +kernel
theorem dX2_operand_97 : decode cX2_operand 97 = .ok (.aload_n 0, 1) := by decide +kernel
theorem dX2_operand_98 : decode cX2_operand 98 = .ok (.iconst 0, 1) := by decide +kernel
theorem dX2_operand_99 : decode cX2_operand 99 = .ok (.iload_n 1, 1) := by decide +kernel
theorem dX2_operand_100 : decode cX2_operand 100 = .ok (.iconst 1, 1) := by decide +kernel
theorem dX2_operand_101 : decode cX2_operand 101 = .ok (.iadd, 1) := by decide +kernel
theorem dX2_operand_102 : decode cX2_operand 102 = .ok (.invokevirtual 83, 3) := by decide +kernel
theorem dX2_operand_105 : decode cX2_operand 105 = .ok (.istore_n 3, 1) := by decide +kernel
theorem dX2_operand_106 : decode cX2_operand 106 = .ok (.aload_n 0, 1) := by decide +kernel
theorem dX2_operand_107 : decode cX2_operand 107 = .ok (.invokevirtual 86, 3) := by decide +kernel
theorem dX2_operand_110 : decode cX2_operand 110 = .ok (.bipush 41, 2) := by decide +kernel
theorem dX2_operand_112 : decode cX2_operand 112 = .ok (.if_icmp .eq 8, 3) := by decide +kernel
theorem dX2_operand_115 : decode cX2_operand 115 = .ok (.aload_n 0, 1) := by decide +kernel
theorem dX2_operand_116 : decode cX2_operand 116 = .ok (.invokevirtual 90, 3) := by decide +kernel
theorem dX2_operand_119 : decode cX2_operand 119 = .ok (.ireturn, 1) := by decide +kernel
theorem dX2_operand_120 : decode cX2_operand 120 = .ok (.aload_n 0, 1) := by decide +kernel
theorem dX2_operand_121 : decode cX2_operand 121 = .ok (.dup, 1) := by decide +kernel
theorem dX2_operand_122 : decode cX2_operand 122 = .ok (.getfield 80, 3) := by decide +kernel
theorem dX2_operand_125 : decode cX2_operand 125 = .ok (.iconst 1, 1) := by decide +kernel
theorem dX2_operand_126 : decode cX2_operand 126 = .ok (.iadd, 1) := by decide +kernel
theorem dX2_operand_127 : decode cX2_operand 127 = .ok (.putfield 80, 3) := by decide +kernel
theorem dX2_operand_130 : decode cX2_operand 130 = .ok (.iload_n 3, 1) := by decide +kernel
theorem dX2_operand_131 : decode cX2_operand 131 = .ok (.ireturn, 1) := by decide +kernel
theorem dX2_number_0 : decode cX2_number 0 = .ok (.iconst 0, 1) := by decide +kernel
theorem dX2_number_1 : decode cX2_number 1 = .ok (.istore_n 1, 1) := by decide +kernel
theorem dX2_number_2 : decode cX2_number 2 = .ok (.iconst 0, 1) := by decide +kernel
theorem dX2_number_3 : decode cX2_number 3 = .ok (.istore_n 2, 1) := by decide +kernel
theorem dX2_number_4 : decode cX2_number 4 = .ok (.iload_n 2, 1) := by decide +kernel
theorem dX2_number_5 : decode cX2_number 5 = .ok (.iconst 4, 1) := by decide +kernel
theorem dX2_number_6 : decode cX2_number 6 = .ok (.if_icmp .ge 42, 3) := by decide +kernel
theorem dX2_number_9 : decode cX2_number 9 = .ok (.aload_n 0, 1) := by decide +kernel
theorem dX2_number_10 : decode cX2_number 10 = .ok (.invokevirtual 86, 3) := by decide +kernel
theorem dX2_number_13 : decode cX2_number 13 = .ok (.invokestatic 104, 3) := by decide +kernel
theorem dX2_number_16 : decode cX2_number 16 = .ok (.ifCond .eq 32, 3) := by decide +kernel
theorem dX2_number_19 : decode cX2_number 19 = .ok (.bipush 10, 2) := by decide +kernel
theorem dX2_number_21 : decode cX2_number 21 = .ok (.iload_n 1, 1) := by decide +kernel
theorem dX2_number_22 : decode cX2_number 22 = .ok (.imul, 1) := by decide +kernel
theorem dX2_number_23 : decode cX2_number 23 = .ok (.aload_n 0, 1) := by decide +kernel
theorem dX2_number_24 : decode cX2_number 24 = .ok (.invokevirtual 86, 3) := by decide +kernel
theorem dX2_number_27 : decode cX2_number 27 = .ok (.iadd, 1) := by decide +kernel
theorem dX2_number_28 : decode cX2_number 28 = .ok (.bipush 48, 2) := by decide +kernel
theorem dX2_number_30 : decode cX2_number 30 = .ok (.isub, 1) := by decide +kernel
theorem dX2_number_31 : decode cX2_number 31 = .ok (.istore_n 1, 1) := by decide +kernel
theorem dX2_number_32 : decode cX2_number 32 = .ok (.aload_n 0, 1) := by decide +kernel
theorem dX2_number_33 : decode cX2_number 33 = .ok (.dup, 1) := by decide +kernel
theorem dX2_number_34 : decode cX2_number 34 = .ok (.getfield 80, 3) := by decide +kernel
theorem dX2_number_37 : decode cX2_number 37 = .ok (.iconst 1, 1) := by decide +kernel
theorem dX2_number_38 : decode cX2_number 38 = .ok (.iadd, 1) := by decide +kernel
theorem dX2_number_39 : decode cX2_number 39 = .ok (.putfield 80, 3) := by decide +kernel
theorem dX2_number_42 : decode cX2_number 42 = .ok (.iinc 2 1, 3) := by decide +kernel
theorem dX2_number_45 : decode cX2_number 45 = .ok (.goto (-41), 3) := by decide +kernel
theorem dX2_number_48 : decode cX2_number 48 = .ok (.iload_n 1, 1) := by decide +kernel
theorem dX2_number_49 : decode cX2_number 49 = .ok (.ireturn, 1) := by decide +kernel
theorem dX2_named_0 : decode cX2_named 0 = .ok (.iload_n 1, 1) := by decide +kernel
theorem dX2_named_1 : decode cX2_named 1 = .ok (.lookupswitch 91 #[(100, 51), (106, 75), (111, 83), (112, 59), (121, 67)], 51) := by decide +kernel
theorem dX2_named_52 : decode cX2_named 52 = .ok (.aload_n 0, 1) := by decide +kernel
theorem dX2_named_53 : decode cX2_named 53 = .ok (.getfield 41, 3) := by decide +kernel
theorem dX2_named_56 : decode cX2_named 56 = .ok (.istore_n 2, 1) := by decide +kernel
theorem dX2_named_57 : decode cX2_named 57 = .ok (.goto 40, 3) := by decide +kernel
theorem dX2_named_60 : decode cX2_named 60 = .ok (.aload_n 0, 1) := by decide +kernel
theorem dX2_named_61 : decode cX2_named 61 = .ok (.getfield 50, 3) := by decide +kernel
theorem dX2_named_64 : decode cX2_named 64 = .ok (.istore_n 2, 1) := by decide +kernel
theorem dX2_named_65 : decode cX2_named 65 = .ok (.goto 32, 3) := by decide +kernel
theorem dX2_named_68 : decode cX2_named 68 = .ok (.aload_n 0, 1) := by decide +kernel
theorem dX2_named_69 : decode cX2_named 69 = .ok (.getfield 56, 3) := by decide +kernel
theorem dX2_named_72 : decode cX2_named 72 = .ok (.istore_n 2, 1) := by decide +kernel
theorem dX2_named_73 : decode cX2_named 73 = .ok (.goto 24, 3) := by decide +kernel
theorem dX2_named_76 : decode cX2_named 76 = .ok (.aload_n 0, 1) := by decide +kernel
theorem dX2_named_77 : decode cX2_named 77 = .ok (.getfield 63, 3) := by decide +kernel
theorem dX2_named_80 : decode cX2_named 80 = .ok (.istore_n 2, 1) := by decide +kernel
theorem dX2_named_81 : decode cX2_named 81 = .ok (.goto 16, 3) := by decide +kernel
theorem dX2_named_84 : decode cX2_named 84 = .ok (.aload_n 0, 1) := by decide +kernel
theorem dX2_named_85 : decode cX2_named 85 = .ok (.getfield 66, 3) := by decide +kernel
theorem dX2_named_88 : decode cX2_named 88 = .ok (.istore_n 2, 1) := by decide +kernel
theorem dX2_named_89 : decode cX2_named 89 = .ok (.goto 8, 3) := by decide +kernel
theorem dX2_named_92 : decode cX2_named 92 = .ok (.aload_n 0, 1) := by decide +kernel
theorem dX2_named_93 : decode cX2_named 93 = .ok (.invokevirtual 90, 3) := by decide +kernel
theorem dX2_named_96 : decode cX2_named 96 = .ok (.ireturn, 1) := by decide +kernel
theorem dX2_named_97 : decode cX2_named 97 = .ok (.aload_n 0, 1) := by decide +kernel
theorem dX2_named_98 : decode cX2_named 98 = .ok (.dup, 1) := by decide +kernel
theorem dX2_named_99 : decode cX2_named 99 = .ok (.getfield 80, 3) := by decide +kernel
theorem dX2_named_102 : decode cX2_named 102 = .ok (.iconst 1, 1) := by decide +kernel
theorem dX2_named_103 : decode cX2_named 103 = .ok (.iadd, 1) := by decide +kernel
theorem dX2_named_104 : decode cX2_named 104 = .ok (.putfield 80, 3) := by decide +kernel
theorem dX2_named_107 : decode cX2_named 107 = .ok (.iload_n 2, 1) := by decide +kernel
theorem dX2_named_108 : decode cX2_named 108 = .ok (.ireturn, 1) := by decide +kernel
theorem dX2_isDigit_0 : decode cX2_isDigit 0 = .ok (.iload_n 0, 1) := by decide +kernel
theorem dX2_isDigit_1 : decode cX2_isDigit 1 = .ok (.bipush 48, 2) := by decide +kernel
theorem dX2_isDigit_3 : decode cX2_isDigit 3 = .ok (.if_icmp .lt 13, 3) := by decide +kernel
theorem dX2_isDigit_6 : decode cX2_isDigit 6 = .ok (.iload_n 0, 1) := by decide +kernel
theorem dX2_isDigit_7 : decode cX2_isDigit 7 = .ok (.bipush 57, 2) := by decide +kernel
theorem dX2_isDigit_9 : decode cX2_isDigit 9 = .ok (.if_icmp .gt 7, 3) := by decide +kernel
theorem dX2_isDigit_12 : decode cX2_isDigit 12 = .ok (.iconst 1, 1) := by decide +kernel
theorem dX2_isDigit_13 : decode cX2_isDigit 13 = .ok (.goto 4, 3) := by decide +kernel
theorem dX2_isDigit_16 : decode cX2_isDigit 16 = .ok (.iconst 0, 1) := by decide +kernel
theorem dX2_isDigit_17 : decode cX2_isDigit 17 = .ok (.ireturn, 1) := by decide +kernel
theorem dX2_rankOf_0 : decode cX2_rankOf 0 = .ok (.iload_n 0, 1) := by decide +kernel
theorem dX2_rankOf_1 : decode cX2_rankOf 1 = .ok (.lookupswitch 101 #[(37, 99), (38, 93), (42, 99), (43, 97), (45, 97), (47, 99), (60, 95), (61, 95), (62, 95), (124, 91)], 91) := by decide +kernel
theorem dX2_rankOf_92 : decode cX2_rankOf 92 = .ok (.iconst 0, 1) := by decide +kernel
theorem dX2_rankOf_93 : decode cX2_rankOf 93 = .ok (.ireturn, 1) := by decide +kernel
theorem dX2_rankOf_94 : decode cX2_rankOf 94 = .ok (.iconst 1, 1) := by decide +kernel
theorem dX2_rankOf_95 : decode cX2_rankOf 95 = .ok (.ireturn, 1) := by decide +kernel
theorem dX2_rankOf_96 : decode cX2_rankOf 96 = .ok (.iconst 2, 1) := by decide +kernel
theorem dX2_rankOf_97 : decode cX2_rankOf 97 = .ok (.ireturn, 1) := by decide +kernel
theorem dX2_rankOf_98 : decode cX2_rankOf 98 = .ok (.iconst 3, 1) := by decide +kernel
theorem dX2_rankOf_99 : decode cX2_rankOf 99 = .ok (.ireturn, 1) := by decide +kernel
theorem dX2_rankOf_100 : decode cX2_rankOf 100 = .ok (.iconst 4, 1) := by decide +kernel
theorem dX2_rankOf_101 : decode cX2_rankOf 101 = .ok (.ireturn, 1) := by decide +kernel
theorem dX2_rankOf_102 : decode cX2_rankOf 102 = .ok (.iconst (-1), 1) := by decide +kernel
theorem dX2_rankOf_103 : decode cX2_rankOf 103 = .ok (.ireturn, 1) := by decide +kernel
theorem dX2_joined_0 : decode cX2_joined 0 = .ok (.iload_n 0, 1) := by decide +kernel
theorem dX2_joined_1 : decode cX2_joined 1 = .ok (.lookupswitch 168 #[(38, 97), (42, 152), (43, 144), (45, 148), (47, 156), (60, 111), (61, 122), (62, 133), (124, 83)], 83) := by decide +kernel
theorem dX2_joined_84 : decode cX2_joined 84 = .ok (.iload_n 1, 1) := by decide +kernel
theorem dX2_joined_85 : decode cX2_joined 85 = .ok (.ifCond .ne 7, 3) := by decide +kernel
theorem dX2_joined_88 : decode cX2_joined 88 = .ok (.iload_n 2, 1) := by decide +kernel
theorem dX2_joined_89 : decode cX2_joined 89 = .ok (.ifCond .eq 7, 3) := by decide +kernel
theorem dX2_joined_92 : decode cX2_joined 92 = .ok (.iconst 1, 1) := by decide +kernel
theorem dX2_joined_93 : decode cX2_joined 93 = .ok (.goto 4, 3) := by decide +kernel
theorem dX2_joined_96 : decode cX2_joined 96 = .ok (.iconst 0, 1) := by decide +kernel
theorem dX2_joined_97 : decode cX2_joined 97 = .ok (.ireturn, 1) := by decide +kernel
theorem dX2_joined_98 : decode cX2_joined 98 = .ok (.iload_n 1, 1) := by decide +kernel
theorem dX2_joined_99 : decode cX2_joined 99 = .ok (.ifCond .eq 11, 3) := by decide +kernel
theorem dX2_joined_102 : decode cX2_joined 102 = .ok (.iload_n 2, 1) := by decide +kernel
theorem dX2_joined_103 : decode cX2_joined 103 = .ok (.ifCond .eq 7, 3) := by decide +kernel
theorem dX2_joined_106 : decode cX2_joined 106 = .ok (.iconst 1, 1) := by decide +kernel
theorem dX2_joined_107 : decode cX2_joined 107 = .ok (.goto 4, 3) := by decide +kernel
theorem dX2_joined_110 : decode cX2_joined 110 = .ok (.iconst 0, 1) := by decide +kernel
theorem dX2_joined_111 : decode cX2_joined 111 = .ok (.ireturn, 1) := by decide +kernel
theorem dX2_joined_112 : decode cX2_joined 112 = .ok (.iload_n 1, 1) := by decide +kernel
theorem dX2_joined_113 : decode cX2_joined 113 = .ok (.iload_n 2, 1) := by decide +kernel
theorem dX2_joined_114 : decode cX2_joined 114 = .ok (.if_icmp .ge 7, 3) := by decide +kernel
theorem dX2_joined_117 : decode cX2_joined 117 = .ok (.iconst 1, 1) := by decide +kernel
theorem dX2_joined_118 : decode cX2_joined 118 = .ok (.goto 4, 3) := by decide +kernel
theorem dX2_joined_121 : decode cX2_joined 121 = .ok (.iconst 0, 1) := by decide +kernel
theorem dX2_joined_122 : decode cX2_joined 122 = .ok (.ireturn, 1) := by decide +kernel
theorem dX2_joined_123 : decode cX2_joined 123 = .ok (.iload_n 1, 1) := by decide +kernel
theorem dX2_joined_124 : decode cX2_joined 124 = .ok (.iload_n 2, 1) := by decide +kernel
theorem dX2_joined_125 : decode cX2_joined 125 = .ok (.if_icmp .ne 7, 3) := by decide +kernel
theorem dX2_joined_128 : decode cX2_joined 128 = .ok (.iconst 1, 1) := by decide +kernel
theorem dX2_joined_129 : decode cX2_joined 129 = .ok (.goto 4, 3) := by decide +kernel
theorem dX2_joined_132 : decode cX2_joined 132 = .ok (.iconst 0, 1) := by decide +kernel
theorem dX2_joined_133 : decode cX2_joined 133 = .ok (.ireturn, 1) := by decide +kernel
theorem dX2_joined_134 : decode cX2_joined 134 = .ok (.iload_n 1, 1) := by decide +kernel
theorem dX2_joined_135 : decode cX2_joined 135 = .ok (.iload_n 2, 1) := by decide +kernel
theorem dX2_joined_136 : decode cX2_joined 136 = .ok (.if_icmp .le 7, 3) := by decide +kernel
theorem dX2_joined_139 : decode cX2_joined 139 = .ok (.iconst 1, 1) := by decide +kernel
theorem dX2_joined_140 : decode cX2_joined 140 = .ok (.goto 4, 3) := by decide +kernel
theorem dX2_joined_143 : decode cX2_joined 143 = .ok (.iconst 0, 1) := by decide +kernel
theorem dX2_joined_144 : decode cX2_joined 144 = .ok (.ireturn, 1) := by decide +kernel
theorem dX2_joined_145 : decode cX2_joined 145 = .ok (.iload_n 1, 1) := by decide +kernel
theorem dX2_joined_146 : decode cX2_joined 146 = .ok (.iload_n 2, 1) := by decide +kernel
theorem dX2_joined_147 : decode cX2_joined 147 = .ok (.iadd, 1) := by decide +kernel
theorem dX2_joined_148 : decode cX2_joined 148 = .ok (.ireturn, 1) := by decide +kernel
theorem dX2_joined_149 : decode cX2_joined 149 = .ok (.iload_n 1, 1) := by decide +kernel
theorem dX2_joined_150 : decode cX2_joined 150 = .ok (.iload_n 2, 1) := by decide +kernel
theorem dX2_joined_151 : decode cX2_joined 151 = .ok (.isub, 1) := by decide +kernel
theorem dX2_joined_152 : decode cX2_joined 152 = .ok (.ireturn, 1) := by decide +kernel
theorem dX2_joined_153 : decode cX2_joined 153 = .ok (.iload_n 1, 1) := by decide +kernel
theorem dX2_joined_154 : decode cX2_joined 154 = .ok (.iload_n 2, 1) := by decide +kernel
theorem dX2_joined_155 : decode cX2_joined 155 = .ok (.imul, 1) := by decide +kernel
theorem dX2_joined_156 : decode cX2_joined 156 = .ok (.ireturn, 1) := by decide +kernel
theorem dX2_joined_157 : decode cX2_joined 157 = .ok (.iload_n 2, 1) := by decide +kernel
theorem dX2_joined_158 : decode cX2_joined 158 = .ok (.ifCond .ne 7, 3) := by decide +kernel
theorem dX2_joined_161 : decode cX2_joined 161 = .ok (.iconst 0, 1) := by decide +kernel
theorem dX2_joined_162 : decode cX2_joined 162 = .ok (.goto 6, 3) := by decide +kernel
theorem dX2_joined_165 : decode cX2_joined 165 = .ok (.iload_n 1, 1) := by decide +kernel
theorem dX2_joined_166 : decode cX2_joined 166 = .ok (.iload_n 2, 1) := by decide +kernel
theorem dX2_joined_167 : decode cX2_joined 167 = .ok (.idiv, 1) := by decide +kernel
theorem dX2_joined_168 : decode cX2_joined 168 = .ok (.ireturn, 1) := by decide +kernel
theorem dX2_joined_169 : decode cX2_joined 169 = .ok (.iload_n 2, 1) := by decide +kernel
theorem dX2_joined_170 : decode cX2_joined 170 = .ok (.ifCond .ne 7, 3) := by decide +kernel
theorem dX2_joined_173 : decode cX2_joined 173 = .ok (.iconst 0, 1) := by decide +kernel
theorem dX2_joined_174 : decode cX2_joined 174 = .ok (.goto 6, 3) := by decide +kernel
theorem dX2_joined_177 : decode cX2_joined 177 = .ok (.iload_n 1, 1) := by decide +kernel
theorem dX2_joined_178 : decode cX2_joined 178 = .ok (.iload_n 2, 1) := by decide +kernel
theorem dX2_joined_179 : decode cX2_joined 179 = .ok (.irem, 1) := by decide +kernel
theorem dX2_joined_180 : decode cX2_joined 180 = .ok (.ireturn, 1) := by decide +kernel
theorem dX3_init_0 : decode cX3_init 0 = .ok (.aload_n 0, 1) := by decide +kernel
theorem dX3_init_1 : decode cX3_init 1 = .ok (.invokespecial 5, 3) := by decide +kernel
theorem dX3_init_4 : decode cX3_init 4 = .ok (.aload_n 0, 1) := by decide +kernel
theorem dX3_init_5 : decode cX3_init 5 = .ok (.bipush 14, 2) := by decide +kernel
theorem dX3_init_7 : decode cX3_init 7 = .ok (.bipush 14, 2) := by decide +kernel
theorem dX3_init_9 : decode cX3_init 9 = .ok (.multianewarray 11 2, 4) := by decide +kernel
theorem dX3_init_13 : decode cX3_init 13 = .ok (.putfield 13, 3) := by decide +kernel
theorem dX3_init_16 : decode cX3_init 16 = .ok (.aload_n 0, 1) := by decide +kernel
theorem dX3_init_17 : decode cX3_init 17 = .ok (.bipush 14, 2) := by decide +kernel
theorem dX3_init_19 : decode cX3_init 19 = .ok (.newarray .int, 2) := by decide +kernel
theorem dX3_init_21 : decode cX3_init 21 = .ok (.putfield 16, 3) := by decide +kernel
theorem dX3_init_24 : decode cX3_init 24 = .ok (.aload_n 0, 1) := by decide +kernel
theorem dX3_init_25 : decode cX3_init 25 = .ok (.bipush 14, 2) := by decide +kernel
theorem dX3_init_27 : decode cX3_init 27 = .ok (.newarray .int, 2) := by decide +kernel
theorem dX3_init_29 : decode cX3_init 29 = .ok (.putfield 20, 3) := by decide +kernel
theorem dX3_init_32 : decode cX3_init 32 = .ok (.aload_n 0, 1) := by decide +kernel
theorem dX3_init_33 : decode cX3_init 33 = .ok (.bipush 14, 2) := by decide +kernel
theorem dX3_init_35 : decode cX3_init 35 = .ok (.newarray .int, 2) := by decide +kernel
theorem dX3_init_37 : decode cX3_init 37 = .ok (.putfield 23, 3) := by decide +kernel
theorem dX3_init_40 : decode cX3_init 40 = .ok (.aload_n 0, 1) := by decide +kernel
theorem dX3_init_41 : decode cX3_init 41 = .ok (.bipush 14, 2) := by decide +kernel
theorem dX3_init_43 : decode cX3_init 43 = .ok (.newarray .int, 2) := by decide +kernel
theorem dX3_init_45 : decode cX3_init 45 = .ok (.putfield 26, 3) := by decide +kernel
theorem dX3_init_48 : decode cX3_init 48 = .ok (.aload_n 0, 1) := by decide +kernel
theorem dX3_init_49 : decode cX3_init 49 = .ok (.sipush 128, 3) := by decide +kernel
theorem dX3_init_52 : decode cX3_init 52 = .ok (.newarray .int, 2) := by decide +kernel
theorem dX3_init_54 : decode cX3_init 54 = .ok (.putfield 29, 3) := by decide +kernel
theorem dX3_init_57 : decode cX3_init 57 = .ok (.aload_n 0, 1) := by decide +kernel
theorem dX3_init_58 : decode cX3_init 58 = .ok (.sipush 128, 3) := by decide +kernel
theorem dX3_init_61 : decode cX3_init 61 = .ok (.newarray .int, 2) := by decide +kernel
theorem dX3_init_63 : decode cX3_init 63 = .ok (.putfield 32, 3) := by decide +kernel
theorem dX3_init_66 : decode cX3_init 66 = .ok (.aload_n 0, 1) := by decide +kernel
theorem dX3_init_67 : decode cX3_init 67 = .ok (.sipush 128, 3) := by decide +kernel
theorem dX3_init_70 : decode cX3_init 70 = .ok (.newarray .int, 2) := by decide +kernel
theorem dX3_init_72 : decode cX3_init 72 = .ok (.putfield 35, 3) := by decide +kernel
theorem dX3_init_75 : decode cX3_init 75 = .ok (.aload_n 0, 1) := by decide +kernel
theorem dX3_init_76 : decode cX3_init 76 = .ok (.sipush 128, 3) := by decide +kernel
theorem dX3_init_79 : decode cX3_init 79 = .ok (.newarray .int, 2) := by decide +kernel
theorem dX3_init_81 : decode cX3_init 81 = .ok (.putfield 38, 3) := by decide +kernel
theorem dX3_init_84 : decode cX3_init 84 = .ok (.return_, 1) := by decide +kernel
theorem dX3_lay_0 : decode cX3_lay 0 = .ok (.aload_n 0, 1) := by decide +kernel
theorem dX3_lay_1 : decode cX3_lay 1 = .ok (.iload_n 3, 1) := by decide +kernel
theorem dX3_lay_2 : decode cX3_lay 2 = .ok (.putfield 41, 3) := by decide +kernel
theorem dX3_lay_5 : decode cX3_lay 5 = .ok (.aload_n 0, 1) := by decide +kernel
theorem dX3_lay_6 : decode cX3_lay 6 = .ok (.iload 4, 2) := by decide +kernel
theorem dX3_lay_8 : decode cX3_lay 8 = .ok (.iload_n 3, 1) := by decide +kernel
theorem dX3_lay_9 : decode cX3_lay 9 = .ok (.iand, 1) := by decide +kernel
theorem dX3_lay_10 : decode cX3_lay 10 = .ok (.putfield 45, 3) := by decide +kernel
theorem dX3_lay_13 : decode cX3_lay 13 = .ok (.aload_n 0, 1) := by decide +kernel
theorem dX3_lay_14 : decode cX3_lay 14 = .ok (.aload_n 0, 1) := by decide +kernel
theorem dX3_lay_15 : decode cX3_lay 15 = .ok (.getfield 45, 3) := by decide +kernel
theorem dX3_lay_18 : decode cX3_lay 18 = .ok (.aload_n 1, 1) := by decide +kernel
theorem dX3_lay_19 : decode cX3_lay 19 = .ok (.invokevirtual 48, 3) := by decide +kernel
theorem dX3_lay_22 : decode cX3_lay 22 = .ok (.iload_n 3, 1) := by decide +kernel
theorem dX3_lay_23 : decode cX3_lay 23 = .ok (.iand, 1) := by decide +kernel
theorem dX3_lay_24 : decode cX3_lay 24 = .ok (.ior, 1) := by decide +kernel
theorem dX3_lay_25 : decode cX3_lay 25 = .ok (.putfield 54, 3) := by decide +kernel
theorem dX3_lay_28 : decode cX3_lay 28 = .ok (.iconst 0, 1) := by decide +kernel
theorem dX3_lay_29 : decode cX3_lay 29 = .ok (.istore 6, 2) := by decide +kernel
theorem dX3_lay_31 : decode cX3_lay 31 = .ok (.iload 6, 2) := by decide +kernel
theorem dX3_lay_33 : decode cX3_lay 33 = .ok (.bipush 14, 2) := by decide +kernel
theorem dX3_lay_35 : decode cX3_lay 35 = .ok (.if_icmp .ge 48, 3) := by decide +kernel
theorem dX3_lay_38 : decode cX3_lay 38 = .ok (.aload_n 0, 1) := by decide +kernel
theorem dX3_lay_39 : decode cX3_lay 39 = .ok (.getfield 16, 3) := by decide +kernel
theorem dX3_lay_42 : decode cX3_lay 42 = .ok (.iload 6, 2) := by decide +kernel
theorem dX3_lay_44 : decode cX3_lay 44 = .ok (.iconst 0, 1) := by decide +kernel
theorem dX3_lay_45 : decode cX3_lay 45 = .ok (.iastore, 1) := by decide +kernel
theorem dX3_lay_46 : decode cX3_lay 46 = .ok (.aload_n 0, 1) := by decide +kernel
theorem dX3_lay_47 : decode cX3_lay 47 = .ok (.getfield 20, 3) := by decide +kernel
theorem dX3_lay_50 : decode cX3_lay 50 = .ok (.iload 6, 2) := by decide +kernel
theorem dX3_lay_52 : decode cX3_lay 52 = .ok (.aload_n 0, 1) := by decide +kernel
theorem dX3_lay_53 : decode cX3_lay 53 = .ok (.iload 6, 2) := by decide +kernel
theorem dX3_lay_55 : decode cX3_lay 55 = .ok (.invokevirtual 57, 3) := by decide +kernel
theorem dX3_lay_58 : decode cX3_lay 58 = .ok (.ifCond .eq 17, 3) := by decide +kernel
theorem dX3_lay_61 : decode cX3_lay 61 = .ok (.aload_n 2, 1) := by decide +kernel
theorem dX3_lay_62 : decode cX3_lay 62 = .ok (.aload_n 1, 1) := by decide +kernel
theorem dX3_lay_63 : decode cX3_lay 63 = .ok (.iload 6, 2) := by decide +kernel
theorem dX3_lay_65 : decode cX3_lay 65 = .ok (.iload 4, 2) := by decide +kernel
theorem dX3_lay_67 : decode cX3_lay 67 = .ok (.iload 5, 2) := by decide +kernel
theorem dX3_lay_69 : decode cX3_lay 69 = .ok (.invokevirtual 61, 3) := by decide +kernel
theorem dX3_lay_72 : decode cX3_lay 72 = .ok (.goto 4, 3) := by decide +kernel
theorem dX3_lay_75 : decode cX3_lay 75 = .ok (.iconst (-1), 1) := by decide +kernel
theorem dX3_lay_76 : decode cX3_lay 76 = .ok (.iastore, 1) := by decide +kernel
theorem dX3_lay_77 : decode cX3_lay 77 = .ok (.iinc 6 1, 3) := by decide +kernel
theorem dX3_lay_80 : decode cX3_lay 80 = .ok (.goto (-49), 3) := by decide +kernel
theorem dX3_lay_83 : decode cX3_lay 83 = .ok (.iconst 0, 1) := by decide +kernel
theorem dX3_lay_84 : decode cX3_lay 84 = .ok (.istore 6, 2) := by decide +kernel
theorem dX3_lay_86 : decode cX3_lay 86 = .ok (.iload 6, 2) := by decide +kernel
theorem dX3_lay_88 : decode cX3_lay 88 = .ok (.aload_n 1, 1) := by decide +kernel
theorem dX3_lay_89 : decode cX3_lay 89 = .ok (.getfield 67, 3) := by decide +kernel
theorem dX3_lay_92 : decode cX3_lay 92 = .ok (.if_icmp .ge 20, 3) := by decide +kernel
theorem dX3_lay_95 : decode cX3_lay 95 = .ok (.aload_n 0, 1) := by decide +kernel
theorem dX3_lay_96 : decode cX3_lay 96 = .ok (.aload_n 1, 1) := by decide +kernel
theorem dX3_lay_97 : decode cX3_lay 97 = .ok (.getfield 70, 3) := by decide +kernel
theorem dX3_lay_100 : decode cX3_lay 100 = .ok (.iload 6, 2) := by decide +kernel
theorem dX3_lay_102 : decode cX3_lay 102 = .ok (.iaload, 1) := by decide +kernel
theorem dX3_lay_103 : decode cX3_lay 103 = .ok (.invokevirtual 73, 3) := by decide +kernel
theorem dX3_lay_106 : decode cX3_lay 106 = .ok (.iinc 6 1, 3) := by decide +kernel
theorem dX3_lay_109 : decode cX3_lay 109 = .ok (.goto (-23), 3) := by decide +kernel
theorem dX3_lay_112 : decode cX3_lay 112 = .ok (.aload_n 1, 1) := by decide +kernel
theorem dX3_lay_113 : decode cX3_lay 113 = .ok (.iload 5, 2) := by decide +kernel
theorem dX3_lay_115 : decode cX3_lay 115 = .ok (.invokevirtual 77, 3) := by decide +kernel
theorem dX3_lay_118 : decode cX3_lay 118 = .ok (.ifCond .eq 14, 3) := by decide +kernel
theorem dX3_lay_121 : decode cX3_lay 121 = .ok (.aload_n 0, 1) := by decide +kernel
theorem dX3_lay_122 : decode cX3_lay 122 = .ok (.aload_n 1, 1) := by decide +kernel
theorem dX3_lay_123 : decode cX3_lay 123 = .ok (.getfield 80, 3) := by decide +kernel
theorem dX3_lay_126 : decode cX3_lay 126 = .ok (.iload 5, 2) := by decide +kernel
theorem dX3_lay_128 : decode cX3_lay 128 = .ok (.iaload, 1) := by decide +kernel
theorem dX3_lay_129 : decode cX3_lay 129 = .ok (.invokevirtual 73, 3) := by decide +kernel
theorem dX3_lay_132 : decode cX3_lay 132 = .ok (.iconst 0, 1) := by decide +kernel
theorem dX3_lay_133 : decode cX3_lay 133 = .ok (.istore 6, 2) := by decide +kernel
theorem dX3_lay_135 : decode cX3_lay 135 = .ok (.iload 6, 2) := by decide +kernel
theorem dX3_lay_137 : decode cX3_lay 137 = .ok (.bipush 14, 2) := by decide +kernel
theorem dX3_lay_139 : decode cX3_lay 139 = .ok (.if_icmp .ge 15, 3) := by decide +kernel
theorem dX3_lay_142 : decode cX3_lay 142 = .ok (.aload_n 0, 1) := by decide +kernel
theorem dX3_lay_143 : decode cX3_lay 143 = .ok (.iload 6, 2) := by decide +kernel
theorem dX3_lay_145 : decode cX3_lay 145 = .ok (.invokevirtual 83, 3) := by decide +kernel
theorem dX3_lay_148 : decode cX3_lay 148 = .ok (.iinc 6 1, 3) := by decide +kernel
theorem dX3_lay_151 : decode cX3_lay 151 = .ok (.goto (-16), 3) := by decide +kernel
theorem dX3_lay_154 : decode cX3_lay 154 = .ok (.iconst 0, 1) := by decide +kernel
theorem dX3_lay_155 : decode cX3_lay 155 = .ok (.istore 6, 2) := by decide +kernel
theorem dX3_lay_157 : decode cX3_lay 157 = .ok (.iload 6, 2) := by decide +kernel
theorem dX3_lay_159 : decode cX3_lay 159 = .ok (.bipush 14, 2) := by decide +kernel
theorem dX3_lay_161 : decode cX3_lay 161 = .ok (.if_icmp .ge 19, 3) := by decide +kernel
theorem dX3_lay_164 : decode cX3_lay 164 = .ok (.aload_n 0, 1) := by decide +kernel
theorem dX3_lay_165 : decode cX3_lay 165 = .ok (.iload 6, 2) := by decide +kernel
theorem dX3_lay_167 : decode cX3_lay 167 = .ok (.aload_n 1, 1) := by decide +kernel
theorem dX3_lay_168 : decode cX3_lay 168 = .ok (.getfield 86, 3) := by decide +kernel
theorem dX3_lay_171 : decode cX3_lay 171 = .ok (.invokevirtual 89, 3) := by decide +kernel
theorem dX3_lay_174 : decode cX3_lay 174 = .ok (.iinc 6 1, 3) := by decide +kernel
theorem dX3_lay_177 : decode cX3_lay 177 = .ok (.goto (-20), 3) := by decide +kernel
theorem dX3_lay_180 : decode cX3_lay 180 = .ok (.aload_n 0, 1) := by decide +kernel
theorem dX3_lay_181 : decode cX3_lay 181 = .ok (.getfield 23, 3) := by decide +kernel
theorem dX3_lay_184 : decode cX3_lay 184 = .ok (.iconst 0, 1) := by decide +kernel
theorem dX3_lay_185 : decode cX3_lay 185 = .ok (.aload_n 0, 1) := by decide +kernel
