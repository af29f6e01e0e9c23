theorem dJ6_bitCount_0f7a4_0 : decode cJ6_bitCount_0f7a4 0 = .ok (.iload_n 0, 1) := by decide +kernel
theorem dJ6_bitCount_0f7a4_1 : decode cJ6_bitCount_0f7a4 1 = .ok (.iload_n 0, 1) := by decide +kernel
theorem dJ6_bitCount_0f7a4_2 : decode cJ6_bitCount_0f7a4 2 = .ok (.iconst 1, 1) := by decide +kernel
theorem dJ6_bitCount_0f7a4_3 : decode cJ6_bitCount_0f7a4 3 = .ok (.iushr, 1) := by decide +kernel
theorem dJ6_bitCount_0f7a4_4 : decode cJ6_bitCount_0f7a4 4 = .ok (.ldc_w 265, 3) := by decide +kernel
theorem dJ6_bitCount_0f7a4_7 : decode cJ6_bitCount_0f7a4 7 = .ok (.iand, 1) := by decide +kernel
theorem dJ6_bitCount_0f7a4_8 : decode cJ6_bitCount_0f7a4 8 = .ok (.isub, 1) := by decide +kernel
theorem dJ6_bitCount_0f7a4_9 : decode cJ6_bitCount_0f7a4 9 = .ok (.istore_n 0, 1) := by decide +kernel
theorem dJ6_bitCount_0f7a4_10 : decode cJ6_bitCount_0f7a4 10 = .ok (.iload_n 0, 1) := by decide +kernel
theorem dJ6_bitCount_0f7a4_11 : decode cJ6_bitCount_0f7a4 11 = .ok (.ldc_w 266, 3) := by decide +kernel
theorem dJ6_bitCount_0f7a4_14 : decode cJ6_bitCount_0f7a4 14 = .ok (.iand, 1) := by decide +kernel
theorem dJ6_bitCount_0f7a4_15 : decode cJ6_bitCount_0f7a4 15 = .ok (.iload_n 0, 1) := by decide +kernel
theorem dJ6_bitCount_0f7a4_16 : decode cJ6_bitCount_0f7a4 16 = .ok (.iconst 2, 1) := by decide +kernel
theorem dJ6_bitCount_0f7a4_17 : decode cJ6_bitCount_0f7a4 17 = .ok (.iushr, 1) := by decide +kernel
theorem dJ6_bitCount_0f7a4_18 : decode cJ6_bitCount_0f7a4 18 = .ok (.ldc_w 266, 3) := by decide +kernel
theorem dJ6_bitCount_0f7a4_21 : decode cJ6_bitCount_0f7a4 21 = .ok (.iand, 1) := by decide +kernel
theorem dJ6_bitCount_0f7a4_22 : decode cJ6_bitCount_0f7a4 22 = .ok (.iadd, 1) := by decide +kernel
theorem dJ6_bitCount_0f7a4_23 : decode cJ6_bitCount_0f7a4 23 = .ok (.istore_n 0, 1) := by decide +kernel
theorem dJ6_bitCount_0f7a4_24 : decode cJ6_bitCount_0f7a4 24 = .ok (.iload_n 0, 1) := by decide +kernel
theorem dJ6_bitCount_0f7a4_25 : decode cJ6_bitCount_0f7a4 25 = .ok (.iload_n 0, 1) := by decide +kernel
theorem dJ6_bitCount_0f7a4_26 : decode cJ6_bitCount_0f7a4 26 = .ok (.iconst 4, 1) := by decide +kernel
theorem dJ6_bitCount_0f7a4_27 : decode cJ6_bitCount_0f7a4 27 = .ok (.iushr, 1) := by decide +kernel
theorem dJ6_bitCount_0f7a4_28 : decode cJ6_bitCount_0f7a4 28 = .ok (.iadd, 1) := by decide +kernel
theorem dJ6_bitCount_0f7a4_29 : decode cJ6_bitCount_0f7a4 29 = .ok (.ldc_w 267, 3) := by decide +kernel
theorem dJ6_bitCount_0f7a4_32 : decode cJ6_bitCount_0f7a4 32 = .ok (.iand, 1) := by decide +kernel
theorem dJ6_bitCount_0f7a4_33 : decode cJ6_bitCount_0f7a4 33 = .ok (.istore_n 0, 1) := by decide +kernel
theorem dJ6_bitCount_0f7a4_34 : decode cJ6_bitCount_0f7a4 34 = .ok (.iload_n 0, 1) := by decide +kernel
theorem dJ6_bitCount_0f7a4_35 : decode cJ6_bitCount_0f7a4 35 = .ok (.iload_n 0, 1) := by decide +kernel
theorem dJ6_bitCount_0f7a4_36 : decode cJ6_bitCount_0f7a4 36 = .ok (.bipush 8, 2) := by decide +kernel
theorem dJ6_bitCount_0f7a4_38 : decode cJ6_bitCount_0f7a4 38 = .ok (.iushr, 1) := by decide +kernel
theorem dJ6_bitCount_0f7a4_39 : decode cJ6_bitCount_0f7a4 39 = .ok (.iadd, 1) := by decide +kernel
theorem dJ6_bitCount_0f7a4_40 : decode cJ6_bitCount_0f7a4 40 = .ok (.istore_n 0, 1) := by decide +kernel
theorem dJ6_bitCount_0f7a4_41 : decode cJ6_bitCount_0f7a4 41 = .ok (.iload_n 0, 1) := by decide +kernel
theorem dJ6_bitCount_0f7a4_42 : decode cJ6_bitCount_0f7a4 42 = .ok (.iload_n 0, 1) := by decide +kernel
theorem dJ6_bitCount_0f7a4_43 : decode cJ6_bitCount_0f7a4 43 = .ok (.bipush 16, 2) := by decide +kernel
theorem dJ6_bitCount_0f7a4_45 : decode cJ6_bitCount_0f7a4 45 = .ok (.iushr, 1) := by decide +kernel
theorem dJ6_bitCount_0f7a4_46 : decode cJ6_bitCount_0f7a4 46 = .ok (.iadd, 1) := by decide +kernel
theorem dJ6_bitCount_0f7a4_47 : decode cJ6_bitCount_0f7a4 47 = .ok (.istore_n 0, 1) := by decide +kernel
theorem dJ6_bitCount_0f7a4_48 : decode cJ6_bitCount_0f7a4 48 = .ok (.iload_n 0, 1) := by decide +kernel
theorem dJ6_bitCount_0f7a4_49 : decode cJ6_bitCount_0f7a4 49 = .ok (.bipush 63, 2) := by decide +kernel
theorem dJ6_bitCount_0f7a4_51 : decode cJ6_bitCount_0f7a4 51 = .ok (.iand, 1) := by decide +kernel
theorem dJ6_bitCount_0f7a4_52 : decode cJ6_bitCount_0f7a4 52 = .ok (.ireturn, 1) := by decide +kernel
theorem dJ9_floorMod_7cf53_0 : decode cJ9_floorMod_7cf53 0 = .ok (.iload_n 0, 1) := by decide +kernel
theorem dJ9_floorMod_7cf53_1 : decode cJ9_floorMod_7cf53 1 = .ok (.iload_n 1, 1) := by decide +kernel
theorem dJ9_floorMod_7cf53_2 : decode cJ9_floorMod_7cf53 2 = .ok (.irem, 1) := by decide +kernel
theorem dJ9_floorMod_7cf53_3 : decode cJ9_floorMod_7cf53 3 = .ok (.istore_n 2, 1) := by decide +kernel
theorem dJ9_floorMod_7cf53_4 : decode cJ9_floorMod_7cf53 4 = .ok (.iload_n 0, 1) := by decide +kernel
theorem dJ9_floorMod_7cf53_5 : decode cJ9_floorMod_7cf53 5 = .ok (.iload_n 1, 1) := by decide +kernel
theorem dJ9_floorMod_7cf53_6 : decode cJ9_floorMod_7cf53 6 = .ok (.ixor, 1) := by decide +kernel
theorem dJ9_floorMod_7cf53_7 : decode cJ9_floorMod_7cf53 7 = .ok (.ifCond .ge 11, 3) := by decide +kernel
theorem dJ9_floorMod_7cf53_10 : decode cJ9_floorMod_7cf53 10 = .ok (.iload_n 2, 1) := by decide +kernel
theorem dJ9_floorMod_7cf53_11 : decode cJ9_floorMod_7cf53 11 = .ok (.ifCond .eq 7, 3) := by decide +kernel
theorem dJ9_floorMod_7cf53_14 : decode cJ9_floorMod_7cf53 14 = .ok (.iload_n 2, 1) := by decide +kernel
theorem dJ9_floorMod_7cf53_15 : decode cJ9_floorMod_7cf53 15 = .ok (.iload_n 1, 1) := by decide +kernel
theorem dJ9_floorMod_7cf53_16 : decode cJ9_floorMod_7cf53 16 = .ok (.iadd, 1) := by decide +kernel
theorem dJ9_floorMod_7cf53_17 : decode cJ9_floorMod_7cf53 17 = .ok (.ireturn, 1) := by decide +kernel
theorem dJ9_floorMod_7cf53_18 : decode cJ9_floorMod_7cf53 18 = .ok (.iload_n 2, 1) := by decide +kernel
theorem dJ9_floorMod_7cf53_19 : decode cJ9_floorMod_7cf53 19 = .ok (.ireturn, 1) := by decide +kernel
theorem dX0_forget_0 : decode cX0_forget 0 = .ok (.aload_n 0, 1) := by decide +kernel
theorem dX0_forget_1 : decode cX0_forget 1 = .ok (.iconst 0, 1) := by decide +kernel
theorem dX0_forget_2 : decode cX0_forget 2 = .ok (.putfield 9, 3) := by decide +kernel
theorem dX0_forget_5 : decode cX0_forget 5 = .ok (.return_, 1) := by decide +kernel
theorem dX0_forgetFirst_0 : decode cX0_forgetFirst 0 = .ok (.aload_n 0, 1) := by decide +kernel
theorem dX0_forgetFirst_1 : decode cX0_forgetFirst 1 = .ok (.getfield 17, 3) := by decide +kernel
theorem dX0_forgetFirst_4 : decode cX0_forgetFirst 4 = .ok (.iconst 0, 1) := by decide +kernel
theorem dX0_forgetFirst_5 : decode cX0_forgetFirst 5 = .ok (.aaload, 1) := by decide +kernel
theorem dX0_forgetFirst_6 : decode cX0_forgetFirst 6 = .ok (.astore_n 1, 1) := by decide +kernel
theorem dX0_forgetFirst_7 : decode cX0_forgetFirst 7 = .ok (.iconst 1, 1) := by decide +kernel
theorem dX0_forgetFirst_8 : decode cX0_forgetFirst 8 = .ok (.istore_n 2, 1) := by decide +kernel
theorem dX0_forgetFirst_9 : decode cX0_forgetFirst 9 = .ok (.iload_n 2, 1) := by decide +kernel
theorem dX0_forgetFirst_10 : decode cX0_forgetFirst 10 = .ok (.bipush 14, 2) := by decide +kernel
theorem dX0_forgetFirst_12 : decode cX0_forgetFirst 12 = .ok (.if_icmp .ge 23, 3) := by decide +kernel
theorem dX0_forgetFirst_15 : decode cX0_forgetFirst 15 = .ok (.aload_n 0, 1) := by decide +kernel
theorem dX0_forgetFirst_16 : decode cX0_forgetFirst 16 = .ok (.getfield 17, 3) := by decide +kernel
theorem dX0_forgetFirst_19 : decode cX0_forgetFirst 19 = .ok (.iload_n 2, 1) := by decide +kernel
theorem dX0_forgetFirst_20 : decode cX0_forgetFirst 20 = .ok (.iconst 1, 1) := by decide +kernel
theorem dX0_forgetFirst_21 : decode cX0_forgetFirst 21 = .ok (.isub, 1) := by decide +kernel
theorem dX0_forgetFirst_22 : decode cX0_forgetFirst 22 = .ok (.aload_n 0, 1) := by decide +kernel
theorem dX0_forgetFirst_23 : decode cX0_forgetFirst 23 = .ok (.getfield 17, 3) := by decide +kernel
theorem dX0_forgetFirst_26 : decode cX0_forgetFirst 26 = .ok (.iload_n 2, 1) := by decide +kernel
theorem dX0_forgetFirst_27 : decode cX0_forgetFirst 27 = .ok (.aaload, 1) := by decide +kernel
theorem dX0_forgetFirst_28 : decode cX0_forgetFirst 28 = .ok (.aastore, 1) := by decide +kernel
theorem dX0_forgetFirst_29 : decode cX0_forgetFirst 29 = .ok (.iinc 2 1, 3) := by decide +kernel
theorem dX0_forgetFirst_32 : decode cX0_forgetFirst 32 = .ok (.goto (-23), 3) := by decide +kernel
theorem dX0_forgetFirst_35 : decode cX0_forgetFirst 35 = .ok (.aload_n 0, 1) := by decide +kernel
theorem dX0_forgetFirst_36 : decode cX0_forgetFirst 36 = .ok (.getfield 17, 3) := by decide +kernel
theorem dX0_forgetFirst_39 : decode cX0_forgetFirst 39 = .ok (.bipush 13, 2) := by decide +kernel
theorem dX0_forgetFirst_41 : decode cX0_forgetFirst 41 = .ok (.aload_n 1, 1) := by decide +kernel
theorem dX0_forgetFirst_42 : decode cX0_forgetFirst 42 = .ok (.aastore, 1) := by decide +kernel
theorem dX0_forgetFirst_43 : decode cX0_forgetFirst 43 = .ok (.aload_n 0, 1) := by decide +kernel
theorem dX0_forgetFirst_44 : decode cX0_forgetFirst 44 = .ok (.bipush 13, 2) := by decide +kernel
theorem dX0_forgetFirst_46 : decode cX0_forgetFirst 46 = .ok (.putfield 9, 3) := by decide +kernel
theorem dX0_forgetFirst_49 : decode cX0_forgetFirst 49 = .ok (.return_, 1) := by decide +kernel
theorem dX0_init_0 : decode cX0_init 0 = .ok (.aload_n 0, 1) := by decide +kernel
theorem dX0_init_1 : decode cX0_init 1 = .ok (.invokespecial 3, 3) := by decide +kernel
theorem dX0_init_4 : decode cX0_init 4 = .ok (.aload_n 0, 1) := by decide +kernel
theorem dX0_init_5 : decode cX0_init 5 = .ok (.iconst 0, 1) := by decide +kernel
theorem dX0_init_6 : decode cX0_init 6 = .ok (.putfield 9, 3) := by decide +kernel
theorem dX0_init_9 : decode cX0_init 9 = .ok (.aload_n 0, 1) := by decide +kernel
theorem dX0_init_10 : decode cX0_init 10 = .ok (.bipush 14, 2) := by decide +kernel
theorem dX0_init_12 : decode cX0_init 12 = .ok (.anewarray 15, 3) := by decide +kernel
theorem dX0_init_15 : decode cX0_init 15 = .ok (.putfield 17, 3) := by decide +kernel
theorem dX0_init_18 : decode cX0_init 18 = .ok (.iconst 0, 1) := by decide +kernel
theorem dX0_init_19 : decode cX0_init 19 = .ok (.istore_n 1, 1) := by decide +kernel
theorem dX0_init_20 : decode cX0_init 20 = .ok (.iload_n 1, 1) := by decide +kernel
theorem dX0_init_21 : decode cX0_init 21 = .ok (.bipush 14, 2) := by decide +kernel
theorem dX0_init_23 : decode cX0_init 23 = .ok (.if_icmp .ge 22, 3) := by decide +kernel
theorem dX0_init_26 : decode cX0_init 26 = .ok (.aload_n 0, 1) := by decide +kernel
theorem dX0_init_27 : decode cX0_init 27 = .ok (.getfield 17, 3) := by decide +kernel
theorem dX0_init_30 : decode cX0_init 30 = .ok (.iload_n 1, 1) := by decide +kernel
theorem dX0_init_31 : decode cX0_init 31 = .ok (.new 15, 3) := by decide +kernel
theorem dX0_init_34 : decode cX0_init 34 = .ok (.dup, 1) := by decide +kernel
theorem dX0_init_35 : decode cX0_init 35 = .ok (.invokespecial 21, 3) := by decide +kernel
theorem dX0_init_38 : decode cX0_init 38 = .ok (.aastore, 1) := by decide +kernel
theorem dX0_init_39 : decode cX0_init 39 = .ok (.iinc 1 1, 3) := by decide +kernel
theorem dX0_init_42 : decode cX0_init 42 = .ok (.goto (-22), 3) := by decide +kernel
theorem dX0_init_45 : decode cX0_init 45 = .ok (.return_, 1) := by decide +kernel
theorem dX0_remember_0 : decode cX0_remember 0 = .ok (.aload_n 0, 1) := by decide +kernel
theorem dX0_remember_1 : decode cX0_remember 1 = .ok (.getfield 9, 3) := by decide +kernel
theorem dX0_remember_4 : decode cX0_remember 4 = .ok (.bipush 14, 2) := by decide +kernel
theorem dX0_remember_6 : decode cX0_remember 6 = .ok (.if_icmp .lt 7, 3) := by decide +kernel
theorem dX0_remember_9 : decode cX0_remember 9 = .ok (.aload_n 0, 1) := by decide +kernel
theorem dX0_remember_10 : decode cX0_remember 10 = .ok (.invokevirtual 22, 3) := by decide +kernel
theorem dX0_remember_13 : decode cX0_remember 13 = .ok (.aload_n 0, 1) := by decide +kernel
theorem dX0_remember_14 : decode cX0_remember 14 = .ok (.getfield 17, 3) := by decide +kernel
theorem dX0_remember_17 : decode cX0_remember 17 = .ok (.aload_n 0, 1) := by decide +kernel
theorem dX0_remember_18 : decode cX0_remember 18 = .ok (.getfield 9, 3) := by decide +kernel
theorem dX0_remember_21 : decode cX0_remember 21 = .ok (.aaload, 1) := by decide +kernel
theorem dX0_remember_22 : decode cX0_remember 22 = .ok (.aload_n 1, 1) := by decide +kernel
theorem dX0_remember_23 : decode cX0_remember 23 = .ok (.invokevirtual 25, 3) := by decide +kernel
theorem dX0_remember_26 : decode cX0_remember 26 = .ok (.aload_n 0, 1) := by decide +kernel
theorem dX0_remember_27 : decode cX0_remember 27 = .ok (.dup, 1) := by decide +kernel
theorem dX0_remember_28 : decode cX0_remember 28 = .ok (.getfield 9, 3) := by decide +kernel
theorem dX0_remember_31 : decode cX0_remember 31 = .ok (.iconst 1, 1) := by decide +kernel
theorem dX0_remember_32 : decode cX0_remember 32 = .ok (.iadd, 1) := by decide +kernel
theorem dX0_remember_33 : decode cX0_remember 33 = .ok (.putfield 9, 3) := by decide +kernel
theorem dX0_remember_36 : decode cX0_remember 36 = .ok (.return_, 1) := by decide +kernel
theorem dX0_takeBack_0 : decode cX0_takeBack 0 = .ok (.aload_n 0, 1) := by decide +kernel
theorem dX0_takeBack_1 : decode cX0_takeBack 1 = .ok (.getfield 9, 3) := by decide +kernel
theorem dX0_takeBack_4 : decode cX0_takeBack 4 = .ok (.ifCond .le 26, 3) := by decide +kernel
theorem dX0_takeBack_7 : decode cX0_takeBack 7 = .ok (.aload_n 0, 1) := by decide +kernel
theorem dX0_takeBack_8 : decode cX0_takeBack 8 = .ok (.dup, 1) := by decide +kernel
theorem dX0_takeBack_9 : decode cX0_takeBack 9 = .ok (.getfield 9, 3) := by decide +kernel
theorem dX0_takeBack_12 : decode cX0_takeBack 12 = .ok (.iconst 1, 1) := by decide +kernel
theorem dX0_takeBack_13 : decode cX0_takeBack 13 = .ok (.isub, 1) := by decide +kernel
theorem dX0_takeBack_14 : decode cX0_takeBack 14 = .ok (.putfield 9, 3) := by decide +kernel
theorem dX0_takeBack_17 : decode cX0_takeBack 17 = .ok (.aload_n 1, 1) := by decide +kernel
theorem dX0_takeBack_18 : decode cX0_takeBack 18 = .ok (.aload_n 0, 1) := by decide +kernel
theorem dX0_takeBack_19 : decode cX0_takeBack 19 = .ok (.getfield 17, 3) := by decide +kernel
theorem dX0_takeBack_22 : decode cX0_takeBack 22 = .ok (.aload_n 0, 1) := by decide +kernel
theorem dX0_takeBack_23 : decode cX0_takeBack 23 = .ok (.getfield 9, 3) := by decide +kernel
theorem dX0_takeBack_26 : decode cX0_takeBack 26 = .ok (.aaload, 1) := by decide +kernel
theorem dX0_takeBack_27 : decode cX0_takeBack 27 = .ok (.invokevirtual 25, 3) := by decide +kernel
theorem dX0_takeBack_30 : decode cX0_takeBack 30 = .ok (.return_, 1) := by decide +kernel
theorem dX1_allReached_0 : decode cX1_allReached 0 = .ok (.iconst 0, 1) := by decide +kernel
theorem dX1_allReached_1 : decode cX1_allReached 1 = .ok (.istore_n 1, 1) := by decide +kernel
theorem dX1_allReached_2 : decode cX1_allReached 2 = .ok (.iload_n 1, 1) := by decide +kernel
theorem dX1_allReached_3 : decode cX1_allReached 3 = .ok (.iconst 5, 1) := by decide +kernel
theorem dX1_allReached_4 : decode cX1_allReached 4 = .ok (.if_icmp .ge 26, 3) := by decide +kernel
theorem dX1_allReached_7 : decode cX1_allReached 7 = .ok (.aload_n 0, 1) := by decide +kernel
theorem dX1_allReached_8 : decode cX1_allReached 8 = .ok (.getfield 23, 3) := by decide +kernel
theorem dX1_allReached_11 : decode cX1_allReached 11 = .ok (.iload_n 1, 1) := by decide +kernel
theorem dX1_allReached_12 : decode cX1_allReached 12 = .ok (.iaload, 1) := by decide +kernel
theorem dX1_allReached_13 : decode cX1_allReached 13 = .ok (.bipush 31, 2) := by decide +kernel
theorem dX1_allReached_15 : decode cX1_allReached 15 = .ok (.ishr, 1) := by decide +kernel
theorem dX1_allReached_16 : decode cX1_allReached 16 = .ok (.iconst 1, 1) := by decide +kernel
theorem dX1_allReached_17 : decode cX1_allReached 17 = .ok (.iand, 1) := by decide +kernel
theorem dX1_allReached_18 : decode cX1_allReached 18 = .ok (.iconst 1, 1) := by decide +kernel
theorem dX1_allReached_19 : decode cX1_allReached 19 = .ok (.if_icmp .ne 5, 3) := by decide +kernel
theorem dX1_allReached_22 : decode cX1_allReached 22 = .ok (.iconst 1, 1) := by decide +kernel
theorem dX1_allReached_23 : decode cX1_allReached 23 = .ok (.ireturn, 1) := by decide +kernel
theorem dX1_allReached_24 : decode cX1_allReached 24 = .ok (.iinc 1 1, 3) := by decide +kernel
theorem dX1_allReached_27 : decode cX1_allReached 27 = .ok (.goto (-25), 3) := by decide +kernel
theorem dX1_allReached_30 : decode cX1_allReached 30 = .ok (.iconst 0, 1) := by decide +kernel
theorem dX1_allReached_31 : decode cX1_allReached 31 = .ok (.ireturn, 1) := by decide +kernel
theorem dX1_clearNext_0 : decode cX1_clearNext 0 = .ok (.iconst 0, 1) := by decide +kernel
theorem dX1_clearNext_1 : decode cX1_clearNext 1 = .ok (.istore_n 1, 1) := by decide +kernel
theorem dX1_clearNext_2 : decode cX1_clearNext 2 = .ok (.iload_n 1, 1) := by decide +kernel
theorem dX1_clearNext_3 : decode cX1_clearNext 3 = .ok (.iconst 5, 1) := by decide +kernel
theorem dX1_clearNext_4 : decode cX1_clearNext 4 = .ok (.if_icmp .ge 16, 3) := by decide +kernel
theorem dX1_clearNext_7 : decode cX1_clearNext 7 = .ok (.aload_n 0, 1) := by decide +kernel
theorem dX1_clearNext_8 : decode cX1_clearNext 8 = .ok (.getfield 23, 3) := by decide +kernel
theorem dX1_clearNext_11 : decode cX1_clearNext 11 = .ok (.iload_n 1, 1) := by decide +kernel
theorem dX1_clearNext_12 : decode cX1_clearNext 12 = .ok (.iconst 0, 1) := by decide +kernel
theorem dX1_clearNext_13 : decode cX1_clearNext 13 = .ok (.iastore, 1) := by decide +kernel
theorem dX1_clearNext_14 : decode cX1_clearNext 14 = .ok (.iinc 1 1, 3) := by decide +kernel
theorem dX1_clearNext_17 : decode cX1_clearNext 17 = .ok (.goto (-15), 3) := by decide +kernel
theorem dX1_clearNext_20 : decode cX1_clearNext 20 = .ok (.return_, 1) := by decide +kernel
theorem dX1_countWays_0 : decode cX1_countWays 0 = .ok (.iconst 0, 1) := by decide +kernel
theorem dX1_countWays_1 : decode cX1_countWays 1 = .ok (.istore_n 3, 1) := by decide +kernel
theorem dX1_countWays_2 : decode cX1_countWays 2 = .ok (.iload_n 3, 1) := by decide +kernel
theorem dX1_countWays_3 : decode cX1_countWays 3 = .ok (.iconst 5, 1) := by decide +kernel
theorem dX1_countWays_4 : decode cX1_countWays 4 = .ok (.if_icmp .ge 27, 3) := by decide +kernel
theorem dX1_countWays_7 : decode cX1_countWays 7 = .ok (.aload_n 0, 1) := by decide +kernel
theorem dX1_countWays_8 : decode cX1_countWays 8 = .ok (.getfield 17, 3) := by decide +kernel
theorem dX1_countWays_11 : decode cX1_countWays 11 = .ok (.iload_n 1, 1) := by decide +kernel
theorem dX1_countWays_12 : decode cX1_countWays 12 = .ok (.aaload, 1) := by decide +kernel
theorem dX1_countWays_13 : decode cX1_countWays 13 = .ok (.iload_n 3, 1) := by decide +kernel
theorem dX1_countWays_14 : decode cX1_countWays 14 = .ok (.iload_n 3, 1) := by decide +kernel
theorem dX1_countWays_15 : decode cX1_countWays 15 = .ok (.iload_n 2, 1) := by decide +kernel
theorem dX1_countWays_16 : decode cX1_countWays 16 = .ok (.if_icmp .ne 7, 3) := by decide +kernel
theorem dX1_countWays_19 : decode cX1_countWays 19 = .ok (.iconst 1, 1) := by decide +kernel
theorem dX1_countWays_20 : decode cX1_countWays 20 = .ok (.goto 4, 3) := by decide +kernel
theorem dX1_countWays_23 : decode cX1_countWays 23 = .ok (.iconst 0, 1) := by decide +kernel
theorem dX1_countWays_24 : decode cX1_countWays 24 = .ok (.iastore, 1) := by decide +kernel
theorem dX1_countWays_25 : decode cX1_countWays 25 = .ok (.iinc 3 1, 3) := by decide +kernel
theorem dX1_countWays_28 : decode cX1_countWays 28 = .ok (.goto (-26), 3) := by decide +kernel
theorem dX1_countWays_31 : decode cX1_countWays 31 = .ok (.iload_n 1, 1) := by decide +kernel
theorem dX1_countWays_32 : decode cX1_countWays 32 = .ok (.iconst 1, 1) := by decide +kernel
theorem dX1_countWays_33 : decode cX1_countWays 33 = .ok (.isub, 1) := by decide +kernel
theorem dX1_countWays_34 : decode cX1_countWays 34 = .ok (.istore_n 3, 1) := by decide +kernel
theorem dX1_countWays_35 : decode cX1_countWays 35 = .ok (.iload_n 3, 1) := by decide +kernel
theorem dX1_countWays_36 : decode cX1_countWays 36 = .ok (.ifCond .lt 73, 3) := by decide +kernel
theorem dX1_countWays_39 : decode cX1_countWays 39 = .ok (.iconst 0, 1) := by decide +kernel
theorem dX1_countWays_40 : decode cX1_countWays 40 = .ok (.istore 4, 2) := by decide +kernel
theorem dX1_countWays_42 : decode cX1_countWays 42 = .ok (.iload 4, 2) := by decide +kernel
theorem dX1_countWays_44 : decode cX1_countWays 44 = .ok (.iconst 5, 1) := by decide +kernel
theorem dX1_countWays_45 : decode cX1_countWays 45 = .ok (.if_icmp .ge 58, 3) := by decide +kernel
theorem dX1_countWays_48 : decode cX1_countWays 48 = .ok (.aload_n 0, 1) := by decide +kernel
theorem dX1_countWays_49 : decode cX1_countWays 49 = .ok (.getfield 17, 3) := by decide +kernel
theorem dX1_countWays_52 : decode cX1_countWays 52 = .ok (.iload_n 3, 1) := by decide +kernel
theorem dX1_countWays_53 : decode cX1_countWays 53 = .ok (.aaload, 1) := by decide +kernel
theorem dX1_countWays_54 : decode cX1_countWays 54 = .ok (.iload 4, 2) := by decide +kernel
theorem dX1_countWays_56 : decode cX1_countWays 56 = .ok (.iconst 0, 1) := by decide +kernel
theorem dX1_countWays_57 : decode cX1_countWays 57 = .ok (.iastore, 1) := by decide +kernel
theorem dX1_countWays_58 : decode cX1_countWays 58 = .ok (.iconst 0, 1) := by decide +kernel
theorem dX1_countWays_59 : decode cX1_countWays 59 = .ok (.istore 5, 2) := by decide +kernel
theorem dX1_countWays_61 : decode cX1_countWays 61 = .ok (.iload 5, 2) := by decide +kernel
theorem dX1_countWays_63 : decode cX1_countWays 63 = .ok (.iconst 2, 1) := by decide +kernel
theorem dX1_countWays_64 : decode cX1_countWays 64 = .ok (.if_icmp .gt 33, 3) := by decide +kernel
theorem dX1_countWays_67 : decode cX1_countWays 67 = .ok (.aload_n 0, 1) := by decide +kernel
theorem dX1_countWays_68 : decode cX1_countWays 68 = .ok (.getfield 17, 3) := by decide +kernel
theorem dX1_countWays_71 : decode cX1_countWays 71 = .ok (.iload_n 3, 1) := by decide +kernel
theorem dX1_countWays_72 : decode cX1_countWays 72 = .ok (.aaload, 1) := by decide +kernel
theorem dX1_countWays_73 : decode cX1_countWays 73 = .ok (.iload 4, 2) := by decide +kernel
theorem dX1_countWays_75 : decode cX1_countWays 75 = .ok (.dup2, 1) := by decide +kernel
theorem dX1_countWays_76 : decode cX1_countWays 76 = .ok (.iaload, 1) := by decide +kernel
theorem dX1_countWays_77 : decode cX1_countWays 77 = .ok (.aload_n 0, 1) := by decide +kernel
theorem dX1_countWays_78 : decode cX1_countWays 78 = .ok (.iload_n 3, 1) := by decide +kernel
theorem dX1_countWays_79 : decode cX1_countWays 79 = .ok (.iload 4, 2) := by decide +kernel
theorem dX1_countWays_81 : decode cX1_countWays 81 = .ok (.iload 5, 2) := by decide +kernel
theorem dX1_countWays_83 : decode cX1_countWays 83 = .ok (.invokestatic 32, 3) := by decide +kernel
theorem dX1_countWays_86 : decode cX1_countWays 86 = .ok (.invokevirtual 36, 3) := by decide +kernel
theorem dX1_countWays_89 : decode cX1_countWays 89 = .ok (.iadd, 1) := by decide +kernel
theorem dX1_countWays_90 : decode cX1_countWays 90 = .ok (.iastore, 1) := by decide +kernel
theorem dX1_countWays_91 : decode cX1_countWays 91 = .ok (.iinc 5 1, 3) := by decide +kernel
theorem dX1_countWays_94 : decode cX1_countWays 94 = .ok (.goto (-33), 3) := by decide +kernel
theorem dX1_countWays_97 : decode cX1_countWays 97 = .ok (.iinc 4 1, 3) := by decide +kernel
theorem dX1_countWays_100 : decode cX1_countWays 100 = .ok (.goto (-58), 3) := by decide +kernel
theorem dX1_countWays_103 : decode cX1_countWays 103 = .ok (.iinc 3 (-1), 3) := by decide +kernel
theorem dX1_countWays_106 : decode cX1_countWays 106 = .ok (.goto (-71), 3) := by decide +kernel
theorem dX1_countWays_109 : decode cX1_countWays 109 = .ok (.return_, 1) := by decide +kernel
theorem dX1_fewestHours_0 : decode cX1_fewestHours 0 = .ok (.aload_n 0, 1) := by decide +kernel
theorem dX1_fewestHours_1 : decode cX1_fewestHours 1 = .ok (.invokevirtual 42, 3) := by decide +kernel
theorem dX1_fewestHours_4 : decode cX1_fewestHours 4 = .ok (.aload_n 0, 1) := by decide +kernel
theorem dX1_fewestHours_5 : decode cX1_fewestHours 5 = .ok (.getfield 23, 3) := by decide +kernel
theorem dX1_fewestHours_8 : decode cX1_fewestHours 8 = .ok (.iload_n 1, 1) := by decide +kernel
theorem dX1_fewestHours_9 : decode cX1_fewestHours 9 = .ok (.iconst 1, 1) := by decide +kernel
theorem dX1_fewestHours_10 : decode cX1_fewestHours 10 = .ok (.iconst 1, 1) := by decide +kernel
theorem dX1_fewestHours_11 : decode cX1_fewestHours 11 = .ok (.iload_n 1, 1) := by decide +kernel
theorem dX1_fewestHours_12 : decode cX1_fewestHours 12 = .ok (.ishl, 1) := by decide +kernel
theorem dX1_fewestHours_13 : decode cX1_fewestHours 13 = .ok (.ishl, 1) := by decide +kernel
theorem dX1_fewestHours_14 : decode cX1_fewestHours 14 = .ok (.iastore, 1) := by decide +kernel
theorem dX1_fewestHours_15 : decode cX1_fewestHours 15 = .ok (.iconst 0, 1) := by decide +kernel
theorem dX1_fewestHours_16 : decode cX1_fewestHours 16 = .ok (.istore_n 2, 1) := by decide +kernel
theorem dX1_fewestHours_17 : decode cX1_fewestHours 17 = .ok (.iload_n 2, 1) := by decide +kernel
theorem dX1_fewestHours_18 : decode cX1_fewestHours 18 = .ok (.bipush 7, 2) := by decide +kernel
theorem dX1_fewestHours_20 : decode cX1_fewestHours 20 = .ok (.if_icmp .ge 47, 3) := by decide +kernel
theorem dX1_fewestHours_23 : decode cX1_fewestHours 23 = .ok (.aload_n 0, 1) := by decide +kernel
theorem dX1_fewestHours_24 : decode cX1_fewestHours 24 = .ok (.invokevirtual 45, 3) := by decide +kernel
theorem dX1_fewestHours_27 : decode cX1_fewestHours 27 = .ok (.aload_n 0, 1) := by decide +kernel
theorem dX1_fewestHours_28 : decode cX1_fewestHours 28 = .ok (.invokevirtual 42, 3) := by decide +kernel
theorem dX1_fewestHours_31 : decode cX1_fewestHours 31 = .ok (.iconst 0, 1) := by decide +kernel
theorem dX1_fewestHours_32 : decode cX1_fewestHours 32 = .ok (.istore_n 3, 1) := by decide +kernel
theorem dX1_fewestHours_33 : decode cX1_fewestHours 33 = .ok (.iload_n 3, 1) := by decide +kernel
theorem dX1_fewestHours_34 : decode cX1_fewestHours 34 = .ok (.iconst 5, 1) := by decide +kernel
theorem dX1_fewestHours_35 : decode cX1_fewestHours 35 = .ok (.if_icmp .ge 15, 3) := by decide +kernel
theorem dX1_fewestHours_38 : decode cX1_fewestHours 38 = .ok (.aload_n 0, 1) := by decide +kernel
theorem dX1_fewestHours_39 : decode cX1_fewestHours 39 = .ok (.iload_n 2, 1) := by decide +kernel
theorem dX1_fewestHours_40 : decode cX1_fewestHours 40 = .ok (.iload_n 3, 1) := by decide +kernel
theorem dX1_fewestHours_41 : decode cX1_fewestHours 41 = .ok (.invokevirtual 48, 3) := by decide +kernel
theorem dX1_fewestHours_44 : decode cX1_fewestHours 44 = .ok (.iinc 3 1, 3) := by decide +kernel
theorem dX1_fewestHours_47 : decode cX1_fewestHours 47 = .ok (.goto (-14), 3) := by decide +kernel
theorem dX1_fewestHours_50 : decode cX1_fewestHours 50 = .ok (.aload_n 0, 1) := by decide +kernel
theorem dX1_fewestHours_51 : decode cX1_fewestHours 51 = .ok (.invokevirtual 52, 3) := by decide +kernel
theorem dX1_fewestHours_54 : decode cX1_fewestHours 54 = .ok (.ifCond .eq 7, 3) := by decide +kernel
theorem dX1_fewestHours_57 : decode cX1_fewestHours 57 = .ok (.iload_n 2, 1) := by decide +kernel
theorem dX1_fewestHours_58 : decode cX1_fewestHours 58 = .ok (.iconst 1, 1) := by decide +kernel
theorem dX1_fewestHours_59 : decode cX1_fewestHours 59 = .ok (.iadd, 1) := by decide +kernel
theorem dX1_fewestHours_60 : decode cX1_fewestHours 60 = .ok (.ireturn, 1) := by decide +kernel
theorem dX1_fewestHours_61 : decode cX1_fewestHours 61 = .ok (.iinc 2 1, 3) := by decide +kernel
theorem dX1_fewestHours_64 : decode cX1_fewestHours 64 = .ok (.goto (-47), 3) := by decide +kernel
theorem dX1_fewestHours_67 : decode cX1_fewestHours 67 = .ok (.bipush (-9), 2) := by decide +kernel
theorem dX1_fewestHours_69 : decode cX1_fewestHours 69 = .ok (.ireturn, 1) := by decide +kernel
theorem dX1_firstRow_0 : decode cX1_firstRow 0 = .ok (.aload_n 0, 1) := by decide +kernel
theorem dX1_firstRow_1 : decode cX1_firstRow 1 = .ok (.getfield 17, 3) := by decide +kernel
theorem dX1_firstRow_4 : decode cX1_firstRow 4 = .ok (.iconst 0, 1) := by decide +kernel
theorem dX1_firstRow_5 : decode cX1_firstRow 5 = .ok (.aaload, 1) := by decide +kernel
theorem dX1_firstRow_6 : decode cX1_firstRow 6 = .ok (.iload_n 2, 1) := by decide +kernel
theorem dX1_firstRow_7 : decode cX1_firstRow 7 = .ok (.iaload, 1) := by decide +kernel
theorem dX1_firstRow_8 : decode cX1_firstRow 8 = .ok (.ifCond .ne 6, 3) := by decide +kernel
theorem dX1_firstRow_11 : decode cX1_firstRow 11 = .ok (.bipush (-9), 2) := by decide +kernel
theorem dX1_firstRow_13 : decode cX1_firstRow 13 = .ok (.ireturn, 1) := by decide +kernel
theorem dX1_firstRow_14 : decode cX1_firstRow 14 = .ok (.iconst 0, 1) := by decide +kernel
theorem dX1_firstRow_15 : decode cX1_firstRow 15 = .ok (.istore_n 3, 1) := by decide +kernel
theorem dX1_firstRow_16 : decode cX1_firstRow 16 = .ok (.iload_n 2, 1) := by decide +kernel
theorem dX1_firstRow_17 : decode cX1_firstRow 17 = .ok (.istore 4, 2) := by decide +kernel
theorem dX1_firstRow_19 : decode cX1_firstRow 19 = .ok (.iconst 0, 1) := by decide +kernel
theorem dX1_firstRow_20 : decode cX1_firstRow 20 = .ok (.istore 5, 2) := by decide +kernel
theorem dX1_firstRow_22 : decode cX1_firstRow 22 = .ok (.iload 5, 2) := by decide +kernel
theorem dX1_firstRow_24 : decode cX1_firstRow 24 = .ok (.iload_n 1, 1) := by decide +kernel
theorem dX1_firstRow_25 : decode cX1_firstRow 25 = .ok (.if_icmp .ge 36, 3) := by decide +kernel
theorem dX1_firstRow_28 : decode cX1_firstRow 28 = .ok (.aload_n 0, 1) := by decide +kernel
theorem dX1_firstRow_29 : decode cX1_firstRow 29 = .ok (.iload 5, 2) := by decide +kernel
theorem dX1_firstRow_31 : decode cX1_firstRow 31 = .ok (.iload 4, 2) := by decide +kernel
theorem dX1_firstRow_33 : decode cX1_firstRow 33 = .ok (.invokevirtual 39, 3) := by decide +kernel
theorem dX1_firstRow_36 : decode cX1_firstRow 36 = .ok (.istore 6, 2) := by decide +kernel
theorem dX1_firstRow_38 : decode cX1_firstRow 38 = .ok (.bipush 10, 2) := by decide +kernel
theorem dX1_firstRow_40 : decode cX1_firstRow 40 = .ok (.iload_n 3, 1) := by decide +kernel
theorem dX1_firstRow_41 : decode cX1_firstRow 41 = .ok (.imul, 1) := by decide +kernel
theorem dX1_firstRow_42 : decode cX1_firstRow 42 = .ok (.iload 6, 2) := by decide +kernel
theorem dX1_firstRow_44 : decode cX1_firstRow 44 = .ok (.iadd, 1) := by decide +kernel
theorem dX1_firstRow_45 : decode cX1_firstRow 45 = .ok (.istore_n 3, 1) := by decide +kernel
theorem dX1_firstRow_46 : decode cX1_firstRow 46 = .ok (.iload 4, 2) := by decide +kernel
theorem dX1_firstRow_48 : decode cX1_firstRow 48 = .ok (.iload 6, 2) := by decide +kernel
theorem dX1_firstRow_50 : decode cX1_firstRow 50 = .ok (.invokestatic 32, 3) := by decide +kernel
theorem dX1_firstRow_53 : decode cX1_firstRow 53 = .ok (.istore 4, 2) := by decide +kernel
theorem dX1_firstRow_55 : decode cX1_firstRow 55 = .ok (.iinc 5 1, 3) := by decide +kernel
theorem dX1_firstRow_58 : decode cX1_firstRow 58 = .ok (.goto (-36), 3) := by decide +kernel
theorem dX1_firstRow_61 : decode cX1_firstRow 61 = .ok (.iload_n 3, 1) := by decide +kernel
theorem dX1_firstRow_62 : decode cX1_firstRow 62 = .ok (.ireturn, 1) := by decide +kernel
theorem dX1_firstWay_0 : decode cX1_firstWay 0 = .ok (.iconst 0, 1) := by decide +kernel
theorem dX1_firstWay_1 : decode cX1_firstWay 1 = .ok (.istore_n 3, 1) := by decide +kernel
theorem dX1_firstWay_2 : decode cX1_firstWay 2 = .ok (.iload_n 3, 1) := by decide +kernel
theorem dX1_firstWay_3 : decode cX1_firstWay 3 = .ok (.iconst 2, 1) := by decide +kernel
theorem dX1_firstWay_4 : decode cX1_firstWay 4 = .ok (.if_icmp .ge 22, 3) := by decide +kernel
theorem dX1_firstWay_7 : decode cX1_firstWay 7 = .ok (.aload_n 0, 1) := by decide +kernel
theorem dX1_firstWay_8 : decode cX1_firstWay 8 = .ok (.iload_n 1, 1) := by decide +kernel
theorem dX1_firstWay_9 : decode cX1_firstWay 9 = .ok (.iload_n 2, 1) := by decide +kernel
theorem dX1_firstWay_10 : decode cX1_firstWay 10 = .ok (.iload_n 3, 1) := by decide +kernel
theorem dX1_firstWay_11 : decode cX1_firstWay 11 = .ok (.invokestatic 32, 3) := by decide +kernel
theorem dX1_firstWay_14 : decode cX1_firstWay 14 = .ok (.invokevirtual 36, 3) := by decide +kernel
theorem dX1_firstWay_17 : decode cX1_firstWay 17 = .ok (.ifCond .ne 9, 3) := by decide +kernel
theorem dX1_firstWay_20 : decode cX1_firstWay 20 = .ok (.iinc 3 1, 3) := by decide +kernel
theorem dX1_firstWay_23 : decode cX1_firstWay 23 = .ok (.goto (-21), 3) := by decide +kernel
theorem dX1_firstWay_26 : decode cX1_firstWay 26 = .ok (.iload_n 3, 1) := by decide +kernel
theorem dX1_firstWay_27 : decode cX1_firstWay 27 = .ok (.ireturn, 1) := by decide +kernel
theorem dX1_init_0 : decode cX1_init 0 = .ok (.aload_n 0, 1) := by decide +kernel
theorem dX1_init_1 : decode cX1_init 1 = .ok (.invokespecial 3, 3) := by decide +kernel
theorem dX1_init_4 : decode cX1_init 4 = .ok (.aload_n 0, 1) := by decide +kernel
theorem dX1_init_5 : decode cX1_init 5 = .ok (.bipush 7, 2) := by decide +kernel
theorem dX1_init_7 : decode cX1_init 7 = .ok (.newarray .int, 2) := by decide +kernel
theorem dX1_init_9 : decode cX1_init 9 = .ok (.putfield 9, 3) := by decide +kernel
theorem dX1_init_12 : decode cX1_init 12 = .ok (.aload_n 0, 1) := by decide +kernel
theorem dX1_init_13 : decode cX1_init 13 = .ok (.bipush 8, 2) := by decide +kernel
theorem dX1_init_15 : decode cX1_init 15 = .ok (.iconst 5, 1) := by decide +kernel
theorem dX1_init_16 : decode cX1_init 16 = .ok (.multianewarray 15 2, 4) := by decide +kernel
theorem dX1_init_20 : decode cX1_init 20 = .ok (.putfield 17, 3) := by decide +kernel
theorem dX1_init_23 : decode cX1_init 23 = .ok (.aload_n 0, 1) := by decide +kernel
theorem dX1_init_24 : decode cX1_init 24 = .ok (.iconst 5, 1) := by decide +kernel
theorem dX1_init_25 : decode cX1_init 25 = .ok (.newarray .int, 2) := by decide +kernel
theorem dX1_init_27 : decode cX1_init 27 = .ok (.putfield 20, 3) := by decide +kernel
theorem dX1_init_30 : decode cX1_init 30 = .ok (.aload_n 0, 1) := by decide +kernel
theorem dX1_init_31 : decode cX1_init 31 = .ok (.iconst 5, 1) := by decide +kernel
theorem dX1_init_32 : decode cX1_init 32 = .ok (.newarray .int, 2) := by decide +kernel
theorem dX1_init_34 : decode cX1_init 34 = .ok (.putfield 23, 3) := by decide +kernel
theorem dX1_init_37 : decode cX1_init 37 = .ok (.return_, 1) := by decide +kernel
theorem dX1_look_0 : decode cX1_look 0 = .ok (.iconst 0, 1) := by decide +kernel
theorem dX1_look_1 : decode cX1_look 1 = .ok (.istore 4, 2) := by decide +kernel
theorem dX1_look_3 : decode cX1_look 3 = .ok (.iload 4, 2) := by decide +kernel
theorem dX1_look_5 : decode cX1_look 5 = .ok (.bipush 7, 2) := by decide +kernel
theorem dX1_look_7 : decode cX1_look 7 = .ok (.if_icmp .ge 24, 3) := by decide +kernel
theorem dX1_look_10 : decode cX1_look 10 = .ok (.aload_n 0, 1) := by decide +kernel
theorem dX1_look_11 : decode cX1_look 11 = .ok (.getfield 9, 3) := by decide +kernel
theorem dX1_look_14 : decode cX1_look 14 = .ok (.iload 4, 2) := by decide +kernel
theorem dX1_look_16 : decode cX1_look 16 = .ok (.aload_n 2, 1) := by decide +kernel
theorem dX1_look_17 : decode cX1_look 17 = .ok (.aload_n 1, 1) := by decide +kernel
theorem dX1_look_18 : decode cX1_look 18 = .ok (.iload_n 3, 1) := by decide +kernel
theorem dX1_look_19 : decode cX1_look 19 = .ok (.iload 4, 2) := by decide +kernel
theorem dX1_look_21 : decode cX1_look 21 = .ok (.invokevirtual 26, 3) := by decide +kernel
theorem dX1_look_24 : decode cX1_look 24 = .ok (.iastore, 1) := by decide +kernel
theorem dX1_look_25 : decode cX1_look 25 = .ok (.iinc 4 1, 3) := by decide +kernel
theorem dX1_look_28 : decode cX1_look 28 = .ok (.goto (-25), 3) := by decide +kernel
theorem dX1_look_31 : decode cX1_look 31 = .ok (.return_, 1) := by decide +kernel
theorem dX1_spread_0 : decode cX1_spread 0 = .ok (.iconst 0, 1) := by decide +kernel
theorem dX1_spread_1 : decode cX1_spread 1 = .ok (.istore_n 3, 1) := by decide +kernel
theorem dX1_spread_2 : decode cX1_spread 2 = .ok (.iload_n 3, 1) := by decide +kernel
theorem dX1_spread_3 : decode cX1_spread 3 = .ok (.iconst 2, 1) := by decide +kernel
theorem dX1_spread_4 : decode cX1_spread 4 = .ok (.if_icmp .gt 57, 3) := by decide +kernel
theorem dX1_spread_7 : decode cX1_spread 7 = .ok (.iload_n 2, 1) := by decide +kernel
theorem dX1_spread_8 : decode cX1_spread 8 = .ok (.iload_n 3, 1) := by decide +kernel
theorem dX1_spread_9 : decode cX1_spread 9 = .ok (.invokestatic 32, 3) := by decide +kernel
theorem dX1_spread_12 : decode cX1_spread 12 = .ok (.istore 4, 2) := by decide +kernel
theorem dX1_spread_14 : decode cX1_spread 14 = .ok (.aload_n 0, 1) := by decide +kernel
theorem dX1_spread_15 : decode cX1_spread 15 = .ok (.getfield 20, 3) := by decide +kernel
theorem dX1_spread_18 : decode cX1_spread 18 = .ok (.iload_n 2, 1) := by decide +kernel
theorem dX1_spread_19 : decode cX1_spread 19 = .ok (.iaload, 1) := by decide +kernel
theorem dX1_spread_20 : decode cX1_spread 20 = .ok (.ifCond .eq 35, 3) := by decide +kernel
theorem dX1_spread_23 : decode cX1_spread 23 = .ok (.iload 4, 2) := by decide +kernel
theorem dX1_spread_25 : decode cX1_spread 25 = .ok (.aload_n 0, 1) := by decide +kernel
theorem dX1_spread_26 : decode cX1_spread 26 = .ok (.getfield 9, 3) := by decide +kernel
theorem dX1_spread_29 : decode cX1_spread 29 = .ok (.iload_n 1, 1) := by decide +kernel
theorem dX1_spread_30 : decode cX1_spread 30 = .ok (.iaload, 1) := by decide +kernel
theorem dX1_spread_31 : decode cX1_spread 31 = .ok (.if_icmp .eq 24, 3) := by decide +kernel
theorem dX1_spread_34 : decode cX1_spread 34 = .ok (.aload_n 0, 1) := by decide +kernel
theorem dX1_spread_35 : decode cX1_spread 35 = .ok (.getfield 23, 3) := by decide +kernel
theorem dX1_spread_38 : decode cX1_spread 38 = .ok (.iload 4, 2) := by decide +kernel
theorem dX1_spread_40 : decode cX1_spread 40 = .ok (.dup2, 1) := by decide +kernel
theorem dX1_spread_41 : decode cX1_spread 41 = .ok (.iaload, 1) := by decide +kernel
theorem dX1_spread_42 : decode cX1_spread 42 = .ok (.aload_n 0, 1) := by decide +kernel
theorem dX1_spread_43 : decode cX1_spread 43 = .ok (.getfield 20, 3) := by decide +kernel
theorem dX1_spread_46 : decode cX1_spread 46 = .ok (.iload_n 2, 1) := by decide +kernel
theorem dX1_spread_47 : decode cX1_spread 47 = .ok (.iaload, 1) := by decide +kernel
theorem dX1_spread_48 : decode cX1_spread 48 = .ok (.iload 4, 2) := by decide +kernel
theorem dX1_spread_50 : decode cX1_spread 50 = .ok (.invokestatic 56, 3) := by decide +kernel
theorem dX1_spread_53 : decode cX1_spread 53 = .ok (.ior, 1) := by decide +kernel
theorem dX1_spread_54 : decode cX1_spread 54 = .ok (.iastore, 1) := by decide +kernel
theorem dX1_spread_55 : decode cX1_spread 55 = .ok (.iinc 3 1, 3) := by decide +kernel
theorem dX1_spread_58 : decode cX1_spread 58 = .ok (.goto (-56), 3) := by decide +kernel
theorem dX1_spread_61 : decode cX1_spread 61 = .ok (.return_, 1) := by decide +kernel
theorem dX1_swap_0 : decode cX1_swap 0 = .ok (.aload_n 0, 1) := by decide +kernel
theorem dX1_swap_1 : decode cX1_swap 1 = .ok (.getfield 20, 3) := by decide +kernel
theorem dX1_swap_4 : decode cX1_swap 4 = .ok (.astore_n 1, 1) := by decide +kernel
theorem dX1_swap_5 : decode cX1_swap 5 = .ok (.aload_n 0, 1) := by decide +kernel
theorem dX1_swap_6 : decode cX1_swap 6 = .ok (.aload_n 0, 1) := by decide +kernel
theorem dX1_swap_7 : decode cX1_swap 7 = .ok (.getfield 23, 3) := by decide +kernel
theorem dX1_swap_10 : decode cX1_swap 10 = .ok (.putfield 20, 3) := by decide +kernel
theorem dX1_swap_13 : decode cX1_swap 13 = .ok (.aload_n 0, 1) := by decide +kernel
theorem dX1_swap_14 : decode cX1_swap 14 = .ok (.aload_n 1, 1) := by decide +kernel
theorem dX1_swap_15 : decode cX1_swap 15 = .ok (.putfield 23, 3) := by decide +kernel
theorem dX1_swap_18 : decode cX1_swap 18 = .ok (.return_, 1) := by decide +kernel
theorem dX1_waysBy_0 : decode cX1_waysBy 0 = .ok (.iload_n 2, 1) := by decide +kernel
theorem dX1_waysBy_1 : decode cX1_waysBy 1 = .ok (.aload_n 0, 1) := by decide +kernel
theorem dX1_waysBy_2 : decode cX1_waysBy 2 = .ok (.getfield 9, 3) := by decide +kernel
theorem dX1_waysBy_5 : decode cX1_waysBy 5 = .ok (.iload_n 1, 1) := by decide +kernel
theorem dX1_waysBy_6 : decode cX1_waysBy 6 = .ok (.iaload, 1) := by decide +kernel
theorem dX1_waysBy_7 : decode cX1_waysBy 7 = .ok (.if_icmp .ne 7, 3) := by decide +kernel
theorem dX1_waysBy_10 : decode cX1_waysBy 10 = .ok (.iconst 0, 1) := by decide +kernel
theorem dX1_waysBy_11 : decode cX1_waysBy 11 = .ok (.goto 13, 3) := by decide +kernel
theorem dX1_waysBy_14 : decode cX1_waysBy 14 = .ok (.aload_n 0, 1) := by decide +kernel
theorem dX1_waysBy_15 : decode cX1_waysBy 15 = .ok (.getfield 17, 3) := by decide +kernel
theorem dX1_waysBy_18 : decode cX1_waysBy 18 = .ok (.iload_n 1, 1) := by decide +kernel
theorem dX1_waysBy_19 : decode cX1_waysBy 19 = .ok (.iconst 1, 1) := by decide +kernel
theorem dX1_waysBy_20 : decode cX1_waysBy 20 = .ok (.iadd, 1) := by decide +kernel
theorem dX1_waysBy_21 : decode cX1_waysBy 21 = .ok (.aaload, 1) := by decide +kernel
theorem dX1_waysBy_22 : decode cX1_waysBy 22 = .ok (.iload_n 2, 1) := by decide +kernel
theorem dX1_waysBy_23 : decode cX1_waysBy 23 = .ok (.iaload, 1) := by decide +kernel
theorem dX1_waysBy_24 : decode cX1_waysBy 24 = .ok (.ireturn, 1) := by decide +kernel
theorem dX1_waysFrom_0 : decode cX1_waysFrom 0 = .ok (.aload_n 0, 1) := by decide +kernel
theorem dX1_waysFrom_1 : decode cX1_waysFrom 1 = .ok (.getfield 17, 3) := by decide +kernel
theorem dX1_waysFrom_4 : decode cX1_waysFrom 4 = .ok (.iconst 0, 1) := by decide +kernel
theorem dX1_waysFrom_5 : decode cX1_waysFrom 5 = .ok (.aaload, 1) := by decide +kernel
theorem dX1_waysFrom_6 : decode cX1_waysFrom 6 = .ok (.iload_n 1, 1) := by decide +kernel
theorem dX1_waysFrom_7 : decode cX1_waysFrom 7 = .ok (.iaload, 1) := by decide +kernel
theorem dX1_waysFrom_8 : decode cX1_waysFrom 8 = .ok (.ireturn, 1) := by decide +kernel
theorem dX1_withStreet_0 : decode cX1_withStreet 0 = .ok (.iconst 0, 1) := by decide +kernel
theorem dX1_withStreet_1 : decode cX1_withStreet 1 = .ok (.istore_n 2, 1) := by decide +kernel
theorem dX1_withStreet_2 : decode cX1_withStreet 2 = .ok (.iconst 0, 1) := by decide +kernel
theorem dX1_withStreet_3 : decode cX1_withStreet 3 = .ok (.istore_n 3, 1) := by decide +kernel
theorem dX1_withStreet_4 : decode cX1_withStreet 4 = .ok (.iload_n 3, 1) := by decide +kernel
theorem dX1_withStreet_5 : decode cX1_withStreet 5 = .ok (.bipush 31, 2) := by decide +kernel
theorem dX1_withStreet_7 : decode cX1_withStreet 7 = .ok (.if_icmp .gt 28, 3) := by decide +kernel
theorem dX1_withStreet_10 : decode cX1_withStreet 10 = .ok (.iload_n 0, 1) := by decide +kernel
theorem dX1_withStreet_11 : decode cX1_withStreet 11 = .ok (.iload_n 3, 1) := by decide +kernel
theorem dX1_withStreet_12 : decode cX1_withStreet 12 = .ok (.ishr, 1) := by decide +kernel
theorem dX1_withStreet_13 : decode cX1_withStreet 13 = .ok (.iconst 1, 1) := by decide +kernel
theorem dX1_withStreet_14 : decode cX1_withStreet 14 = .ok (.iand, 1) := by decide +kernel
theorem dX1_withStreet_15 : decode cX1_withStreet 15 = .ok (.iconst 1, 1) := by decide +kernel
theorem dX1_withStreet_16 : decode cX1_withStreet 16 = .ok (.if_icmp .ne 13, 3) := by decide +kernel
theorem dX1_withStreet_19 : decode cX1_withStreet 19 = .ok (.iload_n 2, 1) := by decide +kernel
theorem dX1_withStreet_20 : decode cX1_withStreet 20 = .ok (.iconst 1, 1) := by decide +kernel
theorem dX1_withStreet_21 : decode cX1_withStreet 21 = .ok (.iload_n 3, 1) := by decide +kernel
theorem dX1_withStreet_22 : decode cX1_withStreet 22 = .ok (.iconst 1, 1) := by decide +kernel
theorem dX1_withStreet_23 : decode cX1_withStreet 23 = .ok (.iload_n 1, 1) := by decide +kernel
theorem dX1_withStreet_24 : decode cX1_withStreet 24 = .ok (.ishl, 1) := by decide +kernel
theorem dX1_withStreet_25 : decode cX1_withStreet 25 = .ok (.ior, 1) := by decide +kernel
theorem dX1_withStreet_26 : decode cX1_withStreet 26 = .ok (.ishl, 1) := by decide +kernel
theorem dX1_withStreet_27 : decode cX1_withStreet 27 = .ok (.ior, 1) := by decide +kernel
theorem dX1_withStreet_28 : decode cX1_withStreet 28 = .ok (.istore_n 2, 1) := by decide +kernel
theorem dX1_withStreet_29 : decode cX1_withStreet 29 = .ok (.iinc 3 1, 3) := by decide +kernel
theorem dX1_withStreet_32 : decode cX1_withStreet 32 = .ok (.goto (-28), 3) := by decide +kernel
theorem dX1_withStreet_35 : decode cX1_withStreet 35 = .ok (.iload_n 2, 1) := by decide +kernel
theorem dX1_withStreet_36 : decode cX1_withStreet 36 = .ok (.ireturn, 1) := by decide +kernel
theorem dX2_become_0 : decode cX2_become 0 = .ok (.aload_n 0, 1) := by decide +kernel
theorem dX2_become_1 : decode cX2_become 1 = .ok (.aload_n 1, 1) := by decide +kernel
theorem dX2_become_2 : decode cX2_become 2 = .ok (.getfield 9, 3) := by decide +kernel
theorem dX2_become_5 : decode cX2_become 5 = .ok (.putfield 9, 3) := by decide +kernel
theorem dX2_become_8 : decode cX2_become 8 = .ok (.aload_n 0, 1) := by decide +kernel
theorem dX2_become_9 : decode cX2_become 9 = .ok (.aload_n 1, 1) := by decide +kernel
theorem dX2_become_10 : decode cX2_become 10 = .ok (.getfield 15, 3) := by decide +kernel
theorem dX2_become_13 : decode cX2_become 13 = .ok (.putfield 15, 3) := by decide +kernel
theorem dX2_become_16 : decode cX2_become 16 = .ok (.aload_n 0, 1) := by decide +kernel
theorem dX2_become_17 : decode cX2_become 17 = .ok (.aload_n 1, 1) := by decide +kernel
theorem dX2_become_18 : decode cX2_become 18 = .ok (.getfield 18, 3) := by decide +kernel
theorem dX2_become_21 : decode cX2_become 21 = .ok (.putfield 18, 3) := by decide +kernel
theorem dX2_become_24 : decode cX2_become 24 = .ok (.aload_n 0, 1) := by decide +kernel
theorem dX2_become_25 : decode cX2_become 25 = .ok (.aload_n 1, 1) := by decide +kernel
theorem dX2_become_26 : decode cX2_become 26 = .ok (.getfield 21, 3) := by decide +kernel
theorem dX2_become_29 : decode cX2_become 29 = .ok (.putfield 21, 3) := by decide +kernel
theorem dX2_become_32 : decode cX2_become 32 = .ok (.aload_n 1, 1) := by decide +kernel
theorem dX2_become_33 : decode cX2_become 33 = .ok (.getfield 24, 3) := by decide +kernel
theorem dX2_become_36 : decode cX2_become 36 = .ok (.iconst 0, 1) := by decide +kernel
theorem dX2_become_37 : decode cX2_become 37 = .ok (.aload_n 0, 1) := by decide +kernel
theorem dX2_become_38 : decode cX2_become 38 = .ok (.getfield 24, 3) := by decide +kernel
theorem dX2_become_41 : decode cX2_become 41 = .ok (.iconst 0, 1) := by decide +kernel
theorem dX2_become_42 : decode cX2_become 42 = .ok (.iconst 4, 1) := by decide +kernel
theorem dX2_become_43 : decode cX2_become 43 = .ok (.invokestatic 37, 3) := by decide +kernel
theorem dX2_become_46 : decode cX2_become 46 = .ok (.aload_n 1, 1) := by decide +kernel
theorem dX2_become_47 : decode cX2_become 47 = .ok (.getfield 28, 3) := by decide +kernel
theorem dX2_become_50 : decode cX2_become 50 = .ok (.iconst 0, 1) := by decide +kernel
theorem dX2_become_51 : decode cX2_become 51 = .ok (.aload_n 0, 1) := by decide +kernel
theorem dX2_become_52 : decode cX2_become 52 = .ok (.getfield 28, 3) := by decide +kernel
theorem dX2_become_55 : decode cX2_become 55 = .ok (.iconst 0, 1) := by decide +kernel
theorem dX2_become_56 : decode cX2_become 56 = .ok (.iconst 4, 1) := by decide +kernel
theorem dX2_become_57 : decode cX2_become 57 = .ok (.invokestatic 37, 3) := by decide +kernel
theorem dX2_become_60 : decode cX2_become 60 = .ok (.aload_n 1, 1) := by decide +kernel
theorem dX2_become_61 : decode cX2_become 61 = .ok (.getfield 31, 3) := by decide +kernel
theorem dX2_become_64 : decode cX2_become 64 = .ok (.iconst 0, 1) := by decide +kernel
theorem dX2_become_65 : decode cX2_become 65 = .ok (.aload_n 0, 1) := by decide +kernel
theorem dX2_become_66 : decode cX2_become 66 = .ok (.getfield 31, 3) := by decide +kernel
theorem dX2_become_69 : decode cX2_become 69 = .ok (.iconst 0, 1) := by decide +kernel
theorem dX2_become_70 : decode cX2_become 70 = .ok (.iconst 4, 1) := by decide +kernel
theorem dX2_become_71 : decode cX2_become 71 = .ok (.invokestatic 37, 3) := by decide +kernel
theorem dX2_become_74 : decode cX2_become 74 = .ok (.aload_n 1, 1) := by decide +kernel
theorem dX2_become_75 : decode cX2_become 75 = .ok (.getfield 34, 3) := by decide +kernel
theorem dX2_become_78 : decode cX2_become 78 = .ok (.iconst 0, 1) := by decide +kernel
theorem dX2_become_79 : decode cX2_become 79 = .ok (.aload_n 0, 1) := by decide +kernel
theorem dX2_become_80 : decode cX2_become 80 = .ok (.getfield 34, 3) := by decide +kernel
theorem dX2_become_83 : decode cX2_become 83 = .ok (.iconst 0, 1) := by decide +kernel
theorem dX2_become_84 : decode cX2_become 84 = .ok (.iconst 4, 1) := by decide +kernel
theorem dX2_become_85 : decode cX2_become 85 = .ok (.invokestatic 37, 3) := by decide +kernel
theorem dX2_become_88 : decode cX2_become 88 = .ok (.return_, 1) := by decide +kernel
theorem dX2_clear_0 : decode cX2_clear 0 = .ok (.aload_n 0, 1) := by decide +kernel
theorem dX2_clear_1 : decode cX2_clear 1 = .ok (.iconst 0, 1) := by decide +kernel
theorem dX2_clear_2 : decode cX2_clear 2 = .ok (.putfield 9, 3) := by decide +kernel
theorem dX2_clear_5 : decode cX2_clear 5 = .ok (.aload_n 0, 1) := by decide +kernel
theorem dX2_clear_6 : decode cX2_clear 6 = .ok (.iconst 0, 1) := by decide +kernel
theorem dX2_clear_7 : decode cX2_clear 7 = .ok (.putfield 15, 3) := by decide +kernel
theorem dX2_clear_10 : decode cX2_clear 10 = .ok (.aload_n 0, 1) := by decide +kernel
theorem dX2_clear_11 : decode cX2_clear 11 = .ok (.iconst 0, 1) := by decide +kernel
theorem dX2_clear_12 : decode cX2_clear 12 = .ok (.putfield 18, 3) := by decide +kernel
theorem dX2_clear_15 : decode cX2_clear 15 = .ok (.aload_n 0, 1) := by decide +kernel
theorem dX2_clear_16 : decode cX2_clear 16 = .ok (.iconst 0, 1) := by decide +kernel
theorem dX2_clear_17 : decode cX2_clear 17 = .ok (.putfield 21, 3) := by decide +kernel
theorem dX2_clear_20 : decode cX2_clear 20 = .ok (.return_, 1) := by decide +kernel
theorem dX2_comesFrom_0 : decode cX2_comesFrom 0 = .ok (.iload_n 1, 1) := by decide +kernel
theorem dX2_comesFrom_1 : decode cX2_comesFrom 1 = .ok (.istore_n 3, 1) := by decide +kernel
theorem dX2_comesFrom_2 : decode cX2_comesFrom 2 = .ok (.iconst 0, 1) := by decide +kernel
theorem dX2_comesFrom_3 : decode cX2_comesFrom 3 = .ok (.istore 4, 2) := by decide +kernel
theorem dX2_comesFrom_5 : decode cX2_comesFrom 5 = .ok (.iload 4, 2) := by decide +kernel
theorem dX2_comesFrom_7 : decode cX2_comesFrom 7 = .ok (.iconst 4, 1) := by decide +kernel
theorem dX2_comesFrom_8 : decode cX2_comesFrom 8 = .ok (.if_icmp .ge 31, 3) := by decide +kernel
theorem dX2_comesFrom_11 : decode cX2_comesFrom 11 = .ok (.aload_n 0, 1) := by decide +kernel
theorem dX2_comesFrom_12 : decode cX2_comesFrom 12 = .ok (.iload_n 3, 1) := by decide +kernel
theorem dX2_comesFrom_13 : decode cX2_comesFrom 13 = .ok (.invokevirtual 53, 3) := by decide +kernel
theorem dX2_comesFrom_16 : decode cX2_comesFrom 16 = .ok (.ifCond .eq 23, 3) := by decide +kernel
theorem dX2_comesFrom_19 : decode cX2_comesFrom 19 = .ok (.iload_n 3, 1) := by decide +kernel
theorem dX2_comesFrom_20 : decode cX2_comesFrom 20 = .ok (.iload_n 2, 1) := by decide +kernel
theorem dX2_comesFrom_21 : decode cX2_comesFrom 21 = .ok (.if_icmp .ne 5, 3) := by decide +kernel
theorem dX2_comesFrom_24 : decode cX2_comesFrom 24 = .ok (.iconst 1, 1) := by decide +kernel
theorem dX2_comesFrom_25 : decode cX2_comesFrom 25 = .ok (.ireturn, 1) := by decide +kernel
theorem dX2_comesFrom_26 : decode cX2_comesFrom 26 = .ok (.aload_n 0, 1) := by decide +kernel
theorem dX2_comesFrom_27 : decode cX2_comesFrom 27 = .ok (.getfield 34, 3) := by decide +kernel
theorem dX2_comesFrom_30 : decode cX2_comesFrom 30 = .ok (.iload_n 3, 1) := by decide +kernel
theorem dX2_comesFrom_31 : decode cX2_comesFrom 31 = .ok (.iaload, 1) := by decide +kernel
theorem dX2_comesFrom_32 : decode cX2_comesFrom 32 = .ok (.istore_n 3, 1) := by decide +kernel
theorem dX2_comesFrom_33 : decode cX2_comesFrom 33 = .ok (.iinc 4 1, 3) := by decide +kernel
theorem dX2_comesFrom_36 : decode cX2_comesFrom 36 = .ok (.goto (-31), 3) := by decide +kernel
theorem dX2_comesFrom_39 : decode cX2_comesFrom 39 = .ok (.iconst 0, 1) := by decide +kernel
theorem dX2_comesFrom_40 : decode cX2_comesFrom 40 = .ok (.ireturn, 1) := by decide +kernel
theorem dX2_degree_0 : decode cX2_degree 0 = .ok (.iload_n 1, 1) := by decide +kernel
theorem dX2_degree_1 : decode cX2_degree 1 = .ok (.istore_n 3, 1) := by decide +kernel
theorem dX2_degree_2 : decode cX2_degree 2 = .ok (.iconst 0, 1) := by decide +kernel
theorem dX2_degree_3 : decode cX2_degree 3 = .ok (.istore 4, 2) := by decide +kernel
theorem dX2_degree_5 : decode cX2_degree 5 = .ok (.iload 4, 2) := by decide +kernel
theorem dX2_degree_7 : decode cX2_degree 7 = .ok (.iconst 4, 1) := by decide +kernel
theorem dX2_degree_8 : decode cX2_degree 8 = .ok (.if_icmp .ge 72, 3) := by decide +kernel
theorem dX2_degree_11 : decode cX2_degree 11 = .ok (.aload_n 0, 1) := by decide +kernel
theorem dX2_degree_12 : decode cX2_degree 12 = .ok (.iload_n 3, 1) := by decide +kernel
theorem dX2_degree_13 : decode cX2_degree 13 = .ok (.invokevirtual 53, 3) := by decide +kernel
theorem dX2_degree_16 : decode cX2_degree 16 = .ok (.ifCond .eq 64, 3) := by decide +kernel
theorem dX2_degree_19 : decode cX2_degree 19 = .ok (.iload_n 2, 1) := by decide +kernel
theorem dX2_degree_20 : decode cX2_degree 20 = .ok (.istore 5, 2) := by decide +kernel
theorem dX2_degree_22 : decode cX2_degree 22 = .ok (.iconst 0, 1) := by decide +kernel
theorem dX2_degree_23 : decode cX2_degree 23 = .ok (.istore 6, 2) := by decide +kernel
theorem dX2_degree_25 : decode cX2_degree 25 = .ok (.iload 6, 2) := by decide +kernel
theorem dX2_degree_27 : decode cX2_degree 27 = .ok (.iconst 4, 1) := by decide +kernel
theorem dX2_degree_28 : decode cX2_degree 28 = .ok (.if_icmp .ge 39, 3) := by decide +kernel
theorem dX2_degree_31 : decode cX2_degree 31 = .ok (.aload_n 0, 1) := by decide +kernel
theorem dX2_degree_32 : decode cX2_degree 32 = .ok (.iload 5, 2) := by decide +kernel
theorem dX2_degree_34 : decode cX2_degree 34 = .ok (.invokevirtual 53, 3) := by decide +kernel
theorem dX2_degree_37 : decode cX2_degree 37 = .ok (.ifCond .eq 30, 3) := by decide +kernel
theorem dX2_degree_40 : decode cX2_degree 40 = .ok (.iload_n 3, 1) := by decide +kernel
theorem dX2_degree_41 : decode cX2_degree 41 = .ok (.iload 5, 2) := by decide +kernel
theorem dX2_degree_43 : decode cX2_degree 43 = .ok (.if_icmp .ne 9, 3) := by decide +kernel
theorem dX2_degree_46 : decode cX2_degree 46 = .ok (.iload 4, 2) := by decide +kernel
theorem dX2_degree_48 : decode cX2_degree 48 = .ok (.iload 6, 2) := by decide +kernel
theorem dX2_degree_50 : decode cX2_degree 50 = .ok (.iadd, 1) := by decide +kernel
theorem dX2_degree_51 : decode cX2_degree 51 = .ok (.ireturn, 1) := by decide +kernel
theorem dX2_degree_52 : decode cX2_degree 52 = .ok (.aload_n 0, 1) := by decide +kernel
theorem dX2_degree_53 : decode cX2_degree 53 = .ok (.getfield 34, 3) := by decide +kernel
theorem dX2_degree_56 : decode cX2_degree 56 = .ok (.iload 5, 2) := by decide +kernel
theorem dX2_degree_58 : decode cX2_degree 58 = .ok (.iaload, 1) := by decide +kernel
theorem dX2_degree_59 : decode cX2_degree 59 = .ok (.istore 5, 2) := by decide +kernel
theorem dX2_degree_61 : decode cX2_degree 61 = .ok (.iinc 6 1, 3) := by decide +kernel
theorem dX2_degree_64 : decode cX2_degree 64 = .ok (.goto (-39), 3) := by decide +kernel
theorem dX2_degree_67 : decode cX2_degree 67 = .ok (.aload_n 0, 1) := by decide +kernel
theorem dX2_degree_68 : decode cX2_degree 68 = .ok (.getfield 34, 3) := by decide +kernel
theorem dX2_degree_71 : decode cX2_degree 71 = .ok (.iload_n 3, 1) := by decide +kernel
theorem dX2_degree_72 : decode cX2_degree 72 = .ok (.iaload, 1) := by decide +kernel
theorem dX2_degree_73 : decode cX2_degree 73 = .ok (.istore_n 3, 1) := by decide +kernel
theorem dX2_degree_74 : decode cX2_degree 74 = .ok (.iinc 4 1, 3) := by decide +kernel
theorem dX2_degree_77 : decode cX2_degree 77 = .ok (.goto (-72), 3) := by decide +kernel
theorem dX2_degree_80 : decode cX2_degree 80 = .ok (.bipush (-9), 2) := by decide +kernel
theorem dX2_degree_82 : decode cX2_degree 82 = .ok (.ireturn, 1) := by decide +kernel
theorem dX2_hasDog_0 : decode cX2_hasDog 0 = .ok (.iload_n 1, 1) := by decide +kernel
theorem dX2_hasDog_1 : decode cX2_hasDog 1 = .ok (.ifCond .lt 15, 3) := by decide +kernel
theorem dX2_hasDog_4 : decode cX2_hasDog 4 = .ok (.iload_n 1, 1) := by decide +kernel
theorem dX2_hasDog_5 : decode cX2_hasDog 5 = .ok (.aload_n 0, 1) := by decide +kernel
theorem dX2_hasDog_6 : decode cX2_hasDog 6 = .ok (.getfield 9, 3) := by decide +kernel
theorem dX2_hasDog_9 : decode cX2_hasDog 9 = .ok (.if_icmp .ge 7, 3) := by decide +kernel
theorem dX2_hasDog_12 : decode cX2_hasDog 12 = .ok (.iconst 1, 1) := by decide +kernel
theorem dX2_hasDog_13 : decode cX2_hasDog 13 = .ok (.goto 4, 3) := by decide +kernel
theorem dX2_hasDog_16 : decode cX2_hasDog 16 = .ok (.iconst 0, 1) := by decide +kernel
theorem dX2_hasDog_17 : decode cX2_hasDog 17 = .ok (.ireturn, 1) := by decide +kernel
theorem dX2_hasMan_0 : decode cX2_hasMan 0 = .ok (.iload_n 1, 1) := by decide +kernel
theorem dX2_hasMan_1 : decode cX2_hasMan 1 = .ok (.ifCond .lt 15, 3) := by decide +kernel
theorem dX2_hasMan_4 : decode cX2_hasMan 4 = .ok (.iload_n 1, 1) := by decide +kernel
theorem dX2_hasMan_5 : decode cX2_hasMan 5 = .ok (.aload_n 0, 1) := by decide +kernel
theorem dX2_hasMan_6 : decode cX2_hasMan 6 = .ok (.getfield 15, 3) := by decide +kernel
theorem dX2_hasMan_9 : decode cX2_hasMan 9 = .ok (.if_icmp .ge 7, 3) := by decide +kernel
theorem dX2_hasMan_12 : decode cX2_hasMan 12 = .ok (.iconst 1, 1) := by decide +kernel
theorem dX2_hasMan_13 : decode cX2_hasMan 13 = .ok (.goto 4, 3) := by decide +kernel
theorem dX2_hasMan_16 : decode cX2_hasMan 16 = .ok (.iconst 0, 1) := by decide +kernel
theorem dX2_hasMan_17 : decode cX2_hasMan 17 = .ok (.ireturn, 1) := by decide +kernel
theorem dX2_hasRival_0 : decode cX2_hasRival 0 = .ok (.iconst 0, 1) := by decide +kernel
theorem dX2_hasRival_1 : decode cX2_hasRival 1 = .ok (.istore_n 2, 1) := by decide +kernel
theorem dX2_hasRival_2 : decode cX2_hasRival 2 = .ok (.iload_n 2, 1) := by decide +kernel
theorem dX2_hasRival_3 : decode cX2_hasRival 3 = .ok (.aload_n 0, 1) := by decide +kernel
theorem dX2_hasRival_4 : decode cX2_hasRival 4 = .ok (.getfield 9, 3) := by decide +kernel
theorem dX2_hasRival_7 : decode cX2_hasRival 7 = .ok (.if_icmp .ge 31, 3) := by decide +kernel
theorem dX2_hasRival_10 : decode cX2_hasRival 10 = .ok (.iload_n 2, 1) := by decide +kernel
theorem dX2_hasRival_11 : decode cX2_hasRival 11 = .ok (.iload_n 1, 1) := by decide +kernel
theorem dX2_hasRival_12 : decode cX2_hasRival 12 = .ok (.if_icmp .eq 20, 3) := by decide +kernel
theorem dX2_hasRival_15 : decode cX2_hasRival 15 = .ok (.aload_n 0, 1) := by decide +kernel
theorem dX2_hasRival_16 : decode cX2_hasRival 16 = .ok (.getfield 28, 3) := by decide +kernel
theorem dX2_hasRival_19 : decode cX2_hasRival 19 = .ok (.iload_n 2, 1) := by decide +kernel
theorem dX2_hasRival_20 : decode cX2_hasRival 20 = .ok (.iaload, 1) := by decide +kernel
theorem dX2_hasRival_21 : decode cX2_hasRival 21 = .ok (.aload_n 0, 1) := by decide +kernel
theorem dX2_hasRival_22 : decode cX2_hasRival 22 = .ok (.getfield 28, 3) := by decide +kernel
theorem dX2_hasRival_25 : decode cX2_hasRival 25 = .ok (.iload_n 1, 1) := by decide +kernel
theorem dX2_hasRival_26 : decode cX2_hasRival 26 = .ok (.iaload, 1) := by decide +kernel
theorem dX2_hasRival_27 : decode cX2_hasRival 27 = .ok (.if_icmp .ne 5, 3) := by decide +kernel
theorem dX2_hasRival_30 : decode cX2_hasRival 30 = .ok (.iconst 1, 1) := by decide +kernel
theorem dX2_hasRival_31 : decode cX2_hasRival 31 = .ok (.ireturn, 1) := by decide +kernel
theorem dX2_hasRival_32 : decode cX2_hasRival 32 = .ok (.iinc 2 1, 3) := by decide +kernel
theorem dX2_hasRival_35 : decode cX2_hasRival 35 = .ok (.goto (-33), 3) := by decide +kernel
theorem dX2_hasRival_38 : decode cX2_hasRival 38 = .ok (.iconst 0, 1) := by decide +kernel
theorem dX2_hasRival_39 : decode cX2_hasRival 39 = .ok (.ireturn, 1) := by decide +kernel
theorem dX2_inheritsBefore_0 : decode cX2_inheritsBefore 0 = .ok (.aload_n 0, 1) := by decide +kernel
theorem dX2_inheritsBefore_1 : decode cX2_inheritsBefore 1 = .ok (.iload_n 3, 1) := by decide +kernel
theorem dX2_inheritsBefore_2 : decode cX2_inheritsBefore 2 = .ok (.invokevirtual 53, 3) := by decide +kernel
theorem dX2_inheritsBefore_5 : decode cX2_inheritsBefore 5 = .ok (.ifCond .ne 5, 3) := by decide +kernel
theorem dX2_inheritsBefore_8 : decode cX2_inheritsBefore 8 = .ok (.iconst 1, 1) := by decide +kernel
theorem dX2_inheritsBefore_9 : decode cX2_inheritsBefore 9 = .ok (.ireturn, 1) := by decide +kernel
theorem dX2_inheritsBefore_10 : decode cX2_inheritsBefore 10 = .ok (.aload_n 0, 1) := by decide +kernel
theorem dX2_inheritsBefore_11 : decode cX2_inheritsBefore 11 = .ok (.iload_n 1, 1) := by decide +kernel
theorem dX2_inheritsBefore_12 : decode cX2_inheritsBefore 12 = .ok (.iload_n 3, 1) := by decide +kernel
theorem dX2_inheritsBefore_13 : decode cX2_inheritsBefore 13 = .ok (.invokevirtual 57, 3) := by decide +kernel
theorem dX2_inheritsBefore_16 : decode cX2_inheritsBefore 16 = .ok (.aload_n 0, 1) := by decide +kernel
theorem dX2_inheritsBefore_17 : decode cX2_inheritsBefore 17 = .ok (.iload_n 1, 1) := by decide +kernel
theorem dX2_inheritsBefore_18 : decode cX2_inheritsBefore 18 = .ok (.iload_n 2, 1) := by decide +kernel
theorem dX2_inheritsBefore_19 : decode cX2_inheritsBefore 19 = .ok (.invokevirtual 57, 3) := by decide +kernel
theorem dX2_inheritsBefore_22 : decode cX2_inheritsBefore 22 = .ok (.isub, 1) := by decide +kernel
theorem dX2_inheritsBefore_23 : decode cX2_inheritsBefore 23 = .ok (.istore 4, 2) := by decide +kernel
theorem dX2_inheritsBefore_25 : decode cX2_inheritsBefore 25 = .ok (.iload 4, 2) := by decide +kernel
theorem dX2_inheritsBefore_27 : decode cX2_inheritsBefore 27 = .ok (.ifCond .gt 23, 3) := by decide +kernel
theorem dX2_inheritsBefore_30 : decode cX2_inheritsBefore 30 = .ok (.iload 4, 2) := by decide +kernel
theorem dX2_inheritsBefore_32 : decode cX2_inheritsBefore 32 = .ok (.ifCond .ne 22, 3) := by decide +kernel
theorem dX2_inheritsBefore_35 : decode cX2_inheritsBefore 35 = .ok (.aload_n 0, 1) := by decide +kernel
theorem dX2_inheritsBefore_36 : decode cX2_inheritsBefore 36 = .ok (.getfield 28, 3) := by decide +kernel
theorem dX2_inheritsBefore_39 : decode cX2_inheritsBefore 39 = .ok (.iload_n 2, 1) := by decide +kernel
theorem dX2_inheritsBefore_40 : decode cX2_inheritsBefore 40 = .ok (.iaload, 1) := by decide +kernel
theorem dX2_inheritsBefore_41 : decode cX2_inheritsBefore 41 = .ok (.aload_n 0, 1) := by decide +kernel
theorem dX2_inheritsBefore_42 : decode cX2_inheritsBefore 42 = .ok (.getfield 28, 3) := by decide +kernel
theorem dX2_inheritsBefore_45 : decode cX2_inheritsBefore 45 = .ok (.iload_n 3, 1) := by decide +kernel
theorem dX2_inheritsBefore_46 : decode cX2_inheritsBefore 46 = .ok (.iaload, 1) := by decide +kernel
theorem dX2_inheritsBefore_47 : decode cX2_inheritsBefore 47 = .ok (.if_icmp .le 7, 3) := by decide +kernel
theorem dX2_inheritsBefore_50 : decode cX2_inheritsBefore 50 = .ok (.iconst 1, 1) := by decide +kernel
theorem dX2_inheritsBefore_51 : decode cX2_inheritsBefore 51 = .ok (.goto 4, 3) := by decide +kernel
theorem dX2_inheritsBefore_54 : decode cX2_inheritsBefore 54 = .ok (.iconst 0, 1) := by decide +kernel
theorem dX2_inheritsBefore_55 : decode cX2_inheritsBefore 55 = .ok (.ireturn, 1) := by decide +kernel
theorem dX2_init_0 : decode cX2_init 0 = .ok (.aload_n 0, 1) := by decide +kernel
theorem dX2_init_1 : decode cX2_init 1 = .ok (.invokespecial 3, 3) := by decide +kernel
theorem dX2_init_4 : decode cX2_init 4 = .ok (.aload_n 0, 1) := by decide +kernel
theorem dX2_init_5 : decode cX2_init 5 = .ok (.iconst 0, 1) := by decide +kernel
theorem dX2_init_6 : decode cX2_init 6 = .ok (.putfield 9, 3) := by decide +kernel
theorem dX2_init_9 : decode cX2_init 9 = .ok (.aload_n 0, 1) := by decide +kernel
theorem dX2_init_10 : decode cX2_init 10 = .ok (.iconst 0, 1) := by decide +kernel
theorem dX2_init_11 : decode cX2_init 11 = .ok (.putfield 15, 3) := by decide +kernel
theorem dX2_init_14 : decode cX2_init 14 = .ok (.aload_n 0, 1) := by decide +kernel
theorem dX2_init_15 : decode cX2_init 15 = .ok (.bipush 12, 2) := by decide +kernel
theorem dX2_init_17 : decode cX2_init 17 = .ok (.putfield 18, 3) := by decide +kernel
theorem dX2_init_20 : decode cX2_init 20 = .ok (.aload_n 0, 1) := by decide +kernel
theorem dX2_init_21 : decode cX2_init 21 = .ok (.iconst 0, 1) := by decide +kernel
theorem dX2_init_22 : decode cX2_init 22 = .ok (.putfield 21, 3) := by decide +kernel
theorem dX2_init_25 : decode cX2_init 25 = .ok (.aload_n 0, 1) := by decide +kernel
theorem dX2_init_26 : decode cX2_init 26 = .ok (.iconst 4, 1) := by decide +kernel
theorem dX2_init_27 : decode cX2_init 27 = .ok (.newarray .int, 2) := by decide +kernel
theorem dX2_init_29 : decode cX2_init 29 = .ok (.putfield 24, 3) := by decide +kernel
theorem dX2_init_32 : decode cX2_init 32 = .ok (.aload_n 0, 1) := by decide +kernel
theorem dX2_init_33 : decode cX2_init 33 = .ok (.iconst 4, 1) := by decide +kernel
theorem dX2_init_34 : decode cX2_init 34 = .ok (.newarray .int, 2) := by decide +kernel
theorem dX2_init_36 : decode cX2_init 36 = .ok (.putfield 28, 3) := by decide +kernel
theorem dX2_init_39 : decode cX2_init 39 = .ok (.aload_n 0, 1) := by decide +kernel
theorem dX2_init_40 : decode cX2_init 40 = .ok (.iconst 4, 1) := by decide +kernel
theorem dX2_init_41 : decode cX2_init 41 = .ok (.newarray .int, 2) := by decide +kernel
theorem dX2_init_43 : decode cX2_init 43 = .ok (.putfield 31, 3) := by decide +kernel
theorem dX2_init_46 : decode cX2_init 46 = .ok (.aload_n 0, 1) := by decide +kernel
theorem dX2_init_47 : decode cX2_init 47 = .ok (.iconst 4, 1) := by decide +kernel
theorem dX2_init_48 : decode cX2_init 48 = .ok (.newarray .int, 2) := by decide +kernel
theorem dX2_init_50 : decode cX2_init 50 = .ok (.putfield 34, 3) := by decide +kernel
theorem dX2_init_53 : decode cX2_init 53 = .ok (.return_, 1) := by decide +kernel
theorem dX2_mayParent_0 : decode cX2_mayParent 0 = .ok (.iload_n 1, 1) := by decide +kernel
theorem dX2_mayParent_1 : decode cX2_mayParent 1 = .ok (.iload_n 2, 1) := by decide +kernel
theorem dX2_mayParent_2 : decode cX2_mayParent 2 = .ok (.if_icmp .eq 27, 3) := by decide +kernel
theorem dX2_mayParent_5 : decode cX2_mayParent 5 = .ok (.aload_n 0, 1) := by decide +kernel
theorem dX2_mayParent_6 : decode cX2_mayParent 6 = .ok (.getfield 34, 3) := by decide +kernel
theorem dX2_mayParent_9 : decode cX2_mayParent 9 = .ok (.iload_n 2, 1) := by decide +kernel
theorem dX2_mayParent_10 : decode cX2_mayParent 10 = .ok (.iaload, 1) := by decide +kernel
theorem dX2_mayParent_11 : decode cX2_mayParent 11 = .ok (.bipush (-9), 2) := by decide +kernel
theorem dX2_mayParent_13 : decode cX2_mayParent 13 = .ok (.if_icmp .ne 16, 3) := by decide +kernel
theorem dX2_mayParent_16 : decode cX2_mayParent 16 = .ok (.aload_n 0, 1) := by decide +kernel
theorem dX2_mayParent_17 : decode cX2_mayParent 17 = .ok (.iload_n 1, 1) := by decide +kernel
theorem dX2_mayParent_18 : decode cX2_mayParent 18 = .ok (.iload_n 2, 1) := by decide +kernel
theorem dX2_mayParent_19 : decode cX2_mayParent 19 = .ok (.invokevirtual 49, 3) := by decide +kernel
theorem dX2_mayParent_22 : decode cX2_mayParent 22 = .ok (.ifCond .ne 7, 3) := by decide +kernel
theorem dX2_mayParent_25 : decode cX2_mayParent 25 = .ok (.iconst 1, 1) := by decide +kernel
theorem dX2_mayParent_26 : decode cX2_mayParent 26 = .ok (.goto 4, 3) := by decide +kernel
theorem dX2_mayParent_29 : decode cX2_mayParent 29 = .ok (.iconst 0, 1) := by decide +kernel
theorem dX2_mayParent_30 : decode cX2_mayParent 30 = .ok (.ireturn, 1) := by decide +kernel
theorem dX2_mayParentSome_0 : decode cX2_mayParentSome 0 = .ok (.iconst 0, 1) := by decide +kernel
theorem dX2_mayParentSome_1 : decode cX2_mayParentSome 1 = .ok (.istore_n 1, 1) := by decide +kernel
theorem dX2_mayParentSome_2 : decode cX2_mayParentSome 2 = .ok (.iconst 0, 1) := by decide +kernel
theorem dX2_mayParentSome_3 : decode cX2_mayParentSome 3 = .ok (.istore_n 2, 1) := by decide +kernel
theorem dX2_mayParentSome_4 : decode cX2_mayParentSome 4 = .ok (.iload_n 2, 1) := by decide +kernel
theorem dX2_mayParentSome_5 : decode cX2_mayParentSome 5 = .ok (.aload_n 0, 1) := by decide +kernel
theorem dX2_mayParentSome_6 : decode cX2_mayParentSome 6 = .ok (.getfield 9, 3) := by decide +kernel
theorem dX2_mayParentSome_9 : decode cX2_mayParentSome 9 = .ok (.if_icmp .ge 28, 3) := by decide +kernel
theorem dX2_mayParentSome_12 : decode cX2_mayParentSome 12 = .ok (.iload_n 1, 1) := by decide +kernel
theorem dX2_mayParentSome_13 : decode cX2_mayParentSome 13 = .ok (.aload_n 0, 1) := by decide +kernel
theorem dX2_mayParentSome_14 : decode cX2_mayParentSome 14 = .ok (.getfield 34, 3) := by decide +kernel
theorem dX2_mayParentSome_17 : decode cX2_mayParentSome 17 = .ok (.iload_n 2, 1) := by decide +kernel
theorem dX2_mayParentSome_18 : decode cX2_mayParentSome 18 = .ok (.iaload, 1) := by decide +kernel
theorem dX2_mayParentSome_19 : decode cX2_mayParentSome 19 = .ok (.bipush (-9), 2) := by decide +kernel
theorem dX2_mayParentSome_21 : decode cX2_mayParentSome 21 = .ok (.if_icmp .ne 7, 3) := by decide +kernel
theorem dX2_mayParentSome_24 : decode cX2_mayParentSome 24 = .ok (.iconst 1, 1) := by decide +kernel
theorem dX2_mayParentSome_25 : decode cX2_mayParentSome 25 = .ok (.goto 4, 3) := by decide +kernel
theorem dX2_mayParentSome_28 : decode cX2_mayParentSome 28 = .ok (.iconst 0, 1) := by decide +kernel
theorem dX2_mayParentSome_29 : decode cX2_mayParentSome 29 = .ok (.iadd, 1) := by decide +kernel
theorem dX2_mayParentSome_30 : decode cX2_mayParentSome 30 = .ok (.istore_n 1, 1) := by decide +kernel
theorem dX2_mayParentSome_31 : decode cX2_mayParentSome 31 = .ok (.iinc 2 1, 3) := by decide +kernel
theorem dX2_mayParentSome_34 : decode cX2_mayParentSome 34 = .ok (.goto (-30), 3) := by decide +kernel
theorem dX2_mayParentSome_37 : decode cX2_mayParentSome 37 = .ok (.iload_n 1, 1) := by decide +kernel
theorem dX2_mayParentSome_38 : decode cX2_mayParentSome 38 = .ok (.iconst 1, 1) := by decide +kernel
theorem dX2_mayParentSome_39 : decode cX2_mayParentSome 39 = .ok (.if_icmp .le 7, 3) := by decide +kernel
theorem dX2_mayParentSome_42 : decode cX2_mayParentSome 42 = .ok (.iconst 1, 1) := by decide +kernel
theorem dX2_mayParentSome_43 : decode cX2_mayParentSome 43 = .ok (.goto 4, 3) := by decide +kernel
theorem dX2_mayParentSome_46 : decode cX2_mayParentSome 46 = .ok (.iconst 0, 1) := by decide +kernel
theorem dX2_mayParentSome_47 : decode cX2_mayParentSome 47 = .ok (.ireturn, 1) := by decide +kernel
theorem dX2_sings_0 : decode cX2_sings 0 = .ok (.aload_n 0, 1) := by decide +kernel
theorem dX2_sings_1 : decode cX2_sings 1 = .ok (.getfield 21, 3) := by decide +kernel
theorem dX2_sings_4 : decode cX2_sings 4 = .ok (.iload_n 1, 1) := by decide +kernel
theorem dX2_sings_5 : decode cX2_sings 5 = .ok (.ishr, 1) := by decide +kernel
theorem dX2_sings_6 : decode cX2_sings 6 = .ok (.iconst 1, 1) := by decide +kernel
theorem dX2_sings_7 : decode cX2_sings 7 = .ok (.iand, 1) := by decide +kernel
theorem dX2_sings_8 : decode cX2_sings 8 = .ok (.iconst 1, 1) := by decide +kernel
theorem dX2_sings_9 : decode cX2_sings 9 = .ok (.if_icmp .ne 7, 3) := by decide +kernel
theorem dX2_sings_12 : decode cX2_sings 12 = .ok (.iconst 1, 1) := by decide +kernel
theorem dX2_sings_13 : decode cX2_sings 13 = .ok (.goto 4, 3) := by decide +kernel
theorem dX2_sings_16 : decode cX2_sings 16 = .ok (.iconst 0, 1) := by decide +kernel
theorem dX2_sings_17 : decode cX2_sings 17 = .ok (.ireturn, 1) := by decide +kernel
theorem dX2_wardenAt_0 : decode cX2_wardenAt 0 = .ok (.aload_n 0, 1) := by decide +kernel
theorem dX2_wardenAt_1 : decode cX2_wardenAt 1 = .ok (.getfield 24, 3) := by decide +kernel
theorem dX2_wardenAt_4 : decode cX2_wardenAt 4 = .ok (.iload_n 1, 1) := by decide +kernel
theorem dX2_wardenAt_5 : decode cX2_wardenAt 5 = .ok (.iconst 4, 1) := by decide +kernel
theorem dX2_wardenAt_6 : decode cX2_wardenAt 6 = .ok (.invokestatic 43, 3) := by decide +kernel
theorem dX2_wardenAt_9 : decode cX2_wardenAt 9 = .ok (.iaload, 1) := by decide +kernel
theorem dX2_wardenAt_10 : decode cX2_wardenAt 10 = .ok (.ireturn, 1) := by decide +kernel
theorem dX3_figure_0 : decode cX3_figure 0 = .ok (.iload_n 0, 1) := by decide +kernel
theorem dX3_figure_1 : decode cX3_figure 1 = .ok (.bipush 48, 2) := by decide +kernel
theorem dX3_figure_3 : decode cX3_figure 3 = .ok (.if_icmp .lt 16, 3) := by decide +kernel
theorem dX3_figure_6 : decode cX3_figure 6 = .ok (.iload_n 0, 1) := by decide +kernel
theorem dX3_figure_7 : decode cX3_figure 7 = .ok (.bipush 57, 2) := by decide +kernel
theorem dX3_figure_9 : decode cX3_figure 9 = .ok (.if_icmp .gt 10, 3) := by decide +kernel
theorem dX3_figure_12 : decode cX3_figure 12 = .ok (.iload_n 0, 1) := by decide +kernel
theorem dX3_figure_13 : decode cX3_figure 13 = .ok (.bipush 48, 2) := by decide +kernel
theorem dX3_figure_15 : decode cX3_figure 15 = .ok (.isub, 1) := by decide +kernel
theorem dX3_figure_16 : decode cX3_figure 16 = .ok (.goto 5, 3) := by decide +kernel
theorem dX3_figure_19 : decode cX3_figure 19 = .ok (.bipush (-9), 2) := by decide +kernel
theorem dX3_figure_21 : decode cX3_figure 21 = .ok (.ireturn, 1) := by decide +kernel
theorem dX3_firstFault_0 : decode cX3_firstFault 0 = .ok (.aload_n 0, 1) := by decide +kernel
theorem dX3_firstFault_1 : decode cX3_firstFault 1 = .ok (.getfield 12, 3) := by decide +kernel
theorem dX3_firstFault_4 : decode cX3_firstFault 4 = .ok (.invokevirtual 35, 3) := by decide +kernel
theorem dX3_firstFault_7 : decode cX3_firstFault 7 = .ok (.aload_n 0, 1) := by decide +kernel
theorem dX3_firstFault_8 : decode cX3_firstFault 8 = .ok (.iconst 0, 1) := by decide +kernel
theorem dX3_firstFault_9 : decode cX3_firstFault 9 = .ok (.putfield 25, 3) := by decide +kernel
theorem dX3_firstFault_12 : decode cX3_firstFault 12 = .ok (.iconst 0, 1) := by decide +kernel
theorem dX3_firstFault_13 : decode cX3_firstFault 13 = .ok (.istore_n 3, 1) := by decide +kernel
theorem dX3_firstFault_14 : decode cX3_firstFault 14 = .ok (.iload_n 3, 1) := by decide +kernel
theorem dX3_firstFault_15 : decode cX3_firstFault 15 = .ok (.iload_n 2, 1) := by decide +kernel
theorem dX3_firstFault_16 : decode cX3_firstFault 16 = .ok (.if_icmp .ge 27, 3) := by decide +kernel
theorem dX3_firstFault_19 : decode cX3_firstFault 19 = .ok (.iload_n 3, 1) := by decide +kernel
theorem dX3_firstFault_20 : decode cX3_firstFault 20 = .ok (.aload_n 1, 1) := by decide +kernel
theorem dX3_firstFault_21 : decode cX3_firstFault 21 = .ok (.arraylength, 1) := by decide +kernel
theorem dX3_firstFault_22 : decode cX3_firstFault 22 = .ok (.if_icmp .ge 21, 3) := by decide +kernel
theorem dX3_firstFault_25 : decode cX3_firstFault 25 = .ok (.aload_n 0, 1) := by decide +kernel
theorem dX3_firstFault_26 : decode cX3_firstFault 26 = .ok (.aload_n 1, 1) := by decide +kernel
theorem dX3_firstFault_27 : decode cX3_firstFault 27 = .ok (.iload_n 3, 1) := by decide +kernel
theorem dX3_firstFault_28 : decode cX3_firstFault 28 = .ok (.iaload, 1) := by decide +kernel
theorem dX3_firstFault_29 : decode cX3_firstFault 29 = .ok (.invokevirtual 38, 3) := by decide +kernel
theorem dX3_firstFault_32 : decode cX3_firstFault 32 = .ok (.ifCond .ne 5, 3) := by decide +kernel
theorem dX3_firstFault_35 : decode cX3_firstFault 35 = .ok (.iload_n 3, 1) := by decide +kernel
theorem dX3_firstFault_36 : decode cX3_firstFault 36 = .ok (.ireturn, 1) := by decide +kernel
theorem dX3_firstFault_37 : decode cX3_firstFault 37 = .ok (.iinc 3 1, 3) := by decide +kernel
theorem dX3_firstFault_40 : decode cX3_firstFault 40 = .ok (.goto (-26), 3) := by decide +kernel
theorem dX3_firstFault_43 : decode cX3_firstFault 43 = .ok (.aload_n 0, 1) := by decide +kernel
theorem dX3_firstFault_44 : decode cX3_firstFault 44 = .ok (.getfield 25, 3) := by decide +kernel
theorem dX3_firstFault_47 : decode cX3_firstFault 47 = .ok (.iconst 1, 1) := by decide +kernel
theorem dX3_firstFault_48 : decode cX3_firstFault 48 = .ok (.if_icmp .ne 8, 3) := by decide +kernel
theorem dX3_firstFault_51 : decode cX3_firstFault 51 = .ok (.bipush (-9), 2) := by decide +kernel
theorem dX3_firstFault_53 : decode cX3_firstFault 53 = .ok (.goto 4, 3) := by decide +kernel
theorem dX3_firstFault_56 : decode cX3_firstFault 56 = .ok (.iload_n 2, 1) := by decide +kernel
theorem dX3_firstFault_57 : decode cX3_firstFault 57 = .ok (.ireturn, 1) := by decide +kernel
theorem dX3_goesOn_0 : decode cX3_goesOn 0 = .ok (.aload_n 0, 1) := by decide +kernel
theorem dX3_goesOn_1 : decode cX3_goesOn 1 = .ok (.dup, 1) := by decide +kernel
theorem dX3_goesOn_2 : decode cX3_goesOn 2 = .ok (.getfield 29, 3) := by decide +kernel
theorem dX3_goesOn_5 : decode cX3_goesOn 5 = .ok (.iconst 1, 1) := by decide +kernel
theorem dX3_goesOn_6 : decode cX3_goesOn 6 = .ok (.iadd, 1) := by decide +kernel
theorem dX3_goesOn_7 : decode cX3_goesOn 7 = .ok (.putfield 29, 3) := by decide +kernel
theorem dX3_goesOn_10 : decode cX3_goesOn 10 = .ok (.aload_n 0, 1) := by decide +kernel
theorem dX3_goesOn_11 : decode cX3_goesOn 11 = .ok (.getfield 29, 3) := by decide +kernel
theorem dX3_goesOn_14 : decode cX3_goesOn 14 = .ok (.iload_n 2, 1) := by decide +kernel
theorem dX3_goesOn_15 : decode cX3_goesOn 15 = .ok (.if_icmp .ne 8, 3) := by decide +kernel
theorem dX3_goesOn_18 : decode cX3_goesOn 18 = .ok (.aload_n 0, 1) := by decide +kernel
theorem dX3_goesOn_19 : decode cX3_goesOn 19 = .ok (.iconst 1, 1) := by decide +kernel
theorem dX3_goesOn_20 : decode cX3_goesOn 20 = .ok (.putfield 25, 3) := by decide +kernel
theorem dX3_goesOn_23 : decode cX3_goesOn 23 = .ok (.iload_n 1, 1) := by decide +kernel
theorem dX3_goesOn_24 : decode cX3_goesOn 24 = .ok (.ireturn, 1) := by decide +kernel
theorem dX3_init_0 : decode cX3_init 0 = .ok (.aload_n 0, 1) := by decide +kernel
theorem dX3_init_1 : decode cX3_init 1 = .ok (.invokespecial 3, 3) := by decide +kernel
theorem dX3_init_4 : decode cX3_init 4 = .ok (.aload_n 0, 1) := by decide +kernel
theorem dX3_init_5 : decode cX3_init 5 = .ok (.new 9, 3) := by decide +kernel
theorem dX3_init_8 : decode cX3_init 8 = .ok (.dup, 1) := by decide +kernel
theorem dX3_init_9 : decode cX3_init 9 = .ok (.invokespecial 11, 3) := by decide +kernel
theorem dX3_init_12 : decode cX3_init 12 = .ok (.putfield 12, 3) := by decide +kernel
theorem dX3_init_15 : decode cX3_init 15 = .ok (.aload_n 0, 1) := by decide +kernel
theorem dX3_init_16 : decode cX3_init 16 = .ok (.new 18, 3) := by decide +kernel
theorem dX3_init_19 : decode cX3_init 19 = .ok (.dup, 1) := by decide +kernel
theorem dX3_init_20 : decode cX3_init 20 = .ok (.invokespecial 20, 3) := by decide +kernel
theorem dX3_init_23 : decode cX3_init 23 = .ok (.putfield 21, 3) := by decide +kernel
theorem dX3_init_26 : decode cX3_init 26 = .ok (.aload_n 0, 1) := by decide +kernel
theorem dX3_init_27 : decode cX3_init 27 = .ok (.iconst 0, 1) := by decide +kernel
theorem dX3_init_28 : decode cX3_init 28 = .ok (.putfield 25, 3) := by decide +kernel
theorem dX3_init_31 : decode cX3_init 31 = .ok (.aload_n 0, 1) := by decide +kernel
theorem dX3_init_32 : decode cX3_init 32 = .ok (.iconst 0, 1) := by decide +kernel
theorem dX3_init_33 : decode cX3_init 33 = .ok (.putfield 29, 3) := by decide +kernel
theorem dX3_init_36 : decode cX3_init 36 = .ok (.aload_n 0, 1) := by decide +kernel
theorem dX3_init_37 : decode cX3_init 37 = .ok (.iconst 0, 1) := by decide +kernel
theorem dX3_init_38 : decode cX3_init 38 = .ok (.putfield 32, 3) := by decide +kernel
theorem dX3_init_41 : decode cX3_init 41 = .ok (.return_, 1) := by decide +kernel
theorem dX3_isStreet_0 : decode cX3_isStreet 0 = .ok (.iload_n 0, 1) := by decide +kernel
theorem dX3_isStreet_1 : decode cX3_isStreet 1 = .ok (.ifCond .lt 12, 3) := by decide +kernel
theorem dX3_isStreet_4 : decode cX3_isStreet 4 = .ok (.iload_n 0, 1) := by decide +kernel
theorem dX3_isStreet_5 : decode cX3_isStreet 5 = .ok (.iconst 5, 1) := by decide +kernel
theorem dX3_isStreet_6 : decode cX3_isStreet 6 = .ok (.if_icmp .ge 7, 3) := by decide +kernel
theorem dX3_isStreet_9 : decode cX3_isStreet 9 = .ok (.iconst 1, 1) := by decide +kernel
theorem dX3_isStreet_10 : decode cX3_isStreet 10 = .ok (.goto 4, 3) := by decide +kernel
theorem dX3_isStreet_13 : decode cX3_isStreet 13 = .ok (.iconst 0, 1) := by decide +kernel
theorem dX3_isStreet_14 : decode cX3_isStreet 14 = .ok (.ireturn, 1) := by decide +kernel
theorem dX3_mayOpen_0 : decode cX3_mayOpen 0 = .ok (.iload_n 1, 1) := by decide +kernel
theorem dX3_mayOpen_1 : decode cX3_mayOpen 1 = .ok (.lookupswitch 77 #[(68, 35), (77, 52), (80, 69)], 35) := by decide +kernel
theorem dX3_mayOpen_36 : decode cX3_mayOpen 36 = .ok (.aload_n 0, 1) := by decide +kernel
theorem dX3_mayOpen_37 : decode cX3_mayOpen 37 = .ok (.getfield 12, 3) := by decide +kernel
theorem dX3_mayOpen_40 : decode cX3_mayOpen 40 = .ok (.getfield 68, 3) := by decide +kernel
theorem dX3_mayOpen_43 : decode cX3_mayOpen 43 = .ok (.iconst 4, 1) := by decide +kernel
theorem dX3_mayOpen_44 : decode cX3_mayOpen 44 = .ok (.if_icmp .ge 7, 3) := by decide +kernel
theorem dX3_mayOpen_47 : decode cX3_mayOpen 47 = .ok (.iconst 1, 1) := by decide +kernel
theorem dX3_mayOpen_48 : decode cX3_mayOpen 48 = .ok (.goto 4, 3) := by decide +kernel
theorem dX3_mayOpen_51 : decode cX3_mayOpen 51 = .ok (.iconst 0, 1) := by decide +kernel
theorem dX3_mayOpen_52 : decode cX3_mayOpen 52 = .ok (.ireturn, 1) := by decide +kernel
theorem dX3_mayOpen_53 : decode cX3_mayOpen 53 = .ok (.aload_n 0, 1) := by decide +kernel
theorem dX3_mayOpen_54 : decode cX3_mayOpen 54 = .ok (.getfield 12, 3) := by decide +kernel
theorem dX3_mayOpen_57 : decode cX3_mayOpen 57 = .ok (.getfield 71, 3) := by decide +kernel
theorem dX3_mayOpen_60 : decode cX3_mayOpen 60 = .ok (.iconst 5, 1) := by decide +kernel
theorem dX3_mayOpen_61 : decode cX3_mayOpen 61 = .ok (.if_icmp .ge 7, 3) := by decide +kernel
theorem dX3_mayOpen_64 : decode cX3_mayOpen 64 = .ok (.iconst 1, 1) := by decide +kernel
theorem dX3_mayOpen_65 : decode cX3_mayOpen 65 = .ok (.goto 4, 3) := by decide +kernel
theorem dX3_mayOpen_68 : decode cX3_mayOpen 68 = .ok (.iconst 0, 1) := by decide +kernel
theorem dX3_mayOpen_69 : decode cX3_mayOpen 69 = .ok (.ireturn, 1) := by decide +kernel
theorem dX3_mayOpen_70 : decode cX3_mayOpen 70 = .ok (.aload_n 0, 1) := by decide +kernel
theorem dX3_mayOpen_71 : decode cX3_mayOpen 71 = .ok (.getfield 12, 3) := by decide +kernel
theorem dX3_mayOpen_74 : decode cX3_mayOpen 74 = .ok (.invokevirtual 74, 3) := by decide +kernel
theorem dX3_mayOpen_77 : decode cX3_mayOpen 77 = .ok (.ireturn, 1) := by decide +kernel
theorem dX3_mayOpen_78 : decode cX3_mayOpen 78 = .ok (.iconst 0, 1) := by decide +kernel
theorem dX3_mayOpen_79 : decode cX3_mayOpen 79 = .ok (.ireturn, 1) := by decide +kernel
theorem dX3_opens_0 : decode cX3_opens 0 = .ok (.aload_n 0, 1) := by decide +kernel
theorem dX3_opens_1 : decode cX3_opens 1 = .ok (.iload_n 1, 1) := by decide +kernel
theorem dX3_opens_2 : decode cX3_opens 2 = .ok (.putfield 25, 3) := by decide +kernel
theorem dX3_opens_5 : decode cX3_opens 5 = .ok (.aload_n 0, 1) := by decide +kernel
theorem dX3_opens_6 : decode cX3_opens 6 = .ok (.iconst 1, 1) := by decide +kernel
theorem dX3_opens_7 : decode cX3_opens 7 = .ok (.putfield 29, 3) := by decide +kernel
theorem dX3_opens_10 : decode cX3_opens 10 = .ok (.iconst 1, 1) := by decide +kernel
theorem dX3_opens_11 : decode cX3_opens 11 = .ok (.ireturn, 1) := by decide +kernel
theorem dX3_takes_0 : decode cX3_takes 0 = .ok (.aload_n 0, 1) := by decide +kernel
theorem dX3_takes_1 : decode cX3_takes 1 = .ok (.getfield 25, 3) := by decide +kernel
theorem dX3_takes_4 : decode cX3_takes 4 = .ok (.lookupswitch 134 #[(0, 52), (1, 72), (68, 109), (76, 94), (77, 123)], 52) := by decide +kernel
theorem dX3_takes_56 : decode cX3_takes 56 = .ok (.iload_n 1, 1) := by decide +kernel
theorem dX3_takes_57 : decode cX3_takes 57 = .ok (.bipush 76, 2) := by decide +kernel
theorem dX3_takes_59 : decode cX3_takes 59 = .ok (.if_icmp .ne 15, 3) := by decide +kernel
theorem dX3_takes_62 : decode cX3_takes 62 = .ok (.aload_n 0, 1) := by decide +kernel
theorem dX3_takes_63 : decode cX3_takes 63 = .ok (.iload_n 1, 1) := by decide +kernel
theorem dX3_takes_64 : decode cX3_takes 64 = .ok (.invokevirtual 42, 3) := by decide +kernel
theorem dX3_takes_67 : decode cX3_takes 67 = .ok (.ifCond .eq 7, 3) := by decide +kernel
theorem dX3_takes_70 : decode cX3_takes 70 = .ok (.iconst 1, 1) := by decide +kernel
theorem dX3_takes_71 : decode cX3_takes 71 = .ok (.goto 4, 3) := by decide +kernel
theorem dX3_takes_74 : decode cX3_takes 74 = .ok (.iconst 0, 1) := by decide +kernel
theorem dX3_takes_75 : decode cX3_takes 75 = .ok (.ireturn, 1) := by decide +kernel
theorem dX3_takes_76 : decode cX3_takes 76 = .ok (.aload_n 0, 1) := by decide +kernel
theorem dX3_takes_77 : decode cX3_takes 77 = .ok (.iload_n 1, 1) := by decide +kernel
theorem dX3_takes_78 : decode cX3_takes 78 = .ok (.invokevirtual 45, 3) := by decide +kernel
theorem dX3_takes_81 : decode cX3_takes 81 = .ok (.ifCond .eq 15, 3) := by decide +kernel
theorem dX3_takes_84 : decode cX3_takes 84 = .ok (.aload_n 0, 1) := by decide +kernel
theorem dX3_takes_85 : decode cX3_takes 85 = .ok (.iload_n 1, 1) := by decide +kernel
theorem dX3_takes_86 : decode cX3_takes 86 = .ok (.invokevirtual 42, 3) := by decide +kernel
theorem dX3_takes_89 : decode cX3_takes 89 = .ok (.ifCond .eq 7, 3) := by decide +kernel
theorem dX3_takes_92 : decode cX3_takes 92 = .ok (.iconst 1, 1) := by decide +kernel
theorem dX3_takes_93 : decode cX3_takes 93 = .ok (.goto 4, 3) := by decide +kernel
theorem dX3_takes_96 : decode cX3_takes 96 = .ok (.iconst 0, 1) := by decide +kernel
theorem dX3_takes_97 : decode cX3_takes 97 = .ok (.ireturn, 1) := by decide +kernel
theorem dX3_takes_98 : decode cX3_takes 98 = .ok (.aload_n 0, 1) := by decide +kernel
theorem dX3_takes_99 : decode cX3_takes 99 = .ok (.aload_n 0, 1) := by decide +kernel
theorem dX3_takes_100 : decode cX3_takes 100 = .ok (.iload_n 1, 1) := by decide +kernel
theorem dX3_takes_101 : decode cX3_takes 101 = .ok (.invokestatic 48, 3) := by decide +kernel
theorem dX3_takes_104 : decode cX3_takes 104 = .ok (.invokevirtual 52, 3) := by decide +kernel
theorem dX3_takes_107 : decode cX3_takes 107 = .ok (.bipush 7, 2) := by decide +kernel
theorem dX3_takes_109 : decode cX3_takes 109 = .ok (.invokevirtual 55, 3) := by decide +kernel
theorem dX3_takes_112 : decode cX3_takes 112 = .ok (.ireturn, 1) := by decide +kernel
theorem dX3_takes_113 : decode cX3_takes 113 = .ok (.aload_n 0, 1) := by decide +kernel
theorem dX3_takes_114 : decode cX3_takes 114 = .ok (.aload_n 0, 1) := by decide +kernel
theorem dX3_takes_115 : decode cX3_takes 115 = .ok (.iload_n 1, 1) := by decide +kernel
theorem dX3_takes_116 : decode cX3_takes 116 = .ok (.invokestatic 48, 3) := by decide +kernel
theorem dX3_takes_119 : decode cX3_takes 119 = .ok (.invokevirtual 59, 3) := by decide +kernel
theorem dX3_takes_122 : decode cX3_takes 122 = .ok (.iconst 4, 1) := by decide +kernel
theorem dX3_takes_123 : decode cX3_takes 123 = .ok (.invokevirtual 55, 3) := by decide +kernel
theorem dX3_takes_126 : decode cX3_takes 126 = .ok (.ireturn, 1) := by decide +kernel
theorem dX3_takes_127 : decode cX3_takes 127 = .ok (.aload_n 0, 1) := by decide +kernel
theorem dX3_takes_128 : decode cX3_takes 128 = .ok (.aload_n 0, 1) := by decide +kernel
theorem dX3_takes_129 : decode cX3_takes 129 = .ok (.iload_n 1, 1) := by decide +kernel
theorem dX3_takes_130 : decode cX3_takes 130 = .ok (.invokevirtual 62, 3) := by decide +kernel
theorem dX3_takes_133 : decode cX3_takes 133 = .ok (.iconst 4, 1) := by decide +kernel
theorem dX3_takes_134 : decode cX3_takes 134 = .ok (.invokevirtual 55, 3) := by decide +kernel
theorem dX3_takes_137 : decode cX3_takes 137 = .ok (.ireturn, 1) := by decide +kernel
theorem dX3_takes_138 : decode cX3_takes 138 = .ok (.aload_n 0, 1) := by decide +kernel
theorem dX3_takes_139 : decode cX3_takes 139 = .ok (.aload_n 0, 1) := by decide +kernel
theorem dX3_takes_140 : decode cX3_takes 140 = .ok (.iload_n 1, 1) := by decide +kernel
theorem dX3_takes_141 : decode cX3_takes 141 = .ok (.invokestatic 48, 3) := by decide +kernel
theorem dX3_takes_144 : decode cX3_takes 144 = .ok (.invokevirtual 65, 3) := by decide +kernel
theorem dX3_takes_147 : decode cX3_takes 147 = .ok (.iconst 3, 1) := by decide +kernel
theorem dX3_takes_148 : decode cX3_takes 148 = .ok (.invokevirtual 55, 3) := by decide +kernel
theorem dX3_takes_151 : decode cX3_takes 151 = .ok (.ireturn, 1) := by decide +kernel
theorem dX3_takesDog_0 : decode cX3_takesDog 0 = .ok (.aload_n 0, 1) := by decide +kernel
theorem dX3_takesDog_1 : decode cX3_takesDog 1 = .ok (.getfield 12, 3) := by decide +kernel
theorem dX3_takesDog_4 : decode cX3_takesDog 4 = .ok (.getfield 68, 3) := by decide +kernel
theorem dX3_takesDog_7 : decode cX3_takesDog 7 = .ok (.istore_n 2, 1) := by decide +kernel
theorem dX3_takesDog_8 : decode cX3_takesDog 8 = .ok (.iload_n 2, 1) := by decide +kernel
theorem dX3_takesDog_9 : decode cX3_takesDog 9 = .ok (.iconst 4, 1) := by decide +kernel
theorem dX3_takesDog_10 : decode cX3_takesDog 10 = .ok (.if_icmp .ge 7, 3) := by decide +kernel
theorem dX3_takesDog_13 : decode cX3_takesDog 13 = .ok (.iload_n 1, 1) := by decide +kernel
theorem dX3_takesDog_14 : decode cX3_takesDog 14 = .ok (.ifCond .ge 5, 3) := by decide +kernel
theorem dX3_takesDog_17 : decode cX3_takesDog 17 = .ok (.iconst 0, 1) := by decide +kernel
theorem dX3_takesDog_18 : decode cX3_takesDog 18 = .ok (.ireturn, 1) := by decide +kernel
theorem dX3_takesDog_19 : decode cX3_takesDog 19 = .ok (.aload_n 0, 1) := by decide +kernel
theorem dX3_takesDog_20 : decode cX3_takesDog 20 = .ok (.getfield 29, 3) := by decide +kernel
theorem dX3_takesDog_23 : decode cX3_takesDog 23 = .ok (.iconst 1, 1) := by decide +kernel
theorem dX3_takesDog_24 : decode cX3_takesDog 24 = .ok (.if_icmp .ne 18, 3) := by decide +kernel
theorem dX3_takesDog_27 : decode cX3_takesDog 27 = .ok (.aload_n 0, 1) := by decide +kernel
theorem dX3_takesDog_28 : decode cX3_takesDog 28 = .ok (.getfield 21, 3) := by decide +kernel
theorem dX3_takesDog_31 : decode cX3_takesDog 31 = .ok (.getfield 94, 3) := by decide +kernel
theorem dX3_takesDog_34 : decode cX3_takesDog 34 = .ok (.iload_n 2, 1) := by decide +kernel
theorem dX3_takesDog_35 : decode cX3_takesDog 35 = .ok (.iload_n 1, 1) := by decide +kernel
theorem dX3_takesDog_36 : decode cX3_takesDog 36 = .ok (.iastore, 1) := by decide +kernel
theorem dX3_takesDog_37 : decode cX3_takesDog 37 = .ok (.iload_n 1, 1) := by decide +kernel
theorem dX3_takesDog_38 : decode cX3_takesDog 38 = .ok (.invokestatic 91, 3) := by decide +kernel
theorem dX3_takesDog_41 : decode cX3_takesDog 41 = .ok (.ireturn, 1) := by decide +kernel
theorem dX3_takesDog_42 : decode cX3_takesDog 42 = .ok (.aload_n 0, 1) := by decide +kernel
theorem dX3_takesDog_43 : decode cX3_takesDog 43 = .ok (.getfield 29, 3) := by decide +kernel
theorem dX3_takesDog_46 : decode cX3_takesDog 46 = .ok (.iconst 2, 1) := by decide +kernel
theorem dX3_takesDog_47 : decode cX3_takesDog 47 = .ok (.if_icmp .ne 15, 3) := by decide +kernel
theorem dX3_takesDog_50 : decode cX3_takesDog 50 = .ok (.aload_n 0, 1) := by decide +kernel
theorem dX3_takesDog_51 : decode cX3_takesDog 51 = .ok (.getfield 12, 3) := by decide +kernel
theorem dX3_takesDog_54 : decode cX3_takesDog 54 = .ok (.getfield 97, 3) := by decide +kernel
theorem dX3_takesDog_57 : decode cX3_takesDog 57 = .ok (.iload_n 2, 1) := by decide +kernel
theorem dX3_takesDog_58 : decode cX3_takesDog 58 = .ok (.iload_n 1, 1) := by decide +kernel
theorem dX3_takesDog_59 : decode cX3_takesDog 59 = .ok (.iastore, 1) := by decide +kernel
theorem dX3_takesDog_60 : decode cX3_takesDog 60 = .ok (.iconst 1, 1) := by decide +kernel
theorem dX3_takesDog_61 : decode cX3_takesDog 61 = .ok (.ireturn, 1) := by decide +kernel
theorem dX3_takesDog_62 : decode cX3_takesDog 62 = .ok (.aload_n 0, 1) := by decide +kernel
theorem dX3_takesDog_63 : decode cX3_takesDog 63 = .ok (.getfield 12, 3) := by decide +kernel
theorem dX3_takesDog_66 : decode cX3_takesDog 66 = .ok (.getfield 100, 3) := by decide +kernel
theorem dX3_takesDog_69 : decode cX3_takesDog 69 = .ok (.iload_n 2, 1) := by decide +kernel
theorem dX3_takesDog_70 : decode cX3_takesDog 70 = .ok (.iload_n 1, 1) := by decide +kernel
theorem dX3_takesDog_71 : decode cX3_takesDog 71 = .ok (.iastore, 1) := by decide +kernel
theorem dX3_takesDog_72 : decode cX3_takesDog 72 = .ok (.aload_n 0, 1) := by decide +kernel
theorem dX3_takesDog_73 : decode cX3_takesDog 73 = .ok (.getfield 12, 3) := by decide +kernel
theorem dX3_takesDog_76 : decode cX3_takesDog 76 = .ok (.getfield 103, 3) := by decide +kernel
theorem dX3_takesDog_79 : decode cX3_takesDog 79 = .ok (.iload_n 2, 1) := by decide +kernel
theorem dX3_takesDog_80 : decode cX3_takesDog 80 = .ok (.bipush (-9), 2) := by decide +kernel
theorem dX3_takesDog_82 : decode cX3_takesDog 82 = .ok (.iastore, 1) := by decide +kernel
theorem dX3_takesDog_83 : decode cX3_takesDog 83 = .ok (.aload_n 0, 1) := by decide +kernel
theorem dX3_takesDog_84 : decode cX3_takesDog 84 = .ok (.getfield 12, 3) := by decide +kernel
theorem dX3_takesDog_87 : decode cX3_takesDog 87 = .ok (.dup, 1) := by decide +kernel
theorem dX3_takesDog_88 : decode cX3_takesDog 88 = .ok (.getfield 68, 3) := by decide +kernel
theorem dX3_takesDog_91 : decode cX3_takesDog 91 = .ok (.iconst 1, 1) := by decide +kernel
theorem dX3_takesDog_92 : decode cX3_takesDog 92 = .ok (.iadd, 1) := by decide +kernel
theorem dX3_takesDog_93 : decode cX3_takesDog 93 = .ok (.putfield 68, 3) := by decide +kernel
theorem dX3_takesDog_96 : decode cX3_takesDog 96 = .ok (.iload_n 1, 1) := by decide +kernel
theorem dX3_takesDog_97 : decode cX3_takesDog 97 = .ok (.iconst 1, 1) := by decide +kernel
theorem dX3_takesDog_98 : decode cX3_takesDog 98 = .ok (.if_icmp .lt 12, 3) := by decide +kernel
theorem dX3_takesDog_101 : decode cX3_takesDog 101 = .ok (.iload_n 1, 1) := by decide +kernel
theorem dX3_takesDog_102 : decode cX3_takesDog 102 = .ok (.iconst 3, 1) := by decide +kernel
theorem dX3_takesDog_103 : decode cX3_takesDog 103 = .ok (.if_icmp .gt 7, 3) := by decide +kernel
theorem dX3_takesDog_106 : decode cX3_takesDog 106 = .ok (.iconst 1, 1) := by decide +kernel
theorem dX3_takesDog_107 : decode cX3_takesDog 107 = .ok (.goto 4, 3) := by decide +kernel
theorem dX3_takesDog_110 : decode cX3_takesDog 110 = .ok (.iconst 0, 1) := by decide +kernel
theorem dX3_takesDog_111 : decode cX3_takesDog 111 = .ok (.ireturn, 1) := by decide +kernel
theorem dX3_takesHead_0 : decode cX3_takesHead 0 = .ok (.iload_n 1, 1) := by decide +kernel
theorem dX3_takesHead_1 : decode cX3_takesHead 1 = .ok (.ifCond .ge 5, 3) := by decide +kernel
theorem dX3_takesHead_4 : decode cX3_takesHead 4 = .ok (.iconst 0, 1) := by decide +kernel
theorem dX3_takesHead_5 : decode cX3_takesHead 5 = .ok (.ireturn, 1) := by decide +kernel
theorem dX3_takesHead_6 : decode cX3_takesHead 6 = .ok (.aload_n 0, 1) := by decide +kernel
theorem dX3_takesHead_7 : decode cX3_takesHead 7 = .ok (.getfield 29, 3) := by decide +kernel
theorem dX3_takesHead_10 : decode cX3_takesHead 10 = .ok (.iconst 1, 1) := by decide +kernel
theorem dX3_takesHead_11 : decode cX3_takesHead 11 = .ok (.if_icmp .ne 32, 3) := by decide +kernel
theorem dX3_takesHead_14 : decode cX3_takesHead 14 = .ok (.aload_n 0, 1) := by decide +kernel
theorem dX3_takesHead_15 : decode cX3_takesHead 15 = .ok (.getfield 12, 3) := by decide +kernel
theorem dX3_takesHead_18 : decode cX3_takesHead 18 = .ok (.bipush 10, 2) := by decide +kernel
theorem dX3_takesHead_20 : decode cX3_takesHead 20 = .ok (.iload_n 1, 1) := by decide +kernel
theorem dX3_takesHead_21 : decode cX3_takesHead 21 = .ok (.imul, 1) := by decide +kernel
theorem dX3_takesHead_22 : decode cX3_takesHead 22 = .ok (.putfield 78, 3) := by decide +kernel
theorem dX3_takesHead_25 : decode cX3_takesHead 25 = .ok (.aload_n 0, 1) := by decide +kernel
theorem dX3_takesHead_26 : decode cX3_takesHead 26 = .ok (.getfield 12, 3) := by decide +kernel
theorem dX3_takesHead_29 : decode cX3_takesHead 29 = .ok (.getfield 78, 3) := by decide +kernel
theorem dX3_takesHead_32 : decode cX3_takesHead 32 = .ok (.bipush 12, 2) := by decide +kernel
theorem dX3_takesHead_34 : decode cX3_takesHead 34 = .ok (.if_icmp .gt 7, 3) := by decide +kernel
theorem dX3_takesHead_37 : decode cX3_takesHead 37 = .ok (.iconst 1, 1) := by decide +kernel
theorem dX3_takesHead_38 : decode cX3_takesHead 38 = .ok (.goto 4, 3) := by decide +kernel
theorem dX3_takesHead_41 : decode cX3_takesHead 41 = .ok (.iconst 0, 1) := by decide +kernel
theorem dX3_takesHead_42 : decode cX3_takesHead 42 = .ok (.ireturn, 1) := by decide +kernel
theorem dX3_takesHead_43 : decode cX3_takesHead 43 = .ok (.aload_n 0, 1) := by decide +kernel
theorem dX3_takesHead_44 : decode cX3_takesHead 44 = .ok (.getfield 29, 3) := by decide +kernel
theorem dX3_takesHead_47 : decode cX3_takesHead 47 = .ok (.iconst 2, 1) := by decide +kernel
theorem dX3_takesHead_48 : decode cX3_takesHead 48 = .ok (.if_icmp .ne 34, 3) := by decide +kernel
theorem dX3_takesHead_51 : decode cX3_takesHead 51 = .ok (.aload_n 0, 1) := by decide +kernel
theorem dX3_takesHead_52 : decode cX3_takesHead 52 = .ok (.getfield 12, 3) := by decide +kernel
theorem dX3_takesHead_55 : decode cX3_takesHead 55 = .ok (.dup, 1) := by decide +kernel
theorem dX3_takesHead_56 : decode cX3_takesHead 56 = .ok (.getfield 78, 3) := by decide +kernel
theorem dX3_takesHead_59 : decode cX3_takesHead 59 = .ok (.iload_n 1, 1) := by decide +kernel
theorem dX3_takesHead_60 : decode cX3_takesHead 60 = .ok (.iadd, 1) := by decide +kernel
theorem dX3_takesHead_61 : decode cX3_takesHead 61 = .ok (.putfield 78, 3) := by decide +kernel
theorem dX3_takesHead_64 : decode cX3_takesHead 64 = .ok (.aload_n 0, 1) := by decide +kernel
theorem dX3_takesHead_65 : decode cX3_takesHead 65 = .ok (.getfield 12, 3) := by decide +kernel
theorem dX3_takesHead_68 : decode cX3_takesHead 68 = .ok (.getfield 78, 3) := by decide +kernel
theorem dX3_takesHead_71 : decode cX3_takesHead 71 = .ok (.bipush 12, 2) := by decide +kernel
theorem dX3_takesHead_73 : decode cX3_takesHead 73 = .ok (.if_icmp .gt 7, 3) := by decide +kernel
theorem dX3_takesHead_76 : decode cX3_takesHead 76 = .ok (.iconst 1, 1) := by decide +kernel
theorem dX3_takesHead_77 : decode cX3_takesHead 77 = .ok (.goto 4, 3) := by decide +kernel
theorem dX3_takesHead_80 : decode cX3_takesHead 80 = .ok (.iconst 0, 1) := by decide +kernel
theorem dX3_takesHead_81 : decode cX3_takesHead 81 = .ok (.ireturn, 1) := by decide +kernel
theorem dX3_takesHead_82 : decode cX3_takesHead 82 = .ok (.aload_n 0, 1) := by decide +kernel
theorem dX3_takesHead_83 : decode cX3_takesHead 83 = .ok (.getfield 12, 3) := by decide +kernel
theorem dX3_takesHead_86 : decode cX3_takesHead 86 = .ok (.getfield 81, 3) := by decide +kernel
theorem dX3_takesHead_89 : decode cX3_takesHead 89 = .ok (.aload_n 0, 1) := by decide +kernel
theorem dX3_takesHead_90 : decode cX3_takesHead 90 = .ok (.getfield 29, 3) := by decide +kernel
theorem dX3_takesHead_93 : decode cX3_takesHead 93 = .ok (.iconst 3, 1) := by decide +kernel
theorem dX3_takesHead_94 : decode cX3_takesHead 94 = .ok (.isub, 1) := by decide +kernel
theorem dX3_takesHead_95 : decode cX3_takesHead 95 = .ok (.iconst 4, 1) := by decide +kernel
theorem dX3_takesHead_96 : decode cX3_takesHead 96 = .ok (.invokestatic 85, 3) := by decide +kernel
theorem dX3_takesHead_99 : decode cX3_takesHead 99 = .ok (.iload_n 1, 1) := by decide +kernel
theorem dX3_takesHead_100 : decode cX3_takesHead 100 = .ok (.iastore, 1) := by decide +kernel
theorem dX3_takesHead_101 : decode cX3_takesHead 101 = .ok (.iload_n 1, 1) := by decide +kernel
theorem dX3_takesHead_102 : decode cX3_takesHead 102 = .ok (.invokestatic 91, 3) := by decide +kernel
theorem dX3_takesHead_105 : decode cX3_takesHead 105 = .ok (.ireturn, 1) := by decide +kernel
theorem dX3_takesMan_0 : decode cX3_takesMan 0 = .ok (.aload_n 0, 1) := by decide +kernel
theorem dX3_takesMan_1 : decode cX3_takesMan 1 = .ok (.getfield 12, 3) := by decide +kernel
theorem dX3_takesMan_4 : decode cX3_takesMan 4 = .ok (.getfield 71, 3) := by decide +kernel
theorem dX3_takesMan_7 : decode cX3_takesMan 7 = .ok (.istore_n 2, 1) := by decide +kernel
theorem dX3_takesMan_8 : decode cX3_takesMan 8 = .ok (.iload_n 2, 1) := by decide +kernel
theorem dX3_takesMan_9 : decode cX3_takesMan 9 = .ok (.iconst 5, 1) := by decide +kernel
theorem dX3_takesMan_10 : decode cX3_takesMan 10 = .ok (.if_icmp .lt 5, 3) := by decide +kernel
theorem dX3_takesMan_13 : decode cX3_takesMan 13 = .ok (.iconst 0, 1) := by decide +kernel
theorem dX3_takesMan_14 : decode cX3_takesMan 14 = .ok (.ireturn, 1) := by decide +kernel
theorem dX3_takesMan_15 : decode cX3_takesMan 15 = .ok (.iload_n 1, 1) := by decide +kernel
theorem dX3_takesMan_16 : decode cX3_takesMan 16 = .ok (.invokestatic 48, 3) := by decide +kernel
theorem dX3_takesMan_19 : decode cX3_takesMan 19 = .ok (.istore_n 3, 1) := by decide +kernel
theorem dX3_takesMan_20 : decode cX3_takesMan 20 = .ok (.aload_n 0, 1) := by decide +kernel
theorem dX3_takesMan_21 : decode cX3_takesMan 21 = .ok (.getfield 29, 3) := by decide +kernel
theorem dX3_takesMan_24 : decode cX3_takesMan 24 = .ok (.iconst 1, 1) := by decide +kernel
theorem dX3_takesMan_25 : decode cX3_takesMan 25 = .ok (.if_icmp .ne 51, 3) := by decide +kernel
theorem dX3_takesMan_28 : decode cX3_takesMan 28 = .ok (.aload_n 0, 1) := by decide +kernel
theorem dX3_takesMan_29 : decode cX3_takesMan 29 = .ok (.getfield 21, 3) := by decide +kernel
theorem dX3_takesMan_32 : decode cX3_takesMan 32 = .ok (.getfield 105, 3) := by decide +kernel
theorem dX3_takesMan_35 : decode cX3_takesMan 35 = .ok (.iload_n 2, 1) := by decide +kernel
theorem dX3_takesMan_36 : decode cX3_takesMan 36 = .ok (.iload_n 3, 1) := by decide +kernel
theorem dX3_takesMan_37 : decode cX3_takesMan 37 = .ok (.iastore, 1) := by decide +kernel
theorem dX3_takesMan_38 : decode cX3_takesMan 38 = .ok (.iload_n 1, 1) := by decide +kernel
theorem dX3_takesMan_39 : decode cX3_takesMan 39 = .ok (.bipush 45, 2) := by decide +kernel
theorem dX3_takesMan_41 : decode cX3_takesMan 41 = .ok (.if_icmp .eq 29, 3) := by decide +kernel
theorem dX3_takesMan_44 : decode cX3_takesMan 44 = .ok (.aload_n 0, 1) := by decide +kernel
theorem dX3_takesMan_45 : decode cX3_takesMan 45 = .ok (.getfield 12, 3) := by decide +kernel
theorem dX3_takesMan_48 : decode cX3_takesMan 48 = .ok (.iload_n 3, 1) := by decide +kernel
theorem dX3_takesMan_49 : decode cX3_takesMan 49 = .ok (.invokevirtual 108, 3) := by decide +kernel
theorem dX3_takesMan_52 : decode cX3_takesMan 52 = .ok (.ifCond .eq 22, 3) := by decide +kernel
theorem dX3_takesMan_55 : decode cX3_takesMan 55 = .ok (.aload_n 0, 1) := by decide +kernel
theorem dX3_takesMan_56 : decode cX3_takesMan 56 = .ok (.getfield 21, 3) := by decide +kernel
theorem dX3_takesMan_59 : decode cX3_takesMan 59 = .ok (.aload_n 0, 1) := by decide +kernel
theorem dX3_takesMan_60 : decode cX3_takesMan 60 = .ok (.getfield 12, 3) := by decide +kernel
theorem dX3_takesMan_63 : decode cX3_takesMan 63 = .ok (.iload_n 3, 1) := by decide +kernel
theorem dX3_takesMan_64 : decode cX3_takesMan 64 = .ok (.invokevirtual 111, 3) := by decide +kernel
theorem dX3_takesMan_67 : decode cX3_takesMan 67 = .ok (.ifCond .eq 7, 3) := by decide +kernel
theorem dX3_takesMan_70 : decode cX3_takesMan 70 = .ok (.iconst 1, 1) := by decide +kernel
theorem dX3_takesMan_71 : decode cX3_takesMan 71 = .ok (.goto 4, 3) := by decide +kernel
theorem dX3_takesMan_74 : decode cX3_takesMan 74 = .ok (.iconst 0, 1) := by decide +kernel
theorem dX3_takesMan_75 : decode cX3_takesMan 75 = .ok (.ireturn, 1) := by decide +kernel
theorem dX3_takesMan_76 : decode cX3_takesMan 76 = .ok (.aload_n 0, 1) := by decide +kernel
theorem dX3_takesMan_77 : decode cX3_takesMan 77 = .ok (.getfield 29, 3) := by decide +kernel
theorem dX3_takesMan_80 : decode cX3_takesMan 80 = .ok (.iconst 2, 1) := by decide +kernel
theorem dX3_takesMan_81 : decode cX3_takesMan 81 = .ok (.if_icmp .ne 63, 3) := by decide +kernel
theorem dX3_takesMan_84 : decode cX3_takesMan 84 = .ok (.aload_n 0, 1) := by decide +kernel
theorem dX3_takesMan_85 : decode cX3_takesMan 85 = .ok (.getfield 21, 3) := by decide +kernel
theorem dX3_takesMan_88 : decode cX3_takesMan 88 = .ok (.getfield 105, 3) := by decide +kernel
theorem dX3_takesMan_91 : decode cX3_takesMan 91 = .ok (.iload_n 2, 1) := by decide +kernel
theorem dX3_takesMan_92 : decode cX3_takesMan 92 = .ok (.iaload, 1) := by decide +kernel
theorem dX3_takesMan_93 : decode cX3_takesMan 93 = .ok (.istore 4, 2) := by decide +kernel
theorem dX3_takesMan_95 : decode cX3_takesMan 95 = .ok (.aload_n 0, 1) := by decide +kernel
theorem dX3_takesMan_96 : decode cX3_takesMan 96 = .ok (.getfield 21, 3) := by decide +kernel
theorem dX3_takesMan_99 : decode cX3_takesMan 99 = .ok (.getfield 115, 3) := by decide +kernel
theorem dX3_takesMan_102 : decode cX3_takesMan 102 = .ok (.iload_n 2, 1) := by decide +kernel
theorem dX3_takesMan_103 : decode cX3_takesMan 103 = .ok (.iload_n 3, 1) := by decide +kernel
theorem dX3_takesMan_104 : decode cX3_takesMan 104 = .ok (.iastore, 1) := by decide +kernel
theorem dX3_takesMan_105 : decode cX3_takesMan 105 = .ok (.aload_n 0, 1) := by decide +kernel
theorem dX3_takesMan_106 : decode cX3_takesMan 106 = .ok (.getfield 12, 3) := by decide +kernel
theorem dX3_takesMan_109 : decode cX3_takesMan 109 = .ok (.iload 4, 2) := by decide +kernel
theorem dX3_takesMan_111 : decode cX3_takesMan 111 = .ok (.invokevirtual 108, 3) := by decide +kernel
theorem dX3_takesMan_114 : decode cX3_takesMan 114 = .ok (.ifCond .eq 25, 3) := by decide +kernel
theorem dX3_takesMan_117 : decode cX3_takesMan 117 = .ok (.iload_n 3, 1) := by decide +kernel
theorem dX3_takesMan_118 : decode cX3_takesMan 118 = .ok (.aload_n 0, 1) := by decide +kernel
theorem dX3_takesMan_119 : decode cX3_takesMan 119 = .ok (.getfield 21, 3) := by decide +kernel
theorem dX3_takesMan_122 : decode cX3_takesMan 122 = .ok (.getfield 94, 3) := by decide +kernel
theorem dX3_takesMan_125 : decode cX3_takesMan 125 = .ok (.iload 4, 2) := by decide +kernel
theorem dX3_takesMan_127 : decode cX3_takesMan 127 = .ok (.iaload, 1) := by decide +kernel
theorem dX3_takesMan_128 : decode cX3_takesMan 128 = .ok (.if_icmp .ne 7, 3) := by decide +kernel
theorem dX3_takesMan_131 : decode cX3_takesMan 131 = .ok (.iconst 1, 1) := by decide +kernel
theorem dX3_takesMan_132 : decode cX3_takesMan 132 = .ok (.goto 11, 3) := by decide +kernel
theorem dX3_takesMan_135 : decode cX3_takesMan 135 = .ok (.iconst 0, 1) := by decide +kernel
theorem dX3_takesMan_136 : decode cX3_takesMan 136 = .ok (.goto 7, 3) := by decide +kernel
theorem dX3_takesMan_139 : decode cX3_takesMan 139 = .ok (.iload_n 3, 1) := by decide +kernel
theorem dX3_takesMan_140 : decode cX3_takesMan 140 = .ok (.invokestatic 91, 3) := by decide +kernel
theorem dX3_takesMan_143 : decode cX3_takesMan 143 = .ok (.ireturn, 1) := by decide +kernel
theorem dX3_takesMan_144 : decode cX3_takesMan 144 = .ok (.aload_n 0, 1) := by decide +kernel
theorem dX3_takesMan_145 : decode cX3_takesMan 145 = .ok (.getfield 12, 3) := by decide +kernel
theorem dX3_takesMan_148 : decode cX3_takesMan 148 = .ok (.dup, 1) := by decide +kernel
theorem dX3_takesMan_149 : decode cX3_takesMan 149 = .ok (.getfield 71, 3) := by decide +kernel
theorem dX3_takesMan_152 : decode cX3_takesMan 152 = .ok (.iconst 1, 1) := by decide +kernel
theorem dX3_takesMan_153 : decode cX3_takesMan 153 = .ok (.iadd, 1) := by decide +kernel
theorem dX3_takesMan_154 : decode cX3_takesMan 154 = .ok (.putfield 71, 3) := by decide +kernel
theorem dX3_takesMan_157 : decode cX3_takesMan 157 = .ok (.aload_n 0, 1) := by decide +kernel
theorem dX3_takesMan_158 : decode cX3_takesMan 158 = .ok (.getfield 12, 3) := by decide +kernel
theorem dX3_takesMan_161 : decode cX3_takesMan 161 = .ok (.dup, 1) := by decide +kernel
theorem dX3_takesMan_162 : decode cX3_takesMan 162 = .ok (.getfield 118, 3) := by decide +kernel
theorem dX3_takesMan_165 : decode cX3_takesMan 165 = .ok (.iload_n 3, 1) := by decide +kernel
theorem dX3_takesMan_166 : decode cX3_takesMan 166 = .ok (.iconst 1, 1) := by decide +kernel
theorem dX3_takesMan_167 : decode cX3_takesMan 167 = .ok (.if_icmp .ne 9, 3) := by decide +kernel
theorem dX3_takesMan_170 : decode cX3_takesMan 170 = .ok (.iconst 1, 1) := by decide +kernel
theorem dX3_takesMan_171 : decode cX3_takesMan 171 = .ok (.iload_n 2, 1) := by decide +kernel
theorem dX3_takesMan_172 : decode cX3_takesMan 172 = .ok (.ishl, 1) := by decide +kernel
theorem dX3_takesMan_173 : decode cX3_takesMan 173 = .ok (.goto 4, 3) := by decide +kernel
theorem dX3_takesMan_176 : decode cX3_takesMan 176 = .ok (.iconst 0, 1) := by decide +kernel
theorem dX3_takesMan_177 : decode cX3_takesMan 177 = .ok (.ior, 1) := by decide +kernel
theorem dX3_takesMan_178 : decode cX3_takesMan 178 = .ok (.putfield 118, 3) := by decide +kernel
theorem dX3_takesMan_181 : decode cX3_takesMan 181 = .ok (.iload_n 3, 1) := by decide +kernel
theorem dX3_takesMan_182 : decode cX3_takesMan 182 = .ok (.ifCond .eq 8, 3) := by decide +kernel
theorem dX3_takesMan_185 : decode cX3_takesMan 185 = .ok (.iload_n 3, 1) := by decide +kernel
theorem dX3_takesMan_186 : decode cX3_takesMan 186 = .ok (.iconst 1, 1) := by decide +kernel
theorem dX3_takesMan_187 : decode cX3_takesMan 187 = .ok (.if_icmp .ne 7, 3) := by decide +kernel
theorem dX3_takesMan_190 : decode cX3_takesMan 190 = .ok (.iconst 1, 1) := by decide +kernel
theorem dX3_takesMan_191 : decode cX3_takesMan 191 = .ok (.goto 4, 3) := by decide +kernel
theorem dX3_takesMan_194 : decode cX3_takesMan 194 = .ok (.iconst 0, 1) := by decide +kernel
theorem dX3_takesMan_195 : decode cX3_takesMan 195 = .ok (.ireturn, 1) := by decide +kernel
theorem dX3_takesParent_0 : decode cX3_takesParent 0 = .ok (.aload_n 0, 1) := by decide +kernel
theorem dX3_takesParent_1 : decode cX3_takesParent 1 = .ok (.getfield 12, 3) := by decide +kernel
theorem dX3_takesParent_4 : decode cX3_takesParent 4 = .ok (.iload_n 1, 1) := by decide +kernel
theorem dX3_takesParent_5 : decode cX3_takesParent 5 = .ok (.invokevirtual 108, 3) := by decide +kernel
theorem dX3_takesParent_8 : decode cX3_takesParent 8 = .ok (.ifCond .ne 5, 3) := by decide +kernel
theorem dX3_takesParent_11 : decode cX3_takesParent 11 = .ok (.iconst 0, 1) := by decide +kernel
theorem dX3_takesParent_12 : decode cX3_takesParent 12 = .ok (.ireturn, 1) := by decide +kernel
theorem dX3_takesParent_13 : decode cX3_takesParent 13 = .ok (.aload_n 0, 1) := by decide +kernel
theorem dX3_takesParent_14 : decode cX3_takesParent 14 = .ok (.getfield 29, 3) := by decide +kernel
theorem dX3_takesParent_17 : decode cX3_takesParent 17 = .ok (.iconst 1, 1) := by decide +kernel
theorem dX3_takesParent_18 : decode cX3_takesParent 18 = .ok (.if_icmp .ne 10, 3) := by decide +kernel
theorem dX3_takesParent_21 : decode cX3_takesParent 21 = .ok (.aload_n 0, 1) := by decide +kernel
theorem dX3_takesParent_22 : decode cX3_takesParent 22 = .ok (.iload_n 1, 1) := by decide +kernel
theorem dX3_takesParent_23 : decode cX3_takesParent 23 = .ok (.putfield 32, 3) := by decide +kernel
theorem dX3_takesParent_26 : decode cX3_takesParent 26 = .ok (.iconst 1, 1) := by decide +kernel
theorem dX3_takesParent_27 : decode cX3_takesParent 27 = .ok (.ireturn, 1) := by decide +kernel
theorem dX3_takesParent_28 : decode cX3_takesParent 28 = .ok (.aload_n 0, 1) := by decide +kernel
theorem dX3_takesParent_29 : decode cX3_takesParent 29 = .ok (.getfield 12, 3) := by decide +kernel
theorem dX3_takesParent_32 : decode cX3_takesParent 32 = .ok (.aload_n 0, 1) := by decide +kernel
theorem dX3_takesParent_33 : decode cX3_takesParent 33 = .ok (.getfield 32, 3) := by decide +kernel
theorem dX3_takesParent_36 : decode cX3_takesParent 36 = .ok (.iload_n 1, 1) := by decide +kernel
theorem dX3_takesParent_37 : decode cX3_takesParent 37 = .ok (.invokevirtual 121, 3) := by decide +kernel
theorem dX3_takesParent_40 : decode cX3_takesParent 40 = .ok (.ifCond .ne 5, 3) := by decide +kernel
theorem dX3_takesParent_43 : decode cX3_takesParent 43 = .ok (.iconst 0, 1) := by decide +kernel
theorem dX3_takesParent_44 : decode cX3_takesParent 44 = .ok (.ireturn, 1) := by decide +kernel
theorem dX3_takesParent_45 : decode cX3_takesParent 45 = .ok (.aload_n 0, 1) := by decide +kernel
theorem dX3_takesParent_46 : decode cX3_takesParent 46 = .ok (.getfield 12, 3) := by decide +kernel
theorem dX3_takesParent_49 : decode cX3_takesParent 49 = .ok (.getfield 103, 3) := by decide +kernel
theorem dX3_takesParent_52 : decode cX3_takesParent 52 = .ok (.iload_n 1, 1) := by decide +kernel
theorem dX3_takesParent_53 : decode cX3_takesParent 53 = .ok (.aload_n 0, 1) := by decide +kernel
theorem dX3_takesParent_54 : decode cX3_takesParent 54 = .ok (.getfield 32, 3) := by decide +kernel
theorem dX3_takesParent_57 : decode cX3_takesParent 57 = .ok (.iastore, 1) := by decide +kernel
theorem dX3_takesParent_58 : decode cX3_takesParent 58 = .ok (.iconst 1, 1) := by decide +kernel
theorem dX3_takesParent_59 : decode cX3_takesParent 59 = .ok (.ireturn, 1) := by decide +kernel
theorem dX4_bachelors_0 : decode cX4_bachelors 0 = .ok (.iload_n 1, 1) := by decide +kernel
theorem dX4_bachelors_1 : decode cX4_bachelors 1 = .ok (.iload_n 2, 1) := by decide +kernel
theorem dX4_bachelors_2 : decode cX4_bachelors 2 = .ok (.if_icmp .ne 7, 3) := by decide +kernel
theorem dX4_bachelors_5 : decode cX4_bachelors 5 = .ok (.iconst 0, 1) := by decide +kernel
theorem dX4_bachelors_6 : decode cX4_bachelors 6 = .ok (.goto 8, 3) := by decide +kernel
theorem dX4_bachelors_9 : decode cX4_bachelors 9 = .ok (.iload_n 0, 1) := by decide +kernel
theorem dX4_bachelors_10 : decode cX4_bachelors 10 = .ok (.iload_n 2, 1) := by decide +kernel
theorem dX4_bachelors_11 : decode cX4_bachelors 11 = .ok (.invokestatic 18, 3) := by decide +kernel
theorem dX4_bachelors_14 : decode cX4_bachelors 14 = .ok (.ireturn, 1) := by decide +kernel
theorem dX4_holds_0 : decode cX4_holds 0 = .ok (.iload_n 0, 1) := by decide +kernel
theorem dX4_holds_1 : decode cX4_holds 1 = .ok (.iload_n 1, 1) := by decide +kernel
theorem dX4_holds_2 : decode cX4_holds 2 = .ok (.iload_n 2, 1) := by decide +kernel
theorem dX4_holds_3 : decode cX4_holds 3 = .ok (.invokestatic 9, 3) := by decide +kernel
theorem dX4_holds_6 : decode cX4_holds 6 = .ok (.istore_n 3, 1) := by decide +kernel
theorem dX4_holds_7 : decode cX4_holds 7 = .ok (.iload_n 0, 1) := by decide +kernel
theorem dX4_holds_8 : decode cX4_holds 8 = .ok (.iload_n 1, 1) := by decide +kernel
theorem dX4_holds_9 : decode cX4_holds 9 = .ok (.iload_n 2, 1) := by decide +kernel
theorem dX4_holds_10 : decode cX4_holds 10 = .ok (.invokestatic 15, 3) := by decide +kernel
theorem dX4_holds_13 : decode cX4_holds 13 = .ok (.istore 4, 2) := by decide +kernel
theorem dX4_holds_15 : decode cX4_holds 15 = .ok (.iconst 0, 1) := by decide +kernel
theorem dX4_holds_16 : decode cX4_holds 16 = .ok (.istore 5, 2) := by decide +kernel
theorem dX4_holds_18 : decode cX4_holds 18 = .ok (.iload 5, 2) := by decide +kernel
theorem dX4_holds_20 : decode cX4_holds 20 = .ok (.iconst 5, 1) := by decide +kernel
theorem dX4_holds_21 : decode cX4_holds 21 = .ok (.if_icmp .ge 34, 3) := by decide +kernel
theorem dX4_holds_24 : decode cX4_holds 24 = .ok (.iload_n 0, 1) := by decide +kernel
theorem dX4_holds_25 : decode cX4_holds 25 = .ok (.iload 5, 2) := by decide +kernel
theorem dX4_holds_27 : decode cX4_holds 27 = .ok (.iload_n 2, 1) := by decide +kernel
theorem dX4_holds_28 : decode cX4_holds 28 = .ok (.invokestatic 9, 3) := by decide +kernel
theorem dX4_holds_31 : decode cX4_holds 31 = .ok (.iload_n 3, 1) := by decide +kernel
theorem dX4_holds_32 : decode cX4_holds 32 = .ok (.if_icmp .gt 15, 3) := by decide +kernel
theorem dX4_holds_35 : decode cX4_holds 35 = .ok (.iload_n 0, 1) := by decide +kernel
theorem dX4_holds_36 : decode cX4_holds 36 = .ok (.iload_n 1, 1) := by decide +kernel
theorem dX4_holds_37 : decode cX4_holds 37 = .ok (.iload 5, 2) := by decide +kernel
theorem dX4_holds_39 : decode cX4_holds 39 = .ok (.invokestatic 15, 3) := by decide +kernel
theorem dX4_holds_42 : decode cX4_holds 42 = .ok (.iload 4, 2) := by decide +kernel
theorem dX4_holds_44 : decode cX4_holds 44 = .ok (.if_icmp .le 5, 3) := by decide +kernel
theorem dX4_holds_47 : decode cX4_holds 47 = .ok (.iconst 0, 1) := by decide +kernel
theorem dX4_holds_48 : decode cX4_holds 48 = .ok (.ireturn, 1) := by decide +kernel
theorem dX4_holds_49 : decode cX4_holds 49 = .ok (.iinc 5 1, 3) := by decide +kernel
theorem dX4_holds_52 : decode cX4_holds 52 = .ok (.goto (-34), 3) := by decide +kernel
theorem dX4_holds_55 : decode cX4_holds 55 = .ok (.iconst 1, 1) := by decide +kernel
theorem dX4_holds_56 : decode cX4_holds 56 = .ok (.ireturn, 1) := by decide +kernel
theorem dX4_wardens_0 : decode cX4_wardens 0 = .ok (.iload_n 1, 1) := by decide +kernel
theorem dX4_wardens_1 : decode cX4_wardens 1 = .ok (.iload_n 2, 1) := by decide +kernel
theorem dX4_wardens_2 : decode cX4_wardens 2 = .ok (.if_icmp .ne 11, 3) := by decide +kernel
theorem dX4_wardens_5 : decode cX4_wardens 5 = .ok (.iload_n 0, 1) := by decide +kernel
theorem dX4_wardens_6 : decode cX4_wardens 6 = .ok (.iload_n 2, 1) := by decide +kernel
theorem dX4_wardens_7 : decode cX4_wardens 7 = .ok (.invokestatic 18, 3) := by decide +kernel
theorem dX4_wardens_10 : decode cX4_wardens 10 = .ok (.goto 4, 3) := by decide +kernel
theorem dX4_wardens_13 : decode cX4_wardens 13 = .ok (.iconst 0, 1) := by decide +kernel
theorem dX4_wardens_14 : decode cX4_wardens 14 = .ok (.ireturn, 1) := by decide +kernel
theorem dX4_worth_0 : decode cX4_worth 0 = .ok (.iload_n 0, 1) := by decide +kernel
theorem dX4_worth_1 : decode cX4_worth 1 = .ok (.istore_n 2, 1) := by decide +kernel
theorem dX4_worth_2 : decode cX4_worth 2 = .ok (.iload_n 1, 1) := by decide +kernel
theorem dX4_worth_3 : decode cX4_worth 3 = .ok (.iconst 1, 1) := by decide +kernel
theorem dX4_worth_4 : decode cX4_worth 4 = .ok (.iadd, 1) := by decide +kernel
theorem dX4_worth_5 : decode cX4_worth 5 = .ok (.istore_n 3, 1) := by decide +kernel
theorem dX4_worth_6 : decode cX4_worth 6 = .ok (.iload_n 3, 1) := by decide +kernel
theorem dX4_worth_7 : decode cX4_worth 7 = .ok (.iconst 5, 1) := by decide +kernel
theorem dX4_worth_8 : decode cX4_worth 8 = .ok (.if_icmp .ge 14, 3) := by decide +kernel
theorem dX4_worth_11 : decode cX4_worth 11 = .ok (.iload_n 2, 1) := by decide +kernel
theorem dX4_worth_12 : decode cX4_worth 12 = .ok (.bipush 10, 2) := by decide +kernel
theorem dX4_worth_14 : decode cX4_worth 14 = .ok (.idiv, 1) := by decide +kernel
theorem dX4_worth_15 : decode cX4_worth 15 = .ok (.istore_n 2, 1) := by decide +kernel
theorem dX4_worth_16 : decode cX4_worth 16 = .ok (.iinc 3 1, 3) := by decide +kernel
theorem dX4_worth_19 : decode cX4_worth 19 = .ok (.goto (-13), 3) := by decide +kernel
theorem dX4_worth_22 : decode cX4_worth 22 = .ok (.iload_n 2, 1) := by decide +kernel
theorem dX4_worth_23 : decode cX4_worth 23 = .ok (.bipush 10, 2) := by decide +kernel
theorem dX4_worth_25 : decode cX4_worth 25 = .ok (.irem, 1) := by decide +kernel
theorem dX4_worth_26 : decode cX4_worth 26 = .ok (.ireturn, 1) := by decide +kernel
theorem dX5_add_0 : decode cX5_add 0 = .ok (.aload_n 0, 1) := by decide +kernel
theorem dX5_add_1 : decode cX5_add 1 = .ok (.getfield 9, 3) := by decide +kernel
theorem dX5_add_4 : decode cX5_add 4 = .ok (.bipush 6, 2) := by decide +kernel
theorem dX5_add_6 : decode cX5_add 6 = .ok (.if_icmp .ge 43, 3) := by decide +kernel
theorem dX5_add_9 : decode cX5_add 9 = .ok (.aload_n 0, 1) := by decide +kernel
theorem dX5_add_10 : decode cX5_add 10 = .ok (.getfield 15, 3) := by decide +kernel
theorem dX5_add_13 : decode cX5_add 13 = .ok (.aload_n 0, 1) := by decide +kernel
theorem dX5_add_14 : decode cX5_add 14 = .ok (.getfield 9, 3) := by decide +kernel
theorem dX5_add_17 : decode cX5_add 17 = .ok (.iload_n 1, 1) := by decide +kernel
theorem dX5_add_18 : decode cX5_add 18 = .ok (.iastore, 1) := by decide +kernel
theorem dX5_add_19 : decode cX5_add 19 = .ok (.aload_n 0, 1) := by decide +kernel
theorem dX5_add_20 : decode cX5_add 20 = .ok (.getfield 19, 3) := by decide +kernel
theorem dX5_add_23 : decode cX5_add 23 = .ok (.aload_n 0, 1) := by decide +kernel
theorem dX5_add_24 : decode cX5_add 24 = .ok (.getfield 9, 3) := by decide +kernel
theorem dX5_add_27 : decode cX5_add 27 = .ok (.iload_n 2, 1) := by decide +kernel
theorem dX5_add_28 : decode cX5_add 28 = .ok (.iastore, 1) := by decide +kernel
theorem dX5_add_29 : decode cX5_add 29 = .ok (.aload_n 0, 1) := by decide +kernel
theorem dX5_add_30 : decode cX5_add 30 = .ok (.getfield 22, 3) := by decide +kernel
theorem dX5_add_33 : decode cX5_add 33 = .ok (.aload_n 0, 1) := by decide +kernel
theorem dX5_add_34 : decode cX5_add 34 = .ok (.getfield 9, 3) := by decide +kernel
theorem dX5_add_37 : decode cX5_add 37 = .ok (.iload_n 3, 1) := by decide +kernel
theorem dX5_add_38 : decode cX5_add 38 = .ok (.iastore, 1) := by decide +kernel
theorem dX5_add_39 : decode cX5_add 39 = .ok (.aload_n 0, 1) := by decide +kernel
theorem dX5_add_40 : decode cX5_add 40 = .ok (.dup, 1) := by decide +kernel
theorem dX5_add_41 : decode cX5_add 41 = .ok (.getfield 9, 3) := by decide +kernel
theorem dX5_add_44 : decode cX5_add 44 = .ok (.iconst 1, 1) := by decide +kernel
theorem dX5_add_45 : decode cX5_add 45 = .ok (.iadd, 1) := by decide +kernel
theorem dX5_add_46 : decode cX5_add 46 = .ok (.putfield 9, 3) := by decide +kernel
theorem dX5_add_49 : decode cX5_add 49 = .ok (.return_, 1) := by decide +kernel
theorem dX5_fits_0 : decode cX5_fits 0 = .ok (.iconst 0, 1) := by decide +kernel
theorem dX5_fits_1 : decode cX5_fits 1 = .ok (.istore 5, 2) := by decide +kernel
theorem dX5_fits_3 : decode cX5_fits 3 = .ok (.iload 5, 2) := by decide +kernel
theorem dX5_fits_5 : decode cX5_fits 5 = .ok (.aload_n 0, 1) := by decide +kernel
theorem dX5_fits_6 : decode cX5_fits 6 = .ok (.getfield 9, 3) := by decide +kernel
theorem dX5_fits_9 : decode cX5_fits 9 = .ok (.if_icmp .ge 47, 3) := by decide +kernel
theorem dX5_fits_12 : decode cX5_fits 12 = .ok (.aload_n 0, 1) := by decide +kernel
theorem dX5_fits_13 : decode cX5_fits 13 = .ok (.getfield 15, 3) := by decide +kernel
theorem dX5_fits_16 : decode cX5_fits 16 = .ok (.iload 5, 2) := by decide +kernel
theorem dX5_fits_18 : decode cX5_fits 18 = .ok (.iaload, 1) := by decide +kernel
theorem dX5_fits_19 : decode cX5_fits 19 = .ok (.iload_n 3, 1) := by decide +kernel
theorem dX5_fits_20 : decode cX5_fits 20 = .ok (.if_icmp .ne 30, 3) := by decide +kernel
theorem dX5_fits_23 : decode cX5_fits 23 = .ok (.aload_n 0, 1) := by decide +kernel
theorem dX5_fits_24 : decode cX5_fits 24 = .ok (.getfield 19, 3) := by decide +kernel
theorem dX5_fits_27 : decode cX5_fits 27 = .ok (.iload 5, 2) := by decide +kernel
theorem dX5_fits_29 : decode cX5_fits 29 = .ok (.iaload, 1) := by decide +kernel
theorem dX5_fits_30 : decode cX5_fits 30 = .ok (.aload_n 1, 1) := by decide +kernel
theorem dX5_fits_31 : decode cX5_fits 31 = .ok (.aload_n 2, 1) := by decide +kernel
theorem dX5_fits_32 : decode cX5_fits 32 = .ok (.iload_n 3, 1) := by decide +kernel
theorem dX5_fits_33 : decode cX5_fits 33 = .ok (.iload 4, 2) := by decide +kernel
theorem dX5_fits_35 : decode cX5_fits 35 = .ok (.aload_n 0, 1) := by decide +kernel
theorem dX5_fits_36 : decode cX5_fits 36 = .ok (.getfield 22, 3) := by decide +kernel
theorem dX5_fits_39 : decode cX5_fits 39 = .ok (.iload 5, 2) := by decide +kernel
theorem dX5_fits_41 : decode cX5_fits 41 = .ok (.iaload, 1) := by decide +kernel
theorem dX5_fits_42 : decode cX5_fits 42 = .ok (.invokestatic 52, 3) := by decide +kernel
theorem dX5_fits_45 : decode cX5_fits 45 = .ok (.if_icmp .eq 5, 3) := by decide +kernel
theorem dX5_fits_48 : decode cX5_fits 48 = .ok (.iconst 0, 1) := by decide +kernel
theorem dX5_fits_49 : decode cX5_fits 49 = .ok (.ireturn, 1) := by decide +kernel
theorem dX5_fits_50 : decode cX5_fits 50 = .ok (.iinc 5 1, 3) := by decide +kernel
theorem dX5_fits_53 : decode cX5_fits 53 = .ok (.goto (-50), 3) := by decide +kernel
theorem dX5_fits_56 : decode cX5_fits 56 = .ok (.iconst 1, 1) := by decide +kernel
theorem dX5_fits_57 : decode cX5_fits 57 = .ok (.ireturn, 1) := by decide +kernel
theorem dX5_init_0 : decode cX5_init 0 = .ok (.aload_n 0, 1) := by decide +kernel
theorem dX5_init_1 : decode cX5_init 1 = .ok (.invokespecial 3, 3) := by decide +kernel
theorem dX5_init_4 : decode cX5_init 4 = .ok (.aload_n 0, 1) := by decide +kernel
theorem dX5_init_5 : decode cX5_init 5 = .ok (.iconst 0, 1) := by decide +kernel
theorem dX5_init_6 : decode cX5_init 6 = .ok (.putfield 9, 3) := by decide +kernel
theorem dX5_init_9 : decode cX5_init 9 = .ok (.aload_n 0, 1) := by decide +kernel
theorem dX5_init_10 : decode cX5_init 10 = .ok (.bipush 6, 2) := by decide +kernel
theorem dX5_init_12 : decode cX5_init 12 = .ok (.newarray .int, 2) := by decide +kernel
theorem dX5_init_14 : decode cX5_init 14 = .ok (.putfield 15, 3) := by decide +kernel
theorem dX5_init_17 : decode cX5_init 17 = .ok (.aload_n 0, 1) := by decide +kernel
theorem dX5_init_18 : decode cX5_init 18 = .ok (.bipush 6, 2) := by decide +kernel
theorem dX5_init_20 : decode cX5_init 20 = .ok (.newarray .int, 2) := by decide +kernel
theorem dX5_init_22 : decode cX5_init 22 = .ok (.putfield 19, 3) := by decide +kernel
theorem dX5_init_25 : decode cX5_init 25 = .ok (.aload_n 0, 1) := by decide +kernel
theorem dX5_init_26 : decode cX5_init 26 = .ok (.bipush 6, 2) := by decide +kernel
theorem dX5_init_28 : decode cX5_init 28 = .ok (.newarray .int, 2) := by decide +kernel
theorem dX5_init_30 : decode cX5_init 30 = .ok (.putfield 22, 3) := by decide +kernel
theorem dX5_init_33 : decode cX5_init 33 = .ok (.aload_n 0, 1) := by decide +kernel
theorem dX5_init_34 : decode cX5_init 34 = .ok (.iconst 5, 1) := by decide +kernel
theorem dX5_init_35 : decode cX5_init 35 = .ok (.newarray .int, 2) := by decide +kernel
theorem dX5_init_37 : decode cX5_init 37 = .ok (.putfield 25, 3) := by decide +kernel
theorem dX5_init_40 : decode cX5_init 40 = .ok (.aload_n 0, 1) := by decide +kernel
theorem dX5_init_41 : decode cX5_init 41 = .ok (.iconst 4, 1) := by decide +kernel
theorem dX5_init_42 : decode cX5_init 42 = .ok (.newarray .int, 2) := by decide +kernel
theorem dX5_init_44 : decode cX5_init 44 = .ok (.putfield 28, 3) := by decide +kernel
theorem dX5_init_47 : decode cX5_init 47 = .ok (.return_, 1) := by decide +kernel
theorem dX5_look_0 : decode cX5_look 0 = .ok (.aload_n 1, 1) := by decide +kernel
theorem dX5_look_1 : decode cX5_look 1 = .ok (.getfield 31, 3) := by decide +kernel
theorem dX5_look_4 : decode cX5_look 4 = .ok (.iconst 0, 1) := by decide +kernel
theorem dX5_look_5 : decode cX5_look 5 = .ok (.aload_n 0, 1) := by decide +kernel
theorem dX5_look_6 : decode cX5_look 6 = .ok (.getfield 28, 3) := by decide +kernel
theorem dX5_look_9 : decode cX5_look 9 = .ok (.iconst 0, 1) := by decide +kernel
theorem dX5_look_10 : decode cX5_look 10 = .ok (.iconst 4, 1) := by decide +kernel
theorem dX5_look_11 : decode cX5_look 11 = .ok (.invokestatic 36, 3) := by decide +kernel
theorem dX5_look_14 : decode cX5_look 14 = .ok (.iconst 0, 1) := by decide +kernel
theorem dX5_look_15 : decode cX5_look 15 = .ok (.istore_n 3, 1) := by decide +kernel
theorem dX5_look_16 : decode cX5_look 16 = .ok (.iload_n 3, 1) := by decide +kernel
theorem dX5_look_17 : decode cX5_look 17 = .ok (.aload_n 1, 1) := by decide +kernel
theorem dX5_look_18 : decode cX5_look 18 = .ok (.getfield 42, 3) := by decide +kernel
theorem dX5_look_21 : decode cX5_look 21 = .ok (.if_icmp .ge 79, 3) := by decide +kernel
theorem dX5_look_24 : decode cX5_look 24 = .ok (.aload_n 0, 1) := by decide +kernel
theorem dX5_look_25 : decode cX5_look 25 = .ok (.getfield 25, 3) := by decide +kernel
theorem dX5_look_28 : decode cX5_look 28 = .ok (.iload_n 3, 1) := by decide +kernel
theorem dX5_look_29 : decode cX5_look 29 = .ok (.aload_n 0, 1) := by decide +kernel
theorem dX5_look_30 : decode cX5_look 30 = .ok (.aload_n 1, 1) := by decide +kernel
theorem dX5_look_31 : decode cX5_look 31 = .ok (.aload_n 2, 1) := by decide +kernel
theorem dX5_look_32 : decode cX5_look 32 = .ok (.iload_n 3, 1) := by decide +kernel
theorem dX5_look_33 : decode cX5_look 33 = .ok (.iconst 4, 1) := by decide +kernel
theorem dX5_look_34 : decode cX5_look 34 = .ok (.invokevirtual 45, 3) := by decide +kernel
theorem dX5_look_37 : decode cX5_look 37 = .ok (.ifCond .eq 8, 3) := by decide +kernel
theorem dX5_look_40 : decode cX5_look 40 = .ok (.bipush 16, 2) := by decide +kernel
theorem dX5_look_42 : decode cX5_look 42 = .ok (.goto 4, 3) := by decide +kernel
theorem dX5_look_45 : decode cX5_look 45 = .ok (.iconst 0, 1) := by decide +kernel
theorem dX5_look_46 : decode cX5_look 46 = .ok (.iastore, 1) := by decide +kernel
theorem dX5_look_47 : decode cX5_look 47 = .ok (.iconst 0, 1) := by decide +kernel
theorem dX5_look_48 : decode cX5_look 48 = .ok (.istore 4, 2) := by decide +kernel
theorem dX5_look_50 : decode cX5_look 50 = .ok (.iload 4, 2) := by decide +kernel
theorem dX5_look_52 : decode cX5_look 52 = .ok (.aload_n 1, 1) := by decide +kernel
theorem dX5_look_53 : decode cX5_look 53 = .ok (.getfield 49, 3) := by decide +kernel
theorem dX5_look_56 : decode cX5_look 56 = .ok (.if_icmp .ge 38, 3) := by decide +kernel
theorem dX5_look_59 : decode cX5_look 59 = .ok (.aload_n 0, 1) := by decide +kernel
theorem dX5_look_60 : decode cX5_look 60 = .ok (.getfield 25, 3) := by decide +kernel
theorem dX5_look_63 : decode cX5_look 63 = .ok (.iload_n 3, 1) := by decide +kernel
theorem dX5_look_64 : decode cX5_look 64 = .ok (.dup2, 1) := by decide +kernel
theorem dX5_look_65 : decode cX5_look 65 = .ok (.iaload, 1) := by decide +kernel
theorem dX5_look_66 : decode cX5_look 66 = .ok (.aload_n 0, 1) := by decide +kernel
theorem dX5_look_67 : decode cX5_look 67 = .ok (.aload_n 1, 1) := by decide +kernel
theorem dX5_look_68 : decode cX5_look 68 = .ok (.aload_n 2, 1) := by decide +kernel
theorem dX5_look_69 : decode cX5_look 69 = .ok (.iload_n 3, 1) := by decide +kernel
theorem dX5_look_70 : decode cX5_look 70 = .ok (.iload 4, 2) := by decide +kernel
theorem dX5_look_72 : decode cX5_look 72 = .ok (.invokevirtual 45, 3) := by decide +kernel
theorem dX5_look_75 : decode cX5_look 75 = .ok (.ifCond .eq 10, 3) := by decide +kernel
theorem dX5_look_78 : decode cX5_look 78 = .ok (.iconst 1, 1) := by decide +kernel
theorem dX5_look_79 : decode cX5_look 79 = .ok (.iload 4, 2) := by decide +kernel
theorem dX5_look_81 : decode cX5_look 81 = .ok (.ishl, 1) := by decide +kernel
theorem dX5_look_82 : decode cX5_look 82 = .ok (.goto 4, 3) := by decide +kernel
theorem dX5_look_85 : decode cX5_look 85 = .ok (.iconst 0, 1) := by decide +kernel
theorem dX5_look_86 : decode cX5_look 86 = .ok (.ior, 1) := by decide +kernel
theorem dX5_look_87 : decode cX5_look 87 = .ok (.iastore, 1) := by decide +kernel
theorem dX5_look_88 : decode cX5_look 88 = .ok (.iinc 4 1, 3) := by decide +kernel
theorem dX5_look_91 : decode cX5_look 91 = .ok (.goto (-41), 3) := by decide +kernel
theorem dX5_look_94 : decode cX5_look 94 = .ok (.iinc 3 1, 3) := by decide +kernel
theorem dX5_look_97 : decode cX5_look 97 = .ok (.goto (-81), 3) := by decide +kernel
theorem dX5_look_100 : decode cX5_look 100 = .ok (.return_, 1) := by decide +kernel
theorem dX5_onlyCompany_0 : decode cX5_onlyCompany 0 = .ok (.aload_n 0, 1) := by decide +kernel
theorem dX5_onlyCompany_1 : decode cX5_onlyCompany 1 = .ok (.getfield 25, 3) := by decide +kernel
theorem dX5_onlyCompany_4 : decode cX5_onlyCompany 4 = .ok (.iload_n 2, 1) := by decide +kernel
theorem dX5_onlyCompany_5 : decode cX5_onlyCompany 5 = .ok (.iaload, 1) := by decide +kernel
theorem dX5_onlyCompany_6 : decode cX5_onlyCompany 6 = .ok (.istore_n 3, 1) := by decide +kernel
theorem dX5_onlyCompany_7 : decode cX5_onlyCompany 7 = .ok (.bipush (-9), 2) := by decide +kernel
theorem dX5_onlyCompany_9 : decode cX5_onlyCompany 9 = .ok (.istore 4, 2) := by decide +kernel
theorem dX5_onlyCompany_11 : decode cX5_onlyCompany 11 = .ok (.iconst 0, 1) := by decide +kernel
theorem dX5_onlyCompany_12 : decode cX5_onlyCompany 12 = .ok (.istore 5, 2) := by decide +kernel
theorem dX5_onlyCompany_14 : decode cX5_onlyCompany 14 = .ok (.iload 5, 2) := by decide +kernel
theorem dX5_onlyCompany_16 : decode cX5_onlyCompany 16 = .ok (.iconst 4, 1) := by decide +kernel
theorem dX5_onlyCompany_17 : decode cX5_onlyCompany 17 = .ok (.if_icmp .gt 63, 3) := by decide +kernel
theorem dX5_onlyCompany_20 : decode cX5_onlyCompany 20 = .ok (.aload_n 0, 1) := by decide +kernel
theorem dX5_onlyCompany_21 : decode cX5_onlyCompany 21 = .ok (.getfield 25, 3) := by decide +kernel
theorem dX5_onlyCompany_24 : decode cX5_onlyCompany 24 = .ok (.iload_n 2, 1) := by decide +kernel
theorem dX5_onlyCompany_25 : decode cX5_onlyCompany 25 = .ok (.iload_n 3, 1) := by decide +kernel
theorem dX5_onlyCompany_26 : decode cX5_onlyCompany 26 = .ok (.iconst 1, 1) := by decide +kernel
theorem dX5_onlyCompany_27 : decode cX5_onlyCompany 27 = .ok (.iload 5, 2) := by decide +kernel
theorem dX5_onlyCompany_29 : decode cX5_onlyCompany 29 = .ok (.ishl, 1) := by decide +kernel
theorem dX5_onlyCompany_30 : decode cX5_onlyCompany 30 = .ok (.iand, 1) := by decide +kernel
theorem dX5_onlyCompany_31 : decode cX5_onlyCompany 31 = .ok (.iastore, 1) := by decide +kernel
theorem dX5_onlyCompany_32 : decode cX5_onlyCompany 32 = .ok (.aload_n 0, 1) := by decide +kernel
theorem dX5_onlyCompany_33 : decode cX5_onlyCompany 33 = .ok (.getfield 25, 3) := by decide +kernel
theorem dX5_onlyCompany_36 : decode cX5_onlyCompany 36 = .ok (.iload_n 2, 1) := by decide +kernel
theorem dX5_onlyCompany_37 : decode cX5_onlyCompany 37 = .ok (.iaload, 1) := by decide +kernel
theorem dX5_onlyCompany_38 : decode cX5_onlyCompany 38 = .ok (.ifCond .eq 36, 3) := by decide +kernel
theorem dX5_onlyCompany_41 : decode cX5_onlyCompany 41 = .ok (.aload_n 0, 1) := by decide +kernel
theorem dX5_onlyCompany_42 : decode cX5_onlyCompany 42 = .ok (.aload_n 1, 1) := by decide +kernel
theorem dX5_onlyCompany_43 : decode cX5_onlyCompany 43 = .ok (.invokevirtual 78, 3) := by decide +kernel
theorem dX5_onlyCompany_46 : decode cX5_onlyCompany 46 = .ok (.ifCond .le 28, 3) := by decide +kernel
theorem dX5_onlyCompany_49 : decode cX5_onlyCompany 49 = .ok (.iload 4, 2) := by decide +kernel
theorem dX5_onlyCompany_51 : decode cX5_onlyCompany 51 = .ok (.bipush (-9), 2) := by decide +kernel
theorem dX5_onlyCompany_53 : decode cX5_onlyCompany 53 = .ok (.if_icmp .eq 6, 3) := by decide +kernel
theorem dX5_onlyCompany_56 : decode cX5_onlyCompany 56 = .ok (.bipush (-9), 2) := by decide +kernel
theorem dX5_onlyCompany_58 : decode cX5_onlyCompany 58 = .ok (.ireturn, 1) := by decide +kernel
theorem dX5_onlyCompany_59 : decode cX5_onlyCompany 59 = .ok (.iload 5, 2) := by decide +kernel
theorem dX5_onlyCompany_61 : decode cX5_onlyCompany 61 = .ok (.iconst 4, 1) := by decide +kernel
theorem dX5_onlyCompany_62 : decode cX5_onlyCompany 62 = .ok (.if_icmp .ne 8, 3) := by decide +kernel
theorem dX5_onlyCompany_65 : decode cX5_onlyCompany 65 = .ok (.bipush 9, 2) := by decide +kernel
theorem dX5_onlyCompany_67 : decode cX5_onlyCompany 67 = .ok (.goto 5, 3) := by decide +kernel
theorem dX5_onlyCompany_70 : decode cX5_onlyCompany 70 = .ok (.iload 5, 2) := by decide +kernel
theorem dX5_onlyCompany_72 : decode cX5_onlyCompany 72 = .ok (.istore 4, 2) := by decide +kernel
theorem dX5_onlyCompany_74 : decode cX5_onlyCompany 74 = .ok (.iinc 5 1, 3) := by decide +kernel
theorem dX5_onlyCompany_77 : decode cX5_onlyCompany 77 = .ok (.goto (-63), 3) := by decide +kernel
theorem dX5_onlyCompany_80 : decode cX5_onlyCompany 80 = .ok (.iload 4, 2) := by decide +kernel
theorem dX5_onlyCompany_82 : decode cX5_onlyCompany 82 = .ok (.ireturn, 1) := by decide +kernel
theorem dX5_share_0 : decode cX5_share 0 = .ok (.aload_n 0, 1) := by decide +kernel
theorem dX5_share_1 : decode cX5_share 1 = .ok (.iload_n 3, 1) := by decide +kernel
theorem dX5_share_2 : decode cX5_share 2 = .ok (.invokevirtual 75, 3) := by decide +kernel
theorem dX5_share_5 : decode cX5_share 5 = .ok (.ifCond .ne 5, 3) := by decide +kernel
theorem dX5_share_8 : decode cX5_share 8 = .ok (.iconst 1, 1) := by decide +kernel
theorem dX5_share_9 : decode cX5_share 9 = .ok (.ireturn, 1) := by decide +kernel
theorem dX5_share_10 : decode cX5_share 10 = .ok (.aload_n 1, 1) := by decide +kernel
theorem dX5_share_11 : decode cX5_share 11 = .ok (.iload_n 3, 1) := by decide +kernel
theorem dX5_share_12 : decode cX5_share 12 = .ok (.iaload, 1) := by decide +kernel
theorem dX5_share_13 : decode cX5_share 13 = .ok (.iconst 4, 1) := by decide +kernel
theorem dX5_share_14 : decode cX5_share 14 = .ok (.ishr, 1) := by decide +kernel
theorem dX5_share_15 : decode cX5_share 15 = .ok (.iconst 1, 1) := by decide +kernel
theorem dX5_share_16 : decode cX5_share 16 = .ok (.iand, 1) := by decide +kernel
theorem dX5_share_17 : decode cX5_share 17 = .ok (.iconst 1, 1) := by decide +kernel
theorem dX5_share_18 : decode cX5_share 18 = .ok (.if_icmp .ne 15, 3) := by decide +kernel
theorem dX5_share_21 : decode cX5_share 21 = .ok (.aload_n 0, 1) := by decide +kernel
theorem dX5_share_22 : decode cX5_share 22 = .ok (.aload_n 1, 1) := by decide +kernel
theorem dX5_share_23 : decode cX5_share 23 = .ok (.aload_n 2, 1) := by decide +kernel
theorem dX5_share_24 : decode cX5_share 24 = .ok (.iload_n 3, 1) := by decide +kernel
theorem dX5_share_25 : decode cX5_share 25 = .ok (.iconst 1, 1) := by decide +kernel
theorem dX5_share_26 : decode cX5_share 26 = .ok (.iadd, 1) := by decide +kernel
theorem dX5_share_27 : decode cX5_share 27 = .ok (.invokestatic 71, 3) := by decide +kernel
theorem dX5_share_30 : decode cX5_share 30 = .ok (.goto 4, 3) := by decide +kernel
theorem dX5_share_33 : decode cX5_share 33 = .ok (.iconst 0, 1) := by decide +kernel
theorem dX5_share_34 : decode cX5_share 34 = .ok (.istore 4, 2) := by decide +kernel
theorem dX5_share_36 : decode cX5_share 36 = .ok (.iconst 0, 1) := by decide +kernel
theorem dX5_share_37 : decode cX5_share 37 = .ok (.istore 5, 2) := by decide +kernel
theorem dX5_share_39 : decode cX5_share 39 = .ok (.iload 5, 2) := by decide +kernel
theorem dX5_share_41 : decode cX5_share 41 = .ok (.aload_n 0, 1) := by decide +kernel
theorem dX5_share_42 : decode cX5_share 42 = .ok (.getfield 49, 3) := by decide +kernel
theorem dX5_share_45 : decode cX5_share 45 = .ok (.if_icmp .ge 58, 3) := by decide +kernel
theorem dX5_share_48 : decode cX5_share 48 = .ok (.aload_n 1, 1) := by decide +kernel
theorem dX5_share_49 : decode cX5_share 49 = .ok (.iload_n 3, 1) := by decide +kernel
theorem dX5_share_50 : decode cX5_share 50 = .ok (.iaload, 1) := by decide +kernel
theorem dX5_share_51 : decode cX5_share 51 = .ok (.iload 5, 2) := by decide +kernel
theorem dX5_share_53 : decode cX5_share 53 = .ok (.ishr, 1) := by decide +kernel
theorem dX5_share_54 : decode cX5_share 54 = .ok (.iconst 1, 1) := by decide +kernel
theorem dX5_share_55 : decode cX5_share 55 = .ok (.iand, 1) := by decide +kernel
theorem dX5_share_56 : decode cX5_share 56 = .ok (.iconst 1, 1) := by decide +kernel
theorem dX5_share_57 : decode cX5_share 57 = .ok (.if_icmp .ne 40, 3) := by decide +kernel
theorem dX5_share_60 : decode cX5_share 60 = .ok (.aload_n 2, 1) := by decide +kernel
theorem dX5_share_61 : decode cX5_share 61 = .ok (.iload 5, 2) := by decide +kernel
theorem dX5_share_63 : decode cX5_share 63 = .ok (.iaload, 1) := by decide +kernel
theorem dX5_share_64 : decode cX5_share 64 = .ok (.ifCond .le 33, 3) := by decide +kernel
theorem dX5_share_67 : decode cX5_share 67 = .ok (.aload_n 2, 1) := by decide +kernel
theorem dX5_share_68 : decode cX5_share 68 = .ok (.iload 5, 2) := by decide +kernel
theorem dX5_share_70 : decode cX5_share 70 = .ok (.dup2, 1) := by decide +kernel
theorem dX5_share_71 : decode cX5_share 71 = .ok (.iaload, 1) := by decide +kernel
theorem dX5_share_72 : decode cX5_share 72 = .ok (.iconst 1, 1) := by decide +kernel
theorem dX5_share_73 : decode cX5_share 73 = .ok (.isub, 1) := by decide +kernel
theorem dX5_share_74 : decode cX5_share 74 = .ok (.iastore, 1) := by decide +kernel
theorem dX5_share_75 : decode cX5_share 75 = .ok (.iload 4, 2) := by decide +kernel
theorem dX5_share_77 : decode cX5_share 77 = .ok (.aload_n 0, 1) := by decide +kernel
theorem dX5_share_78 : decode cX5_share 78 = .ok (.aload_n 1, 1) := by decide +kernel
theorem dX5_share_79 : decode cX5_share 79 = .ok (.aload_n 2, 1) := by decide +kernel
theorem dX5_share_80 : decode cX5_share 80 = .ok (.iload_n 3, 1) := by decide +kernel
theorem dX5_share_81 : decode cX5_share 81 = .ok (.iconst 1, 1) := by decide +kernel
theorem dX5_share_82 : decode cX5_share 82 = .ok (.iadd, 1) := by decide +kernel
theorem dX5_share_83 : decode cX5_share 83 = .ok (.invokestatic 71, 3) := by decide +kernel
theorem dX5_share_86 : decode cX5_share 86 = .ok (.iadd, 1) := by decide +kernel
theorem dX5_share_87 : decode cX5_share 87 = .ok (.istore 4, 2) := by decide +kernel
theorem dX5_share_89 : decode cX5_share 89 = .ok (.aload_n 2, 1) := by decide +kernel
theorem dX5_share_90 : decode cX5_share 90 = .ok (.iload 5, 2) := by decide +kernel
theorem dX5_share_92 : decode cX5_share 92 = .ok (.dup2, 1) := by decide +kernel
theorem dX5_share_93 : decode cX5_share 93 = .ok (.iaload, 1) := by decide +kernel
theorem dX5_share_94 : decode cX5_share 94 = .ok (.iconst 1, 1) := by decide +kernel
theorem dX5_share_95 : decode cX5_share 95 = .ok (.iadd, 1) := by decide +kernel
theorem dX5_share_96 : decode cX5_share 96 = .ok (.iastore, 1) := by decide +kernel
theorem dX5_share_97 : decode cX5_share 97 = .ok (.iinc 5 1, 3) := by decide +kernel
theorem dX5_share_100 : decode cX5_share 100 = .ok (.goto (-61), 3) := by decide +kernel
theorem dX5_share_103 : decode cX5_share 103 = .ok (.iload 4, 2) := by decide +kernel
theorem dX5_share_105 : decode cX5_share 105 = .ok (.ireturn, 1) := by decide +kernel
theorem dX5_streetWith_0 : decode cX5_streetWith 0 = .ok (.aload_n 0, 1) := by decide +kernel
theorem dX5_streetWith_1 : decode cX5_streetWith 1 = .ok (.iload_n 3, 1) := by decide +kernel
theorem dX5_streetWith_2 : decode cX5_streetWith 2 = .ok (.invokevirtual 56, 3) := by decide +kernel
theorem dX5_streetWith_5 : decode cX5_streetWith 5 = .ok (.ifCond .ne 10, 3) := by decide +kernel
theorem dX5_streetWith_8 : decode cX5_streetWith 8 = .ok (.aload_n 1, 1) := by decide +kernel
theorem dX5_streetWith_9 : decode cX5_streetWith 9 = .ok (.getfield 60, 3) := by decide +kernel
theorem dX5_streetWith_12 : decode cX5_streetWith 12 = .ok (.iload_n 2, 1) := by decide +kernel
theorem dX5_streetWith_13 : decode cX5_streetWith 13 = .ok (.iaload, 1) := by decide +kernel
theorem dX5_streetWith_14 : decode cX5_streetWith 14 = .ok (.ireturn, 1) := by decide +kernel
theorem dX5_streetWith_15 : decode cX5_streetWith 15 = .ok (.aload_n 0, 1) := by decide +kernel
theorem dX5_streetWith_16 : decode cX5_streetWith 16 = .ok (.getfield 65, 3) := by decide +kernel
theorem dX5_streetWith_19 : decode cX5_streetWith 19 = .ok (.iload_n 3, 1) := by decide +kernel
theorem dX5_streetWith_20 : decode cX5_streetWith 20 = .ok (.iaload, 1) := by decide +kernel
theorem dX5_streetWith_21 : decode cX5_streetWith 21 = .ok (.iconst 2, 1) := by decide +kernel
theorem dX5_streetWith_22 : decode cX5_streetWith 22 = .ok (.irem, 1) := by decide +kernel
theorem dX5_streetWith_23 : decode cX5_streetWith 23 = .ok (.iconst 1, 1) := by decide +kernel
theorem dX5_streetWith_24 : decode cX5_streetWith 24 = .ok (.if_icmp .ne 8, 3) := by decide +kernel
theorem dX5_streetWith_27 : decode cX5_streetWith 27 = .ok (.iload 4, 2) := by decide +kernel
theorem dX5_streetWith_29 : decode cX5_streetWith 29 = .ok (.goto 4, 3) := by decide +kernel
theorem dX5_streetWith_32 : decode cX5_streetWith 32 = .ok (.iconst 0, 1) := by decide +kernel
theorem dX5_streetWith_33 : decode cX5_streetWith 33 = .ok (.istore 5, 2) := by decide +kernel
theorem dX5_streetWith_35 : decode cX5_streetWith 35 = .ok (.aload_n 1, 1) := by decide +kernel
theorem dX5_streetWith_36 : decode cX5_streetWith 36 = .ok (.getfield 68, 3) := by decide +kernel
theorem dX5_streetWith_39 : decode cX5_streetWith 39 = .ok (.iload_n 3, 1) := by decide +kernel
theorem dX5_streetWith_40 : decode cX5_streetWith 40 = .ok (.iaload, 1) := by decide +kernel
theorem dX5_streetWith_41 : decode cX5_streetWith 41 = .ok (.iload 5, 2) := by decide +kernel
theorem dX5_streetWith_43 : decode cX5_streetWith 43 = .ok (.iadd, 1) := by decide +kernel
theorem dX5_streetWith_44 : decode cX5_streetWith 44 = .ok (.iconst 5, 1) := by decide +kernel
theorem dX5_streetWith_45 : decode cX5_streetWith 45 = .ok (.irem, 1) := by decide +kernel
theorem dX5_streetWith_46 : decode cX5_streetWith 46 = .ok (.ireturn, 1) := by decide +kernel
theorem dX5_ways_0 : decode cX5_ways 0 = .ok (.aload_n 1, 1) := by decide +kernel
theorem dX5_ways_1 : decode cX5_ways 1 = .ok (.aload_n 0, 1) := by decide +kernel
theorem dX5_ways_2 : decode cX5_ways 2 = .ok (.getfield 25, 3) := by decide +kernel
theorem dX5_ways_5 : decode cX5_ways 5 = .ok (.aload_n 0, 1) := by decide +kernel
theorem dX5_ways_6 : decode cX5_ways 6 = .ok (.getfield 28, 3) := by decide +kernel
theorem dX5_ways_9 : decode cX5_ways 9 = .ok (.iconst 0, 1) := by decide +kernel
theorem dX5_ways_10 : decode cX5_ways 10 = .ok (.invokestatic 71, 3) := by decide +kernel
theorem dX5_ways_13 : decode cX5_ways 13 = .ok (.ireturn, 1) := by decide +kernel
theorem dX6_forget_0 : decode cX6_forget 0 = .ok (.aload_n 0, 1) := by decide +kernel
theorem dX6_forget_1 : decode cX6_forget 1 = .ok (.iconst 0, 1) := by decide +kernel
theorem dX6_forget_2 : decode cX6_forget 2 = .ok (.putfield 17, 3) := by decide +kernel
theorem dX6_forget_5 : decode cX6_forget 5 = .ok (.return_, 1) := by decide +kernel
theorem dX6_holds_0 : decode cX6_holds 0 = .ok (.aload_n 0, 1) := by decide +kernel
theorem dX6_holds_1 : decode cX6_holds 1 = .ok (.getfield 17, 3) := by decide +kernel
theorem dX6_holds_4 : decode cX6_holds 4 = .ok (.iload_n 1, 1) := by decide +kernel
theorem dX6_holds_5 : decode cX6_holds 5 = .ok (.ishr, 1) := by decide +kernel
theorem dX6_holds_6 : decode cX6_holds 6 = .ok (.iconst 1, 1) := by decide +kernel
theorem dX6_holds_7 : decode cX6_holds 7 = .ok (.iand, 1) := by decide +kernel
theorem dX6_holds_8 : decode cX6_holds 8 = .ok (.iconst 1, 1) := by decide +kernel
theorem dX6_holds_9 : decode cX6_holds 9 = .ok (.if_icmp .ne 7, 3) := by decide +kernel
theorem dX6_holds_12 : decode cX6_holds 12 = .ok (.iconst 1, 1) := by decide +kernel
theorem dX6_holds_13 : decode cX6_holds 13 = .ok (.goto 4, 3) := by decide +kernel
theorem dX6_holds_16 : decode cX6_holds 16 = .ok (.iconst 0, 1) := by decide +kernel
theorem dX6_holds_17 : decode cX6_holds 17 = .ok (.ireturn, 1) := by decide +kernel
theorem dX6_init_0 : decode cX6_init 0 = .ok (.aload_n 0, 1) := by decide +kernel
theorem dX6_init_1 : decode cX6_init 1 = .ok (.invokespecial 3, 3) := by decide +kernel
theorem dX6_init_4 : decode cX6_init 4 = .ok (.aload_n 0, 1) := by decide +kernel
theorem dX6_init_5 : decode cX6_init 5 = .ok (.iconst 2, 1) := by decide +kernel
theorem dX6_init_6 : decode cX6_init 6 = .ok (.anewarray 9, 3) := by decide +kernel
theorem dX6_init_9 : decode cX6_init 9 = .ok (.putfield 11, 3) := by decide +kernel
theorem dX6_init_12 : decode cX6_init 12 = .ok (.aload_n 0, 1) := by decide +kernel
theorem dX6_init_13 : decode cX6_init 13 = .ok (.iconst 0, 1) := by decide +kernel
theorem dX6_init_14 : decode cX6_init 14 = .ok (.putfield 17, 3) := by decide +kernel
theorem dX6_init_17 : decode cX6_init 17 = .ok (.iconst 0, 1) := by decide +kernel
theorem dX6_init_18 : decode cX6_init 18 = .ok (.istore_n 1, 1) := by decide +kernel
theorem dX6_init_19 : decode cX6_init 19 = .ok (.iload_n 1, 1) := by decide +kernel
theorem dX6_init_20 : decode cX6_init 20 = .ok (.iconst 2, 1) := by decide +kernel
theorem dX6_init_21 : decode cX6_init 21 = .ok (.if_icmp .ge 22, 3) := by decide +kernel
theorem dX6_init_24 : decode cX6_init 24 = .ok (.aload_n 0, 1) := by decide +kernel
theorem dX6_init_25 : decode cX6_init 25 = .ok (.getfield 11, 3) := by decide +kernel
theorem dX6_init_28 : decode cX6_init 28 = .ok (.iload_n 1, 1) := by decide +kernel
theorem dX6_init_29 : decode cX6_init 29 = .ok (.new 9, 3) := by decide +kernel
theorem dX6_init_32 : decode cX6_init 32 = .ok (.dup, 1) := by decide +kernel
theorem dX6_init_33 : decode cX6_init 33 = .ok (.invokespecial 21, 3) := by decide +kernel
theorem dX6_init_36 : decode cX6_init 36 = .ok (.aastore, 1) := by decide +kernel
theorem dX6_init_37 : decode cX6_init 37 = .ok (.iinc 1 1, 3) := by decide +kernel
theorem dX6_init_40 : decode cX6_init 40 = .ok (.goto (-21), 3) := by decide +kernel
theorem dX6_init_43 : decode cX6_init 43 = .ok (.return_, 1) := by decide +kernel
theorem dX6_put_0 : decode cX6_put 0 = .ok (.aload_n 0, 1) := by decide +kernel
theorem dX6_put_1 : decode cX6_put 1 = .ok (.getfield 11, 3) := by decide +kernel
theorem dX6_put_4 : decode cX6_put 4 = .ok (.iload_n 1, 1) := by decide +kernel
theorem dX6_put_5 : decode cX6_put 5 = .ok (.aaload, 1) := by decide +kernel
theorem dX6_put_6 : decode cX6_put 6 = .ok (.aload_n 2, 1) := by decide +kernel
theorem dX6_put_7 : decode cX6_put 7 = .ok (.invokevirtual 22, 3) := by decide +kernel
theorem dX6_put_10 : decode cX6_put 10 = .ok (.aload_n 0, 1) := by decide +kernel
theorem dX6_put_11 : decode cX6_put 11 = .ok (.dup, 1) := by decide +kernel
theorem dX6_put_12 : decode cX6_put 12 = .ok (.getfield 17, 3) := by decide +kernel
theorem dX6_put_15 : decode cX6_put 15 = .ok (.iconst 1, 1) := by decide +kernel
theorem dX6_put_16 : decode cX6_put 16 = .ok (.iload_n 1, 1) := by decide +kernel
theorem dX6_put_17 : decode cX6_put 17 = .ok (.ishl, 1) := by decide +kernel
theorem dX6_put_18 : decode cX6_put 18 = .ok (.ior, 1) := by decide +kernel
theorem dX6_put_19 : decode cX6_put 19 = .ok (.putfield 17, 3) := by decide +kernel
theorem dX6_put_22 : decode cX6_put 22 = .ok (.return_, 1) := by decide +kernel
theorem dX6_restore_0 : decode cX6_restore 0 = .ok (.aload_n 2, 1) := by decide +kernel
theorem dX6_restore_1 : decode cX6_restore 1 = .ok (.aload_n 0, 1) := by decide +kernel
theorem dX6_restore_2 : decode cX6_restore 2 = .ok (.getfield 11, 3) := by decide +kernel
theorem dX6_restore_5 : decode cX6_restore 5 = .ok (.iload_n 1, 1) := by decide +kernel
theorem dX6_restore_6 : decode cX6_restore 6 = .ok (.aaload, 1) := by decide +kernel
theorem dX6_restore_7 : decode cX6_restore 7 = .ok (.invokevirtual 22, 3) := by decide +kernel
theorem dX6_restore_10 : decode cX6_restore 10 = .ok (.return_, 1) := by decide +kernel
theorem dX7_allBones_0 : decode cX7_allBones 0 = .ok (.iconst 0, 1) := by decide +kernel
theorem dX7_allBones_1 : decode cX7_allBones 1 = .ok (.istore_n 2, 1) := by decide +kernel
theorem dX7_allBones_2 : decode cX7_allBones 2 = .ok (.iconst 0, 1) := by decide +kernel
theorem dX7_allBones_3 : decode cX7_allBones 3 = .ok (.istore_n 3, 1) := by decide +kernel
theorem dX7_allBones_4 : decode cX7_allBones 4 = .ok (.iload_n 3, 1) := by decide +kernel
theorem dX7_allBones_5 : decode cX7_allBones 5 = .ok (.aload_n 1, 1) := by decide +kernel
theorem dX7_allBones_6 : decode cX7_allBones 6 = .ok (.getfield 62, 3) := by decide +kernel
theorem dX7_allBones_9 : decode cX7_allBones 9 = .ok (.if_icmp .ge 18, 3) := by decide +kernel
theorem dX7_allBones_12 : decode cX7_allBones 12 = .ok (.iload_n 2, 1) := by decide +kernel
theorem dX7_allBones_13 : decode cX7_allBones 13 = .ok (.aload_n 0, 1) := by decide +kernel
theorem dX7_allBones_14 : decode cX7_allBones 14 = .ok (.getfield 22, 3) := by decide +kernel
theorem dX7_allBones_17 : decode cX7_allBones 17 = .ok (.iload_n 3, 1) := by decide +kernel
theorem dX7_allBones_18 : decode cX7_allBones 18 = .ok (.iaload, 1) := by decide +kernel
theorem dX7_allBones_19 : decode cX7_allBones 19 = .ok (.iadd, 1) := by decide +kernel
theorem dX7_allBones_20 : decode cX7_allBones 20 = .ok (.istore_n 2, 1) := by decide +kernel
theorem dX7_allBones_21 : decode cX7_allBones 21 = .ok (.iinc 3 1, 3) := by decide +kernel
theorem dX7_allBones_24 : decode cX7_allBones 24 = .ok (.goto (-20), 3) := by decide +kernel
theorem dX7_allBones_27 : decode cX7_allBones 27 = .ok (.iload_n 2, 1) := by decide +kernel
theorem dX7_allBones_28 : decode cX7_allBones 28 = .ok (.ireturn, 1) := by decide +kernel
theorem dX7_become_0 : decode cX7_become 0 = .ok (.aload_n 0, 1) := by decide +kernel
theorem dX7_become_1 : decode cX7_become 1 = .ok (.aload_n 1, 1) := by decide +kernel
theorem dX7_become_2 : decode cX7_become 2 = .ok (.getfield 9, 3) := by decide +kernel
theorem dX7_become_5 : decode cX7_become 5 = .ok (.putfield 9, 3) := by decide +kernel
theorem dX7_become_8 : decode cX7_become 8 = .ok (.aload_n 0, 1) := by decide +kernel
theorem dX7_become_9 : decode cX7_become 9 = .ok (.aload_n 1, 1) := by decide +kernel
theorem dX7_become_10 : decode cX7_become 10 = .ok (.getfield 15, 3) := by decide +kernel
theorem dX7_become_13 : decode cX7_become 13 = .ok (.putfield 15, 3) := by decide +kernel
theorem dX7_become_16 : decode cX7_become 16 = .ok (.aload_n 1, 1) := by decide +kernel
theorem dX7_become_17 : decode cX7_become 17 = .ok (.getfield 18, 3) := by decide +kernel
theorem dX7_become_20 : decode cX7_become 20 = .ok (.iconst 0, 1) := by decide +kernel
theorem dX7_become_21 : decode cX7_become 21 = .ok (.aload_n 0, 1) := by decide +kernel
theorem dX7_become_22 : decode cX7_become 22 = .ok (.getfield 18, 3) := by decide +kernel
theorem dX7_become_25 : decode cX7_become 25 = .ok (.iconst 0, 1) := by decide +kernel
theorem dX7_become_26 : decode cX7_become 26 = .ok (.iconst 4, 1) := by decide +kernel
theorem dX7_become_27 : decode cX7_become 27 = .ok (.invokestatic 34, 3) := by decide +kernel
theorem dX7_become_30 : decode cX7_become 30 = .ok (.aload_n 1, 1) := by decide +kernel
theorem dX7_become_31 : decode cX7_become 31 = .ok (.getfield 22, 3) := by decide +kernel
theorem dX7_become_34 : decode cX7_become 34 = .ok (.iconst 0, 1) := by decide +kernel
theorem dX7_become_35 : decode cX7_become 35 = .ok (.aload_n 0, 1) := by decide +kernel
theorem dX7_become_36 : decode cX7_become 36 = .ok (.getfield 22, 3) := by decide +kernel
theorem dX7_become_39 : decode cX7_become 39 = .ok (.iconst 0, 1) := by decide +kernel
theorem dX7_become_40 : decode cX7_become 40 = .ok (.iconst 4, 1) := by decide +kernel
theorem dX7_become_41 : decode cX7_become 41 = .ok (.invokestatic 34, 3) := by decide +kernel
theorem dX7_become_44 : decode cX7_become 44 = .ok (.aload_n 1, 1) := by decide +kernel
theorem dX7_become_45 : decode cX7_become 45 = .ok (.getfield 25, 3) := by decide +kernel
theorem dX7_become_48 : decode cX7_become 48 = .ok (.iconst 0, 1) := by decide +kernel
theorem dX7_become_49 : decode cX7_become 49 = .ok (.aload_n 0, 1) := by decide +kernel
theorem dX7_become_50 : decode cX7_become 50 = .ok (.getfield 25, 3) := by decide +kernel
theorem dX7_become_53 : decode cX7_become 53 = .ok (.iconst 0, 1) := by decide +kernel
theorem dX7_become_54 : decode cX7_become 54 = .ok (.iconst 5, 1) := by decide +kernel
theorem dX7_become_55 : decode cX7_become 55 = .ok (.invokestatic 34, 3) := by decide +kernel
theorem dX7_become_58 : decode cX7_become 58 = .ok (.aload_n 1, 1) := by decide +kernel
theorem dX7_become_59 : decode cX7_become 59 = .ok (.getfield 28, 3) := by decide +kernel
theorem dX7_become_62 : decode cX7_become 62 = .ok (.iconst 0, 1) := by decide +kernel
theorem dX7_become_63 : decode cX7_become 63 = .ok (.aload_n 0, 1) := by decide +kernel
theorem dX7_become_64 : decode cX7_become 64 = .ok (.getfield 28, 3) := by decide +kernel
theorem dX7_become_67 : decode cX7_become 67 = .ok (.iconst 0, 1) := by decide +kernel
theorem dX7_become_68 : decode cX7_become 68 = .ok (.iconst 5, 1) := by decide +kernel
theorem dX7_become_69 : decode cX7_become 69 = .ok (.invokestatic 34, 3) := by decide +kernel
theorem dX7_become_72 : decode cX7_become 72 = .ok (.aload_n 1, 1) := by decide +kernel
theorem dX7_become_73 : decode cX7_become 73 = .ok (.getfield 31, 3) := by decide +kernel
theorem dX7_become_76 : decode cX7_become 76 = .ok (.iconst 0, 1) := by decide +kernel
theorem dX7_become_77 : decode cX7_become 77 = .ok (.aload_n 0, 1) := by decide +kernel
theorem dX7_become_78 : decode cX7_become 78 = .ok (.getfield 31, 3) := by decide +kernel
theorem dX7_become_81 : decode cX7_become 81 = .ok (.iconst 0, 1) := by decide +kernel
theorem dX7_become_82 : decode cX7_become 82 = .ok (.iconst 5, 1) := by decide +kernel
theorem dX7_become_83 : decode cX7_become 83 = .ok (.invokestatic 34, 3) := by decide +kernel
theorem dX7_become_86 : decode cX7_become 86 = .ok (.return_, 1) := by decide +kernel
theorem dX7_goes_0 : decode cX7_goes 0 = .ok (.aload_n 0, 1) := by decide +kernel
theorem dX7_goes_1 : decode cX7_goes 1 = .ok (.getfield 18, 3) := by decide +kernel
theorem dX7_goes_4 : decode cX7_goes 4 = .ok (.iload_n 2, 1) := by decide +kernel
theorem dX7_goes_5 : decode cX7_goes 5 = .ok (.aload_n 0, 1) := by decide +kernel
theorem dX7_goes_6 : decode cX7_goes 6 = .ok (.getfield 18, 3) := by decide +kernel
theorem dX7_goes_9 : decode cX7_goes 9 = .ok (.iload_n 2, 1) := by decide +kernel
theorem dX7_goes_10 : decode cX7_goes 10 = .ok (.iaload, 1) := by decide +kernel
theorem dX7_goes_11 : decode cX7_goes 11 = .ok (.iload_n 3, 1) := by decide +kernel
theorem dX7_goes_12 : decode cX7_goes 12 = .ok (.invokestatic 65, 3) := by decide +kernel
theorem dX7_goes_15 : decode cX7_goes 15 = .ok (.iastore, 1) := by decide +kernel
theorem dX7_goes_16 : decode cX7_goes 16 = .ok (.iconst 0, 1) := by decide +kernel
theorem dX7_goes_17 : decode cX7_goes 17 = .ok (.istore 4, 2) := by decide +kernel
theorem dX7_goes_19 : decode cX7_goes 19 = .ok (.iload 4, 2) := by decide +kernel
theorem dX7_goes_21 : decode cX7_goes 21 = .ok (.aload_n 1, 1) := by decide +kernel
theorem dX7_goes_22 : decode cX7_goes 22 = .ok (.getfield 40, 3) := by decide +kernel
theorem dX7_goes_25 : decode cX7_goes 25 = .ok (.if_icmp .ge 42, 3) := by decide +kernel
theorem dX7_goes_28 : decode cX7_goes 28 = .ok (.aload_n 0, 1) := by decide +kernel
theorem dX7_goes_29 : decode cX7_goes 29 = .ok (.getfield 25, 3) := by decide +kernel
theorem dX7_goes_32 : decode cX7_goes 32 = .ok (.iload 4, 2) := by decide +kernel
theorem dX7_goes_34 : decode cX7_goes 34 = .ok (.iaload, 1) := by decide +kernel
theorem dX7_goes_35 : decode cX7_goes 35 = .ok (.iload_n 2, 1) := by decide +kernel
theorem dX7_goes_36 : decode cX7_goes 36 = .ok (.if_icmp .ne 25, 3) := by decide +kernel
theorem dX7_goes_39 : decode cX7_goes 39 = .ok (.aload_n 0, 1) := by decide +kernel
theorem dX7_goes_40 : decode cX7_goes 40 = .ok (.iload 4, 2) := by decide +kernel
theorem dX7_goes_42 : decode cX7_goes 42 = .ok (.invokevirtual 45, 3) := by decide +kernel
theorem dX7_goes_45 : decode cX7_goes 45 = .ok (.ifCond .ne 16, 3) := by decide +kernel
theorem dX7_goes_48 : decode cX7_goes 48 = .ok (.aload_n 0, 1) := by decide +kernel
theorem dX7_goes_49 : decode cX7_goes 49 = .ok (.getfield 28, 3) := by decide +kernel
theorem dX7_goes_52 : decode cX7_goes 52 = .ok (.iload 4, 2) := by decide +kernel
theorem dX7_goes_54 : decode cX7_goes 54 = .ok (.aload_n 0, 1) := by decide +kernel
theorem dX7_goes_55 : decode cX7_goes 55 = .ok (.getfield 18, 3) := by decide +kernel
theorem dX7_goes_58 : decode cX7_goes 58 = .ok (.iload_n 2, 1) := by decide +kernel
theorem dX7_goes_59 : decode cX7_goes 59 = .ok (.iaload, 1) := by decide +kernel
theorem dX7_goes_60 : decode cX7_goes 60 = .ok (.iastore, 1) := by decide +kernel
theorem dX7_goes_61 : decode cX7_goes 61 = .ok (.iinc 4 1, 3) := by decide +kernel
theorem dX7_goes_64 : decode cX7_goes 64 = .ok (.goto (-45), 3) := by decide +kernel
theorem dX7_goes_67 : decode cX7_goes 67 = .ok (.return_, 1) := by decide +kernel
theorem dX7_hasRoom_0 : decode cX7_hasRoom 0 = .ok (.aload_n 0, 1) := by decide +kernel
theorem dX7_hasRoom_1 : decode cX7_hasRoom 1 = .ok (.aload_n 1, 1) := by decide +kernel
theorem dX7_hasRoom_2 : decode cX7_hasRoom 2 = .ok (.iload_n 2, 1) := by decide +kernel
theorem dX7_hasRoom_3 : decode cX7_hasRoom 3 = .ok (.invokevirtual 49, 3) := by decide +kernel
theorem dX7_hasRoom_6 : decode cX7_hasRoom 6 = .ok (.invokestatic 53, 3) := by decide +kernel
theorem dX7_hasRoom_9 : decode cX7_hasRoom 9 = .ok (.aload_n 1, 1) := by decide +kernel
theorem dX7_hasRoom_10 : decode cX7_hasRoom 10 = .ok (.getfield 59, 3) := by decide +kernel
theorem dX7_hasRoom_13 : decode cX7_hasRoom 13 = .ok (.iload_n 2, 1) := by decide +kernel
theorem dX7_hasRoom_14 : decode cX7_hasRoom 14 = .ok (.iaload, 1) := by decide +kernel
theorem dX7_hasRoom_15 : decode cX7_hasRoom 15 = .ok (.if_icmp .ge 7, 3) := by decide +kernel
theorem dX7_hasRoom_18 : decode cX7_hasRoom 18 = .ok (.iconst 1, 1) := by decide +kernel
theorem dX7_hasRoom_19 : decode cX7_hasRoom 19 = .ok (.goto 4, 3) := by decide +kernel
theorem dX7_hasRoom_22 : decode cX7_hasRoom 22 = .ok (.iconst 0, 1) := by decide +kernel
theorem dX7_hasRoom_23 : decode cX7_hasRoom 23 = .ok (.ireturn, 1) := by decide +kernel
theorem dX7_impound_0 : decode cX7_impound 0 = .ok (.aload_n 0, 1) := by decide +kernel
theorem dX7_impound_1 : decode cX7_impound 1 = .ok (.getfield 31, 3) := by decide +kernel
theorem dX7_impound_4 : decode cX7_impound 4 = .ok (.iload_n 2, 1) := by decide +kernel
theorem dX7_impound_5 : decode cX7_impound 5 = .ok (.iconst 3, 1) := by decide +kernel
theorem dX7_impound_6 : decode cX7_impound 6 = .ok (.iastore, 1) := by decide +kernel
theorem dX7_impound_7 : decode cX7_impound 7 = .ok (.aload_n 0, 1) := by decide +kernel
theorem dX7_impound_8 : decode cX7_impound 8 = .ok (.getfield 25, 3) := by decide +kernel
theorem dX7_impound_11 : decode cX7_impound 11 = .ok (.iload_n 2, 1) := by decide +kernel
theorem dX7_impound_12 : decode cX7_impound 12 = .ok (.iaload, 1) := by decide +kernel
theorem dX7_impound_13 : decode cX7_impound 13 = .ok (.istore_n 3, 1) := by decide +kernel
theorem dX7_impound_14 : decode cX7_impound 14 = .ok (.aload_n 1, 1) := by decide +kernel
theorem dX7_impound_15 : decode cX7_impound 15 = .ok (.iload_n 3, 1) := by decide +kernel
theorem dX7_impound_16 : decode cX7_impound 16 = .ok (.invokevirtual 98, 3) := by decide +kernel
theorem dX7_impound_19 : decode cX7_impound 19 = .ok (.ifCond .eq 13, 3) := by decide +kernel
theorem dX7_impound_22 : decode cX7_impound 22 = .ok (.aload_n 0, 1) := by decide +kernel
theorem dX7_impound_23 : decode cX7_impound 23 = .ok (.getfield 22, 3) := by decide +kernel
theorem dX7_impound_26 : decode cX7_impound 26 = .ok (.iload_n 3, 1) := by decide +kernel
theorem dX7_impound_27 : decode cX7_impound 27 = .ok (.dup2, 1) := by decide +kernel
theorem dX7_impound_28 : decode cX7_impound 28 = .ok (.iaload, 1) := by decide +kernel
theorem dX7_impound_29 : decode cX7_impound 29 = .ok (.iconst 2, 1) := by decide +kernel
theorem dX7_impound_30 : decode cX7_impound 30 = .ok (.iadd, 1) := by decide +kernel
theorem dX7_impound_31 : decode cX7_impound 31 = .ok (.iastore, 1) := by decide +kernel
theorem dX7_impound_32 : decode cX7_impound 32 = .ok (.return_, 1) := by decide +kernel
theorem dX7_impounded_0 : decode cX7_impounded 0 = .ok (.iconst 0, 1) := by decide +kernel
theorem dX7_impounded_1 : decode cX7_impounded 1 = .ok (.istore_n 2, 1) := by decide +kernel
theorem dX7_impounded_2 : decode cX7_impounded 2 = .ok (.iconst 0, 1) := by decide +kernel
theorem dX7_impounded_3 : decode cX7_impounded 3 = .ok (.istore_n 3, 1) := by decide +kernel
theorem dX7_impounded_4 : decode cX7_impounded 4 = .ok (.iload_n 3, 1) := by decide +kernel
theorem dX7_impounded_5 : decode cX7_impounded 5 = .ok (.aload_n 1, 1) := by decide +kernel
theorem dX7_impounded_6 : decode cX7_impounded 6 = .ok (.getfield 40, 3) := by decide +kernel
theorem dX7_impounded_9 : decode cX7_impounded 9 = .ok (.if_icmp .ge 23, 3) := by decide +kernel
theorem dX7_impounded_12 : decode cX7_impounded 12 = .ok (.aload_n 0, 1) := by decide +kernel
theorem dX7_impounded_13 : decode cX7_impounded 13 = .ok (.iload_n 3, 1) := by decide +kernel
theorem dX7_impounded_14 : decode cX7_impounded 14 = .ok (.invokevirtual 45, 3) := by decide +kernel
theorem dX7_impounded_17 : decode cX7_impounded 17 = .ok (.ifCond .eq 9, 3) := by decide +kernel
theorem dX7_impounded_20 : decode cX7_impounded 20 = .ok (.iload_n 2, 1) := by decide +kernel
theorem dX7_impounded_21 : decode cX7_impounded 21 = .ok (.iconst 1, 1) := by decide +kernel
theorem dX7_impounded_22 : decode cX7_impounded 22 = .ok (.iload_n 3, 1) := by decide +kernel
theorem dX7_impounded_23 : decode cX7_impounded 23 = .ok (.ishl, 1) := by decide +kernel
theorem dX7_impounded_24 : decode cX7_impounded 24 = .ok (.ior, 1) := by decide +kernel
theorem dX7_impounded_25 : decode cX7_impounded 25 = .ok (.istore_n 2, 1) := by decide +kernel
theorem dX7_impounded_26 : decode cX7_impounded 26 = .ok (.iinc 3 1, 3) := by decide +kernel
theorem dX7_impounded_29 : decode cX7_impounded 29 = .ok (.goto (-25), 3) := by decide +kernel
theorem dX7_impounded_32 : decode cX7_impounded 32 = .ok (.iload_n 2, 1) := by decide +kernel
theorem dX7_impounded_33 : decode cX7_impounded 33 = .ok (.ireturn, 1) := by decide +kernel
theorem dX7_init_0 : decode cX7_init 0 = .ok (.aload_n 0, 1) := by decide +kernel
theorem dX7_init_1 : decode cX7_init 1 = .ok (.invokespecial 3, 3) := by decide +kernel
theorem dX7_init_4 : decode cX7_init 4 = .ok (.aload_n 0, 1) := by decide +kernel
theorem dX7_init_5 : decode cX7_init 5 = .ok (.iconst 0, 1) := by decide +kernel
theorem dX7_init_6 : decode cX7_init 6 = .ok (.putfield 9, 3) := by decide +kernel
theorem dX7_init_9 : decode cX7_init 9 = .ok (.aload_n 0, 1) := by decide +kernel
theorem dX7_init_10 : decode cX7_init 10 = .ok (.iconst 0, 1) := by decide +kernel
theorem dX7_init_11 : decode cX7_init 11 = .ok (.putfield 15, 3) := by decide +kernel
theorem dX7_init_14 : decode cX7_init 14 = .ok (.aload_n 0, 1) := by decide +kernel
theorem dX7_init_15 : decode cX7_init 15 = .ok (.iconst 4, 1) := by decide +kernel
theorem dX7_init_16 : decode cX7_init 16 = .ok (.newarray .int, 2) := by decide +kernel
theorem dX7_init_18 : decode cX7_init 18 = .ok (.putfield 18, 3) := by decide +kernel
theorem dX7_init_21 : decode cX7_init 21 = .ok (.aload_n 0, 1) := by decide +kernel
theorem dX7_init_22 : decode cX7_init 22 = .ok (.iconst 4, 1) := by decide +kernel
theorem dX7_init_23 : decode cX7_init 23 = .ok (.newarray .int, 2) := by decide +kernel
theorem dX7_init_25 : decode cX7_init 25 = .ok (.putfield 22, 3) := by decide +kernel
theorem dX7_init_28 : decode cX7_init 28 = .ok (.aload_n 0, 1) := by decide +kernel
theorem dX7_init_29 : decode cX7_init 29 = .ok (.iconst 5, 1) := by decide +kernel
theorem dX7_init_30 : decode cX7_init 30 = .ok (.newarray .int, 2) := by decide +kernel
theorem dX7_init_32 : decode cX7_init 32 = .ok (.putfield 25, 3) := by decide +kernel
theorem dX7_init_35 : decode cX7_init 35 = .ok (.aload_n 0, 1) := by decide +kernel
theorem dX7_init_36 : decode cX7_init 36 = .ok (.iconst 5, 1) := by decide +kernel
theorem dX7_init_37 : decode cX7_init 37 = .ok (.newarray .int, 2) := by decide +kernel
theorem dX7_init_39 : decode cX7_init 39 = .ok (.putfield 28, 3) := by decide +kernel
theorem dX7_init_42 : decode cX7_init 42 = .ok (.aload_n 0, 1) := by decide +kernel
theorem dX7_init_43 : decode cX7_init 43 = .ok (.iconst 5, 1) := by decide +kernel
theorem dX7_init_44 : decode cX7_init 44 = .ok (.newarray .int, 2) := by decide +kernel
theorem dX7_init_46 : decode cX7_init 46 = .ok (.putfield 31, 3) := by decide +kernel
theorem dX7_init_49 : decode cX7_init 49 = .ok (.return_, 1) := by decide +kernel
theorem dX7_isImpounded_0 : decode cX7_isImpounded 0 = .ok (.aload_n 0, 1) := by decide +kernel
theorem dX7_isImpounded_1 : decode cX7_isImpounded 1 = .ok (.getfield 31, 3) := by decide +kernel
theorem dX7_isImpounded_4 : decode cX7_isImpounded 4 = .ok (.iload_n 1, 1) := by decide +kernel
theorem dX7_isImpounded_5 : decode cX7_isImpounded 5 = .ok (.iaload, 1) := by decide +kernel
theorem dX7_isImpounded_6 : decode cX7_isImpounded 6 = .ok (.ifCond .le 7, 3) := by decide +kernel
theorem dX7_isImpounded_9 : decode cX7_isImpounded 9 = .ok (.iconst 1, 1) := by decide +kernel
theorem dX7_isImpounded_10 : decode cX7_isImpounded 10 = .ok (.goto 4, 3) := by decide +kernel
theorem dX7_isImpounded_13 : decode cX7_isImpounded 13 = .ok (.iconst 0, 1) := by decide +kernel
theorem dX7_isImpounded_14 : decode cX7_isImpounded 14 = .ok (.ireturn, 1) := by decide +kernel
theorem dX7_isLate_0 : decode cX7_isLate 0 = .ok (.iload_n 0, 1) := by decide +kernel
theorem dX7_isLate_1 : decode cX7_isLate 1 = .ok (.bipush 12, 2) := by decide +kernel
theorem dX7_isLate_3 : decode cX7_isLate 3 = .ok (.invokestatic 87, 3) := by decide +kernel
theorem dX7_isLate_6 : decode cX7_isLate 6 = .ok (.iload_n 1, 1) := by decide +kernel
theorem dX7_isLate_7 : decode cX7_isLate 7 = .ok (.if_icmp .lt 7, 3) := by decide +kernel
theorem dX7_isLate_10 : decode cX7_isLate 10 = .ok (.iconst 1, 1) := by decide +kernel
theorem dX7_isLate_11 : decode cX7_isLate 11 = .ok (.goto 4, 3) := by decide +kernel
theorem dX7_isLate_14 : decode cX7_isLate 14 = .ok (.iconst 0, 1) := by decide +kernel
theorem dX7_isLate_15 : decode cX7_isLate 15 = .ok (.ireturn, 1) := by decide +kernel
theorem dX7_isLeashed_0 : decode cX7_isLeashed 0 = .ok (.aload_n 0, 1) := by decide +kernel
theorem dX7_isLeashed_1 : decode cX7_isLeashed 1 = .ok (.getfield 15, 3) := by decide +kernel
theorem dX7_isLeashed_4 : decode cX7_isLeashed 4 = .ok (.iload_n 1, 1) := by decide +kernel
theorem dX7_isLeashed_5 : decode cX7_isLeashed 5 = .ok (.ishr, 1) := by decide +kernel
theorem dX7_isLeashed_6 : decode cX7_isLeashed 6 = .ok (.iconst 1, 1) := by decide +kernel
theorem dX7_isLeashed_7 : decode cX7_isLeashed 7 = .ok (.iand, 1) := by decide +kernel
theorem dX7_isLeashed_8 : decode cX7_isLeashed 8 = .ok (.iconst 1, 1) := by decide +kernel
theorem dX7_isLeashed_9 : decode cX7_isLeashed 9 = .ok (.if_icmp .ne 7, 3) := by decide +kernel
theorem dX7_isLeashed_12 : decode cX7_isLeashed 12 = .ok (.iconst 1, 1) := by decide +kernel
theorem dX7_isLeashed_13 : decode cX7_isLeashed 13 = .ok (.goto 4, 3) := by decide +kernel
theorem dX7_isLeashed_16 : decode cX7_isLeashed 16 = .ok (.iconst 0, 1) := by decide +kernel
theorem dX7_isLeashed_17 : decode cX7_isLeashed 17 = .ok (.ireturn, 1) := by decide +kernel
theorem dX7_keptBy_0 : decode cX7_keptBy 0 = .ok (.iconst 0, 1) := by decide +kernel
theorem dX7_keptBy_1 : decode cX7_keptBy 1 = .ok (.istore_n 3, 1) := by decide +kernel
theorem dX7_keptBy_2 : decode cX7_keptBy 2 = .ok (.iconst 0, 1) := by decide +kernel
theorem dX7_keptBy_3 : decode cX7_keptBy 3 = .ok (.istore 4, 2) := by decide +kernel
theorem dX7_keptBy_5 : decode cX7_keptBy 5 = .ok (.iload 4, 2) := by decide +kernel
theorem dX7_keptBy_7 : decode cX7_keptBy 7 = .ok (.aload_n 1, 1) := by decide +kernel
theorem dX7_keptBy_8 : decode cX7_keptBy 8 = .ok (.getfield 40, 3) := by decide +kernel
theorem dX7_keptBy_11 : decode cX7_keptBy 11 = .ok (.if_icmp .ge 27, 3) := by decide +kernel
theorem dX7_keptBy_14 : decode cX7_keptBy 14 = .ok (.aload_n 0, 1) := by decide +kernel
theorem dX7_keptBy_15 : decode cX7_keptBy 15 = .ok (.getfield 25, 3) := by decide +kernel
theorem dX7_keptBy_18 : decode cX7_keptBy 18 = .ok (.iload 4, 2) := by decide +kernel
theorem dX7_keptBy_20 : decode cX7_keptBy 20 = .ok (.iaload, 1) := by decide +kernel
theorem dX7_keptBy_21 : decode cX7_keptBy 21 = .ok (.iload_n 2, 1) := by decide +kernel
theorem dX7_keptBy_22 : decode cX7_keptBy 22 = .ok (.if_icmp .ne 10, 3) := by decide +kernel
theorem dX7_keptBy_25 : decode cX7_keptBy 25 = .ok (.iload_n 3, 1) := by decide +kernel
theorem dX7_keptBy_26 : decode cX7_keptBy 26 = .ok (.iconst 1, 1) := by decide +kernel
theorem dX7_keptBy_27 : decode cX7_keptBy 27 = .ok (.iload 4, 2) := by decide +kernel
theorem dX7_keptBy_29 : decode cX7_keptBy 29 = .ok (.ishl, 1) := by decide +kernel
theorem dX7_keptBy_30 : decode cX7_keptBy 30 = .ok (.ior, 1) := by decide +kernel
theorem dX7_keptBy_31 : decode cX7_keptBy 31 = .ok (.istore_n 3, 1) := by decide +kernel
theorem dX7_keptBy_32 : decode cX7_keptBy 32 = .ok (.iinc 4 1, 3) := by decide +kernel
theorem dX7_keptBy_35 : decode cX7_keptBy 35 = .ok (.goto (-30), 3) := by decide +kernel
theorem dX7_keptBy_38 : decode cX7_keptBy 38 = .ok (.iload_n 3, 1) := by decide +kernel
theorem dX7_keptBy_39 : decode cX7_keptBy 39 = .ok (.ireturn, 1) := by decide +kernel
theorem dX7_mayBeCaught_0 : decode cX7_mayBeCaught 0 = .ok (.aload_n 0, 1) := by decide +kernel
theorem dX7_mayBeCaught_1 : decode cX7_mayBeCaught 1 = .ok (.getfield 25, 3) := by decide +kernel
theorem dX7_mayBeCaught_4 : decode cX7_mayBeCaught 4 = .ok (.iload_n 2, 1) := by decide +kernel
theorem dX7_mayBeCaught_5 : decode cX7_mayBeCaught 5 = .ok (.iaload, 1) := by decide +kernel
theorem dX7_mayBeCaught_6 : decode cX7_mayBeCaught 6 = .ok (.bipush (-9), 2) := by decide +kernel
theorem dX7_mayBeCaught_8 : decode cX7_mayBeCaught 8 = .ok (.if_icmp .eq 23, 3) := by decide +kernel
theorem dX7_mayBeCaught_11 : decode cX7_mayBeCaught 11 = .ok (.aload_n 0, 1) := by decide +kernel
theorem dX7_mayBeCaught_12 : decode cX7_mayBeCaught 12 = .ok (.iload_n 2, 1) := by decide +kernel
theorem dX7_mayBeCaught_13 : decode cX7_mayBeCaught 13 = .ok (.invokevirtual 92, 3) := by decide +kernel
theorem dX7_mayBeCaught_16 : decode cX7_mayBeCaught 16 = .ok (.ifCond .ne 19, 3) := by decide +kernel
theorem dX7_mayBeCaught_19 : decode cX7_mayBeCaught 19 = .ok (.iload_n 3, 1) := by decide +kernel
theorem dX7_mayBeCaught_20 : decode cX7_mayBeCaught 20 = .ok (.ifCond .ne 11, 3) := by decide +kernel
theorem dX7_mayBeCaught_23 : decode cX7_mayBeCaught 23 = .ok (.aload_n 1, 1) := by decide +kernel
theorem dX7_mayBeCaught_24 : decode cX7_mayBeCaught 24 = .ok (.iload_n 2, 1) := by decide +kernel
theorem dX7_mayBeCaught_25 : decode cX7_mayBeCaught 25 = .ok (.invokevirtual 95, 3) := by decide +kernel
theorem dX7_mayBeCaught_28 : decode cX7_mayBeCaught 28 = .ok (.ifCond .eq 7, 3) := by decide +kernel
theorem dX7_mayBeCaught_31 : decode cX7_mayBeCaught 31 = .ok (.iconst 1, 1) := by decide +kernel
theorem dX7_mayBeCaught_32 : decode cX7_mayBeCaught 32 = .ok (.goto 4, 3) := by decide +kernel
theorem dX7_mayBeCaught_35 : decode cX7_mayBeCaught 35 = .ok (.iconst 0, 1) := by decide +kernel
theorem dX7_mayBeCaught_36 : decode cX7_mayBeCaught 36 = .ok (.ireturn, 1) := by decide +kernel
theorem dX7_passHour_0 : decode cX7_passHour 0 = .ok (.aload_n 1, 1) := by decide +kernel
theorem dX7_passHour_1 : decode cX7_passHour 1 = .ok (.aload_n 0, 1) := by decide +kernel
theorem dX7_passHour_2 : decode cX7_passHour 2 = .ok (.getfield 9, 3) := by decide +kernel
theorem dX7_passHour_5 : decode cX7_passHour 5 = .ok (.iload_n 3, 1) := by decide +kernel
theorem dX7_passHour_6 : decode cX7_passHour 6 = .ok (.iadd, 1) := by decide +kernel
theorem dX7_passHour_7 : decode cX7_passHour 7 = .ok (.invokevirtual 69, 3) := by decide +kernel
theorem dX7_passHour_10 : decode cX7_passHour 10 = .ok (.istore 4, 2) := by decide +kernel
theorem dX7_passHour_12 : decode cX7_passHour 12 = .ok (.aload_n 0, 1) := by decide +kernel
theorem dX7_passHour_13 : decode cX7_passHour 13 = .ok (.getfield 9, 3) := by decide +kernel
theorem dX7_passHour_16 : decode cX7_passHour 16 = .ok (.iload_n 2, 1) := by decide +kernel
theorem dX7_passHour_17 : decode cX7_passHour 17 = .ok (.invokestatic 72, 3) := by decide +kernel
theorem dX7_passHour_20 : decode cX7_passHour 20 = .ok (.istore 5, 2) := by decide +kernel
theorem dX7_passHour_22 : decode cX7_passHour 22 = .ok (.iconst 0, 1) := by decide +kernel
theorem dX7_passHour_23 : decode cX7_passHour 23 = .ok (.istore 6, 2) := by decide +kernel
theorem dX7_passHour_25 : decode cX7_passHour 25 = .ok (.iconst 0, 1) := by decide +kernel
theorem dX7_passHour_26 : decode cX7_passHour 26 = .ok (.istore 7, 2) := by decide +kernel
theorem dX7_passHour_28 : decode cX7_passHour 28 = .ok (.iload 7, 2) := by decide +kernel
theorem dX7_passHour_30 : decode cX7_passHour 30 = .ok (.aload_n 1, 1) := by decide +kernel
theorem dX7_passHour_31 : decode cX7_passHour 31 = .ok (.getfield 40, 3) := by decide +kernel
theorem dX7_passHour_34 : decode cX7_passHour 34 = .ok (.if_icmp .ge 68, 3) := by decide +kernel
theorem dX7_passHour_37 : decode cX7_passHour 37 = .ok (.aload_n 0, 1) := by decide +kernel
theorem dX7_passHour_38 : decode cX7_passHour 38 = .ok (.iload 7, 2) := by decide +kernel
theorem dX7_passHour_40 : decode cX7_passHour 40 = .ok (.invokevirtual 45, 3) := by decide +kernel
theorem dX7_passHour_43 : decode cX7_passHour 43 = .ok (.ifCond .eq 13, 3) := by decide +kernel
theorem dX7_passHour_46 : decode cX7_passHour 46 = .ok (.aload_n 0, 1) := by decide +kernel
theorem dX7_passHour_47 : decode cX7_passHour 47 = .ok (.aload_n 1, 1) := by decide +kernel
theorem dX7_passHour_48 : decode cX7_passHour 48 = .ok (.iload 7, 2) := by decide +kernel
theorem dX7_passHour_50 : decode cX7_passHour 50 = .ok (.invokevirtual 76, 3) := by decide +kernel
theorem dX7_passHour_53 : decode cX7_passHour 53 = .ok (.goto 43, 3) := by decide +kernel
theorem dX7_passHour_56 : decode cX7_passHour 56 = .ok (.aload_n 0, 1) := by decide +kernel
theorem dX7_passHour_57 : decode cX7_passHour 57 = .ok (.getfield 28, 3) := by decide +kernel
theorem dX7_passHour_60 : decode cX7_passHour 60 = .ok (.iload 7, 2) := by decide +kernel
theorem dX7_passHour_62 : decode cX7_passHour 62 = .ok (.iaload, 1) := by decide +kernel
theorem dX7_passHour_63 : decode cX7_passHour 63 = .ok (.iload 4, 2) := by decide +kernel
theorem dX7_passHour_65 : decode cX7_passHour 65 = .ok (.if_icmp .ne 31, 3) := by decide +kernel
theorem dX7_passHour_68 : decode cX7_passHour 68 = .ok (.aload_n 0, 1) := by decide +kernel
theorem dX7_passHour_69 : decode cX7_passHour 69 = .ok (.aload_n 1, 1) := by decide +kernel
theorem dX7_passHour_70 : decode cX7_passHour 70 = .ok (.iload 7, 2) := by decide +kernel
theorem dX7_passHour_72 : decode cX7_passHour 72 = .ok (.iload 5, 2) := by decide +kernel
theorem dX7_passHour_74 : decode cX7_passHour 74 = .ok (.invokevirtual 80, 3) := by decide +kernel
theorem dX7_passHour_77 : decode cX7_passHour 77 = .ok (.ifCond .eq 19, 3) := by decide +kernel
theorem dX7_passHour_80 : decode cX7_passHour 80 = .ok (.aload_n 0, 1) := by decide +kernel
theorem dX7_passHour_81 : decode cX7_passHour 81 = .ok (.aload_n 1, 1) := by decide +kernel
theorem dX7_passHour_82 : decode cX7_passHour 82 = .ok (.iload 7, 2) := by decide +kernel
theorem dX7_passHour_84 : decode cX7_passHour 84 = .ok (.invokevirtual 84, 3) := by decide +kernel
theorem dX7_passHour_87 : decode cX7_passHour 87 = .ok (.iload 6, 2) := by decide +kernel
theorem dX7_passHour_89 : decode cX7_passHour 89 = .ok (.iconst 1, 1) := by decide +kernel
theorem dX7_passHour_90 : decode cX7_passHour 90 = .ok (.iload 7, 2) := by decide +kernel
theorem dX7_passHour_92 : decode cX7_passHour 92 = .ok (.ishl, 1) := by decide +kernel
theorem dX7_passHour_93 : decode cX7_passHour 93 = .ok (.ior, 1) := by decide +kernel
theorem dX7_passHour_94 : decode cX7_passHour 94 = .ok (.istore 6, 2) := by decide +kernel
theorem dX7_passHour_96 : decode cX7_passHour 96 = .ok (.iinc 7 1, 3) := by decide +kernel
theorem dX7_passHour_99 : decode cX7_passHour 99 = .ok (.goto (-71), 3) := by decide +kernel
theorem dX7_passHour_102 : decode cX7_passHour 102 = .ok (.aload_n 0, 1) := by decide +kernel
theorem dX7_passHour_103 : decode cX7_passHour 103 = .ok (.dup, 1) := by decide +kernel
theorem dX7_passHour_104 : decode cX7_passHour 104 = .ok (.getfield 9, 3) := by decide +kernel
theorem dX7_passHour_107 : decode cX7_passHour 107 = .ok (.iconst 1, 1) := by decide +kernel
theorem dX7_passHour_108 : decode cX7_passHour 108 = .ok (.iadd, 1) := by decide +kernel
theorem dX7_passHour_109 : decode cX7_passHour 109 = .ok (.putfield 9, 3) := by decide +kernel
theorem dX7_passHour_112 : decode cX7_passHour 112 = .ok (.iload 6, 2) := by decide +kernel
theorem dX7_passHour_114 : decode cX7_passHour 114 = .ok (.ireturn, 1) := by decide +kernel
theorem dX7_perilAt_0 : decode cX7_perilAt 0 = .ok (.aload_n 0, 1) := by decide +kernel
theorem dX7_perilAt_1 : decode cX7_perilAt 1 = .ok (.getfield 9, 3) := by decide +kernel
theorem dX7_perilAt_4 : decode cX7_perilAt 4 = .ok (.iload_n 3, 1) := by decide +kernel
theorem dX7_perilAt_5 : decode cX7_perilAt 5 = .ok (.iadd, 1) := by decide +kernel
theorem dX7_perilAt_6 : decode cX7_perilAt 6 = .ok (.aload_n 1, 1) := by decide +kernel
theorem dX7_perilAt_7 : decode cX7_perilAt 7 = .ok (.getfield 101, 3) := by decide +kernel
theorem dX7_perilAt_10 : decode cX7_perilAt 10 = .ok (.invokestatic 72, 3) := by decide +kernel
theorem dX7_perilAt_13 : decode cX7_perilAt 13 = .ok (.istore 4, 2) := by decide +kernel
theorem dX7_perilAt_15 : decode cX7_perilAt 15 = .ok (.iconst 0, 1) := by decide +kernel
theorem dX7_perilAt_16 : decode cX7_perilAt 16 = .ok (.istore 5, 2) := by decide +kernel
theorem dX7_perilAt_18 : decode cX7_perilAt 18 = .ok (.iload 5, 2) := by decide +kernel
theorem dX7_perilAt_20 : decode cX7_perilAt 20 = .ok (.aload_n 1, 1) := by decide +kernel
theorem dX7_perilAt_21 : decode cX7_perilAt 21 = .ok (.getfield 40, 3) := by decide +kernel
theorem dX7_perilAt_24 : decode cX7_perilAt 24 = .ok (.if_icmp .ge 54, 3) := by decide +kernel
theorem dX7_perilAt_27 : decode cX7_perilAt 27 = .ok (.aload_n 0, 1) := by decide +kernel
theorem dX7_perilAt_28 : decode cX7_perilAt 28 = .ok (.getfield 25, 3) := by decide +kernel
theorem dX7_perilAt_31 : decode cX7_perilAt 31 = .ok (.iload 5, 2) := by decide +kernel
theorem dX7_perilAt_33 : decode cX7_perilAt 33 = .ok (.iaload, 1) := by decide +kernel
theorem dX7_perilAt_34 : decode cX7_perilAt 34 = .ok (.iload_n 2, 1) := by decide +kernel
theorem dX7_perilAt_35 : decode cX7_perilAt 35 = .ok (.if_icmp .ne 37, 3) := by decide +kernel
theorem dX7_perilAt_38 : decode cX7_perilAt 38 = .ok (.aload_n 0, 1) := by decide +kernel
theorem dX7_perilAt_39 : decode cX7_perilAt 39 = .ok (.getfield 31, 3) := by decide +kernel
theorem dX7_perilAt_42 : decode cX7_perilAt 42 = .ok (.iload 5, 2) := by decide +kernel
theorem dX7_perilAt_44 : decode cX7_perilAt 44 = .ok (.iaload, 1) := by decide +kernel
theorem dX7_perilAt_45 : decode cX7_perilAt 45 = .ok (.iload_n 3, 1) := by decide +kernel
theorem dX7_perilAt_46 : decode cX7_perilAt 46 = .ok (.if_icmp .gt 26, 3) := by decide +kernel
theorem dX7_perilAt_49 : decode cX7_perilAt 49 = .ok (.aload_n 0, 1) := by decide +kernel
theorem dX7_perilAt_50 : decode cX7_perilAt 50 = .ok (.aload_n 1, 1) := by decide +kernel
theorem dX7_perilAt_51 : decode cX7_perilAt 51 = .ok (.iload 5, 2) := by decide +kernel
theorem dX7_perilAt_53 : decode cX7_perilAt 53 = .ok (.iload 4, 2) := by decide +kernel
theorem dX7_perilAt_55 : decode cX7_perilAt 55 = .ok (.invokevirtual 80, 3) := by decide +kernel
theorem dX7_perilAt_58 : decode cX7_perilAt 58 = .ok (.ifCond .eq 14, 3) := by decide +kernel
theorem dX7_perilAt_61 : decode cX7_perilAt 61 = .ok (.aload_n 1, 1) := by decide +kernel
theorem dX7_perilAt_62 : decode cX7_perilAt 62 = .ok (.aload_n 0, 1) := by decide +kernel
theorem dX7_perilAt_63 : decode cX7_perilAt 63 = .ok (.getfield 9, 3) := by decide +kernel
theorem dX7_perilAt_66 : decode cX7_perilAt 66 = .ok (.iload_n 3, 1) := by decide +kernel
theorem dX7_perilAt_67 : decode cX7_perilAt 67 = .ok (.iadd, 1) := by decide +kernel
theorem dX7_perilAt_68 : decode cX7_perilAt 68 = .ok (.invokevirtual 69, 3) := by decide +kernel
theorem dX7_perilAt_71 : decode cX7_perilAt 71 = .ok (.ireturn, 1) := by decide +kernel
theorem dX7_perilAt_72 : decode cX7_perilAt 72 = .ok (.iinc 5 1, 3) := by decide +kernel
theorem dX7_perilAt_75 : decode cX7_perilAt 75 = .ok (.goto (-57), 3) := by decide +kernel
theorem dX7_perilAt_78 : decode cX7_perilAt 78 = .ok (.bipush (-9), 2) := by decide +kernel
theorem dX7_perilAt_80 : decode cX7_perilAt 80 = .ok (.ireturn, 1) := by decide +kernel
theorem dX7_serve_0 : decode cX7_serve 0 = .ok (.aload_n 0, 1) := by decide +kernel
theorem dX7_serve_1 : decode cX7_serve 1 = .ok (.getfield 31, 3) := by decide +kernel
theorem dX7_serve_4 : decode cX7_serve 4 = .ok (.iload_n 2, 1) := by decide +kernel
theorem dX7_serve_5 : decode cX7_serve 5 = .ok (.dup2, 1) := by decide +kernel
theorem dX7_serve_6 : decode cX7_serve 6 = .ok (.iaload, 1) := by decide +kernel
theorem dX7_serve_7 : decode cX7_serve 7 = .ok (.iconst 1, 1) := by decide +kernel
theorem dX7_serve_8 : decode cX7_serve 8 = .ok (.isub, 1) := by decide +kernel
theorem dX7_serve_9 : decode cX7_serve 9 = .ok (.iastore, 1) := by decide +kernel
theorem dX7_serve_10 : decode cX7_serve 10 = .ok (.aload_n 0, 1) := by decide +kernel
theorem dX7_serve_11 : decode cX7_serve 11 = .ok (.getfield 25, 3) := by decide +kernel
theorem dX7_serve_14 : decode cX7_serve 14 = .ok (.iload_n 2, 1) := by decide +kernel
theorem dX7_serve_15 : decode cX7_serve 15 = .ok (.iaload, 1) := by decide +kernel
theorem dX7_serve_16 : decode cX7_serve 16 = .ok (.istore_n 3, 1) := by decide +kernel
theorem dX7_serve_17 : decode cX7_serve 17 = .ok (.aload_n 0, 1) := by decide +kernel
theorem dX7_serve_18 : decode cX7_serve 18 = .ok (.iload_n 2, 1) := by decide +kernel
theorem dX7_serve_19 : decode cX7_serve 19 = .ok (.invokevirtual 45, 3) := by decide +kernel
theorem dX7_serve_22 : decode cX7_serve 22 = .ok (.ifCond .ne 23, 3) := by decide +kernel
theorem dX7_serve_25 : decode cX7_serve 25 = .ok (.aload_n 1, 1) := by decide +kernel
theorem dX7_serve_26 : decode cX7_serve 26 = .ok (.iload_n 3, 1) := by decide +kernel
theorem dX7_serve_27 : decode cX7_serve 27 = .ok (.invokevirtual 98, 3) := by decide +kernel
theorem dX7_serve_30 : decode cX7_serve 30 = .ok (.ifCond .eq 15, 3) := by decide +kernel
theorem dX7_serve_33 : decode cX7_serve 33 = .ok (.aload_n 0, 1) := by decide +kernel
theorem dX7_serve_34 : decode cX7_serve 34 = .ok (.getfield 28, 3) := by decide +kernel
theorem dX7_serve_37 : decode cX7_serve 37 = .ok (.iload_n 2, 1) := by decide +kernel
theorem dX7_serve_38 : decode cX7_serve 38 = .ok (.aload_n 0, 1) := by decide +kernel
theorem dX7_serve_39 : decode cX7_serve 39 = .ok (.getfield 18, 3) := by decide +kernel
theorem dX7_serve_42 : decode cX7_serve 42 = .ok (.iload_n 3, 1) := by decide +kernel
theorem dX7_serve_43 : decode cX7_serve 43 = .ok (.iaload, 1) := by decide +kernel
theorem dX7_serve_44 : decode cX7_serve 44 = .ok (.iastore, 1) := by decide +kernel
theorem dX7_serve_45 : decode cX7_serve 45 = .ok (.return_, 1) := by decide +kernel
theorem dX8_about_0 : decode cX8_about 0 = .ok (.iload_n 1, 1) := by decide +kernel
theorem dX8_about_1 : decode cX8_about 1 = .ok (.tableswitch 159 0 10 #[59, 67, 75, 83, 91, 106, 114, 126, 138, 146, 154], 59) := by decide +kernel
theorem dX8_about_60 : decode cX8_about 60 = .ok (.aload_n 0, 1) := by decide +kernel
theorem dX8_about_61 : decode cX8_about 61 = .ok (.getfield 27, 3) := by decide +kernel
theorem dX8_about_64 : decode cX8_about 64 = .ok (.getfield 90, 3) := by decide +kernel
theorem dX8_about_67 : decode cX8_about 67 = .ok (.ireturn, 1) := by decide +kernel
theorem dX8_about_68 : decode cX8_about 68 = .ok (.aload_n 0, 1) := by decide +kernel
theorem dX8_about_69 : decode cX8_about 69 = .ok (.getfield 27, 3) := by decide +kernel
theorem dX8_about_72 : decode cX8_about 72 = .ok (.getfield 93, 3) := by decide +kernel
theorem dX8_about_75 : decode cX8_about 75 = .ok (.ireturn, 1) := by decide +kernel
theorem dX8_about_76 : decode cX8_about 76 = .ok (.aload_n 0, 1) := by decide +kernel
theorem dX8_about_77 : decode cX8_about 77 = .ok (.getfield 27, 3) := by decide +kernel
theorem dX8_about_80 : decode cX8_about 80 = .ok (.getfield 96, 3) := by decide +kernel
theorem dX8_about_83 : decode cX8_about 83 = .ok (.ireturn, 1) := by decide +kernel
theorem dX8_about_84 : decode cX8_about 84 = .ok (.aload_n 0, 1) := by decide +kernel
theorem dX8_about_85 : decode cX8_about 85 = .ok (.getfield 34, 3) := by decide +kernel
theorem dX8_about_88 : decode cX8_about 88 = .ok (.getfield 99, 3) := by decide +kernel
theorem dX8_about_91 : decode cX8_about 91 = .ok (.ireturn, 1) := by decide +kernel
theorem dX8_about_92 : decode cX8_about 92 = .ok (.aload_n 0, 1) := by decide +kernel
theorem dX8_about_93 : decode cX8_about 93 = .ok (.getfield 27, 3) := by decide +kernel
theorem dX8_about_96 : decode cX8_about 96 = .ok (.aload_n 0, 1) := by decide +kernel
theorem dX8_about_97 : decode cX8_about 97 = .ok (.getfield 34, 3) := by decide +kernel
theorem dX8_about_100 : decode cX8_about 100 = .ok (.getfield 99, 3) := by decide +kernel
theorem dX8_about_103 : decode cX8_about 103 = .ok (.invokevirtual 102, 3) := by decide +kernel
theorem dX8_about_106 : decode cX8_about 106 = .ok (.ireturn, 1) := by decide +kernel
theorem dX8_about_107 : decode cX8_about 107 = .ok (.aload_n 0, 1) := by decide +kernel
theorem dX8_about_108 : decode cX8_about 108 = .ok (.getfield 34, 3) := by decide +kernel
theorem dX8_about_111 : decode cX8_about 111 = .ok (.getfield 106, 3) := by decide +kernel
theorem dX8_about_114 : decode cX8_about 114 = .ok (.ireturn, 1) := by decide +kernel
theorem dX8_about_115 : decode cX8_about 115 = .ok (.aload_n 0, 1) := by decide +kernel
theorem dX8_about_116 : decode cX8_about 116 = .ok (.getfield 34, 3) := by decide +kernel
theorem dX8_about_119 : decode cX8_about 119 = .ok (.aload_n 0, 1) := by decide +kernel
theorem dX8_about_120 : decode cX8_about 120 = .ok (.getfield 27, 3) := by decide +kernel
theorem dX8_about_123 : decode cX8_about 123 = .ok (.invokevirtual 109, 3) := by decide +kernel
theorem dX8_about_126 : decode cX8_about 126 = .ok (.ireturn, 1) := by decide +kernel
theorem dX8_about_127 : decode cX8_about 127 = .ok (.aload_n 0, 1) := by decide +kernel
theorem dX8_about_128 : decode cX8_about 128 = .ok (.getfield 34, 3) := by decide +kernel
theorem dX8_about_131 : decode cX8_about 131 = .ok (.aload_n 0, 1) := by decide +kernel
theorem dX8_about_132 : decode cX8_about 132 = .ok (.getfield 27, 3) := by decide +kernel
theorem dX8_about_135 : decode cX8_about 135 = .ok (.invokevirtual 113, 3) := by decide +kernel
theorem dX8_about_138 : decode cX8_about 138 = .ok (.ireturn, 1) := by decide +kernel
theorem dX8_about_139 : decode cX8_about 139 = .ok (.aload_n 0, 1) := by decide +kernel
theorem dX8_about_140 : decode cX8_about 140 = .ok (.getfield 44, 3) := by decide +kernel
theorem dX8_about_143 : decode cX8_about 143 = .ok (.getfield 116, 3) := by decide +kernel
theorem dX8_about_146 : decode cX8_about 146 = .ok (.ireturn, 1) := by decide +kernel
theorem dX8_about_147 : decode cX8_about 147 = .ok (.aload_n 0, 1) := by decide +kernel
theorem dX8_about_148 : decode cX8_about 148 = .ok (.getfield 65, 3) := by decide +kernel
theorem dX8_about_151 : decode cX8_about 151 = .ok (.getfield 119, 3) := by decide +kernel
theorem dX8_about_154 : decode cX8_about 154 = .ok (.ireturn, 1) := by decide +kernel
theorem dX8_about_155 : decode cX8_about 155 = .ok (.aload_n 0, 1) := by decide +kernel
theorem dX8_about_156 : decode cX8_about 156 = .ok (.getfield 13, 3) := by decide +kernel
theorem dX8_about_159 : decode cX8_about 159 = .ok (.ireturn, 1) := by decide +kernel
theorem dX8_about_160 : decode cX8_about 160 = .ok (.bipush (-2), 2) := by decide +kernel
theorem dX8_about_162 : decode cX8_about 162 = .ok (.ireturn, 1) := by decide +kernel
theorem dX8_again_0 : decode cX8_again 0 = .ok (.iload_n 1, 1) := by decide +kernel
theorem dX8_again_1 : decode cX8_again 1 = .ok (.ifCond .lt 8, 3) := by decide +kernel
theorem dX8_again_4 : decode cX8_again 4 = .ok (.iload_n 1, 1) := by decide +kernel
theorem dX8_again_5 : decode cX8_again 5 = .ok (.iconst 2, 1) := by decide +kernel
theorem dX8_again_6 : decode cX8_again 6 = .ok (.if_icmp .lt 5, 3) := by decide +kernel
theorem dX8_again_9 : decode cX8_again 9 = .ok (.iconst (-1), 1) := by decide +kernel
theorem dX8_again_10 : decode cX8_again 10 = .ok (.ireturn, 1) := by decide +kernel
theorem dX8_again_11 : decode cX8_again 11 = .ok (.aload_n 0, 1) := by decide +kernel
theorem dX8_again_12 : decode cX8_again 12 = .ok (.getfield 51, 3) := by decide +kernel
theorem dX8_again_15 : decode cX8_again 15 = .ok (.iload_n 1, 1) := by decide +kernel
theorem dX8_again_16 : decode cX8_again 16 = .ok (.invokevirtual 248, 3) := by decide +kernel
theorem dX8_again_19 : decode cX8_again 19 = .ok (.ifCond .ne 6, 3) := by decide +kernel
theorem dX8_again_22 : decode cX8_again 22 = .ok (.bipush (-3), 2) := by decide +kernel
theorem dX8_again_24 : decode cX8_again 24 = .ok (.ireturn, 1) := by decide +kernel
theorem dX8_again_25 : decode cX8_again 25 = .ok (.aload_n 0, 1) := by decide +kernel
theorem dX8_again_26 : decode cX8_again 26 = .ok (.getfield 51, 3) := by decide +kernel
theorem dX8_again_29 : decode cX8_again 29 = .ok (.iload_n 1, 1) := by decide +kernel
theorem dX8_again_30 : decode cX8_again 30 = .ok (.aload_n 0, 1) := by decide +kernel
theorem dX8_again_31 : decode cX8_again 31 = .ok (.getfield 34, 3) := by decide +kernel
theorem dX8_again_34 : decode cX8_again 34 = .ok (.invokevirtual 250, 3) := by decide +kernel
theorem dX8_again_37 : decode cX8_again 37 = .ok (.aload_n 0, 1) := by decide +kernel
theorem dX8_again_38 : decode cX8_again 38 = .ok (.getfield 44, 3) := by decide +kernel
theorem dX8_again_41 : decode cX8_again 41 = .ok (.invokevirtual 86, 3) := by decide +kernel
theorem dX8_again_44 : decode cX8_again 44 = .ok (.aload_n 0, 1) := by decide +kernel
theorem dX8_again_45 : decode cX8_again 45 = .ok (.getfield 34, 3) := by decide +kernel
theorem dX8_again_48 : decode cX8_again 48 = .ok (.getfield 99, 3) := by decide +kernel
theorem dX8_again_51 : decode cX8_again 51 = .ok (.ireturn, 1) := by decide +kernel
theorem dX8_aired_0 : decode cX8_aired 0 = .ok (.aload_n 0, 1) := by decide +kernel
theorem dX8_aired_1 : decode cX8_aired 1 = .ok (.getfield 27, 3) := by decide +kernel
theorem dX8_aired_4 : decode cX8_aired 4 = .ok (.iload_n 1, 1) := by decide +kernel
theorem dX8_aired_5 : decode cX8_aired 5 = .ok (.invokevirtual 120, 3) := by decide +kernel
theorem dX8_aired_8 : decode cX8_aired 8 = .ok (.ifCond .ne 5, 3) := by decide +kernel
theorem dX8_aired_11 : decode cX8_aired 11 = .ok (.iconst (-1), 1) := by decide +kernel
theorem dX8_aired_12 : decode cX8_aired 12 = .ok (.ireturn, 1) := by decide +kernel
theorem dX8_aired_13 : decode cX8_aired 13 = .ok (.aload_n 0, 1) := by decide +kernel
theorem dX8_aired_14 : decode cX8_aired 14 = .ok (.getfield 58, 3) := by decide +kernel
theorem dX8_aired_17 : decode cX8_aired 17 = .ok (.aload_n 0, 1) := by decide +kernel
theorem dX8_aired_18 : decode cX8_aired 18 = .ok (.getfield 27, 3) := by decide +kernel
theorem dX8_aired_21 : decode cX8_aired 21 = .ok (.aload_n 0, 1) := by decide +kernel
theorem dX8_aired_22 : decode cX8_aired 22 = .ok (.getfield 34, 3) := by decide +kernel
theorem dX8_aired_25 : decode cX8_aired 25 = .ok (.iload_n 1, 1) := by decide +kernel
theorem dX8_aired_26 : decode cX8_aired 26 = .ok (.invokevirtual 186, 3) := by decide +kernel
theorem dX8_aired_29 : decode cX8_aired 29 = .ok (.aload_n 0, 1) := by decide +kernel
theorem dX8_aired_30 : decode cX8_aired 30 = .ok (.getfield 27, 3) := by decide +kernel
theorem dX8_aired_33 : decode cX8_aired 33 = .ok (.iload_n 1, 1) := by decide +kernel
theorem dX8_aired_34 : decode cX8_aired 34 = .ok (.invokevirtual 201, 3) := by decide +kernel
theorem dX8_aired_37 : decode cX8_aired 37 = .ok (.ifCond .eq 8, 3) := by decide +kernel
theorem dX8_aired_40 : decode cX8_aired 40 = .ok (.bipush (-9), 2) := by decide +kernel
theorem dX8_aired_42 : decode cX8_aired 42 = .ok (.goto 19, 3) := by decide +kernel
theorem dX8_aired_45 : decode cX8_aired 45 = .ok (.aload_n 0, 1) := by decide +kernel
theorem dX8_aired_46 : decode cX8_aired 46 = .ok (.getfield 58, 3) := by decide +kernel
theorem dX8_aired_49 : decode cX8_aired 49 = .ok (.aload_n 0, 1) := by decide +kernel
theorem dX8_aired_50 : decode cX8_aired 50 = .ok (.getfield 34, 3) := by decide +kernel
theorem dX8_aired_53 : decode cX8_aired 53 = .ok (.getfield 124, 3) := by decide +kernel
theorem dX8_aired_56 : decode cX8_aired 56 = .ok (.iload_n 1, 1) := by decide +kernel
theorem dX8_aired_57 : decode cX8_aired 57 = .ok (.iaload, 1) := by decide +kernel
theorem dX8_aired_58 : decode cX8_aired 58 = .ok (.invokevirtual 204, 3) := by decide +kernel
theorem dX8_aired_61 : decode cX8_aired 61 = .ok (.ireturn, 1) := by decide +kernel
theorem dX8_caught_0 : decode cX8_caught 0 = .ok (.iload_n 1, 1) := by decide +kernel
theorem dX8_caught_1 : decode cX8_caught 1 = .ok (.ifCond .lt 9, 3) := by decide +kernel
theorem dX8_caught_4 : decode cX8_caught 4 = .ok (.iload_n 1, 1) := by decide +kernel
theorem dX8_caught_5 : decode cX8_caught 5 = .ok (.bipush 24, 2) := by decide +kernel
theorem dX8_caught_7 : decode cX8_caught 7 = .ok (.if_icmp .le 6, 3) := by decide +kernel
theorem dX8_caught_10 : decode cX8_caught 10 = .ok (.bipush (-2), 2) := by decide +kernel
theorem dX8_caught_12 : decode cX8_caught 12 = .ok (.ireturn, 1) := by decide +kernel
theorem dX8_caught_13 : decode cX8_caught 13 = .ok (.aload_n 0, 1) := by decide +kernel
theorem dX8_caught_14 : decode cX8_caught 14 = .ok (.iload_n 1, 1) := by decide +kernel
theorem dX8_caught_15 : decode cX8_caught 15 = .ok (.aload_n 0, 1) := by decide +kernel
theorem dX8_caught_16 : decode cX8_caught 16 = .ok (.getfield 27, 3) := by decide +kernel
theorem dX8_caught_19 : decode cX8_caught 19 = .ok (.getfield 96, 3) := by decide +kernel
theorem dX8_caught_22 : decode cX8_caught 22 = .ok (.iconst 0, 1) := by decide +kernel
theorem dX8_caught_23 : decode cX8_caught 23 = .ok (.invokevirtual 182, 3) := by decide +kernel
theorem dX8_caught_26 : decode cX8_caught 26 = .ok (.ireturn, 1) := by decide +kernel
theorem dX8_chance_0 : decode cX8_chance 0 = .ok (.aload_n 0, 1) := by decide +kernel
theorem dX8_chance_1 : decode cX8_chance 1 = .ok (.getfield 27, 3) := by decide +kernel
theorem dX8_chance_4 : decode cX8_chance 4 = .ok (.iload_n 1, 1) := by decide +kernel
theorem dX8_chance_5 : decode cX8_chance 5 = .ok (.invokevirtual 143, 3) := by decide +kernel
theorem dX8_chance_8 : decode cX8_chance 8 = .ok (.ifCond .ne 5, 3) := by decide +kernel
theorem dX8_chance_11 : decode cX8_chance 11 = .ok (.iconst (-1), 1) := by decide +kernel
theorem dX8_chance_12 : decode cX8_chance 12 = .ok (.ireturn, 1) := by decide +kernel
theorem dX8_chance_13 : decode cX8_chance 13 = .ok (.iload_n 2, 1) := by decide +kernel
theorem dX8_chance_14 : decode cX8_chance 14 = .ok (.ifCond .lt 9, 3) := by decide +kernel
theorem dX8_chance_17 : decode cX8_chance 17 = .ok (.iload_n 2, 1) := by decide +kernel
theorem dX8_chance_18 : decode cX8_chance 18 = .ok (.bipush 24, 2) := by decide +kernel
theorem dX8_chance_20 : decode cX8_chance 20 = .ok (.if_icmp .le 6, 3) := by decide +kernel
theorem dX8_chance_23 : decode cX8_chance 23 = .ok (.bipush (-2), 2) := by decide +kernel
theorem dX8_chance_25 : decode cX8_chance 25 = .ok (.ireturn, 1) := by decide +kernel
theorem dX8_chance_26 : decode cX8_chance 26 = .ok (.iconst 0, 1) := by decide +kernel
theorem dX8_chance_27 : decode cX8_chance 27 = .ok (.istore 4, 2) := by decide +kernel
theorem dX8_chance_29 : decode cX8_chance 29 = .ok (.iconst 0, 1) := by decide +kernel
theorem dX8_chance_30 : decode cX8_chance 30 = .ok (.istore 5, 2) := by decide +kernel
theorem dX8_chance_32 : decode cX8_chance 32 = .ok (.iload 5, 2) := by decide +kernel
theorem dX8_chance_34 : decode cX8_chance 34 = .ok (.iconst 4, 1) := by decide +kernel
theorem dX8_chance_35 : decode cX8_chance 35 = .ok (.if_icmp .ge 32, 3) := by decide +kernel
theorem dX8_chance_38 : decode cX8_chance 38 = .ok (.iload 4, 2) := by decide +kernel
theorem dX8_chance_40 : decode cX8_chance 40 = .ok (.aload_n 0, 1) := by decide +kernel
theorem dX8_chance_41 : decode cX8_chance 41 = .ok (.iload_n 2, 1) := by decide +kernel
theorem dX8_chance_42 : decode cX8_chance 42 = .ok (.aload_n 0, 1) := by decide +kernel
theorem dX8_chance_43 : decode cX8_chance 43 = .ok (.getfield 27, 3) := by decide +kernel
theorem dX8_chance_46 : decode cX8_chance 46 = .ok (.getfield 96, 3) := by decide +kernel
theorem dX8_chance_49 : decode cX8_chance 49 = .ok (.iload 5, 2) := by decide +kernel
theorem dX8_chance_51 : decode cX8_chance 51 = .ok (.invokevirtual 182, 3) := by decide +kernel
theorem dX8_chance_54 : decode cX8_chance 54 = .ok (.iload_n 1, 1) := by decide +kernel
theorem dX8_chance_55 : decode cX8_chance 55 = .ok (.ishr, 1) := by decide +kernel
theorem dX8_chance_56 : decode cX8_chance 56 = .ok (.iconst 1, 1) := by decide +kernel
theorem dX8_chance_57 : decode cX8_chance 57 = .ok (.iand, 1) := by decide +kernel
theorem dX8_chance_58 : decode cX8_chance 58 = .ok (.iadd, 1) := by decide +kernel
theorem dX8_chance_59 : decode cX8_chance 59 = .ok (.istore 4, 2) := by decide +kernel
theorem dX8_chance_61 : decode cX8_chance 61 = .ok (.iinc 5 1, 3) := by decide +kernel
theorem dX8_chance_64 : decode cX8_chance 64 = .ok (.goto (-32), 3) := by decide +kernel
theorem dX8_chance_67 : decode cX8_chance 67 = .ok (.iload 4, 2) := by decide +kernel
theorem dX8_chance_69 : decode cX8_chance 69 = .ok (.ifCond .eq 9, 3) := by decide +kernel
theorem dX8_chance_72 : decode cX8_chance 72 = .ok (.iload 4, 2) := by decide +kernel
theorem dX8_chance_74 : decode cX8_chance 74 = .ok (.iconst 4, 1) := by decide +kernel
theorem dX8_chance_75 : decode cX8_chance 75 = .ok (.if_icmp .ne 7, 3) := by decide +kernel
theorem dX8_chance_78 : decode cX8_chance 78 = .ok (.iconst 4, 1) := by decide +kernel
theorem dX8_chance_79 : decode cX8_chance 79 = .ok (.goto 14, 3) := by decide +kernel
theorem dX8_chance_82 : decode cX8_chance 82 = .ok (.iload 4, 2) := by decide +kernel
theorem dX8_chance_84 : decode cX8_chance 84 = .ok (.iconst 2, 1) := by decide +kernel
theorem dX8_chance_85 : decode cX8_chance 85 = .ok (.if_icmp .ne 7, 3) := by decide +kernel
theorem dX8_chance_88 : decode cX8_chance 88 = .ok (.iconst 2, 1) := by decide +kernel
theorem dX8_chance_89 : decode cX8_chance 89 = .ok (.goto 4, 3) := by decide +kernel
theorem dX8_chance_92 : decode cX8_chance 92 = .ok (.iconst 1, 1) := by decide +kernel
theorem dX8_chance_93 : decode cX8_chance 93 = .ok (.istore 5, 2) := by decide +kernel
theorem dX8_chance_95 : decode cX8_chance 95 = .ok (.iload_n 3, 1) := by decide +kernel
theorem dX8_chance_96 : decode cX8_chance 96 = .ok (.ifCond .eq 11, 3) := by decide +kernel
theorem dX8_chance_99 : decode cX8_chance 99 = .ok (.iload 4, 2) := by decide +kernel
theorem dX8_chance_101 : decode cX8_chance 101 = .ok (.iload 5, 2) := by decide +kernel
theorem dX8_chance_103 : decode cX8_chance 103 = .ok (.idiv, 1) := by decide +kernel
theorem dX8_chance_104 : decode cX8_chance 104 = .ok (.goto 7, 3) := by decide +kernel
theorem dX8_chance_107 : decode cX8_chance 107 = .ok (.iconst 4, 1) := by decide +kernel
theorem dX8_chance_108 : decode cX8_chance 108 = .ok (.iload 5, 2) := by decide +kernel
theorem dX8_chance_110 : decode cX8_chance 110 = .ok (.idiv, 1) := by decide +kernel
theorem dX8_chance_111 : decode cX8_chance 111 = .ok (.ireturn, 1) := by decide +kernel
theorem dX8_days_0 : decode cX8_days 0 = .ok (.iload_n 1, 1) := by decide +kernel
theorem dX8_days_1 : decode cX8_days 1 = .ok (.iconst 1, 1) := by decide +kernel
theorem dX8_days_2 : decode cX8_days 2 = .ok (.if_icmp .lt 9, 3) := by decide +kernel
theorem dX8_days_5 : decode cX8_days 5 = .ok (.iload_n 1, 1) := by decide +kernel
theorem dX8_days_6 : decode cX8_days 6 = .ok (.bipush 30, 2) := by decide +kernel
theorem dX8_days_8 : decode cX8_days 8 = .ok (.if_icmp .le 6, 3) := by decide +kernel
theorem dX8_days_11 : decode cX8_days 11 = .ok (.bipush (-2), 2) := by decide +kernel
theorem dX8_days_13 : decode cX8_days 13 = .ok (.ireturn, 1) := by decide +kernel
theorem dX8_days_14 : decode cX8_days 14 = .ok (.iconst 0, 1) := by decide +kernel
theorem dX8_days_15 : decode cX8_days 15 = .ok (.istore_n 2, 1) := by decide +kernel
theorem dX8_days_16 : decode cX8_days 16 = .ok (.aload_n 0, 1) := by decide +kernel
theorem dX8_days_17 : decode cX8_days 17 = .ok (.getfield 38, 3) := by decide +kernel
theorem dX8_days_20 : decode cX8_days 20 = .ok (.aload_n 0, 1) := by decide +kernel
theorem dX8_days_21 : decode cX8_days 21 = .ok (.getfield 34, 3) := by decide +kernel
theorem dX8_days_24 : decode cX8_days 24 = .ok (.invokevirtual 83, 3) := by decide +kernel
theorem dX8_days_27 : decode cX8_days 27 = .ok (.iconst 0, 1) := by decide +kernel
theorem dX8_days_28 : decode cX8_days 28 = .ok (.istore_n 3, 1) := by decide +kernel
theorem dX8_days_29 : decode cX8_days 29 = .ok (.iload_n 3, 1) := by decide +kernel
theorem dX8_days_30 : decode cX8_days 30 = .ok (.iload_n 1, 1) := by decide +kernel
theorem dX8_days_31 : decode cX8_days 31 = .ok (.if_icmp .ge 99, 3) := by decide +kernel
theorem dX8_days_34 : decode cX8_days 34 = .ok (.aload_n 0, 1) := by decide +kernel
theorem dX8_days_35 : decode cX8_days 35 = .ok (.aload_n 0, 1) := by decide +kernel
theorem dX8_days_36 : decode cX8_days 36 = .ok (.getfield 69, 3) := by decide +kernel
theorem dX8_days_39 : decode cX8_days 39 = .ok (.ldc2_w 233, 3) := by decide +kernel
theorem dX8_days_42 : decode cX8_days 42 = .ok (.lmul, 1) := by decide +kernel
theorem dX8_days_43 : decode cX8_days 43 = .ok (.ldc2_w 235, 3) := by decide +kernel
theorem dX8_days_46 : decode cX8_days 46 = .ok (.ladd, 1) := by decide +kernel
theorem dX8_days_47 : decode cX8_days 47 = .ok (.putfield 69, 3) := by decide +kernel
theorem dX8_days_50 : decode cX8_days 50 = .ok (.aload_n 0, 1) := by decide +kernel
theorem dX8_days_51 : decode cX8_days 51 = .ok (.getfield 69, 3) := by decide +kernel
theorem dX8_days_54 : decode cX8_days 54 = .ok (.bipush 33, 2) := by decide +kernel
theorem dX8_days_56 : decode cX8_days 56 = .ok (.lushr, 1) := by decide +kernel
theorem dX8_days_57 : decode cX8_days 57 = .ok (.ldc2_w 237, 3) := by decide +kernel
theorem dX8_days_60 : decode cX8_days 60 = .ok (.lrem, 1) := by decide +kernel
theorem dX8_days_61 : decode cX8_days 61 = .ok (.l2i, 1) := by decide +kernel
theorem dX8_days_62 : decode cX8_days 62 = .ok (.istore 4, 2) := by decide +kernel
theorem dX8_days_64 : decode cX8_days 64 = .ok (.iload 4, 2) := by decide +kernel
theorem dX8_days_66 : decode cX8_days 66 = .ok (.iconst 3, 1) := by decide +kernel
theorem dX8_days_67 : decode cX8_days 67 = .ok (.idiv, 1) := by decide +kernel
theorem dX8_days_68 : decode cX8_days 68 = .ok (.istore 5, 2) := by decide +kernel
theorem dX8_days_70 : decode cX8_days 70 = .ok (.aload_n 0, 1) := by decide +kernel
theorem dX8_days_71 : decode cX8_days 71 = .ok (.getfield 27, 3) := by decide +kernel
theorem dX8_days_74 : decode cX8_days 74 = .ok (.iload 5, 2) := by decide +kernel
theorem dX8_days_76 : decode cX8_days 76 = .ok (.invokevirtual 120, 3) := by decide +kernel
theorem dX8_days_79 : decode cX8_days 79 = .ok (.ifCond .eq 20, 3) := by decide +kernel
theorem dX8_days_82 : decode cX8_days 82 = .ok (.aload_n 0, 1) := by decide +kernel
theorem dX8_days_83 : decode cX8_days 83 = .ok (.getfield 38, 3) := by decide +kernel
theorem dX8_days_86 : decode cX8_days 86 = .ok (.aload_n 0, 1) := by decide +kernel
theorem dX8_days_87 : decode cX8_days 87 = .ok (.getfield 27, 3) := by decide +kernel
theorem dX8_days_90 : decode cX8_days 90 = .ok (.iload 5, 2) := by decide +kernel
theorem dX8_days_92 : decode cX8_days 92 = .ok (.iload 4, 2) := by decide +kernel
theorem dX8_days_94 : decode cX8_days 94 = .ok (.iconst 3, 1) := by decide +kernel
theorem dX8_days_95 : decode cX8_days 95 = .ok (.irem, 1) := by decide +kernel
theorem dX8_days_96 : decode cX8_days 96 = .ok (.invokevirtual 164, 3) := by decide +kernel
theorem dX8_days_99 : decode cX8_days 99 = .ok (.iload_n 2, 1) := by decide +kernel
theorem dX8_days_100 : decode cX8_days 100 = .ok (.aload_n 0, 1) := by decide +kernel
theorem dX8_days_101 : decode cX8_days 101 = .ok (.getfield 38, 3) := by decide +kernel
theorem dX8_days_104 : decode cX8_days 104 = .ok (.aload_n 0, 1) := by decide +kernel
theorem dX8_days_105 : decode cX8_days 105 = .ok (.getfield 27, 3) := by decide +kernel
theorem dX8_days_108 : decode cX8_days 108 = .ok (.aload_n 0, 1) := by decide +kernel
theorem dX8_days_109 : decode cX8_days 109 = .ok (.getfield 27, 3) := by decide +kernel
theorem dX8_days_112 : decode cX8_days 112 = .ok (.getfield 96, 3) := by decide +kernel
theorem dX8_days_115 : decode cX8_days 115 = .ok (.iconst 0, 1) := by decide +kernel
theorem dX8_days_116 : decode cX8_days 116 = .ok (.invokevirtual 175, 3) := by decide +kernel
theorem dX8_days_119 : decode cX8_days 119 = .ok (.invokestatic 239, 3) := by decide +kernel
theorem dX8_days_122 : decode cX8_days 122 = .ok (.iadd, 1) := by decide +kernel
theorem dX8_days_123 : decode cX8_days 123 = .ok (.istore_n 2, 1) := by decide +kernel
theorem dX8_days_124 : decode cX8_days 124 = .ok (.iinc 3 1, 3) := by decide +kernel
theorem dX8_days_127 : decode cX8_days 127 = .ok (.goto (-98), 3) := by decide +kernel
theorem dX8_days_130 : decode cX8_days 130 = .ok (.iload_n 2, 1) := by decide +kernel
theorem dX8_days_131 : decode cX8_days 131 = .ok (.ireturn, 1) := by decide +kernel
theorem dX8_dog_0 : decode cX8_dog 0 = .ok (.aload_n 0, 1) := by decide +kernel
theorem dX8_dog_1 : decode cX8_dog 1 = .ok (.getfield 27, 3) := by decide +kernel
theorem dX8_dog_4 : decode cX8_dog 4 = .ok (.iload_n 1, 1) := by decide +kernel
theorem dX8_dog_5 : decode cX8_dog 5 = .ok (.invokevirtual 120, 3) := by decide +kernel
theorem dX8_dog_8 : decode cX8_dog 8 = .ok (.ifCond .ne 5, 3) := by decide +kernel
theorem dX8_dog_11 : decode cX8_dog 11 = .ok (.iconst (-1), 1) := by decide +kernel
theorem dX8_dog_12 : decode cX8_dog 12 = .ok (.ireturn, 1) := by decide +kernel
theorem dX8_dog_13 : decode cX8_dog 13 = .ok (.iload_n 2, 1) := by decide +kernel
theorem dX8_dog_14 : decode cX8_dog 14 = .ok (.tableswitch 101 0 5 #[38, 48, 58, 68, 81, 91], 38) := by decide +kernel
theorem dX8_dog_52 : decode cX8_dog 52 = .ok (.aload_n 0, 1) := by decide +kernel
theorem dX8_dog_53 : decode cX8_dog 53 = .ok (.getfield 34, 3) := by decide +kernel
theorem dX8_dog_56 : decode cX8_dog 56 = .ok (.getfield 124, 3) := by decide +kernel
theorem dX8_dog_59 : decode cX8_dog 59 = .ok (.iload_n 1, 1) := by decide +kernel
theorem dX8_dog_60 : decode cX8_dog 60 = .ok (.iaload, 1) := by decide +kernel
theorem dX8_dog_61 : decode cX8_dog 61 = .ok (.ireturn, 1) := by decide +kernel
theorem dX8_dog_62 : decode cX8_dog 62 = .ok (.aload_n 0, 1) := by decide +kernel
theorem dX8_dog_63 : decode cX8_dog 63 = .ok (.getfield 27, 3) := by decide +kernel
theorem dX8_dog_66 : decode cX8_dog 66 = .ok (.getfield 127, 3) := by decide +kernel
theorem dX8_dog_69 : decode cX8_dog 69 = .ok (.iload_n 1, 1) := by decide +kernel
theorem dX8_dog_70 : decode cX8_dog 70 = .ok (.iaload, 1) := by decide +kernel
theorem dX8_dog_71 : decode cX8_dog 71 = .ok (.ireturn, 1) := by decide +kernel
theorem dX8_dog_72 : decode cX8_dog 72 = .ok (.aload_n 0, 1) := by decide +kernel
theorem dX8_dog_73 : decode cX8_dog 73 = .ok (.getfield 27, 3) := by decide +kernel
theorem dX8_dog_76 : decode cX8_dog 76 = .ok (.getfield 130, 3) := by decide +kernel
theorem dX8_dog_79 : decode cX8_dog 79 = .ok (.iload_n 1, 1) := by decide +kernel
theorem dX8_dog_80 : decode cX8_dog 80 = .ok (.iaload, 1) := by decide +kernel
theorem dX8_dog_81 : decode cX8_dog 81 = .ok (.ireturn, 1) := by decide +kernel
theorem dX8_dog_82 : decode cX8_dog 82 = .ok (.aload_n 0, 1) := by decide +kernel
theorem dX8_dog_83 : decode cX8_dog 83 = .ok (.getfield 34, 3) := by decide +kernel
theorem dX8_dog_86 : decode cX8_dog 86 = .ok (.aload_n 0, 1) := by decide +kernel
theorem dX8_dog_87 : decode cX8_dog 87 = .ok (.getfield 27, 3) := by decide +kernel
theorem dX8_dog_90 : decode cX8_dog 90 = .ok (.iload_n 1, 1) := by decide +kernel
theorem dX8_dog_91 : decode cX8_dog 91 = .ok (.invokevirtual 133, 3) := by decide +kernel
theorem dX8_dog_94 : decode cX8_dog 94 = .ok (.ireturn, 1) := by decide +kernel
theorem dX8_dog_95 : decode cX8_dog 95 = .ok (.aload_n 0, 1) := by decide +kernel
theorem dX8_dog_96 : decode cX8_dog 96 = .ok (.getfield 34, 3) := by decide +kernel
theorem dX8_dog_99 : decode cX8_dog 99 = .ok (.getfield 137, 3) := by decide +kernel
theorem dX8_dog_102 : decode cX8_dog 102 = .ok (.iload_n 1, 1) := by decide +kernel
theorem dX8_dog_103 : decode cX8_dog 103 = .ok (.iaload, 1) := by decide +kernel
theorem dX8_dog_104 : decode cX8_dog 104 = .ok (.ireturn, 1) := by decide +kernel
theorem dX8_dog_105 : decode cX8_dog 105 = .ok (.aload_n 0, 1) := by decide +kernel
theorem dX8_dog_106 : decode cX8_dog 106 = .ok (.getfield 27, 3) := by decide +kernel
theorem dX8_dog_109 : decode cX8_dog 109 = .ok (.getfield 140, 3) := by decide +kernel
theorem dX8_dog_112 : decode cX8_dog 112 = .ok (.iload_n 1, 1) := by decide +kernel
theorem dX8_dog_113 : decode cX8_dog 113 = .ok (.iaload, 1) := by decide +kernel
theorem dX8_dog_114 : decode cX8_dog 114 = .ok (.ireturn, 1) := by decide +kernel
theorem dX8_dog_115 : decode cX8_dog 115 = .ok (.bipush (-2), 2) := by decide +kernel
theorem dX8_dog_117 : decode cX8_dog 117 = .ok (.ireturn, 1) := by decide +kernel
theorem dX8_fault_0 : decode cX8_fault 0 = .ok (.aload_n 0, 1) := by decide +kernel
theorem dX8_fault_1 : decode cX8_fault 1 = .ok (.getfield 20, 3) := by decide +kernel
theorem dX8_fault_4 : decode cX8_fault 4 = .ok (.aload_n 0, 1) := by decide +kernel
theorem dX8_fault_5 : decode cX8_fault 5 = .ok (.getfield 9, 3) := by decide +kernel
theorem dX8_fault_8 : decode cX8_fault 8 = .ok (.aload_n 0, 1) := by decide +kernel
theorem dX8_fault_9 : decode cX8_fault 9 = .ok (.getfield 13, 3) := by decide +kernel
theorem dX8_fault_12 : decode cX8_fault 12 = .ok (.invokevirtual 73, 3) := by decide +kernel
theorem dX8_fault_15 : decode cX8_fault 15 = .ok (.ireturn, 1) := by decide +kernel
theorem dX8_give_0 : decode cX8_give 0 = .ok (.aload_n 0, 1) := by decide +kernel
theorem dX8_give_1 : decode cX8_give 1 = .ok (.getfield 27, 3) := by decide +kernel
theorem dX8_give_4 : decode cX8_give 4 = .ok (.iload_n 1, 1) := by decide +kernel
theorem dX8_give_5 : decode cX8_give 5 = .ok (.invokevirtual 143, 3) := by decide +kernel
theorem dX8_give_8 : decode cX8_give 8 = .ok (.ifCond .eq 14, 3) := by decide +kernel
theorem dX8_give_11 : decode cX8_give 11 = .ok (.aload_n 0, 1) := by decide +kernel
theorem dX8_give_12 : decode cX8_give 12 = .ok (.getfield 27, 3) := by decide +kernel
theorem dX8_give_15 : decode cX8_give 15 = .ok (.iload_n 2, 1) := by decide +kernel
theorem dX8_give_16 : decode cX8_give 16 = .ok (.invokevirtual 120, 3) := by decide +kernel
theorem dX8_give_19 : decode cX8_give 19 = .ok (.ifCond .ne 5, 3) := by decide +kernel
theorem dX8_give_22 : decode cX8_give 22 = .ok (.iconst (-1), 1) := by decide +kernel
theorem dX8_give_23 : decode cX8_give 23 = .ok (.ireturn, 1) := by decide +kernel
theorem dX8_give_24 : decode cX8_give 24 = .ok (.aload_n 0, 1) := by decide +kernel
theorem dX8_give_25 : decode cX8_give 25 = .ok (.getfield 34, 3) := by decide +kernel
theorem dX8_give_28 : decode cX8_give 28 = .ok (.getfield 146, 3) := by decide +kernel
theorem dX8_give_31 : decode cX8_give 31 = .ok (.iload_n 1, 1) := by decide +kernel
theorem dX8_give_32 : decode cX8_give 32 = .ok (.iaload, 1) := by decide +kernel
theorem dX8_give_33 : decode cX8_give 33 = .ok (.istore_n 3, 1) := by decide +kernel
theorem dX8_give_34 : decode cX8_give 34 = .ok (.aload_n 0, 1) := by decide +kernel
theorem dX8_give_35 : decode cX8_give 35 = .ok (.getfield 34, 3) := by decide +kernel
theorem dX8_give_38 : decode cX8_give 38 = .ok (.iload_n 1, 1) := by decide +kernel
theorem dX8_give_39 : decode cX8_give 39 = .ok (.invokevirtual 168, 3) := by decide +kernel
theorem dX8_give_42 : decode cX8_give 42 = .ok (.ifCond .ne 29, 3) := by decide +kernel
theorem dX8_give_45 : decode cX8_give 45 = .ok (.iload_n 3, 1) := by decide +kernel
theorem dX8_give_46 : decode cX8_give 46 = .ok (.iload_n 2, 1) := by decide +kernel
theorem dX8_give_47 : decode cX8_give 47 = .ok (.if_icmp .eq 24, 3) := by decide +kernel
theorem dX8_give_50 : decode cX8_give 50 = .ok (.aload_n 0, 1) := by decide +kernel
theorem dX8_give_51 : decode cX8_give 51 = .ok (.getfield 34, 3) := by decide +kernel
theorem dX8_give_54 : decode cX8_give 54 = .ok (.getfield 149, 3) := by decide +kernel
theorem dX8_give_57 : decode cX8_give 57 = .ok (.iload_n 1, 1) := by decide +kernel
theorem dX8_give_58 : decode cX8_give 58 = .ok (.iaload, 1) := by decide +kernel
theorem dX8_give_59 : decode cX8_give 59 = .ok (.aload_n 0, 1) := by decide +kernel
theorem dX8_give_60 : decode cX8_give 60 = .ok (.getfield 34, 3) := by decide +kernel
theorem dX8_give_63 : decode cX8_give 63 = .ok (.getfield 124, 3) := by decide +kernel
theorem dX8_give_66 : decode cX8_give 66 = .ok (.iload_n 2, 1) := by decide +kernel
theorem dX8_give_67 : decode cX8_give 67 = .ok (.iaload, 1) := by decide +kernel
theorem dX8_give_68 : decode cX8_give 68 = .ok (.if_icmp .eq 6, 3) := by decide +kernel
theorem dX8_give_71 : decode cX8_give 71 = .ok (.bipush (-3), 2) := by decide +kernel
theorem dX8_give_73 : decode cX8_give 73 = .ok (.ireturn, 1) := by decide +kernel
theorem dX8_give_74 : decode cX8_give 74 = .ok (.aload_n 0, 1) := by decide +kernel
theorem dX8_give_75 : decode cX8_give 75 = .ok (.getfield 34, 3) := by decide +kernel
theorem dX8_give_78 : decode cX8_give 78 = .ok (.aload_n 0, 1) := by decide +kernel
theorem dX8_give_79 : decode cX8_give 79 = .ok (.getfield 27, 3) := by decide +kernel
theorem dX8_give_82 : decode cX8_give 82 = .ok (.iload_n 2, 1) := by decide +kernel
theorem dX8_give_83 : decode cX8_give 83 = .ok (.invokevirtual 171, 3) := by decide +kernel
theorem dX8_give_86 : decode cX8_give 86 = .ok (.ifCond .ne 6, 3) := by decide +kernel
theorem dX8_give_89 : decode cX8_give 89 = .ok (.bipush (-4), 2) := by decide +kernel
theorem dX8_give_91 : decode cX8_give 91 = .ok (.ireturn, 1) := by decide +kernel
theorem dX8_give_92 : decode cX8_give 92 = .ok (.aload_n 0, 1) := by decide +kernel
theorem dX8_give_93 : decode cX8_give 93 = .ok (.getfield 44, 3) := by decide +kernel
theorem dX8_give_96 : decode cX8_give 96 = .ok (.aload_n 0, 1) := by decide +kernel
theorem dX8_give_97 : decode cX8_give 97 = .ok (.getfield 34, 3) := by decide +kernel
theorem dX8_give_100 : decode cX8_give 100 = .ok (.invokevirtual 161, 3) := by decide +kernel
theorem dX8_give_103 : decode cX8_give 103 = .ok (.aload_n 0, 1) := by decide +kernel
theorem dX8_give_104 : decode cX8_give 104 = .ok (.getfield 34, 3) := by decide +kernel
theorem dX8_give_107 : decode cX8_give 107 = .ok (.getfield 146, 3) := by decide +kernel
theorem dX8_give_110 : decode cX8_give 110 = .ok (.iload_n 1, 1) := by decide +kernel
theorem dX8_give_111 : decode cX8_give 111 = .ok (.iload_n 2, 1) := by decide +kernel
theorem dX8_give_112 : decode cX8_give 112 = .ok (.iastore, 1) := by decide +kernel
theorem dX8_give_113 : decode cX8_give 113 = .ok (.iload_n 3, 1) := by decide +kernel
theorem dX8_give_114 : decode cX8_give 114 = .ok (.ireturn, 1) := by decide +kernel
theorem dX8_heir_0 : decode cX8_heir 0 = .ok (.aload_n 0, 1) := by decide +kernel
theorem dX8_heir_1 : decode cX8_heir 1 = .ok (.getfield 27, 3) := by decide +kernel
theorem dX8_heir_4 : decode cX8_heir 4 = .ok (.iload_n 1, 1) := by decide +kernel
theorem dX8_heir_5 : decode cX8_heir 5 = .ok (.invokevirtual 120, 3) := by decide +kernel
theorem dX8_heir_8 : decode cX8_heir 8 = .ok (.ifCond .ne 5, 3) := by decide +kernel
theorem dX8_heir_11 : decode cX8_heir 11 = .ok (.iconst (-1), 1) := by decide +kernel
theorem dX8_heir_12 : decode cX8_heir 12 = .ok (.ireturn, 1) := by decide +kernel
theorem dX8_heir_13 : decode cX8_heir 13 = .ok (.bipush (-9), 2) := by decide +kernel
theorem dX8_heir_15 : decode cX8_heir 15 = .ok (.istore_n 2, 1) := by decide +kernel
theorem dX8_heir_16 : decode cX8_heir 16 = .ok (.iconst 0, 1) := by decide +kernel
theorem dX8_heir_17 : decode cX8_heir 17 = .ok (.istore_n 3, 1) := by decide +kernel
theorem dX8_heir_18 : decode cX8_heir 18 = .ok (.iload_n 3, 1) := by decide +kernel
theorem dX8_heir_19 : decode cX8_heir 19 = .ok (.aload_n 0, 1) := by decide +kernel
theorem dX8_heir_20 : decode cX8_heir 20 = .ok (.getfield 27, 3) := by decide +kernel
theorem dX8_heir_23 : decode cX8_heir 23 = .ok (.getfield 90, 3) := by decide +kernel
theorem dX8_heir_26 : decode cX8_heir 26 = .ok (.if_icmp .ge 43, 3) := by decide +kernel
theorem dX8_heir_29 : decode cX8_heir 29 = .ok (.iload_n 3, 1) := by decide +kernel
theorem dX8_heir_30 : decode cX8_heir 30 = .ok (.iload_n 1, 1) := by decide +kernel
theorem dX8_heir_31 : decode cX8_heir 31 = .ok (.if_icmp .eq 32, 3) := by decide +kernel
theorem dX8_heir_34 : decode cX8_heir 34 = .ok (.aload_n 0, 1) := by decide +kernel
theorem dX8_heir_35 : decode cX8_heir 35 = .ok (.getfield 27, 3) := by decide +kernel
theorem dX8_heir_38 : decode cX8_heir 38 = .ok (.iload_n 1, 1) := by decide +kernel
theorem dX8_heir_39 : decode cX8_heir 39 = .ok (.iload_n 3, 1) := by decide +kernel
theorem dX8_heir_40 : decode cX8_heir 40 = .ok (.invokevirtual 207, 3) := by decide +kernel
theorem dX8_heir_43 : decode cX8_heir 43 = .ok (.bipush (-9), 2) := by decide +kernel
theorem dX8_heir_45 : decode cX8_heir 45 = .ok (.if_icmp .eq 18, 3) := by decide +kernel
theorem dX8_heir_48 : decode cX8_heir 48 = .ok (.aload_n 0, 1) := by decide +kernel
theorem dX8_heir_49 : decode cX8_heir 49 = .ok (.getfield 27, 3) := by decide +kernel
theorem dX8_heir_52 : decode cX8_heir 52 = .ok (.iload_n 1, 1) := by decide +kernel
theorem dX8_heir_53 : decode cX8_heir 53 = .ok (.iload_n 3, 1) := by decide +kernel
theorem dX8_heir_54 : decode cX8_heir 54 = .ok (.iload_n 2, 1) := by decide +kernel
theorem dX8_heir_55 : decode cX8_heir 55 = .ok (.invokevirtual 210, 3) := by decide +kernel
theorem dX8_heir_58 : decode cX8_heir 58 = .ok (.ifCond .eq 5, 3) := by decide +kernel
theorem dX8_heir_61 : decode cX8_heir 61 = .ok (.iload_n 3, 1) := by decide +kernel
theorem dX8_heir_62 : decode cX8_heir 62 = .ok (.istore_n 2, 1) := by decide +kernel
theorem dX8_heir_63 : decode cX8_heir 63 = .ok (.iinc 3 1, 3) := by decide +kernel
theorem dX8_heir_66 : decode cX8_heir 66 = .ok (.goto (-48), 3) := by decide +kernel
theorem dX8_heir_69 : decode cX8_heir 69 = .ok (.iload_n 2, 1) := by decide +kernel
theorem dX8_heir_70 : decode cX8_heir 70 = .ok (.ireturn, 1) := by decide +kernel
theorem dX8_hour_0 : decode cX8_hour 0 = .ok (.aload_n 0, 1) := by decide +kernel
theorem dX8_hour_1 : decode cX8_hour 1 = .ok (.getfield 44, 3) := by decide +kernel
theorem dX8_hour_4 : decode cX8_hour 4 = .ok (.aload_n 0, 1) := by decide +kernel
theorem dX8_hour_5 : decode cX8_hour 5 = .ok (.getfield 34, 3) := by decide +kernel
theorem dX8_hour_8 : decode cX8_hour 8 = .ok (.invokevirtual 161, 3) := by decide +kernel
theorem dX8_hour_11 : decode cX8_hour 11 = .ok (.aload_n 0, 1) := by decide +kernel
theorem dX8_hour_12 : decode cX8_hour 12 = .ok (.getfield 34, 3) := by decide +kernel
theorem dX8_hour_15 : decode cX8_hour 15 = .ok (.aload_n 0, 1) := by decide +kernel
theorem dX8_hour_16 : decode cX8_hour 16 = .ok (.getfield 27, 3) := by decide +kernel
theorem dX8_hour_19 : decode cX8_hour 19 = .ok (.aload_n 0, 1) := by decide +kernel
theorem dX8_hour_20 : decode cX8_hour 20 = .ok (.getfield 27, 3) := by decide +kernel
theorem dX8_hour_23 : decode cX8_hour 23 = .ok (.getfield 96, 3) := by decide +kernel
theorem dX8_hour_26 : decode cX8_hour 26 = .ok (.iconst 0, 1) := by decide +kernel
theorem dX8_hour_27 : decode cX8_hour 27 = .ok (.invokevirtual 175, 3) := by decide +kernel
theorem dX8_hour_30 : decode cX8_hour 30 = .ok (.ireturn, 1) := by decide +kernel
theorem dX8_init_0 : decode cX8_init 0 = .ok (.aload_n 0, 1) := by decide +kernel
theorem dX8_init_1 : decode cX8_init 1 = .ok (.invokespecial 1, 3) := by decide +kernel
theorem dX8_init_4 : decode cX8_init 4 = .ok (.aload_n 0, 1) := by decide +kernel
theorem dX8_init_5 : decode cX8_init 5 = .ok (.bipush 60, 2) := by decide +kernel
theorem dX8_init_7 : decode cX8_init 7 = .ok (.newarray .int, 2) := by decide +kernel
theorem dX8_init_9 : decode cX8_init 9 = .ok (.putfield 9, 3) := by decide +kernel
theorem dX8_init_12 : decode cX8_init 12 = .ok (.aload_n 0, 1) := by decide +kernel
theorem dX8_init_13 : decode cX8_init 13 = .ok (.iconst 0, 1) := by decide +kernel
theorem dX8_init_14 : decode cX8_init 14 = .ok (.putfield 13, 3) := by decide +kernel
theorem dX8_init_17 : decode cX8_init 17 = .ok (.aload_n 0, 1) := by decide +kernel
theorem dX8_init_18 : decode cX8_init 18 = .ok (.new 17, 3) := by decide +kernel
theorem dX8_init_21 : decode cX8_init 21 = .ok (.dup, 1) := by decide +kernel
theorem dX8_init_22 : decode cX8_init 22 = .ok (.invokespecial 19, 3) := by decide +kernel
theorem dX8_init_25 : decode cX8_init 25 = .ok (.putfield 20, 3) := by decide +kernel
theorem dX8_init_28 : decode cX8_init 28 = .ok (.aload_n 0, 1) := by decide +kernel
theorem dX8_init_29 : decode cX8_init 29 = .ok (.new 24, 3) := by decide +kernel
theorem dX8_init_32 : decode cX8_init 32 = .ok (.dup, 1) := by decide +kernel
theorem dX8_init_33 : decode cX8_init 33 = .ok (.invokespecial 26, 3) := by decide +kernel
theorem dX8_init_36 : decode cX8_init 36 = .ok (.putfield 27, 3) := by decide +kernel
theorem dX8_init_39 : decode cX8_init 39 = .ok (.aload_n 0, 1) := by decide +kernel
theorem dX8_init_40 : decode cX8_init 40 = .ok (.new 31, 3) := by decide +kernel
theorem dX8_init_43 : decode cX8_init 43 = .ok (.dup, 1) := by decide +kernel
theorem dX8_init_44 : decode cX8_init 44 = .ok (.invokespecial 33, 3) := by decide +kernel
theorem dX8_init_47 : decode cX8_init 47 = .ok (.putfield 34, 3) := by decide +kernel
theorem dX8_init_50 : decode cX8_init 50 = .ok (.aload_n 0, 1) := by decide +kernel
theorem dX8_init_51 : decode cX8_init 51 = .ok (.new 31, 3) := by decide +kernel
theorem dX8_init_54 : decode cX8_init 54 = .ok (.dup, 1) := by decide +kernel
theorem dX8_init_55 : decode cX8_init 55 = .ok (.invokespecial 33, 3) := by decide +kernel
theorem dX8_init_58 : decode cX8_init 58 = .ok (.putfield 38, 3) := by decide +kernel
theorem dX8_init_61 : decode cX8_init 61 = .ok (.aload_n 0, 1) := by decide +kernel
theorem dX8_init_62 : decode cX8_init 62 = .ok (.new 41, 3) := by decide +kernel
theorem dX8_init_65 : decode cX8_init 65 = .ok (.dup, 1) := by decide +kernel
theorem dX8_init_66 : decode cX8_init 66 = .ok (.invokespecial 43, 3) := by decide +kernel
theorem dX8_init_69 : decode cX8_init 69 = .ok (.putfield 44, 3) := by decide +kernel
theorem dX8_init_72 : decode cX8_init 72 = .ok (.aload_n 0, 1) := by decide +kernel
theorem dX8_init_73 : decode cX8_init 73 = .ok (.new 48, 3) := by decide +kernel
theorem dX8_init_76 : decode cX8_init 76 = .ok (.dup, 1) := by decide +kernel
theorem dX8_init_77 : decode cX8_init 77 = .ok (.invokespecial 50, 3) := by decide +kernel
theorem dX8_init_80 : decode cX8_init 80 = .ok (.putfield 51, 3) := by decide +kernel
theorem dX8_init_83 : decode cX8_init 83 = .ok (.aload_n 0, 1) := by decide +kernel
theorem dX8_init_84 : decode cX8_init 84 = .ok (.new 55, 3) := by decide +kernel
theorem dX8_init_87 : decode cX8_init 87 = .ok (.dup, 1) := by decide +kernel
theorem dX8_init_88 : decode cX8_init 88 = .ok (.invokespecial 57, 3) := by decide +kernel
theorem dX8_init_91 : decode cX8_init 91 = .ok (.putfield 58, 3) := by decide +kernel
theorem dX8_init_94 : decode cX8_init 94 = .ok (.aload_n 0, 1) := by decide +kernel
theorem dX8_init_95 : decode cX8_init 95 = .ok (.new 62, 3) := by decide +kernel
theorem dX8_init_98 : decode cX8_init 98 = .ok (.dup, 1) := by decide +kernel
theorem dX8_init_99 : decode cX8_init 99 = .ok (.invokespecial 64, 3) := by decide +kernel
theorem dX8_init_102 : decode cX8_init 102 = .ok (.putfield 65, 3) := by decide +kernel
theorem dX8_init_105 : decode cX8_init 105 = .ok (.aload_n 0, 1) := by decide +kernel
theorem dX8_init_106 : decode cX8_init 106 = .ok (.lconst 0, 1) := by decide +kernel
theorem dX8_init_107 : decode cX8_init 107 = .ok (.putfield 69, 3) := by decide +kernel
theorem dX8_init_110 : decode cX8_init 110 = .ok (.return_, 1) := by decide +kernel
theorem dX8_keep_0 : decode cX8_keep 0 = .ok (.iload_n 1, 1) := by decide +kernel
theorem dX8_keep_1 : decode cX8_keep 1 = .ok (.ifCond .lt 8, 3) := by decide +kernel
theorem dX8_keep_4 : decode cX8_keep 4 = .ok (.iload_n 1, 1) := by decide +kernel
theorem dX8_keep_5 : decode cX8_keep 5 = .ok (.iconst 2, 1) := by decide +kernel
theorem dX8_keep_6 : decode cX8_keep 6 = .ok (.if_icmp .lt 5, 3) := by decide +kernel
theorem dX8_keep_9 : decode cX8_keep 9 = .ok (.iconst (-1), 1) := by decide +kernel
theorem dX8_keep_10 : decode cX8_keep 10 = .ok (.ireturn, 1) := by decide +kernel
theorem dX8_keep_11 : decode cX8_keep 11 = .ok (.aload_n 0, 1) := by decide +kernel
theorem dX8_keep_12 : decode cX8_keep 12 = .ok (.getfield 51, 3) := by decide +kernel
theorem dX8_keep_15 : decode cX8_keep 15 = .ok (.iload_n 1, 1) := by decide +kernel
theorem dX8_keep_16 : decode cX8_keep 16 = .ok (.aload_n 0, 1) := by decide +kernel
theorem dX8_keep_17 : decode cX8_keep 17 = .ok (.getfield 34, 3) := by decide +kernel
theorem dX8_keep_20 : decode cX8_keep 20 = .ok (.invokevirtual 244, 3) := by decide +kernel
theorem dX8_keep_23 : decode cX8_keep 23 = .ok (.aload_n 0, 1) := by decide +kernel
theorem dX8_keep_24 : decode cX8_keep 24 = .ok (.getfield 34, 3) := by decide +kernel
theorem dX8_keep_27 : decode cX8_keep 27 = .ok (.getfield 99, 3) := by decide +kernel
theorem dX8_keep_30 : decode cX8_keep 30 = .ok (.ireturn, 1) := by decide +kernel
theorem dX8_lead_0 : decode cX8_lead 0 = .ok (.aload_n 0, 1) := by decide +kernel
theorem dX8_lead_1 : decode cX8_lead 1 = .ok (.getfield 27, 3) := by decide +kernel
theorem dX8_lead_4 : decode cX8_lead 4 = .ok (.iload_n 1, 1) := by decide +kernel
theorem dX8_lead_5 : decode cX8_lead 5 = .ok (.invokevirtual 120, 3) := by decide +kernel
theorem dX8_lead_8 : decode cX8_lead 8 = .ok (.ifCond .ne 5, 3) := by decide +kernel
theorem dX8_lead_11 : decode cX8_lead 11 = .ok (.iconst (-1), 1) := by decide +kernel
theorem dX8_lead_12 : decode cX8_lead 12 = .ok (.ireturn, 1) := by decide +kernel
theorem dX8_lead_13 : decode cX8_lead 13 = .ok (.iload_n 2, 1) := by decide +kernel
theorem dX8_lead_14 : decode cX8_lead 14 = .ok (.iconst 1, 1) := by decide +kernel
theorem dX8_lead_15 : decode cX8_lead 15 = .ok (.if_icmp .eq 11, 3) := by decide +kernel
theorem dX8_lead_18 : decode cX8_lead 18 = .ok (.iload_n 2, 1) := by decide +kernel
theorem dX8_lead_19 : decode cX8_lead 19 = .ok (.iconst 2, 1) := by decide +kernel
theorem dX8_lead_20 : decode cX8_lead 20 = .ok (.if_icmp .eq 6, 3) := by decide +kernel
theorem dX8_lead_23 : decode cX8_lead 23 = .ok (.bipush (-2), 2) := by decide +kernel
theorem dX8_lead_25 : decode cX8_lead 25 = .ok (.ireturn, 1) := by decide +kernel
theorem dX8_lead_26 : decode cX8_lead 26 = .ok (.aload_n 0, 1) := by decide +kernel
theorem dX8_lead_27 : decode cX8_lead 27 = .ok (.getfield 44, 3) := by decide +kernel
theorem dX8_lead_30 : decode cX8_lead 30 = .ok (.aload_n 0, 1) := by decide +kernel
theorem dX8_lead_31 : decode cX8_lead 31 = .ok (.getfield 34, 3) := by decide +kernel
theorem dX8_lead_34 : decode cX8_lead 34 = .ok (.invokevirtual 161, 3) := by decide +kernel
theorem dX8_lead_37 : decode cX8_lead 37 = .ok (.aload_n 0, 1) := by decide +kernel
theorem dX8_lead_38 : decode cX8_lead 38 = .ok (.getfield 34, 3) := by decide +kernel
theorem dX8_lead_41 : decode cX8_lead 41 = .ok (.aload_n 0, 1) := by decide +kernel
theorem dX8_lead_42 : decode cX8_lead 42 = .ok (.getfield 27, 3) := by decide +kernel
theorem dX8_lead_45 : decode cX8_lead 45 = .ok (.iload_n 1, 1) := by decide +kernel
theorem dX8_lead_46 : decode cX8_lead 46 = .ok (.iload_n 2, 1) := by decide +kernel
theorem dX8_lead_47 : decode cX8_lead 47 = .ok (.invokevirtual 164, 3) := by decide +kernel
theorem dX8_lead_50 : decode cX8_lead 50 = .ok (.aload_n 0, 1) := by decide +kernel
theorem dX8_lead_51 : decode cX8_lead 51 = .ok (.getfield 34, 3) := by decide +kernel
theorem dX8_lead_54 : decode cX8_lead 54 = .ok (.getfield 124, 3) := by decide +kernel
theorem dX8_lead_57 : decode cX8_lead 57 = .ok (.iload_n 1, 1) := by decide +kernel
theorem dX8_lead_58 : decode cX8_lead 58 = .ok (.iaload, 1) := by decide +kernel
theorem dX8_lead_59 : decode cX8_lead 59 = .ok (.ireturn, 1) := by decide +kernel
theorem dX8_leash_0 : decode cX8_leash 0 = .ok (.aload_n 0, 1) := by decide +kernel
theorem dX8_leash_1 : decode cX8_leash 1 = .ok (.getfield 27, 3) := by decide +kernel
theorem dX8_leash_4 : decode cX8_leash 4 = .ok (.iload_n 1, 1) := by decide +kernel
theorem dX8_leash_5 : decode cX8_leash 5 = .ok (.invokevirtual 143, 3) := by decide +kernel
theorem dX8_leash_8 : decode cX8_leash 8 = .ok (.ifCond .ne 5, 3) := by decide +kernel
theorem dX8_leash_11 : decode cX8_leash 11 = .ok (.iconst (-1), 1) := by decide +kernel
theorem dX8_leash_12 : decode cX8_leash 12 = .ok (.ireturn, 1) := by decide +kernel
theorem dX8_leash_13 : decode cX8_leash 13 = .ok (.aload_n 0, 1) := by decide +kernel
theorem dX8_leash_14 : decode cX8_leash 14 = .ok (.getfield 34, 3) := by decide +kernel
theorem dX8_leash_17 : decode cX8_leash 17 = .ok (.getfield 146, 3) := by decide +kernel
theorem dX8_leash_20 : decode cX8_leash 20 = .ok (.iload_n 1, 1) := by decide +kernel
theorem dX8_leash_21 : decode cX8_leash 21 = .ok (.iaload, 1) := by decide +kernel
theorem dX8_leash_22 : decode cX8_leash 22 = .ok (.bipush (-9), 2) := by decide +kernel
theorem dX8_leash_24 : decode cX8_leash 24 = .ok (.if_icmp .eq 14, 3) := by decide +kernel
theorem dX8_leash_27 : decode cX8_leash 27 = .ok (.aload_n 0, 1) := by decide +kernel
theorem dX8_leash_28 : decode cX8_leash 28 = .ok (.getfield 34, 3) := by decide +kernel
theorem dX8_leash_31 : decode cX8_leash 31 = .ok (.iload_n 1, 1) := by decide +kernel
theorem dX8_leash_32 : decode cX8_leash 32 = .ok (.invokevirtual 168, 3) := by decide +kernel
theorem dX8_leash_35 : decode cX8_leash 35 = .ok (.ifCond .eq 6, 3) := by decide +kernel
theorem dX8_leash_38 : decode cX8_leash 38 = .ok (.bipush (-3), 2) := by decide +kernel
theorem dX8_leash_40 : decode cX8_leash 40 = .ok (.ireturn, 1) := by decide +kernel
theorem dX8_leash_41 : decode cX8_leash 41 = .ok (.aload_n 0, 1) := by decide +kernel
theorem dX8_leash_42 : decode cX8_leash 42 = .ok (.getfield 44, 3) := by decide +kernel
theorem dX8_leash_45 : decode cX8_leash 45 = .ok (.aload_n 0, 1) := by decide +kernel
theorem dX8_leash_46 : decode cX8_leash 46 = .ok (.getfield 34, 3) := by decide +kernel
theorem dX8_leash_49 : decode cX8_leash 49 = .ok (.invokevirtual 161, 3) := by decide +kernel
theorem dX8_leash_52 : decode cX8_leash 52 = .ok (.aload_n 0, 1) := by decide +kernel
theorem dX8_leash_53 : decode cX8_leash 53 = .ok (.getfield 34, 3) := by decide +kernel
theorem dX8_leash_56 : decode cX8_leash 56 = .ok (.dup, 1) := by decide +kernel
theorem dX8_leash_57 : decode cX8_leash 57 = .ok (.getfield 106, 3) := by decide +kernel
theorem dX8_leash_60 : decode cX8_leash 60 = .ok (.iconst 1, 1) := by decide +kernel
theorem dX8_leash_61 : decode cX8_leash 61 = .ok (.iload_n 1, 1) := by decide +kernel
theorem dX8_leash_62 : decode cX8_leash 62 = .ok (.ishl, 1) := by decide +kernel
theorem dX8_leash_63 : decode cX8_leash 63 = .ok (.ixor, 1) := by decide +kernel
theorem dX8_leash_64 : decode cX8_leash 64 = .ok (.putfield 106, 3) := by decide +kernel
theorem dX8_leash_67 : decode cX8_leash 67 = .ok (.aload_n 0, 1) := by decide +kernel
theorem dX8_leash_68 : decode cX8_leash 68 = .ok (.getfield 34, 3) := by decide +kernel
theorem dX8_leash_71 : decode cX8_leash 71 = .ok (.iload_n 1, 1) := by decide +kernel
theorem dX8_leash_72 : decode cX8_leash 72 = .ok (.invokevirtual 155, 3) := by decide +kernel
theorem dX8_leash_75 : decode cX8_leash 75 = .ok (.ifCond .eq 7, 3) := by decide +kernel
theorem dX8_leash_78 : decode cX8_leash 78 = .ok (.iconst 1, 1) := by decide +kernel
theorem dX8_leash_79 : decode cX8_leash 79 = .ok (.goto 4, 3) := by decide +kernel
theorem dX8_leash_82 : decode cX8_leash 82 = .ok (.iconst 0, 1) := by decide +kernel
theorem dX8_leash_83 : decode cX8_leash 83 = .ok (.ireturn, 1) := by decide +kernel
theorem dX8_man_0 : decode cX8_man 0 = .ok (.aload_n 0, 1) := by decide +kernel
theorem dX8_man_1 : decode cX8_man 1 = .ok (.getfield 27, 3) := by decide +kernel
theorem dX8_man_4 : decode cX8_man 4 = .ok (.iload_n 1, 1) := by decide +kernel
theorem dX8_man_5 : decode cX8_man 5 = .ok (.invokevirtual 143, 3) := by decide +kernel
theorem dX8_man_8 : decode cX8_man 8 = .ok (.ifCond .ne 5, 3) := by decide +kernel
theorem dX8_man_11 : decode cX8_man 11 = .ok (.iconst (-1), 1) := by decide +kernel
theorem dX8_man_12 : decode cX8_man 12 = .ok (.ireturn, 1) := by decide +kernel
theorem dX8_man_13 : decode cX8_man 13 = .ok (.iload_n 2, 1) := by decide +kernel
theorem dX8_man_14 : decode cX8_man 14 = .ok (.tableswitch 98 0 4 #[34, 44, 54, 71, 88], 34) := by decide +kernel
theorem dX8_man_48 : decode cX8_man 48 = .ok (.aload_n 0, 1) := by decide +kernel
theorem dX8_man_49 : decode cX8_man 49 = .ok (.getfield 34, 3) := by decide +kernel
theorem dX8_man_52 : decode cX8_man 52 = .ok (.getfield 146, 3) := by decide +kernel
theorem dX8_man_55 : decode cX8_man 55 = .ok (.iload_n 1, 1) := by decide +kernel
theorem dX8_man_56 : decode cX8_man 56 = .ok (.iaload, 1) := by decide +kernel
theorem dX8_man_57 : decode cX8_man 57 = .ok (.ireturn, 1) := by decide +kernel
theorem dX8_man_58 : decode cX8_man 58 = .ok (.aload_n 0, 1) := by decide +kernel
theorem dX8_man_59 : decode cX8_man 59 = .ok (.getfield 34, 3) := by decide +kernel
theorem dX8_man_62 : decode cX8_man 62 = .ok (.getfield 149, 3) := by decide +kernel
theorem dX8_man_65 : decode cX8_man 65 = .ok (.iload_n 1, 1) := by decide +kernel
theorem dX8_man_66 : decode cX8_man 66 = .ok (.iaload, 1) := by decide +kernel
theorem dX8_man_67 : decode cX8_man 67 = .ok (.ireturn, 1) := by decide +kernel
theorem dX8_man_68 : decode cX8_man 68 = .ok (.aload_n 0, 1) := by decide +kernel
theorem dX8_man_69 : decode cX8_man 69 = .ok (.getfield 27, 3) := by decide +kernel
theorem dX8_man_72 : decode cX8_man 72 = .ok (.iload_n 1, 1) := by decide +kernel
theorem dX8_man_73 : decode cX8_man 73 = .ok (.invokevirtual 152, 3) := by decide +kernel
theorem dX8_man_76 : decode cX8_man 76 = .ok (.ifCond .eq 7, 3) := by decide +kernel
theorem dX8_man_79 : decode cX8_man 79 = .ok (.iconst 1, 1) := by decide +kernel
theorem dX8_man_80 : decode cX8_man 80 = .ok (.goto 4, 3) := by decide +kernel
theorem dX8_man_83 : decode cX8_man 83 = .ok (.iconst 0, 1) := by decide +kernel
theorem dX8_man_84 : decode cX8_man 84 = .ok (.ireturn, 1) := by decide +kernel
theorem dX8_man_85 : decode cX8_man 85 = .ok (.aload_n 0, 1) := by decide +kernel
theorem dX8_man_86 : decode cX8_man 86 = .ok (.getfield 34, 3) := by decide +kernel
theorem dX8_man_89 : decode cX8_man 89 = .ok (.iload_n 1, 1) := by decide +kernel
theorem dX8_man_90 : decode cX8_man 90 = .ok (.invokevirtual 155, 3) := by decide +kernel
theorem dX8_man_93 : decode cX8_man 93 = .ok (.ifCond .eq 7, 3) := by decide +kernel
theorem dX8_man_96 : decode cX8_man 96 = .ok (.iconst 1, 1) := by decide +kernel
theorem dX8_man_97 : decode cX8_man 97 = .ok (.goto 4, 3) := by decide +kernel
theorem dX8_man_100 : decode cX8_man 100 = .ok (.iconst 0, 1) := by decide +kernel
theorem dX8_man_101 : decode cX8_man 101 = .ok (.ireturn, 1) := by decide +kernel
theorem dX8_man_102 : decode cX8_man 102 = .ok (.aload_n 0, 1) := by decide +kernel
theorem dX8_man_103 : decode cX8_man 103 = .ok (.getfield 34, 3) := by decide +kernel
theorem dX8_man_106 : decode cX8_man 106 = .ok (.getfield 158, 3) := by decide +kernel
theorem dX8_man_109 : decode cX8_man 109 = .ok (.iload_n 1, 1) := by decide +kernel
theorem dX8_man_110 : decode cX8_man 110 = .ok (.iaload, 1) := by decide +kernel
theorem dX8_man_111 : decode cX8_man 111 = .ok (.ireturn, 1) := by decide +kernel
theorem dX8_man_112 : decode cX8_man 112 = .ok (.bipush (-2), 2) := by decide +kernel
theorem dX8_man_114 : decode cX8_man 114 = .ok (.ireturn, 1) := by decide +kernel
theorem dX8_ordain_0 : decode cX8_ordain 0 = .ok (.aload_n 0, 1) := by decide +kernel
theorem dX8_ordain_1 : decode cX8_ordain 1 = .ok (.getfield 20, 3) := by decide +kernel
theorem dX8_ordain_4 : decode cX8_ordain 4 = .ok (.aload_n 0, 1) := by decide +kernel
theorem dX8_ordain_5 : decode cX8_ordain 5 = .ok (.getfield 9, 3) := by decide +kernel
theorem dX8_ordain_8 : decode cX8_ordain 8 = .ok (.aload_n 0, 1) := by decide +kernel
theorem dX8_ordain_9 : decode cX8_ordain 9 = .ok (.getfield 13, 3) := by decide +kernel
theorem dX8_ordain_12 : decode cX8_ordain 12 = .ok (.invokevirtual 73, 3) := by decide +kernel
theorem dX8_ordain_15 : decode cX8_ordain 15 = .ok (.bipush (-9), 2) := by decide +kernel
theorem dX8_ordain_17 : decode cX8_ordain 17 = .ok (.if_icmp .eq 6, 3) := by decide +kernel
theorem dX8_ordain_20 : decode cX8_ordain 20 = .ok (.bipush (-3), 2) := by decide +kernel
theorem dX8_ordain_22 : decode cX8_ordain 22 = .ok (.ireturn, 1) := by decide +kernel
theorem dX8_ordain_23 : decode cX8_ordain 23 = .ok (.aload_n 0, 1) := by decide +kernel
theorem dX8_ordain_24 : decode cX8_ordain 24 = .ok (.getfield 27, 3) := by decide +kernel
theorem dX8_ordain_27 : decode cX8_ordain 27 = .ok (.aload_n 0, 1) := by decide +kernel
theorem dX8_ordain_28 : decode cX8_ordain 28 = .ok (.getfield 20, 3) := by decide +kernel
theorem dX8_ordain_31 : decode cX8_ordain 31 = .ok (.getfield 77, 3) := by decide +kernel
theorem dX8_ordain_34 : decode cX8_ordain 34 = .ok (.invokevirtual 78, 3) := by decide +kernel
theorem dX8_ordain_37 : decode cX8_ordain 37 = .ok (.aload_n 0, 1) := by decide +kernel
theorem dX8_ordain_38 : decode cX8_ordain 38 = .ok (.getfield 34, 3) := by decide +kernel
theorem dX8_ordain_41 : decode cX8_ordain 41 = .ok (.aload_n 0, 1) := by decide +kernel
theorem dX8_ordain_42 : decode cX8_ordain 42 = .ok (.getfield 20, 3) := by decide +kernel
theorem dX8_ordain_45 : decode cX8_ordain 45 = .ok (.getfield 82, 3) := by decide +kernel
theorem dX8_ordain_48 : decode cX8_ordain 48 = .ok (.invokevirtual 83, 3) := by decide +kernel
theorem dX8_ordain_51 : decode cX8_ordain 51 = .ok (.aload_n 0, 1) := by decide +kernel
theorem dX8_ordain_52 : decode cX8_ordain 52 = .ok (.getfield 44, 3) := by decide +kernel
theorem dX8_ordain_55 : decode cX8_ordain 55 = .ok (.invokevirtual 86, 3) := by decide +kernel
theorem dX8_ordain_58 : decode cX8_ordain 58 = .ok (.aload_n 0, 1) := by decide +kernel
theorem dX8_ordain_59 : decode cX8_ordain 59 = .ok (.getfield 51, 3) := by decide +kernel
theorem dX8_ordain_62 : decode cX8_ordain 62 = .ok (.invokevirtual 89, 3) := by decide +kernel
theorem dX8_ordain_65 : decode cX8_ordain 65 = .ok (.bipush 10, 2) := by decide +kernel
theorem dX8_ordain_67 : decode cX8_ordain 67 = .ok (.aload_n 0, 1) := by decide +kernel
theorem dX8_ordain_68 : decode cX8_ordain 68 = .ok (.getfield 27, 3) := by decide +kernel
theorem dX8_ordain_71 : decode cX8_ordain 71 = .ok (.getfield 90, 3) := by decide +kernel
theorem dX8_ordain_74 : decode cX8_ordain 74 = .ok (.imul, 1) := by decide +kernel
theorem dX8_ordain_75 : decode cX8_ordain 75 = .ok (.aload_n 0, 1) := by decide +kernel
theorem dX8_ordain_76 : decode cX8_ordain 76 = .ok (.getfield 27, 3) := by decide +kernel
theorem dX8_ordain_79 : decode cX8_ordain 79 = .ok (.getfield 93, 3) := by decide +kernel
theorem dX8_ordain_82 : decode cX8_ordain 82 = .ok (.iadd, 1) := by decide +kernel
theorem dX8_ordain_83 : decode cX8_ordain 83 = .ok (.ireturn, 1) := by decide +kernel
theorem dX8_pays_0 : decode cX8_pays 0 = .ok (.iload_n 1, 1) := by decide +kernel
theorem dX8_pays_1 : decode cX8_pays 1 = .ok (.ifCond .lt 19, 3) := by decide +kernel
theorem dX8_pays_4 : decode cX8_pays 4 = .ok (.iload_n 1, 1) := by decide +kernel
theorem dX8_pays_5 : decode cX8_pays 5 = .ok (.bipush 12, 2) := by decide +kernel
theorem dX8_pays_7 : decode cX8_pays 7 = .ok (.if_icmp .gt 13, 3) := by decide +kernel
theorem dX8_pays_10 : decode cX8_pays 10 = .ok (.iload_n 2, 1) := by decide +kernel
theorem dX8_pays_11 : decode cX8_pays 11 = .ok (.ifCond .lt 9, 3) := by decide +kernel
theorem dX8_pays_14 : decode cX8_pays 14 = .ok (.iload_n 2, 1) := by decide +kernel
theorem dX8_pays_15 : decode cX8_pays 15 = .ok (.bipush 24, 2) := by decide +kernel
theorem dX8_pays_17 : decode cX8_pays 17 = .ok (.if_icmp .le 6, 3) := by decide +kernel
theorem dX8_pays_20 : decode cX8_pays 20 = .ok (.bipush (-2), 2) := by decide +kernel
theorem dX8_pays_22 : decode cX8_pays 22 = .ok (.ireturn, 1) := by decide +kernel
theorem dX8_pays_23 : decode cX8_pays 23 = .ok (.aload_n 0, 1) := by decide +kernel
theorem dX8_pays_24 : decode cX8_pays 24 = .ok (.iload_n 2, 1) := by decide +kernel
theorem dX8_pays_25 : decode cX8_pays 25 = .ok (.iload_n 1, 1) := by decide +kernel
theorem dX8_pays_26 : decode cX8_pays 26 = .ok (.iconst 0, 1) := by decide +kernel
theorem dX8_pays_27 : decode cX8_pays 27 = .ok (.invokevirtual 182, 3) := by decide +kernel
theorem dX8_pays_30 : decode cX8_pays 30 = .ok (.pop, 1) := by decide +kernel
theorem dX8_pays_31 : decode cX8_pays 31 = .ok (.aload_n 0, 1) := by decide +kernel
theorem dX8_pays_32 : decode cX8_pays 32 = .ok (.getfield 38, 3) := by decide +kernel
theorem dX8_pays_35 : decode cX8_pays 35 = .ok (.aload_n 0, 1) := by decide +kernel
theorem dX8_pays_36 : decode cX8_pays 36 = .ok (.getfield 27, 3) := by decide +kernel
theorem dX8_pays_39 : decode cX8_pays 39 = .ok (.invokevirtual 113, 3) := by decide +kernel
theorem dX8_pays_42 : decode cX8_pays 42 = .ok (.aload_n 0, 1) := by decide +kernel
theorem dX8_pays_43 : decode cX8_pays 43 = .ok (.getfield 34, 3) := by decide +kernel
theorem dX8_pays_46 : decode cX8_pays 46 = .ok (.aload_n 0, 1) := by decide +kernel
theorem dX8_pays_47 : decode cX8_pays 47 = .ok (.getfield 27, 3) := by decide +kernel
theorem dX8_pays_50 : decode cX8_pays 50 = .ok (.invokevirtual 113, 3) := by decide +kernel
theorem dX8_pays_53 : decode cX8_pays 53 = .ok (.isub, 1) := by decide +kernel
theorem dX8_pays_54 : decode cX8_pays 54 = .ok (.ireturn, 1) := by decide +kernel
theorem dX8_rests_0 : decode cX8_rests 0 = .ok (.iload_n 1, 1) := by decide +kernel
theorem dX8_rests_1 : decode cX8_rests 1 = .ok (.ifCond .lt 18, 3) := by decide +kernel
theorem dX8_rests_4 : decode cX8_rests 4 = .ok (.iload_n 1, 1) := by decide +kernel
theorem dX8_rests_5 : decode cX8_rests 5 = .ok (.ldc 227, 2) := by decide +kernel
theorem dX8_rests_7 : decode cX8_rests 7 = .ok (.if_icmp .gt 12, 3) := by decide +kernel
theorem dX8_rests_10 : decode cX8_rests 10 = .ok (.iload_n 2, 1) := by decide +kernel
theorem dX8_rests_11 : decode cX8_rests 11 = .ok (.ifCond .lt 8, 3) := by decide +kernel
theorem dX8_rests_14 : decode cX8_rests 14 = .ok (.iload_n 2, 1) := by decide +kernel
theorem dX8_rests_15 : decode cX8_rests 15 = .ok (.iconst 1, 1) := by decide +kernel
theorem dX8_rests_16 : decode cX8_rests 16 = .ok (.if_icmp .le 6, 3) := by decide +kernel
theorem dX8_rests_19 : decode cX8_rests 19 = .ok (.bipush (-2), 2) := by decide +kernel
theorem dX8_rests_21 : decode cX8_rests 21 = .ok (.ireturn, 1) := by decide +kernel
theorem dX8_rests_22 : decode cX8_rests 22 = .ok (.iconst 0, 1) := by decide +kernel
theorem dX8_rests_23 : decode cX8_rests 23 = .ok (.istore_n 3, 1) := by decide +kernel
theorem dX8_rests_24 : decode cX8_rests 24 = .ok (.bipush (-9), 2) := by decide +kernel
theorem dX8_rests_26 : decode cX8_rests 26 = .ok (.istore 4, 2) := by decide +kernel
theorem dX8_rests_28 : decode cX8_rests 28 = .ok (.iconst 0, 1) := by decide +kernel
theorem dX8_rests_29 : decode cX8_rests 29 = .ok (.istore 5, 2) := by decide +kernel
theorem dX8_rests_31 : decode cX8_rests 31 = .ok (.iload 5, 2) := by decide +kernel
theorem dX8_rests_33 : decode cX8_rests 33 = .ok (.bipush 25, 2) := by decide +kernel
theorem dX8_rests_35 : decode cX8_rests 35 = .ok (.if_icmp .ge 54, 3) := by decide +kernel
theorem dX8_rests_38 : decode cX8_rests 38 = .ok (.iload 5, 2) := by decide +kernel
theorem dX8_rests_40 : decode cX8_rests 40 = .ok (.iconst 5, 1) := by decide +kernel
theorem dX8_rests_41 : decode cX8_rests 41 = .ok (.idiv, 1) := by decide +kernel
theorem dX8_rests_42 : decode cX8_rests 42 = .ok (.istore 6, 2) := by decide +kernel
theorem dX8_rests_44 : decode cX8_rests 44 = .ok (.iload 5, 2) := by decide +kernel
theorem dX8_rests_46 : decode cX8_rests 46 = .ok (.iconst 5, 1) := by decide +kernel
theorem dX8_rests_47 : decode cX8_rests 47 = .ok (.irem, 1) := by decide +kernel
theorem dX8_rests_48 : decode cX8_rests 48 = .ok (.istore 7, 2) := by decide +kernel
theorem dX8_rests_50 : decode cX8_rests 50 = .ok (.iload_n 1, 1) := by decide +kernel
theorem dX8_rests_51 : decode cX8_rests 51 = .ok (.iload 6, 2) := by decide +kernel
theorem dX8_rests_53 : decode cX8_rests 53 = .ok (.iload 7, 2) := by decide +kernel
theorem dX8_rests_55 : decode cX8_rests 55 = .ok (.invokestatic 228, 3) := by decide +kernel
theorem dX8_rests_58 : decode cX8_rests 58 = .ok (.ifCond .eq 25, 3) := by decide +kernel
theorem dX8_rests_61 : decode cX8_rests 61 = .ok (.iload_n 3, 1) := by decide +kernel
theorem dX8_rests_62 : decode cX8_rests 62 = .ok (.ifCond .ne 14, 3) := by decide +kernel
theorem dX8_rests_65 : decode cX8_rests 65 = .ok (.bipush 10, 2) := by decide +kernel
theorem dX8_rests_67 : decode cX8_rests 67 = .ok (.iload 6, 2) := by decide +kernel
theorem dX8_rests_69 : decode cX8_rests 69 = .ok (.imul, 1) := by decide +kernel
theorem dX8_rests_70 : decode cX8_rests 70 = .ok (.iload 7, 2) := by decide +kernel
theorem dX8_rests_72 : decode cX8_rests 72 = .ok (.iadd, 1) := by decide +kernel
theorem dX8_rests_73 : decode cX8_rests 73 = .ok (.goto 5, 3) := by decide +kernel
theorem dX8_rests_76 : decode cX8_rests 76 = .ok (.iload 4, 2) := by decide +kernel
theorem dX8_rests_78 : decode cX8_rests 78 = .ok (.istore 4, 2) := by decide +kernel
theorem dX8_rests_80 : decode cX8_rests 80 = .ok (.iinc 3 1, 3) := by decide +kernel
theorem dX8_rests_83 : decode cX8_rests 83 = .ok (.iinc 5 1, 3) := by decide +kernel
theorem dX8_rests_86 : decode cX8_rests 86 = .ok (.goto (-55), 3) := by decide +kernel
theorem dX8_rests_89 : decode cX8_rests 89 = .ok (.iload_n 2, 1) := by decide +kernel
theorem dX8_rests_90 : decode cX8_rests 90 = .ok (.ifCond .ne 7, 3) := by decide +kernel
theorem dX8_rests_93 : decode cX8_rests 93 = .ok (.iload_n 3, 1) := by decide +kernel
theorem dX8_rests_94 : decode cX8_rests 94 = .ok (.goto 5, 3) := by decide +kernel
theorem dX8_rests_97 : decode cX8_rests 97 = .ok (.iload 4, 2) := by decide +kernel
theorem dX8_rests_99 : decode cX8_rests 99 = .ok (.ireturn, 1) := by decide +kernel
theorem dX8_routes_0 : decode cX8_routes 0 = .ok (.aload_n 0, 1) := by decide +kernel
theorem dX8_routes_1 : decode cX8_routes 1 = .ok (.getfield 27, 3) := by decide +kernel
theorem dX8_routes_4 : decode cX8_routes 4 = .ok (.iload_n 1, 1) := by decide +kernel
theorem dX8_routes_5 : decode cX8_routes 5 = .ok (.invokevirtual 120, 3) := by decide +kernel
theorem dX8_routes_8 : decode cX8_routes 8 = .ok (.ifCond .ne 5, 3) := by decide +kernel
theorem dX8_routes_11 : decode cX8_routes 11 = .ok (.iconst (-1), 1) := by decide +kernel
theorem dX8_routes_12 : decode cX8_routes 12 = .ok (.ireturn, 1) := by decide +kernel
theorem dX8_routes_13 : decode cX8_routes 13 = .ok (.iload_n 2, 1) := by decide +kernel
theorem dX8_routes_14 : decode cX8_routes 14 = .ok (.iconst 1, 1) := by decide +kernel
theorem dX8_routes_15 : decode cX8_routes 15 = .ok (.if_icmp .lt 29, 3) := by decide +kernel
theorem dX8_routes_18 : decode cX8_routes 18 = .ok (.iload_n 2, 1) := by decide +kernel
theorem dX8_routes_19 : decode cX8_routes 19 = .ok (.bipush 7, 2) := by decide +kernel
theorem dX8_routes_21 : decode cX8_routes 21 = .ok (.if_icmp .gt 23, 3) := by decide +kernel
theorem dX8_routes_24 : decode cX8_routes 24 = .ok (.iload_n 3, 1) := by decide +kernel
theorem dX8_routes_25 : decode cX8_routes 25 = .ok (.ifCond .lt 19, 3) := by decide +kernel
theorem dX8_routes_28 : decode cX8_routes 28 = .ok (.iload_n 3, 1) := by decide +kernel
theorem dX8_routes_29 : decode cX8_routes 29 = .ok (.iconst 5, 1) := by decide +kernel
theorem dX8_routes_30 : decode cX8_routes 30 = .ok (.if_icmp .ge 14, 3) := by decide +kernel
theorem dX8_routes_33 : decode cX8_routes 33 = .ok (.iload 4, 2) := by decide +kernel
theorem dX8_routes_35 : decode cX8_routes 35 = .ok (.ifCond .lt 9, 3) := by decide +kernel
theorem dX8_routes_38 : decode cX8_routes 38 = .ok (.iload 4, 2) := by decide +kernel
theorem dX8_routes_40 : decode cX8_routes 40 = .ok (.iconst 1, 1) := by decide +kernel
theorem dX8_routes_41 : decode cX8_routes 41 = .ok (.if_icmp .le 6, 3) := by decide +kernel
theorem dX8_routes_44 : decode cX8_routes 44 = .ok (.bipush (-2), 2) := by decide +kernel
theorem dX8_routes_46 : decode cX8_routes 46 = .ok (.ireturn, 1) := by decide +kernel
theorem dX8_routes_47 : decode cX8_routes 47 = .ok (.aload_n 0, 1) := by decide +kernel
theorem dX8_routes_48 : decode cX8_routes 48 = .ok (.getfield 58, 3) := by decide +kernel
theorem dX8_routes_51 : decode cX8_routes 51 = .ok (.aload_n 0, 1) := by decide +kernel
theorem dX8_routes_52 : decode cX8_routes 52 = .ok (.getfield 27, 3) := by decide +kernel
theorem dX8_routes_55 : decode cX8_routes 55 = .ok (.aload_n 0, 1) := by decide +kernel
theorem dX8_routes_56 : decode cX8_routes 56 = .ok (.getfield 34, 3) := by decide +kernel
theorem dX8_routes_59 : decode cX8_routes 59 = .ok (.iload_n 1, 1) := by decide +kernel
theorem dX8_routes_60 : decode cX8_routes 60 = .ok (.invokevirtual 186, 3) := by decide +kernel
theorem dX8_routes_63 : decode cX8_routes 63 = .ok (.aload_n 0, 1) := by decide +kernel
theorem dX8_routes_64 : decode cX8_routes 64 = .ok (.getfield 34, 3) := by decide +kernel
theorem dX8_routes_67 : decode cX8_routes 67 = .ok (.getfield 124, 3) := by decide +kernel
theorem dX8_routes_70 : decode cX8_routes 70 = .ok (.iload_n 1, 1) := by decide +kernel
theorem dX8_routes_71 : decode cX8_routes 71 = .ok (.iaload, 1) := by decide +kernel
theorem dX8_routes_72 : decode cX8_routes 72 = .ok (.istore 5, 2) := by decide +kernel
theorem dX8_routes_74 : decode cX8_routes 74 = .ok (.aload_n 0, 1) := by decide +kernel
theorem dX8_routes_75 : decode cX8_routes 75 = .ok (.getfield 58, 3) := by decide +kernel
theorem dX8_routes_78 : decode cX8_routes 78 = .ok (.iload_n 2, 1) := by decide +kernel
theorem dX8_routes_79 : decode cX8_routes 79 = .ok (.iload_n 3, 1) := by decide +kernel
theorem dX8_routes_80 : decode cX8_routes 80 = .ok (.invokevirtual 190, 3) := by decide +kernel
theorem dX8_routes_83 : decode cX8_routes 83 = .ok (.iload 4, 2) := by decide +kernel
theorem dX8_routes_85 : decode cX8_routes 85 = .ok (.ifCond .ne 15, 3) := by decide +kernel
theorem dX8_routes_88 : decode cX8_routes 88 = .ok (.aload_n 0, 1) := by decide +kernel
theorem dX8_routes_89 : decode cX8_routes 89 = .ok (.getfield 58, 3) := by decide +kernel
theorem dX8_routes_92 : decode cX8_routes 92 = .ok (.iload 5, 2) := by decide +kernel
theorem dX8_routes_94 : decode cX8_routes 94 = .ok (.invokevirtual 194, 3) := by decide +kernel
theorem dX8_routes_97 : decode cX8_routes 97 = .ok (.goto 13, 3) := by decide +kernel
theorem dX8_routes_100 : decode cX8_routes 100 = .ok (.aload_n 0, 1) := by decide +kernel
theorem dX8_routes_101 : decode cX8_routes 101 = .ok (.getfield 58, 3) := by decide +kernel
theorem dX8_routes_104 : decode cX8_routes 104 = .ok (.iload_n 2, 1) := by decide +kernel
theorem dX8_routes_105 : decode cX8_routes 105 = .ok (.iload 5, 2) := by decide +kernel
theorem dX8_routes_107 : decode cX8_routes 107 = .ok (.invokevirtual 197, 3) := by decide +kernel
theorem dX8_routes_110 : decode cX8_routes 110 = .ok (.ireturn, 1) := by decide +kernel
theorem dX8_see_0 : decode cX8_see 0 = .ok (.aload_n 0, 1) := by decide +kernel
theorem dX8_see_1 : decode cX8_see 1 = .ok (.getfield 27, 3) := by decide +kernel
theorem dX8_see_4 : decode cX8_see 4 = .ok (.iload_n 1, 1) := by decide +kernel
theorem dX8_see_5 : decode cX8_see 5 = .ok (.invokevirtual 143, 3) := by decide +kernel
theorem dX8_see_8 : decode cX8_see 8 = .ok (.ifCond .ne 5, 3) := by decide +kernel
theorem dX8_see_11 : decode cX8_see 11 = .ok (.iconst (-1), 1) := by decide +kernel
theorem dX8_see_12 : decode cX8_see 12 = .ok (.ireturn, 1) := by decide +kernel
theorem dX8_see_13 : decode cX8_see 13 = .ok (.iload_n 2, 1) := by decide +kernel
theorem dX8_see_14 : decode cX8_see 14 = .ok (.ifCond .lt 18, 3) := by decide +kernel
theorem dX8_see_17 : decode cX8_see 17 = .ok (.iload_n 2, 1) := by decide +kernel
theorem dX8_see_18 : decode cX8_see 18 = .ok (.iconst 5, 1) := by decide +kernel
theorem dX8_see_19 : decode cX8_see 19 = .ok (.if_icmp .ge 13, 3) := by decide +kernel
theorem dX8_see_22 : decode cX8_see 22 = .ok (.iload_n 3, 1) := by decide +kernel
theorem dX8_see_23 : decode cX8_see 23 = .ok (.ifCond .lt 9, 3) := by decide +kernel
theorem dX8_see_26 : decode cX8_see 26 = .ok (.iload_n 3, 1) := by decide +kernel
theorem dX8_see_27 : decode cX8_see 27 = .ok (.bipush 12, 2) := by decide +kernel
theorem dX8_see_29 : decode cX8_see 29 = .ok (.if_icmp .lt 6, 3) := by decide +kernel
theorem dX8_see_32 : decode cX8_see 32 = .ok (.bipush (-2), 2) := by decide +kernel
theorem dX8_see_34 : decode cX8_see 34 = .ok (.ireturn, 1) := by decide +kernel
theorem dX8_see_35 : decode cX8_see 35 = .ok (.aload_n 0, 1) := by decide +kernel
theorem dX8_see_36 : decode cX8_see 36 = .ok (.getfield 65, 3) := by decide +kernel
theorem dX8_see_39 : decode cX8_see 39 = .ok (.getfield 119, 3) := by decide +kernel
theorem dX8_see_42 : decode cX8_see 42 = .ok (.bipush 6, 2) := by decide +kernel
theorem dX8_see_44 : decode cX8_see 44 = .ok (.if_icmp .lt 6, 3) := by decide +kernel
theorem dX8_see_47 : decode cX8_see 47 = .ok (.bipush (-4), 2) := by decide +kernel
theorem dX8_see_49 : decode cX8_see 49 = .ok (.ireturn, 1) := by decide +kernel
theorem dX8_see_50 : decode cX8_see 50 = .ok (.aload_n 0, 1) := by decide +kernel
theorem dX8_see_51 : decode cX8_see 51 = .ok (.getfield 65, 3) := by decide +kernel
theorem dX8_see_54 : decode cX8_see 54 = .ok (.iload_n 1, 1) := by decide +kernel
theorem dX8_see_55 : decode cX8_see 55 = .ok (.iload_n 2, 1) := by decide +kernel
theorem dX8_see_56 : decode cX8_see 56 = .ok (.iload_n 3, 1) := by decide +kernel
theorem dX8_see_57 : decode cX8_see 57 = .ok (.invokevirtual 214, 3) := by decide +kernel
theorem dX8_see_60 : decode cX8_see 60 = .ok (.aload_n 0, 1) := by decide +kernel
theorem dX8_see_61 : decode cX8_see 61 = .ok (.getfield 65, 3) := by decide +kernel
theorem dX8_see_64 : decode cX8_see 64 = .ok (.getfield 119, 3) := by decide +kernel
theorem dX8_see_67 : decode cX8_see 67 = .ok (.ireturn, 1) := by decide +kernel
theorem dX8_seed_0 : decode cX8_seed 0 = .ok (.aload_n 0, 1) := by decide +kernel
theorem dX8_seed_1 : decode cX8_seed 1 = .ok (.getfield 69, 3) := by decide +kernel
theorem dX8_seed_4 : decode cX8_seed 4 = .ok (.lstore_n 3, 1) := by decide +kernel
theorem dX8_seed_5 : decode cX8_seed 5 = .ok (.aload_n 0, 1) := by decide +kernel
theorem dX8_seed_6 : decode cX8_seed 6 = .ok (.lload_n 1, 1) := by decide +kernel
theorem dX8_seed_7 : decode cX8_seed 7 = .ok (.putfield 69, 3) := by decide +kernel
theorem dX8_seed_10 : decode cX8_seed 10 = .ok (.lload_n 3, 1) := by decide +kernel
theorem dX8_seed_11 : decode cX8_seed 11 = .ok (.lreturn, 1) := by decide +kernel
theorem dX8_spans_0 : decode cX8_spans 0 = .ok (.iload_n 1, 1) := by decide +kernel
theorem dX8_spans_1 : decode cX8_spans 1 = .ok (.iconst 1, 1) := by decide +kernel
theorem dX8_spans_2 : decode cX8_spans 2 = .ok (.if_icmp .lt 30, 3) := by decide +kernel
theorem dX8_spans_5 : decode cX8_spans 5 = .ok (.iload_n 1, 1) := by decide +kernel
theorem dX8_spans_6 : decode cX8_spans 6 = .ok (.bipush 9, 2) := by decide +kernel
theorem dX8_spans_8 : decode cX8_spans 8 = .ok (.if_icmp .gt 24, 3) := by decide +kernel
theorem dX8_spans_11 : decode cX8_spans 11 = .ok (.iload_n 2, 1) := by decide +kernel
theorem dX8_spans_12 : decode cX8_spans 12 = .ok (.iconst 1, 1) := by decide +kernel
theorem dX8_spans_13 : decode cX8_spans 13 = .ok (.if_icmp .lt 19, 3) := by decide +kernel
theorem dX8_spans_16 : decode cX8_spans 16 = .ok (.iload_n 2, 1) := by decide +kernel
theorem dX8_spans_17 : decode cX8_spans 17 = .ok (.bipush 9, 2) := by decide +kernel
theorem dX8_spans_19 : decode cX8_spans 19 = .ok (.if_icmp .gt 13, 3) := by decide +kernel
theorem dX8_spans_22 : decode cX8_spans 22 = .ok (.iload_n 3, 1) := by decide +kernel
theorem dX8_spans_23 : decode cX8_spans 23 = .ok (.ifCond .lt 9, 3) := by decide +kernel
theorem dX8_spans_26 : decode cX8_spans 26 = .ok (.iload_n 3, 1) := by decide +kernel
theorem dX8_spans_27 : decode cX8_spans 27 = .ok (.bipush 99, 2) := by decide +kernel
theorem dX8_spans_29 : decode cX8_spans 29 = .ok (.if_icmp .le 6, 3) := by decide +kernel
theorem dX8_spans_32 : decode cX8_spans 32 = .ok (.bipush (-2), 2) := by decide +kernel
theorem dX8_spans_34 : decode cX8_spans 34 = .ok (.ireturn, 1) := by decide +kernel
theorem dX8_spans_35 : decode cX8_spans 35 = .ok (.iload_n 1, 1) := by decide +kernel
theorem dX8_spans_36 : decode cX8_spans 36 = .ok (.iload_n 3, 1) := by decide +kernel
theorem dX8_spans_37 : decode cX8_spans 37 = .ok (.iconst 1, 1) := by decide +kernel
theorem dX8_spans_38 : decode cX8_spans 38 = .ok (.iadd, 1) := by decide +kernel
theorem dX8_spans_39 : decode cX8_spans 39 = .ok (.imul, 1) := by decide +kernel
theorem dX8_spans_40 : decode cX8_spans 40 = .ok (.iload_n 1, 1) := by decide +kernel
theorem dX8_spans_41 : decode cX8_spans 41 = .ok (.iload_n 2, 1) := by decide +kernel
theorem dX8_spans_42 : decode cX8_spans 42 = .ok (.iadd, 1) := by decide +kernel
theorem dX8_spans_43 : decode cX8_spans 43 = .ok (.idiv, 1) := by decide +kernel
theorem dX8_spans_44 : decode cX8_spans 44 = .ok (.iload_n 1, 1) := by decide +kernel
theorem dX8_spans_45 : decode cX8_spans 45 = .ok (.iload_n 3, 1) := by decide +kernel
theorem dX8_spans_46 : decode cX8_spans 46 = .ok (.imul, 1) := by decide +kernel
theorem dX8_spans_47 : decode cX8_spans 47 = .ok (.iload_n 1, 1) := by decide +kernel
theorem dX8_spans_48 : decode cX8_spans 48 = .ok (.iload_n 2, 1) := by decide +kernel
theorem dX8_spans_49 : decode cX8_spans 49 = .ok (.iadd, 1) := by decide +kernel
theorem dX8_spans_50 : decode cX8_spans 50 = .ok (.idiv, 1) := by decide +kernel
theorem dX8_spans_51 : decode cX8_spans 51 = .ok (.if_icmp .le 7, 3) := by decide +kernel
theorem dX8_spans_54 : decode cX8_spans 54 = .ok (.iconst 0, 1) := by decide +kernel
theorem dX8_spans_55 : decode cX8_spans 55 = .ok (.goto 4, 3) := by decide +kernel
theorem dX8_spans_58 : decode cX8_spans 58 = .ok (.iconst 1, 1) := by decide +kernel
theorem dX8_spans_59 : decode cX8_spans 59 = .ok (.ireturn, 1) := by decide +kernel
theorem dX8_streetBy_0 : decode cX8_streetBy 0 = .ok (.iload_n 0, 1) := by decide +kernel
theorem dX8_streetBy_1 : decode cX8_streetBy 1 = .ok (.iload_n 1, 1) := by decide +kernel
theorem dX8_streetBy_2 : decode cX8_streetBy 2 = .ok (.iconst 2, 1) := by decide +kernel
theorem dX8_streetBy_3 : decode cX8_streetBy 3 = .ok (.if_icmp .ne 7, 3) := by decide +kernel
theorem dX8_streetBy_6 : decode cX8_streetBy 6 = .ok (.iconst 4, 1) := by decide +kernel
theorem dX8_streetBy_7 : decode cX8_streetBy 7 = .ok (.goto 4, 3) := by decide +kernel
theorem dX8_streetBy_10 : decode cX8_streetBy 10 = .ok (.iload_n 1, 1) := by decide +kernel
theorem dX8_streetBy_11 : decode cX8_streetBy 11 = .ok (.iadd, 1) := by decide +kernel
theorem dX8_streetBy_12 : decode cX8_streetBy 12 = .ok (.iconst 5, 1) := by decide +kernel
theorem dX8_streetBy_13 : decode cX8_streetBy 13 = .ok (.irem, 1) := by decide +kernel
theorem dX8_streetBy_14 : decode cX8_streetBy 14 = .ok (.ireturn, 1) := by decide +kernel
theorem dX8_sure_0 : decode cX8_sure 0 = .ok (.aload_n 0, 1) := by decide +kernel
theorem dX8_sure_1 : decode cX8_sure 1 = .ok (.getfield 27, 3) := by decide +kernel
theorem dX8_sure_4 : decode cX8_sure 4 = .ok (.iload_n 1, 1) := by decide +kernel
theorem dX8_sure_5 : decode cX8_sure 5 = .ok (.invokevirtual 143, 3) := by decide +kernel
theorem dX8_sure_8 : decode cX8_sure 8 = .ok (.ifCond .ne 5, 3) := by decide +kernel
theorem dX8_sure_11 : decode cX8_sure 11 = .ok (.iconst (-1), 1) := by decide +kernel
theorem dX8_sure_12 : decode cX8_sure 12 = .ok (.ireturn, 1) := by decide +kernel
theorem dX8_sure_13 : decode cX8_sure 13 = .ok (.aload_n 0, 1) := by decide +kernel
theorem dX8_sure_14 : decode cX8_sure 14 = .ok (.getfield 65, 3) := by decide +kernel
theorem dX8_sure_17 : decode cX8_sure 17 = .ok (.aload_n 0, 1) := by decide +kernel
theorem dX8_sure_18 : decode cX8_sure 18 = .ok (.getfield 27, 3) := by decide +kernel
theorem dX8_sure_21 : decode cX8_sure 21 = .ok (.aload_n 0, 1) := by decide +kernel
theorem dX8_sure_22 : decode cX8_sure 22 = .ok (.getfield 34, 3) := by decide +kernel
theorem dX8_sure_25 : decode cX8_sure 25 = .ok (.invokevirtual 218, 3) := by decide +kernel
theorem dX8_sure_28 : decode cX8_sure 28 = .ok (.aload_n 0, 1) := by decide +kernel
theorem dX8_sure_29 : decode cX8_sure 29 = .ok (.getfield 65, 3) := by decide +kernel
theorem dX8_sure_32 : decode cX8_sure 32 = .ok (.aload_n 0, 1) := by decide +kernel
theorem dX8_sure_33 : decode cX8_sure 33 = .ok (.getfield 27, 3) := by decide +kernel
theorem dX8_sure_36 : decode cX8_sure 36 = .ok (.iload_n 1, 1) := by decide +kernel
theorem dX8_sure_37 : decode cX8_sure 37 = .ok (.invokevirtual 224, 3) := by decide +kernel
theorem dX8_sure_40 : decode cX8_sure 40 = .ok (.ireturn, 1) := by decide +kernel
theorem dX8_tryHours_0 : decode cX8_tryHours 0 = .ok (.iconst 0, 1) := by decide +kernel
theorem dX8_tryHours_1 : decode cX8_tryHours 1 = .ok (.istore 4, 2) := by decide +kernel
theorem dX8_tryHours_3 : decode cX8_tryHours 3 = .ok (.aload_n 0, 1) := by decide +kernel
theorem dX8_tryHours_4 : decode cX8_tryHours 4 = .ok (.getfield 38, 3) := by decide +kernel
theorem dX8_tryHours_7 : decode cX8_tryHours 7 = .ok (.aload_n 0, 1) := by decide +kernel
theorem dX8_tryHours_8 : decode cX8_tryHours 8 = .ok (.getfield 34, 3) := by decide +kernel
theorem dX8_tryHours_11 : decode cX8_tryHours 11 = .ok (.invokevirtual 83, 3) := by decide +kernel
theorem dX8_tryHours_14 : decode cX8_tryHours 14 = .ok (.iconst 0, 1) := by decide +kernel
theorem dX8_tryHours_15 : decode cX8_tryHours 15 = .ok (.istore 5, 2) := by decide +kernel
theorem dX8_tryHours_17 : decode cX8_tryHours 17 = .ok (.iload 5, 2) := by decide +kernel
theorem dX8_tryHours_19 : decode cX8_tryHours 19 = .ok (.iload_n 1, 1) := by decide +kernel
theorem dX8_tryHours_20 : decode cX8_tryHours 20 = .ok (.if_icmp .ge 27, 3) := by decide +kernel
theorem dX8_tryHours_23 : decode cX8_tryHours 23 = .ok (.iload 4, 2) := by decide +kernel
theorem dX8_tryHours_25 : decode cX8_tryHours 25 = .ok (.aload_n 0, 1) := by decide +kernel
theorem dX8_tryHours_26 : decode cX8_tryHours 26 = .ok (.getfield 38, 3) := by decide +kernel
theorem dX8_tryHours_29 : decode cX8_tryHours 29 = .ok (.aload_n 0, 1) := by decide +kernel
theorem dX8_tryHours_30 : decode cX8_tryHours 30 = .ok (.getfield 27, 3) := by decide +kernel
theorem dX8_tryHours_33 : decode cX8_tryHours 33 = .ok (.iload_n 2, 1) := by decide +kernel
theorem dX8_tryHours_34 : decode cX8_tryHours 34 = .ok (.iload_n 3, 1) := by decide +kernel
theorem dX8_tryHours_35 : decode cX8_tryHours 35 = .ok (.invokevirtual 175, 3) := by decide +kernel
theorem dX8_tryHours_38 : decode cX8_tryHours 38 = .ok (.ior, 1) := by decide +kernel
theorem dX8_tryHours_39 : decode cX8_tryHours 39 = .ok (.istore 4, 2) := by decide +kernel
theorem dX8_tryHours_41 : decode cX8_tryHours 41 = .ok (.iinc 5 1, 3) := by decide +kernel
theorem dX8_tryHours_44 : decode cX8_tryHours 44 = .ok (.goto (-27), 3) := by decide +kernel
theorem dX8_tryHours_47 : decode cX8_tryHours 47 = .ok (.iload 4, 2) := by decide +kernel
theorem dX8_tryHours_49 : decode cX8_tryHours 49 = .ok (.ireturn, 1) := by decide +kernel
theorem dX8_undo_0 : decode cX8_undo 0 = .ok (.aload_n 0, 1) := by decide +kernel
theorem dX8_undo_1 : decode cX8_undo 1 = .ok (.getfield 44, 3) := by decide +kernel
theorem dX8_undo_4 : decode cX8_undo 4 = .ok (.getfield 116, 3) := by decide +kernel
theorem dX8_undo_7 : decode cX8_undo 7 = .ok (.ifCond .ne 6, 3) := by decide +kernel
theorem dX8_undo_10 : decode cX8_undo 10 = .ok (.bipush (-3), 2) := by decide +kernel
theorem dX8_undo_12 : decode cX8_undo 12 = .ok (.ireturn, 1) := by decide +kernel
theorem dX8_undo_13 : decode cX8_undo 13 = .ok (.aload_n 0, 1) := by decide +kernel
theorem dX8_undo_14 : decode cX8_undo 14 = .ok (.getfield 44, 3) := by decide +kernel
theorem dX8_undo_17 : decode cX8_undo 17 = .ok (.aload_n 0, 1) := by decide +kernel
theorem dX8_undo_18 : decode cX8_undo 18 = .ok (.getfield 34, 3) := by decide +kernel
theorem dX8_undo_21 : decode cX8_undo 21 = .ok (.invokevirtual 179, 3) := by decide +kernel
theorem dX8_undo_24 : decode cX8_undo 24 = .ok (.aload_n 0, 1) := by decide +kernel
theorem dX8_undo_25 : decode cX8_undo 25 = .ok (.getfield 44, 3) := by decide +kernel
theorem dX8_undo_28 : decode cX8_undo 28 = .ok (.getfield 116, 3) := by decide +kernel
theorem dX8_undo_31 : decode cX8_undo 31 = .ok (.ireturn, 1) := by decide +kernel
theorem dX8_unsee_0 : decode cX8_unsee 0 = .ok (.aload_n 0, 1) := by decide +kernel
theorem dX8_unsee_1 : decode cX8_unsee 1 = .ok (.getfield 65, 3) := by decide +kernel
theorem dX8_unsee_4 : decode cX8_unsee 4 = .ok (.getfield 119, 3) := by decide +kernel
theorem dX8_unsee_7 : decode cX8_unsee 7 = .ok (.istore_n 1, 1) := by decide +kernel
theorem dX8_unsee_8 : decode cX8_unsee 8 = .ok (.aload_n 0, 1) := by decide +kernel
theorem dX8_unsee_9 : decode cX8_unsee 9 = .ok (.getfield 65, 3) := by decide +kernel
theorem dX8_unsee_12 : decode cX8_unsee 12 = .ok (.iconst 0, 1) := by decide +kernel
theorem dX8_unsee_13 : decode cX8_unsee 13 = .ok (.putfield 119, 3) := by decide +kernel
theorem dX8_unsee_16 : decode cX8_unsee 16 = .ok (.iload_n 1, 1) := by decide +kernel
theorem dX8_unsee_17 : decode cX8_unsee 17 = .ok (.ireturn, 1) := by decide +kernel
theorem dX8_walks_0 : decode cX8_walks 0 = .ok (.aload_n 0, 1) := by decide +kernel
theorem dX8_walks_1 : decode cX8_walks 1 = .ok (.getfield 65, 3) := by decide +kernel
theorem dX8_walks_4 : decode cX8_walks 4 = .ok (.aload_n 0, 1) := by decide +kernel
theorem dX8_walks_5 : decode cX8_walks 5 = .ok (.getfield 27, 3) := by decide +kernel
theorem dX8_walks_8 : decode cX8_walks 8 = .ok (.aload_n 0, 1) := by decide +kernel
theorem dX8_walks_9 : decode cX8_walks 9 = .ok (.getfield 34, 3) := by decide +kernel
theorem dX8_walks_12 : decode cX8_walks 12 = .ok (.invokevirtual 218, 3) := by decide +kernel
theorem dX8_walks_15 : decode cX8_walks 15 = .ok (.aload_n 0, 1) := by decide +kernel
theorem dX8_walks_16 : decode cX8_walks 16 = .ok (.getfield 65, 3) := by decide +kernel
theorem dX8_walks_19 : decode cX8_walks 19 = .ok (.aload_n 0, 1) := by decide +kernel
theorem dX8_walks_20 : decode cX8_walks 20 = .ok (.getfield 27, 3) := by decide +kernel
theorem dX8_walks_23 : decode cX8_walks 23 = .ok (.invokevirtual 221, 3) := by decide +kernel
theorem dX8_walks_26 : decode cX8_walks 26 = .ok (.ireturn, 1) := by decide +kernel
theorem dX8_wipe_0 : decode cX8_wipe 0 = .ok (.aload_n 0, 1) := by decide +kernel
theorem dX8_wipe_1 : decode cX8_wipe 1 = .ok (.getfield 13, 3) := by decide +kernel
theorem dX8_wipe_4 : decode cX8_wipe 4 = .ok (.istore_n 1, 1) := by decide +kernel
theorem dX8_wipe_5 : decode cX8_wipe 5 = .ok (.aload_n 0, 1) := by decide +kernel
theorem dX8_wipe_6 : decode cX8_wipe 6 = .ok (.iconst 0, 1) := by decide +kernel
theorem dX8_wipe_7 : decode cX8_wipe 7 = .ok (.putfield 13, 3) := by decide +kernel
theorem dX8_wipe_10 : decode cX8_wipe 10 = .ok (.iload_n 1, 1) := by decide +kernel
theorem dX8_wipe_11 : decode cX8_wipe 11 = .ok (.ireturn, 1) := by decide +kernel
theorem dX8_write_0 : decode cX8_write 0 = .ok (.iload_n 1, 1) := by decide +kernel
theorem dX8_write_1 : decode cX8_write 1 = .ok (.ifCond .lt 10, 3) := by decide +kernel
theorem dX8_write_4 : decode cX8_write 4 = .ok (.iload_n 1, 1) := by decide +kernel
theorem dX8_write_5 : decode cX8_write 5 = .ok (.sipush 255, 3) := by decide +kernel
theorem dX8_write_8 : decode cX8_write 8 = .ok (.if_icmp .le 6, 3) := by decide +kernel
theorem dX8_write_11 : decode cX8_write 11 = .ok (.bipush (-2), 2) := by decide +kernel
theorem dX8_write_13 : decode cX8_write 13 = .ok (.ireturn, 1) := by decide +kernel
theorem dX8_write_14 : decode cX8_write 14 = .ok (.aload_n 0, 1) := by decide +kernel
theorem dX8_write_15 : decode cX8_write 15 = .ok (.getfield 13, 3) := by decide +kernel
theorem dX8_write_18 : decode cX8_write 18 = .ok (.bipush 60, 2) := by decide +kernel
theorem dX8_write_20 : decode cX8_write 20 = .ok (.if_icmp .lt 6, 3) := by decide +kernel
theorem dX8_write_23 : decode cX8_write 23 = .ok (.bipush (-4), 2) := by decide +kernel
theorem dX8_write_25 : decode cX8_write 25 = .ok (.ireturn, 1) := by decide +kernel
theorem dX8_write_26 : decode cX8_write 26 = .ok (.aload_n 0, 1) := by decide +kernel
theorem dX8_write_27 : decode cX8_write 27 = .ok (.getfield 9, 3) := by decide +kernel
theorem dX8_write_30 : decode cX8_write 30 = .ok (.aload_n 0, 1) := by decide +kernel
theorem dX8_write_31 : decode cX8_write 31 = .ok (.getfield 13, 3) := by decide +kernel
theorem dX8_write_34 : decode cX8_write 34 = .ok (.iload_n 1, 1) := by decide +kernel
theorem dX8_write_35 : decode cX8_write 35 = .ok (.iastore, 1) := by decide +kernel
theorem dX8_write_36 : decode cX8_write 36 = .ok (.aload_n 0, 1) := by decide +kernel
theorem dX8_write_37 : decode cX8_write 37 = .ok (.dup, 1) := by decide +kernel
theorem dX8_write_38 : decode cX8_write 38 = .ok (.getfield 13, 3) := by decide +kernel
theorem dX8_write_41 : decode cX8_write 41 = .ok (.iconst 1, 1) := by decide +kernel
theorem dX8_write_42 : decode cX8_write 42 = .ok (.iadd, 1) := by decide +kernel
theorem dX8_write_43 : decode cX8_write 43 = .ok (.putfield 13, 3) := by decide +kernel
theorem dX8_write_46 : decode cX8_write 46 = .ok (.aload_n 0, 1) := by decide +kernel
theorem dX8_write_47 : decode cX8_write 47 = .ok (.getfield 13, 3) := by decide +kernel
theorem dX8_write_50 : decode cX8_write 50 = .ok (.ireturn, 1) := by decide +kernel
