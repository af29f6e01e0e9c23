theorem dX9_about_0 : decode cX9_about 0 = .ok (.aload_n 0, 1) := by decide +kernel
theorem dX9_about_1 : decode cX9_about 1 = .ok (.iconst 0, 1) := by decide +kernel
theorem dX9_about_2 : decode cX9_about 2 = .ok (.putfield 66, 3) := by decide +kernel
theorem dX9_about_5 : decode cX9_about 5 = .ok (.iload_n 1, 1) := by decide +kernel
theorem dX9_about_6 : decode cX9_about 6 = .ok (.tableswitch 132 0 10 #[58, 63, 68, 73, 81, 96, 104, 109, 117, 122, 127], 58) := by decide +kernel
theorem dX9_about_64 : decode cX9_about 64 = .ok (.aload_n 0, 1) := by decide +kernel
theorem dX9_about_65 : decode cX9_about 65 = .ok (.getfield 69, 3) := by decide +kernel
theorem dX9_about_68 : decode cX9_about 68 = .ok (.ireturn, 1) := by decide +kernel
theorem dX9_about_69 : decode cX9_about 69 = .ok (.aload_n 0, 1) := by decide +kernel
theorem dX9_about_70 : decode cX9_about 70 = .ok (.getfield 76, 3) := by decide +kernel
theorem dX9_about_73 : decode cX9_about 73 = .ok (.ireturn, 1) := by decide +kernel
theorem dX9_about_74 : decode cX9_about 74 = .ok (.aload_n 0, 1) := by decide +kernel
theorem dX9_about_75 : decode cX9_about 75 = .ok (.getfield 13, 3) := by decide +kernel
theorem dX9_about_78 : decode cX9_about 78 = .ok (.ireturn, 1) := by decide +kernel
theorem dX9_about_79 : decode cX9_about 79 = .ok (.aload_n 0, 1) := by decide +kernel
theorem dX9_about_80 : decode cX9_about 80 = .ok (.getfield 35, 3) := by decide +kernel
theorem dX9_about_83 : decode cX9_about 83 = .ok (.bipush 24, 2) := by decide +kernel
theorem dX9_about_85 : decode cX9_about 85 = .ok (.iaload, 1) := by decide +kernel
theorem dX9_about_86 : decode cX9_about 86 = .ok (.ireturn, 1) := by decide +kernel
theorem dX9_about_87 : decode cX9_about 87 = .ok (.aload_n 0, 1) := by decide +kernel
theorem dX9_about_88 : decode cX9_about 88 = .ok (.getfield 17, 3) := by decide +kernel
theorem dX9_about_91 : decode cX9_about 91 = .ok (.aload_n 0, 1) := by decide +kernel
theorem dX9_about_92 : decode cX9_about 92 = .ok (.getfield 35, 3) := by decide +kernel
theorem dX9_about_95 : decode cX9_about 95 = .ok (.bipush 24, 2) := by decide +kernel
theorem dX9_about_97 : decode cX9_about 97 = .ok (.iaload, 1) := by decide +kernel
theorem dX9_about_98 : decode cX9_about 98 = .ok (.iconst 4, 1) := by decide +kernel
theorem dX9_about_99 : decode cX9_about 99 = .ok (.irem, 1) := by decide +kernel
theorem dX9_about_100 : decode cX9_about 100 = .ok (.iaload, 1) := by decide +kernel
theorem dX9_about_101 : decode cX9_about 101 = .ok (.ireturn, 1) := by decide +kernel
theorem dX9_about_102 : decode cX9_about 102 = .ok (.aload_n 0, 1) := by decide +kernel
theorem dX9_about_103 : decode cX9_about 103 = .ok (.getfield 35, 3) := by decide +kernel
theorem dX9_about_106 : decode cX9_about 106 = .ok (.bipush 18, 2) := by decide +kernel
theorem dX9_about_108 : decode cX9_about 108 = .ok (.iaload, 1) := by decide +kernel
theorem dX9_about_109 : decode cX9_about 109 = .ok (.ireturn, 1) := by decide +kernel
theorem dX9_about_110 : decode cX9_about 110 = .ok (.aload_n 0, 1) := by decide +kernel
theorem dX9_about_111 : decode cX9_about 111 = .ok (.invokevirtual 143, 3) := by decide +kernel
theorem dX9_about_114 : decode cX9_about 114 = .ok (.ireturn, 1) := by decide +kernel
theorem dX9_about_115 : decode cX9_about 115 = .ok (.aload_n 0, 1) := by decide +kernel
theorem dX9_about_116 : decode cX9_about 116 = .ok (.getfield 35, 3) := by decide +kernel
theorem dX9_about_119 : decode cX9_about 119 = .ok (.invokestatic 146, 3) := by decide +kernel
theorem dX9_about_122 : decode cX9_about 122 = .ok (.ireturn, 1) := by decide +kernel
theorem dX9_about_123 : decode cX9_about 123 = .ok (.aload_n 0, 1) := by decide +kernel
theorem dX9_about_124 : decode cX9_about 124 = .ok (.getfield 140, 3) := by decide +kernel
theorem dX9_about_127 : decode cX9_about 127 = .ok (.ireturn, 1) := by decide +kernel
theorem dX9_about_128 : decode cX9_about 128 = .ok (.aload_n 0, 1) := by decide +kernel
theorem dX9_about_129 : decode cX9_about 129 = .ok (.getfield 150, 3) := by decide +kernel
theorem dX9_about_132 : decode cX9_about 132 = .ok (.ireturn, 1) := by decide +kernel
theorem dX9_about_133 : decode cX9_about 133 = .ok (.aload_n 0, 1) := by decide +kernel
theorem dX9_about_134 : decode cX9_about 134 = .ok (.getfield 81, 3) := by decide +kernel
theorem dX9_about_137 : decode cX9_about 137 = .ok (.ireturn, 1) := by decide +kernel
theorem dX9_about_138 : decode cX9_about 138 = .ok (.bipush (-2), 2) := by decide +kernel
theorem dX9_about_140 : decode cX9_about 140 = .ok (.ireturn, 1) := by decide +kernel
theorem dX9_again_0 : decode cX9_again 0 = .ok (.aload_n 0, 1) := by decide +kernel
theorem dX9_again_1 : decode cX9_again 1 = .ok (.iconst 0, 1) := by decide +kernel
theorem dX9_again_2 : decode cX9_again 2 = .ok (.putfield 66, 3) := by decide +kernel
theorem dX9_again_5 : decode cX9_again 5 = .ok (.iload_n 1, 1) := by decide +kernel
theorem dX9_again_6 : decode cX9_again 6 = .ok (.i2l, 1) := by decide +kernel
theorem dX9_again_7 : decode cX9_again 7 = .ok (.lconst 0, 1) := by decide +kernel
theorem dX9_again_8 : decode cX9_again 8 = .ok (.lconst 1, 1) := by decide +kernel
theorem dX9_again_9 : decode cX9_again 9 = .ok (.invokestatic 72, 3) := by decide +kernel
theorem dX9_again_12 : decode cX9_again 12 = .ok (.ifCond .ne 5, 3) := by decide +kernel
theorem dX9_again_15 : decode cX9_again 15 = .ok (.iconst (-1), 1) := by decide +kernel
theorem dX9_again_16 : decode cX9_again 16 = .ok (.ireturn, 1) := by decide +kernel
theorem dX9_again_17 : decode cX9_again 17 = .ok (.aload_n 0, 1) := by decide +kernel
theorem dX9_again_18 : decode cX9_again 18 = .ok (.getfield 47, 3) := by decide +kernel
theorem dX9_again_21 : decode cX9_again 21 = .ok (.iload_n 1, 1) := by decide +kernel
theorem dX9_again_22 : decode cX9_again 22 = .ok (.baload, 1) := by decide +kernel
theorem dX9_again_23 : decode cX9_again 23 = .ok (.ifCond .ne 6, 3) := by decide +kernel
theorem dX9_again_26 : decode cX9_again 26 = .ok (.bipush (-3), 2) := by decide +kernel
theorem dX9_again_28 : decode cX9_again 28 = .ok (.ireturn, 1) := by decide +kernel
theorem dX9_again_29 : decode cX9_again 29 = .ok (.iconst 0, 1) := by decide +kernel
theorem dX9_again_30 : decode cX9_again 30 = .ok (.istore_n 2, 1) := by decide +kernel
theorem dX9_again_31 : decode cX9_again 31 = .ok (.iload_n 2, 1) := by decide +kernel
theorem dX9_again_32 : decode cX9_again 32 = .ok (.bipush 25, 2) := by decide +kernel
theorem dX9_again_34 : decode cX9_again 34 = .ok (.if_icmp .ge 26, 3) := by decide +kernel
theorem dX9_again_37 : decode cX9_again 37 = .ok (.aload_n 0, 1) := by decide +kernel
theorem dX9_again_38 : decode cX9_again 38 = .ok (.getfield 35, 3) := by decide +kernel
theorem dX9_again_41 : decode cX9_again 41 = .ok (.iload_n 2, 1) := by decide +kernel
theorem dX9_again_42 : decode cX9_again 42 = .ok (.aload_n 0, 1) := by decide +kernel
theorem dX9_again_43 : decode cX9_again 43 = .ok (.getfield 44, 3) := by decide +kernel
theorem dX9_again_46 : decode cX9_again 46 = .ok (.bipush 25, 2) := by decide +kernel
theorem dX9_again_48 : decode cX9_again 48 = .ok (.iload_n 1, 1) := by decide +kernel
theorem dX9_again_49 : decode cX9_again 49 = .ok (.imul, 1) := by decide +kernel
theorem dX9_again_50 : decode cX9_again 50 = .ok (.iload_n 2, 1) := by decide +kernel
theorem dX9_again_51 : decode cX9_again 51 = .ok (.iadd, 1) := by decide +kernel
theorem dX9_again_52 : decode cX9_again 52 = .ok (.iaload, 1) := by decide +kernel
theorem dX9_again_53 : decode cX9_again 53 = .ok (.iastore, 1) := by decide +kernel
theorem dX9_again_54 : decode cX9_again 54 = .ok (.iinc 2 1, 3) := by decide +kernel
theorem dX9_again_57 : decode cX9_again 57 = .ok (.goto (-26), 3) := by decide +kernel
theorem dX9_again_60 : decode cX9_again 60 = .ok (.aload_n 0, 1) := by decide +kernel
theorem dX9_again_61 : decode cX9_again 61 = .ok (.iconst 0, 1) := by decide +kernel
theorem dX9_again_62 : decode cX9_again 62 = .ok (.putfield 140, 3) := by decide +kernel
theorem dX9_again_65 : decode cX9_again 65 = .ok (.aload_n 0, 1) := by decide +kernel
theorem dX9_again_66 : decode cX9_again 66 = .ok (.getfield 35, 3) := by decide +kernel
theorem dX9_again_69 : decode cX9_again 69 = .ok (.bipush 24, 2) := by decide +kernel
theorem dX9_again_71 : decode cX9_again 71 = .ok (.iaload, 1) := by decide +kernel
theorem dX9_again_72 : decode cX9_again 72 = .ok (.ireturn, 1) := by decide +kernel
theorem dX9_aired_0 : decode cX9_aired 0 = .ok (.aload_n 0, 1) := by decide +kernel
theorem dX9_aired_1 : decode cX9_aired 1 = .ok (.iconst 0, 1) := by decide +kernel
theorem dX9_aired_2 : decode cX9_aired 2 = .ok (.putfield 66, 3) := by decide +kernel
theorem dX9_aired_5 : decode cX9_aired 5 = .ok (.aload_n 0, 1) := by decide +kernel
theorem dX9_aired_6 : decode cX9_aired 6 = .ok (.iload_n 1, 1) := by decide +kernel
theorem dX9_aired_7 : decode cX9_aired 7 = .ok (.invokevirtual 153, 3) := by decide +kernel
theorem dX9_aired_10 : decode cX9_aired 10 = .ok (.ifCond .eq 5, 3) := by decide +kernel
theorem dX9_aired_13 : decode cX9_aired 13 = .ok (.iconst (-1), 1) := by decide +kernel
theorem dX9_aired_14 : decode cX9_aired 14 = .ok (.ireturn, 1) := by decide +kernel
theorem dX9_aired_15 : decode cX9_aired 15 = .ok (.iconst 0, 1) := by decide +kernel
theorem dX9_aired_16 : decode cX9_aired 16 = .ok (.istore_n 2, 1) := by decide +kernel
theorem dX9_aired_17 : decode cX9_aired 17 = .ok (.iload_n 2, 1) := by decide +kernel
theorem dX9_aired_18 : decode cX9_aired 18 = .ok (.bipush 7, 2) := by decide +kernel
theorem dX9_aired_20 : decode cX9_aired 20 = .ok (.if_icmp .gt 51, 3) := by decide +kernel
theorem dX9_aired_23 : decode cX9_aired 23 = .ok (.iconst 0, 1) := by decide +kernel
theorem dX9_aired_24 : decode cX9_aired 24 = .ok (.istore_n 3, 1) := by decide +kernel
theorem dX9_aired_25 : decode cX9_aired 25 = .ok (.iload_n 3, 1) := by decide +kernel
theorem dX9_aired_26 : decode cX9_aired 26 = .ok (.iconst 3, 1) := by decide +kernel
theorem dX9_aired_27 : decode cX9_aired 27 = .ok (.iload_n 2, 1) := by decide +kernel
theorem dX9_aired_28 : decode cX9_aired 28 = .ok (.invokestatic 188, 3) := by decide +kernel
theorem dX9_aired_31 : decode cX9_aired 31 = .ok (.if_icmp .ge 34, 3) := by decide +kernel
theorem dX9_aired_34 : decode cX9_aired 34 = .ok (.aload_n 0, 1) := by decide +kernel
theorem dX9_aired_35 : decode cX9_aired 35 = .ok (.iload_n 1, 1) := by decide +kernel
theorem dX9_aired_36 : decode cX9_aired 36 = .ok (.iload_n 2, 1) := by decide +kernel
theorem dX9_aired_37 : decode cX9_aired 37 = .ok (.iload_n 3, 1) := by decide +kernel
theorem dX9_aired_38 : decode cX9_aired 38 = .ok (.invokevirtual 202, 3) := by decide +kernel
theorem dX9_aired_41 : decode cX9_aired 41 = .ok (.bipush 31, 2) := by decide +kernel
theorem dX9_aired_43 : decode cX9_aired 43 = .ok (.if_icmp .ne 16, 3) := by decide +kernel
theorem dX9_aired_46 : decode cX9_aired 46 = .ok (.aload_n 0, 1) := by decide +kernel
theorem dX9_aired_47 : decode cX9_aired 47 = .ok (.iload_n 1, 1) := by decide +kernel
theorem dX9_aired_48 : decode cX9_aired 48 = .ok (.iload_n 2, 1) := by decide +kernel
theorem dX9_aired_49 : decode cX9_aired 49 = .ok (.iload_n 3, 1) := by decide +kernel
theorem dX9_aired_50 : decode cX9_aired 50 = .ok (.iconst 1, 1) := by decide +kernel
theorem dX9_aired_51 : decode cX9_aired 51 = .ok (.invokevirtual 198, 3) := by decide +kernel
theorem dX9_aired_54 : decode cX9_aired 54 = .ok (.ifCond .eq 5, 3) := by decide +kernel
theorem dX9_aired_57 : decode cX9_aired 57 = .ok (.iload_n 2, 1) := by decide +kernel
theorem dX9_aired_58 : decode cX9_aired 58 = .ok (.ireturn, 1) := by decide +kernel
theorem dX9_aired_59 : decode cX9_aired 59 = .ok (.iinc 3 1, 3) := by decide +kernel
theorem dX9_aired_62 : decode cX9_aired 62 = .ok (.goto (-37), 3) := by decide +kernel
theorem dX9_aired_65 : decode cX9_aired 65 = .ok (.iinc 2 1, 3) := by decide +kernel
theorem dX9_aired_68 : decode cX9_aired 68 = .ok (.goto (-51), 3) := by decide +kernel
theorem dX9_aired_71 : decode cX9_aired 71 = .ok (.bipush (-9), 2) := by decide +kernel
theorem dX9_aired_73 : decode cX9_aired 73 = .ok (.ireturn, 1) := by decide +kernel
theorem dX9_begin_0 : decode cX9_begin 0 = .ok (.iconst 0, 1) := by decide +kernel
theorem dX9_begin_1 : decode cX9_begin 1 = .ok (.istore_n 1, 1) := by decide +kernel
theorem dX9_begin_2 : decode cX9_begin 2 = .ok (.iload_n 1, 1) := by decide +kernel
theorem dX9_begin_3 : decode cX9_begin 3 = .ok (.bipush 25, 2) := by decide +kernel
theorem dX9_begin_5 : decode cX9_begin 5 = .ok (.if_icmp .ge 21, 3) := by decide +kernel
theorem dX9_begin_8 : decode cX9_begin 8 = .ok (.aload_n 0, 1) := by decide +kernel
theorem dX9_begin_9 : decode cX9_begin 9 = .ok (.getfield 38, 3) := by decide +kernel
theorem dX9_begin_12 : decode cX9_begin 12 = .ok (.iload_n 1, 1) := by decide +kernel
theorem dX9_begin_13 : decode cX9_begin 13 = .ok (.aload_n 0, 1) := by decide +kernel
theorem dX9_begin_14 : decode cX9_begin 14 = .ok (.getfield 35, 3) := by decide +kernel
theorem dX9_begin_17 : decode cX9_begin 17 = .ok (.iload_n 1, 1) := by decide +kernel
theorem dX9_begin_18 : decode cX9_begin 18 = .ok (.iaload, 1) := by decide +kernel
theorem dX9_begin_19 : decode cX9_begin 19 = .ok (.iastore, 1) := by decide +kernel
theorem dX9_begin_20 : decode cX9_begin 20 = .ok (.iinc 1 1, 3) := by decide +kernel
theorem dX9_begin_23 : decode cX9_begin 23 = .ok (.goto (-21), 3) := by decide +kernel
theorem dX9_begin_26 : decode cX9_begin 26 = .ok (.return_, 1) := by decide +kernel
theorem dX9_bonesOf_0 : decode cX9_bonesOf 0 = .ok (.iconst 0, 1) := by decide +kernel
theorem dX9_bonesOf_1 : decode cX9_bonesOf 1 = .ok (.istore_n 1, 1) := by decide +kernel
theorem dX9_bonesOf_2 : decode cX9_bonesOf 2 = .ok (.iconst 0, 1) := by decide +kernel
theorem dX9_bonesOf_3 : decode cX9_bonesOf 3 = .ok (.istore_n 2, 1) := by decide +kernel
theorem dX9_bonesOf_4 : decode cX9_bonesOf 4 = .ok (.iload_n 2, 1) := by decide +kernel
theorem dX9_bonesOf_5 : decode cX9_bonesOf 5 = .ok (.iconst 4, 1) := by decide +kernel
theorem dX9_bonesOf_6 : decode cX9_bonesOf 6 = .ok (.if_icmp .ge 17, 3) := by decide +kernel
theorem dX9_bonesOf_9 : decode cX9_bonesOf 9 = .ok (.iload_n 1, 1) := by decide +kernel
theorem dX9_bonesOf_10 : decode cX9_bonesOf 10 = .ok (.aload_n 0, 1) := by decide +kernel
theorem dX9_bonesOf_11 : decode cX9_bonesOf 11 = .ok (.iconst 4, 1) := by decide +kernel
theorem dX9_bonesOf_12 : decode cX9_bonesOf 12 = .ok (.iload_n 2, 1) := by decide +kernel
theorem dX9_bonesOf_13 : decode cX9_bonesOf 13 = .ok (.iadd, 1) := by decide +kernel
theorem dX9_bonesOf_14 : decode cX9_bonesOf 14 = .ok (.iaload, 1) := by decide +kernel
theorem dX9_bonesOf_15 : decode cX9_bonesOf 15 = .ok (.iadd, 1) := by decide +kernel
theorem dX9_bonesOf_16 : decode cX9_bonesOf 16 = .ok (.istore_n 1, 1) := by decide +kernel
theorem dX9_bonesOf_17 : decode cX9_bonesOf 17 = .ok (.iinc 2 1, 3) := by decide +kernel
theorem dX9_bonesOf_20 : decode cX9_bonesOf 20 = .ok (.goto (-16), 3) := by decide +kernel
theorem dX9_bonesOf_23 : decode cX9_bonesOf 23 = .ok (.iload_n 1, 1) := by decide +kernel
theorem dX9_bonesOf_24 : decode cX9_bonesOf 24 = .ok (.ireturn, 1) := by decide +kernel
theorem dX9_caught_0 : decode cX9_caught 0 = .ok (.aload_n 0, 1) := by decide +kernel
theorem dX9_caught_1 : decode cX9_caught 1 = .ok (.iconst 0, 1) := by decide +kernel
theorem dX9_caught_2 : decode cX9_caught 2 = .ok (.putfield 66, 3) := by decide +kernel
theorem dX9_caught_5 : decode cX9_caught 5 = .ok (.iload_n 1, 1) := by decide +kernel
theorem dX9_caught_6 : decode cX9_caught 6 = .ok (.i2l, 1) := by decide +kernel
theorem dX9_caught_7 : decode cX9_caught 7 = .ok (.lconst 0, 1) := by decide +kernel
theorem dX9_caught_8 : decode cX9_caught 8 = .ok (.ldc2_w 180, 3) := by decide +kernel
theorem dX9_caught_11 : decode cX9_caught 11 = .ok (.invokestatic 72, 3) := by decide +kernel
theorem dX9_caught_14 : decode cX9_caught 14 = .ok (.ifCond .ne 6, 3) := by decide +kernel
theorem dX9_caught_17 : decode cX9_caught 17 = .ok (.bipush (-2), 2) := by decide +kernel
theorem dX9_caught_19 : decode cX9_caught 19 = .ok (.ireturn, 1) := by decide +kernel
theorem dX9_caught_20 : decode cX9_caught 20 = .ok (.aload_n 0, 1) := by decide +kernel
theorem dX9_caught_21 : decode cX9_caught 21 = .ok (.invokevirtual 182, 3) := by decide +kernel
theorem dX9_caught_24 : decode cX9_caught 24 = .ok (.iconst 0, 1) := by decide +kernel
theorem dX9_caught_25 : decode cX9_caught 25 = .ok (.istore_n 2, 1) := by decide +kernel
theorem dX9_caught_26 : decode cX9_caught 26 = .ok (.iconst 0, 1) := by decide +kernel
theorem dX9_caught_27 : decode cX9_caught 27 = .ok (.istore_n 3, 1) := by decide +kernel
theorem dX9_caught_28 : decode cX9_caught 28 = .ok (.iload_n 3, 1) := by decide +kernel
theorem dX9_caught_29 : decode cX9_caught 29 = .ok (.iload_n 1, 1) := by decide +kernel
theorem dX9_caught_30 : decode cX9_caught 30 = .ok (.if_icmp .ge 25, 3) := by decide +kernel
theorem dX9_caught_33 : decode cX9_caught 33 = .ok (.iload_n 2, 1) := by decide +kernel
theorem dX9_caught_34 : decode cX9_caught 34 = .ok (.aload_n 0, 1) := by decide +kernel
theorem dX9_caught_35 : decode cX9_caught 35 = .ok (.aload_n 0, 1) := by decide +kernel
theorem dX9_caught_36 : decode cX9_caught 36 = .ok (.getfield 38, 3) := by decide +kernel
theorem dX9_caught_39 : decode cX9_caught 39 = .ok (.aload_n 0, 1) := by decide +kernel
theorem dX9_caught_40 : decode cX9_caught 40 = .ok (.getfield 13, 3) := by decide +kernel
theorem dX9_caught_43 : decode cX9_caught 43 = .ok (.iconst 0, 1) := by decide +kernel
theorem dX9_caught_44 : decode cX9_caught 44 = .ok (.invokevirtual 176, 3) := by decide +kernel
theorem dX9_caught_47 : decode cX9_caught 47 = .ok (.ior, 1) := by decide +kernel
theorem dX9_caught_48 : decode cX9_caught 48 = .ok (.istore_n 2, 1) := by decide +kernel
theorem dX9_caught_49 : decode cX9_caught 49 = .ok (.iinc 3 1, 3) := by decide +kernel
theorem dX9_caught_52 : decode cX9_caught 52 = .ok (.goto (-24), 3) := by decide +kernel
theorem dX9_caught_55 : decode cX9_caught 55 = .ok (.iload_n 2, 1) := by decide +kernel
theorem dX9_caught_56 : decode cX9_caught 56 = .ok (.ireturn, 1) := by decide +kernel
theorem dX9_chance_0 : decode cX9_chance 0 = .ok (.aload_n 0, 1) := by decide +kernel
theorem dX9_chance_1 : decode cX9_chance 1 = .ok (.iconst 0, 1) := by decide +kernel
theorem dX9_chance_2 : decode cX9_chance 2 = .ok (.putfield 66, 3) := by decide +kernel
theorem dX9_chance_5 : decode cX9_chance 5 = .ok (.aload_n 0, 1) := by decide +kernel
theorem dX9_chance_6 : decode cX9_chance 6 = .ok (.iload_n 1, 1) := by decide +kernel
theorem dX9_chance_7 : decode cX9_chance 7 = .ok (.invokevirtual 161, 3) := by decide +kernel
theorem dX9_chance_10 : decode cX9_chance 10 = .ok (.ifCond .eq 5, 3) := by decide +kernel
theorem dX9_chance_13 : decode cX9_chance 13 = .ok (.iconst (-1), 1) := by decide +kernel
theorem dX9_chance_14 : decode cX9_chance 14 = .ok (.ireturn, 1) := by decide +kernel
theorem dX9_chance_15 : decode cX9_chance 15 = .ok (.iload_n 2, 1) := by decide +kernel
theorem dX9_chance_16 : decode cX9_chance 16 = .ok (.i2l, 1) := by decide +kernel
theorem dX9_chance_17 : decode cX9_chance 17 = .ok (.lconst 0, 1) := by decide +kernel
theorem dX9_chance_18 : decode cX9_chance 18 = .ok (.ldc2_w 180, 3) := by decide +kernel
theorem dX9_chance_21 : decode cX9_chance 21 = .ok (.invokestatic 72, 3) := by decide +kernel
theorem dX9_chance_24 : decode cX9_chance 24 = .ok (.ifCond .ne 6, 3) := by decide +kernel
theorem dX9_chance_27 : decode cX9_chance 27 = .ok (.bipush (-2), 2) := by decide +kernel
theorem dX9_chance_29 : decode cX9_chance 29 = .ok (.ireturn, 1) := by decide +kernel
theorem dX9_chance_30 : decode cX9_chance 30 = .ok (.iconst 0, 1) := by decide +kernel
theorem dX9_chance_31 : decode cX9_chance 31 = .ok (.istore 4, 2) := by decide +kernel
theorem dX9_chance_33 : decode cX9_chance 33 = .ok (.iconst 0, 1) := by decide +kernel
theorem dX9_chance_34 : decode cX9_chance 34 = .ok (.istore 5, 2) := by decide +kernel
theorem dX9_chance_36 : decode cX9_chance 36 = .ok (.iload 5, 2) := by decide +kernel
theorem dX9_chance_38 : decode cX9_chance 38 = .ok (.iconst 4, 1) := by decide +kernel
theorem dX9_chance_39 : decode cX9_chance 39 = .ok (.if_icmp .ge 61, 3) := by decide +kernel
theorem dX9_chance_42 : decode cX9_chance 42 = .ok (.aload_n 0, 1) := by decide +kernel
theorem dX9_chance_43 : decode cX9_chance 43 = .ok (.invokevirtual 182, 3) := by decide +kernel
theorem dX9_chance_46 : decode cX9_chance 46 = .ok (.iconst 0, 1) := by decide +kernel
theorem dX9_chance_47 : decode cX9_chance 47 = .ok (.istore 6, 2) := by decide +kernel
theorem dX9_chance_49 : decode cX9_chance 49 = .ok (.iconst 0, 1) := by decide +kernel
theorem dX9_chance_50 : decode cX9_chance 50 = .ok (.istore 7, 2) := by decide +kernel
theorem dX9_chance_52 : decode cX9_chance 52 = .ok (.iload 7, 2) := by decide +kernel
theorem dX9_chance_54 : decode cX9_chance 54 = .ok (.iload_n 2, 1) := by decide +kernel
theorem dX9_chance_55 : decode cX9_chance 55 = .ok (.if_icmp .ge 28, 3) := by decide +kernel
theorem dX9_chance_58 : decode cX9_chance 58 = .ok (.iload 6, 2) := by decide +kernel
theorem dX9_chance_60 : decode cX9_chance 60 = .ok (.aload_n 0, 1) := by decide +kernel
theorem dX9_chance_61 : decode cX9_chance 61 = .ok (.aload_n 0, 1) := by decide +kernel
theorem dX9_chance_62 : decode cX9_chance 62 = .ok (.getfield 38, 3) := by decide +kernel
theorem dX9_chance_65 : decode cX9_chance 65 = .ok (.aload_n 0, 1) := by decide +kernel
theorem dX9_chance_66 : decode cX9_chance 66 = .ok (.getfield 13, 3) := by decide +kernel
theorem dX9_chance_69 : decode cX9_chance 69 = .ok (.iload 5, 2) := by decide +kernel
theorem dX9_chance_71 : decode cX9_chance 71 = .ok (.invokevirtual 176, 3) := by decide +kernel
theorem dX9_chance_74 : decode cX9_chance 74 = .ok (.ior, 1) := by decide +kernel
theorem dX9_chance_75 : decode cX9_chance 75 = .ok (.istore 6, 2) := by decide +kernel
theorem dX9_chance_77 : decode cX9_chance 77 = .ok (.iinc 7 1, 3) := by decide +kernel
theorem dX9_chance_80 : decode cX9_chance 80 = .ok (.goto (-28), 3) := by decide +kernel
theorem dX9_chance_83 : decode cX9_chance 83 = .ok (.iload 4, 2) := by decide +kernel
theorem dX9_chance_85 : decode cX9_chance 85 = .ok (.iload 6, 2) := by decide +kernel
theorem dX9_chance_87 : decode cX9_chance 87 = .ok (.iload_n 1, 1) := by decide +kernel
theorem dX9_chance_88 : decode cX9_chance 88 = .ok (.ishr, 1) := by decide +kernel
theorem dX9_chance_89 : decode cX9_chance 89 = .ok (.iconst 1, 1) := by decide +kernel
theorem dX9_chance_90 : decode cX9_chance 90 = .ok (.iand, 1) := by decide +kernel
theorem dX9_chance_91 : decode cX9_chance 91 = .ok (.iadd, 1) := by decide +kernel
theorem dX9_chance_92 : decode cX9_chance 92 = .ok (.istore 4, 2) := by decide +kernel
theorem dX9_chance_94 : decode cX9_chance 94 = .ok (.iinc 5 1, 3) := by decide +kernel
theorem dX9_chance_97 : decode cX9_chance 97 = .ok (.goto (-61), 3) := by decide +kernel
theorem dX9_chance_100 : decode cX9_chance 100 = .ok (.iload 4, 2) := by decide +kernel
theorem dX9_chance_102 : decode cX9_chance 102 = .ok (.iconst 4, 1) := by decide +kernel
theorem dX9_chance_103 : decode cX9_chance 103 = .ok (.irem, 1) := by decide +kernel
theorem dX9_chance_104 : decode cX9_chance 104 = .ok (.ifCond .ne 7, 3) := by decide +kernel
theorem dX9_chance_107 : decode cX9_chance 107 = .ok (.iconst 4, 1) := by decide +kernel
theorem dX9_chance_108 : decode cX9_chance 108 = .ok (.goto 14, 3) := by decide +kernel
theorem dX9_chance_111 : decode cX9_chance 111 = .ok (.iload 4, 2) := by decide +kernel
theorem dX9_chance_113 : decode cX9_chance 113 = .ok (.iconst 2, 1) := by decide +kernel
theorem dX9_chance_114 : decode cX9_chance 114 = .ok (.if_icmp .ne 7, 3) := by decide +kernel
theorem dX9_chance_117 : decode cX9_chance 117 = .ok (.iconst 2, 1) := by decide +kernel
theorem dX9_chance_118 : decode cX9_chance 118 = .ok (.goto 4, 3) := by decide +kernel
theorem dX9_chance_121 : decode cX9_chance 121 = .ok (.iconst 1, 1) := by decide +kernel
theorem dX9_chance_122 : decode cX9_chance 122 = .ok (.istore 5, 2) := by decide +kernel
theorem dX9_chance_124 : decode cX9_chance 124 = .ok (.iload_n 3, 1) := by decide +kernel
theorem dX9_chance_125 : decode cX9_chance 125 = .ok (.ifCond .eq 11, 3) := by decide +kernel
theorem dX9_chance_128 : decode cX9_chance 128 = .ok (.iload 4, 2) := by decide +kernel
theorem dX9_chance_130 : decode cX9_chance 130 = .ok (.iload 5, 2) := by decide +kernel
theorem dX9_chance_132 : decode cX9_chance 132 = .ok (.idiv, 1) := by decide +kernel
theorem dX9_chance_133 : decode cX9_chance 133 = .ok (.goto 7, 3) := by decide +kernel
theorem dX9_chance_136 : decode cX9_chance 136 = .ok (.iconst 4, 1) := by decide +kernel
theorem dX9_chance_137 : decode cX9_chance 137 = .ok (.iload 5, 2) := by decide +kernel
theorem dX9_chance_139 : decode cX9_chance 139 = .ok (.idiv, 1) := by decide +kernel
theorem dX9_chance_140 : decode cX9_chance 140 = .ok (.ireturn, 1) := by decide +kernel
theorem dX9_comes_0 : decode cX9_comes 0 = .ok (.aload_n 0, 1) := by decide +kernel
theorem dX9_comes_1 : decode cX9_comes 1 = .ok (.getfield 29, 3) := by decide +kernel
theorem dX9_comes_4 : decode cX9_comes 4 = .ok (.iconst 4, 1) := by decide +kernel
theorem dX9_comes_5 : decode cX9_comes 5 = .ok (.iload_n 1, 1) := by decide +kernel
theorem dX9_comes_6 : decode cX9_comes 6 = .ok (.imul, 1) := by decide +kernel
theorem dX9_comes_7 : decode cX9_comes 7 = .ok (.iconst 3, 1) := by decide +kernel
theorem dX9_comes_8 : decode cX9_comes 8 = .ok (.iadd, 1) := by decide +kernel
theorem dX9_comes_9 : decode cX9_comes 9 = .ok (.iaload, 1) := by decide +kernel
theorem dX9_comes_10 : decode cX9_comes 10 = .ok (.istore_n 3, 1) := by decide +kernel
theorem dX9_comes_11 : decode cX9_comes 11 = .ok (.iload_n 3, 1) := by decide +kernel
theorem dX9_comes_12 : decode cX9_comes 12 = .ok (.bipush (-9), 2) := by decide +kernel
theorem dX9_comes_14 : decode cX9_comes 14 = .ok (.if_icmp .eq 22, 3) := by decide +kernel
theorem dX9_comes_17 : decode cX9_comes 17 = .ok (.iload_n 3, 1) := by decide +kernel
theorem dX9_comes_18 : decode cX9_comes 18 = .ok (.iload_n 2, 1) := by decide +kernel
theorem dX9_comes_19 : decode cX9_comes 19 = .ok (.if_icmp .eq 17, 3) := by decide +kernel
theorem dX9_comes_22 : decode cX9_comes 22 = .ok (.aload_n 0, 1) := by decide +kernel
theorem dX9_comes_23 : decode cX9_comes 23 = .ok (.getfield 29, 3) := by decide +kernel
theorem dX9_comes_26 : decode cX9_comes 26 = .ok (.iconst 4, 1) := by decide +kernel
theorem dX9_comes_27 : decode cX9_comes 27 = .ok (.iload_n 3, 1) := by decide +kernel
theorem dX9_comes_28 : decode cX9_comes 28 = .ok (.imul, 1) := by decide +kernel
theorem dX9_comes_29 : decode cX9_comes 29 = .ok (.iconst 3, 1) := by decide +kernel
theorem dX9_comes_30 : decode cX9_comes 30 = .ok (.iadd, 1) := by decide +kernel
theorem dX9_comes_31 : decode cX9_comes 31 = .ok (.iaload, 1) := by decide +kernel
theorem dX9_comes_32 : decode cX9_comes 32 = .ok (.istore_n 3, 1) := by decide +kernel
theorem dX9_comes_33 : decode cX9_comes 33 = .ok (.goto (-22), 3) := by decide +kernel
theorem dX9_comes_36 : decode cX9_comes 36 = .ok (.iload_n 3, 1) := by decide +kernel
theorem dX9_comes_37 : decode cX9_comes 37 = .ok (.iload_n 2, 1) := by decide +kernel
theorem dX9_comes_38 : decode cX9_comes 38 = .ok (.if_icmp .ne 7, 3) := by decide +kernel
theorem dX9_comes_41 : decode cX9_comes 41 = .ok (.iconst 1, 1) := by decide +kernel
theorem dX9_comes_42 : decode cX9_comes 42 = .ok (.goto 4, 3) := by decide +kernel
theorem dX9_comes_45 : decode cX9_comes 45 = .ok (.iconst 0, 1) := by decide +kernel
theorem dX9_comes_46 : decode cX9_comes 46 = .ok (.ireturn, 1) := by decide +kernel
theorem dX9_days_0 : decode cX9_days 0 = .ok (.aload_n 0, 1) := by decide +kernel
theorem dX9_days_1 : decode cX9_days 1 = .ok (.iconst 0, 1) := by decide +kernel
theorem dX9_days_2 : decode cX9_days 2 = .ok (.putfield 66, 3) := by decide +kernel
theorem dX9_days_5 : decode cX9_days 5 = .ok (.iload_n 1, 1) := by decide +kernel
theorem dX9_days_6 : decode cX9_days 6 = .ok (.i2l, 1) := by decide +kernel
theorem dX9_days_7 : decode cX9_days 7 = .ok (.lconst 1, 1) := by decide +kernel
theorem dX9_days_8 : decode cX9_days 8 = .ok (.ldc2_w 233, 3) := by decide +kernel
theorem dX9_days_11 : decode cX9_days 11 = .ok (.invokestatic 72, 3) := by decide +kernel
theorem dX9_days_14 : decode cX9_days 14 = .ok (.ifCond .ne 6, 3) := by decide +kernel
theorem dX9_days_17 : decode cX9_days 17 = .ok (.bipush (-2), 2) := by decide +kernel
theorem dX9_days_19 : decode cX9_days 19 = .ok (.ireturn, 1) := by decide +kernel
theorem dX9_days_20 : decode cX9_days 20 = .ok (.aload_n 0, 1) := by decide +kernel
theorem dX9_days_21 : decode cX9_days 21 = .ok (.invokevirtual 182, 3) := by decide +kernel
theorem dX9_days_24 : decode cX9_days 24 = .ok (.iconst 0, 1) := by decide +kernel
theorem dX9_days_25 : decode cX9_days 25 = .ok (.istore_n 2, 1) := by decide +kernel
theorem dX9_days_26 : decode cX9_days 26 = .ok (.iconst 0, 1) := by decide +kernel
theorem dX9_days_27 : decode cX9_days 27 = .ok (.istore_n 3, 1) := by decide +kernel
theorem dX9_days_28 : decode cX9_days 28 = .ok (.iload_n 3, 1) := by decide +kernel
theorem dX9_days_29 : decode cX9_days 29 = .ok (.iload_n 1, 1) := by decide +kernel
theorem dX9_days_30 : decode cX9_days 30 = .ok (.if_icmp .ge 85, 3) := by decide +kernel
theorem dX9_days_33 : decode cX9_days 33 = .ok (.aload_n 0, 1) := by decide +kernel
theorem dX9_days_34 : decode cX9_days 34 = .ok (.aload_n 0, 1) := by decide +kernel
theorem dX9_days_35 : decode cX9_days 35 = .ok (.getfield 229, 3) := by decide +kernel
theorem dX9_days_38 : decode cX9_days 38 = .ok (.ldc2_w 235, 3) := by decide +kernel
theorem dX9_days_41 : decode cX9_days 41 = .ok (.lmul, 1) := by decide +kernel
theorem dX9_days_42 : decode cX9_days 42 = .ok (.ldc2_w 237, 3) := by decide +kernel
theorem dX9_days_45 : decode cX9_days 45 = .ok (.ladd, 1) := by decide +kernel
theorem dX9_days_46 : decode cX9_days 46 = .ok (.putfield 229, 3) := by decide +kernel
theorem dX9_days_49 : decode cX9_days 49 = .ok (.aload_n 0, 1) := by decide +kernel
theorem dX9_days_50 : decode cX9_days 50 = .ok (.getfield 229, 3) := by decide +kernel
theorem dX9_days_53 : decode cX9_days 53 = .ok (.bipush 33, 2) := by decide +kernel
theorem dX9_days_55 : decode cX9_days 55 = .ok (.lushr, 1) := by decide +kernel
theorem dX9_days_56 : decode cX9_days 56 = .ok (.ldc2_w 206, 3) := by decide +kernel
theorem dX9_days_59 : decode cX9_days 59 = .ok (.lrem, 1) := by decide +kernel
theorem dX9_days_60 : decode cX9_days 60 = .ok (.l2i, 1) := by decide +kernel
theorem dX9_days_61 : decode cX9_days 61 = .ok (.istore 4, 2) := by decide +kernel
theorem dX9_days_63 : decode cX9_days 63 = .ok (.iload 4, 2) := by decide +kernel
theorem dX9_days_65 : decode cX9_days 65 = .ok (.iconst 3, 1) := by decide +kernel
theorem dX9_days_66 : decode cX9_days 66 = .ok (.idiv, 1) := by decide +kernel
theorem dX9_days_67 : decode cX9_days 67 = .ok (.aload_n 0, 1) := by decide +kernel
theorem dX9_days_68 : decode cX9_days 68 = .ok (.getfield 69, 3) := by decide +kernel
theorem dX9_days_71 : decode cX9_days 71 = .ok (.if_icmp .ge 19, 3) := by decide +kernel
theorem dX9_days_74 : decode cX9_days 74 = .ok (.aload_n 0, 1) := by decide +kernel
theorem dX9_days_75 : decode cX9_days 75 = .ok (.aload_n 0, 1) := by decide +kernel
theorem dX9_days_76 : decode cX9_days 76 = .ok (.getfield 38, 3) := by decide +kernel
theorem dX9_days_79 : decode cX9_days 79 = .ok (.iload 4, 2) := by decide +kernel
theorem dX9_days_81 : decode cX9_days 81 = .ok (.iconst 3, 1) := by decide +kernel
theorem dX9_days_82 : decode cX9_days 82 = .ok (.idiv, 1) := by decide +kernel
theorem dX9_days_83 : decode cX9_days 83 = .ok (.iload 4, 2) := by decide +kernel
theorem dX9_days_85 : decode cX9_days 85 = .ok (.iconst 3, 1) := by decide +kernel
theorem dX9_days_86 : decode cX9_days 86 = .ok (.irem, 1) := by decide +kernel
theorem dX9_days_87 : decode cX9_days 87 = .ok (.invokevirtual 169, 3) := by decide +kernel
theorem dX9_days_90 : decode cX9_days 90 = .ok (.iload_n 2, 1) := by decide +kernel
theorem dX9_days_91 : decode cX9_days 91 = .ok (.aload_n 0, 1) := by decide +kernel
theorem dX9_days_92 : decode cX9_days 92 = .ok (.aload_n 0, 1) := by decide +kernel
theorem dX9_days_93 : decode cX9_days 93 = .ok (.getfield 38, 3) := by decide +kernel
theorem dX9_days_96 : decode cX9_days 96 = .ok (.aload_n 0, 1) := by decide +kernel
theorem dX9_days_97 : decode cX9_days 97 = .ok (.getfield 13, 3) := by decide +kernel
theorem dX9_days_100 : decode cX9_days 100 = .ok (.iconst 0, 1) := by decide +kernel
theorem dX9_days_101 : decode cX9_days 101 = .ok (.invokevirtual 176, 3) := by decide +kernel
theorem dX9_days_104 : decode cX9_days 104 = .ok (.invokestatic 173, 3) := by decide +kernel
theorem dX9_days_107 : decode cX9_days 107 = .ok (.iadd, 1) := by decide +kernel
theorem dX9_days_108 : decode cX9_days 108 = .ok (.istore_n 2, 1) := by decide +kernel
theorem dX9_days_109 : decode cX9_days 109 = .ok (.iinc 3 1, 3) := by decide +kernel
theorem dX9_days_112 : decode cX9_days 112 = .ok (.goto (-84), 3) := by decide +kernel
theorem dX9_days_115 : decode cX9_days 115 = .ok (.iload_n 2, 1) := by decide +kernel
theorem dX9_days_116 : decode cX9_days 116 = .ok (.ireturn, 1) := by decide +kernel
theorem dX9_dog_0 : decode cX9_dog 0 = .ok (.aload_n 0, 1) := by decide +kernel
theorem dX9_dog_1 : decode cX9_dog 1 = .ok (.iconst 0, 1) := by decide +kernel
theorem dX9_dog_2 : decode cX9_dog 2 = .ok (.putfield 66, 3) := by decide +kernel
theorem dX9_dog_5 : decode cX9_dog 5 = .ok (.aload_n 0, 1) := by decide +kernel
theorem dX9_dog_6 : decode cX9_dog 6 = .ok (.iload_n 1, 1) := by decide +kernel
theorem dX9_dog_7 : decode cX9_dog 7 = .ok (.invokevirtual 153, 3) := by decide +kernel
theorem dX9_dog_10 : decode cX9_dog 10 = .ok (.ifCond .eq 5, 3) := by decide +kernel
theorem dX9_dog_13 : decode cX9_dog 13 = .ok (.iconst (-1), 1) := by decide +kernel
theorem dX9_dog_14 : decode cX9_dog 14 = .ok (.ireturn, 1) := by decide +kernel
theorem dX9_dog_15 : decode cX9_dog 15 = .ok (.iload_n 2, 1) := by decide +kernel
theorem dX9_dog_16 : decode cX9_dog 16 = .ok (.tableswitch 88 0 5 #[40, 47, 47, 58, 68, 77], 40) := by decide +kernel
theorem dX9_dog_56 : decode cX9_dog 56 = .ok (.aload_n 0, 1) := by decide +kernel
theorem dX9_dog_57 : decode cX9_dog 57 = .ok (.getfield 35, 3) := by decide +kernel
theorem dX9_dog_60 : decode cX9_dog 60 = .ok (.iload_n 1, 1) := by decide +kernel
theorem dX9_dog_61 : decode cX9_dog 61 = .ok (.iaload, 1) := by decide +kernel
theorem dX9_dog_62 : decode cX9_dog 62 = .ok (.ireturn, 1) := by decide +kernel
theorem dX9_dog_63 : decode cX9_dog 63 = .ok (.aload_n 0, 1) := by decide +kernel
theorem dX9_dog_64 : decode cX9_dog 64 = .ok (.getfield 20, 3) := by decide +kernel
theorem dX9_dog_67 : decode cX9_dog 67 = .ok (.iconst 4, 1) := by decide +kernel
theorem dX9_dog_68 : decode cX9_dog 68 = .ok (.iload_n 1, 1) := by decide +kernel
theorem dX9_dog_69 : decode cX9_dog 69 = .ok (.imul, 1) := by decide +kernel
theorem dX9_dog_70 : decode cX9_dog 70 = .ok (.iload_n 2, 1) := by decide +kernel
theorem dX9_dog_71 : decode cX9_dog 71 = .ok (.iadd, 1) := by decide +kernel
theorem dX9_dog_72 : decode cX9_dog 72 = .ok (.iaload, 1) := by decide +kernel
theorem dX9_dog_73 : decode cX9_dog 73 = .ok (.ireturn, 1) := by decide +kernel
theorem dX9_dog_74 : decode cX9_dog 74 = .ok (.aload_n 0, 1) := by decide +kernel
theorem dX9_dog_75 : decode cX9_dog 75 = .ok (.aload_n 0, 1) := by decide +kernel
theorem dX9_dog_76 : decode cX9_dog 76 = .ok (.getfield 35, 3) := by decide +kernel
theorem dX9_dog_79 : decode cX9_dog 79 = .ok (.iload_n 1, 1) := by decide +kernel
theorem dX9_dog_80 : decode cX9_dog 80 = .ok (.invokevirtual 157, 3) := by decide +kernel
theorem dX9_dog_83 : decode cX9_dog 83 = .ok (.ireturn, 1) := by decide +kernel
theorem dX9_dog_84 : decode cX9_dog 84 = .ok (.aload_n 0, 1) := by decide +kernel
theorem dX9_dog_85 : decode cX9_dog 85 = .ok (.getfield 35, 3) := by decide +kernel
theorem dX9_dog_88 : decode cX9_dog 88 = .ok (.iconst 4, 1) := by decide +kernel
theorem dX9_dog_89 : decode cX9_dog 89 = .ok (.iload_n 1, 1) := by decide +kernel
theorem dX9_dog_90 : decode cX9_dog 90 = .ok (.iadd, 1) := by decide +kernel
theorem dX9_dog_91 : decode cX9_dog 91 = .ok (.iaload, 1) := by decide +kernel
theorem dX9_dog_92 : decode cX9_dog 92 = .ok (.ireturn, 1) := by decide +kernel
theorem dX9_dog_93 : decode cX9_dog 93 = .ok (.aload_n 0, 1) := by decide +kernel
theorem dX9_dog_94 : decode cX9_dog 94 = .ok (.getfield 20, 3) := by decide +kernel
theorem dX9_dog_97 : decode cX9_dog 97 = .ok (.iconst 4, 1) := by decide +kernel
theorem dX9_dog_98 : decode cX9_dog 98 = .ok (.iload_n 1, 1) := by decide +kernel
theorem dX9_dog_99 : decode cX9_dog 99 = .ok (.imul, 1) := by decide +kernel
theorem dX9_dog_100 : decode cX9_dog 100 = .ok (.iconst 3, 1) := by decide +kernel
theorem dX9_dog_101 : decode cX9_dog 101 = .ok (.iadd, 1) := by decide +kernel
theorem dX9_dog_102 : decode cX9_dog 102 = .ok (.iaload, 1) := by decide +kernel
theorem dX9_dog_103 : decode cX9_dog 103 = .ok (.ireturn, 1) := by decide +kernel
theorem dX9_dog_104 : decode cX9_dog 104 = .ok (.bipush (-2), 2) := by decide +kernel
theorem dX9_dog_106 : decode cX9_dog 106 = .ok (.ireturn, 1) := by decide +kernel
theorem dX9_fault_0 : decode cX9_fault 0 = .ok (.aload_n 0, 1) := by decide +kernel
theorem dX9_fault_1 : decode cX9_fault 1 = .ok (.iconst 0, 1) := by decide +kernel
theorem dX9_fault_2 : decode cX9_fault 2 = .ok (.putfield 66, 3) := by decide +kernel
theorem dX9_fault_5 : decode cX9_fault 5 = .ok (.aload_n 0, 1) := by decide +kernel
theorem dX9_fault_6 : decode cX9_fault 6 = .ok (.invokevirtual 137, 3) := by decide +kernel
theorem dX9_fault_9 : decode cX9_fault 9 = .ok (.ireturn, 1) := by decide +kernel
theorem dX9_figure_0 : decode cX9_figure 0 = .ok (.aload_n 0, 1) := by decide +kernel
theorem dX9_figure_1 : decode cX9_figure 1 = .ok (.getfield 84, 3) := by decide +kernel
theorem dX9_figure_4 : decode cX9_figure 4 = .ok (.aload_n 0, 1) := by decide +kernel
theorem dX9_figure_5 : decode cX9_figure 5 = .ok (.getfield 81, 3) := by decide +kernel
theorem dX9_figure_8 : decode cX9_figure 8 = .ok (.if_icmp .eq 26, 3) := by decide +kernel
theorem dX9_figure_11 : decode cX9_figure 11 = .ok (.aload_n 0, 1) := by decide +kernel
theorem dX9_figure_12 : decode cX9_figure 12 = .ok (.getfield 7, 3) := by decide +kernel
theorem dX9_figure_15 : decode cX9_figure 15 = .ok (.aload_n 0, 1) := by decide +kernel
theorem dX9_figure_16 : decode cX9_figure 16 = .ok (.getfield 84, 3) := by decide +kernel
theorem dX9_figure_19 : decode cX9_figure 19 = .ok (.iaload, 1) := by decide +kernel
theorem dX9_figure_20 : decode cX9_figure 20 = .ok (.bipush 48, 2) := by decide +kernel
theorem dX9_figure_22 : decode cX9_figure 22 = .ok (.isub, 1) := by decide +kernel
theorem dX9_figure_23 : decode cX9_figure 23 = .ok (.i2l, 1) := by decide +kernel
theorem dX9_figure_24 : decode cX9_figure 24 = .ok (.iload_n 1, 1) := by decide +kernel
theorem dX9_figure_25 : decode cX9_figure 25 = .ok (.i2l, 1) := by decide +kernel
theorem dX9_figure_26 : decode cX9_figure 26 = .ok (.iload_n 2, 1) := by decide +kernel
theorem dX9_figure_27 : decode cX9_figure 27 = .ok (.i2l, 1) := by decide +kernel
theorem dX9_figure_28 : decode cX9_figure 28 = .ok (.invokestatic 72, 3) := by decide +kernel
theorem dX9_figure_31 : decode cX9_figure 31 = .ok (.ifCond .ne 6, 3) := by decide +kernel
theorem dX9_figure_34 : decode cX9_figure 34 = .ok (.bipush (-9), 2) := by decide +kernel
theorem dX9_figure_36 : decode cX9_figure 36 = .ok (.ireturn, 1) := by decide +kernel
theorem dX9_figure_37 : decode cX9_figure 37 = .ok (.aload_n 0, 1) := by decide +kernel
theorem dX9_figure_38 : decode cX9_figure 38 = .ok (.dup, 1) := by decide +kernel
theorem dX9_figure_39 : decode cX9_figure 39 = .ok (.getfield 84, 3) := by decide +kernel
theorem dX9_figure_42 : decode cX9_figure 42 = .ok (.iconst 1, 1) := by decide +kernel
theorem dX9_figure_43 : decode cX9_figure 43 = .ok (.iadd, 1) := by decide +kernel
theorem dX9_figure_44 : decode cX9_figure 44 = .ok (.putfield 84, 3) := by decide +kernel
theorem dX9_figure_47 : decode cX9_figure 47 = .ok (.aload_n 0, 1) := by decide +kernel
theorem dX9_figure_48 : decode cX9_figure 48 = .ok (.getfield 7, 3) := by decide +kernel
theorem dX9_figure_51 : decode cX9_figure 51 = .ok (.aload_n 0, 1) := by decide +kernel
theorem dX9_figure_52 : decode cX9_figure 52 = .ok (.getfield 84, 3) := by decide +kernel
theorem dX9_figure_55 : decode cX9_figure 55 = .ok (.iconst 1, 1) := by decide +kernel
theorem dX9_figure_56 : decode cX9_figure 56 = .ok (.isub, 1) := by decide +kernel
theorem dX9_figure_57 : decode cX9_figure 57 = .ok (.iaload, 1) := by decide +kernel
theorem dX9_figure_58 : decode cX9_figure 58 = .ok (.bipush 48, 2) := by decide +kernel
theorem dX9_figure_60 : decode cX9_figure 60 = .ok (.isub, 1) := by decide +kernel
theorem dX9_figure_61 : decode cX9_figure 61 = .ok (.ireturn, 1) := by decide +kernel
theorem dX9_findWalks_0 : decode cX9_findWalks 0 = .ok (.aload_n 0, 1) := by decide +kernel
theorem dX9_findWalks_1 : decode cX9_findWalks 1 = .ok (.iconst 0, 1) := by decide +kernel
theorem dX9_findWalks_2 : decode cX9_findWalks 2 = .ok (.putfield 215, 3) := by decide +kernel
theorem dX9_findWalks_5 : decode cX9_findWalks 5 = .ok (.iconst 0, 1) := by decide +kernel
theorem dX9_findWalks_6 : decode cX9_findWalks 6 = .ok (.istore_n 1, 1) := by decide +kernel
theorem dX9_findWalks_7 : decode cX9_findWalks 7 = .ok (.iload_n 1, 1) := by decide +kernel
theorem dX9_findWalks_8 : decode cX9_findWalks 8 = .ok (.aload_n 0, 1) := by decide +kernel
theorem dX9_findWalks_9 : decode cX9_findWalks 9 = .ok (.getfield 69, 3) := by decide +kernel
theorem dX9_findWalks_12 : decode cX9_findWalks 12 = .ok (.iconst 1, 1) := by decide +kernel
theorem dX9_findWalks_13 : decode cX9_findWalks 13 = .ok (.iadd, 1) := by decide +kernel
theorem dX9_findWalks_14 : decode cX9_findWalks 14 = .ok (.aload_n 0, 1) := by decide +kernel
theorem dX9_findWalks_15 : decode cX9_findWalks 15 = .ok (.getfield 76, 3) := by decide +kernel
theorem dX9_findWalks_18 : decode cX9_findWalks 18 = .ok (.invokestatic 188, 3) := by decide +kernel
theorem dX9_findWalks_21 : decode cX9_findWalks 21 = .ok (.if_icmp .ge 110, 3) := by decide +kernel
theorem dX9_findWalks_24 : decode cX9_findWalks 24 = .ok (.aload_n 0, 1) := by decide +kernel
theorem dX9_findWalks_25 : decode cX9_findWalks 25 = .ok (.iload_n 1, 1) := by decide +kernel
theorem dX9_findWalks_26 : decode cX9_findWalks 26 = .ok (.invokevirtual 218, 3) := by decide +kernel
theorem dX9_findWalks_29 : decode cX9_findWalks 29 = .ok (.ifCond .eq 96, 3) := by decide +kernel
theorem dX9_findWalks_32 : decode cX9_findWalks 32 = .ok (.iconst 0, 1) := by decide +kernel
theorem dX9_findWalks_33 : decode cX9_findWalks 33 = .ok (.istore_n 2, 1) := by decide +kernel
theorem dX9_findWalks_34 : decode cX9_findWalks 34 = .ok (.iload_n 2, 1) := by decide +kernel
theorem dX9_findWalks_35 : decode cX9_findWalks 35 = .ok (.aload_n 0, 1) := by decide +kernel
theorem dX9_findWalks_36 : decode cX9_findWalks 36 = .ok (.getfield 76, 3) := by decide +kernel
theorem dX9_findWalks_39 : decode cX9_findWalks 39 = .ok (.if_icmp .ge 76, 3) := by decide +kernel
theorem dX9_findWalks_42 : decode cX9_findWalks 42 = .ok (.iload_n 1, 1) := by decide +kernel
theorem dX9_findWalks_43 : decode cX9_findWalks 43 = .ok (.aload_n 0, 1) := by decide +kernel
theorem dX9_findWalks_44 : decode cX9_findWalks 44 = .ok (.getfield 69, 3) := by decide +kernel
theorem dX9_findWalks_47 : decode cX9_findWalks 47 = .ok (.iconst 1, 1) := by decide +kernel
theorem dX9_findWalks_48 : decode cX9_findWalks 48 = .ok (.iadd, 1) := by decide +kernel
theorem dX9_findWalks_49 : decode cX9_findWalks 49 = .ok (.iload_n 2, 1) := by decide +kernel
theorem dX9_findWalks_50 : decode cX9_findWalks 50 = .ok (.invokestatic 188, 3) := by decide +kernel
theorem dX9_findWalks_53 : decode cX9_findWalks 53 = .ok (.idiv, 1) := by decide +kernel
theorem dX9_findWalks_54 : decode cX9_findWalks 54 = .ok (.aload_n 0, 1) := by decide +kernel
theorem dX9_findWalks_55 : decode cX9_findWalks 55 = .ok (.getfield 69, 3) := by decide +kernel
theorem dX9_findWalks_58 : decode cX9_findWalks 58 = .ok (.iconst 1, 1) := by decide +kernel
theorem dX9_findWalks_59 : decode cX9_findWalks 59 = .ok (.iadd, 1) := by decide +kernel
theorem dX9_findWalks_60 : decode cX9_findWalks 60 = .ok (.irem, 1) := by decide +kernel
theorem dX9_findWalks_61 : decode cX9_findWalks 61 = .ok (.istore_n 3, 1) := by decide +kernel
theorem dX9_findWalks_62 : decode cX9_findWalks 62 = .ok (.iload_n 3, 1) := by decide +kernel
theorem dX9_findWalks_63 : decode cX9_findWalks 63 = .ok (.aload_n 0, 1) := by decide +kernel
theorem dX9_findWalks_64 : decode cX9_findWalks 64 = .ok (.getfield 69, 3) := by decide +kernel
theorem dX9_findWalks_67 : decode cX9_findWalks 67 = .ok (.if_icmp .ne 8, 3) := by decide +kernel
theorem dX9_findWalks_70 : decode cX9_findWalks 70 = .ok (.bipush 9, 2) := by decide +kernel
theorem dX9_findWalks_72 : decode cX9_findWalks 72 = .ok (.goto 4, 3) := by decide +kernel
theorem dX9_findWalks_75 : decode cX9_findWalks 75 = .ok (.iload_n 3, 1) := by decide +kernel
theorem dX9_findWalks_76 : decode cX9_findWalks 76 = .ok (.istore 4, 2) := by decide +kernel
theorem dX9_findWalks_78 : decode cX9_findWalks 78 = .ok (.aload_n 0, 1) := by decide +kernel
theorem dX9_findWalks_79 : decode cX9_findWalks 79 = .ok (.getfield 63, 3) := by decide +kernel
theorem dX9_findWalks_82 : decode cX9_findWalks 82 = .ok (.iload_n 2, 1) := by decide +kernel
theorem dX9_findWalks_83 : decode cX9_findWalks 83 = .ok (.aload_n 0, 1) := by decide +kernel
theorem dX9_findWalks_84 : decode cX9_findWalks 84 = .ok (.getfield 215, 3) := by decide +kernel
theorem dX9_findWalks_87 : decode cX9_findWalks 87 = .ok (.ifCond .eq 14, 3) := by decide +kernel
theorem dX9_findWalks_90 : decode cX9_findWalks 90 = .ok (.aload_n 0, 1) := by decide +kernel
theorem dX9_findWalks_91 : decode cX9_findWalks 91 = .ok (.getfield 63, 3) := by decide +kernel
theorem dX9_findWalks_94 : decode cX9_findWalks 94 = .ok (.iload_n 2, 1) := by decide +kernel
theorem dX9_findWalks_95 : decode cX9_findWalks 95 = .ok (.iaload, 1) := by decide +kernel
theorem dX9_findWalks_96 : decode cX9_findWalks 96 = .ok (.iload 4, 2) := by decide +kernel
theorem dX9_findWalks_98 : decode cX9_findWalks 98 = .ok (.if_icmp .ne 8, 3) := by decide +kernel
theorem dX9_findWalks_101 : decode cX9_findWalks 101 = .ok (.iload 4, 2) := by decide +kernel
theorem dX9_findWalks_103 : decode cX9_findWalks 103 = .ok (.goto 5, 3) := by decide +kernel
theorem dX9_findWalks_106 : decode cX9_findWalks 106 = .ok (.bipush (-9), 2) := by decide +kernel
theorem dX9_findWalks_108 : decode cX9_findWalks 108 = .ok (.iastore, 1) := by decide +kernel
theorem dX9_findWalks_109 : decode cX9_findWalks 109 = .ok (.iinc 2 1, 3) := by decide +kernel
theorem dX9_findWalks_112 : decode cX9_findWalks 112 = .ok (.goto (-78), 3) := by decide +kernel
theorem dX9_findWalks_115 : decode cX9_findWalks 115 = .ok (.aload_n 0, 1) := by decide +kernel
theorem dX9_findWalks_116 : decode cX9_findWalks 116 = .ok (.dup, 1) := by decide +kernel
theorem dX9_findWalks_117 : decode cX9_findWalks 117 = .ok (.getfield 215, 3) := by decide +kernel
theorem dX9_findWalks_120 : decode cX9_findWalks 120 = .ok (.iconst 1, 1) := by decide +kernel
theorem dX9_findWalks_121 : decode cX9_findWalks 121 = .ok (.iadd, 1) := by decide +kernel
theorem dX9_findWalks_122 : decode cX9_findWalks 122 = .ok (.putfield 215, 3) := by decide +kernel
theorem dX9_findWalks_125 : decode cX9_findWalks 125 = .ok (.iinc 1 1, 3) := by decide +kernel
theorem dX9_findWalks_128 : decode cX9_findWalks 128 = .ok (.goto (-121), 3) := by decide +kernel
theorem dX9_findWalks_131 : decode cX9_findWalks 131 = .ok (.return_, 1) := by decide +kernel
theorem dX9_give_0 : decode cX9_give 0 = .ok (.aload_n 0, 1) := by decide +kernel
theorem dX9_give_1 : decode cX9_give 1 = .ok (.iconst 0, 1) := by decide +kernel
theorem dX9_give_2 : decode cX9_give 2 = .ok (.putfield 66, 3) := by decide +kernel
theorem dX9_give_5 : decode cX9_give 5 = .ok (.aload_n 0, 1) := by decide +kernel
theorem dX9_give_6 : decode cX9_give 6 = .ok (.iload_n 1, 1) := by decide +kernel
theorem dX9_give_7 : decode cX9_give 7 = .ok (.invokevirtual 161, 3) := by decide +kernel
theorem dX9_give_10 : decode cX9_give 10 = .ok (.ifCond .ne 11, 3) := by decide +kernel
theorem dX9_give_13 : decode cX9_give 13 = .ok (.aload_n 0, 1) := by decide +kernel
theorem dX9_give_14 : decode cX9_give 14 = .ok (.iload_n 2, 1) := by decide +kernel
theorem dX9_give_15 : decode cX9_give 15 = .ok (.invokevirtual 153, 3) := by decide +kernel
theorem dX9_give_18 : decode cX9_give 18 = .ok (.ifCond .eq 5, 3) := by decide +kernel
theorem dX9_give_21 : decode cX9_give 21 = .ok (.iconst (-1), 1) := by decide +kernel
theorem dX9_give_22 : decode cX9_give 22 = .ok (.ireturn, 1) := by decide +kernel
theorem dX9_give_23 : decode cX9_give 23 = .ok (.aload_n 0, 1) := by decide +kernel
theorem dX9_give_24 : decode cX9_give 24 = .ok (.getfield 35, 3) := by decide +kernel
theorem dX9_give_27 : decode cX9_give 27 = .ok (.bipush 8, 2) := by decide +kernel
theorem dX9_give_29 : decode cX9_give 29 = .ok (.iload_n 1, 1) := by decide +kernel
theorem dX9_give_30 : decode cX9_give 30 = .ok (.iadd, 1) := by decide +kernel
theorem dX9_give_31 : decode cX9_give 31 = .ok (.iaload, 1) := by decide +kernel
theorem dX9_give_32 : decode cX9_give 32 = .ok (.istore_n 3, 1) := by decide +kernel
theorem dX9_give_33 : decode cX9_give 33 = .ok (.aload_n 0, 1) := by decide +kernel
theorem dX9_give_34 : decode cX9_give 34 = .ok (.getfield 35, 3) := by decide +kernel
theorem dX9_give_37 : decode cX9_give 37 = .ok (.bipush 19, 2) := by decide +kernel
theorem dX9_give_39 : decode cX9_give 39 = .ok (.iload_n 1, 1) := by decide +kernel
theorem dX9_give_40 : decode cX9_give 40 = .ok (.iadd, 1) := by decide +kernel
theorem dX9_give_41 : decode cX9_give 41 = .ok (.iaload, 1) := by decide +kernel
theorem dX9_give_42 : decode cX9_give 42 = .ok (.ifCond .gt 26, 3) := by decide +kernel
theorem dX9_give_45 : decode cX9_give 45 = .ok (.iload_n 3, 1) := by decide +kernel
theorem dX9_give_46 : decode cX9_give 46 = .ok (.iload_n 2, 1) := by decide +kernel
theorem dX9_give_47 : decode cX9_give 47 = .ok (.if_icmp .eq 21, 3) := by decide +kernel
theorem dX9_give_50 : decode cX9_give 50 = .ok (.aload_n 0, 1) := by decide +kernel
theorem dX9_give_51 : decode cX9_give 51 = .ok (.getfield 35, 3) := by decide +kernel
theorem dX9_give_54 : decode cX9_give 54 = .ok (.bipush 13, 2) := by decide +kernel
theorem dX9_give_56 : decode cX9_give 56 = .ok (.iload_n 1, 1) := by decide +kernel
theorem dX9_give_57 : decode cX9_give 57 = .ok (.iadd, 1) := by decide +kernel
theorem dX9_give_58 : decode cX9_give 58 = .ok (.iaload, 1) := by decide +kernel
theorem dX9_give_59 : decode cX9_give 59 = .ok (.aload_n 0, 1) := by decide +kernel
theorem dX9_give_60 : decode cX9_give 60 = .ok (.getfield 35, 3) := by decide +kernel
theorem dX9_give_63 : decode cX9_give 63 = .ok (.iload_n 2, 1) := by decide +kernel
theorem dX9_give_64 : decode cX9_give 64 = .ok (.iaload, 1) := by decide +kernel
theorem dX9_give_65 : decode cX9_give 65 = .ok (.if_icmp .eq 6, 3) := by decide +kernel
theorem dX9_give_68 : decode cX9_give 68 = .ok (.bipush (-3), 2) := by decide +kernel
theorem dX9_give_70 : decode cX9_give 70 = .ok (.ireturn, 1) := by decide +kernel
theorem dX9_give_71 : decode cX9_give 71 = .ok (.aload_n 0, 1) := by decide +kernel
theorem dX9_give_72 : decode cX9_give 72 = .ok (.aload_n 0, 1) := by decide +kernel
theorem dX9_give_73 : decode cX9_give 73 = .ok (.getfield 35, 3) := by decide +kernel
theorem dX9_give_76 : decode cX9_give 76 = .ok (.iload_n 2, 1) := by decide +kernel
theorem dX9_give_77 : decode cX9_give 77 = .ok (.invokevirtual 157, 3) := by decide +kernel
theorem dX9_give_80 : decode cX9_give 80 = .ok (.invokestatic 173, 3) := by decide +kernel
theorem dX9_give_83 : decode cX9_give 83 = .ok (.aload_n 0, 1) := by decide +kernel
theorem dX9_give_84 : decode cX9_give 84 = .ok (.getfield 20, 3) := by decide +kernel
theorem dX9_give_87 : decode cX9_give 87 = .ok (.iconst 4, 1) := by decide +kernel
theorem dX9_give_88 : decode cX9_give 88 = .ok (.iload_n 2, 1) := by decide +kernel
theorem dX9_give_89 : decode cX9_give 89 = .ok (.imul, 1) := by decide +kernel
theorem dX9_give_90 : decode cX9_give 90 = .ok (.iconst 2, 1) := by decide +kernel
theorem dX9_give_91 : decode cX9_give 91 = .ok (.iadd, 1) := by decide +kernel
theorem dX9_give_92 : decode cX9_give 92 = .ok (.iaload, 1) := by decide +kernel
theorem dX9_give_93 : decode cX9_give 93 = .ok (.if_icmp .lt 6, 3) := by decide +kernel
theorem dX9_give_96 : decode cX9_give 96 = .ok (.bipush (-4), 2) := by decide +kernel
theorem dX9_give_98 : decode cX9_give 98 = .ok (.ireturn, 1) := by decide +kernel
theorem dX9_give_99 : decode cX9_give 99 = .ok (.aload_n 0, 1) := by decide +kernel
theorem dX9_give_100 : decode cX9_give 100 = .ok (.invokevirtual 166, 3) := by decide +kernel
theorem dX9_give_103 : decode cX9_give 103 = .ok (.aload_n 0, 1) := by decide +kernel
theorem dX9_give_104 : decode cX9_give 104 = .ok (.getfield 35, 3) := by decide +kernel
theorem dX9_give_107 : decode cX9_give 107 = .ok (.bipush 8, 2) := by decide +kernel
theorem dX9_give_109 : decode cX9_give 109 = .ok (.iload_n 1, 1) := by decide +kernel
theorem dX9_give_110 : decode cX9_give 110 = .ok (.iadd, 1) := by decide +kernel
theorem dX9_give_111 : decode cX9_give 111 = .ok (.iload_n 2, 1) := by decide +kernel
theorem dX9_give_112 : decode cX9_give 112 = .ok (.iastore, 1) := by decide +kernel
theorem dX9_give_113 : decode cX9_give 113 = .ok (.iload_n 3, 1) := by decide +kernel
theorem dX9_give_114 : decode cX9_give 114 = .ok (.ireturn, 1) := by decide +kernel
theorem dX9_goHour_0 : decode cX9_goHour 0 = .ok (.aload_n 0, 1) := by decide +kernel
theorem dX9_goHour_1 : decode cX9_goHour 1 = .ok (.getfield 17, 3) := by decide +kernel
theorem dX9_goHour_4 : decode cX9_goHour 4 = .ok (.aload_n 1, 1) := by decide +kernel
theorem dX9_goHour_5 : decode cX9_goHour 5 = .ok (.bipush 24, 2) := by decide +kernel
theorem dX9_goHour_7 : decode cX9_goHour 7 = .ok (.iaload, 1) := by decide +kernel
theorem dX9_goHour_8 : decode cX9_goHour 8 = .ok (.iload_n 3, 1) := by decide +kernel
theorem dX9_goHour_9 : decode cX9_goHour 9 = .ok (.iadd, 1) := by decide +kernel
theorem dX9_goHour_10 : decode cX9_goHour 10 = .ok (.iconst 4, 1) := by decide +kernel
theorem dX9_goHour_11 : decode cX9_goHour 11 = .ok (.irem, 1) := by decide +kernel
theorem dX9_goHour_12 : decode cX9_goHour 12 = .ok (.iaload, 1) := by decide +kernel
theorem dX9_goHour_13 : decode cX9_goHour 13 = .ok (.istore 4, 2) := by decide +kernel
theorem dX9_goHour_15 : decode cX9_goHour 15 = .ok (.aload_n 1, 1) := by decide +kernel
theorem dX9_goHour_16 : decode cX9_goHour 16 = .ok (.bipush 24, 2) := by decide +kernel
theorem dX9_goHour_18 : decode cX9_goHour 18 = .ok (.iaload, 1) := by decide +kernel
theorem dX9_goHour_19 : decode cX9_goHour 19 = .ok (.bipush 12, 2) := by decide +kernel
theorem dX9_goHour_21 : decode cX9_goHour 21 = .ok (.irem, 1) := by decide +kernel
theorem dX9_goHour_22 : decode cX9_goHour 22 = .ok (.iload_n 2, 1) := by decide +kernel
theorem dX9_goHour_23 : decode cX9_goHour 23 = .ok (.if_icmp .lt 7, 3) := by decide +kernel
theorem dX9_goHour_26 : decode cX9_goHour 26 = .ok (.iconst 1, 1) := by decide +kernel
theorem dX9_goHour_27 : decode cX9_goHour 27 = .ok (.goto 4, 3) := by decide +kernel
theorem dX9_goHour_30 : decode cX9_goHour 30 = .ok (.iconst 0, 1) := by decide +kernel
theorem dX9_goHour_31 : decode cX9_goHour 31 = .ok (.istore 5, 2) := by decide +kernel
theorem dX9_goHour_33 : decode cX9_goHour 33 = .ok (.iconst 0, 1) := by decide +kernel
theorem dX9_goHour_34 : decode cX9_goHour 34 = .ok (.istore 6, 2) := by decide +kernel
theorem dX9_goHour_36 : decode cX9_goHour 36 = .ok (.iconst 0, 1) := by decide +kernel
theorem dX9_goHour_37 : decode cX9_goHour 37 = .ok (.istore 7, 2) := by decide +kernel
theorem dX9_goHour_39 : decode cX9_goHour 39 = .ok (.iload 7, 2) := by decide +kernel
theorem dX9_goHour_41 : decode cX9_goHour 41 = .ok (.aload_n 0, 1) := by decide +kernel
theorem dX9_goHour_42 : decode cX9_goHour 42 = .ok (.getfield 76, 3) := by decide +kernel
theorem dX9_goHour_45 : decode cX9_goHour 45 = .ok (.if_icmp .ge 183, 3) := by decide +kernel
theorem dX9_goHour_48 : decode cX9_goHour 48 = .ok (.aload_n 1, 1) := by decide +kernel
theorem dX9_goHour_49 : decode cX9_goHour 49 = .ok (.bipush 19, 2) := by decide +kernel
theorem dX9_goHour_51 : decode cX9_goHour 51 = .ok (.iload 7, 2) := by decide +kernel
theorem dX9_goHour_53 : decode cX9_goHour 53 = .ok (.iadd, 1) := by decide +kernel
theorem dX9_goHour_54 : decode cX9_goHour 54 = .ok (.iaload, 1) := by decide +kernel
theorem dX9_goHour_55 : decode cX9_goHour 55 = .ok (.ifCond .le 55, 3) := by decide +kernel
theorem dX9_goHour_58 : decode cX9_goHour 58 = .ok (.aload_n 1, 1) := by decide +kernel
theorem dX9_goHour_59 : decode cX9_goHour 59 = .ok (.bipush 19, 2) := by decide +kernel
theorem dX9_goHour_61 : decode cX9_goHour 61 = .ok (.iload 7, 2) := by decide +kernel
theorem dX9_goHour_63 : decode cX9_goHour 63 = .ok (.iadd, 1) := by decide +kernel
theorem dX9_goHour_64 : decode cX9_goHour 64 = .ok (.dup2, 1) := by decide +kernel
theorem dX9_goHour_65 : decode cX9_goHour 65 = .ok (.iaload, 1) := by decide +kernel
theorem dX9_goHour_66 : decode cX9_goHour 66 = .ok (.iconst 1, 1) := by decide +kernel
theorem dX9_goHour_67 : decode cX9_goHour 67 = .ok (.isub, 1) := by decide +kernel
theorem dX9_goHour_68 : decode cX9_goHour 68 = .ok (.iastore, 1) := by decide +kernel
theorem dX9_goHour_69 : decode cX9_goHour 69 = .ok (.aload_n 1, 1) := by decide +kernel
theorem dX9_goHour_70 : decode cX9_goHour 70 = .ok (.bipush 19, 2) := by decide +kernel
theorem dX9_goHour_72 : decode cX9_goHour 72 = .ok (.iload 7, 2) := by decide +kernel
theorem dX9_goHour_74 : decode cX9_goHour 74 = .ok (.iadd, 1) := by decide +kernel
theorem dX9_goHour_75 : decode cX9_goHour 75 = .ok (.iaload, 1) := by decide +kernel
theorem dX9_goHour_76 : decode cX9_goHour 76 = .ok (.ifCond .ne 146, 3) := by decide +kernel
theorem dX9_goHour_79 : decode cX9_goHour 79 = .ok (.aload_n 1, 1) := by decide +kernel
theorem dX9_goHour_80 : decode cX9_goHour 80 = .ok (.bipush 8, 2) := by decide +kernel
theorem dX9_goHour_82 : decode cX9_goHour 82 = .ok (.iload 7, 2) := by decide +kernel
theorem dX9_goHour_84 : decode cX9_goHour 84 = .ok (.iadd, 1) := by decide +kernel
theorem dX9_goHour_85 : decode cX9_goHour 85 = .ok (.iaload, 1) := by decide +kernel
theorem dX9_goHour_86 : decode cX9_goHour 86 = .ok (.bipush (-9), 2) := by decide +kernel
theorem dX9_goHour_88 : decode cX9_goHour 88 = .ok (.if_icmp .eq 134, 3) := by decide +kernel
theorem dX9_goHour_91 : decode cX9_goHour 91 = .ok (.aload_n 1, 1) := by decide +kernel
theorem dX9_goHour_92 : decode cX9_goHour 92 = .ok (.bipush 13, 2) := by decide +kernel
theorem dX9_goHour_94 : decode cX9_goHour 94 = .ok (.iload 7, 2) := by decide +kernel
theorem dX9_goHour_96 : decode cX9_goHour 96 = .ok (.iadd, 1) := by decide +kernel
theorem dX9_goHour_97 : decode cX9_goHour 97 = .ok (.aload_n 1, 1) := by decide +kernel
theorem dX9_goHour_98 : decode cX9_goHour 98 = .ok (.aload_n 1, 1) := by decide +kernel
theorem dX9_goHour_99 : decode cX9_goHour 99 = .ok (.bipush 8, 2) := by decide +kernel
theorem dX9_goHour_101 : decode cX9_goHour 101 = .ok (.iload 7, 2) := by decide +kernel
theorem dX9_goHour_103 : decode cX9_goHour 103 = .ok (.iadd, 1) := by decide +kernel
theorem dX9_goHour_104 : decode cX9_goHour 104 = .ok (.iaload, 1) := by decide +kernel
theorem dX9_goHour_105 : decode cX9_goHour 105 = .ok (.iaload, 1) := by decide +kernel
theorem dX9_goHour_106 : decode cX9_goHour 106 = .ok (.iastore, 1) := by decide +kernel
theorem dX9_goHour_107 : decode cX9_goHour 107 = .ok (.goto 115, 3) := by decide +kernel
theorem dX9_goHour_110 : decode cX9_goHour 110 = .ok (.aload_n 1, 1) := by decide +kernel
theorem dX9_goHour_111 : decode cX9_goHour 111 = .ok (.bipush 13, 2) := by decide +kernel
theorem dX9_goHour_113 : decode cX9_goHour 113 = .ok (.iload 7, 2) := by decide +kernel
theorem dX9_goHour_115 : decode cX9_goHour 115 = .ok (.iadd, 1) := by decide +kernel
theorem dX9_goHour_116 : decode cX9_goHour 116 = .ok (.iaload, 1) := by decide +kernel
theorem dX9_goHour_117 : decode cX9_goHour 117 = .ok (.iload 4, 2) := by decide +kernel
theorem dX9_goHour_119 : decode cX9_goHour 119 = .ok (.if_icmp .ne 103, 3) := by decide +kernel
theorem dX9_goHour_122 : decode cX9_goHour 122 = .ok (.aload_n 1, 1) := by decide +kernel
theorem dX9_goHour_123 : decode cX9_goHour 123 = .ok (.bipush 18, 2) := by decide +kernel
theorem dX9_goHour_125 : decode cX9_goHour 125 = .ok (.iaload, 1) := by decide +kernel
theorem dX9_goHour_126 : decode cX9_goHour 126 = .ok (.iload 7, 2) := by decide +kernel
theorem dX9_goHour_128 : decode cX9_goHour 128 = .ok (.invokestatic 89, 3) := by decide +kernel
theorem dX9_goHour_131 : decode cX9_goHour 131 = .ok (.ifCond .ne 27, 3) := by decide +kernel
theorem dX9_goHour_134 : decode cX9_goHour 134 = .ok (.aload_n 0, 1) := by decide +kernel
theorem dX9_goHour_135 : decode cX9_goHour 135 = .ok (.getfield 23, 3) := by decide +kernel
theorem dX9_goHour_138 : decode cX9_goHour 138 = .ok (.iconst 3, 1) := by decide +kernel
theorem dX9_goHour_139 : decode cX9_goHour 139 = .ok (.iload 7, 2) := by decide +kernel
theorem dX9_goHour_141 : decode cX9_goHour 141 = .ok (.imul, 1) := by decide +kernel
theorem dX9_goHour_142 : decode cX9_goHour 142 = .ok (.iconst 2, 1) := by decide +kernel
theorem dX9_goHour_143 : decode cX9_goHour 143 = .ok (.iadd, 1) := by decide +kernel
theorem dX9_goHour_144 : decode cX9_goHour 144 = .ok (.iaload, 1) := by decide +kernel
theorem dX9_goHour_145 : decode cX9_goHour 145 = .ok (.iconst 1, 1) := by decide +kernel
theorem dX9_goHour_146 : decode cX9_goHour 146 = .ok (.if_icmp .eq 8, 3) := by decide +kernel
theorem dX9_goHour_149 : decode cX9_goHour 149 = .ok (.iload 5, 2) := by decide +kernel
theorem dX9_goHour_151 : decode cX9_goHour 151 = .ok (.ifCond .eq 7, 3) := by decide +kernel
theorem dX9_goHour_154 : decode cX9_goHour 154 = .ok (.iconst 1, 1) := by decide +kernel
theorem dX9_goHour_155 : decode cX9_goHour 155 = .ok (.goto 4, 3) := by decide +kernel
theorem dX9_goHour_158 : decode cX9_goHour 158 = .ok (.iconst 0, 1) := by decide +kernel
theorem dX9_goHour_159 : decode cX9_goHour 159 = .ok (.istore 8, 2) := by decide +kernel
theorem dX9_goHour_161 : decode cX9_goHour 161 = .ok (.aload_n 1, 1) := by decide +kernel
theorem dX9_goHour_162 : decode cX9_goHour 162 = .ok (.bipush 8, 2) := by decide +kernel
theorem dX9_goHour_164 : decode cX9_goHour 164 = .ok (.iload 7, 2) := by decide +kernel
theorem dX9_goHour_166 : decode cX9_goHour 166 = .ok (.iadd, 1) := by decide +kernel
theorem dX9_goHour_167 : decode cX9_goHour 167 = .ok (.iaload, 1) := by decide +kernel
theorem dX9_goHour_168 : decode cX9_goHour 168 = .ok (.bipush (-9), 2) := by decide +kernel
theorem dX9_goHour_170 : decode cX9_goHour 170 = .ok (.if_icmp .eq 8, 3) := by decide +kernel
theorem dX9_goHour_173 : decode cX9_goHour 173 = .ok (.iload 8, 2) := by decide +kernel
theorem dX9_goHour_175 : decode cX9_goHour 175 = .ok (.ifCond .eq 47, 3) := by decide +kernel
theorem dX9_goHour_178 : decode cX9_goHour 178 = .ok (.aload_n 1, 1) := by decide +kernel
theorem dX9_goHour_179 : decode cX9_goHour 179 = .ok (.bipush 19, 2) := by decide +kernel
theorem dX9_goHour_181 : decode cX9_goHour 181 = .ok (.iload 7, 2) := by decide +kernel
theorem dX9_goHour_183 : decode cX9_goHour 183 = .ok (.iadd, 1) := by decide +kernel
theorem dX9_goHour_184 : decode cX9_goHour 184 = .ok (.iconst 3, 1) := by decide +kernel
theorem dX9_goHour_185 : decode cX9_goHour 185 = .ok (.iastore, 1) := by decide +kernel
theorem dX9_goHour_186 : decode cX9_goHour 186 = .ok (.iload 6, 2) := by decide +kernel
theorem dX9_goHour_188 : decode cX9_goHour 188 = .ok (.iconst 1, 1) := by decide +kernel
theorem dX9_goHour_189 : decode cX9_goHour 189 = .ok (.iload 7, 2) := by decide +kernel
theorem dX9_goHour_191 : decode cX9_goHour 191 = .ok (.ishl, 1) := by decide +kernel
theorem dX9_goHour_192 : decode cX9_goHour 192 = .ok (.ior, 1) := by decide +kernel
theorem dX9_goHour_193 : decode cX9_goHour 193 = .ok (.istore 6, 2) := by decide +kernel
theorem dX9_goHour_195 : decode cX9_goHour 195 = .ok (.aload_n 1, 1) := by decide +kernel
theorem dX9_goHour_196 : decode cX9_goHour 196 = .ok (.bipush 8, 2) := by decide +kernel
theorem dX9_goHour_198 : decode cX9_goHour 198 = .ok (.iload 7, 2) := by decide +kernel
theorem dX9_goHour_200 : decode cX9_goHour 200 = .ok (.iadd, 1) := by decide +kernel
theorem dX9_goHour_201 : decode cX9_goHour 201 = .ok (.iaload, 1) := by decide +kernel
theorem dX9_goHour_202 : decode cX9_goHour 202 = .ok (.bipush (-9), 2) := by decide +kernel
theorem dX9_goHour_204 : decode cX9_goHour 204 = .ok (.if_icmp .eq 18, 3) := by decide +kernel
theorem dX9_goHour_207 : decode cX9_goHour 207 = .ok (.aload_n 1, 1) := by decide +kernel
theorem dX9_goHour_208 : decode cX9_goHour 208 = .ok (.iconst 4, 1) := by decide +kernel
theorem dX9_goHour_209 : decode cX9_goHour 209 = .ok (.aload_n 1, 1) := by decide +kernel
theorem dX9_goHour_210 : decode cX9_goHour 210 = .ok (.bipush 8, 2) := by decide +kernel
theorem dX9_goHour_212 : decode cX9_goHour 212 = .ok (.iload 7, 2) := by decide +kernel
theorem dX9_goHour_214 : decode cX9_goHour 214 = .ok (.iadd, 1) := by decide +kernel
theorem dX9_goHour_215 : decode cX9_goHour 215 = .ok (.iaload, 1) := by decide +kernel
theorem dX9_goHour_216 : decode cX9_goHour 216 = .ok (.iadd, 1) := by decide +kernel
theorem dX9_goHour_217 : decode cX9_goHour 217 = .ok (.dup2, 1) := by decide +kernel
theorem dX9_goHour_218 : decode cX9_goHour 218 = .ok (.iaload, 1) := by decide +kernel
theorem dX9_goHour_219 : decode cX9_goHour 219 = .ok (.iconst 2, 1) := by decide +kernel
theorem dX9_goHour_220 : decode cX9_goHour 220 = .ok (.iadd, 1) := by decide +kernel
theorem dX9_goHour_221 : decode cX9_goHour 221 = .ok (.iastore, 1) := by decide +kernel
theorem dX9_goHour_222 : decode cX9_goHour 222 = .ok (.iinc 7 1, 3) := by decide +kernel
theorem dX9_goHour_225 : decode cX9_goHour 225 = .ok (.goto (-186), 3) := by decide +kernel
theorem dX9_goHour_228 : decode cX9_goHour 228 = .ok (.aload_n 1, 1) := by decide +kernel
theorem dX9_goHour_229 : decode cX9_goHour 229 = .ok (.bipush 24, 2) := by decide +kernel
theorem dX9_goHour_231 : decode cX9_goHour 231 = .ok (.dup2, 1) := by decide +kernel
theorem dX9_goHour_232 : decode cX9_goHour 232 = .ok (.iaload, 1) := by decide +kernel
theorem dX9_goHour_233 : decode cX9_goHour 233 = .ok (.iconst 1, 1) := by decide +kernel
theorem dX9_goHour_234 : decode cX9_goHour 234 = .ok (.iadd, 1) := by decide +kernel
theorem dX9_goHour_235 : decode cX9_goHour 235 = .ok (.iastore, 1) := by decide +kernel
theorem dX9_goHour_236 : decode cX9_goHour 236 = .ok (.iload 6, 2) := by decide +kernel
theorem dX9_goHour_238 : decode cX9_goHour 238 = .ok (.ireturn, 1) := by decide +kernel
theorem dX9_goLead_0 : decode cX9_goLead 0 = .ok (.aload_n 1, 1) := by decide +kernel
theorem dX9_goLead_1 : decode cX9_goLead 1 = .ok (.iload_n 2, 1) := by decide +kernel
theorem dX9_goLead_2 : decode cX9_goLead 2 = .ok (.aload_n 1, 1) := by decide +kernel
theorem dX9_goLead_3 : decode cX9_goLead 3 = .ok (.iload_n 2, 1) := by decide +kernel
theorem dX9_goLead_4 : decode cX9_goLead 4 = .ok (.iaload, 1) := by decide +kernel
theorem dX9_goLead_5 : decode cX9_goLead 5 = .ok (.iload_n 3, 1) := by decide +kernel
theorem dX9_goLead_6 : decode cX9_goLead 6 = .ok (.iconst 1, 1) := by decide +kernel
theorem dX9_goLead_7 : decode cX9_goLead 7 = .ok (.if_icmp .ne 7, 3) := by decide +kernel
theorem dX9_goLead_10 : decode cX9_goLead 10 = .ok (.iconst 1, 1) := by decide +kernel
theorem dX9_goLead_11 : decode cX9_goLead 11 = .ok (.goto 13, 3) := by decide +kernel
theorem dX9_goLead_14 : decode cX9_goLead 14 = .ok (.iload_n 3, 1) := by decide +kernel
theorem dX9_goLead_15 : decode cX9_goLead 15 = .ok (.iconst 2, 1) := by decide +kernel
theorem dX9_goLead_16 : decode cX9_goLead 16 = .ok (.if_icmp .ne 7, 3) := by decide +kernel
theorem dX9_goLead_19 : decode cX9_goLead 19 = .ok (.iconst 4, 1) := by decide +kernel
theorem dX9_goLead_20 : decode cX9_goLead 20 = .ok (.goto 4, 3) := by decide +kernel
theorem dX9_goLead_23 : decode cX9_goLead 23 = .ok (.iconst 0, 1) := by decide +kernel
theorem dX9_goLead_24 : decode cX9_goLead 24 = .ok (.iadd, 1) := by decide +kernel
theorem dX9_goLead_25 : decode cX9_goLead 25 = .ok (.iconst 5, 1) := by decide +kernel
theorem dX9_goLead_26 : decode cX9_goLead 26 = .ok (.irem, 1) := by decide +kernel
theorem dX9_goLead_27 : decode cX9_goLead 27 = .ok (.iastore, 1) := by decide +kernel
theorem dX9_goLead_28 : decode cX9_goLead 28 = .ok (.iconst 0, 1) := by decide +kernel
theorem dX9_goLead_29 : decode cX9_goLead 29 = .ok (.istore 4, 2) := by decide +kernel
theorem dX9_goLead_31 : decode cX9_goLead 31 = .ok (.iload 4, 2) := by decide +kernel
theorem dX9_goLead_33 : decode cX9_goLead 33 = .ok (.aload_n 0, 1) := by decide +kernel
theorem dX9_goLead_34 : decode cX9_goLead 34 = .ok (.getfield 76, 3) := by decide +kernel
theorem dX9_goLead_37 : decode cX9_goLead 37 = .ok (.if_icmp .ge 40, 3) := by decide +kernel
theorem dX9_goLead_40 : decode cX9_goLead 40 = .ok (.aload_n 1, 1) := by decide +kernel
theorem dX9_goLead_41 : decode cX9_goLead 41 = .ok (.bipush 8, 2) := by decide +kernel
theorem dX9_goLead_43 : decode cX9_goLead 43 = .ok (.iload 4, 2) := by decide +kernel
theorem dX9_goLead_45 : decode cX9_goLead 45 = .ok (.iadd, 1) := by decide +kernel
theorem dX9_goLead_46 : decode cX9_goLead 46 = .ok (.iaload, 1) := by decide +kernel
theorem dX9_goLead_47 : decode cX9_goLead 47 = .ok (.iload_n 2, 1) := by decide +kernel
theorem dX9_goLead_48 : decode cX9_goLead 48 = .ok (.if_icmp .ne 23, 3) := by decide +kernel
theorem dX9_goLead_51 : decode cX9_goLead 51 = .ok (.aload_n 1, 1) := by decide +kernel
theorem dX9_goLead_52 : decode cX9_goLead 52 = .ok (.bipush 19, 2) := by decide +kernel
theorem dX9_goLead_54 : decode cX9_goLead 54 = .ok (.iload 4, 2) := by decide +kernel
theorem dX9_goLead_56 : decode cX9_goLead 56 = .ok (.iadd, 1) := by decide +kernel
theorem dX9_goLead_57 : decode cX9_goLead 57 = .ok (.iaload, 1) := by decide +kernel
theorem dX9_goLead_58 : decode cX9_goLead 58 = .ok (.ifCond .ne 13, 3) := by decide +kernel
theorem dX9_goLead_61 : decode cX9_goLead 61 = .ok (.aload_n 1, 1) := by decide +kernel
theorem dX9_goLead_62 : decode cX9_goLead 62 = .ok (.bipush 13, 2) := by decide +kernel
theorem dX9_goLead_64 : decode cX9_goLead 64 = .ok (.iload 4, 2) := by decide +kernel
theorem dX9_goLead_66 : decode cX9_goLead 66 = .ok (.iadd, 1) := by decide +kernel
theorem dX9_goLead_67 : decode cX9_goLead 67 = .ok (.aload_n 1, 1) := by decide +kernel
theorem dX9_goLead_68 : decode cX9_goLead 68 = .ok (.iload_n 2, 1) := by decide +kernel
theorem dX9_goLead_69 : decode cX9_goLead 69 = .ok (.iaload, 1) := by decide +kernel
theorem dX9_goLead_70 : decode cX9_goLead 70 = .ok (.iastore, 1) := by decide +kernel
theorem dX9_goLead_71 : decode cX9_goLead 71 = .ok (.iinc 4 1, 3) := by decide +kernel
theorem dX9_goLead_74 : decode cX9_goLead 74 = .ok (.goto (-43), 3) := by decide +kernel
theorem dX9_goLead_77 : decode cX9_goLead 77 = .ok (.return_, 1) := by decide +kernel
theorem dX9_goes_0 : decode cX9_goes 0 = .ok (.aload_n 0, 1) := by decide +kernel
theorem dX9_goes_1 : decode cX9_goes 1 = .ok (.invokevirtual 182, 3) := by decide +kernel
theorem dX9_goes_4 : decode cX9_goes 4 = .ok (.aload_n 0, 1) := by decide +kernel
theorem dX9_goes_5 : decode cX9_goes 5 = .ok (.aload_n 0, 1) := by decide +kernel
theorem dX9_goes_6 : decode cX9_goes 6 = .ok (.getfield 35, 3) := by decide +kernel
theorem dX9_goes_9 : decode cX9_goes 9 = .ok (.iload_n 1, 1) := by decide +kernel
theorem dX9_goes_10 : decode cX9_goes 10 = .ok (.invokevirtual 157, 3) := by decide +kernel
theorem dX9_goes_13 : decode cX9_goes 13 = .ok (.istore 5, 2) := by decide +kernel
theorem dX9_goes_15 : decode cX9_goes 15 = .ok (.iload 4, 2) := by decide +kernel
theorem dX9_goes_17 : decode cX9_goes 17 = .ok (.ifCond .eq 11, 3) := by decide +kernel
theorem dX9_goes_20 : decode cX9_goes 20 = .ok (.aload_n 0, 1) := by decide +kernel
theorem dX9_goes_21 : decode cX9_goes 21 = .ok (.iload_n 1, 1) := by decide +kernel
theorem dX9_goes_22 : decode cX9_goes 22 = .ok (.invokevirtual 185, 3) := by decide +kernel
theorem dX9_goes_25 : decode cX9_goes 25 = .ok (.ifCond .eq 7, 3) := by decide +kernel
theorem dX9_goes_28 : decode cX9_goes 28 = .ok (.iconst 1, 1) := by decide +kernel
theorem dX9_goes_29 : decode cX9_goes 29 = .ok (.goto 4, 3) := by decide +kernel
theorem dX9_goes_32 : decode cX9_goes 32 = .ok (.iconst 0, 1) := by decide +kernel
theorem dX9_goes_33 : decode cX9_goes 33 = .ok (.istore 6, 2) := by decide +kernel
theorem dX9_goes_35 : decode cX9_goes 35 = .ok (.iconst 0, 1) := by decide +kernel
theorem dX9_goes_36 : decode cX9_goes 36 = .ok (.istore 7, 2) := by decide +kernel
theorem dX9_goes_38 : decode cX9_goes 38 = .ok (.iload 7, 2) := by decide +kernel
theorem dX9_goes_40 : decode cX9_goes 40 = .ok (.iload_n 2, 1) := by decide +kernel
theorem dX9_goes_41 : decode cX9_goes 41 = .ok (.if_icmp .ge 88, 3) := by decide +kernel
theorem dX9_goes_44 : decode cX9_goes 44 = .ok (.iload 6, 2) := by decide +kernel
theorem dX9_goes_46 : decode cX9_goes 46 = .ok (.ifCond .eq 83, 3) := by decide +kernel
theorem dX9_goes_49 : decode cX9_goes 49 = .ok (.aload_n 0, 1) := by decide +kernel
theorem dX9_goes_50 : decode cX9_goes 50 = .ok (.aload_n 0, 1) := by decide +kernel
theorem dX9_goes_51 : decode cX9_goes 51 = .ok (.getfield 38, 3) := by decide +kernel
theorem dX9_goes_54 : decode cX9_goes 54 = .ok (.iload_n 1, 1) := by decide +kernel
theorem dX9_goes_55 : decode cX9_goes 55 = .ok (.iload_n 3, 1) := by decide +kernel
theorem dX9_goes_56 : decode cX9_goes 56 = .ok (.iconst 3, 1) := by decide +kernel
theorem dX9_goes_57 : decode cX9_goes 57 = .ok (.iload_n 2, 1) := by decide +kernel
theorem dX9_goes_58 : decode cX9_goes 58 = .ok (.iconst 1, 1) := by decide +kernel
theorem dX9_goes_59 : decode cX9_goes 59 = .ok (.isub, 1) := by decide +kernel
theorem dX9_goes_60 : decode cX9_goes 60 = .ok (.iload 7, 2) := by decide +kernel
theorem dX9_goes_62 : decode cX9_goes 62 = .ok (.isub, 1) := by decide +kernel
theorem dX9_goes_63 : decode cX9_goes 63 = .ok (.invokestatic 188, 3) := by decide +kernel
theorem dX9_goes_66 : decode cX9_goes 66 = .ok (.idiv, 1) := by decide +kernel
theorem dX9_goes_67 : decode cX9_goes 67 = .ok (.iconst 3, 1) := by decide +kernel
theorem dX9_goes_68 : decode cX9_goes 68 = .ok (.irem, 1) := by decide +kernel
theorem dX9_goes_69 : decode cX9_goes 69 = .ok (.invokevirtual 169, 3) := by decide +kernel
theorem dX9_goes_72 : decode cX9_goes 72 = .ok (.iload 4, 2) := by decide +kernel
theorem dX9_goes_74 : decode cX9_goes 74 = .ok (.ifCond .eq 11, 3) := by decide +kernel
theorem dX9_goes_77 : decode cX9_goes 77 = .ok (.aload_n 0, 1) := by decide +kernel
theorem dX9_goes_78 : decode cX9_goes 78 = .ok (.iload_n 1, 1) := by decide +kernel
theorem dX9_goes_79 : decode cX9_goes 79 = .ok (.invokevirtual 185, 3) := by decide +kernel
theorem dX9_goes_82 : decode cX9_goes 82 = .ok (.ifCond .eq 7, 3) := by decide +kernel
theorem dX9_goes_85 : decode cX9_goes 85 = .ok (.iconst 1, 1) := by decide +kernel
theorem dX9_goes_86 : decode cX9_goes 86 = .ok (.goto 4, 3) := by decide +kernel
theorem dX9_goes_89 : decode cX9_goes 89 = .ok (.iconst 0, 1) := by decide +kernel
theorem dX9_goes_90 : decode cX9_goes 90 = .ok (.istore 6, 2) := by decide +kernel
theorem dX9_goes_92 : decode cX9_goes 92 = .ok (.aload_n 0, 1) := by decide +kernel
theorem dX9_goes_93 : decode cX9_goes 93 = .ok (.aload_n 0, 1) := by decide +kernel
theorem dX9_goes_94 : decode cX9_goes 94 = .ok (.getfield 38, 3) := by decide +kernel
theorem dX9_goes_97 : decode cX9_goes 97 = .ok (.aload_n 0, 1) := by decide +kernel
theorem dX9_goes_98 : decode cX9_goes 98 = .ok (.getfield 13, 3) := by decide +kernel
theorem dX9_goes_101 : decode cX9_goes 101 = .ok (.iconst 0, 1) := by decide +kernel
theorem dX9_goes_102 : decode cX9_goes 102 = .ok (.invokevirtual 176, 3) := by decide +kernel
theorem dX9_goes_105 : decode cX9_goes 105 = .ok (.iload 5, 2) := by decide +kernel
theorem dX9_goes_107 : decode cX9_goes 107 = .ok (.iand, 1) := by decide +kernel
theorem dX9_goes_108 : decode cX9_goes 108 = .ok (.ifCond .ne 12, 3) := by decide +kernel
theorem dX9_goes_111 : decode cX9_goes 111 = .ok (.iload 6, 2) := by decide +kernel
theorem dX9_goes_113 : decode cX9_goes 113 = .ok (.ifCond .eq 7, 3) := by decide +kernel
theorem dX9_goes_116 : decode cX9_goes 116 = .ok (.iconst 1, 1) := by decide +kernel
theorem dX9_goes_117 : decode cX9_goes 117 = .ok (.goto 4, 3) := by decide +kernel
theorem dX9_goes_120 : decode cX9_goes 120 = .ok (.iconst 0, 1) := by decide +kernel
theorem dX9_goes_121 : decode cX9_goes 121 = .ok (.istore 6, 2) := by decide +kernel
theorem dX9_goes_123 : decode cX9_goes 123 = .ok (.iinc 7 1, 3) := by decide +kernel
theorem dX9_goes_126 : decode cX9_goes 126 = .ok (.goto (-88), 3) := by decide +kernel
theorem dX9_goes_129 : decode cX9_goes 129 = .ok (.iload 6, 2) := by decide +kernel
theorem dX9_goes_131 : decode cX9_goes 131 = .ok (.ireturn, 1) := by decide +kernel
theorem dX9_has_0 : decode cX9_has 0 = .ok (.iload_n 0, 1) := by decide +kernel
theorem dX9_has_1 : decode cX9_has 1 = .ok (.iload_n 1, 1) := by decide +kernel
theorem dX9_has_2 : decode cX9_has 2 = .ok (.ishr, 1) := by decide +kernel
theorem dX9_has_3 : decode cX9_has 3 = .ok (.iconst 1, 1) := by decide +kernel
theorem dX9_has_4 : decode cX9_has 4 = .ok (.iand, 1) := by decide +kernel
theorem dX9_has_5 : decode cX9_has 5 = .ok (.iconst 1, 1) := by decide +kernel
theorem dX9_has_6 : decode cX9_has 6 = .ok (.if_icmp .ne 7, 3) := by decide +kernel
theorem dX9_has_9 : decode cX9_has 9 = .ok (.iconst 1, 1) := by decide +kernel
theorem dX9_has_10 : decode cX9_has 10 = .ok (.goto 4, 3) := by decide +kernel
theorem dX9_has_13 : decode cX9_has 13 = .ok (.iconst 0, 1) := by decide +kernel
theorem dX9_has_14 : decode cX9_has 14 = .ok (.ireturn, 1) := by decide +kernel
theorem dX9_heir_0 : decode cX9_heir 0 = .ok (.aload_n 0, 1) := by decide +kernel
theorem dX9_heir_1 : decode cX9_heir 1 = .ok (.iconst 0, 1) := by decide +kernel
theorem dX9_heir_2 : decode cX9_heir 2 = .ok (.putfield 66, 3) := by decide +kernel
theorem dX9_heir_5 : decode cX9_heir 5 = .ok (.aload_n 0, 1) := by decide +kernel
theorem dX9_heir_6 : decode cX9_heir 6 = .ok (.iload_n 1, 1) := by decide +kernel
theorem dX9_heir_7 : decode cX9_heir 7 = .ok (.invokevirtual 153, 3) := by decide +kernel
theorem dX9_heir_10 : decode cX9_heir 10 = .ok (.ifCond .eq 5, 3) := by decide +kernel
theorem dX9_heir_13 : decode cX9_heir 13 = .ok (.iconst (-1), 1) := by decide +kernel
theorem dX9_heir_14 : decode cX9_heir 14 = .ok (.ireturn, 1) := by decide +kernel
theorem dX9_heir_15 : decode cX9_heir 15 = .ok (.iconst 0, 1) := by decide +kernel
theorem dX9_heir_16 : decode cX9_heir 16 = .ok (.istore_n 2, 1) := by decide +kernel
theorem dX9_heir_17 : decode cX9_heir 17 = .ok (.iload_n 2, 1) := by decide +kernel
theorem dX9_heir_18 : decode cX9_heir 18 = .ok (.iconst 4, 1) := by decide +kernel
theorem dX9_heir_19 : decode cX9_heir 19 = .ok (.if_icmp .ge 27, 3) := by decide +kernel
theorem dX9_heir_22 : decode cX9_heir 22 = .ok (.aload_n 0, 1) := by decide +kernel
theorem dX9_heir_23 : decode cX9_heir 23 = .ok (.getfield 60, 3) := by decide +kernel
theorem dX9_heir_26 : decode cX9_heir 26 = .ok (.iload_n 2, 1) := by decide +kernel
theorem dX9_heir_27 : decode cX9_heir 27 = .ok (.iload_n 2, 1) := by decide +kernel
theorem dX9_heir_28 : decode cX9_heir 28 = .ok (.iload_n 1, 1) := by decide +kernel
theorem dX9_heir_29 : decode cX9_heir 29 = .ok (.if_icmp .ne 7, 3) := by decide +kernel
theorem dX9_heir_32 : decode cX9_heir 32 = .ok (.iconst 0, 1) := by decide +kernel
theorem dX9_heir_33 : decode cX9_heir 33 = .ok (.goto 6, 3) := by decide +kernel
theorem dX9_heir_36 : decode cX9_heir 36 = .ok (.sipush 9999, 3) := by decide +kernel
theorem dX9_heir_39 : decode cX9_heir 39 = .ok (.iastore, 1) := by decide +kernel
theorem dX9_heir_40 : decode cX9_heir 40 = .ok (.iinc 2 1, 3) := by decide +kernel
theorem dX9_heir_43 : decode cX9_heir 43 = .ok (.goto (-26), 3) := by decide +kernel
theorem dX9_heir_46 : decode cX9_heir 46 = .ok (.iconst 0, 1) := by decide +kernel
theorem dX9_heir_47 : decode cX9_heir 47 = .ok (.istore_n 2, 1) := by decide +kernel
theorem dX9_heir_48 : decode cX9_heir 48 = .ok (.iload_n 2, 1) := by decide +kernel
theorem dX9_heir_49 : decode cX9_heir 49 = .ok (.iconst 4, 1) := by decide +kernel
theorem dX9_heir_50 : decode cX9_heir 50 = .ok (.if_icmp .ge 129, 3) := by decide +kernel
theorem dX9_heir_53 : decode cX9_heir 53 = .ok (.iconst 0, 1) := by decide +kernel
theorem dX9_heir_54 : decode cX9_heir 54 = .ok (.istore_n 3, 1) := by decide +kernel
theorem dX9_heir_55 : decode cX9_heir 55 = .ok (.iload_n 3, 1) := by decide +kernel
theorem dX9_heir_56 : decode cX9_heir 56 = .ok (.aload_n 0, 1) := by decide +kernel
theorem dX9_heir_57 : decode cX9_heir 57 = .ok (.getfield 69, 3) := by decide +kernel
theorem dX9_heir_60 : decode cX9_heir 60 = .ok (.if_icmp .ge 113, 3) := by decide +kernel
theorem dX9_heir_63 : decode cX9_heir 63 = .ok (.aload_n 0, 1) := by decide +kernel
theorem dX9_heir_64 : decode cX9_heir 64 = .ok (.getfield 20, 3) := by decide +kernel
theorem dX9_heir_67 : decode cX9_heir 67 = .ok (.iconst 4, 1) := by decide +kernel
theorem dX9_heir_68 : decode cX9_heir 68 = .ok (.iload_n 3, 1) := by decide +kernel
theorem dX9_heir_69 : decode cX9_heir 69 = .ok (.imul, 1) := by decide +kernel
theorem dX9_heir_70 : decode cX9_heir 70 = .ok (.iconst 3, 1) := by decide +kernel
theorem dX9_heir_71 : decode cX9_heir 71 = .ok (.iadd, 1) := by decide +kernel
theorem dX9_heir_72 : decode cX9_heir 72 = .ok (.iaload, 1) := by decide +kernel
theorem dX9_heir_73 : decode cX9_heir 73 = .ok (.istore 4, 2) := by decide +kernel
theorem dX9_heir_75 : decode cX9_heir 75 = .ok (.iload 4, 2) := by decide +kernel
theorem dX9_heir_77 : decode cX9_heir 77 = .ok (.bipush (-9), 2) := by decide +kernel
theorem dX9_heir_79 : decode cX9_heir 79 = .ok (.if_icmp .eq 88, 3) := by decide +kernel
theorem dX9_heir_82 : decode cX9_heir 82 = .ok (.aload_n 0, 1) := by decide +kernel
theorem dX9_heir_83 : decode cX9_heir 83 = .ok (.getfield 60, 3) := by decide +kernel
theorem dX9_heir_86 : decode cX9_heir 86 = .ok (.iload_n 3, 1) := by decide +kernel
theorem dX9_heir_87 : decode cX9_heir 87 = .ok (.aload_n 0, 1) := by decide +kernel
theorem dX9_heir_88 : decode cX9_heir 88 = .ok (.getfield 60, 3) := by decide +kernel
theorem dX9_heir_91 : decode cX9_heir 91 = .ok (.iload 4, 2) := by decide +kernel
theorem dX9_heir_93 : decode cX9_heir 93 = .ok (.iaload, 1) := by decide +kernel
theorem dX9_heir_94 : decode cX9_heir 94 = .ok (.iconst 1, 1) := by decide +kernel
theorem dX9_heir_95 : decode cX9_heir 95 = .ok (.iadd, 1) := by decide +kernel
theorem dX9_heir_96 : decode cX9_heir 96 = .ok (.aload_n 0, 1) := by decide +kernel
theorem dX9_heir_97 : decode cX9_heir 97 = .ok (.getfield 60, 3) := by decide +kernel
theorem dX9_heir_100 : decode cX9_heir 100 = .ok (.iload_n 3, 1) := by decide +kernel
theorem dX9_heir_101 : decode cX9_heir 101 = .ok (.iaload, 1) := by decide +kernel
theorem dX9_heir_102 : decode cX9_heir 102 = .ok (.if_icmp .ge 15, 3) := by decide +kernel
theorem dX9_heir_105 : decode cX9_heir 105 = .ok (.aload_n 0, 1) := by decide +kernel
theorem dX9_heir_106 : decode cX9_heir 106 = .ok (.getfield 60, 3) := by decide +kernel
theorem dX9_heir_109 : decode cX9_heir 109 = .ok (.iload 4, 2) := by decide +kernel
theorem dX9_heir_111 : decode cX9_heir 111 = .ok (.iaload, 1) := by decide +kernel
theorem dX9_heir_112 : decode cX9_heir 112 = .ok (.iconst 1, 1) := by decide +kernel
theorem dX9_heir_113 : decode cX9_heir 113 = .ok (.iadd, 1) := by decide +kernel
theorem dX9_heir_114 : decode cX9_heir 114 = .ok (.goto 9, 3) := by decide +kernel
theorem dX9_heir_117 : decode cX9_heir 117 = .ok (.aload_n 0, 1) := by decide +kernel
theorem dX9_heir_118 : decode cX9_heir 118 = .ok (.getfield 60, 3) := by decide +kernel
theorem dX9_heir_121 : decode cX9_heir 121 = .ok (.iload_n 3, 1) := by decide +kernel
theorem dX9_heir_122 : decode cX9_heir 122 = .ok (.iaload, 1) := by decide +kernel
theorem dX9_heir_123 : decode cX9_heir 123 = .ok (.iastore, 1) := by decide +kernel
theorem dX9_heir_124 : decode cX9_heir 124 = .ok (.aload_n 0, 1) := by decide +kernel
theorem dX9_heir_125 : decode cX9_heir 125 = .ok (.getfield 60, 3) := by decide +kernel
theorem dX9_heir_128 : decode cX9_heir 128 = .ok (.iload 4, 2) := by decide +kernel
theorem dX9_heir_130 : decode cX9_heir 130 = .ok (.aload_n 0, 1) := by decide +kernel
theorem dX9_heir_131 : decode cX9_heir 131 = .ok (.getfield 60, 3) := by decide +kernel
theorem dX9_heir_134 : decode cX9_heir 134 = .ok (.iload_n 3, 1) := by decide +kernel
theorem dX9_heir_135 : decode cX9_heir 135 = .ok (.iaload, 1) := by decide +kernel
theorem dX9_heir_136 : decode cX9_heir 136 = .ok (.iconst 1, 1) := by decide +kernel
theorem dX9_heir_137 : decode cX9_heir 137 = .ok (.iadd, 1) := by decide +kernel
theorem dX9_heir_138 : decode cX9_heir 138 = .ok (.aload_n 0, 1) := by decide +kernel
theorem dX9_heir_139 : decode cX9_heir 139 = .ok (.getfield 60, 3) := by decide +kernel
theorem dX9_heir_142 : decode cX9_heir 142 = .ok (.iload 4, 2) := by decide +kernel
theorem dX9_heir_144 : decode cX9_heir 144 = .ok (.iaload, 1) := by decide +kernel
theorem dX9_heir_145 : decode cX9_heir 145 = .ok (.if_icmp .ge 14, 3) := by decide +kernel
theorem dX9_heir_148 : decode cX9_heir 148 = .ok (.aload_n 0, 1) := by decide +kernel
theorem dX9_heir_149 : decode cX9_heir 149 = .ok (.getfield 60, 3) := by decide +kernel
theorem dX9_heir_152 : decode cX9_heir 152 = .ok (.iload_n 3, 1) := by decide +kernel
theorem dX9_heir_153 : decode cX9_heir 153 = .ok (.iaload, 1) := by decide +kernel
theorem dX9_heir_154 : decode cX9_heir 154 = .ok (.iconst 1, 1) := by decide +kernel
theorem dX9_heir_155 : decode cX9_heir 155 = .ok (.iadd, 1) := by decide +kernel
theorem dX9_heir_156 : decode cX9_heir 156 = .ok (.goto 10, 3) := by decide +kernel
theorem dX9_heir_159 : decode cX9_heir 159 = .ok (.aload_n 0, 1) := by decide +kernel
theorem dX9_heir_160 : decode cX9_heir 160 = .ok (.getfield 60, 3) := by decide +kernel
theorem dX9_heir_163 : decode cX9_heir 163 = .ok (.iload 4, 2) := by decide +kernel
theorem dX9_heir_165 : decode cX9_heir 165 = .ok (.iaload, 1) := by decide +kernel
theorem dX9_heir_166 : decode cX9_heir 166 = .ok (.iastore, 1) := by decide +kernel
theorem dX9_heir_167 : decode cX9_heir 167 = .ok (.iinc 3 1, 3) := by decide +kernel
theorem dX9_heir_170 : decode cX9_heir 170 = .ok (.goto (-115), 3) := by decide +kernel
theorem dX9_heir_173 : decode cX9_heir 173 = .ok (.iinc 2 1, 3) := by decide +kernel
theorem dX9_heir_176 : decode cX9_heir 176 = .ok (.goto (-128), 3) := by decide +kernel
theorem dX9_heir_179 : decode cX9_heir 179 = .ok (.bipush (-9), 2) := by decide +kernel
theorem dX9_heir_181 : decode cX9_heir 181 = .ok (.istore_n 2, 1) := by decide +kernel
theorem dX9_heir_182 : decode cX9_heir 182 = .ok (.iconst 0, 1) := by decide +kernel
theorem dX9_heir_183 : decode cX9_heir 183 = .ok (.istore_n 3, 1) := by decide +kernel
theorem dX9_heir_184 : decode cX9_heir 184 = .ok (.iload_n 3, 1) := by decide +kernel
theorem dX9_heir_185 : decode cX9_heir 185 = .ok (.aload_n 0, 1) := by decide +kernel
theorem dX9_heir_186 : decode cX9_heir 186 = .ok (.getfield 69, 3) := by decide +kernel
theorem dX9_heir_189 : decode cX9_heir 189 = .ok (.if_icmp .ge 103, 3) := by decide +kernel
theorem dX9_heir_192 : decode cX9_heir 192 = .ok (.iload_n 3, 1) := by decide +kernel
theorem dX9_heir_193 : decode cX9_heir 193 = .ok (.iload_n 1, 1) := by decide +kernel
theorem dX9_heir_194 : decode cX9_heir 194 = .ok (.if_icmp .eq 92, 3) := by decide +kernel
theorem dX9_heir_197 : decode cX9_heir 197 = .ok (.aload_n 0, 1) := by decide +kernel
theorem dX9_heir_198 : decode cX9_heir 198 = .ok (.getfield 60, 3) := by decide +kernel
theorem dX9_heir_201 : decode cX9_heir 201 = .ok (.iload_n 3, 1) := by decide +kernel
theorem dX9_heir_202 : decode cX9_heir 202 = .ok (.iaload, 1) := by decide +kernel
theorem dX9_heir_203 : decode cX9_heir 203 = .ok (.sipush 9999, 3) := by decide +kernel
theorem dX9_heir_206 : decode cX9_heir 206 = .ok (.if_icmp .ge 80, 3) := by decide +kernel
theorem dX9_heir_209 : decode cX9_heir 209 = .ok (.iload_n 2, 1) := by decide +kernel
theorem dX9_heir_210 : decode cX9_heir 210 = .ok (.bipush (-9), 2) := by decide +kernel
theorem dX9_heir_212 : decode cX9_heir 212 = .ok (.if_icmp .eq 56, 3) := by decide +kernel
theorem dX9_heir_215 : decode cX9_heir 215 = .ok (.aload_n 0, 1) := by decide +kernel
theorem dX9_heir_216 : decode cX9_heir 216 = .ok (.getfield 60, 3) := by decide +kernel
theorem dX9_heir_219 : decode cX9_heir 219 = .ok (.iload_n 3, 1) := by decide +kernel
theorem dX9_heir_220 : decode cX9_heir 220 = .ok (.iaload, 1) := by decide +kernel
theorem dX9_heir_221 : decode cX9_heir 221 = .ok (.aload_n 0, 1) := by decide +kernel
theorem dX9_heir_222 : decode cX9_heir 222 = .ok (.getfield 60, 3) := by decide +kernel
theorem dX9_heir_225 : decode cX9_heir 225 = .ok (.iload_n 2, 1) := by decide +kernel
theorem dX9_heir_226 : decode cX9_heir 226 = .ok (.iaload, 1) := by decide +kernel
theorem dX9_heir_227 : decode cX9_heir 227 = .ok (.if_icmp .lt 41, 3) := by decide +kernel
theorem dX9_heir_230 : decode cX9_heir 230 = .ok (.aload_n 0, 1) := by decide +kernel
theorem dX9_heir_231 : decode cX9_heir 231 = .ok (.getfield 60, 3) := by decide +kernel
theorem dX9_heir_234 : decode cX9_heir 234 = .ok (.iload_n 3, 1) := by decide +kernel
theorem dX9_heir_235 : decode cX9_heir 235 = .ok (.iaload, 1) := by decide +kernel
theorem dX9_heir_236 : decode cX9_heir 236 = .ok (.aload_n 0, 1) := by decide +kernel
theorem dX9_heir_237 : decode cX9_heir 237 = .ok (.getfield 60, 3) := by decide +kernel
theorem dX9_heir_240 : decode cX9_heir 240 = .ok (.iload_n 2, 1) := by decide +kernel
theorem dX9_heir_241 : decode cX9_heir 241 = .ok (.iaload, 1) := by decide +kernel
theorem dX9_heir_242 : decode cX9_heir 242 = .ok (.if_icmp .ne 30, 3) := by decide +kernel
theorem dX9_heir_245 : decode cX9_heir 245 = .ok (.aload_n 0, 1) := by decide +kernel
theorem dX9_heir_246 : decode cX9_heir 246 = .ok (.getfield 20, 3) := by decide +kernel
theorem dX9_heir_249 : decode cX9_heir 249 = .ok (.iconst 4, 1) := by decide +kernel
theorem dX9_heir_250 : decode cX9_heir 250 = .ok (.iload_n 3, 1) := by decide +kernel
theorem dX9_heir_251 : decode cX9_heir 251 = .ok (.imul, 1) := by decide +kernel
theorem dX9_heir_252 : decode cX9_heir 252 = .ok (.iconst 1, 1) := by decide +kernel
theorem dX9_heir_253 : decode cX9_heir 253 = .ok (.iadd, 1) := by decide +kernel
theorem dX9_heir_254 : decode cX9_heir 254 = .ok (.iaload, 1) := by decide +kernel
theorem dX9_heir_255 : decode cX9_heir 255 = .ok (.aload_n 0, 1) := by decide +kernel
theorem dX9_heir_256 : decode cX9_heir 256 = .ok (.getfield 20, 3) := by decide +kernel
theorem dX9_heir_259 : decode cX9_heir 259 = .ok (.iconst 4, 1) := by decide +kernel
theorem dX9_heir_260 : decode cX9_heir 260 = .ok (.iload_n 2, 1) := by decide +kernel
theorem dX9_heir_261 : decode cX9_heir 261 = .ok (.imul, 1) := by decide +kernel
theorem dX9_heir_262 : decode cX9_heir 262 = .ok (.iconst 1, 1) := by decide +kernel
theorem dX9_heir_263 : decode cX9_heir 263 = .ok (.iadd, 1) := by decide +kernel
theorem dX9_heir_264 : decode cX9_heir 264 = .ok (.iaload, 1) := by decide +kernel
theorem dX9_heir_265 : decode cX9_heir 265 = .ok (.if_icmp .le 7, 3) := by decide +kernel
theorem dX9_heir_268 : decode cX9_heir 268 = .ok (.iconst 1, 1) := by decide +kernel
theorem dX9_heir_269 : decode cX9_heir 269 = .ok (.goto 4, 3) := by decide +kernel
theorem dX9_heir_272 : decode cX9_heir 272 = .ok (.iconst 0, 1) := by decide +kernel
theorem dX9_heir_273 : decode cX9_heir 273 = .ok (.istore 4, 2) := by decide +kernel
theorem dX9_heir_275 : decode cX9_heir 275 = .ok (.iload 4, 2) := by decide +kernel
theorem dX9_heir_277 : decode cX9_heir 277 = .ok (.ifCond .eq 7, 3) := by decide +kernel
theorem dX9_heir_280 : decode cX9_heir 280 = .ok (.iload_n 3, 1) := by decide +kernel
theorem dX9_heir_281 : decode cX9_heir 281 = .ok (.goto 4, 3) := by decide +kernel
theorem dX9_heir_284 : decode cX9_heir 284 = .ok (.iload_n 2, 1) := by decide +kernel
theorem dX9_heir_285 : decode cX9_heir 285 = .ok (.istore_n 2, 1) := by decide +kernel
theorem dX9_heir_286 : decode cX9_heir 286 = .ok (.iinc 3 1, 3) := by decide +kernel
theorem dX9_heir_289 : decode cX9_heir 289 = .ok (.goto (-105), 3) := by decide +kernel
theorem dX9_heir_292 : decode cX9_heir 292 = .ok (.iload_n 2, 1) := by decide +kernel
theorem dX9_heir_293 : decode cX9_heir 293 = .ok (.ireturn, 1) := by decide +kernel
theorem dX9_hour_0 : decode cX9_hour 0 = .ok (.aload_n 0, 1) := by decide +kernel
theorem dX9_hour_1 : decode cX9_hour 1 = .ok (.iconst 0, 1) := by decide +kernel
theorem dX9_hour_2 : decode cX9_hour 2 = .ok (.putfield 66, 3) := by decide +kernel
theorem dX9_hour_5 : decode cX9_hour 5 = .ok (.aload_n 0, 1) := by decide +kernel
theorem dX9_hour_6 : decode cX9_hour 6 = .ok (.invokevirtual 166, 3) := by decide +kernel
theorem dX9_hour_9 : decode cX9_hour 9 = .ok (.aload_n 0, 1) := by decide +kernel
theorem dX9_hour_10 : decode cX9_hour 10 = .ok (.aload_n 0, 1) := by decide +kernel
theorem dX9_hour_11 : decode cX9_hour 11 = .ok (.getfield 35, 3) := by decide +kernel
theorem dX9_hour_14 : decode cX9_hour 14 = .ok (.aload_n 0, 1) := by decide +kernel
theorem dX9_hour_15 : decode cX9_hour 15 = .ok (.getfield 13, 3) := by decide +kernel
theorem dX9_hour_18 : decode cX9_hour 18 = .ok (.iconst 0, 1) := by decide +kernel
theorem dX9_hour_19 : decode cX9_hour 19 = .ok (.invokevirtual 176, 3) := by decide +kernel
theorem dX9_hour_22 : decode cX9_hour 22 = .ok (.ireturn, 1) := by decide +kernel
theorem dX9_impounded_0 : decode cX9_impounded 0 = .ok (.iconst 0, 1) := by decide +kernel
theorem dX9_impounded_1 : decode cX9_impounded 1 = .ok (.istore_n 1, 1) := by decide +kernel
theorem dX9_impounded_2 : decode cX9_impounded 2 = .ok (.iconst 0, 1) := by decide +kernel
theorem dX9_impounded_3 : decode cX9_impounded 3 = .ok (.istore_n 2, 1) := by decide +kernel
theorem dX9_impounded_4 : decode cX9_impounded 4 = .ok (.iload_n 2, 1) := by decide +kernel
theorem dX9_impounded_5 : decode cX9_impounded 5 = .ok (.aload_n 0, 1) := by decide +kernel
theorem dX9_impounded_6 : decode cX9_impounded 6 = .ok (.getfield 76, 3) := by decide +kernel
theorem dX9_impounded_9 : decode cX9_impounded 9 = .ok (.if_icmp .ge 31, 3) := by decide +kernel
theorem dX9_impounded_12 : decode cX9_impounded 12 = .ok (.iload_n 1, 1) := by decide +kernel
theorem dX9_impounded_13 : decode cX9_impounded 13 = .ok (.aload_n 0, 1) := by decide +kernel
theorem dX9_impounded_14 : decode cX9_impounded 14 = .ok (.getfield 35, 3) := by decide +kernel
theorem dX9_impounded_17 : decode cX9_impounded 17 = .ok (.bipush 19, 2) := by decide +kernel
theorem dX9_impounded_19 : decode cX9_impounded 19 = .ok (.iload_n 2, 1) := by decide +kernel
theorem dX9_impounded_20 : decode cX9_impounded 20 = .ok (.iadd, 1) := by decide +kernel
theorem dX9_impounded_21 : decode cX9_impounded 21 = .ok (.iaload, 1) := by decide +kernel
theorem dX9_impounded_22 : decode cX9_impounded 22 = .ok (.ifCond .le 9, 3) := by decide +kernel
theorem dX9_impounded_25 : decode cX9_impounded 25 = .ok (.iconst 1, 1) := by decide +kernel
theorem dX9_impounded_26 : decode cX9_impounded 26 = .ok (.iload_n 2, 1) := by decide +kernel
theorem dX9_impounded_27 : decode cX9_impounded 27 = .ok (.ishl, 1) := by decide +kernel
theorem dX9_impounded_28 : decode cX9_impounded 28 = .ok (.goto 4, 3) := by decide +kernel
theorem dX9_impounded_31 : decode cX9_impounded 31 = .ok (.iconst 0, 1) := by decide +kernel
theorem dX9_impounded_32 : decode cX9_impounded 32 = .ok (.ior, 1) := by decide +kernel
theorem dX9_impounded_33 : decode cX9_impounded 33 = .ok (.istore_n 1, 1) := by decide +kernel
theorem dX9_impounded_34 : decode cX9_impounded 34 = .ok (.iinc 2 1, 3) := by decide +kernel
theorem dX9_impounded_37 : decode cX9_impounded 37 = .ok (.goto (-33), 3) := by decide +kernel
theorem dX9_impounded_40 : decode cX9_impounded 40 = .ok (.iload_n 1, 1) := by decide +kernel
theorem dX9_impounded_41 : decode cX9_impounded 41 = .ok (.ireturn, 1) := by decide +kernel
theorem dX9_in_0 : decode cX9_in 0 = .ok (.lload_n 0, 1) := by decide +kernel
theorem dX9_in_1 : decode cX9_in 1 = .ok (.lload_n 2, 1) := by decide +kernel
theorem dX9_in_2 : decode cX9_in 2 = .ok (.lcmp, 1) := by decide +kernel
theorem dX9_in_3 : decode cX9_in 3 = .ok (.ifCond .lt 14, 3) := by decide +kernel
theorem dX9_in_6 : decode cX9_in 6 = .ok (.lload_n 0, 1) := by decide +kernel
theorem dX9_in_7 : decode cX9_in 7 = .ok (.lload 4, 2) := by decide +kernel
theorem dX9_in_9 : decode cX9_in 9 = .ok (.lcmp, 1) := by decide +kernel
theorem dX9_in_10 : decode cX9_in 10 = .ok (.ifCond .gt 7, 3) := by decide +kernel
theorem dX9_in_13 : decode cX9_in 13 = .ok (.iconst 1, 1) := by decide +kernel
theorem dX9_in_14 : decode cX9_in 14 = .ok (.goto 4, 3) := by decide +kernel
theorem dX9_in_17 : decode cX9_in 17 = .ok (.iconst 0, 1) := by decide +kernel
theorem dX9_in_18 : decode cX9_in 18 = .ok (.ireturn, 1) := by decide +kernel
theorem dX9_init_0 : decode cX9_init 0 = .ok (.aload_n 0, 1) := by decide +kernel
theorem dX9_init_1 : decode cX9_init 1 = .ok (.invokespecial 1, 3) := by decide +kernel
theorem dX9_init_4 : decode cX9_init 4 = .ok (.aload_n 0, 1) := by decide +kernel
theorem dX9_init_5 : decode cX9_init 5 = .ok (.bipush 60, 2) := by decide +kernel
theorem dX9_init_7 : decode cX9_init 7 = .ok (.newarray .int, 2) := by decide +kernel
theorem dX9_init_9 : decode cX9_init 9 = .ok (.putfield 7, 3) := by decide +kernel
theorem dX9_init_12 : decode cX9_init 12 = .ok (.aload_n 0, 1) := by decide +kernel
theorem dX9_init_13 : decode cX9_init 13 = .ok (.bipush 12, 2) := by decide +kernel
theorem dX9_init_15 : decode cX9_init 15 = .ok (.putfield 13, 3) := by decide +kernel
theorem dX9_init_18 : decode cX9_init 18 = .ok (.aload_n 0, 1) := by decide +kernel
theorem dX9_init_19 : decode cX9_init 19 = .ok (.iconst 4, 1) := by decide +kernel
theorem dX9_init_20 : decode cX9_init 20 = .ok (.newarray .int, 2) := by decide +kernel
theorem dX9_init_22 : decode cX9_init 22 = .ok (.putfield 17, 3) := by decide +kernel
theorem dX9_init_25 : decode cX9_init 25 = .ok (.aload_n 0, 1) := by decide +kernel
theorem dX9_init_26 : decode cX9_init 26 = .ok (.bipush 16, 2) := by decide +kernel
theorem dX9_init_28 : decode cX9_init 28 = .ok (.newarray .int, 2) := by decide +kernel
theorem dX9_init_30 : decode cX9_init 30 = .ok (.putfield 20, 3) := by decide +kernel
theorem dX9_init_33 : decode cX9_init 33 = .ok (.aload_n 0, 1) := by decide +kernel
theorem dX9_init_34 : decode cX9_init 34 = .ok (.bipush 15, 2) := by decide +kernel
theorem dX9_init_36 : decode cX9_init 36 = .ok (.newarray .int, 2) := by decide +kernel
theorem dX9_init_38 : decode cX9_init 38 = .ok (.putfield 23, 3) := by decide +kernel
theorem dX9_init_41 : decode cX9_init 41 = .ok (.aload_n 0, 1) := by decide +kernel
theorem dX9_init_42 : decode cX9_init 42 = .ok (.iconst 4, 1) := by decide +kernel
theorem dX9_init_43 : decode cX9_init 43 = .ok (.newarray .int, 2) := by decide +kernel
theorem dX9_init_45 : decode cX9_init 45 = .ok (.putfield 26, 3) := by decide +kernel
theorem dX9_init_48 : decode cX9_init 48 = .ok (.aload_n 0, 1) := by decide +kernel
theorem dX9_init_49 : decode cX9_init 49 = .ok (.bipush 16, 2) := by decide +kernel
theorem dX9_init_51 : decode cX9_init 51 = .ok (.newarray .int, 2) := by decide +kernel
theorem dX9_init_53 : decode cX9_init 53 = .ok (.putfield 29, 3) := by decide +kernel
theorem dX9_init_56 : decode cX9_init 56 = .ok (.aload_n 0, 1) := by decide +kernel
theorem dX9_init_57 : decode cX9_init 57 = .ok (.bipush 15, 2) := by decide +kernel
theorem dX9_init_59 : decode cX9_init 59 = .ok (.newarray .int, 2) := by decide +kernel
theorem dX9_init_61 : decode cX9_init 61 = .ok (.putfield 32, 3) := by decide +kernel
theorem dX9_init_64 : decode cX9_init 64 = .ok (.aload_n 0, 1) := by decide +kernel
theorem dX9_init_65 : decode cX9_init 65 = .ok (.bipush 25, 2) := by decide +kernel
theorem dX9_init_67 : decode cX9_init 67 = .ok (.newarray .int, 2) := by decide +kernel
theorem dX9_init_69 : decode cX9_init 69 = .ok (.putfield 35, 3) := by decide +kernel
theorem dX9_init_72 : decode cX9_init 72 = .ok (.aload_n 0, 1) := by decide +kernel
theorem dX9_init_73 : decode cX9_init 73 = .ok (.bipush 25, 2) := by decide +kernel
theorem dX9_init_75 : decode cX9_init 75 = .ok (.newarray .int, 2) := by decide +kernel
theorem dX9_init_77 : decode cX9_init 77 = .ok (.putfield 38, 3) := by decide +kernel
theorem dX9_init_80 : decode cX9_init 80 = .ok (.aload_n 0, 1) := by decide +kernel
theorem dX9_init_81 : decode cX9_init 81 = .ok (.sipush 350, 3) := by decide +kernel
theorem dX9_init_84 : decode cX9_init 84 = .ok (.newarray .int, 2) := by decide +kernel
theorem dX9_init_86 : decode cX9_init 86 = .ok (.putfield 41, 3) := by decide +kernel
theorem dX9_init_89 : decode cX9_init 89 = .ok (.aload_n 0, 1) := by decide +kernel
theorem dX9_init_90 : decode cX9_init 90 = .ok (.bipush 50, 2) := by decide +kernel
theorem dX9_init_92 : decode cX9_init 92 = .ok (.newarray .int, 2) := by decide +kernel
theorem dX9_init_94 : decode cX9_init 94 = .ok (.putfield 44, 3) := by decide +kernel
theorem dX9_init_97 : decode cX9_init 97 = .ok (.aload_n 0, 1) := by decide +kernel
theorem dX9_init_98 : decode cX9_init 98 = .ok (.iconst 2, 1) := by decide +kernel
theorem dX9_init_99 : decode cX9_init 99 = .ok (.newarray .boolean, 2) := by decide +kernel
theorem dX9_init_101 : decode cX9_init 101 = .ok (.putfield 47, 3) := by decide +kernel
theorem dX9_init_104 : decode cX9_init 104 = .ok (.aload_n 0, 1) := by decide +kernel
theorem dX9_init_105 : decode cX9_init 105 = .ok (.bipush 6, 2) := by decide +kernel
theorem dX9_init_107 : decode cX9_init 107 = .ok (.newarray .int, 2) := by decide +kernel
theorem dX9_init_109 : decode cX9_init 109 = .ok (.putfield 51, 3) := by decide +kernel
theorem dX9_init_112 : decode cX9_init 112 = .ok (.aload_n 0, 1) := by decide +kernel
theorem dX9_init_113 : decode cX9_init 113 = .ok (.bipush 6, 2) := by decide +kernel
theorem dX9_init_115 : decode cX9_init 115 = .ok (.newarray .int, 2) := by decide +kernel
theorem dX9_init_117 : decode cX9_init 117 = .ok (.putfield 54, 3) := by decide +kernel
theorem dX9_init_120 : decode cX9_init 120 = .ok (.aload_n 0, 1) := by decide +kernel
theorem dX9_init_121 : decode cX9_init 121 = .ok (.bipush 6, 2) := by decide +kernel
theorem dX9_init_123 : decode cX9_init 123 = .ok (.newarray .int, 2) := by decide +kernel
theorem dX9_init_125 : decode cX9_init 125 = .ok (.putfield 57, 3) := by decide +kernel
theorem dX9_init_128 : decode cX9_init 128 = .ok (.aload_n 0, 1) := by decide +kernel
theorem dX9_init_129 : decode cX9_init 129 = .ok (.iconst 4, 1) := by decide +kernel
theorem dX9_init_130 : decode cX9_init 130 = .ok (.newarray .int, 2) := by decide +kernel
theorem dX9_init_132 : decode cX9_init 132 = .ok (.putfield 60, 3) := by decide +kernel
theorem dX9_init_135 : decode cX9_init 135 = .ok (.aload_n 0, 1) := by decide +kernel
theorem dX9_init_136 : decode cX9_init 136 = .ok (.iconst 5, 1) := by decide +kernel
theorem dX9_init_137 : decode cX9_init 137 = .ok (.newarray .int, 2) := by decide +kernel
theorem dX9_init_139 : decode cX9_init 139 = .ok (.putfield 63, 3) := by decide +kernel
theorem dX9_init_142 : decode cX9_init 142 = .ok (.return_, 1) := by decide +kernel
theorem dX9_isAlone_0 : decode cX9_isAlone 0 = .ok (.iconst 1, 1) := by decide +kernel
theorem dX9_isAlone_1 : decode cX9_isAlone 1 = .ok (.istore_n 2, 1) := by decide +kernel
theorem dX9_isAlone_2 : decode cX9_isAlone 2 = .ok (.iconst 0, 1) := by decide +kernel
theorem dX9_isAlone_3 : decode cX9_isAlone 3 = .ok (.istore_n 3, 1) := by decide +kernel
theorem dX9_isAlone_4 : decode cX9_isAlone 4 = .ok (.iload_n 3, 1) := by decide +kernel
theorem dX9_isAlone_5 : decode cX9_isAlone 5 = .ok (.aload_n 0, 1) := by decide +kernel
theorem dX9_isAlone_6 : decode cX9_isAlone 6 = .ok (.getfield 69, 3) := by decide +kernel
theorem dX9_isAlone_9 : decode cX9_isAlone 9 = .ok (.if_icmp .ge 62, 3) := by decide +kernel
theorem dX9_isAlone_12 : decode cX9_isAlone 12 = .ok (.iload_n 2, 1) := by decide +kernel
theorem dX9_isAlone_13 : decode cX9_isAlone 13 = .ok (.ifCond .eq 58, 3) := by decide +kernel
theorem dX9_isAlone_16 : decode cX9_isAlone 16 = .ok (.iload_n 3, 1) := by decide +kernel
theorem dX9_isAlone_17 : decode cX9_isAlone 17 = .ok (.iload_n 1, 1) := by decide +kernel
theorem dX9_isAlone_18 : decode cX9_isAlone 18 = .ok (.if_icmp .eq 41, 3) := by decide +kernel
theorem dX9_isAlone_21 : decode cX9_isAlone 21 = .ok (.aload_n 0, 1) := by decide +kernel
theorem dX9_isAlone_22 : decode cX9_isAlone 22 = .ok (.getfield 20, 3) := by decide +kernel
theorem dX9_isAlone_25 : decode cX9_isAlone 25 = .ok (.iconst 4, 1) := by decide +kernel
theorem dX9_isAlone_26 : decode cX9_isAlone 26 = .ok (.iload_n 3, 1) := by decide +kernel
theorem dX9_isAlone_27 : decode cX9_isAlone 27 = .ok (.imul, 1) := by decide +kernel
theorem dX9_isAlone_28 : decode cX9_isAlone 28 = .ok (.iconst 1, 1) := by decide +kernel
theorem dX9_isAlone_29 : decode cX9_isAlone 29 = .ok (.iadd, 1) := by decide +kernel
theorem dX9_isAlone_30 : decode cX9_isAlone 30 = .ok (.iaload, 1) := by decide +kernel
theorem dX9_isAlone_31 : decode cX9_isAlone 31 = .ok (.aload_n 0, 1) := by decide +kernel
theorem dX9_isAlone_32 : decode cX9_isAlone 32 = .ok (.getfield 20, 3) := by decide +kernel
theorem dX9_isAlone_35 : decode cX9_isAlone 35 = .ok (.iconst 4, 1) := by decide +kernel
theorem dX9_isAlone_36 : decode cX9_isAlone 36 = .ok (.iload_n 1, 1) := by decide +kernel
theorem dX9_isAlone_37 : decode cX9_isAlone 37 = .ok (.imul, 1) := by decide +kernel
theorem dX9_isAlone_38 : decode cX9_isAlone 38 = .ok (.iconst 1, 1) := by decide +kernel
theorem dX9_isAlone_39 : decode cX9_isAlone 39 = .ok (.iadd, 1) := by decide +kernel
theorem dX9_isAlone_40 : decode cX9_isAlone 40 = .ok (.iaload, 1) := by decide +kernel
theorem dX9_isAlone_41 : decode cX9_isAlone 41 = .ok (.if_icmp .ne 18, 3) := by decide +kernel
theorem dX9_isAlone_44 : decode cX9_isAlone 44 = .ok (.aload_n 0, 1) := by decide +kernel
theorem dX9_isAlone_45 : decode cX9_isAlone 45 = .ok (.getfield 38, 3) := by decide +kernel
theorem dX9_isAlone_48 : decode cX9_isAlone 48 = .ok (.iload_n 3, 1) := by decide +kernel
theorem dX9_isAlone_49 : decode cX9_isAlone 49 = .ok (.iaload, 1) := by decide +kernel
theorem dX9_isAlone_50 : decode cX9_isAlone 50 = .ok (.aload_n 0, 1) := by decide +kernel
theorem dX9_isAlone_51 : decode cX9_isAlone 51 = .ok (.getfield 38, 3) := by decide +kernel
theorem dX9_isAlone_54 : decode cX9_isAlone 54 = .ok (.iload_n 1, 1) := by decide +kernel
theorem dX9_isAlone_55 : decode cX9_isAlone 55 = .ok (.iaload, 1) := by decide +kernel
theorem dX9_isAlone_56 : decode cX9_isAlone 56 = .ok (.if_icmp .eq 7, 3) := by decide +kernel
theorem dX9_isAlone_59 : decode cX9_isAlone 59 = .ok (.iconst 1, 1) := by decide +kernel
theorem dX9_isAlone_60 : decode cX9_isAlone 60 = .ok (.goto 4, 3) := by decide +kernel
theorem dX9_isAlone_63 : decode cX9_isAlone 63 = .ok (.iconst 0, 1) := by decide +kernel
theorem dX9_isAlone_64 : decode cX9_isAlone 64 = .ok (.istore_n 2, 1) := by decide +kernel
theorem dX9_isAlone_65 : decode cX9_isAlone 65 = .ok (.iinc 3 1, 3) := by decide +kernel
theorem dX9_isAlone_68 : decode cX9_isAlone 68 = .ok (.goto (-64), 3) := by decide +kernel
theorem dX9_isAlone_71 : decode cX9_isAlone 71 = .ok (.iload_n 2, 1) := by decide +kernel
theorem dX9_isAlone_72 : decode cX9_isAlone 72 = .ok (.ireturn, 1) := by decide +kernel
theorem dX9_isWalk_0 : decode cX9_isWalk 0 = .ok (.iconst 1, 1) := by decide +kernel
theorem dX9_isWalk_1 : decode cX9_isWalk 1 = .ok (.istore_n 2, 1) := by decide +kernel
theorem dX9_isWalk_2 : decode cX9_isWalk 2 = .ok (.iconst 0, 1) := by decide +kernel
theorem dX9_isWalk_3 : decode cX9_isWalk 3 = .ok (.istore_n 3, 1) := by decide +kernel
theorem dX9_isWalk_4 : decode cX9_isWalk 4 = .ok (.iload_n 3, 1) := by decide +kernel
theorem dX9_isWalk_5 : decode cX9_isWalk 5 = .ok (.aload_n 0, 1) := by decide +kernel
theorem dX9_isWalk_6 : decode cX9_isWalk 6 = .ok (.getfield 69, 3) := by decide +kernel
theorem dX9_isWalk_9 : decode cX9_isWalk 9 = .ok (.if_icmp .ge 89, 3) := by decide +kernel
theorem dX9_isWalk_12 : decode cX9_isWalk 12 = .ok (.iload_n 2, 1) := by decide +kernel
theorem dX9_isWalk_13 : decode cX9_isWalk 13 = .ok (.ifCond .eq 85, 3) := by decide +kernel
theorem dX9_isWalk_16 : decode cX9_isWalk 16 = .ok (.iconst 0, 1) := by decide +kernel
theorem dX9_isWalk_17 : decode cX9_isWalk 17 = .ok (.istore 4, 2) := by decide +kernel
theorem dX9_isWalk_19 : decode cX9_isWalk 19 = .ok (.iconst 0, 1) := by decide +kernel
theorem dX9_isWalk_20 : decode cX9_isWalk 20 = .ok (.istore 5, 2) := by decide +kernel
theorem dX9_isWalk_22 : decode cX9_isWalk 22 = .ok (.iload 5, 2) := by decide +kernel
theorem dX9_isWalk_24 : decode cX9_isWalk 24 = .ok (.aload_n 0, 1) := by decide +kernel
theorem dX9_isWalk_25 : decode cX9_isWalk 25 = .ok (.getfield 76, 3) := by decide +kernel
theorem dX9_isWalk_28 : decode cX9_isWalk 28 = .ok (.if_icmp .ge 43, 3) := by decide +kernel
theorem dX9_isWalk_31 : decode cX9_isWalk 31 = .ok (.iload 4, 2) := by decide +kernel
theorem dX9_isWalk_33 : decode cX9_isWalk 33 = .ok (.iload_n 1, 1) := by decide +kernel
theorem dX9_isWalk_34 : decode cX9_isWalk 34 = .ok (.aload_n 0, 1) := by decide +kernel
theorem dX9_isWalk_35 : decode cX9_isWalk 35 = .ok (.getfield 69, 3) := by decide +kernel
theorem dX9_isWalk_38 : decode cX9_isWalk 38 = .ok (.iconst 1, 1) := by decide +kernel
theorem dX9_isWalk_39 : decode cX9_isWalk 39 = .ok (.iadd, 1) := by decide +kernel
theorem dX9_isWalk_40 : decode cX9_isWalk 40 = .ok (.iload 5, 2) := by decide +kernel
theorem dX9_isWalk_42 : decode cX9_isWalk 42 = .ok (.invokestatic 188, 3) := by decide +kernel
theorem dX9_isWalk_45 : decode cX9_isWalk 45 = .ok (.idiv, 1) := by decide +kernel
theorem dX9_isWalk_46 : decode cX9_isWalk 46 = .ok (.aload_n 0, 1) := by decide +kernel
theorem dX9_isWalk_47 : decode cX9_isWalk 47 = .ok (.getfield 69, 3) := by decide +kernel
theorem dX9_isWalk_50 : decode cX9_isWalk 50 = .ok (.iconst 1, 1) := by decide +kernel
theorem dX9_isWalk_51 : decode cX9_isWalk 51 = .ok (.iadd, 1) := by decide +kernel
theorem dX9_isWalk_52 : decode cX9_isWalk 52 = .ok (.irem, 1) := by decide +kernel
theorem dX9_isWalk_53 : decode cX9_isWalk 53 = .ok (.iload_n 3, 1) := by decide +kernel
theorem dX9_isWalk_54 : decode cX9_isWalk 54 = .ok (.if_icmp .ne 7, 3) := by decide +kernel
theorem dX9_isWalk_57 : decode cX9_isWalk 57 = .ok (.iconst 1, 1) := by decide +kernel
theorem dX9_isWalk_58 : decode cX9_isWalk 58 = .ok (.goto 4, 3) := by decide +kernel
theorem dX9_isWalk_61 : decode cX9_isWalk 61 = .ok (.iconst 0, 1) := by decide +kernel
theorem dX9_isWalk_62 : decode cX9_isWalk 62 = .ok (.iadd, 1) := by decide +kernel
theorem dX9_isWalk_63 : decode cX9_isWalk 63 = .ok (.istore 4, 2) := by decide +kernel
theorem dX9_isWalk_65 : decode cX9_isWalk 65 = .ok (.iinc 5 1, 3) := by decide +kernel
theorem dX9_isWalk_68 : decode cX9_isWalk 68 = .ok (.goto (-46), 3) := by decide +kernel
theorem dX9_isWalk_71 : decode cX9_isWalk 71 = .ok (.iload 4, 2) := by decide +kernel
theorem dX9_isWalk_73 : decode cX9_isWalk 73 = .ok (.aload_n 0, 1) := by decide +kernel
theorem dX9_isWalk_74 : decode cX9_isWalk 74 = .ok (.getfield 20, 3) := by decide +kernel
theorem dX9_isWalk_77 : decode cX9_isWalk 77 = .ok (.iconst 4, 1) := by decide +kernel
theorem dX9_isWalk_78 : decode cX9_isWalk 78 = .ok (.iload_n 3, 1) := by decide +kernel
theorem dX9_isWalk_79 : decode cX9_isWalk 79 = .ok (.imul, 1) := by decide +kernel
theorem dX9_isWalk_80 : decode cX9_isWalk 80 = .ok (.iconst 2, 1) := by decide +kernel
theorem dX9_isWalk_81 : decode cX9_isWalk 81 = .ok (.iadd, 1) := by decide +kernel
theorem dX9_isWalk_82 : decode cX9_isWalk 82 = .ok (.iaload, 1) := by decide +kernel
theorem dX9_isWalk_83 : decode cX9_isWalk 83 = .ok (.if_icmp .gt 7, 3) := by decide +kernel
theorem dX9_isWalk_86 : decode cX9_isWalk 86 = .ok (.iconst 1, 1) := by decide +kernel
theorem dX9_isWalk_87 : decode cX9_isWalk 87 = .ok (.goto 4, 3) := by decide +kernel
theorem dX9_isWalk_90 : decode cX9_isWalk 90 = .ok (.iconst 0, 1) := by decide +kernel
theorem dX9_isWalk_91 : decode cX9_isWalk 91 = .ok (.istore_n 2, 1) := by decide +kernel
theorem dX9_isWalk_92 : decode cX9_isWalk 92 = .ok (.iinc 3 1, 3) := by decide +kernel
theorem dX9_isWalk_95 : decode cX9_isWalk 95 = .ok (.goto (-91), 3) := by decide +kernel
theorem dX9_isWalk_98 : decode cX9_isWalk 98 = .ok (.iconst 0, 1) := by decide +kernel
theorem dX9_isWalk_99 : decode cX9_isWalk 99 = .ok (.istore_n 3, 1) := by decide +kernel
theorem dX9_isWalk_100 : decode cX9_isWalk 100 = .ok (.iload_n 3, 1) := by decide +kernel
theorem dX9_isWalk_101 : decode cX9_isWalk 101 = .ok (.aload_n 0, 1) := by decide +kernel
theorem dX9_isWalk_102 : decode cX9_isWalk 102 = .ok (.getfield 150, 3) := by decide +kernel
theorem dX9_isWalk_105 : decode cX9_isWalk 105 = .ok (.if_icmp .ge 77, 3) := by decide +kernel
theorem dX9_isWalk_108 : decode cX9_isWalk 108 = .ok (.iload_n 2, 1) := by decide +kernel
theorem dX9_isWalk_109 : decode cX9_isWalk 109 = .ok (.ifCond .eq 73, 3) := by decide +kernel
theorem dX9_isWalk_112 : decode cX9_isWalk 112 = .ok (.aload_n 0, 1) := by decide +kernel
theorem dX9_isWalk_113 : decode cX9_isWalk 113 = .ok (.getfield 51, 3) := by decide +kernel
theorem dX9_isWalk_116 : decode cX9_isWalk 116 = .ok (.iload_n 3, 1) := by decide +kernel
theorem dX9_isWalk_117 : decode cX9_isWalk 117 = .ok (.iaload, 1) := by decide +kernel
theorem dX9_isWalk_118 : decode cX9_isWalk 118 = .ok (.istore 4, 2) := by decide +kernel
theorem dX9_isWalk_120 : decode cX9_isWalk 120 = .ok (.iload 4, 2) := by decide +kernel
theorem dX9_isWalk_122 : decode cX9_isWalk 122 = .ok (.aload_n 0, 1) := by decide +kernel
theorem dX9_isWalk_123 : decode cX9_isWalk 123 = .ok (.getfield 76, 3) := by decide +kernel
theorem dX9_isWalk_126 : decode cX9_isWalk 126 = .ok (.if_icmp .ge 44, 3) := by decide +kernel
theorem dX9_isWalk_129 : decode cX9_isWalk 129 = .ok (.aload_n 0, 1) := by decide +kernel
theorem dX9_isWalk_130 : decode cX9_isWalk 130 = .ok (.iload 4, 2) := by decide +kernel
theorem dX9_isWalk_132 : decode cX9_isWalk 132 = .ok (.iload_n 1, 1) := by decide +kernel
theorem dX9_isWalk_133 : decode cX9_isWalk 133 = .ok (.aload_n 0, 1) := by decide +kernel
theorem dX9_isWalk_134 : decode cX9_isWalk 134 = .ok (.getfield 69, 3) := by decide +kernel
theorem dX9_isWalk_137 : decode cX9_isWalk 137 = .ok (.iconst 1, 1) := by decide +kernel
theorem dX9_isWalk_138 : decode cX9_isWalk 138 = .ok (.iadd, 1) := by decide +kernel
theorem dX9_isWalk_139 : decode cX9_isWalk 139 = .ok (.iload 4, 2) := by decide +kernel
theorem dX9_isWalk_141 : decode cX9_isWalk 141 = .ok (.invokestatic 188, 3) := by decide +kernel
theorem dX9_isWalk_144 : decode cX9_isWalk 144 = .ok (.idiv, 1) := by decide +kernel
theorem dX9_isWalk_145 : decode cX9_isWalk 145 = .ok (.aload_n 0, 1) := by decide +kernel
theorem dX9_isWalk_146 : decode cX9_isWalk 146 = .ok (.getfield 69, 3) := by decide +kernel
theorem dX9_isWalk_149 : decode cX9_isWalk 149 = .ok (.iconst 1, 1) := by decide +kernel
theorem dX9_isWalk_150 : decode cX9_isWalk 150 = .ok (.iadd, 1) := by decide +kernel
theorem dX9_isWalk_151 : decode cX9_isWalk 151 = .ok (.irem, 1) := by decide +kernel
theorem dX9_isWalk_152 : decode cX9_isWalk 152 = .ok (.aload_n 0, 1) := by decide +kernel
theorem dX9_isWalk_153 : decode cX9_isWalk 153 = .ok (.getfield 57, 3) := by decide +kernel
theorem dX9_isWalk_156 : decode cX9_isWalk 156 = .ok (.iload_n 3, 1) := by decide +kernel
theorem dX9_isWalk_157 : decode cX9_isWalk 157 = .ok (.iaload, 1) := by decide +kernel
theorem dX9_isWalk_158 : decode cX9_isWalk 158 = .ok (.invokevirtual 212, 3) := by decide +kernel
theorem dX9_isWalk_161 : decode cX9_isWalk 161 = .ok (.aload_n 0, 1) := by decide +kernel
theorem dX9_isWalk_162 : decode cX9_isWalk 162 = .ok (.getfield 54, 3) := by decide +kernel
theorem dX9_isWalk_165 : decode cX9_isWalk 165 = .ok (.iload_n 3, 1) := by decide +kernel
theorem dX9_isWalk_166 : decode cX9_isWalk 166 = .ok (.iaload, 1) := by decide +kernel
theorem dX9_isWalk_167 : decode cX9_isWalk 167 = .ok (.if_icmp .ne 7, 3) := by decide +kernel
theorem dX9_isWalk_170 : decode cX9_isWalk 170 = .ok (.iconst 1, 1) := by decide +kernel
theorem dX9_isWalk_171 : decode cX9_isWalk 171 = .ok (.goto 4, 3) := by decide +kernel
theorem dX9_isWalk_174 : decode cX9_isWalk 174 = .ok (.iconst 0, 1) := by decide +kernel
theorem dX9_isWalk_175 : decode cX9_isWalk 175 = .ok (.istore_n 2, 1) := by decide +kernel
theorem dX9_isWalk_176 : decode cX9_isWalk 176 = .ok (.iinc 3 1, 3) := by decide +kernel
theorem dX9_isWalk_179 : decode cX9_isWalk 179 = .ok (.goto (-79), 3) := by decide +kernel
theorem dX9_isWalk_182 : decode cX9_isWalk 182 = .ok (.iload_n 2, 1) := by decide +kernel
theorem dX9_isWalk_183 : decode cX9_isWalk 183 = .ok (.ireturn, 1) := by decide +kernel
theorem dX9_keep_0 : decode cX9_keep 0 = .ok (.aload_n 0, 1) := by decide +kernel
theorem dX9_keep_1 : decode cX9_keep 1 = .ok (.iconst 0, 1) := by decide +kernel
theorem dX9_keep_2 : decode cX9_keep 2 = .ok (.putfield 66, 3) := by decide +kernel
theorem dX9_keep_5 : decode cX9_keep 5 = .ok (.iload_n 1, 1) := by decide +kernel
theorem dX9_keep_6 : decode cX9_keep 6 = .ok (.i2l, 1) := by decide +kernel
theorem dX9_keep_7 : decode cX9_keep 7 = .ok (.lconst 0, 1) := by decide +kernel
theorem dX9_keep_8 : decode cX9_keep 8 = .ok (.lconst 1, 1) := by decide +kernel
theorem dX9_keep_9 : decode cX9_keep 9 = .ok (.invokestatic 72, 3) := by decide +kernel
theorem dX9_keep_12 : decode cX9_keep 12 = .ok (.ifCond .ne 5, 3) := by decide +kernel
theorem dX9_keep_15 : decode cX9_keep 15 = .ok (.iconst (-1), 1) := by decide +kernel
theorem dX9_keep_16 : decode cX9_keep 16 = .ok (.ireturn, 1) := by decide +kernel
theorem dX9_keep_17 : decode cX9_keep 17 = .ok (.aload_n 0, 1) := by decide +kernel
theorem dX9_keep_18 : decode cX9_keep 18 = .ok (.getfield 47, 3) := by decide +kernel
theorem dX9_keep_21 : decode cX9_keep 21 = .ok (.iload_n 1, 1) := by decide +kernel
theorem dX9_keep_22 : decode cX9_keep 22 = .ok (.iconst 1, 1) := by decide +kernel
theorem dX9_keep_23 : decode cX9_keep 23 = .ok (.bastore, 1) := by decide +kernel
theorem dX9_keep_24 : decode cX9_keep 24 = .ok (.iconst 0, 1) := by decide +kernel
theorem dX9_keep_25 : decode cX9_keep 25 = .ok (.istore_n 2, 1) := by decide +kernel
theorem dX9_keep_26 : decode cX9_keep 26 = .ok (.iload_n 2, 1) := by decide +kernel
theorem dX9_keep_27 : decode cX9_keep 27 = .ok (.bipush 25, 2) := by decide +kernel
theorem dX9_keep_29 : decode cX9_keep 29 = .ok (.if_icmp .ge 26, 3) := by decide +kernel
theorem dX9_keep_32 : decode cX9_keep 32 = .ok (.aload_n 0, 1) := by decide +kernel
theorem dX9_keep_33 : decode cX9_keep 33 = .ok (.getfield 44, 3) := by decide +kernel
theorem dX9_keep_36 : decode cX9_keep 36 = .ok (.bipush 25, 2) := by decide +kernel
theorem dX9_keep_38 : decode cX9_keep 38 = .ok (.iload_n 1, 1) := by decide +kernel
theorem dX9_keep_39 : decode cX9_keep 39 = .ok (.imul, 1) := by decide +kernel
theorem dX9_keep_40 : decode cX9_keep 40 = .ok (.iload_n 2, 1) := by decide +kernel
theorem dX9_keep_41 : decode cX9_keep 41 = .ok (.iadd, 1) := by decide +kernel
theorem dX9_keep_42 : decode cX9_keep 42 = .ok (.aload_n 0, 1) := by decide +kernel
theorem dX9_keep_43 : decode cX9_keep 43 = .ok (.getfield 35, 3) := by decide +kernel
theorem dX9_keep_46 : decode cX9_keep 46 = .ok (.iload_n 2, 1) := by decide +kernel
theorem dX9_keep_47 : decode cX9_keep 47 = .ok (.iaload, 1) := by decide +kernel
theorem dX9_keep_48 : decode cX9_keep 48 = .ok (.iastore, 1) := by decide +kernel
theorem dX9_keep_49 : decode cX9_keep 49 = .ok (.iinc 2 1, 3) := by decide +kernel
theorem dX9_keep_52 : decode cX9_keep 52 = .ok (.goto (-26), 3) := by decide +kernel
theorem dX9_keep_55 : decode cX9_keep 55 = .ok (.aload_n 0, 1) := by decide +kernel
theorem dX9_keep_56 : decode cX9_keep 56 = .ok (.getfield 35, 3) := by decide +kernel
theorem dX9_keep_59 : decode cX9_keep 59 = .ok (.bipush 24, 2) := by decide +kernel
theorem dX9_keep_61 : decode cX9_keep 61 = .ok (.iaload, 1) := by decide +kernel
theorem dX9_keep_62 : decode cX9_keep 62 = .ok (.ireturn, 1) := by decide +kernel
theorem dX9_keeps_0 : decode cX9_keeps 0 = .ok (.iconst 0, 1) := by decide +kernel
theorem dX9_keeps_1 : decode cX9_keeps 1 = .ok (.istore_n 3, 1) := by decide +kernel
theorem dX9_keeps_2 : decode cX9_keeps 2 = .ok (.iconst 0, 1) := by decide +kernel
theorem dX9_keeps_3 : decode cX9_keeps 3 = .ok (.istore 4, 2) := by decide +kernel
theorem dX9_keeps_5 : decode cX9_keeps 5 = .ok (.iload 4, 2) := by decide +kernel
theorem dX9_keeps_7 : decode cX9_keeps 7 = .ok (.aload_n 0, 1) := by decide +kernel
theorem dX9_keeps_8 : decode cX9_keeps 8 = .ok (.getfield 76, 3) := by decide +kernel
theorem dX9_keeps_11 : decode cX9_keeps 11 = .ok (.if_icmp .ge 31, 3) := by decide +kernel
theorem dX9_keeps_14 : decode cX9_keeps 14 = .ok (.iload_n 3, 1) := by decide +kernel
theorem dX9_keeps_15 : decode cX9_keeps 15 = .ok (.aload_n 1, 1) := by decide +kernel
theorem dX9_keeps_16 : decode cX9_keeps 16 = .ok (.bipush 8, 2) := by decide +kernel
theorem dX9_keeps_18 : decode cX9_keeps 18 = .ok (.iload 4, 2) := by decide +kernel
theorem dX9_keeps_20 : decode cX9_keeps 20 = .ok (.iadd, 1) := by decide +kernel
theorem dX9_keeps_21 : decode cX9_keeps 21 = .ok (.iaload, 1) := by decide +kernel
theorem dX9_keeps_22 : decode cX9_keeps 22 = .ok (.iload_n 2, 1) := by decide +kernel
theorem dX9_keeps_23 : decode cX9_keeps 23 = .ok (.if_icmp .ne 10, 3) := by decide +kernel
theorem dX9_keeps_26 : decode cX9_keeps 26 = .ok (.iconst 1, 1) := by decide +kernel
theorem dX9_keeps_27 : decode cX9_keeps 27 = .ok (.iload 4, 2) := by decide +kernel
theorem dX9_keeps_29 : decode cX9_keeps 29 = .ok (.ishl, 1) := by decide +kernel
theorem dX9_keeps_30 : decode cX9_keeps 30 = .ok (.goto 4, 3) := by decide +kernel
theorem dX9_keeps_33 : decode cX9_keeps 33 = .ok (.iconst 0, 1) := by decide +kernel
theorem dX9_keeps_34 : decode cX9_keeps 34 = .ok (.ior, 1) := by decide +kernel
theorem dX9_keeps_35 : decode cX9_keeps 35 = .ok (.istore_n 3, 1) := by decide +kernel
theorem dX9_keeps_36 : decode cX9_keeps 36 = .ok (.iinc 4 1, 3) := by decide +kernel
theorem dX9_keeps_39 : decode cX9_keeps 39 = .ok (.goto (-34), 3) := by decide +kernel
theorem dX9_keeps_42 : decode cX9_keeps 42 = .ok (.iload_n 3, 1) := by decide +kernel
theorem dX9_keeps_43 : decode cX9_keeps 43 = .ok (.ireturn, 1) := by decide +kernel
theorem dX9_lead_0 : decode cX9_lead 0 = .ok (.aload_n 0, 1) := by decide +kernel
theorem dX9_lead_1 : decode cX9_lead 1 = .ok (.iconst 0, 1) := by decide +kernel
theorem dX9_lead_2 : decode cX9_lead 2 = .ok (.putfield 66, 3) := by decide +kernel
theorem dX9_lead_5 : decode cX9_lead 5 = .ok (.aload_n 0, 1) := by decide +kernel
theorem dX9_lead_6 : decode cX9_lead 6 = .ok (.iload_n 1, 1) := by decide +kernel
theorem dX9_lead_7 : decode cX9_lead 7 = .ok (.invokevirtual 153, 3) := by decide +kernel
theorem dX9_lead_10 : decode cX9_lead 10 = .ok (.ifCond .eq 5, 3) := by decide +kernel
theorem dX9_lead_13 : decode cX9_lead 13 = .ok (.iconst (-1), 1) := by decide +kernel
theorem dX9_lead_14 : decode cX9_lead 14 = .ok (.ireturn, 1) := by decide +kernel
theorem dX9_lead_15 : decode cX9_lead 15 = .ok (.iload_n 2, 1) := by decide +kernel
theorem dX9_lead_16 : decode cX9_lead 16 = .ok (.i2l, 1) := by decide +kernel
theorem dX9_lead_17 : decode cX9_lead 17 = .ok (.lconst 1, 1) := by decide +kernel
theorem dX9_lead_18 : decode cX9_lead 18 = .ok (.ldc2_w 164, 3) := by decide +kernel
theorem dX9_lead_21 : decode cX9_lead 21 = .ok (.invokestatic 72, 3) := by decide +kernel
theorem dX9_lead_24 : decode cX9_lead 24 = .ok (.ifCond .ne 6, 3) := by decide +kernel
theorem dX9_lead_27 : decode cX9_lead 27 = .ok (.bipush (-2), 2) := by decide +kernel
theorem dX9_lead_29 : decode cX9_lead 29 = .ok (.ireturn, 1) := by decide +kernel
theorem dX9_lead_30 : decode cX9_lead 30 = .ok (.aload_n 0, 1) := by decide +kernel
theorem dX9_lead_31 : decode cX9_lead 31 = .ok (.invokevirtual 166, 3) := by decide +kernel
theorem dX9_lead_34 : decode cX9_lead 34 = .ok (.aload_n 0, 1) := by decide +kernel
theorem dX9_lead_35 : decode cX9_lead 35 = .ok (.aload_n 0, 1) := by decide +kernel
theorem dX9_lead_36 : decode cX9_lead 36 = .ok (.getfield 35, 3) := by decide +kernel
theorem dX9_lead_39 : decode cX9_lead 39 = .ok (.iload_n 1, 1) := by decide +kernel
theorem dX9_lead_40 : decode cX9_lead 40 = .ok (.iload_n 2, 1) := by decide +kernel
theorem dX9_lead_41 : decode cX9_lead 41 = .ok (.invokevirtual 169, 3) := by decide +kernel
theorem dX9_lead_44 : decode cX9_lead 44 = .ok (.aload_n 0, 1) := by decide +kernel
theorem dX9_lead_45 : decode cX9_lead 45 = .ok (.getfield 35, 3) := by decide +kernel
theorem dX9_lead_48 : decode cX9_lead 48 = .ok (.iload_n 1, 1) := by decide +kernel
theorem dX9_lead_49 : decode cX9_lead 49 = .ok (.iaload, 1) := by decide +kernel
theorem dX9_lead_50 : decode cX9_lead 50 = .ok (.ireturn, 1) := by decide +kernel
theorem dX9_leash_0 : decode cX9_leash 0 = .ok (.aload_n 0, 1) := by decide +kernel
theorem dX9_leash_1 : decode cX9_leash 1 = .ok (.iconst 0, 1) := by decide +kernel
theorem dX9_leash_2 : decode cX9_leash 2 = .ok (.putfield 66, 3) := by decide +kernel
theorem dX9_leash_5 : decode cX9_leash 5 = .ok (.aload_n 0, 1) := by decide +kernel
theorem dX9_leash_6 : decode cX9_leash 6 = .ok (.iload_n 1, 1) := by decide +kernel
theorem dX9_leash_7 : decode cX9_leash 7 = .ok (.invokevirtual 161, 3) := by decide +kernel
theorem dX9_leash_10 : decode cX9_leash 10 = .ok (.ifCond .eq 5, 3) := by decide +kernel
theorem dX9_leash_13 : decode cX9_leash 13 = .ok (.iconst (-1), 1) := by decide +kernel
theorem dX9_leash_14 : decode cX9_leash 14 = .ok (.ireturn, 1) := by decide +kernel
theorem dX9_leash_15 : decode cX9_leash 15 = .ok (.aload_n 0, 1) := by decide +kernel
theorem dX9_leash_16 : decode cX9_leash 16 = .ok (.getfield 35, 3) := by decide +kernel
theorem dX9_leash_19 : decode cX9_leash 19 = .ok (.bipush 8, 2) := by decide +kernel
theorem dX9_leash_21 : decode cX9_leash 21 = .ok (.iload_n 1, 1) := by decide +kernel
theorem dX9_leash_22 : decode cX9_leash 22 = .ok (.iadd, 1) := by decide +kernel
theorem dX9_leash_23 : decode cX9_leash 23 = .ok (.iaload, 1) := by decide +kernel
theorem dX9_leash_24 : decode cX9_leash 24 = .ok (.bipush (-9), 2) := by decide +kernel
theorem dX9_leash_26 : decode cX9_leash 26 = .ok (.if_icmp .eq 15, 3) := by decide +kernel
theorem dX9_leash_29 : decode cX9_leash 29 = .ok (.aload_n 0, 1) := by decide +kernel
theorem dX9_leash_30 : decode cX9_leash 30 = .ok (.getfield 35, 3) := by decide +kernel
theorem dX9_leash_33 : decode cX9_leash 33 = .ok (.bipush 19, 2) := by decide +kernel
theorem dX9_leash_35 : decode cX9_leash 35 = .ok (.iload_n 1, 1) := by decide +kernel
theorem dX9_leash_36 : decode cX9_leash 36 = .ok (.iadd, 1) := by decide +kernel
theorem dX9_leash_37 : decode cX9_leash 37 = .ok (.iaload, 1) := by decide +kernel
theorem dX9_leash_38 : decode cX9_leash 38 = .ok (.ifCond .le 6, 3) := by decide +kernel
theorem dX9_leash_41 : decode cX9_leash 41 = .ok (.bipush (-3), 2) := by decide +kernel
theorem dX9_leash_43 : decode cX9_leash 43 = .ok (.ireturn, 1) := by decide +kernel
theorem dX9_leash_44 : decode cX9_leash 44 = .ok (.aload_n 0, 1) := by decide +kernel
theorem dX9_leash_45 : decode cX9_leash 45 = .ok (.invokevirtual 166, 3) := by decide +kernel
theorem dX9_leash_48 : decode cX9_leash 48 = .ok (.aload_n 0, 1) := by decide +kernel
theorem dX9_leash_49 : decode cX9_leash 49 = .ok (.getfield 35, 3) := by decide +kernel
theorem dX9_leash_52 : decode cX9_leash 52 = .ok (.bipush 18, 2) := by decide +kernel
theorem dX9_leash_54 : decode cX9_leash 54 = .ok (.dup2, 1) := by decide +kernel
theorem dX9_leash_55 : decode cX9_leash 55 = .ok (.iaload, 1) := by decide +kernel
theorem dX9_leash_56 : decode cX9_leash 56 = .ok (.iconst 1, 1) := by decide +kernel
theorem dX9_leash_57 : decode cX9_leash 57 = .ok (.iload_n 1, 1) := by decide +kernel
theorem dX9_leash_58 : decode cX9_leash 58 = .ok (.ishl, 1) := by decide +kernel
theorem dX9_leash_59 : decode cX9_leash 59 = .ok (.ixor, 1) := by decide +kernel
theorem dX9_leash_60 : decode cX9_leash 60 = .ok (.iastore, 1) := by decide +kernel
theorem dX9_leash_61 : decode cX9_leash 61 = .ok (.aload_n 0, 1) := by decide +kernel
theorem dX9_leash_62 : decode cX9_leash 62 = .ok (.getfield 35, 3) := by decide +kernel
theorem dX9_leash_65 : decode cX9_leash 65 = .ok (.bipush 18, 2) := by decide +kernel
theorem dX9_leash_67 : decode cX9_leash 67 = .ok (.iaload, 1) := by decide +kernel
theorem dX9_leash_68 : decode cX9_leash 68 = .ok (.iload_n 1, 1) := by decide +kernel
theorem dX9_leash_69 : decode cX9_leash 69 = .ok (.ishr, 1) := by decide +kernel
theorem dX9_leash_70 : decode cX9_leash 70 = .ok (.iconst 1, 1) := by decide +kernel
theorem dX9_leash_71 : decode cX9_leash 71 = .ok (.iand, 1) := by decide +kernel
theorem dX9_leash_72 : decode cX9_leash 72 = .ok (.ireturn, 1) := by decide +kernel
theorem dX9_man_0 : decode cX9_man 0 = .ok (.aload_n 0, 1) := by decide +kernel
theorem dX9_man_1 : decode cX9_man 1 = .ok (.iconst 0, 1) := by decide +kernel
theorem dX9_man_2 : decode cX9_man 2 = .ok (.putfield 66, 3) := by decide +kernel
theorem dX9_man_5 : decode cX9_man 5 = .ok (.aload_n 0, 1) := by decide +kernel
theorem dX9_man_6 : decode cX9_man 6 = .ok (.iload_n 1, 1) := by decide +kernel
theorem dX9_man_7 : decode cX9_man 7 = .ok (.invokevirtual 161, 3) := by decide +kernel
theorem dX9_man_10 : decode cX9_man 10 = .ok (.ifCond .eq 5, 3) := by decide +kernel
theorem dX9_man_13 : decode cX9_man 13 = .ok (.iconst (-1), 1) := by decide +kernel
theorem dX9_man_14 : decode cX9_man 14 = .ok (.ireturn, 1) := by decide +kernel
theorem dX9_man_15 : decode cX9_man 15 = .ok (.iload_n 2, 1) := by decide +kernel
theorem dX9_man_16 : decode cX9_man 16 = .ok (.tableswitch 89 0 4 #[36, 46, 56, 67, 79], 36) := by decide +kernel
theorem dX9_man_52 : decode cX9_man 52 = .ok (.aload_n 0, 1) := by decide +kernel
theorem dX9_man_53 : decode cX9_man 53 = .ok (.getfield 35, 3) := by decide +kernel
theorem dX9_man_56 : decode cX9_man 56 = .ok (.bipush 8, 2) := by decide +kernel
theorem dX9_man_58 : decode cX9_man 58 = .ok (.iload_n 1, 1) := by decide +kernel
theorem dX9_man_59 : decode cX9_man 59 = .ok (.iadd, 1) := by decide +kernel
theorem dX9_man_60 : decode cX9_man 60 = .ok (.iaload, 1) := by decide +kernel
theorem dX9_man_61 : decode cX9_man 61 = .ok (.ireturn, 1) := by decide +kernel
theorem dX9_man_62 : decode cX9_man 62 = .ok (.aload_n 0, 1) := by decide +kernel
theorem dX9_man_63 : decode cX9_man 63 = .ok (.getfield 35, 3) := by decide +kernel
theorem dX9_man_66 : decode cX9_man 66 = .ok (.bipush 13, 2) := by decide +kernel
theorem dX9_man_68 : decode cX9_man 68 = .ok (.iload_n 1, 1) := by decide +kernel
theorem dX9_man_69 : decode cX9_man 69 = .ok (.iadd, 1) := by decide +kernel
theorem dX9_man_70 : decode cX9_man 70 = .ok (.iaload, 1) := by decide +kernel
theorem dX9_man_71 : decode cX9_man 71 = .ok (.ireturn, 1) := by decide +kernel
theorem dX9_man_72 : decode cX9_man 72 = .ok (.aload_n 0, 1) := by decide +kernel
theorem dX9_man_73 : decode cX9_man 73 = .ok (.getfield 23, 3) := by decide +kernel
theorem dX9_man_76 : decode cX9_man 76 = .ok (.iconst 3, 1) := by decide +kernel
theorem dX9_man_77 : decode cX9_man 77 = .ok (.iload_n 1, 1) := by decide +kernel
theorem dX9_man_78 : decode cX9_man 78 = .ok (.imul, 1) := by decide +kernel
theorem dX9_man_79 : decode cX9_man 79 = .ok (.iconst 2, 1) := by decide +kernel
theorem dX9_man_80 : decode cX9_man 80 = .ok (.iadd, 1) := by decide +kernel
theorem dX9_man_81 : decode cX9_man 81 = .ok (.iaload, 1) := by decide +kernel
theorem dX9_man_82 : decode cX9_man 82 = .ok (.ireturn, 1) := by decide +kernel
theorem dX9_man_83 : decode cX9_man 83 = .ok (.aload_n 0, 1) := by decide +kernel
theorem dX9_man_84 : decode cX9_man 84 = .ok (.getfield 35, 3) := by decide +kernel
theorem dX9_man_87 : decode cX9_man 87 = .ok (.bipush 18, 2) := by decide +kernel
theorem dX9_man_89 : decode cX9_man 89 = .ok (.iaload, 1) := by decide +kernel
theorem dX9_man_90 : decode cX9_man 90 = .ok (.iload_n 1, 1) := by decide +kernel
theorem dX9_man_91 : decode cX9_man 91 = .ok (.ishr, 1) := by decide +kernel
theorem dX9_man_92 : decode cX9_man 92 = .ok (.iconst 1, 1) := by decide +kernel
theorem dX9_man_93 : decode cX9_man 93 = .ok (.iand, 1) := by decide +kernel
theorem dX9_man_94 : decode cX9_man 94 = .ok (.ireturn, 1) := by decide +kernel
theorem dX9_man_95 : decode cX9_man 95 = .ok (.aload_n 0, 1) := by decide +kernel
theorem dX9_man_96 : decode cX9_man 96 = .ok (.getfield 35, 3) := by decide +kernel
theorem dX9_man_99 : decode cX9_man 99 = .ok (.bipush 19, 2) := by decide +kernel
theorem dX9_man_101 : decode cX9_man 101 = .ok (.iload_n 1, 1) := by decide +kernel
theorem dX9_man_102 : decode cX9_man 102 = .ok (.iadd, 1) := by decide +kernel
theorem dX9_man_103 : decode cX9_man 103 = .ok (.iaload, 1) := by decide +kernel
theorem dX9_man_104 : decode cX9_man 104 = .ok (.ireturn, 1) := by decide +kernel
theorem dX9_man_105 : decode cX9_man 105 = .ok (.bipush (-2), 2) := by decide +kernel
theorem dX9_man_107 : decode cX9_man 107 = .ok (.ireturn, 1) := by decide +kernel
theorem dX9_many_0 : decode cX9_many 0 = .ok (.iconst 0, 1) := by decide +kernel
theorem dX9_many_1 : decode cX9_many 1 = .ok (.istore_n 1, 1) := by decide +kernel
theorem dX9_many_2 : decode cX9_many 2 = .ok (.iconst 0, 1) := by decide +kernel
theorem dX9_many_3 : decode cX9_many 3 = .ok (.istore_n 2, 1) := by decide +kernel
theorem dX9_many_4 : decode cX9_many 4 = .ok (.iload_n 2, 1) := by decide +kernel
theorem dX9_many_5 : decode cX9_many 5 = .ok (.iconst 5, 1) := by decide +kernel
theorem dX9_many_6 : decode cX9_many 6 = .ok (.if_icmp .ge 17, 3) := by decide +kernel
theorem dX9_many_9 : decode cX9_many 9 = .ok (.iload_n 1, 1) := by decide +kernel
theorem dX9_many_10 : decode cX9_many 10 = .ok (.iload_n 0, 1) := by decide +kernel
theorem dX9_many_11 : decode cX9_many 11 = .ok (.iload_n 2, 1) := by decide +kernel
theorem dX9_many_12 : decode cX9_many 12 = .ok (.ishr, 1) := by decide +kernel
theorem dX9_many_13 : decode cX9_many 13 = .ok (.iconst 1, 1) := by decide +kernel
theorem dX9_many_14 : decode cX9_many 14 = .ok (.iand, 1) := by decide +kernel
theorem dX9_many_15 : decode cX9_many 15 = .ok (.iadd, 1) := by decide +kernel
theorem dX9_many_16 : decode cX9_many 16 = .ok (.istore_n 1, 1) := by decide +kernel
theorem dX9_many_17 : decode cX9_many 17 = .ok (.iinc 2 1, 3) := by decide +kernel
theorem dX9_many_20 : decode cX9_many 20 = .ok (.goto (-16), 3) := by decide +kernel
theorem dX9_many_23 : decode cX9_many 23 = .ok (.iload_n 1, 1) := by decide +kernel
theorem dX9_many_24 : decode cX9_many 24 = .ok (.ireturn, 1) := by decide +kernel
theorem dX9_noDog_0 : decode cX9_noDog 0 = .ok (.iload_n 1, 1) := by decide +kernel
theorem dX9_noDog_1 : decode cX9_noDog 1 = .ok (.i2l, 1) := by decide +kernel
theorem dX9_noDog_2 : decode cX9_noDog 2 = .ok (.lconst 0, 1) := by decide +kernel
theorem dX9_noDog_3 : decode cX9_noDog 3 = .ok (.aload_n 0, 1) := by decide +kernel
theorem dX9_noDog_4 : decode cX9_noDog 4 = .ok (.getfield 69, 3) := by decide +kernel
theorem dX9_noDog_7 : decode cX9_noDog 7 = .ok (.iconst 1, 1) := by decide +kernel
theorem dX9_noDog_8 : decode cX9_noDog 8 = .ok (.isub, 1) := by decide +kernel
theorem dX9_noDog_9 : decode cX9_noDog 9 = .ok (.i2l, 1) := by decide +kernel
theorem dX9_noDog_10 : decode cX9_noDog 10 = .ok (.invokestatic 72, 3) := by decide +kernel
theorem dX9_noDog_13 : decode cX9_noDog 13 = .ok (.ifCond .ne 7, 3) := by decide +kernel
theorem dX9_noDog_16 : decode cX9_noDog 16 = .ok (.iconst 1, 1) := by decide +kernel
theorem dX9_noDog_17 : decode cX9_noDog 17 = .ok (.goto 4, 3) := by decide +kernel
theorem dX9_noDog_20 : decode cX9_noDog 20 = .ok (.iconst 0, 1) := by decide +kernel
theorem dX9_noDog_21 : decode cX9_noDog 21 = .ok (.ireturn, 1) := by decide +kernel
theorem dX9_noMan_0 : decode cX9_noMan 0 = .ok (.iload_n 1, 1) := by decide +kernel
theorem dX9_noMan_1 : decode cX9_noMan 1 = .ok (.i2l, 1) := by decide +kernel
theorem dX9_noMan_2 : decode cX9_noMan 2 = .ok (.lconst 0, 1) := by decide +kernel
theorem dX9_noMan_3 : decode cX9_noMan 3 = .ok (.aload_n 0, 1) := by decide +kernel
theorem dX9_noMan_4 : decode cX9_noMan 4 = .ok (.getfield 76, 3) := by decide +kernel
theorem dX9_noMan_7 : decode cX9_noMan 7 = .ok (.iconst 1, 1) := by decide +kernel
theorem dX9_noMan_8 : decode cX9_noMan 8 = .ok (.isub, 1) := by decide +kernel
theorem dX9_noMan_9 : decode cX9_noMan 9 = .ok (.i2l, 1) := by decide +kernel
theorem dX9_noMan_10 : decode cX9_noMan 10 = .ok (.invokestatic 72, 3) := by decide +kernel
theorem dX9_noMan_13 : decode cX9_noMan 13 = .ok (.ifCond .ne 7, 3) := by decide +kernel
theorem dX9_noMan_16 : decode cX9_noMan 16 = .ok (.iconst 1, 1) := by decide +kernel
theorem dX9_noMan_17 : decode cX9_noMan 17 = .ok (.goto 4, 3) := by decide +kernel
theorem dX9_noMan_20 : decode cX9_noMan 20 = .ok (.iconst 0, 1) := by decide +kernel
theorem dX9_noMan_21 : decode cX9_noMan 21 = .ok (.ireturn, 1) := by decide +kernel
theorem dX9_note_0 : decode cX9_note 0 = .ok (.aload_n 0, 1) := by decide +kernel
theorem dX9_note_1 : decode cX9_note 1 = .ok (.getfield 140, 3) := by decide +kernel
theorem dX9_note_4 : decode cX9_note 4 = .ok (.bipush 14, 2) := by decide +kernel
theorem dX9_note_6 : decode cX9_note 6 = .ok (.if_icmp .ne 43, 3) := by decide +kernel
theorem dX9_note_9 : decode cX9_note 9 = .ok (.iconst 0, 1) := by decide +kernel
theorem dX9_note_10 : decode cX9_note 10 = .ok (.istore_n 1, 1) := by decide +kernel
theorem dX9_note_11 : decode cX9_note 11 = .ok (.iload_n 1, 1) := by decide +kernel
theorem dX9_note_12 : decode cX9_note 12 = .ok (.sipush 325, 3) := by decide +kernel
theorem dX9_note_15 : decode cX9_note 15 = .ok (.if_icmp .ge 24, 3) := by decide +kernel
theorem dX9_note_18 : decode cX9_note 18 = .ok (.aload_n 0, 1) := by decide +kernel
theorem dX9_note_19 : decode cX9_note 19 = .ok (.getfield 41, 3) := by decide +kernel
theorem dX9_note_22 : decode cX9_note 22 = .ok (.iload_n 1, 1) := by decide +kernel
theorem dX9_note_23 : decode cX9_note 23 = .ok (.aload_n 0, 1) := by decide +kernel
theorem dX9_note_24 : decode cX9_note 24 = .ok (.getfield 41, 3) := by decide +kernel
theorem dX9_note_27 : decode cX9_note 27 = .ok (.iload_n 1, 1) := by decide +kernel
theorem dX9_note_28 : decode cX9_note 28 = .ok (.bipush 25, 2) := by decide +kernel
theorem dX9_note_30 : decode cX9_note 30 = .ok (.iadd, 1) := by decide +kernel
theorem dX9_note_31 : decode cX9_note 31 = .ok (.iaload, 1) := by decide +kernel
theorem dX9_note_32 : decode cX9_note 32 = .ok (.iastore, 1) := by decide +kernel
theorem dX9_note_33 : decode cX9_note 33 = .ok (.iinc 1 1, 3) := by decide +kernel
theorem dX9_note_36 : decode cX9_note 36 = .ok (.goto (-25), 3) := by decide +kernel
theorem dX9_note_39 : decode cX9_note 39 = .ok (.aload_n 0, 1) := by decide +kernel
theorem dX9_note_40 : decode cX9_note 40 = .ok (.dup, 1) := by decide +kernel
theorem dX9_note_41 : decode cX9_note 41 = .ok (.getfield 140, 3) := by decide +kernel
theorem dX9_note_44 : decode cX9_note 44 = .ok (.iconst 1, 1) := by decide +kernel
theorem dX9_note_45 : decode cX9_note 45 = .ok (.isub, 1) := by decide +kernel
theorem dX9_note_46 : decode cX9_note 46 = .ok (.putfield 140, 3) := by decide +kernel
theorem dX9_note_49 : decode cX9_note 49 = .ok (.iconst 0, 1) := by decide +kernel
theorem dX9_note_50 : decode cX9_note 50 = .ok (.istore_n 1, 1) := by decide +kernel
theorem dX9_note_51 : decode cX9_note 51 = .ok (.iload_n 1, 1) := by decide +kernel
theorem dX9_note_52 : decode cX9_note 52 = .ok (.bipush 25, 2) := by decide +kernel
theorem dX9_note_54 : decode cX9_note 54 = .ok (.if_icmp .ge 29, 3) := by decide +kernel
theorem dX9_note_57 : decode cX9_note 57 = .ok (.aload_n 0, 1) := by decide +kernel
theorem dX9_note_58 : decode cX9_note 58 = .ok (.getfield 41, 3) := by decide +kernel
theorem dX9_note_61 : decode cX9_note 61 = .ok (.bipush 25, 2) := by decide +kernel
theorem dX9_note_63 : decode cX9_note 63 = .ok (.aload_n 0, 1) := by decide +kernel
theorem dX9_note_64 : decode cX9_note 64 = .ok (.getfield 140, 3) := by decide +kernel
theorem dX9_note_67 : decode cX9_note 67 = .ok (.imul, 1) := by decide +kernel
theorem dX9_note_68 : decode cX9_note 68 = .ok (.iload_n 1, 1) := by decide +kernel
theorem dX9_note_69 : decode cX9_note 69 = .ok (.iadd, 1) := by decide +kernel
theorem dX9_note_70 : decode cX9_note 70 = .ok (.aload_n 0, 1) := by decide +kernel
theorem dX9_note_71 : decode cX9_note 71 = .ok (.getfield 35, 3) := by decide +kernel
theorem dX9_note_74 : decode cX9_note 74 = .ok (.iload_n 1, 1) := by decide +kernel
theorem dX9_note_75 : decode cX9_note 75 = .ok (.iaload, 1) := by decide +kernel
theorem dX9_note_76 : decode cX9_note 76 = .ok (.iastore, 1) := by decide +kernel
theorem dX9_note_77 : decode cX9_note 77 = .ok (.iinc 1 1, 3) := by decide +kernel
theorem dX9_note_80 : decode cX9_note 80 = .ok (.goto (-29), 3) := by decide +kernel
theorem dX9_note_83 : decode cX9_note 83 = .ok (.aload_n 0, 1) := by decide +kernel
theorem dX9_note_84 : decode cX9_note 84 = .ok (.dup, 1) := by decide +kernel
theorem dX9_note_85 : decode cX9_note 85 = .ok (.getfield 140, 3) := by decide +kernel
theorem dX9_note_88 : decode cX9_note 88 = .ok (.iconst 1, 1) := by decide +kernel
theorem dX9_note_89 : decode cX9_note 89 = .ok (.iadd, 1) := by decide +kernel
theorem dX9_note_90 : decode cX9_note 90 = .ok (.putfield 140, 3) := by decide +kernel
theorem dX9_note_93 : decode cX9_note 93 = .ok (.return_, 1) := by decide +kernel
theorem dX9_one_0 : decode cX9_one 0 = .ok (.aload_n 0, 1) := by decide +kernel
theorem dX9_one_1 : decode cX9_one 1 = .ok (.getfield 84, 3) := by decide +kernel
theorem dX9_one_4 : decode cX9_one 4 = .ok (.aload_n 0, 1) := by decide +kernel
theorem dX9_one_5 : decode cX9_one 5 = .ok (.getfield 81, 3) := by decide +kernel
theorem dX9_one_8 : decode cX9_one 8 = .ok (.if_icmp .ge 18, 3) := by decide +kernel
theorem dX9_one_11 : decode cX9_one 11 = .ok (.aload_n 0, 1) := by decide +kernel
theorem dX9_one_12 : decode cX9_one 12 = .ok (.getfield 7, 3) := by decide +kernel
theorem dX9_one_15 : decode cX9_one 15 = .ok (.aload_n 0, 1) := by decide +kernel
theorem dX9_one_16 : decode cX9_one 16 = .ok (.getfield 84, 3) := by decide +kernel
theorem dX9_one_19 : decode cX9_one 19 = .ok (.iaload, 1) := by decide +kernel
theorem dX9_one_20 : decode cX9_one 20 = .ok (.bipush 48, 2) := by decide +kernel
theorem dX9_one_22 : decode cX9_one 22 = .ok (.isub, 1) := by decide +kernel
theorem dX9_one_23 : decode cX9_one 23 = .ok (.goto 5, 3) := by decide +kernel
theorem dX9_one_26 : decode cX9_one 26 = .ok (.bipush (-9), 2) := by decide +kernel
theorem dX9_one_28 : decode cX9_one 28 = .ok (.istore_n 2, 1) := by decide +kernel
theorem dX9_one_29 : decode cX9_one 29 = .ok (.iload_n 2, 1) := by decide +kernel
theorem dX9_one_30 : decode cX9_one 30 = .ok (.i2l, 1) := by decide +kernel
theorem dX9_one_31 : decode cX9_one 31 = .ok (.lconst 0, 1) := by decide +kernel
theorem dX9_one_32 : decode cX9_one 32 = .ok (.ldc2_w 87, 3) := by decide +kernel
theorem dX9_one_35 : decode cX9_one 35 = .ok (.invokestatic 72, 3) := by decide +kernel
theorem dX9_one_38 : decode cX9_one 38 = .ok (.ifCond .eq 11, 3) := by decide +kernel
theorem dX9_one_41 : decode cX9_one 41 = .ok (.iload_n 1, 1) := by decide +kernel
theorem dX9_one_42 : decode cX9_one 42 = .ok (.iload_n 2, 1) := by decide +kernel
theorem dX9_one_43 : decode cX9_one 43 = .ok (.invokestatic 89, 3) := by decide +kernel
theorem dX9_one_46 : decode cX9_one 46 = .ok (.ifCond .ne 6, 3) := by decide +kernel
theorem dX9_one_49 : decode cX9_one 49 = .ok (.bipush (-9), 2) := by decide +kernel
theorem dX9_one_51 : decode cX9_one 51 = .ok (.ireturn, 1) := by decide +kernel
theorem dX9_one_52 : decode cX9_one 52 = .ok (.aload_n 0, 1) := by decide +kernel
theorem dX9_one_53 : decode cX9_one 53 = .ok (.dup, 1) := by decide +kernel
theorem dX9_one_54 : decode cX9_one 54 = .ok (.getfield 84, 3) := by decide +kernel
theorem dX9_one_57 : decode cX9_one 57 = .ok (.iconst 1, 1) := by decide +kernel
theorem dX9_one_58 : decode cX9_one 58 = .ok (.iadd, 1) := by decide +kernel
theorem dX9_one_59 : decode cX9_one 59 = .ok (.putfield 84, 3) := by decide +kernel
theorem dX9_one_62 : decode cX9_one 62 = .ok (.iload_n 2, 1) := by decide +kernel
theorem dX9_one_63 : decode cX9_one 63 = .ok (.ireturn, 1) := by decide +kernel
theorem dX9_ordain_0 : decode cX9_ordain 0 = .ok (.aload_n 0, 1) := by decide +kernel
theorem dX9_ordain_1 : decode cX9_ordain 1 = .ok (.iconst 0, 1) := by decide +kernel
theorem dX9_ordain_2 : decode cX9_ordain 2 = .ok (.putfield 66, 3) := by decide +kernel
theorem dX9_ordain_5 : decode cX9_ordain 5 = .ok (.aload_n 0, 1) := by decide +kernel
theorem dX9_ordain_6 : decode cX9_ordain 6 = .ok (.invokevirtual 137, 3) := by decide +kernel
theorem dX9_ordain_9 : decode cX9_ordain 9 = .ok (.bipush (-9), 2) := by decide +kernel
theorem dX9_ordain_11 : decode cX9_ordain 11 = .ok (.if_icmp .eq 6, 3) := by decide +kernel
theorem dX9_ordain_14 : decode cX9_ordain 14 = .ok (.bipush (-3), 2) := by decide +kernel
theorem dX9_ordain_16 : decode cX9_ordain 16 = .ok (.ireturn, 1) := by decide +kernel
theorem dX9_ordain_17 : decode cX9_ordain 17 = .ok (.aload_n 0, 1) := by decide +kernel
theorem dX9_ordain_18 : decode cX9_ordain 18 = .ok (.aload_n 0, 1) := by decide +kernel
theorem dX9_ordain_19 : decode cX9_ordain 19 = .ok (.getfield 100, 3) := by decide +kernel
theorem dX9_ordain_22 : decode cX9_ordain 22 = .ok (.putfield 69, 3) := by decide +kernel
theorem dX9_ordain_25 : decode cX9_ordain 25 = .ok (.aload_n 0, 1) := by decide +kernel
theorem dX9_ordain_26 : decode cX9_ordain 26 = .ok (.aload_n 0, 1) := by decide +kernel
theorem dX9_ordain_27 : decode cX9_ordain 27 = .ok (.getfield 103, 3) := by decide +kernel
theorem dX9_ordain_30 : decode cX9_ordain 30 = .ok (.putfield 76, 3) := by decide +kernel
theorem dX9_ordain_33 : decode cX9_ordain 33 = .ok (.aload_n 0, 1) := by decide +kernel
theorem dX9_ordain_34 : decode cX9_ordain 34 = .ok (.aload_n 0, 1) := by decide +kernel
theorem dX9_ordain_35 : decode cX9_ordain 35 = .ok (.getfield 97, 3) := by decide +kernel
theorem dX9_ordain_38 : decode cX9_ordain 38 = .ok (.putfield 13, 3) := by decide +kernel
theorem dX9_ordain_41 : decode cX9_ordain 41 = .ok (.iconst 0, 1) := by decide +kernel
theorem dX9_ordain_42 : decode cX9_ordain 42 = .ok (.istore_n 1, 1) := by decide +kernel
theorem dX9_ordain_43 : decode cX9_ordain 43 = .ok (.iload_n 1, 1) := by decide +kernel
theorem dX9_ordain_44 : decode cX9_ordain 44 = .ok (.iconst 4, 1) := by decide +kernel
theorem dX9_ordain_45 : decode cX9_ordain 45 = .ok (.if_icmp .ge 21, 3) := by decide +kernel
theorem dX9_ordain_48 : decode cX9_ordain 48 = .ok (.aload_n 0, 1) := by decide +kernel
theorem dX9_ordain_49 : decode cX9_ordain 49 = .ok (.getfield 17, 3) := by decide +kernel
theorem dX9_ordain_52 : decode cX9_ordain 52 = .ok (.iload_n 1, 1) := by decide +kernel
theorem dX9_ordain_53 : decode cX9_ordain 53 = .ok (.aload_n 0, 1) := by decide +kernel
theorem dX9_ordain_54 : decode cX9_ordain 54 = .ok (.getfield 26, 3) := by decide +kernel
theorem dX9_ordain_57 : decode cX9_ordain 57 = .ok (.iload_n 1, 1) := by decide +kernel
theorem dX9_ordain_58 : decode cX9_ordain 58 = .ok (.iaload, 1) := by decide +kernel
theorem dX9_ordain_59 : decode cX9_ordain 59 = .ok (.iastore, 1) := by decide +kernel
theorem dX9_ordain_60 : decode cX9_ordain 60 = .ok (.iinc 1 1, 3) := by decide +kernel
theorem dX9_ordain_63 : decode cX9_ordain 63 = .ok (.goto (-20), 3) := by decide +kernel
theorem dX9_ordain_66 : decode cX9_ordain 66 = .ok (.iconst 0, 1) := by decide +kernel
theorem dX9_ordain_67 : decode cX9_ordain 67 = .ok (.istore_n 1, 1) := by decide +kernel
theorem dX9_ordain_68 : decode cX9_ordain 68 = .ok (.iload_n 1, 1) := by decide +kernel
theorem dX9_ordain_69 : decode cX9_ordain 69 = .ok (.iconst 4, 1) := by decide +kernel
theorem dX9_ordain_70 : decode cX9_ordain 70 = .ok (.aload_n 0, 1) := by decide +kernel
theorem dX9_ordain_71 : decode cX9_ordain 71 = .ok (.getfield 69, 3) := by decide +kernel
theorem dX9_ordain_74 : decode cX9_ordain 74 = .ok (.imul, 1) := by decide +kernel
theorem dX9_ordain_75 : decode cX9_ordain 75 = .ok (.if_icmp .ge 21, 3) := by decide +kernel
theorem dX9_ordain_78 : decode cX9_ordain 78 = .ok (.aload_n 0, 1) := by decide +kernel
theorem dX9_ordain_79 : decode cX9_ordain 79 = .ok (.getfield 20, 3) := by decide +kernel
theorem dX9_ordain_82 : decode cX9_ordain 82 = .ok (.iload_n 1, 1) := by decide +kernel
theorem dX9_ordain_83 : decode cX9_ordain 83 = .ok (.aload_n 0, 1) := by decide +kernel
theorem dX9_ordain_84 : decode cX9_ordain 84 = .ok (.getfield 29, 3) := by decide +kernel
theorem dX9_ordain_87 : decode cX9_ordain 87 = .ok (.iload_n 1, 1) := by decide +kernel
theorem dX9_ordain_88 : decode cX9_ordain 88 = .ok (.iaload, 1) := by decide +kernel
theorem dX9_ordain_89 : decode cX9_ordain 89 = .ok (.iastore, 1) := by decide +kernel
theorem dX9_ordain_90 : decode cX9_ordain 90 = .ok (.iinc 1 1, 3) := by decide +kernel
theorem dX9_ordain_93 : decode cX9_ordain 93 = .ok (.goto (-25), 3) := by decide +kernel
theorem dX9_ordain_96 : decode cX9_ordain 96 = .ok (.iconst 0, 1) := by decide +kernel
theorem dX9_ordain_97 : decode cX9_ordain 97 = .ok (.istore_n 1, 1) := by decide +kernel
theorem dX9_ordain_98 : decode cX9_ordain 98 = .ok (.iload_n 1, 1) := by decide +kernel
theorem dX9_ordain_99 : decode cX9_ordain 99 = .ok (.iconst 3, 1) := by decide +kernel
theorem dX9_ordain_100 : decode cX9_ordain 100 = .ok (.aload_n 0, 1) := by decide +kernel
theorem dX9_ordain_101 : decode cX9_ordain 101 = .ok (.getfield 76, 3) := by decide +kernel
theorem dX9_ordain_104 : decode cX9_ordain 104 = .ok (.imul, 1) := by decide +kernel
theorem dX9_ordain_105 : decode cX9_ordain 105 = .ok (.if_icmp .ge 21, 3) := by decide +kernel
theorem dX9_ordain_108 : decode cX9_ordain 108 = .ok (.aload_n 0, 1) := by decide +kernel
theorem dX9_ordain_109 : decode cX9_ordain 109 = .ok (.getfield 23, 3) := by decide +kernel
theorem dX9_ordain_112 : decode cX9_ordain 112 = .ok (.iload_n 1, 1) := by decide +kernel
theorem dX9_ordain_113 : decode cX9_ordain 113 = .ok (.aload_n 0, 1) := by decide +kernel
theorem dX9_ordain_114 : decode cX9_ordain 114 = .ok (.getfield 32, 3) := by decide +kernel
theorem dX9_ordain_117 : decode cX9_ordain 117 = .ok (.iload_n 1, 1) := by decide +kernel
theorem dX9_ordain_118 : decode cX9_ordain 118 = .ok (.iaload, 1) := by decide +kernel
theorem dX9_ordain_119 : decode cX9_ordain 119 = .ok (.iastore, 1) := by decide +kernel
theorem dX9_ordain_120 : decode cX9_ordain 120 = .ok (.iinc 1 1, 3) := by decide +kernel
theorem dX9_ordain_123 : decode cX9_ordain 123 = .ok (.goto (-25), 3) := by decide +kernel
theorem dX9_ordain_126 : decode cX9_ordain 126 = .ok (.iconst 0, 1) := by decide +kernel
theorem dX9_ordain_127 : decode cX9_ordain 127 = .ok (.istore_n 1, 1) := by decide +kernel
theorem dX9_ordain_128 : decode cX9_ordain 128 = .ok (.iload_n 1, 1) := by decide +kernel
theorem dX9_ordain_129 : decode cX9_ordain 129 = .ok (.bipush 25, 2) := by decide +kernel
theorem dX9_ordain_131 : decode cX9_ordain 131 = .ok (.if_icmp .ge 16, 3) := by decide +kernel
theorem dX9_ordain_134 : decode cX9_ordain 134 = .ok (.aload_n 0, 1) := by decide +kernel
theorem dX9_ordain_135 : decode cX9_ordain 135 = .ok (.getfield 35, 3) := by decide +kernel
theorem dX9_ordain_138 : decode cX9_ordain 138 = .ok (.iload_n 1, 1) := by decide +kernel
theorem dX9_ordain_139 : decode cX9_ordain 139 = .ok (.iconst 0, 1) := by decide +kernel
theorem dX9_ordain_140 : decode cX9_ordain 140 = .ok (.iastore, 1) := by decide +kernel
theorem dX9_ordain_141 : decode cX9_ordain 141 = .ok (.iinc 1 1, 3) := by decide +kernel
theorem dX9_ordain_144 : decode cX9_ordain 144 = .ok (.goto (-16), 3) := by decide +kernel
theorem dX9_ordain_147 : decode cX9_ordain 147 = .ok (.iconst 0, 1) := by decide +kernel
theorem dX9_ordain_148 : decode cX9_ordain 148 = .ok (.istore_n 1, 1) := by decide +kernel
theorem dX9_ordain_149 : decode cX9_ordain 149 = .ok (.iload_n 1, 1) := by decide +kernel
theorem dX9_ordain_150 : decode cX9_ordain 150 = .ok (.aload_n 0, 1) := by decide +kernel
theorem dX9_ordain_151 : decode cX9_ordain 151 = .ok (.getfield 69, 3) := by decide +kernel
theorem dX9_ordain_154 : decode cX9_ordain 154 = .ok (.if_icmp .ge 23, 3) := by decide +kernel
theorem dX9_ordain_157 : decode cX9_ordain 157 = .ok (.aload_n 0, 1) := by decide +kernel
theorem dX9_ordain_158 : decode cX9_ordain 158 = .ok (.getfield 35, 3) := by decide +kernel
theorem dX9_ordain_161 : decode cX9_ordain 161 = .ok (.iload_n 1, 1) := by decide +kernel
theorem dX9_ordain_162 : decode cX9_ordain 162 = .ok (.aload_n 0, 1) := by decide +kernel
theorem dX9_ordain_163 : decode cX9_ordain 163 = .ok (.getfield 20, 3) := by decide +kernel
theorem dX9_ordain_166 : decode cX9_ordain 166 = .ok (.iconst 4, 1) := by decide +kernel
theorem dX9_ordain_167 : decode cX9_ordain 167 = .ok (.iload_n 1, 1) := by decide +kernel
theorem dX9_ordain_168 : decode cX9_ordain 168 = .ok (.imul, 1) := by decide +kernel
theorem dX9_ordain_169 : decode cX9_ordain 169 = .ok (.iaload, 1) := by decide +kernel
theorem dX9_ordain_170 : decode cX9_ordain 170 = .ok (.iastore, 1) := by decide +kernel
theorem dX9_ordain_171 : decode cX9_ordain 171 = .ok (.iinc 1 1, 3) := by decide +kernel
theorem dX9_ordain_174 : decode cX9_ordain 174 = .ok (.goto (-25), 3) := by decide +kernel
theorem dX9_ordain_177 : decode cX9_ordain 177 = .ok (.iconst 0, 1) := by decide +kernel
theorem dX9_ordain_178 : decode cX9_ordain 178 = .ok (.istore_n 1, 1) := by decide +kernel
theorem dX9_ordain_179 : decode cX9_ordain 179 = .ok (.iload_n 1, 1) := by decide +kernel
theorem dX9_ordain_180 : decode cX9_ordain 180 = .ok (.aload_n 0, 1) := by decide +kernel
theorem dX9_ordain_181 : decode cX9_ordain 181 = .ok (.getfield 76, 3) := by decide +kernel
theorem dX9_ordain_184 : decode cX9_ordain 184 = .ok (.if_icmp .ge 45, 3) := by decide +kernel
theorem dX9_ordain_187 : decode cX9_ordain 187 = .ok (.aload_n 0, 1) := by decide +kernel
theorem dX9_ordain_188 : decode cX9_ordain 188 = .ok (.getfield 35, 3) := by decide +kernel
theorem dX9_ordain_191 : decode cX9_ordain 191 = .ok (.bipush 8, 2) := by decide +kernel
theorem dX9_ordain_193 : decode cX9_ordain 193 = .ok (.iload_n 1, 1) := by decide +kernel
theorem dX9_ordain_194 : decode cX9_ordain 194 = .ok (.iadd, 1) := by decide +kernel
theorem dX9_ordain_195 : decode cX9_ordain 195 = .ok (.aload_n 0, 1) := by decide +kernel
theorem dX9_ordain_196 : decode cX9_ordain 196 = .ok (.getfield 23, 3) := by decide +kernel
theorem dX9_ordain_199 : decode cX9_ordain 199 = .ok (.iconst 3, 1) := by decide +kernel
theorem dX9_ordain_200 : decode cX9_ordain 200 = .ok (.iload_n 1, 1) := by decide +kernel
theorem dX9_ordain_201 : decode cX9_ordain 201 = .ok (.imul, 1) := by decide +kernel
theorem dX9_ordain_202 : decode cX9_ordain 202 = .ok (.iaload, 1) := by decide +kernel
theorem dX9_ordain_203 : decode cX9_ordain 203 = .ok (.iastore, 1) := by decide +kernel
theorem dX9_ordain_204 : decode cX9_ordain 204 = .ok (.aload_n 0, 1) := by decide +kernel
theorem dX9_ordain_205 : decode cX9_ordain 205 = .ok (.getfield 35, 3) := by decide +kernel
theorem dX9_ordain_208 : decode cX9_ordain 208 = .ok (.bipush 13, 2) := by decide +kernel
theorem dX9_ordain_210 : decode cX9_ordain 210 = .ok (.iload_n 1, 1) := by decide +kernel
theorem dX9_ordain_211 : decode cX9_ordain 211 = .ok (.iadd, 1) := by decide +kernel
theorem dX9_ordain_212 : decode cX9_ordain 212 = .ok (.aload_n 0, 1) := by decide +kernel
theorem dX9_ordain_213 : decode cX9_ordain 213 = .ok (.getfield 23, 3) := by decide +kernel
theorem dX9_ordain_216 : decode cX9_ordain 216 = .ok (.iconst 3, 1) := by decide +kernel
theorem dX9_ordain_217 : decode cX9_ordain 217 = .ok (.iload_n 1, 1) := by decide +kernel
theorem dX9_ordain_218 : decode cX9_ordain 218 = .ok (.imul, 1) := by decide +kernel
theorem dX9_ordain_219 : decode cX9_ordain 219 = .ok (.iconst 1, 1) := by decide +kernel
theorem dX9_ordain_220 : decode cX9_ordain 220 = .ok (.iadd, 1) := by decide +kernel
theorem dX9_ordain_221 : decode cX9_ordain 221 = .ok (.iaload, 1) := by decide +kernel
theorem dX9_ordain_222 : decode cX9_ordain 222 = .ok (.iastore, 1) := by decide +kernel
theorem dX9_ordain_223 : decode cX9_ordain 223 = .ok (.iinc 1 1, 3) := by decide +kernel
theorem dX9_ordain_226 : decode cX9_ordain 226 = .ok (.goto (-47), 3) := by decide +kernel
theorem dX9_ordain_229 : decode cX9_ordain 229 = .ok (.aload_n 0, 1) := by decide +kernel
theorem dX9_ordain_230 : decode cX9_ordain 230 = .ok (.iconst 0, 1) := by decide +kernel
theorem dX9_ordain_231 : decode cX9_ordain 231 = .ok (.putfield 140, 3) := by decide +kernel
theorem dX9_ordain_234 : decode cX9_ordain 234 = .ok (.aload_n 0, 1) := by decide +kernel
theorem dX9_ordain_235 : decode cX9_ordain 235 = .ok (.getfield 47, 3) := by decide +kernel
theorem dX9_ordain_238 : decode cX9_ordain 238 = .ok (.iconst 0, 1) := by decide +kernel
theorem dX9_ordain_239 : decode cX9_ordain 239 = .ok (.iconst 0, 1) := by decide +kernel
theorem dX9_ordain_240 : decode cX9_ordain 240 = .ok (.bastore, 1) := by decide +kernel
theorem dX9_ordain_241 : decode cX9_ordain 241 = .ok (.aload_n 0, 1) := by decide +kernel
theorem dX9_ordain_242 : decode cX9_ordain 242 = .ok (.getfield 47, 3) := by decide +kernel
theorem dX9_ordain_245 : decode cX9_ordain 245 = .ok (.iconst 1, 1) := by decide +kernel
theorem dX9_ordain_246 : decode cX9_ordain 246 = .ok (.iconst 0, 1) := by decide +kernel
theorem dX9_ordain_247 : decode cX9_ordain 247 = .ok (.bastore, 1) := by decide +kernel
theorem dX9_ordain_248 : decode cX9_ordain 248 = .ok (.bipush 10, 2) := by decide +kernel
theorem dX9_ordain_250 : decode cX9_ordain 250 = .ok (.aload_n 0, 1) := by decide +kernel
theorem dX9_ordain_251 : decode cX9_ordain 251 = .ok (.getfield 69, 3) := by decide +kernel
theorem dX9_ordain_254 : decode cX9_ordain 254 = .ok (.imul, 1) := by decide +kernel
theorem dX9_ordain_255 : decode cX9_ordain 255 = .ok (.aload_n 0, 1) := by decide +kernel
theorem dX9_ordain_256 : decode cX9_ordain 256 = .ok (.getfield 76, 3) := by decide +kernel
theorem dX9_ordain_259 : decode cX9_ordain 259 = .ok (.iadd, 1) := by decide +kernel
theorem dX9_ordain_260 : decode cX9_ordain 260 = .ok (.ireturn, 1) := by decide +kernel
theorem dX9_parents_0 : decode cX9_parents 0 = .ok (.iconst 0, 1) := by decide +kernel
theorem dX9_parents_1 : decode cX9_parents 1 = .ok (.istore_n 1, 1) := by decide +kernel
theorem dX9_parents_2 : decode cX9_parents 2 = .ok (.iconst 0, 1) := by decide +kernel
theorem dX9_parents_3 : decode cX9_parents 3 = .ok (.istore_n 2, 1) := by decide +kernel
theorem dX9_parents_4 : decode cX9_parents 4 = .ok (.iload_n 2, 1) := by decide +kernel
theorem dX9_parents_5 : decode cX9_parents 5 = .ok (.aload_n 0, 1) := by decide +kernel
theorem dX9_parents_6 : decode cX9_parents 6 = .ok (.getfield 100, 3) := by decide +kernel
theorem dX9_parents_9 : decode cX9_parents 9 = .ok (.if_icmp .ge 27, 3) := by decide +kernel
theorem dX9_parents_12 : decode cX9_parents 12 = .ok (.iload_n 1, 1) := by decide +kernel
theorem dX9_parents_13 : decode cX9_parents 13 = .ok (.aload_n 0, 1) := by decide +kernel
theorem dX9_parents_14 : decode cX9_parents 14 = .ok (.iload_n 2, 1) := by decide +kernel
theorem dX9_parents_15 : decode cX9_parents 15 = .ok (.invokevirtual 117, 3) := by decide +kernel
theorem dX9_parents_18 : decode cX9_parents 18 = .ok (.ifCond .eq 9, 3) := by decide +kernel
theorem dX9_parents_21 : decode cX9_parents 21 = .ok (.iconst 1, 1) := by decide +kernel
theorem dX9_parents_22 : decode cX9_parents 22 = .ok (.iload_n 2, 1) := by decide +kernel
theorem dX9_parents_23 : decode cX9_parents 23 = .ok (.ishl, 1) := by decide +kernel
theorem dX9_parents_24 : decode cX9_parents 24 = .ok (.goto 4, 3) := by decide +kernel
theorem dX9_parents_27 : decode cX9_parents 27 = .ok (.iconst 0, 1) := by decide +kernel
theorem dX9_parents_28 : decode cX9_parents 28 = .ok (.ior, 1) := by decide +kernel
theorem dX9_parents_29 : decode cX9_parents 29 = .ok (.istore_n 1, 1) := by decide +kernel
theorem dX9_parents_30 : decode cX9_parents 30 = .ok (.iinc 2 1, 3) := by decide +kernel
theorem dX9_parents_33 : decode cX9_parents 33 = .ok (.goto (-29), 3) := by decide +kernel
theorem dX9_parents_36 : decode cX9_parents 36 = .ok (.iload_n 1, 1) := by decide +kernel
theorem dX9_parents_37 : decode cX9_parents 37 = .ok (.ireturn, 1) := by decide +kernel
theorem dX9_pays_0 : decode cX9_pays 0 = .ok (.aload_n 0, 1) := by decide +kernel
theorem dX9_pays_1 : decode cX9_pays 1 = .ok (.iconst 0, 1) := by decide +kernel
theorem dX9_pays_2 : decode cX9_pays 2 = .ok (.putfield 66, 3) := by decide +kernel
theorem dX9_pays_5 : decode cX9_pays 5 = .ok (.iload_n 1, 1) := by decide +kernel
theorem dX9_pays_6 : decode cX9_pays 6 = .ok (.i2l, 1) := by decide +kernel
theorem dX9_pays_7 : decode cX9_pays 7 = .ok (.lconst 0, 1) := by decide +kernel
theorem dX9_pays_8 : decode cX9_pays 8 = .ok (.ldc2_w 206, 3) := by decide +kernel
theorem dX9_pays_11 : decode cX9_pays 11 = .ok (.invokestatic 72, 3) := by decide +kernel
theorem dX9_pays_14 : decode cX9_pays 14 = .ok (.ifCond .eq 15, 3) := by decide +kernel
theorem dX9_pays_17 : decode cX9_pays 17 = .ok (.iload_n 2, 1) := by decide +kernel
theorem dX9_pays_18 : decode cX9_pays 18 = .ok (.i2l, 1) := by decide +kernel
theorem dX9_pays_19 : decode cX9_pays 19 = .ok (.lconst 0, 1) := by decide +kernel
theorem dX9_pays_20 : decode cX9_pays 20 = .ok (.ldc2_w 180, 3) := by decide +kernel
theorem dX9_pays_23 : decode cX9_pays 23 = .ok (.invokestatic 72, 3) := by decide +kernel
theorem dX9_pays_26 : decode cX9_pays 26 = .ok (.ifCond .ne 6, 3) := by decide +kernel
theorem dX9_pays_29 : decode cX9_pays 29 = .ok (.bipush (-2), 2) := by decide +kernel
theorem dX9_pays_31 : decode cX9_pays 31 = .ok (.ireturn, 1) := by decide +kernel
theorem dX9_pays_32 : decode cX9_pays 32 = .ok (.aload_n 0, 1) := by decide +kernel
theorem dX9_pays_33 : decode cX9_pays 33 = .ok (.invokevirtual 182, 3) := by decide +kernel
theorem dX9_pays_36 : decode cX9_pays 36 = .ok (.iconst 0, 1) := by decide +kernel
theorem dX9_pays_37 : decode cX9_pays 37 = .ok (.istore_n 3, 1) := by decide +kernel
theorem dX9_pays_38 : decode cX9_pays 38 = .ok (.iload_n 3, 1) := by decide +kernel
theorem dX9_pays_39 : decode cX9_pays 39 = .ok (.iload_n 2, 1) := by decide +kernel
theorem dX9_pays_40 : decode cX9_pays 40 = .ok (.if_icmp .ge 20, 3) := by decide +kernel
theorem dX9_pays_43 : decode cX9_pays 43 = .ok (.aload_n 0, 1) := by decide +kernel
theorem dX9_pays_44 : decode cX9_pays 44 = .ok (.aload_n 0, 1) := by decide +kernel
theorem dX9_pays_45 : decode cX9_pays 45 = .ok (.getfield 38, 3) := by decide +kernel
theorem dX9_pays_48 : decode cX9_pays 48 = .ok (.iload_n 1, 1) := by decide +kernel
theorem dX9_pays_49 : decode cX9_pays 49 = .ok (.iconst 0, 1) := by decide +kernel
theorem dX9_pays_50 : decode cX9_pays 50 = .ok (.invokevirtual 176, 3) := by decide +kernel
theorem dX9_pays_53 : decode cX9_pays 53 = .ok (.pop, 1) := by decide +kernel
theorem dX9_pays_54 : decode cX9_pays 54 = .ok (.iinc 3 1, 3) := by decide +kernel
theorem dX9_pays_57 : decode cX9_pays 57 = .ok (.goto (-19), 3) := by decide +kernel
theorem dX9_pays_60 : decode cX9_pays 60 = .ok (.aload_n 0, 1) := by decide +kernel
theorem dX9_pays_61 : decode cX9_pays 61 = .ok (.getfield 38, 3) := by decide +kernel
theorem dX9_pays_64 : decode cX9_pays 64 = .ok (.invokestatic 146, 3) := by decide +kernel
theorem dX9_pays_67 : decode cX9_pays 67 = .ok (.aload_n 0, 1) := by decide +kernel
theorem dX9_pays_68 : decode cX9_pays 68 = .ok (.getfield 35, 3) := by decide +kernel
theorem dX9_pays_71 : decode cX9_pays 71 = .ok (.invokestatic 146, 3) := by decide +kernel
theorem dX9_pays_74 : decode cX9_pays 74 = .ok (.isub, 1) := by decide +kernel
theorem dX9_pays_75 : decode cX9_pays 75 = .ok (.ireturn, 1) := by decide +kernel
theorem dX9_power_0 : decode cX9_power 0 = .ok (.iconst 1, 1) := by decide +kernel
theorem dX9_power_1 : decode cX9_power 1 = .ok (.istore_n 2, 1) := by decide +kernel
theorem dX9_power_2 : decode cX9_power 2 = .ok (.iconst 0, 1) := by decide +kernel
theorem dX9_power_3 : decode cX9_power 3 = .ok (.istore_n 3, 1) := by decide +kernel
theorem dX9_power_4 : decode cX9_power 4 = .ok (.iload_n 3, 1) := by decide +kernel
theorem dX9_power_5 : decode cX9_power 5 = .ok (.iload_n 1, 1) := by decide +kernel
theorem dX9_power_6 : decode cX9_power 6 = .ok (.if_icmp .ge 13, 3) := by decide +kernel
theorem dX9_power_9 : decode cX9_power 9 = .ok (.iload_n 2, 1) := by decide +kernel
theorem dX9_power_10 : decode cX9_power 10 = .ok (.iload_n 0, 1) := by decide +kernel
theorem dX9_power_11 : decode cX9_power 11 = .ok (.imul, 1) := by decide +kernel
theorem dX9_power_12 : decode cX9_power 12 = .ok (.istore_n 2, 1) := by decide +kernel
theorem dX9_power_13 : decode cX9_power 13 = .ok (.iinc 3 1, 3) := by decide +kernel
theorem dX9_power_16 : decode cX9_power 16 = .ok (.goto (-12), 3) := by decide +kernel
theorem dX9_power_19 : decode cX9_power 19 = .ok (.iload_n 2, 1) := by decide +kernel
theorem dX9_power_20 : decode cX9_power 20 = .ok (.ireturn, 1) := by decide +kernel
theorem dX9_readDog_0 : decode cX9_readDog 0 = .ok (.iconst 4, 1) := by decide +kernel
theorem dX9_readDog_1 : decode cX9_readDog 1 = .ok (.aload_n 0, 1) := by decide +kernel
theorem dX9_readDog_2 : decode cX9_readDog 2 = .ok (.getfield 100, 3) := by decide +kernel
theorem dX9_readDog_5 : decode cX9_readDog 5 = .ok (.imul, 1) := by decide +kernel
theorem dX9_readDog_6 : decode cX9_readDog 6 = .ok (.istore_n 1, 1) := by decide +kernel
theorem dX9_readDog_7 : decode cX9_readDog 7 = .ok (.aload_n 0, 1) := by decide +kernel
theorem dX9_readDog_8 : decode cX9_readDog 8 = .ok (.iconst 0, 1) := by decide +kernel
theorem dX9_readDog_9 : decode cX9_readDog 9 = .ok (.iconst 4, 1) := by decide +kernel
theorem dX9_readDog_10 : decode cX9_readDog 10 = .ok (.invokevirtual 93, 3) := by decide +kernel
theorem dX9_readDog_13 : decode cX9_readDog 13 = .ok (.istore_n 2, 1) := by decide +kernel
theorem dX9_readDog_14 : decode cX9_readDog 14 = .ok (.iload_n 2, 1) := by decide +kernel
theorem dX9_readDog_15 : decode cX9_readDog 15 = .ok (.bipush (-9), 2) := by decide +kernel
theorem dX9_readDog_17 : decode cX9_readDog 17 = .ok (.if_icmp .ne 8, 3) := by decide +kernel
theorem dX9_readDog_20 : decode cX9_readDog 20 = .ok (.bipush (-9), 2) := by decide +kernel
theorem dX9_readDog_22 : decode cX9_readDog 22 = .ok (.goto 10, 3) := by decide +kernel
theorem dX9_readDog_25 : decode cX9_readDog 25 = .ok (.aload_n 0, 1) := by decide +kernel
theorem dX9_readDog_26 : decode cX9_readDog 26 = .ok (.iconst 0, 1) := by decide +kernel
theorem dX9_readDog_27 : decode cX9_readDog 27 = .ok (.bipush 9, 2) := by decide +kernel
theorem dX9_readDog_29 : decode cX9_readDog 29 = .ok (.invokevirtual 93, 3) := by decide +kernel
theorem dX9_readDog_32 : decode cX9_readDog 32 = .ok (.istore_n 3, 1) := by decide +kernel
theorem dX9_readDog_33 : decode cX9_readDog 33 = .ok (.iload_n 3, 1) := by decide +kernel
theorem dX9_readDog_34 : decode cX9_readDog 34 = .ok (.bipush (-9), 2) := by decide +kernel
theorem dX9_readDog_36 : decode cX9_readDog 36 = .ok (.if_icmp .ne 8, 3) := by decide +kernel
theorem dX9_readDog_39 : decode cX9_readDog 39 = .ok (.bipush (-9), 2) := by decide +kernel
theorem dX9_readDog_41 : decode cX9_readDog 41 = .ok (.goto 9, 3) := by decide +kernel
theorem dX9_readDog_44 : decode cX9_readDog 44 = .ok (.aload_n 0, 1) := by decide +kernel
theorem dX9_readDog_45 : decode cX9_readDog 45 = .ok (.iconst 1, 1) := by decide +kernel
theorem dX9_readDog_46 : decode cX9_readDog 46 = .ok (.iconst 3, 1) := by decide +kernel
theorem dX9_readDog_47 : decode cX9_readDog 47 = .ok (.invokevirtual 93, 3) := by decide +kernel
theorem dX9_readDog_50 : decode cX9_readDog 50 = .ok (.istore 4, 2) := by decide +kernel
theorem dX9_readDog_52 : decode cX9_readDog 52 = .ok (.iload 4, 2) := by decide +kernel
theorem dX9_readDog_54 : decode cX9_readDog 54 = .ok (.bipush (-9), 2) := by decide +kernel
theorem dX9_readDog_56 : decode cX9_readDog 56 = .ok (.if_icmp .ne 5, 3) := by decide +kernel
theorem dX9_readDog_59 : decode cX9_readDog 59 = .ok (.iconst 0, 1) := by decide +kernel
theorem dX9_readDog_60 : decode cX9_readDog 60 = .ok (.ireturn, 1) := by decide +kernel
theorem dX9_readDog_61 : decode cX9_readDog 61 = .ok (.aload_n 0, 1) := by decide +kernel
theorem dX9_readDog_62 : decode cX9_readDog 62 = .ok (.getfield 29, 3) := by decide +kernel
theorem dX9_readDog_65 : decode cX9_readDog 65 = .ok (.iload_n 1, 1) := by decide +kernel
theorem dX9_readDog_66 : decode cX9_readDog 66 = .ok (.iload_n 2, 1) := by decide +kernel
theorem dX9_readDog_67 : decode cX9_readDog 67 = .ok (.iastore, 1) := by decide +kernel
theorem dX9_readDog_68 : decode cX9_readDog 68 = .ok (.aload_n 0, 1) := by decide +kernel
theorem dX9_readDog_69 : decode cX9_readDog 69 = .ok (.getfield 29, 3) := by decide +kernel
theorem dX9_readDog_72 : decode cX9_readDog 72 = .ok (.iload_n 1, 1) := by decide +kernel
theorem dX9_readDog_73 : decode cX9_readDog 73 = .ok (.iconst 1, 1) := by decide +kernel
theorem dX9_readDog_74 : decode cX9_readDog 74 = .ok (.iadd, 1) := by decide +kernel
theorem dX9_readDog_75 : decode cX9_readDog 75 = .ok (.iload_n 3, 1) := by decide +kernel
theorem dX9_readDog_76 : decode cX9_readDog 76 = .ok (.iastore, 1) := by decide +kernel
theorem dX9_readDog_77 : decode cX9_readDog 77 = .ok (.aload_n 0, 1) := by decide +kernel
theorem dX9_readDog_78 : decode cX9_readDog 78 = .ok (.getfield 29, 3) := by decide +kernel
theorem dX9_readDog_81 : decode cX9_readDog 81 = .ok (.iload_n 1, 1) := by decide +kernel
theorem dX9_readDog_82 : decode cX9_readDog 82 = .ok (.iconst 2, 1) := by decide +kernel
theorem dX9_readDog_83 : decode cX9_readDog 83 = .ok (.iadd, 1) := by decide +kernel
theorem dX9_readDog_84 : decode cX9_readDog 84 = .ok (.iload 4, 2) := by decide +kernel
theorem dX9_readDog_86 : decode cX9_readDog 86 = .ok (.iastore, 1) := by decide +kernel
theorem dX9_readDog_87 : decode cX9_readDog 87 = .ok (.aload_n 0, 1) := by decide +kernel
theorem dX9_readDog_88 : decode cX9_readDog 88 = .ok (.getfield 29, 3) := by decide +kernel
theorem dX9_readDog_91 : decode cX9_readDog 91 = .ok (.iload_n 1, 1) := by decide +kernel
theorem dX9_readDog_92 : decode cX9_readDog 92 = .ok (.iconst 3, 1) := by decide +kernel
theorem dX9_readDog_93 : decode cX9_readDog 93 = .ok (.iadd, 1) := by decide +kernel
theorem dX9_readDog_94 : decode cX9_readDog 94 = .ok (.bipush (-9), 2) := by decide +kernel
theorem dX9_readDog_96 : decode cX9_readDog 96 = .ok (.iastore, 1) := by decide +kernel
theorem dX9_readDog_97 : decode cX9_readDog 97 = .ok (.aload_n 0, 1) := by decide +kernel
theorem dX9_readDog_98 : decode cX9_readDog 98 = .ok (.dup, 1) := by decide +kernel
theorem dX9_readDog_99 : decode cX9_readDog 99 = .ok (.getfield 100, 3) := by decide +kernel
theorem dX9_readDog_102 : decode cX9_readDog 102 = .ok (.iconst 1, 1) := by decide +kernel
theorem dX9_readDog_103 : decode cX9_readDog 103 = .ok (.iadd, 1) := by decide +kernel
theorem dX9_readDog_104 : decode cX9_readDog 104 = .ok (.putfield 100, 3) := by decide +kernel
theorem dX9_readDog_107 : decode cX9_readDog 107 = .ok (.iconst 1, 1) := by decide +kernel
theorem dX9_readDog_108 : decode cX9_readDog 108 = .ok (.ireturn, 1) := by decide +kernel
theorem dX9_readHead_0 : decode cX9_readHead 0 = .ok (.aload_n 0, 1) := by decide +kernel
theorem dX9_readHead_1 : decode cX9_readHead 1 = .ok (.iconst 0, 1) := by decide +kernel
theorem dX9_readHead_2 : decode cX9_readHead 2 = .ok (.iconst 1, 1) := by decide +kernel
theorem dX9_readHead_3 : decode cX9_readHead 3 = .ok (.invokevirtual 93, 3) := by decide +kernel
theorem dX9_readHead_6 : decode cX9_readHead 6 = .ok (.istore_n 1, 1) := by decide +kernel
theorem dX9_readHead_7 : decode cX9_readHead 7 = .ok (.iload_n 1, 1) := by decide +kernel
theorem dX9_readHead_8 : decode cX9_readHead 8 = .ok (.bipush (-9), 2) := by decide +kernel
theorem dX9_readHead_10 : decode cX9_readHead 10 = .ok (.if_icmp .ne 8, 3) := by decide +kernel
theorem dX9_readHead_13 : decode cX9_readHead 13 = .ok (.bipush (-9), 2) := by decide +kernel
theorem dX9_readHead_15 : decode cX9_readHead 15 = .ok (.goto 19, 3) := by decide +kernel
theorem dX9_readHead_18 : decode cX9_readHead 18 = .ok (.aload_n 0, 1) := by decide +kernel
theorem dX9_readHead_19 : decode cX9_readHead 19 = .ok (.iconst 0, 1) := by decide +kernel
theorem dX9_readHead_20 : decode cX9_readHead 20 = .ok (.iload_n 1, 1) := by decide +kernel
theorem dX9_readHead_21 : decode cX9_readHead 21 = .ok (.iconst 1, 1) := by decide +kernel
theorem dX9_readHead_22 : decode cX9_readHead 22 = .ok (.if_icmp .ne 7, 3) := by decide +kernel
theorem dX9_readHead_25 : decode cX9_readHead 25 = .ok (.iconst 2, 1) := by decide +kernel
theorem dX9_readHead_26 : decode cX9_readHead 26 = .ok (.goto 5, 3) := by decide +kernel
theorem dX9_readHead_29 : decode cX9_readHead 29 = .ok (.bipush 9, 2) := by decide +kernel
theorem dX9_readHead_31 : decode cX9_readHead 31 = .ok (.invokevirtual 93, 3) := by decide +kernel
theorem dX9_readHead_34 : decode cX9_readHead 34 = .ok (.istore_n 2, 1) := by decide +kernel
theorem dX9_readHead_35 : decode cX9_readHead 35 = .ok (.iload_n 2, 1) := by decide +kernel
theorem dX9_readHead_36 : decode cX9_readHead 36 = .ok (.bipush (-9), 2) := by decide +kernel
theorem dX9_readHead_38 : decode cX9_readHead 38 = .ok (.if_icmp .ne 5, 3) := by decide +kernel
theorem dX9_readHead_41 : decode cX9_readHead 41 = .ok (.iconst 0, 1) := by decide +kernel
theorem dX9_readHead_42 : decode cX9_readHead 42 = .ok (.ireturn, 1) := by decide +kernel
theorem dX9_readHead_43 : decode cX9_readHead 43 = .ok (.aload_n 0, 1) := by decide +kernel
theorem dX9_readHead_44 : decode cX9_readHead 44 = .ok (.bipush 10, 2) := by decide +kernel
theorem dX9_readHead_46 : decode cX9_readHead 46 = .ok (.iload_n 1, 1) := by decide +kernel
theorem dX9_readHead_47 : decode cX9_readHead 47 = .ok (.imul, 1) := by decide +kernel
theorem dX9_readHead_48 : decode cX9_readHead 48 = .ok (.iload_n 2, 1) := by decide +kernel
theorem dX9_readHead_49 : decode cX9_readHead 49 = .ok (.iadd, 1) := by decide +kernel
theorem dX9_readHead_50 : decode cX9_readHead 50 = .ok (.putfield 97, 3) := by decide +kernel
theorem dX9_readHead_53 : decode cX9_readHead 53 = .ok (.iconst 0, 1) := by decide +kernel
theorem dX9_readHead_54 : decode cX9_readHead 54 = .ok (.istore_n 3, 1) := by decide +kernel
theorem dX9_readHead_55 : decode cX9_readHead 55 = .ok (.iload_n 3, 1) := by decide +kernel
theorem dX9_readHead_56 : decode cX9_readHead 56 = .ok (.iconst 4, 1) := by decide +kernel
theorem dX9_readHead_57 : decode cX9_readHead 57 = .ok (.if_icmp .ge 34, 3) := by decide +kernel
theorem dX9_readHead_60 : decode cX9_readHead 60 = .ok (.aload_n 0, 1) := by decide +kernel
theorem dX9_readHead_61 : decode cX9_readHead 61 = .ok (.getfield 26, 3) := by decide +kernel
theorem dX9_readHead_64 : decode cX9_readHead 64 = .ok (.iload_n 3, 1) := by decide +kernel
theorem dX9_readHead_65 : decode cX9_readHead 65 = .ok (.aload_n 0, 1) := by decide +kernel
theorem dX9_readHead_66 : decode cX9_readHead 66 = .ok (.iconst 0, 1) := by decide +kernel
theorem dX9_readHead_67 : decode cX9_readHead 67 = .ok (.iconst 4, 1) := by decide +kernel
theorem dX9_readHead_68 : decode cX9_readHead 68 = .ok (.invokevirtual 93, 3) := by decide +kernel
theorem dX9_readHead_71 : decode cX9_readHead 71 = .ok (.iastore, 1) := by decide +kernel
theorem dX9_readHead_72 : decode cX9_readHead 72 = .ok (.aload_n 0, 1) := by decide +kernel
theorem dX9_readHead_73 : decode cX9_readHead 73 = .ok (.getfield 26, 3) := by decide +kernel
theorem dX9_readHead_76 : decode cX9_readHead 76 = .ok (.iload_n 3, 1) := by decide +kernel
theorem dX9_readHead_77 : decode cX9_readHead 77 = .ok (.iaload, 1) := by decide +kernel
theorem dX9_readHead_78 : decode cX9_readHead 78 = .ok (.bipush (-9), 2) := by decide +kernel
theorem dX9_readHead_80 : decode cX9_readHead 80 = .ok (.if_icmp .ne 5, 3) := by decide +kernel
theorem dX9_readHead_83 : decode cX9_readHead 83 = .ok (.iconst 0, 1) := by decide +kernel
theorem dX9_readHead_84 : decode cX9_readHead 84 = .ok (.ireturn, 1) := by decide +kernel
theorem dX9_readHead_85 : decode cX9_readHead 85 = .ok (.iinc 3 1, 3) := by decide +kernel
theorem dX9_readHead_88 : decode cX9_readHead 88 = .ok (.goto (-33), 3) := by decide +kernel
theorem dX9_readHead_91 : decode cX9_readHead 91 = .ok (.iconst 1, 1) := by decide +kernel
theorem dX9_readHead_92 : decode cX9_readHead 92 = .ok (.ireturn, 1) := by decide +kernel
theorem dX9_readLaw_0 : decode cX9_readLaw 0 = .ok (.aload_n 0, 1) := by decide +kernel
theorem dX9_readLaw_1 : decode cX9_readLaw 1 = .ok (.iconst 0, 1) := by decide +kernel
theorem dX9_readLaw_2 : decode cX9_readLaw 2 = .ok (.putfield 84, 3) := by decide +kernel
theorem dX9_readLaw_5 : decode cX9_readLaw 5 = .ok (.aload_n 0, 1) := by decide +kernel
theorem dX9_readLaw_6 : decode cX9_readLaw 6 = .ok (.iconst 0, 1) := by decide +kernel
theorem dX9_readLaw_7 : decode cX9_readLaw 7 = .ok (.putfield 100, 3) := by decide +kernel
theorem dX9_readLaw_10 : decode cX9_readLaw 10 = .ok (.aload_n 0, 1) := by decide +kernel
theorem dX9_readLaw_11 : decode cX9_readLaw 11 = .ok (.iconst 0, 1) := by decide +kernel
theorem dX9_readLaw_12 : decode cX9_readLaw 12 = .ok (.putfield 103, 3) := by decide +kernel
theorem dX9_readLaw_15 : decode cX9_readLaw 15 = .ok (.aload_n 0, 1) := by decide +kernel
theorem dX9_readLaw_16 : decode cX9_readLaw 16 = .ok (.getfield 81, 3) := by decide +kernel
theorem dX9_readLaw_19 : decode cX9_readLaw 19 = .ok (.ifCond .eq 14, 3) := by decide +kernel
theorem dX9_readLaw_22 : decode cX9_readLaw 22 = .ok (.aload_n 0, 1) := by decide +kernel
theorem dX9_readLaw_23 : decode cX9_readLaw 23 = .ok (.getfield 7, 3) := by decide +kernel
theorem dX9_readLaw_26 : decode cX9_readLaw 26 = .ok (.iconst 0, 1) := by decide +kernel
theorem dX9_readLaw_27 : decode cX9_readLaw 27 = .ok (.iaload, 1) := by decide +kernel
theorem dX9_readLaw_28 : decode cX9_readLaw 28 = .ok (.bipush 76, 2) := by decide +kernel
theorem dX9_readLaw_30 : decode cX9_readLaw 30 = .ok (.if_icmp .eq 5, 3) := by decide +kernel
theorem dX9_readLaw_33 : decode cX9_readLaw 33 = .ok (.iconst 0, 1) := by decide +kernel
theorem dX9_readLaw_34 : decode cX9_readLaw 34 = .ok (.ireturn, 1) := by decide +kernel
theorem dX9_readLaw_35 : decode cX9_readLaw 35 = .ok (.aload_n 0, 1) := by decide +kernel
theorem dX9_readLaw_36 : decode cX9_readLaw 36 = .ok (.iconst 1, 1) := by decide +kernel
theorem dX9_readLaw_37 : decode cX9_readLaw 37 = .ok (.putfield 84, 3) := by decide +kernel
theorem dX9_readLaw_40 : decode cX9_readLaw 40 = .ok (.aload_n 0, 1) := by decide +kernel
theorem dX9_readLaw_41 : decode cX9_readLaw 41 = .ok (.invokevirtual 131, 3) := by decide +kernel
theorem dX9_readLaw_44 : decode cX9_readLaw 44 = .ok (.ifCond .ne 8, 3) := by decide +kernel
theorem dX9_readLaw_47 : decode cX9_readLaw 47 = .ok (.aload_n 0, 1) := by decide +kernel
theorem dX9_readLaw_48 : decode cX9_readLaw 48 = .ok (.getfield 84, 3) := by decide +kernel
theorem dX9_readLaw_51 : decode cX9_readLaw 51 = .ok (.ireturn, 1) := by decide +kernel
theorem dX9_readLaw_52 : decode cX9_readLaw 52 = .ok (.aload_n 0, 1) := by decide +kernel
theorem dX9_readLaw_53 : decode cX9_readLaw 53 = .ok (.getfield 84, 3) := by decide +kernel
theorem dX9_readLaw_56 : decode cX9_readLaw 56 = .ok (.aload_n 0, 1) := by decide +kernel
theorem dX9_readLaw_57 : decode cX9_readLaw 57 = .ok (.getfield 81, 3) := by decide +kernel
theorem dX9_readLaw_60 : decode cX9_readLaw 60 = .ok (.if_icmp .ge 15, 3) := by decide +kernel
theorem dX9_readLaw_63 : decode cX9_readLaw 63 = .ok (.aload_n 0, 1) := by decide +kernel
theorem dX9_readLaw_64 : decode cX9_readLaw 64 = .ok (.invokevirtual 134, 3) := by decide +kernel
theorem dX9_readLaw_67 : decode cX9_readLaw 67 = .ok (.ifCond .ne (-15), 3) := by decide +kernel
theorem dX9_readLaw_70 : decode cX9_readLaw 70 = .ok (.aload_n 0, 1) := by decide +kernel
theorem dX9_readLaw_71 : decode cX9_readLaw 71 = .ok (.getfield 84, 3) := by decide +kernel
theorem dX9_readLaw_74 : decode cX9_readLaw 74 = .ok (.ireturn, 1) := by decide +kernel
theorem dX9_readLaw_75 : decode cX9_readLaw 75 = .ok (.bipush (-9), 2) := by decide +kernel
theorem dX9_readLaw_77 : decode cX9_readLaw 77 = .ok (.ireturn, 1) := by decide +kernel
theorem dX9_readMan_0 : decode cX9_readMan 0 = .ok (.aload_n 0, 1) := by decide +kernel
theorem dX9_readMan_1 : decode cX9_readMan 1 = .ok (.getfield 84, 3) := by decide +kernel
theorem dX9_readMan_4 : decode cX9_readMan 4 = .ok (.aload_n 0, 1) := by decide +kernel
theorem dX9_readMan_5 : decode cX9_readMan 5 = .ok (.getfield 81, 3) := by decide +kernel
theorem dX9_readMan_8 : decode cX9_readMan 8 = .ok (.if_icmp .ge 21, 3) := by decide +kernel
theorem dX9_readMan_11 : decode cX9_readMan 11 = .ok (.aload_n 0, 1) := by decide +kernel
theorem dX9_readMan_12 : decode cX9_readMan 12 = .ok (.getfield 7, 3) := by decide +kernel
theorem dX9_readMan_15 : decode cX9_readMan 15 = .ok (.aload_n 0, 1) := by decide +kernel
theorem dX9_readMan_16 : decode cX9_readMan 16 = .ok (.getfield 84, 3) := by decide +kernel
theorem dX9_readMan_19 : decode cX9_readMan 19 = .ok (.iaload, 1) := by decide +kernel
theorem dX9_readMan_20 : decode cX9_readMan 20 = .ok (.bipush 45, 2) := by decide +kernel
theorem dX9_readMan_22 : decode cX9_readMan 22 = .ok (.if_icmp .ne 7, 3) := by decide +kernel
theorem dX9_readMan_25 : decode cX9_readMan 25 = .ok (.iconst 1, 1) := by decide +kernel
theorem dX9_readMan_26 : decode cX9_readMan 26 = .ok (.goto 4, 3) := by decide +kernel
theorem dX9_readMan_29 : decode cX9_readMan 29 = .ok (.iconst 0, 1) := by decide +kernel
theorem dX9_readMan_30 : decode cX9_readMan 30 = .ok (.istore_n 1, 1) := by decide +kernel
theorem dX9_readMan_31 : decode cX9_readMan 31 = .ok (.aload_n 0, 1) := by decide +kernel
theorem dX9_readMan_32 : decode cX9_readMan 32 = .ok (.dup, 1) := by decide +kernel
theorem dX9_readMan_33 : decode cX9_readMan 33 = .ok (.getfield 84, 3) := by decide +kernel
theorem dX9_readMan_36 : decode cX9_readMan 36 = .ok (.iload_n 1, 1) := by decide +kernel
theorem dX9_readMan_37 : decode cX9_readMan 37 = .ok (.ifCond .eq 7, 3) := by decide +kernel
theorem dX9_readMan_40 : decode cX9_readMan 40 = .ok (.iconst 1, 1) := by decide +kernel
theorem dX9_readMan_41 : decode cX9_readMan 41 = .ok (.goto 4, 3) := by decide +kernel
theorem dX9_readMan_44 : decode cX9_readMan 44 = .ok (.iconst 0, 1) := by decide +kernel
theorem dX9_readMan_45 : decode cX9_readMan 45 = .ok (.iadd, 1) := by decide +kernel
theorem dX9_readMan_46 : decode cX9_readMan 46 = .ok (.putfield 84, 3) := by decide +kernel
theorem dX9_readMan_49 : decode cX9_readMan 49 = .ok (.iload_n 1, 1) := by decide +kernel
theorem dX9_readMan_50 : decode cX9_readMan 50 = .ok (.ifCond .eq 8, 3) := by decide +kernel
theorem dX9_readMan_53 : decode cX9_readMan 53 = .ok (.bipush (-9), 2) := by decide +kernel
theorem dX9_readMan_55 : decode cX9_readMan 55 = .ok (.goto 11, 3) := by decide +kernel
theorem dX9_readMan_58 : decode cX9_readMan 58 = .ok (.aload_n 0, 1) := by decide +kernel
theorem dX9_readMan_59 : decode cX9_readMan 59 = .ok (.aload_n 0, 1) := by decide +kernel
theorem dX9_readMan_60 : decode cX9_readMan 60 = .ok (.invokevirtual 106, 3) := by decide +kernel
theorem dX9_readMan_63 : decode cX9_readMan 63 = .ok (.invokevirtual 110, 3) := by decide +kernel
theorem dX9_readMan_66 : decode cX9_readMan 66 = .ok (.istore_n 2, 1) := by decide +kernel
theorem dX9_readMan_67 : decode cX9_readMan 67 = .ok (.iload_n 1, 1) := by decide +kernel
theorem dX9_readMan_68 : decode cX9_readMan 68 = .ok (.ifCond .ne 11, 3) := by decide +kernel
theorem dX9_readMan_71 : decode cX9_readMan 71 = .ok (.iload_n 2, 1) := by decide +kernel
theorem dX9_readMan_72 : decode cX9_readMan 72 = .ok (.bipush (-9), 2) := by decide +kernel
theorem dX9_readMan_74 : decode cX9_readMan 74 = .ok (.if_icmp .ne 5, 3) := by decide +kernel
theorem dX9_readMan_77 : decode cX9_readMan 77 = .ok (.iconst 0, 1) := by decide +kernel
theorem dX9_readMan_78 : decode cX9_readMan 78 = .ok (.ireturn, 1) := by decide +kernel
theorem dX9_readMan_79 : decode cX9_readMan 79 = .ok (.iload_n 1, 1) := by decide +kernel
theorem dX9_readMan_80 : decode cX9_readMan 80 = .ok (.ifCond .eq 12, 3) := by decide +kernel
theorem dX9_readMan_83 : decode cX9_readMan 83 = .ok (.aload_n 0, 1) := by decide +kernel
theorem dX9_readMan_84 : decode cX9_readMan 84 = .ok (.iconst 0, 1) := by decide +kernel
theorem dX9_readMan_85 : decode cX9_readMan 85 = .ok (.iconst 4, 1) := by decide +kernel
theorem dX9_readMan_86 : decode cX9_readMan 86 = .ok (.invokevirtual 93, 3) := by decide +kernel
theorem dX9_readMan_89 : decode cX9_readMan 89 = .ok (.goto 23, 3) := by decide +kernel
theorem dX9_readMan_92 : decode cX9_readMan 92 = .ok (.aload_n 0, 1) := by decide +kernel
theorem dX9_readMan_93 : decode cX9_readMan 93 = .ok (.aload_n 0, 1) := by decide +kernel
theorem dX9_readMan_94 : decode cX9_readMan 94 = .ok (.getfield 29, 3) := by decide +kernel
theorem dX9_readMan_97 : decode cX9_readMan 97 = .ok (.iconst 4, 1) := by decide +kernel
theorem dX9_readMan_98 : decode cX9_readMan 98 = .ok (.iload_n 2, 1) := by decide +kernel
theorem dX9_readMan_99 : decode cX9_readMan 99 = .ok (.imul, 1) := by decide +kernel
theorem dX9_readMan_100 : decode cX9_readMan 100 = .ok (.iaload, 1) := by decide +kernel
theorem dX9_readMan_101 : decode cX9_readMan 101 = .ok (.aload_n 0, 1) := by decide +kernel
theorem dX9_readMan_102 : decode cX9_readMan 102 = .ok (.getfield 29, 3) := by decide +kernel
theorem dX9_readMan_105 : decode cX9_readMan 105 = .ok (.iconst 4, 1) := by decide +kernel
theorem dX9_readMan_106 : decode cX9_readMan 106 = .ok (.iload_n 2, 1) := by decide +kernel
theorem dX9_readMan_107 : decode cX9_readMan 107 = .ok (.imul, 1) := by decide +kernel
theorem dX9_readMan_108 : decode cX9_readMan 108 = .ok (.iaload, 1) := by decide +kernel
theorem dX9_readMan_109 : decode cX9_readMan 109 = .ok (.invokevirtual 93, 3) := by decide +kernel
theorem dX9_readMan_112 : decode cX9_readMan 112 = .ok (.istore_n 3, 1) := by decide +kernel
theorem dX9_readMan_113 : decode cX9_readMan 113 = .ok (.iload_n 3, 1) := by decide +kernel
theorem dX9_readMan_114 : decode cX9_readMan 114 = .ok (.bipush (-9), 2) := by decide +kernel
theorem dX9_readMan_116 : decode cX9_readMan 116 = .ok (.if_icmp .ne 8, 3) := by decide +kernel
theorem dX9_readMan_119 : decode cX9_readMan 119 = .ok (.bipush (-9), 2) := by decide +kernel
theorem dX9_readMan_121 : decode cX9_readMan 121 = .ok (.goto 9, 3) := by decide +kernel
theorem dX9_readMan_124 : decode cX9_readMan 124 = .ok (.aload_n 0, 1) := by decide +kernel
theorem dX9_readMan_125 : decode cX9_readMan 125 = .ok (.iconst 0, 1) := by decide +kernel
theorem dX9_readMan_126 : decode cX9_readMan 126 = .ok (.iconst 1, 1) := by decide +kernel
theorem dX9_readMan_127 : decode cX9_readMan 127 = .ok (.invokevirtual 93, 3) := by decide +kernel
theorem dX9_readMan_130 : decode cX9_readMan 130 = .ok (.istore 4, 2) := by decide +kernel
theorem dX9_readMan_132 : decode cX9_readMan 132 = .ok (.iload 4, 2) := by decide +kernel
theorem dX9_readMan_134 : decode cX9_readMan 134 = .ok (.bipush (-9), 2) := by decide +kernel
theorem dX9_readMan_136 : decode cX9_readMan 136 = .ok (.if_icmp .ne 5, 3) := by decide +kernel
theorem dX9_readMan_139 : decode cX9_readMan 139 = .ok (.iconst 0, 1) := by decide +kernel
theorem dX9_readMan_140 : decode cX9_readMan 140 = .ok (.ireturn, 1) := by decide +kernel
theorem dX9_readMan_141 : decode cX9_readMan 141 = .ok (.aload_n 0, 1) := by decide +kernel
theorem dX9_readMan_142 : decode cX9_readMan 142 = .ok (.getfield 32, 3) := by decide +kernel
theorem dX9_readMan_145 : decode cX9_readMan 145 = .ok (.iconst 3, 1) := by decide +kernel
theorem dX9_readMan_146 : decode cX9_readMan 146 = .ok (.aload_n 0, 1) := by decide +kernel
theorem dX9_readMan_147 : decode cX9_readMan 147 = .ok (.getfield 103, 3) := by decide +kernel
theorem dX9_readMan_150 : decode cX9_readMan 150 = .ok (.imul, 1) := by decide +kernel
theorem dX9_readMan_151 : decode cX9_readMan 151 = .ok (.iload_n 2, 1) := by decide +kernel
theorem dX9_readMan_152 : decode cX9_readMan 152 = .ok (.iastore, 1) := by decide +kernel
theorem dX9_readMan_153 : decode cX9_readMan 153 = .ok (.aload_n 0, 1) := by decide +kernel
theorem dX9_readMan_154 : decode cX9_readMan 154 = .ok (.getfield 32, 3) := by decide +kernel
theorem dX9_readMan_157 : decode cX9_readMan 157 = .ok (.iconst 3, 1) := by decide +kernel
theorem dX9_readMan_158 : decode cX9_readMan 158 = .ok (.aload_n 0, 1) := by decide +kernel
theorem dX9_readMan_159 : decode cX9_readMan 159 = .ok (.getfield 103, 3) := by decide +kernel
theorem dX9_readMan_162 : decode cX9_readMan 162 = .ok (.imul, 1) := by decide +kernel
theorem dX9_readMan_163 : decode cX9_readMan 163 = .ok (.iconst 1, 1) := by decide +kernel
theorem dX9_readMan_164 : decode cX9_readMan 164 = .ok (.iadd, 1) := by decide +kernel
theorem dX9_readMan_165 : decode cX9_readMan 165 = .ok (.iload_n 3, 1) := by decide +kernel
theorem dX9_readMan_166 : decode cX9_readMan 166 = .ok (.iastore, 1) := by decide +kernel
theorem dX9_readMan_167 : decode cX9_readMan 167 = .ok (.aload_n 0, 1) := by decide +kernel
theorem dX9_readMan_168 : decode cX9_readMan 168 = .ok (.getfield 32, 3) := by decide +kernel
theorem dX9_readMan_171 : decode cX9_readMan 171 = .ok (.iconst 3, 1) := by decide +kernel
theorem dX9_readMan_172 : decode cX9_readMan 172 = .ok (.aload_n 0, 1) := by decide +kernel
theorem dX9_readMan_173 : decode cX9_readMan 173 = .ok (.getfield 103, 3) := by decide +kernel
theorem dX9_readMan_176 : decode cX9_readMan 176 = .ok (.imul, 1) := by decide +kernel
theorem dX9_readMan_177 : decode cX9_readMan 177 = .ok (.iconst 2, 1) := by decide +kernel
theorem dX9_readMan_178 : decode cX9_readMan 178 = .ok (.iadd, 1) := by decide +kernel
theorem dX9_readMan_179 : decode cX9_readMan 179 = .ok (.iload 4, 2) := by decide +kernel
theorem dX9_readMan_181 : decode cX9_readMan 181 = .ok (.iastore, 1) := by decide +kernel
theorem dX9_readMan_182 : decode cX9_readMan 182 = .ok (.aload_n 0, 1) := by decide +kernel
theorem dX9_readMan_183 : decode cX9_readMan 183 = .ok (.dup, 1) := by decide +kernel
theorem dX9_readMan_184 : decode cX9_readMan 184 = .ok (.getfield 103, 3) := by decide +kernel
theorem dX9_readMan_187 : decode cX9_readMan 187 = .ok (.iconst 1, 1) := by decide +kernel
theorem dX9_readMan_188 : decode cX9_readMan 188 = .ok (.iadd, 1) := by decide +kernel
theorem dX9_readMan_189 : decode cX9_readMan 189 = .ok (.putfield 103, 3) := by decide +kernel
theorem dX9_readMan_192 : decode cX9_readMan 192 = .ok (.iconst 1, 1) := by decide +kernel
theorem dX9_readMan_193 : decode cX9_readMan 193 = .ok (.ireturn, 1) := by decide +kernel
theorem dX9_readParent_0 : decode cX9_readParent 0 = .ok (.aload_n 0, 1) := by decide +kernel
theorem dX9_readParent_1 : decode cX9_readParent 1 = .ok (.aload_n 0, 1) := by decide +kernel
theorem dX9_readParent_2 : decode cX9_readParent 2 = .ok (.invokevirtual 120, 3) := by decide +kernel
theorem dX9_readParent_5 : decode cX9_readParent 5 = .ok (.invokevirtual 110, 3) := by decide +kernel
theorem dX9_readParent_8 : decode cX9_readParent 8 = .ok (.istore_n 1, 1) := by decide +kernel
theorem dX9_readParent_9 : decode cX9_readParent 9 = .ok (.iload_n 1, 1) := by decide +kernel
theorem dX9_readParent_10 : decode cX9_readParent 10 = .ok (.bipush (-9), 2) := by decide +kernel
theorem dX9_readParent_12 : decode cX9_readParent 12 = .ok (.if_icmp .ne 8, 3) := by decide +kernel
theorem dX9_readParent_15 : decode cX9_readParent 15 = .ok (.bipush (-9), 2) := by decide +kernel
theorem dX9_readParent_17 : decode cX9_readParent 17 = .ok (.goto 12, 3) := by decide +kernel
theorem dX9_readParent_20 : decode cX9_readParent 20 = .ok (.aload_n 0, 1) := by decide +kernel
theorem dX9_readParent_21 : decode cX9_readParent 21 = .ok (.aload_n 0, 1) := by decide +kernel
theorem dX9_readParent_22 : decode cX9_readParent 22 = .ok (.iload_n 1, 1) := by decide +kernel
theorem dX9_readParent_23 : decode cX9_readParent 23 = .ok (.invokevirtual 117, 3) := by decide +kernel
theorem dX9_readParent_26 : decode cX9_readParent 26 = .ok (.invokevirtual 110, 3) := by decide +kernel
theorem dX9_readParent_29 : decode cX9_readParent 29 = .ok (.istore_n 2, 1) := by decide +kernel
theorem dX9_readParent_30 : decode cX9_readParent 30 = .ok (.iload_n 2, 1) := by decide +kernel
theorem dX9_readParent_31 : decode cX9_readParent 31 = .ok (.bipush (-9), 2) := by decide +kernel
theorem dX9_readParent_33 : decode cX9_readParent 33 = .ok (.if_icmp .ne 5, 3) := by decide +kernel
theorem dX9_readParent_36 : decode cX9_readParent 36 = .ok (.iconst 0, 1) := by decide +kernel
theorem dX9_readParent_37 : decode cX9_readParent 37 = .ok (.ireturn, 1) := by decide +kernel
theorem dX9_readParent_38 : decode cX9_readParent 38 = .ok (.aload_n 0, 1) := by decide +kernel
theorem dX9_readParent_39 : decode cX9_readParent 39 = .ok (.getfield 29, 3) := by decide +kernel
theorem dX9_readParent_42 : decode cX9_readParent 42 = .ok (.iconst 4, 1) := by decide +kernel
theorem dX9_readParent_43 : decode cX9_readParent 43 = .ok (.iload_n 2, 1) := by decide +kernel
theorem dX9_readParent_44 : decode cX9_readParent 44 = .ok (.imul, 1) := by decide +kernel
theorem dX9_readParent_45 : decode cX9_readParent 45 = .ok (.iconst 3, 1) := by decide +kernel
theorem dX9_readParent_46 : decode cX9_readParent 46 = .ok (.iadd, 1) := by decide +kernel
theorem dX9_readParent_47 : decode cX9_readParent 47 = .ok (.iload_n 1, 1) := by decide +kernel
theorem dX9_readParent_48 : decode cX9_readParent 48 = .ok (.iastore, 1) := by decide +kernel
theorem dX9_readParent_49 : decode cX9_readParent 49 = .ok (.iconst 1, 1) := by decide +kernel
theorem dX9_readParent_50 : decode cX9_readParent 50 = .ok (.ireturn, 1) := by decide +kernel
theorem dX9_readPart_0 : decode cX9_readPart 0 = .ok (.aload_n 0, 1) := by decide +kernel
theorem dX9_readPart_1 : decode cX9_readPart 1 = .ok (.getfield 7, 3) := by decide +kernel
theorem dX9_readPart_4 : decode cX9_readPart 4 = .ok (.aload_n 0, 1) := by decide +kernel
theorem dX9_readPart_5 : decode cX9_readPart 5 = .ok (.getfield 84, 3) := by decide +kernel
theorem dX9_readPart_8 : decode cX9_readPart 8 = .ok (.iaload, 1) := by decide +kernel
theorem dX9_readPart_9 : decode cX9_readPart 9 = .ok (.istore_n 1, 1) := by decide +kernel
theorem dX9_readPart_10 : decode cX9_readPart 10 = .ok (.aload_n 0, 1) := by decide +kernel
theorem dX9_readPart_11 : decode cX9_readPart 11 = .ok (.dup, 1) := by decide +kernel
theorem dX9_readPart_12 : decode cX9_readPart 12 = .ok (.getfield 84, 3) := by decide +kernel
theorem dX9_readPart_15 : decode cX9_readPart 15 = .ok (.iconst 1, 1) := by decide +kernel
theorem dX9_readPart_16 : decode cX9_readPart 16 = .ok (.iadd, 1) := by decide +kernel
theorem dX9_readPart_17 : decode cX9_readPart 17 = .ok (.putfield 84, 3) := by decide +kernel
theorem dX9_readPart_20 : decode cX9_readPart 20 = .ok (.iload_n 1, 1) := by decide +kernel
theorem dX9_readPart_21 : decode cX9_readPart 21 = .ok (.bipush 68, 2) := by decide +kernel
theorem dX9_readPart_23 : decode cX9_readPart 23 = .ok (.if_icmp .ne 16, 3) := by decide +kernel
theorem dX9_readPart_26 : decode cX9_readPart 26 = .ok (.aload_n 0, 1) := by decide +kernel
theorem dX9_readPart_27 : decode cX9_readPart 27 = .ok (.getfield 100, 3) := by decide +kernel
theorem dX9_readPart_30 : decode cX9_readPart 30 = .ok (.iconst 4, 1) := by decide +kernel
theorem dX9_readPart_31 : decode cX9_readPart 31 = .ok (.if_icmp .ge 8, 3) := by decide +kernel
theorem dX9_readPart_34 : decode cX9_readPart 34 = .ok (.aload_n 0, 1) := by decide +kernel
theorem dX9_readPart_35 : decode cX9_readPart 35 = .ok (.invokevirtual 123, 3) := by decide +kernel
theorem dX9_readPart_38 : decode cX9_readPart 38 = .ok (.ireturn, 1) := by decide +kernel
theorem dX9_readPart_39 : decode cX9_readPart 39 = .ok (.iload_n 1, 1) := by decide +kernel
theorem dX9_readPart_40 : decode cX9_readPart 40 = .ok (.bipush 77, 2) := by decide +kernel
theorem dX9_readPart_42 : decode cX9_readPart 42 = .ok (.if_icmp .ne 16, 3) := by decide +kernel
theorem dX9_readPart_45 : decode cX9_readPart 45 = .ok (.aload_n 0, 1) := by decide +kernel
theorem dX9_readPart_46 : decode cX9_readPart 46 = .ok (.getfield 103, 3) := by decide +kernel
theorem dX9_readPart_49 : decode cX9_readPart 49 = .ok (.iconst 5, 1) := by decide +kernel
theorem dX9_readPart_50 : decode cX9_readPart 50 = .ok (.if_icmp .ge 8, 3) := by decide +kernel
theorem dX9_readPart_53 : decode cX9_readPart 53 = .ok (.aload_n 0, 1) := by decide +kernel
theorem dX9_readPart_54 : decode cX9_readPart 54 = .ok (.invokevirtual 126, 3) := by decide +kernel
theorem dX9_readPart_57 : decode cX9_readPart 57 = .ok (.ireturn, 1) := by decide +kernel
theorem dX9_readPart_58 : decode cX9_readPart 58 = .ok (.iload_n 1, 1) := by decide +kernel
theorem dX9_readPart_59 : decode cX9_readPart 59 = .ok (.bipush 80, 2) := by decide +kernel
theorem dX9_readPart_61 : decode cX9_readPart 61 = .ok (.if_icmp .ne 15, 3) := by decide +kernel
theorem dX9_readPart_64 : decode cX9_readPart 64 = .ok (.aload_n 0, 1) := by decide +kernel
theorem dX9_readPart_65 : decode cX9_readPart 65 = .ok (.invokevirtual 120, 3) := by decide +kernel
theorem dX9_readPart_68 : decode cX9_readPart 68 = .ok (.ifCond .eq 8, 3) := by decide +kernel
theorem dX9_readPart_71 : decode cX9_readPart 71 = .ok (.aload_n 0, 1) := by decide +kernel
theorem dX9_readPart_72 : decode cX9_readPart 72 = .ok (.invokevirtual 128, 3) := by decide +kernel
theorem dX9_readPart_75 : decode cX9_readPart 75 = .ok (.ireturn, 1) := by decide +kernel
theorem dX9_readPart_76 : decode cX9_readPart 76 = .ok (.aload_n 0, 1) := by decide +kernel
theorem dX9_readPart_77 : decode cX9_readPart 77 = .ok (.dup, 1) := by decide +kernel
theorem dX9_readPart_78 : decode cX9_readPart 78 = .ok (.getfield 84, 3) := by decide +kernel
theorem dX9_readPart_81 : decode cX9_readPart 81 = .ok (.iconst 1, 1) := by decide +kernel
theorem dX9_readPart_82 : decode cX9_readPart 82 = .ok (.isub, 1) := by decide +kernel
theorem dX9_readPart_83 : decode cX9_readPart 83 = .ok (.putfield 84, 3) := by decide +kernel
theorem dX9_readPart_86 : decode cX9_readPart 86 = .ok (.iconst 0, 1) := by decide +kernel
theorem dX9_readPart_87 : decode cX9_readPart 87 = .ok (.ireturn, 1) := by decide +kernel
theorem dX9_rests_0 : decode cX9_rests 0 = .ok (.aload_n 0, 1) := by decide +kernel
theorem dX9_rests_1 : decode cX9_rests 1 = .ok (.iconst 0, 1) := by decide +kernel
theorem dX9_rests_2 : decode cX9_rests 2 = .ok (.putfield 66, 3) := by decide +kernel
theorem dX9_rests_5 : decode cX9_rests 5 = .ok (.iload_n 1, 1) := by decide +kernel
theorem dX9_rests_6 : decode cX9_rests 6 = .ok (.i2l, 1) := by decide +kernel
theorem dX9_rests_7 : decode cX9_rests 7 = .ok (.lconst 0, 1) := by decide +kernel
theorem dX9_rests_8 : decode cX9_rests 8 = .ok (.ldc2_w 224, 3) := by decide +kernel
theorem dX9_rests_11 : decode cX9_rests 11 = .ok (.invokestatic 72, 3) := by decide +kernel
theorem dX9_rests_14 : decode cX9_rests 14 = .ok (.ifCond .eq 13, 3) := by decide +kernel
theorem dX9_rests_17 : decode cX9_rests 17 = .ok (.iload_n 2, 1) := by decide +kernel
theorem dX9_rests_18 : decode cX9_rests 18 = .ok (.i2l, 1) := by decide +kernel
theorem dX9_rests_19 : decode cX9_rests 19 = .ok (.lconst 0, 1) := by decide +kernel
theorem dX9_rests_20 : decode cX9_rests 20 = .ok (.lconst 1, 1) := by decide +kernel
theorem dX9_rests_21 : decode cX9_rests 21 = .ok (.invokestatic 72, 3) := by decide +kernel
theorem dX9_rests_24 : decode cX9_rests 24 = .ok (.ifCond .ne 6, 3) := by decide +kernel
theorem dX9_rests_27 : decode cX9_rests 27 = .ok (.bipush (-2), 2) := by decide +kernel
theorem dX9_rests_29 : decode cX9_rests 29 = .ok (.ireturn, 1) := by decide +kernel
theorem dX9_rests_30 : decode cX9_rests 30 = .ok (.iconst 0, 1) := by decide +kernel
theorem dX9_rests_31 : decode cX9_rests 31 = .ok (.istore_n 3, 1) := by decide +kernel
theorem dX9_rests_32 : decode cX9_rests 32 = .ok (.bipush (-9), 2) := by decide +kernel
theorem dX9_rests_34 : decode cX9_rests 34 = .ok (.istore 4, 2) := by decide +kernel
theorem dX9_rests_36 : decode cX9_rests 36 = .ok (.iconst 0, 1) := by decide +kernel
theorem dX9_rests_37 : decode cX9_rests 37 = .ok (.istore 5, 2) := by decide +kernel
theorem dX9_rests_39 : decode cX9_rests 39 = .ok (.iload 5, 2) := by decide +kernel
theorem dX9_rests_41 : decode cX9_rests 41 = .ok (.iconst 5, 1) := by decide +kernel
theorem dX9_rests_42 : decode cX9_rests 42 = .ok (.if_icmp .ge 166, 3) := by decide +kernel
theorem dX9_rests_45 : decode cX9_rests 45 = .ok (.iconst 0, 1) := by decide +kernel
theorem dX9_rests_46 : decode cX9_rests 46 = .ok (.istore 6, 2) := by decide +kernel
theorem dX9_rests_48 : decode cX9_rests 48 = .ok (.iload 6, 2) := by decide +kernel
theorem dX9_rests_50 : decode cX9_rests 50 = .ok (.iconst 5, 1) := by decide +kernel
theorem dX9_rests_51 : decode cX9_rests 51 = .ok (.if_icmp .ge 151, 3) := by decide +kernel
theorem dX9_rests_54 : decode cX9_rests 54 = .ok (.iload 5, 2) := by decide +kernel
theorem dX9_rests_56 : decode cX9_rests 56 = .ok (.iload 6, 2) := by decide +kernel
theorem dX9_rests_58 : decode cX9_rests 58 = .ok (.if_icmp .ne 12, 3) := by decide +kernel
theorem dX9_rests_61 : decode cX9_rests 61 = .ok (.iload_n 1, 1) := by decide +kernel
theorem dX9_rests_62 : decode cX9_rests 62 = .ok (.iload 6, 2) := by decide +kernel
theorem dX9_rests_64 : decode cX9_rests 64 = .ok (.invokestatic 226, 3) := by decide +kernel
theorem dX9_rests_67 : decode cX9_rests 67 = .ok (.goto 4, 3) := by decide +kernel
theorem dX9_rests_70 : decode cX9_rests 70 = .ok (.iconst 0, 1) := by decide +kernel
theorem dX9_rests_71 : decode cX9_rests 71 = .ok (.istore 7, 2) := by decide +kernel
theorem dX9_rests_73 : decode cX9_rests 73 = .ok (.iload 5, 2) := by decide +kernel
theorem dX9_rests_75 : decode cX9_rests 75 = .ok (.iload 6, 2) := by decide +kernel
theorem dX9_rests_77 : decode cX9_rests 77 = .ok (.if_icmp .ne 7, 3) := by decide +kernel
theorem dX9_rests_80 : decode cX9_rests 80 = .ok (.iconst 0, 1) := by decide +kernel
theorem dX9_rests_81 : decode cX9_rests 81 = .ok (.goto 9, 3) := by decide +kernel
theorem dX9_rests_84 : decode cX9_rests 84 = .ok (.iload_n 1, 1) := by decide +kernel
theorem dX9_rests_85 : decode cX9_rests 85 = .ok (.iload 6, 2) := by decide +kernel
theorem dX9_rests_87 : decode cX9_rests 87 = .ok (.invokestatic 226, 3) := by decide +kernel
theorem dX9_rests_90 : decode cX9_rests 90 = .ok (.istore 8, 2) := by decide +kernel
theorem dX9_rests_92 : decode cX9_rests 92 = .ok (.iload_n 1, 1) := by decide +kernel
theorem dX9_rests_93 : decode cX9_rests 93 = .ok (.iload 6, 2) := by decide +kernel
theorem dX9_rests_95 : decode cX9_rests 95 = .ok (.invokestatic 226, 3) := by decide +kernel
theorem dX9_rests_98 : decode cX9_rests 98 = .ok (.iload 7, 2) := by decide +kernel
theorem dX9_rests_100 : decode cX9_rests 100 = .ok (.if_icmp .gt 7, 3) := by decide +kernel
theorem dX9_rests_103 : decode cX9_rests 103 = .ok (.iconst 1, 1) := by decide +kernel
theorem dX9_rests_104 : decode cX9_rests 104 = .ok (.goto 4, 3) := by decide +kernel
theorem dX9_rests_107 : decode cX9_rests 107 = .ok (.iconst 0, 1) := by decide +kernel
theorem dX9_rests_108 : decode cX9_rests 108 = .ok (.istore 9, 2) := by decide +kernel
theorem dX9_rests_110 : decode cX9_rests 110 = .ok (.iconst 0, 1) := by decide +kernel
theorem dX9_rests_111 : decode cX9_rests 111 = .ok (.istore 10, 2) := by decide +kernel
theorem dX9_rests_113 : decode cX9_rests 113 = .ok (.iload 10, 2) := by decide +kernel
theorem dX9_rests_115 : decode cX9_rests 115 = .ok (.iconst 5, 1) := by decide +kernel
theorem dX9_rests_116 : decode cX9_rests 116 = .ok (.if_icmp .ge 43, 3) := by decide +kernel
theorem dX9_rests_119 : decode cX9_rests 119 = .ok (.iload 9, 2) := by decide +kernel
theorem dX9_rests_121 : decode cX9_rests 121 = .ok (.ifCond .eq 29, 3) := by decide +kernel
theorem dX9_rests_124 : decode cX9_rests 124 = .ok (.iload 10, 2) := by decide +kernel
theorem dX9_rests_126 : decode cX9_rests 126 = .ok (.iload 5, 2) := by decide +kernel
theorem dX9_rests_128 : decode cX9_rests 128 = .ok (.if_icmp .ne 7, 3) := by decide +kernel
theorem dX9_rests_131 : decode cX9_rests 131 = .ok (.iconst 0, 1) := by decide +kernel
theorem dX9_rests_132 : decode cX9_rests 132 = .ok (.goto 9, 3) := by decide +kernel
theorem dX9_rests_135 : decode cX9_rests 135 = .ok (.iload_n 1, 1) := by decide +kernel
theorem dX9_rests_136 : decode cX9_rests 136 = .ok (.iload 10, 2) := by decide +kernel
theorem dX9_rests_138 : decode cX9_rests 138 = .ok (.invokestatic 226, 3) := by decide +kernel
theorem dX9_rests_141 : decode cX9_rests 141 = .ok (.iload 8, 2) := by decide +kernel
theorem dX9_rests_143 : decode cX9_rests 143 = .ok (.if_icmp .gt 7, 3) := by decide +kernel
theorem dX9_rests_146 : decode cX9_rests 146 = .ok (.iconst 1, 1) := by decide +kernel
theorem dX9_rests_147 : decode cX9_rests 147 = .ok (.goto 4, 3) := by decide +kernel
theorem dX9_rests_150 : decode cX9_rests 150 = .ok (.iconst 0, 1) := by decide +kernel
theorem dX9_rests_151 : decode cX9_rests 151 = .ok (.istore 9, 2) := by decide +kernel
theorem dX9_rests_153 : decode cX9_rests 153 = .ok (.iinc 10 1, 3) := by decide +kernel
theorem dX9_rests_156 : decode cX9_rests 156 = .ok (.goto (-43), 3) := by decide +kernel
theorem dX9_rests_159 : decode cX9_rests 159 = .ok (.iload 9, 2) := by decide +kernel
theorem dX9_rests_161 : decode cX9_rests 161 = .ok (.ifCond .eq 18, 3) := by decide +kernel
theorem dX9_rests_164 : decode cX9_rests 164 = .ok (.iload_n 3, 1) := by decide +kernel
theorem dX9_rests_165 : decode cX9_rests 165 = .ok (.ifCond .ne 14, 3) := by decide +kernel
theorem dX9_rests_168 : decode cX9_rests 168 = .ok (.bipush 10, 2) := by decide +kernel
theorem dX9_rests_170 : decode cX9_rests 170 = .ok (.iload 5, 2) := by decide +kernel
theorem dX9_rests_172 : decode cX9_rests 172 = .ok (.imul, 1) := by decide +kernel
theorem dX9_rests_173 : decode cX9_rests 173 = .ok (.iload 6, 2) := by decide +kernel
theorem dX9_rests_175 : decode cX9_rests 175 = .ok (.iadd, 1) := by decide +kernel
theorem dX9_rests_176 : decode cX9_rests 176 = .ok (.goto 5, 3) := by decide +kernel
theorem dX9_rests_179 : decode cX9_rests 179 = .ok (.iload 4, 2) := by decide +kernel
theorem dX9_rests_181 : decode cX9_rests 181 = .ok (.istore 4, 2) := by decide +kernel
theorem dX9_rests_183 : decode cX9_rests 183 = .ok (.iload_n 3, 1) := by decide +kernel
theorem dX9_rests_184 : decode cX9_rests 184 = .ok (.iload 9, 2) := by decide +kernel
theorem dX9_rests_186 : decode cX9_rests 186 = .ok (.ifCond .eq 7, 3) := by decide +kernel
theorem dX9_rests_189 : decode cX9_rests 189 = .ok (.iconst 1, 1) := by decide +kernel
theorem dX9_rests_190 : decode cX9_rests 190 = .ok (.goto 4, 3) := by decide +kernel
theorem dX9_rests_193 : decode cX9_rests 193 = .ok (.iconst 0, 1) := by decide +kernel
theorem dX9_rests_194 : decode cX9_rests 194 = .ok (.iadd, 1) := by decide +kernel
theorem dX9_rests_195 : decode cX9_rests 195 = .ok (.istore_n 3, 1) := by decide +kernel
theorem dX9_rests_196 : decode cX9_rests 196 = .ok (.iinc 6 1, 3) := by decide +kernel
theorem dX9_rests_199 : decode cX9_rests 199 = .ok (.goto (-151), 3) := by decide +kernel
theorem dX9_rests_202 : decode cX9_rests 202 = .ok (.iinc 5 1, 3) := by decide +kernel
theorem dX9_rests_205 : decode cX9_rests 205 = .ok (.goto (-166), 3) := by decide +kernel
theorem dX9_rests_208 : decode cX9_rests 208 = .ok (.iload_n 2, 1) := by decide +kernel
theorem dX9_rests_209 : decode cX9_rests 209 = .ok (.ifCond .ne 7, 3) := by decide +kernel
theorem dX9_rests_212 : decode cX9_rests 212 = .ok (.iload_n 3, 1) := by decide +kernel
theorem dX9_rests_213 : decode cX9_rests 213 = .ok (.goto 5, 3) := by decide +kernel
theorem dX9_rests_216 : decode cX9_rests 216 = .ok (.iload 4, 2) := by decide +kernel
theorem dX9_rests_218 : decode cX9_rests 218 = .ok (.ireturn, 1) := by decide +kernel
theorem dX9_rooms_0 : decode cX9_rooms 0 = .ok (.iconst 0, 1) := by decide +kernel
theorem dX9_rooms_1 : decode cX9_rooms 1 = .ok (.istore_n 1, 1) := by decide +kernel
theorem dX9_rooms_2 : decode cX9_rooms 2 = .ok (.iconst 0, 1) := by decide +kernel
theorem dX9_rooms_3 : decode cX9_rooms 3 = .ok (.istore_n 2, 1) := by decide +kernel
theorem dX9_rooms_4 : decode cX9_rooms 4 = .ok (.iload_n 2, 1) := by decide +kernel
theorem dX9_rooms_5 : decode cX9_rooms 5 = .ok (.aload_n 0, 1) := by decide +kernel
theorem dX9_rooms_6 : decode cX9_rooms 6 = .ok (.getfield 100, 3) := by decide +kernel
theorem dX9_rooms_9 : decode cX9_rooms 9 = .ok (.if_icmp .ge 74, 3) := by decide +kernel
theorem dX9_rooms_12 : decode cX9_rooms 12 = .ok (.iconst 0, 1) := by decide +kernel
theorem dX9_rooms_13 : decode cX9_rooms 13 = .ok (.istore_n 3, 1) := by decide +kernel
theorem dX9_rooms_14 : decode cX9_rooms 14 = .ok (.iconst 0, 1) := by decide +kernel
theorem dX9_rooms_15 : decode cX9_rooms 15 = .ok (.istore 4, 2) := by decide +kernel
theorem dX9_rooms_17 : decode cX9_rooms 17 = .ok (.iload 4, 2) := by decide +kernel
theorem dX9_rooms_19 : decode cX9_rooms 19 = .ok (.aload_n 0, 1) := by decide +kernel
theorem dX9_rooms_20 : decode cX9_rooms 20 = .ok (.getfield 103, 3) := by decide +kernel
theorem dX9_rooms_23 : decode cX9_rooms 23 = .ok (.if_icmp .ge 30, 3) := by decide +kernel
theorem dX9_rooms_26 : decode cX9_rooms 26 = .ok (.iload_n 3, 1) := by decide +kernel
theorem dX9_rooms_27 : decode cX9_rooms 27 = .ok (.aload_n 0, 1) := by decide +kernel
theorem dX9_rooms_28 : decode cX9_rooms 28 = .ok (.getfield 32, 3) := by decide +kernel
theorem dX9_rooms_31 : decode cX9_rooms 31 = .ok (.iconst 3, 1) := by decide +kernel
theorem dX9_rooms_32 : decode cX9_rooms 32 = .ok (.iload 4, 2) := by decide +kernel
theorem dX9_rooms_34 : decode cX9_rooms 34 = .ok (.imul, 1) := by decide +kernel
theorem dX9_rooms_35 : decode cX9_rooms 35 = .ok (.iaload, 1) := by decide +kernel
theorem dX9_rooms_36 : decode cX9_rooms 36 = .ok (.iload_n 2, 1) := by decide +kernel
theorem dX9_rooms_37 : decode cX9_rooms 37 = .ok (.if_icmp .ne 7, 3) := by decide +kernel
theorem dX9_rooms_40 : decode cX9_rooms 40 = .ok (.iconst 1, 1) := by decide +kernel
theorem dX9_rooms_41 : decode cX9_rooms 41 = .ok (.goto 4, 3) := by decide +kernel
theorem dX9_rooms_44 : decode cX9_rooms 44 = .ok (.iconst 0, 1) := by decide +kernel
theorem dX9_rooms_45 : decode cX9_rooms 45 = .ok (.iadd, 1) := by decide +kernel
theorem dX9_rooms_46 : decode cX9_rooms 46 = .ok (.istore_n 3, 1) := by decide +kernel
theorem dX9_rooms_47 : decode cX9_rooms 47 = .ok (.iinc 4 1, 3) := by decide +kernel
theorem dX9_rooms_50 : decode cX9_rooms 50 = .ok (.goto (-33), 3) := by decide +kernel
theorem dX9_rooms_53 : decode cX9_rooms 53 = .ok (.iload_n 1, 1) := by decide +kernel
theorem dX9_rooms_54 : decode cX9_rooms 54 = .ok (.iload_n 3, 1) := by decide +kernel
theorem dX9_rooms_55 : decode cX9_rooms 55 = .ok (.aload_n 0, 1) := by decide +kernel
theorem dX9_rooms_56 : decode cX9_rooms 56 = .ok (.getfield 29, 3) := by decide +kernel
theorem dX9_rooms_59 : decode cX9_rooms 59 = .ok (.iconst 4, 1) := by decide +kernel
theorem dX9_rooms_60 : decode cX9_rooms 60 = .ok (.iload_n 2, 1) := by decide +kernel
theorem dX9_rooms_61 : decode cX9_rooms 61 = .ok (.imul, 1) := by decide +kernel
theorem dX9_rooms_62 : decode cX9_rooms 62 = .ok (.iconst 2, 1) := by decide +kernel
theorem dX9_rooms_63 : decode cX9_rooms 63 = .ok (.iadd, 1) := by decide +kernel
theorem dX9_rooms_64 : decode cX9_rooms 64 = .ok (.iaload, 1) := by decide +kernel
theorem dX9_rooms_65 : decode cX9_rooms 65 = .ok (.if_icmp .ge 9, 3) := by decide +kernel
theorem dX9_rooms_68 : decode cX9_rooms 68 = .ok (.iconst 1, 1) := by decide +kernel
theorem dX9_rooms_69 : decode cX9_rooms 69 = .ok (.iload_n 2, 1) := by decide +kernel
theorem dX9_rooms_70 : decode cX9_rooms 70 = .ok (.ishl, 1) := by decide +kernel
theorem dX9_rooms_71 : decode cX9_rooms 71 = .ok (.goto 4, 3) := by decide +kernel
theorem dX9_rooms_74 : decode cX9_rooms 74 = .ok (.iconst 0, 1) := by decide +kernel
theorem dX9_rooms_75 : decode cX9_rooms 75 = .ok (.ior, 1) := by decide +kernel
theorem dX9_rooms_76 : decode cX9_rooms 76 = .ok (.istore_n 1, 1) := by decide +kernel
theorem dX9_rooms_77 : decode cX9_rooms 77 = .ok (.iinc 2 1, 3) := by decide +kernel
theorem dX9_rooms_80 : decode cX9_rooms 80 = .ok (.goto (-76), 3) := by decide +kernel
theorem dX9_rooms_83 : decode cX9_rooms 83 = .ok (.iload_n 1, 1) := by decide +kernel
theorem dX9_rooms_84 : decode cX9_rooms 84 = .ok (.ireturn, 1) := by decide +kernel
theorem dX9_routes_0 : decode cX9_routes 0 = .ok (.aload_n 0, 1) := by decide +kernel
theorem dX9_routes_1 : decode cX9_routes 1 = .ok (.iconst 0, 1) := by decide +kernel
theorem dX9_routes_2 : decode cX9_routes 2 = .ok (.putfield 66, 3) := by decide +kernel
theorem dX9_routes_5 : decode cX9_routes 5 = .ok (.aload_n 0, 1) := by decide +kernel
theorem dX9_routes_6 : decode cX9_routes 6 = .ok (.iload_n 1, 1) := by decide +kernel
theorem dX9_routes_7 : decode cX9_routes 7 = .ok (.invokevirtual 153, 3) := by decide +kernel
theorem dX9_routes_10 : decode cX9_routes 10 = .ok (.ifCond .eq 5, 3) := by decide +kernel
theorem dX9_routes_13 : decode cX9_routes 13 = .ok (.iconst (-1), 1) := by decide +kernel
theorem dX9_routes_14 : decode cX9_routes 14 = .ok (.ireturn, 1) := by decide +kernel
theorem dX9_routes_15 : decode cX9_routes 15 = .ok (.iload_n 2, 1) := by decide +kernel
theorem dX9_routes_16 : decode cX9_routes 16 = .ok (.i2l, 1) := by decide +kernel
theorem dX9_routes_17 : decode cX9_routes 17 = .ok (.lconst 1, 1) := by decide +kernel
theorem dX9_routes_18 : decode cX9_routes 18 = .ok (.ldc2_w 191, 3) := by decide +kernel
theorem dX9_routes_21 : decode cX9_routes 21 = .ok (.invokestatic 72, 3) := by decide +kernel
theorem dX9_routes_24 : decode cX9_routes 24 = .ok (.ifCond .eq 26, 3) := by decide +kernel
theorem dX9_routes_27 : decode cX9_routes 27 = .ok (.iload_n 3, 1) := by decide +kernel
theorem dX9_routes_28 : decode cX9_routes 28 = .ok (.i2l, 1) := by decide +kernel
theorem dX9_routes_29 : decode cX9_routes 29 = .ok (.lconst 0, 1) := by decide +kernel
theorem dX9_routes_30 : decode cX9_routes 30 = .ok (.ldc2_w 193, 3) := by decide +kernel
theorem dX9_routes_33 : decode cX9_routes 33 = .ok (.invokestatic 72, 3) := by decide +kernel
theorem dX9_routes_36 : decode cX9_routes 36 = .ok (.ifCond .eq 14, 3) := by decide +kernel
theorem dX9_routes_39 : decode cX9_routes 39 = .ok (.iload 4, 2) := by decide +kernel
theorem dX9_routes_41 : decode cX9_routes 41 = .ok (.i2l, 1) := by decide +kernel
theorem dX9_routes_42 : decode cX9_routes 42 = .ok (.lconst 0, 1) := by decide +kernel
theorem dX9_routes_43 : decode cX9_routes 43 = .ok (.lconst 1, 1) := by decide +kernel
theorem dX9_routes_44 : decode cX9_routes 44 = .ok (.invokestatic 72, 3) := by decide +kernel
theorem dX9_routes_47 : decode cX9_routes 47 = .ok (.ifCond .ne 6, 3) := by decide +kernel
theorem dX9_routes_50 : decode cX9_routes 50 = .ok (.bipush (-2), 2) := by decide +kernel
theorem dX9_routes_52 : decode cX9_routes 52 = .ok (.ireturn, 1) := by decide +kernel
theorem dX9_routes_53 : decode cX9_routes 53 = .ok (.iconst 0, 1) := by decide +kernel
theorem dX9_routes_54 : decode cX9_routes 54 = .ok (.istore 5, 2) := by decide +kernel
theorem dX9_routes_56 : decode cX9_routes 56 = .ok (.aload_n 0, 1) := by decide +kernel
theorem dX9_routes_57 : decode cX9_routes 57 = .ok (.bipush (-9), 2) := by decide +kernel
theorem dX9_routes_59 : decode cX9_routes 59 = .ok (.putfield 195, 3) := by decide +kernel
theorem dX9_routes_62 : decode cX9_routes 62 = .ok (.iconst 0, 1) := by decide +kernel
theorem dX9_routes_63 : decode cX9_routes 63 = .ok (.istore 6, 2) := by decide +kernel
theorem dX9_routes_65 : decode cX9_routes 65 = .ok (.iload 6, 2) := by decide +kernel
theorem dX9_routes_67 : decode cX9_routes 67 = .ok (.iconst 3, 1) := by decide +kernel
theorem dX9_routes_68 : decode cX9_routes 68 = .ok (.iload_n 2, 1) := by decide +kernel
theorem dX9_routes_69 : decode cX9_routes 69 = .ok (.invokestatic 188, 3) := by decide +kernel
theorem dX9_routes_72 : decode cX9_routes 72 = .ok (.if_icmp .ge 90, 3) := by decide +kernel
theorem dX9_routes_75 : decode cX9_routes 75 = .ok (.aload_n 0, 1) := by decide +kernel
theorem dX9_routes_76 : decode cX9_routes 76 = .ok (.iload_n 1, 1) := by decide +kernel
theorem dX9_routes_77 : decode cX9_routes 77 = .ok (.iload_n 2, 1) := by decide +kernel
theorem dX9_routes_78 : decode cX9_routes 78 = .ok (.iload 6, 2) := by decide +kernel
theorem dX9_routes_80 : decode cX9_routes 80 = .ok (.iconst 0, 1) := by decide +kernel
theorem dX9_routes_81 : decode cX9_routes 81 = .ok (.invokevirtual 198, 3) := by decide +kernel
theorem dX9_routes_84 : decode cX9_routes 84 = .ok (.ifCond .eq 72, 3) := by decide +kernel
theorem dX9_routes_87 : decode cX9_routes 87 = .ok (.aload_n 0, 1) := by decide +kernel
theorem dX9_routes_88 : decode cX9_routes 88 = .ok (.getfield 38, 3) := by decide +kernel
theorem dX9_routes_91 : decode cX9_routes 91 = .ok (.iload_n 1, 1) := by decide +kernel
theorem dX9_routes_92 : decode cX9_routes 92 = .ok (.iaload, 1) := by decide +kernel
theorem dX9_routes_93 : decode cX9_routes 93 = .ok (.iload_n 3, 1) := by decide +kernel
theorem dX9_routes_94 : decode cX9_routes 94 = .ok (.if_icmp .ne 62, 3) := by decide +kernel
theorem dX9_routes_97 : decode cX9_routes 97 = .ok (.iconst 0, 1) := by decide +kernel
theorem dX9_routes_98 : decode cX9_routes 98 = .ok (.istore 7, 2) := by decide +kernel
theorem dX9_routes_100 : decode cX9_routes 100 = .ok (.iload_n 2, 1) := by decide +kernel
theorem dX9_routes_101 : decode cX9_routes 101 = .ok (.iconst 1, 1) := by decide +kernel
theorem dX9_routes_102 : decode cX9_routes 102 = .ok (.isub, 1) := by decide +kernel
theorem dX9_routes_103 : decode cX9_routes 103 = .ok (.istore 8, 2) := by decide +kernel
theorem dX9_routes_105 : decode cX9_routes 105 = .ok (.iload 8, 2) := by decide +kernel
theorem dX9_routes_107 : decode cX9_routes 107 = .ok (.ifCond .lt 28, 3) := by decide +kernel
theorem dX9_routes_110 : decode cX9_routes 110 = .ok (.bipush 10, 2) := by decide +kernel
theorem dX9_routes_112 : decode cX9_routes 112 = .ok (.iload 7, 2) := by decide +kernel
theorem dX9_routes_114 : decode cX9_routes 114 = .ok (.imul, 1) := by decide +kernel
theorem dX9_routes_115 : decode cX9_routes 115 = .ok (.iload 6, 2) := by decide +kernel
theorem dX9_routes_117 : decode cX9_routes 117 = .ok (.iconst 3, 1) := by decide +kernel
theorem dX9_routes_118 : decode cX9_routes 118 = .ok (.iload 8, 2) := by decide +kernel
theorem dX9_routes_120 : decode cX9_routes 120 = .ok (.invokestatic 188, 3) := by decide +kernel
theorem dX9_routes_123 : decode cX9_routes 123 = .ok (.idiv, 1) := by decide +kernel
theorem dX9_routes_124 : decode cX9_routes 124 = .ok (.iconst 3, 1) := by decide +kernel
theorem dX9_routes_125 : decode cX9_routes 125 = .ok (.irem, 1) := by decide +kernel
theorem dX9_routes_126 : decode cX9_routes 126 = .ok (.iadd, 1) := by decide +kernel
theorem dX9_routes_127 : decode cX9_routes 127 = .ok (.istore 7, 2) := by decide +kernel
theorem dX9_routes_129 : decode cX9_routes 129 = .ok (.iinc 8 (-1), 3) := by decide +kernel
theorem dX9_routes_132 : decode cX9_routes 132 = .ok (.goto (-27), 3) := by decide +kernel
theorem dX9_routes_135 : decode cX9_routes 135 = .ok (.aload_n 0, 1) := by decide +kernel
theorem dX9_routes_136 : decode cX9_routes 136 = .ok (.iload 5, 2) := by decide +kernel
theorem dX9_routes_138 : decode cX9_routes 138 = .ok (.ifCond .ne 8, 3) := by decide +kernel
theorem dX9_routes_141 : decode cX9_routes 141 = .ok (.iload 7, 2) := by decide +kernel
theorem dX9_routes_143 : decode cX9_routes 143 = .ok (.goto 7, 3) := by decide +kernel
theorem dX9_routes_146 : decode cX9_routes 146 = .ok (.aload_n 0, 1) := by decide +kernel
theorem dX9_routes_147 : decode cX9_routes 147 = .ok (.getfield 195, 3) := by decide +kernel
theorem dX9_routes_150 : decode cX9_routes 150 = .ok (.putfield 195, 3) := by decide +kernel
theorem dX9_routes_153 : decode cX9_routes 153 = .ok (.iinc 5 1, 3) := by decide +kernel
theorem dX9_routes_156 : decode cX9_routes 156 = .ok (.iinc 6 1, 3) := by decide +kernel
theorem dX9_routes_159 : decode cX9_routes 159 = .ok (.goto (-94), 3) := by decide +kernel
theorem dX9_routes_162 : decode cX9_routes 162 = .ok (.iload 4, 2) := by decide +kernel
theorem dX9_routes_164 : decode cX9_routes 164 = .ok (.ifCond .ne 8, 3) := by decide +kernel
theorem dX9_routes_167 : decode cX9_routes 167 = .ok (.iload 5, 2) := by decide +kernel
theorem dX9_routes_169 : decode cX9_routes 169 = .ok (.goto 7, 3) := by decide +kernel
theorem dX9_routes_172 : decode cX9_routes 172 = .ok (.aload_n 0, 1) := by decide +kernel
theorem dX9_routes_173 : decode cX9_routes 173 = .ok (.getfield 195, 3) := by decide +kernel
theorem dX9_routes_176 : decode cX9_routes 176 = .ok (.ireturn, 1) := by decide +kernel
theorem dX9_see_0 : decode cX9_see 0 = .ok (.aload_n 0, 1) := by decide +kernel
theorem dX9_see_1 : decode cX9_see 1 = .ok (.iconst 0, 1) := by decide +kernel
theorem dX9_see_2 : decode cX9_see 2 = .ok (.putfield 66, 3) := by decide +kernel
theorem dX9_see_5 : decode cX9_see 5 = .ok (.aload_n 0, 1) := by decide +kernel
theorem dX9_see_6 : decode cX9_see 6 = .ok (.iload_n 1, 1) := by decide +kernel
theorem dX9_see_7 : decode cX9_see 7 = .ok (.invokevirtual 161, 3) := by decide +kernel
theorem dX9_see_10 : decode cX9_see 10 = .ok (.ifCond .eq 5, 3) := by decide +kernel
theorem dX9_see_13 : decode cX9_see 13 = .ok (.iconst (-1), 1) := by decide +kernel
theorem dX9_see_14 : decode cX9_see 14 = .ok (.ireturn, 1) := by decide +kernel
theorem dX9_see_15 : decode cX9_see 15 = .ok (.iload_n 2, 1) := by decide +kernel
theorem dX9_see_16 : decode cX9_see 16 = .ok (.i2l, 1) := by decide +kernel
theorem dX9_see_17 : decode cX9_see 17 = .ok (.lconst 0, 1) := by decide +kernel
theorem dX9_see_18 : decode cX9_see 18 = .ok (.ldc2_w 193, 3) := by decide +kernel
theorem dX9_see_21 : decode cX9_see 21 = .ok (.invokestatic 72, 3) := by decide +kernel
theorem dX9_see_24 : decode cX9_see 24 = .ok (.ifCond .eq 15, 3) := by decide +kernel
theorem dX9_see_27 : decode cX9_see 27 = .ok (.iload_n 3, 1) := by decide +kernel
theorem dX9_see_28 : decode cX9_see 28 = .ok (.i2l, 1) := by decide +kernel
theorem dX9_see_29 : decode cX9_see 29 = .ok (.lconst 0, 1) := by decide +kernel
theorem dX9_see_30 : decode cX9_see 30 = .ok (.ldc2_w 210, 3) := by decide +kernel
theorem dX9_see_33 : decode cX9_see 33 = .ok (.invokestatic 72, 3) := by decide +kernel
theorem dX9_see_36 : decode cX9_see 36 = .ok (.ifCond .ne 6, 3) := by decide +kernel
theorem dX9_see_39 : decode cX9_see 39 = .ok (.bipush (-2), 2) := by decide +kernel
theorem dX9_see_41 : decode cX9_see 41 = .ok (.ireturn, 1) := by decide +kernel
theorem dX9_see_42 : decode cX9_see 42 = .ok (.aload_n 0, 1) := by decide +kernel
theorem dX9_see_43 : decode cX9_see 43 = .ok (.getfield 150, 3) := by decide +kernel
theorem dX9_see_46 : decode cX9_see 46 = .ok (.bipush 6, 2) := by decide +kernel
theorem dX9_see_48 : decode cX9_see 48 = .ok (.if_icmp .ne 6, 3) := by decide +kernel
theorem dX9_see_51 : decode cX9_see 51 = .ok (.bipush (-4), 2) := by decide +kernel
theorem dX9_see_53 : decode cX9_see 53 = .ok (.ireturn, 1) := by decide +kernel
theorem dX9_see_54 : decode cX9_see 54 = .ok (.aload_n 0, 1) := by decide +kernel
theorem dX9_see_55 : decode cX9_see 55 = .ok (.getfield 51, 3) := by decide +kernel
theorem dX9_see_58 : decode cX9_see 58 = .ok (.aload_n 0, 1) := by decide +kernel
theorem dX9_see_59 : decode cX9_see 59 = .ok (.getfield 150, 3) := by decide +kernel
theorem dX9_see_62 : decode cX9_see 62 = .ok (.iload_n 1, 1) := by decide +kernel
theorem dX9_see_63 : decode cX9_see 63 = .ok (.iastore, 1) := by decide +kernel
theorem dX9_see_64 : decode cX9_see 64 = .ok (.aload_n 0, 1) := by decide +kernel
theorem dX9_see_65 : decode cX9_see 65 = .ok (.getfield 54, 3) := by decide +kernel
theorem dX9_see_68 : decode cX9_see 68 = .ok (.aload_n 0, 1) := by decide +kernel
theorem dX9_see_69 : decode cX9_see 69 = .ok (.getfield 150, 3) := by decide +kernel
theorem dX9_see_72 : decode cX9_see 72 = .ok (.iload_n 2, 1) := by decide +kernel
theorem dX9_see_73 : decode cX9_see 73 = .ok (.iastore, 1) := by decide +kernel
theorem dX9_see_74 : decode cX9_see 74 = .ok (.aload_n 0, 1) := by decide +kernel
theorem dX9_see_75 : decode cX9_see 75 = .ok (.getfield 57, 3) := by decide +kernel
theorem dX9_see_78 : decode cX9_see 78 = .ok (.aload_n 0, 1) := by decide +kernel
theorem dX9_see_79 : decode cX9_see 79 = .ok (.getfield 150, 3) := by decide +kernel
theorem dX9_see_82 : decode cX9_see 82 = .ok (.iload_n 3, 1) := by decide +kernel
theorem dX9_see_83 : decode cX9_see 83 = .ok (.iastore, 1) := by decide +kernel
theorem dX9_see_84 : decode cX9_see 84 = .ok (.aload_n 0, 1) := by decide +kernel
theorem dX9_see_85 : decode cX9_see 85 = .ok (.dup, 1) := by decide +kernel
theorem dX9_see_86 : decode cX9_see 86 = .ok (.getfield 150, 3) := by decide +kernel
theorem dX9_see_89 : decode cX9_see 89 = .ok (.iconst 1, 1) := by decide +kernel
theorem dX9_see_90 : decode cX9_see 90 = .ok (.iadd, 1) := by decide +kernel
theorem dX9_see_91 : decode cX9_see 91 = .ok (.putfield 150, 3) := by decide +kernel
theorem dX9_see_94 : decode cX9_see 94 = .ok (.aload_n 0, 1) := by decide +kernel
theorem dX9_see_95 : decode cX9_see 95 = .ok (.getfield 150, 3) := by decide +kernel
theorem dX9_see_98 : decode cX9_see 98 = .ok (.ireturn, 1) := by decide +kernel
theorem dX9_seed_0 : decode cX9_seed 0 = .ok (.aload_n 0, 1) := by decide +kernel
theorem dX9_seed_1 : decode cX9_seed 1 = .ok (.iconst 0, 1) := by decide +kernel
theorem dX9_seed_2 : decode cX9_seed 2 = .ok (.putfield 66, 3) := by decide +kernel
theorem dX9_seed_5 : decode cX9_seed 5 = .ok (.aload_n 0, 1) := by decide +kernel
theorem dX9_seed_6 : decode cX9_seed 6 = .ok (.getfield 229, 3) := by decide +kernel
theorem dX9_seed_9 : decode cX9_seed 9 = .ok (.lstore_n 3, 1) := by decide +kernel
theorem dX9_seed_10 : decode cX9_seed 10 = .ok (.aload_n 0, 1) := by decide +kernel
theorem dX9_seed_11 : decode cX9_seed 11 = .ok (.lload_n 1, 1) := by decide +kernel
theorem dX9_seed_12 : decode cX9_seed 12 = .ok (.putfield 229, 3) := by decide +kernel
theorem dX9_seed_15 : decode cX9_seed 15 = .ok (.lload_n 3, 1) := by decide +kernel
theorem dX9_seed_16 : decode cX9_seed 16 = .ok (.lreturn, 1) := by decide +kernel
theorem dX9_spans_0 : decode cX9_spans 0 = .ok (.aload_n 0, 1) := by decide +kernel
theorem dX9_spans_1 : decode cX9_spans 1 = .ok (.iconst 0, 1) := by decide +kernel
theorem dX9_spans_2 : decode cX9_spans 2 = .ok (.putfield 66, 3) := by decide +kernel
theorem dX9_spans_5 : decode cX9_spans 5 = .ok (.iload_n 1, 1) := by decide +kernel
theorem dX9_spans_6 : decode cX9_spans 6 = .ok (.i2l, 1) := by decide +kernel
theorem dX9_spans_7 : decode cX9_spans 7 = .ok (.lconst 1, 1) := by decide +kernel
theorem dX9_spans_8 : decode cX9_spans 8 = .ok (.ldc2_w 87, 3) := by decide +kernel
theorem dX9_spans_11 : decode cX9_spans 11 = .ok (.invokestatic 72, 3) := by decide +kernel
theorem dX9_spans_14 : decode cX9_spans 14 = .ok (.ifCond .eq 27, 3) := by decide +kernel
theorem dX9_spans_17 : decode cX9_spans 17 = .ok (.iload_n 2, 1) := by decide +kernel
theorem dX9_spans_18 : decode cX9_spans 18 = .ok (.i2l, 1) := by decide +kernel
theorem dX9_spans_19 : decode cX9_spans 19 = .ok (.lconst 1, 1) := by decide +kernel
theorem dX9_spans_20 : decode cX9_spans 20 = .ok (.ldc2_w 87, 3) := by decide +kernel
theorem dX9_spans_23 : decode cX9_spans 23 = .ok (.invokestatic 72, 3) := by decide +kernel
theorem dX9_spans_26 : decode cX9_spans 26 = .ok (.ifCond .eq 15, 3) := by decide +kernel
theorem dX9_spans_29 : decode cX9_spans 29 = .ok (.iload_n 3, 1) := by decide +kernel
theorem dX9_spans_30 : decode cX9_spans 30 = .ok (.i2l, 1) := by decide +kernel
theorem dX9_spans_31 : decode cX9_spans 31 = .ok (.lconst 0, 1) := by decide +kernel
theorem dX9_spans_32 : decode cX9_spans 32 = .ok (.ldc2_w 208, 3) := by decide +kernel
theorem dX9_spans_35 : decode cX9_spans 35 = .ok (.invokestatic 72, 3) := by decide +kernel
theorem dX9_spans_38 : decode cX9_spans 38 = .ok (.ifCond .ne 6, 3) := by decide +kernel
theorem dX9_spans_41 : decode cX9_spans 41 = .ok (.bipush (-2), 2) := by decide +kernel
theorem dX9_spans_43 : decode cX9_spans 43 = .ok (.ireturn, 1) := by decide +kernel
theorem dX9_spans_44 : decode cX9_spans 44 = .ok (.iload_n 1, 1) := by decide +kernel
theorem dX9_spans_45 : decode cX9_spans 45 = .ok (.iload_n 3, 1) := by decide +kernel
theorem dX9_spans_46 : decode cX9_spans 46 = .ok (.iconst 1, 1) := by decide +kernel
theorem dX9_spans_47 : decode cX9_spans 47 = .ok (.iadd, 1) := by decide +kernel
theorem dX9_spans_48 : decode cX9_spans 48 = .ok (.imul, 1) := by decide +kernel
theorem dX9_spans_49 : decode cX9_spans 49 = .ok (.iload_n 1, 1) := by decide +kernel
theorem dX9_spans_50 : decode cX9_spans 50 = .ok (.iload_n 2, 1) := by decide +kernel
theorem dX9_spans_51 : decode cX9_spans 51 = .ok (.iadd, 1) := by decide +kernel
theorem dX9_spans_52 : decode cX9_spans 52 = .ok (.idiv, 1) := by decide +kernel
theorem dX9_spans_53 : decode cX9_spans 53 = .ok (.iload_n 1, 1) := by decide +kernel
theorem dX9_spans_54 : decode cX9_spans 54 = .ok (.iload_n 3, 1) := by decide +kernel
theorem dX9_spans_55 : decode cX9_spans 55 = .ok (.imul, 1) := by decide +kernel
theorem dX9_spans_56 : decode cX9_spans 56 = .ok (.iload_n 1, 1) := by decide +kernel
theorem dX9_spans_57 : decode cX9_spans 57 = .ok (.iload_n 2, 1) := by decide +kernel
theorem dX9_spans_58 : decode cX9_spans 58 = .ok (.iadd, 1) := by decide +kernel
theorem dX9_spans_59 : decode cX9_spans 59 = .ok (.idiv, 1) := by decide +kernel
theorem dX9_spans_60 : decode cX9_spans 60 = .ok (.if_icmp .le 7, 3) := by decide +kernel
theorem dX9_spans_63 : decode cX9_spans 63 = .ok (.iconst 0, 1) := by decide +kernel
theorem dX9_spans_64 : decode cX9_spans 64 = .ok (.goto 4, 3) := by decide +kernel
theorem dX9_spans_67 : decode cX9_spans 67 = .ok (.iconst 1, 1) := by decide +kernel
theorem dX9_spans_68 : decode cX9_spans 68 = .ok (.ireturn, 1) := by decide +kernel
theorem dX9_streetsOf_0 : decode cX9_streetsOf 0 = .ok (.aload_n 0, 1) := by decide +kernel
theorem dX9_streetsOf_1 : decode cX9_streetsOf 1 = .ok (.getfield 35, 3) := by decide +kernel
theorem dX9_streetsOf_4 : decode cX9_streetsOf 4 = .ok (.iload_n 1, 1) := by decide +kernel
theorem dX9_streetsOf_5 : decode cX9_streetsOf 5 = .ok (.iaload, 1) := by decide +kernel
theorem dX9_streetsOf_6 : decode cX9_streetsOf 6 = .ok (.istore 4, 2) := by decide +kernel
theorem dX9_streetsOf_8 : decode cX9_streetsOf 8 = .ok (.iconst 1, 1) := by decide +kernel
theorem dX9_streetsOf_9 : decode cX9_streetsOf 9 = .ok (.iload 4, 2) := by decide +kernel
theorem dX9_streetsOf_11 : decode cX9_streetsOf 11 = .ok (.ishl, 1) := by decide +kernel
theorem dX9_streetsOf_12 : decode cX9_streetsOf 12 = .ok (.istore 5, 2) := by decide +kernel
theorem dX9_streetsOf_14 : decode cX9_streetsOf 14 = .ok (.iload_n 2, 1) := by decide +kernel
theorem dX9_streetsOf_15 : decode cX9_streetsOf 15 = .ok (.iconst 1, 1) := by decide +kernel
theorem dX9_streetsOf_16 : decode cX9_streetsOf 16 = .ok (.isub, 1) := by decide +kernel
theorem dX9_streetsOf_17 : decode cX9_streetsOf 17 = .ok (.istore 6, 2) := by decide +kernel
theorem dX9_streetsOf_19 : decode cX9_streetsOf 19 = .ok (.iload 6, 2) := by decide +kernel
theorem dX9_streetsOf_21 : decode cX9_streetsOf 21 = .ok (.ifCond .lt 58, 3) := by decide +kernel
theorem dX9_streetsOf_24 : decode cX9_streetsOf 24 = .ok (.iload_n 3, 1) := by decide +kernel
theorem dX9_streetsOf_25 : decode cX9_streetsOf 25 = .ok (.iconst 3, 1) := by decide +kernel
theorem dX9_streetsOf_26 : decode cX9_streetsOf 26 = .ok (.iload 6, 2) := by decide +kernel
theorem dX9_streetsOf_28 : decode cX9_streetsOf 28 = .ok (.invokestatic 188, 3) := by decide +kernel
theorem dX9_streetsOf_31 : decode cX9_streetsOf 31 = .ok (.idiv, 1) := by decide +kernel
theorem dX9_streetsOf_32 : decode cX9_streetsOf 32 = .ok (.iconst 3, 1) := by decide +kernel
theorem dX9_streetsOf_33 : decode cX9_streetsOf 33 = .ok (.irem, 1) := by decide +kernel
theorem dX9_streetsOf_34 : decode cX9_streetsOf 34 = .ok (.istore 7, 2) := by decide +kernel
theorem dX9_streetsOf_36 : decode cX9_streetsOf 36 = .ok (.iload 4, 2) := by decide +kernel
theorem dX9_streetsOf_38 : decode cX9_streetsOf 38 = .ok (.iload 7, 2) := by decide +kernel
theorem dX9_streetsOf_40 : decode cX9_streetsOf 40 = .ok (.iconst 1, 1) := by decide +kernel
theorem dX9_streetsOf_41 : decode cX9_streetsOf 41 = .ok (.if_icmp .ne 7, 3) := by decide +kernel
theorem dX9_streetsOf_44 : decode cX9_streetsOf 44 = .ok (.iconst 1, 1) := by decide +kernel
theorem dX9_streetsOf_45 : decode cX9_streetsOf 45 = .ok (.goto 14, 3) := by decide +kernel
theorem dX9_streetsOf_48 : decode cX9_streetsOf 48 = .ok (.iload 7, 2) := by decide +kernel
theorem dX9_streetsOf_50 : decode cX9_streetsOf 50 = .ok (.iconst 2, 1) := by decide +kernel
theorem dX9_streetsOf_51 : decode cX9_streetsOf 51 = .ok (.if_icmp .ne 7, 3) := by decide +kernel
theorem dX9_streetsOf_54 : decode cX9_streetsOf 54 = .ok (.iconst 4, 1) := by decide +kernel
theorem dX9_streetsOf_55 : decode cX9_streetsOf 55 = .ok (.goto 4, 3) := by decide +kernel
theorem dX9_streetsOf_58 : decode cX9_streetsOf 58 = .ok (.iconst 0, 1) := by decide +kernel
theorem dX9_streetsOf_59 : decode cX9_streetsOf 59 = .ok (.iadd, 1) := by decide +kernel
theorem dX9_streetsOf_60 : decode cX9_streetsOf 60 = .ok (.iconst 5, 1) := by decide +kernel
theorem dX9_streetsOf_61 : decode cX9_streetsOf 61 = .ok (.irem, 1) := by decide +kernel
theorem dX9_streetsOf_62 : decode cX9_streetsOf 62 = .ok (.istore 4, 2) := by decide +kernel
theorem dX9_streetsOf_64 : decode cX9_streetsOf 64 = .ok (.iload 5, 2) := by decide +kernel
theorem dX9_streetsOf_66 : decode cX9_streetsOf 66 = .ok (.iconst 1, 1) := by decide +kernel
theorem dX9_streetsOf_67 : decode cX9_streetsOf 67 = .ok (.iload 4, 2) := by decide +kernel
theorem dX9_streetsOf_69 : decode cX9_streetsOf 69 = .ok (.ishl, 1) := by decide +kernel
theorem dX9_streetsOf_70 : decode cX9_streetsOf 70 = .ok (.ior, 1) := by decide +kernel
theorem dX9_streetsOf_71 : decode cX9_streetsOf 71 = .ok (.istore 5, 2) := by decide +kernel
theorem dX9_streetsOf_73 : decode cX9_streetsOf 73 = .ok (.iinc 6 (-1), 3) := by decide +kernel
theorem dX9_streetsOf_76 : decode cX9_streetsOf 76 = .ok (.goto (-57), 3) := by decide +kernel
theorem dX9_streetsOf_79 : decode cX9_streetsOf 79 = .ok (.iload 5, 2) := by decide +kernel
theorem dX9_streetsOf_81 : decode cX9_streetsOf 81 = .ok (.ireturn, 1) := by decide +kernel
theorem dX9_sure_0 : decode cX9_sure 0 = .ok (.aload_n 0, 1) := by decide +kernel
theorem dX9_sure_1 : decode cX9_sure 1 = .ok (.iconst 0, 1) := by decide +kernel
theorem dX9_sure_2 : decode cX9_sure 2 = .ok (.putfield 66, 3) := by decide +kernel
theorem dX9_sure_5 : decode cX9_sure 5 = .ok (.aload_n 0, 1) := by decide +kernel
theorem dX9_sure_6 : decode cX9_sure 6 = .ok (.iload_n 1, 1) := by decide +kernel
theorem dX9_sure_7 : decode cX9_sure 7 = .ok (.invokevirtual 161, 3) := by decide +kernel
theorem dX9_sure_10 : decode cX9_sure 10 = .ok (.ifCond .eq 5, 3) := by decide +kernel
theorem dX9_sure_13 : decode cX9_sure 13 = .ok (.iconst (-1), 1) := by decide +kernel
theorem dX9_sure_14 : decode cX9_sure 14 = .ok (.ireturn, 1) := by decide +kernel
theorem dX9_sure_15 : decode cX9_sure 15 = .ok (.aload_n 0, 1) := by decide +kernel
theorem dX9_sure_16 : decode cX9_sure 16 = .ok (.invokevirtual 221, 3) := by decide +kernel
theorem dX9_sure_19 : decode cX9_sure 19 = .ok (.aload_n 0, 1) := by decide +kernel
theorem dX9_sure_20 : decode cX9_sure 20 = .ok (.getfield 215, 3) := by decide +kernel
theorem dX9_sure_23 : decode cX9_sure 23 = .ok (.ifCond .ne 8, 3) := by decide +kernel
theorem dX9_sure_26 : decode cX9_sure 26 = .ok (.bipush (-9), 2) := by decide +kernel
theorem dX9_sure_28 : decode cX9_sure 28 = .ok (.goto 9, 3) := by decide +kernel
theorem dX9_sure_31 : decode cX9_sure 31 = .ok (.aload_n 0, 1) := by decide +kernel
theorem dX9_sure_32 : decode cX9_sure 32 = .ok (.getfield 63, 3) := by decide +kernel
theorem dX9_sure_35 : decode cX9_sure 35 = .ok (.iload_n 1, 1) := by decide +kernel
theorem dX9_sure_36 : decode cX9_sure 36 = .ok (.iaload, 1) := by decide +kernel
theorem dX9_sure_37 : decode cX9_sure 37 = .ok (.ireturn, 1) := by decide +kernel
theorem dX9_undo_0 : decode cX9_undo 0 = .ok (.aload_n 0, 1) := by decide +kernel
theorem dX9_undo_1 : decode cX9_undo 1 = .ok (.iconst 0, 1) := by decide +kernel
theorem dX9_undo_2 : decode cX9_undo 2 = .ok (.putfield 66, 3) := by decide +kernel
theorem dX9_undo_5 : decode cX9_undo 5 = .ok (.aload_n 0, 1) := by decide +kernel
theorem dX9_undo_6 : decode cX9_undo 6 = .ok (.getfield 140, 3) := by decide +kernel
theorem dX9_undo_9 : decode cX9_undo 9 = .ok (.ifCond .ne 6, 3) := by decide +kernel
theorem dX9_undo_12 : decode cX9_undo 12 = .ok (.bipush (-3), 2) := by decide +kernel
theorem dX9_undo_14 : decode cX9_undo 14 = .ok (.ireturn, 1) := by decide +kernel
theorem dX9_undo_15 : decode cX9_undo 15 = .ok (.aload_n 0, 1) := by decide +kernel
theorem dX9_undo_16 : decode cX9_undo 16 = .ok (.dup, 1) := by decide +kernel
theorem dX9_undo_17 : decode cX9_undo 17 = .ok (.getfield 140, 3) := by decide +kernel
theorem dX9_undo_20 : decode cX9_undo 20 = .ok (.iconst 1, 1) := by decide +kernel
theorem dX9_undo_21 : decode cX9_undo 21 = .ok (.isub, 1) := by decide +kernel
theorem dX9_undo_22 : decode cX9_undo 22 = .ok (.putfield 140, 3) := by decide +kernel
theorem dX9_undo_25 : decode cX9_undo 25 = .ok (.iconst 0, 1) := by decide +kernel
theorem dX9_undo_26 : decode cX9_undo 26 = .ok (.istore_n 1, 1) := by decide +kernel
theorem dX9_undo_27 : decode cX9_undo 27 = .ok (.iload_n 1, 1) := by decide +kernel
theorem dX9_undo_28 : decode cX9_undo 28 = .ok (.bipush 25, 2) := by decide +kernel
theorem dX9_undo_30 : decode cX9_undo 30 = .ok (.if_icmp .ge 29, 3) := by decide +kernel
theorem dX9_undo_33 : decode cX9_undo 33 = .ok (.aload_n 0, 1) := by decide +kernel
theorem dX9_undo_34 : decode cX9_undo 34 = .ok (.getfield 35, 3) := by decide +kernel
theorem dX9_undo_37 : decode cX9_undo 37 = .ok (.iload_n 1, 1) := by decide +kernel
theorem dX9_undo_38 : decode cX9_undo 38 = .ok (.aload_n 0, 1) := by decide +kernel
theorem dX9_undo_39 : decode cX9_undo 39 = .ok (.getfield 41, 3) := by decide +kernel
theorem dX9_undo_42 : decode cX9_undo 42 = .ok (.bipush 25, 2) := by decide +kernel
theorem dX9_undo_44 : decode cX9_undo 44 = .ok (.aload_n 0, 1) := by decide +kernel
theorem dX9_undo_45 : decode cX9_undo 45 = .ok (.getfield 140, 3) := by decide +kernel
theorem dX9_undo_48 : decode cX9_undo 48 = .ok (.imul, 1) := by decide +kernel
theorem dX9_undo_49 : decode cX9_undo 49 = .ok (.iload_n 1, 1) := by decide +kernel
theorem dX9_undo_50 : decode cX9_undo 50 = .ok (.iadd, 1) := by decide +kernel
theorem dX9_undo_51 : decode cX9_undo 51 = .ok (.iaload, 1) := by decide +kernel
theorem dX9_undo_52 : decode cX9_undo 52 = .ok (.iastore, 1) := by decide +kernel
theorem dX9_undo_53 : decode cX9_undo 53 = .ok (.iinc 1 1, 3) := by decide +kernel
theorem dX9_undo_56 : decode cX9_undo 56 = .ok (.goto (-29), 3) := by decide +kernel
theorem dX9_undo_59 : decode cX9_undo 59 = .ok (.aload_n 0, 1) := by decide +kernel
theorem dX9_undo_60 : decode cX9_undo 60 = .ok (.getfield 140, 3) := by decide +kernel
theorem dX9_undo_63 : decode cX9_undo 63 = .ok (.ireturn, 1) := by decide +kernel
theorem dX9_unsee_0 : decode cX9_unsee 0 = .ok (.aload_n 0, 1) := by decide +kernel
theorem dX9_unsee_1 : decode cX9_unsee 1 = .ok (.iconst 0, 1) := by decide +kernel
theorem dX9_unsee_2 : decode cX9_unsee 2 = .ok (.putfield 66, 3) := by decide +kernel
theorem dX9_unsee_5 : decode cX9_unsee 5 = .ok (.aload_n 0, 1) := by decide +kernel
theorem dX9_unsee_6 : decode cX9_unsee 6 = .ok (.getfield 150, 3) := by decide +kernel
theorem dX9_unsee_9 : decode cX9_unsee 9 = .ok (.istore_n 1, 1) := by decide +kernel
theorem dX9_unsee_10 : decode cX9_unsee 10 = .ok (.aload_n 0, 1) := by decide +kernel
theorem dX9_unsee_11 : decode cX9_unsee 11 = .ok (.iconst 0, 1) := by decide +kernel
theorem dX9_unsee_12 : decode cX9_unsee 12 = .ok (.putfield 150, 3) := by decide +kernel
theorem dX9_unsee_15 : decode cX9_unsee 15 = .ok (.iload_n 1, 1) := by decide +kernel
theorem dX9_unsee_16 : decode cX9_unsee 16 = .ok (.ireturn, 1) := by decide +kernel
theorem dX9_walks_0 : decode cX9_walks 0 = .ok (.aload_n 0, 1) := by decide +kernel
theorem dX9_walks_1 : decode cX9_walks 1 = .ok (.iconst 0, 1) := by decide +kernel
theorem dX9_walks_2 : decode cX9_walks 2 = .ok (.putfield 66, 3) := by decide +kernel
theorem dX9_walks_5 : decode cX9_walks 5 = .ok (.aload_n 0, 1) := by decide +kernel
theorem dX9_walks_6 : decode cX9_walks 6 = .ok (.invokevirtual 221, 3) := by decide +kernel
theorem dX9_walks_9 : decode cX9_walks 9 = .ok (.aload_n 0, 1) := by decide +kernel
theorem dX9_walks_10 : decode cX9_walks 10 = .ok (.getfield 215, 3) := by decide +kernel
theorem dX9_walks_13 : decode cX9_walks 13 = .ok (.ireturn, 1) := by decide +kernel
theorem dX9_wasAt_0 : decode cX9_wasAt 0 = .ok (.iload_n 2, 1) := by decide +kernel
theorem dX9_wasAt_1 : decode cX9_wasAt 1 = .ok (.aload_n 0, 1) := by decide +kernel
theorem dX9_wasAt_2 : decode cX9_wasAt 2 = .ok (.getfield 69, 3) := by decide +kernel
theorem dX9_wasAt_5 : decode cX9_wasAt 5 = .ok (.if_icmp .ne 13, 3) := by decide +kernel
theorem dX9_wasAt_8 : decode cX9_wasAt 8 = .ok (.aload_n 0, 1) := by decide +kernel
theorem dX9_wasAt_9 : decode cX9_wasAt 9 = .ok (.getfield 35, 3) := by decide +kernel
theorem dX9_wasAt_12 : decode cX9_wasAt 12 = .ok (.bipush 13, 2) := by decide +kernel
theorem dX9_wasAt_14 : decode cX9_wasAt 14 = .ok (.iload_n 1, 1) := by decide +kernel
theorem dX9_wasAt_15 : decode cX9_wasAt 15 = .ok (.iadd, 1) := by decide +kernel
theorem dX9_wasAt_16 : decode cX9_wasAt 16 = .ok (.iaload, 1) := by decide +kernel
theorem dX9_wasAt_17 : decode cX9_wasAt 17 = .ok (.ireturn, 1) := by decide +kernel
theorem dX9_wasAt_18 : decode cX9_wasAt 18 = .ok (.aload_n 0, 1) := by decide +kernel
theorem dX9_wasAt_19 : decode cX9_wasAt 19 = .ok (.getfield 35, 3) := by decide +kernel
theorem dX9_wasAt_22 : decode cX9_wasAt 22 = .ok (.iload_n 2, 1) := by decide +kernel
theorem dX9_wasAt_23 : decode cX9_wasAt 23 = .ok (.iaload, 1) := by decide +kernel
theorem dX9_wasAt_24 : decode cX9_wasAt 24 = .ok (.aload_n 0, 1) := by decide +kernel
theorem dX9_wasAt_25 : decode cX9_wasAt 25 = .ok (.getfield 20, 3) := by decide +kernel
theorem dX9_wasAt_28 : decode cX9_wasAt 28 = .ok (.iconst 4, 1) := by decide +kernel
theorem dX9_wasAt_29 : decode cX9_wasAt 29 = .ok (.iload_n 2, 1) := by decide +kernel
theorem dX9_wasAt_30 : decode cX9_wasAt 30 = .ok (.imul, 1) := by decide +kernel
theorem dX9_wasAt_31 : decode cX9_wasAt 31 = .ok (.iconst 1, 1) := by decide +kernel
theorem dX9_wasAt_32 : decode cX9_wasAt 32 = .ok (.iadd, 1) := by decide +kernel
theorem dX9_wasAt_33 : decode cX9_wasAt 33 = .ok (.iaload, 1) := by decide +kernel
theorem dX9_wasAt_34 : decode cX9_wasAt 34 = .ok (.iconst 2, 1) := by decide +kernel
theorem dX9_wasAt_35 : decode cX9_wasAt 35 = .ok (.irem, 1) := by decide +kernel
theorem dX9_wasAt_36 : decode cX9_wasAt 36 = .ok (.iconst 1, 1) := by decide +kernel
theorem dX9_wasAt_37 : decode cX9_wasAt 37 = .ok (.if_icmp .ne 7, 3) := by decide +kernel
theorem dX9_wasAt_40 : decode cX9_wasAt 40 = .ok (.iload_n 3, 1) := by decide +kernel
theorem dX9_wasAt_41 : decode cX9_wasAt 41 = .ok (.goto 4, 3) := by decide +kernel
theorem dX9_wasAt_44 : decode cX9_wasAt 44 = .ok (.iconst 0, 1) := by decide +kernel
theorem dX9_wasAt_45 : decode cX9_wasAt 45 = .ok (.iadd, 1) := by decide +kernel
theorem dX9_wasAt_46 : decode cX9_wasAt 46 = .ok (.iconst 5, 1) := by decide +kernel
theorem dX9_wasAt_47 : decode cX9_wasAt 47 = .ok (.irem, 1) := by decide +kernel
theorem dX9_wasAt_48 : decode cX9_wasAt 48 = .ok (.ireturn, 1) := by decide +kernel
theorem dX9_wipe_0 : decode cX9_wipe 0 = .ok (.aload_n 0, 1) := by decide +kernel
theorem dX9_wipe_1 : decode cX9_wipe 1 = .ok (.iconst 0, 1) := by decide +kernel
theorem dX9_wipe_2 : decode cX9_wipe 2 = .ok (.putfield 66, 3) := by decide +kernel
theorem dX9_wipe_5 : decode cX9_wipe 5 = .ok (.aload_n 0, 1) := by decide +kernel
theorem dX9_wipe_6 : decode cX9_wipe 6 = .ok (.getfield 81, 3) := by decide +kernel
theorem dX9_wipe_9 : decode cX9_wipe 9 = .ok (.istore_n 1, 1) := by decide +kernel
theorem dX9_wipe_10 : decode cX9_wipe 10 = .ok (.aload_n 0, 1) := by decide +kernel
theorem dX9_wipe_11 : decode cX9_wipe 11 = .ok (.iconst 0, 1) := by decide +kernel
theorem dX9_wipe_12 : decode cX9_wipe 12 = .ok (.putfield 81, 3) := by decide +kernel
theorem dX9_wipe_15 : decode cX9_wipe 15 = .ok (.iload_n 1, 1) := by decide +kernel
theorem dX9_wipe_16 : decode cX9_wipe 16 = .ok (.ireturn, 1) := by decide +kernel
theorem dX9_worthOf_0 : decode cX9_worthOf 0 = .ok (.iload_n 0, 1) := by decide +kernel
theorem dX9_worthOf_1 : decode cX9_worthOf 1 = .ok (.bipush 10, 2) := by decide +kernel
theorem dX9_worthOf_3 : decode cX9_worthOf 3 = .ok (.iconst 4, 1) := by decide +kernel
theorem dX9_worthOf_4 : decode cX9_worthOf 4 = .ok (.iload_n 1, 1) := by decide +kernel
theorem dX9_worthOf_5 : decode cX9_worthOf 5 = .ok (.isub, 1) := by decide +kernel
theorem dX9_worthOf_6 : decode cX9_worthOf 6 = .ok (.invokestatic 188, 3) := by decide +kernel
theorem dX9_worthOf_9 : decode cX9_worthOf 9 = .ok (.idiv, 1) := by decide +kernel
theorem dX9_worthOf_10 : decode cX9_worthOf 10 = .ok (.bipush 10, 2) := by decide +kernel
theorem dX9_worthOf_12 : decode cX9_worthOf 12 = .ok (.irem, 1) := by decide +kernel
theorem dX9_worthOf_13 : decode cX9_worthOf 13 = .ok (.ireturn, 1) := by decide +kernel
theorem dX9_write_0 : decode cX9_write 0 = .ok (.aload_n 0, 1) := by decide +kernel
theorem dX9_write_1 : decode cX9_write 1 = .ok (.iconst 0, 1) := by decide +kernel
theorem dX9_write_2 : decode cX9_write 2 = .ok (.putfield 66, 3) := by decide +kernel
theorem dX9_write_5 : decode cX9_write 5 = .ok (.iload_n 1, 1) := by decide +kernel
theorem dX9_write_6 : decode cX9_write 6 = .ok (.i2l, 1) := by decide +kernel
theorem dX9_write_7 : decode cX9_write 7 = .ok (.lconst 0, 1) := by decide +kernel
theorem dX9_write_8 : decode cX9_write 8 = .ok (.ldc2_w 79, 3) := by decide +kernel
theorem dX9_write_11 : decode cX9_write 11 = .ok (.invokestatic 72, 3) := by decide +kernel
theorem dX9_write_14 : decode cX9_write 14 = .ok (.ifCond .ne 6, 3) := by decide +kernel
theorem dX9_write_17 : decode cX9_write 17 = .ok (.bipush (-2), 2) := by decide +kernel
theorem dX9_write_19 : decode cX9_write 19 = .ok (.ireturn, 1) := by decide +kernel
theorem dX9_write_20 : decode cX9_write 20 = .ok (.aload_n 0, 1) := by decide +kernel
theorem dX9_write_21 : decode cX9_write 21 = .ok (.getfield 81, 3) := by decide +kernel
theorem dX9_write_24 : decode cX9_write 24 = .ok (.bipush 60, 2) := by decide +kernel
theorem dX9_write_26 : decode cX9_write 26 = .ok (.if_icmp .ne 6, 3) := by decide +kernel
theorem dX9_write_29 : decode cX9_write 29 = .ok (.bipush (-4), 2) := by decide +kernel
theorem dX9_write_31 : decode cX9_write 31 = .ok (.ireturn, 1) := by decide +kernel
theorem dX9_write_32 : decode cX9_write 32 = .ok (.aload_n 0, 1) := by decide +kernel
theorem dX9_write_33 : decode cX9_write 33 = .ok (.getfield 7, 3) := by decide +kernel
theorem dX9_write_36 : decode cX9_write 36 = .ok (.aload_n 0, 1) := by decide +kernel
theorem dX9_write_37 : decode cX9_write 37 = .ok (.getfield 81, 3) := by decide +kernel
theorem dX9_write_40 : decode cX9_write 40 = .ok (.iload_n 1, 1) := by decide +kernel
theorem dX9_write_41 : decode cX9_write 41 = .ok (.iastore, 1) := by decide +kernel
theorem dX9_write_42 : decode cX9_write 42 = .ok (.aload_n 0, 1) := by decide +kernel
theorem dX9_write_43 : decode cX9_write 43 = .ok (.dup, 1) := by decide +kernel
theorem dX9_write_44 : decode cX9_write 44 = .ok (.getfield 81, 3) := by decide +kernel
theorem dX9_write_47 : decode cX9_write 47 = .ok (.iconst 1, 1) := by decide +kernel
theorem dX9_write_48 : decode cX9_write 48 = .ok (.iadd, 1) := by decide +kernel
theorem dX9_write_49 : decode cX9_write 49 = .ok (.putfield 81, 3) := by decide +kernel
theorem dX9_write_52 : decode cX9_write 52 = .ok (.aload_n 0, 1) := by decide +kernel
theorem dX9_write_53 : decode cX9_write 53 = .ok (.getfield 81, 3) := by decide +kernel
theorem dX9_write_56 : decode cX9_write 56 = .ok (.ireturn, 1) := by decide +kernel
theorem dX9_young_0 : decode cX9_young 0 = .ok (.iconst 0, 1) := by decide +kernel
theorem dX9_young_1 : decode cX9_young 1 = .ok (.istore_n 2, 1) := by decide +kernel
theorem dX9_young_2 : decode cX9_young 2 = .ok (.iconst 0, 1) := by decide +kernel
theorem dX9_young_3 : decode cX9_young 3 = .ok (.istore_n 3, 1) := by decide +kernel
theorem dX9_young_4 : decode cX9_young 4 = .ok (.iload_n 3, 1) := by decide +kernel
theorem dX9_young_5 : decode cX9_young 5 = .ok (.aload_n 0, 1) := by decide +kernel
theorem dX9_young_6 : decode cX9_young 6 = .ok (.getfield 100, 3) := by decide +kernel
theorem dX9_young_9 : decode cX9_young 9 = .ok (.if_icmp .ge 48, 3) := by decide +kernel
theorem dX9_young_12 : decode cX9_young 12 = .ok (.iload_n 2, 1) := by decide +kernel
theorem dX9_young_13 : decode cX9_young 13 = .ok (.iload_n 3, 1) := by decide +kernel
theorem dX9_young_14 : decode cX9_young 14 = .ok (.iload_n 1, 1) := by decide +kernel
theorem dX9_young_15 : decode cX9_young 15 = .ok (.if_icmp .eq 33, 3) := by decide +kernel
theorem dX9_young_18 : decode cX9_young 18 = .ok (.aload_n 0, 1) := by decide +kernel
theorem dX9_young_19 : decode cX9_young 19 = .ok (.getfield 29, 3) := by decide +kernel
theorem dX9_young_22 : decode cX9_young 22 = .ok (.iconst 4, 1) := by decide +kernel
theorem dX9_young_23 : decode cX9_young 23 = .ok (.iload_n 3, 1) := by decide +kernel
theorem dX9_young_24 : decode cX9_young 24 = .ok (.imul, 1) := by decide +kernel
theorem dX9_young_25 : decode cX9_young 25 = .ok (.iconst 3, 1) := by decide +kernel
theorem dX9_young_26 : decode cX9_young 26 = .ok (.iadd, 1) := by decide +kernel
theorem dX9_young_27 : decode cX9_young 27 = .ok (.iaload, 1) := by decide +kernel
theorem dX9_young_28 : decode cX9_young 28 = .ok (.bipush (-9), 2) := by decide +kernel
theorem dX9_young_30 : decode cX9_young 30 = .ok (.if_icmp .ne 18, 3) := by decide +kernel
theorem dX9_young_33 : decode cX9_young 33 = .ok (.aload_n 0, 1) := by decide +kernel
theorem dX9_young_34 : decode cX9_young 34 = .ok (.iload_n 1, 1) := by decide +kernel
theorem dX9_young_35 : decode cX9_young 35 = .ok (.iload_n 3, 1) := by decide +kernel
theorem dX9_young_36 : decode cX9_young 36 = .ok (.invokevirtual 114, 3) := by decide +kernel
theorem dX9_young_39 : decode cX9_young 39 = .ok (.ifCond .ne 9, 3) := by decide +kernel
theorem dX9_young_42 : decode cX9_young 42 = .ok (.iconst 1, 1) := by decide +kernel
theorem dX9_young_43 : decode cX9_young 43 = .ok (.iload_n 3, 1) := by decide +kernel
theorem dX9_young_44 : decode cX9_young 44 = .ok (.ishl, 1) := by decide +kernel
theorem dX9_young_45 : decode cX9_young 45 = .ok (.goto 4, 3) := by decide +kernel
theorem dX9_young_48 : decode cX9_young 48 = .ok (.iconst 0, 1) := by decide +kernel
theorem dX9_young_49 : decode cX9_young 49 = .ok (.ior, 1) := by decide +kernel
theorem dX9_young_50 : decode cX9_young 50 = .ok (.istore_n 2, 1) := by decide +kernel
theorem dX9_young_51 : decode cX9_young 51 = .ok (.iinc 3 1, 3) := by decide +kernel
theorem dX9_young_54 : decode cX9_young 54 = .ok (.goto (-50), 3) := by decide +kernel
theorem dX9_young_57 : decode cX9_young 57 = .ok (.iload_n 2, 1) := by decide +kernel
theorem dX9_young_58 : decode cX9_young 58 = .ok (.ireturn, 1) := by decide +kernel
