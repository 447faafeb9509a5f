theorem dX4_dropOldest_46 : decode cX4_dropOldest 46 = .ok (.putfield 20, 3) := by decide +kernel
theorem dX4_dropOldest_49 : decode cX4_dropOldest 49 = .ok (.aload_n 0, 1) := by decide +kernel
theorem dX4_dropOldest_50 : decode cX4_dropOldest 50 = .ok (.getfield 16, 3) := by decide +kernel
theorem dX4_dropOldest_53 : decode cX4_dropOldest 53 = .ok (.aload_n 0, 1) := by decide +kernel
theorem dX4_dropOldest_54 : decode cX4_dropOldest 54 = .ok (.getfield 20, 3) := by decide +kernel
theorem dX4_dropOldest_57 : decode cX4_dropOldest 57 = .ok (.aload_n 1, 1) := by decide +kernel
theorem dX4_dropOldest_58 : decode cX4_dropOldest 58 = .ok (.aastore, 1) := by decide +kernel
theorem dX4_dropOldest_59 : decode cX4_dropOldest 59 = .ok (.return_, 1) := by decide +kernel
theorem dX4_stepsUp_0 : decode cX4_stepsUp 0 = .ok (.iload_n 0, 1) := by decide +kernel
theorem dX4_stepsUp_1 : decode cX4_stepsUp 1 = .ok (.iload_n 1, 1) := by decide +kernel
theorem dX4_stepsUp_2 : decode cX4_stepsUp 2 = .ok (.if_icmp .gt 5, 3) := by decide +kernel
theorem dX4_stepsUp_5 : decode cX4_stepsUp 5 = .ok (.iload_n 0, 1) := by decide +kernel
theorem dX4_stepsUp_6 : decode cX4_stepsUp 6 = .ok (.ireturn, 1) := by decide +kernel
theorem dX4_stepsUp_7 : decode cX4_stepsUp 7 = .ok (.iload_n 0, 1) := by decide +kernel
theorem dX4_stepsUp_8 : decode cX4_stepsUp 8 = .ok (.iconst 3, 1) := by decide +kernel
theorem dX4_stepsUp_9 : decode cX4_stepsUp 9 = .ok (.iload_n 1, 1) := by decide +kernel
theorem dX4_stepsUp_10 : decode cX4_stepsUp 10 = .ok (.imul, 1) := by decide +kernel
theorem dX4_stepsUp_11 : decode cX4_stepsUp 11 = .ok (.if_icmp .gt 11, 3) := by decide +kernel
theorem dX4_stepsUp_14 : decode cX4_stepsUp 14 = .ok (.iconst 2, 1) := by decide +kernel
theorem dX4_stepsUp_15 : decode cX4_stepsUp 15 = .ok (.iload_n 1, 1) := by decide +kernel
theorem dX4_stepsUp_16 : decode cX4_stepsUp 16 = .ok (.imul, 1) := by decide +kernel
theorem dX4_stepsUp_17 : decode cX4_stepsUp 17 = .ok (.iload_n 0, 1) := by decide +kernel
theorem dX4_stepsUp_18 : decode cX4_stepsUp 18 = .ok (.isub, 1) := by decide +kernel
theorem dX4_stepsUp_19 : decode cX4_stepsUp 19 = .ok (.goto 8, 3) := by decide +kernel
theorem dX4_stepsUp_22 : decode cX4_stepsUp 22 = .ok (.iload_n 0, 1) := by decide +kernel
theorem dX4_stepsUp_23 : decode cX4_stepsUp 23 = .ok (.iconst 4, 1) := by decide +kernel
theorem dX4_stepsUp_24 : decode cX4_stepsUp 24 = .ok (.iload_n 1, 1) := by decide +kernel
theorem dX4_stepsUp_25 : decode cX4_stepsUp 25 = .ok (.imul, 1) := by decide +kernel
theorem dX4_stepsUp_26 : decode cX4_stepsUp 26 = .ok (.isub, 1) := by decide +kernel
theorem dX4_stepsUp_27 : decode cX4_stepsUp 27 = .ok (.ireturn, 1) := by decide +kernel
theorem dX4_firstPush_0 : decode cX4_firstPush 0 = .ok (.iload_n 2, 1) := by decide +kernel
theorem dX4_firstPush_1 : decode cX4_firstPush 1 = .ok (.iconst 1, 1) := by decide +kernel
theorem dX4_firstPush_2 : decode cX4_firstPush 2 = .ok (.if_icmp .lt 15, 3) := by decide +kernel
theorem dX4_firstPush_5 : decode cX4_firstPush 5 = .ok (.iload_n 1, 1) := by decide +kernel
theorem dX4_firstPush_6 : decode cX4_firstPush 6 = .ok (.ifCond .lt 11, 3) := by decide +kernel
theorem dX4_firstPush_9 : decode cX4_firstPush 9 = .ok (.iload_n 1, 1) := by decide +kernel
theorem dX4_firstPush_10 : decode cX4_firstPush 10 = .ok (.aload_n 0, 1) := by decide +kernel
theorem dX4_firstPush_11 : decode cX4_firstPush 11 = .ok (.arraylength, 1) := by decide +kernel
theorem dX4_firstPush_12 : decode cX4_firstPush 12 = .ok (.iconst 1, 1) := by decide +kernel
theorem dX4_firstPush_13 : decode cX4_firstPush 13 = .ok (.isub, 1) := by decide +kernel
theorem dX4_firstPush_14 : decode cX4_firstPush 14 = .ok (.if_icmp .lt 6, 3) := by decide +kernel
theorem dX4_firstPush_17 : decode cX4_firstPush 17 = .ok (.ldc 151, 2) := by decide +kernel
theorem dX4_firstPush_19 : decode cX4_firstPush 19 = .ok (.ireturn, 1) := by decide +kernel
theorem dX4_firstPush_20 : decode cX4_firstPush 20 = .ok (.aload_n 0, 1) := by decide +kernel
theorem dX4_firstPush_21 : decode cX4_firstPush 21 = .ok (.iload_n 1, 1) := by decide +kernel
theorem dX4_firstPush_22 : decode cX4_firstPush 22 = .ok (.aaload, 1) := by decide +kernel
theorem dX4_firstPush_23 : decode cX4_firstPush 23 = .ok (.astore_n 3, 1) := by decide +kernel
theorem dX4_firstPush_24 : decode cX4_firstPush 24 = .ok (.aload_n 0, 1) := by decide +kernel
theorem dX4_firstPush_25 : decode cX4_firstPush 25 = .ok (.iload_n 1, 1) := by decide +kernel
theorem dX4_firstPush_26 : decode cX4_firstPush 26 = .ok (.iconst 1, 1) := by decide +kernel
theorem dX4_firstPush_27 : decode cX4_firstPush 27 = .ok (.iadd, 1) := by decide +kernel
theorem dX4_firstPush_28 : decode cX4_firstPush 28 = .ok (.aaload, 1) := by decide +kernel
theorem dX4_firstPush_29 : decode cX4_firstPush 29 = .ok (.astore 4, 2) := by decide +kernel
theorem dX4_firstPush_31 : decode cX4_firstPush 31 = .ok (.iconst 0, 1) := by decide +kernel
theorem dX4_firstPush_32 : decode cX4_firstPush 32 = .ok (.istore 5, 2) := by decide +kernel
theorem dX4_firstPush_34 : decode cX4_firstPush 34 = .ok (.iload 5, 2) := by decide +kernel
theorem dX4_firstPush_36 : decode cX4_firstPush 36 = .ok (.iconst 2, 1) := by decide +kernel
theorem dX4_firstPush_37 : decode cX4_firstPush 37 = .ok (.aload_n 3, 1) := by decide +kernel
theorem dX4_firstPush_38 : decode cX4_firstPush 38 = .ok (.getfield 54, 3) := by decide +kernel
theorem dX4_firstPush_41 : decode cX4_firstPush 41 = .ok (.imul, 1) := by decide +kernel
theorem dX4_firstPush_42 : decode cX4_firstPush 42 = .ok (.if_icmp .ge 97, 3) := by decide +kernel
theorem dX4_firstPush_45 : decode cX4_firstPush 45 = .ok (.aload_n 3, 1) := by decide +kernel
theorem dX4_firstPush_46 : decode cX4_firstPush 46 = .ok (.getfield 105, 3) := by decide +kernel
theorem dX4_firstPush_49 : decode cX4_firstPush 49 = .ok (.iload 5, 2) := by decide +kernel
theorem dX4_firstPush_51 : decode cX4_firstPush 51 = .ok (.invokestatic 217, 3) := by decide +kernel
theorem dX4_firstPush_54 : decode cX4_firstPush 54 = .ok (.iaload, 1) := by decide +kernel
theorem dX4_firstPush_55 : decode cX4_firstPush 55 = .ok (.iconst 1, 1) := by decide +kernel
theorem dX4_firstPush_56 : decode cX4_firstPush 56 = .ok (.if_icmp .ne 6, 3) := by decide +kernel
theorem dX4_firstPush_59 : decode cX4_firstPush 59 = .ok (.goto 74, 3) := by decide +kernel
theorem dX4_firstPush_62 : decode cX4_firstPush 62 = .ok (.aload 4, 2) := by decide +kernel
theorem dX4_firstPush_64 : decode cX4_firstPush 64 = .ok (.aload_n 3, 1) := by decide +kernel
theorem dX4_firstPush_65 : decode cX4_firstPush 65 = .ok (.invokevirtual 238, 3) := by decide +kernel
theorem dX4_firstPush_68 : decode cX4_firstPush 68 = .ok (.aload 4, 2) := by decide +kernel
theorem dX4_firstPush_70 : decode cX4_firstPush 70 = .ok (.iload 5, 2) := by decide +kernel
theorem dX4_firstPush_72 : decode cX4_firstPush 72 = .ok (.invokestatic 217, 3) := by decide +kernel
theorem dX4_firstPush_75 : decode cX4_firstPush 75 = .ok (.iload 5, 2) := by decide +kernel
theorem dX4_firstPush_77 : decode cX4_firstPush 77 = .ok (.invokestatic 220, 3) := by decide +kernel
theorem dX4_firstPush_80 : decode cX4_firstPush 80 = .ok (.invokevirtual 129, 3) := by decide +kernel
theorem dX4_firstPush_83 : decode cX4_firstPush 83 = .ok (.aload 4, 2) := by decide +kernel
theorem dX4_firstPush_85 : decode cX4_firstPush 85 = .ok (.aconst_null, 1) := by decide +kernel
theorem dX4_firstPush_86 : decode cX4_firstPush 86 = .ok (.invokevirtual 73, 3) := by decide +kernel
theorem dX4_firstPush_89 : decode cX4_firstPush 89 = .ok (.pop, 1) := by decide +kernel
theorem dX4_firstPush_90 : decode cX4_firstPush 90 = .ok (.iload_n 2, 1) := by decide +kernel
theorem dX4_firstPush_91 : decode cX4_firstPush 91 = .ok (.iconst 1, 1) := by decide +kernel
theorem dX4_firstPush_92 : decode cX4_firstPush 92 = .ok (.if_icmp .ne 14, 3) := by decide +kernel
theorem dX4_firstPush_95 : decode cX4_firstPush 95 = .ok (.aload 4, 2) := by decide +kernel
theorem dX4_firstPush_97 : decode cX4_firstPush 97 = .ok (.invokevirtual 177, 3) := by decide +kernel
theorem dX4_firstPush_100 : decode cX4_firstPush 100 = .ok (.ifCond .ne 33, 3) := by decide +kernel
theorem dX4_firstPush_103 : decode cX4_firstPush 103 = .ok (.iload 5, 2) := by decide +kernel
theorem dX4_firstPush_105 : decode cX4_firstPush 105 = .ok (.ireturn, 1) := by decide +kernel
theorem dX4_firstPush_106 : decode cX4_firstPush 106 = .ok (.aload 4, 2) := by decide +kernel
theorem dX4_firstPush_108 : decode cX4_firstPush 108 = .ok (.aload_n 3, 1) := by decide +kernel
theorem dX4_firstPush_109 : decode cX4_firstPush 109 = .ok (.invokevirtual 122, 3) := by decide +kernel
theorem dX4_firstPush_112 : decode cX4_firstPush 112 = .ok (.ifCond .le 21, 3) := by decide +kernel
theorem dX4_firstPush_115 : decode cX4_firstPush 115 = .ok (.aload_n 0, 1) := by decide +kernel
theorem dX4_firstPush_116 : decode cX4_firstPush 116 = .ok (.iload_n 1, 1) := by decide +kernel
theorem dX4_firstPush_117 : decode cX4_firstPush 117 = .ok (.iconst 1, 1) := by decide +kernel
theorem dX4_firstPush_118 : decode cX4_firstPush 118 = .ok (.iadd, 1) := by decide +kernel
theorem dX4_firstPush_119 : decode cX4_firstPush 119 = .ok (.iload_n 2, 1) := by decide +kernel
theorem dX4_firstPush_120 : decode cX4_firstPush 120 = .ok (.iconst 1, 1) := by decide +kernel
theorem dX4_firstPush_121 : decode cX4_firstPush 121 = .ok (.isub, 1) := by decide +kernel
theorem dX4_firstPush_122 : decode cX4_firstPush 122 = .ok (.invokestatic 213, 3) := by decide +kernel
theorem dX4_firstPush_125 : decode cX4_firstPush 125 = .ok (.ldc 151, 2) := by decide +kernel
theorem dX4_firstPush_127 : decode cX4_firstPush 127 = .ok (.if_icmp .eq 6, 3) := by decide +kernel
theorem dX4_firstPush_130 : decode cX4_firstPush 130 = .ok (.iload 5, 2) := by decide +kernel
theorem dX4_firstPush_132 : decode cX4_firstPush 132 = .ok (.ireturn, 1) := by decide +kernel
theorem dX4_firstPush_133 : decode cX4_firstPush 133 = .ok (.iinc 5 1, 3) := by decide +kernel
theorem dX4_firstPush_136 : decode cX4_firstPush 136 = .ok (.goto (-102), 3) := by decide +kernel
theorem dX4_firstPush_139 : decode cX4_firstPush 139 = .ok (.ldc 151, 2) := by decide +kernel
theorem dX4_firstPush_141 : decode cX4_firstPush 141 = .ok (.ireturn, 1) := by decide +kernel
theorem dX4_magnetOf_0 : decode cX4_magnetOf 0 = .ok (.iload_n 0, 1) := by decide +kernel
theorem dX4_magnetOf_1 : decode cX4_magnetOf 1 = .ok (.iconst 2, 1) := by decide +kernel
theorem dX4_magnetOf_2 : decode cX4_magnetOf 2 = .ok (.idiv, 1) := by decide +kernel
theorem dX4_magnetOf_3 : decode cX4_magnetOf 3 = .ok (.ireturn, 1) := by decide +kernel
theorem dX4_directionOf_0 : decode cX4_directionOf 0 = .ok (.iload_n 0, 1) := by decide +kernel
theorem dX4_directionOf_1 : decode cX4_directionOf 1 = .ok (.iconst 2, 1) := by decide +kernel
theorem dX4_directionOf_2 : decode cX4_directionOf 2 = .ok (.irem, 1) := by decide +kernel
theorem dX4_directionOf_3 : decode cX4_directionOf 3 = .ok (.ifCond .ne 7, 3) := by decide +kernel
theorem dX4_directionOf_6 : decode cX4_directionOf 6 = .ok (.iconst 1, 1) := by decide +kernel
theorem dX4_directionOf_7 : decode cX4_directionOf 7 = .ok (.goto 4, 3) := by decide +kernel
theorem dX4_directionOf_10 : decode cX4_directionOf 10 = .ok (.iconst (-1), 1) := by decide +kernel
theorem dX4_directionOf_11 : decode cX4_directionOf 11 = .ok (.ireturn, 1) := by decide +kernel
theorem dX4_cosine_0 : decode cX4_cosine 0 = .ok (.getstatic 241, 3) := by decide +kernel
theorem dX4_cosine_3 : decode cX4_cosine 3 = .ok (.iload_n 0, 1) := by decide +kernel
theorem dX4_cosine_4 : decode cX4_cosine 4 = .ok (.bipush 7, 2) := by decide +kernel
theorem dX4_cosine_6 : decode cX4_cosine 6 = .ok (.iand, 1) := by decide +kernel
theorem dX4_cosine_7 : decode cX4_cosine 7 = .ok (.iaload, 1) := by decide +kernel
theorem dX4_cosine_8 : decode cX4_cosine 8 = .ok (.ireturn, 1) := by decide +kernel
theorem dX4_pull_0 : decode cX4_pull 0 = .ok (.bipush 10, 2) := by decide +kernel
theorem dX4_pull_2 : decode cX4_pull 2 = .ok (.getstatic 241, 3) := by decide +kernel
theorem dX4_pull_5 : decode cX4_pull 5 = .ok (.iload_n 0, 1) := by decide +kernel
theorem dX4_pull_6 : decode cX4_pull 6 = .ok (.iload_n 1, 1) := by decide +kernel
theorem dX4_pull_7 : decode cX4_pull 7 = .ok (.isub, 1) := by decide +kernel
theorem dX4_pull_8 : decode cX4_pull 8 = .ok (.bipush 7, 2) := by decide +kernel
theorem dX4_pull_10 : decode cX4_pull 10 = .ok (.iand, 1) := by decide +kernel
theorem dX4_pull_11 : decode cX4_pull 11 = .ok (.iaload, 1) := by decide +kernel
theorem dX4_pull_12 : decode cX4_pull 12 = .ok (.imul, 1) := by decide +kernel
theorem dX4_pull_13 : decode cX4_pull 13 = .ok (.iconst 3, 1) := by decide +kernel
theorem dX4_pull_14 : decode cX4_pull 14 = .ok (.getstatic 241, 3) := by decide +kernel
theorem dX4_pull_17 : decode cX4_pull 17 = .ok (.iload_n 0, 1) := by decide +kernel
theorem dX4_pull_18 : decode cX4_pull 18 = .ok (.bipush 7, 2) := by decide +kernel
theorem dX4_pull_20 : decode cX4_pull 20 = .ok (.iand, 1) := by decide +kernel
theorem dX4_pull_21 : decode cX4_pull 21 = .ok (.iaload, 1) := by decide +kernel
theorem dX4_pull_22 : decode cX4_pull 22 = .ok (.imul, 1) := by decide +kernel
theorem dX4_pull_23 : decode cX4_pull 23 = .ok (.getstatic 241, 3) := by decide +kernel
theorem dX4_pull_26 : decode cX4_pull 26 = .ok (.iload_n 1, 1) := by decide +kernel
theorem dX4_pull_27 : decode cX4_pull 27 = .ok (.bipush 7, 2) := by decide +kernel
theorem dX4_pull_29 : decode cX4_pull 29 = .ok (.iand, 1) := by decide +kernel
theorem dX4_pull_30 : decode cX4_pull 30 = .ok (.iaload, 1) := by decide +kernel
theorem dX4_pull_31 : decode cX4_pull 31 = .ok (.imul, 1) := by decide +kernel
theorem dX4_pull_32 : decode cX4_pull 32 = .ok (.isub, 1) := by decide +kernel
theorem dX4_pull_33 : decode cX4_pull 33 = .ok (.ireturn, 1) := by decide +kernel
theorem dX5_init_0 : decode cX5_init 0 = .ok (.aload_n 0, 1) := by decide +kernel
theorem dX5_init_1 : decode cX5_init 1 = .ok (.invokespecial 1, 3) := by decide +kernel
theorem dX5_init_4 : decode cX5_init 4 = .ok (.aload_n 0, 1) := by decide +kernel
theorem dX5_init_5 : decode cX5_init 5 = .ok (.sipush 130, 3) := by decide +kernel
theorem dX5_init_8 : decode cX5_init 8 = .ok (.newarray .int, 2) := by decide +kernel
theorem dX5_init_10 : decode cX5_init 10 = .ok (.putfield 7, 3) := by decide +kernel
theorem dX5_init_13 : decode cX5_init 13 = .ok (.aload_n 0, 1) := by decide +kernel
theorem dX5_init_14 : decode cX5_init 14 = .ok (.sipush 1040, 3) := by decide +kernel
theorem dX5_init_17 : decode cX5_init 17 = .ok (.newarray .int, 2) := by decide +kernel
theorem dX5_init_19 : decode cX5_init 19 = .ok (.putfield 13, 3) := by decide +kernel
theorem dX5_init_22 : decode cX5_init 22 = .ok (.aload_n 0, 1) := by decide +kernel
theorem dX5_init_23 : decode cX5_init 23 = .ok (.sipush 260, 3) := by decide +kernel
theorem dX5_init_26 : decode cX5_init 26 = .ok (.newarray .int, 2) := by decide +kernel
theorem dX5_init_28 : decode cX5_init 28 = .ok (.putfield 16, 3) := by decide +kernel
theorem dX5_init_31 : decode cX5_init 31 = .ok (.aload_n 0, 1) := by decide +kernel
theorem dX5_init_32 : decode cX5_init 32 = .ok (.iconst 2, 1) := by decide +kernel
theorem dX5_init_33 : decode cX5_init 33 = .ok (.newarray .int, 2) := by decide +kernel
theorem dX5_init_35 : decode cX5_init 35 = .ok (.putfield 19, 3) := by decide +kernel
theorem dX5_init_38 : decode cX5_init 38 = .ok (.aload_n 0, 1) := by decide +kernel
theorem dX5_init_39 : decode cX5_init 39 = .ok (.bipush 40, 2) := by decide +kernel
theorem dX5_init_41 : decode cX5_init 41 = .ok (.newarray .int, 2) := by decide +kernel
theorem dX5_init_43 : decode cX5_init 43 = .ok (.putfield 22, 3) := by decide +kernel
theorem dX5_init_46 : decode cX5_init 46 = .ok (.aload_n 0, 1) := by decide +kernel
theorem dX5_init_47 : decode cX5_init 47 = .ok (.ldc 25, 2) := by decide +kernel
theorem dX5_init_49 : decode cX5_init 49 = .ok (.putfield 26, 3) := by decide +kernel
theorem dX5_init_52 : decode cX5_init 52 = .ok (.aload_n 0, 1) := by decide +kernel
theorem dX5_init_53 : decode cX5_init 53 = .ok (.ldc 25, 2) := by decide +kernel
theorem dX5_init_55 : decode cX5_init 55 = .ok (.putfield 30, 3) := by decide +kernel
theorem dX5_init_58 : decode cX5_init 58 = .ok (.aload_n 0, 1) := by decide +kernel
theorem dX5_init_59 : decode cX5_init 59 = .ok (.sipush 130, 3) := by decide +kernel
theorem dX5_init_62 : decode cX5_init 62 = .ok (.newarray .int, 2) := by decide +kernel
theorem dX5_init_64 : decode cX5_init 64 = .ok (.putfield 33, 3) := by decide +kernel
theorem dX5_init_67 : decode cX5_init 67 = .ok (.aload_n 0, 1) := by decide +kernel
theorem dX5_init_68 : decode cX5_init 68 = .ok (.bipush 30, 2) := by decide +kernel
theorem dX5_init_70 : decode cX5_init 70 = .ok (.newarray .int, 2) := by decide +kernel
theorem dX5_init_72 : decode cX5_init 72 = .ok (.putfield 36, 3) := by decide +kernel
theorem dX5_init_75 : decode cX5_init 75 = .ok (.aload_n 0, 1) := by decide +kernel
theorem dX5_init_76 : decode cX5_init 76 = .ok (.iconst 3, 1) := by decide +kernel
theorem dX5_init_77 : decode cX5_init 77 = .ok (.newarray .int, 2) := by decide +kernel
theorem dX5_init_79 : decode cX5_init 79 = .ok (.putfield 39, 3) := by decide +kernel
theorem dX5_init_82 : decode cX5_init 82 = .ok (.aload_n 0, 1) := by decide +kernel
theorem dX5_init_83 : decode cX5_init 83 = .ok (.bipush 10, 2) := by decide +kernel
theorem dX5_init_85 : decode cX5_init 85 = .ok (.newarray .int, 2) := by decide +kernel
theorem dX5_init_87 : decode cX5_init 87 = .ok (.putfield 42, 3) := by decide +kernel
theorem dX5_init_90 : decode cX5_init 90 = .ok (.aload_n 0, 1) := by decide +kernel
theorem dX5_init_91 : decode cX5_init 91 = .ok (.bipush 10, 2) := by decide +kernel
theorem dX5_init_93 : decode cX5_init 93 = .ok (.newarray .int, 2) := by decide +kernel
theorem dX5_init_95 : decode cX5_init 95 = .ok (.putfield 45, 3) := by decide +kernel
theorem dX5_init_98 : decode cX5_init 98 = .ok (.aload_n 0, 1) := by decide +kernel
theorem dX5_init_99 : decode cX5_init 99 = .ok (.getfield 7, 3) := by decide +kernel
theorem dX5_init_102 : decode cX5_init 102 = .ok (.bipush 31, 2) := by decide +kernel
theorem dX5_init_104 : decode cX5_init 104 = .ok (.bipush 10, 2) := by decide +kernel
theorem dX5_init_106 : decode cX5_init 106 = .ok (.iastore, 1) := by decide +kernel
theorem dX5_init_107 : decode cX5_init 107 = .ok (.aload_n 0, 1) := by decide +kernel
theorem dX5_init_108 : decode cX5_init 108 = .ok (.getfield 7, 3) := by decide +kernel
theorem dX5_init_111 : decode cX5_init 111 = .ok (.bipush 32, 2) := by decide +kernel
theorem dX5_init_113 : decode cX5_init 113 = .ok (.sipush 300, 3) := by decide +kernel
theorem dX5_init_116 : decode cX5_init 116 = .ok (.iastore, 1) := by decide +kernel
theorem dX5_init_117 : decode cX5_init 117 = .ok (.aload_n 0, 1) := by decide +kernel
theorem dX5_init_118 : decode cX5_init 118 = .ok (.iconst 4, 1) := by decide +kernel
theorem dX5_init_119 : decode cX5_init 119 = .ok (.invokevirtual 48, 3) := by decide +kernel
theorem dX5_init_122 : decode cX5_init 122 = .ok (.return_, 1) := by decide +kernel
theorem dX5_isIn_0 : decode cX5_isIn 0 = .ok (.iload_n 0, 1) := by decide +kernel
theorem dX5_isIn_1 : decode cX5_isIn 1 = .ok (.iload_n 1, 1) := by decide +kernel
theorem dX5_isIn_2 : decode cX5_isIn 2 = .ok (.if_icmp .lt 12, 3) := by decide +kernel
theorem dX5_isIn_5 : decode cX5_isIn 5 = .ok (.iload_n 0, 1) := by decide +kernel
theorem dX5_isIn_6 : decode cX5_isIn 6 = .ok (.iload_n 2, 1) := by decide +kernel
theorem dX5_isIn_7 : decode cX5_isIn 7 = .ok (.if_icmp .gt 7, 3) := by decide +kernel
theorem dX5_isIn_10 : decode cX5_isIn 10 = .ok (.iconst 1, 1) := by decide +kernel
theorem dX5_isIn_11 : decode cX5_isIn 11 = .ok (.goto 4, 3) := by decide +kernel
theorem dX5_isIn_14 : decode cX5_isIn 14 = .ok (.iconst 0, 1) := by decide +kernel
theorem dX5_isIn_15 : decode cX5_isIn 15 = .ok (.ireturn, 1) := by decide +kernel
theorem dX5_isMagnet_0 : decode cX5_isMagnet 0 = .ok (.iload_n 1, 1) := by decide +kernel
theorem dX5_isMagnet_1 : decode cX5_isMagnet 1 = .ok (.iconst 0, 1) := by decide +kernel
theorem dX5_isMagnet_2 : decode cX5_isMagnet 2 = .ok (.aload_n 0, 1) := by decide +kernel
theorem dX5_isMagnet_3 : decode cX5_isMagnet 3 = .ok (.getfield 7, 3) := by decide +kernel
theorem dX5_isMagnet_6 : decode cX5_isMagnet 6 = .ok (.iconst 0, 1) := by decide +kernel
theorem dX5_isMagnet_7 : decode cX5_isMagnet 7 = .ok (.iaload, 1) := by decide +kernel
theorem dX5_isMagnet_8 : decode cX5_isMagnet 8 = .ok (.iconst 1, 1) := by decide +kernel
theorem dX5_isMagnet_9 : decode cX5_isMagnet 9 = .ok (.isub, 1) := by decide +kernel
theorem dX5_isMagnet_10 : decode cX5_isMagnet 10 = .ok (.invokestatic 52, 3) := by decide +kernel
theorem dX5_isMagnet_13 : decode cX5_isMagnet 13 = .ok (.ireturn, 1) := by decide +kernel
theorem dX5_lay_0 : decode cX5_lay 0 = .ok (.aload_n 0, 1) := by decide +kernel
theorem dX5_lay_1 : decode cX5_lay 1 = .ok (.getfield 7, 3) := by decide +kernel
theorem dX5_lay_4 : decode cX5_lay 4 = .ok (.iconst 0, 1) := by decide +kernel
theorem dX5_lay_5 : decode cX5_lay 5 = .ok (.iload_n 1, 1) := by decide +kernel
theorem dX5_lay_6 : decode cX5_lay 6 = .ok (.iastore, 1) := by decide +kernel
theorem dX5_lay_7 : decode cX5_lay 7 = .ok (.iconst 0, 1) := by decide +kernel
theorem dX5_lay_8 : decode cX5_lay 8 = .ok (.istore_n 2, 1) := by decide +kernel
theorem dX5_lay_9 : decode cX5_lay 9 = .ok (.iload_n 2, 1) := by decide +kernel
theorem dX5_lay_10 : decode cX5_lay 10 = .ok (.bipush 10, 2) := by decide +kernel
theorem dX5_lay_12 : decode cX5_lay 12 = .ok (.if_icmp .ge 39, 3) := by decide +kernel
theorem dX5_lay_15 : decode cX5_lay 15 = .ok (.aload_n 0, 1) := by decide +kernel
theorem dX5_lay_16 : decode cX5_lay 16 = .ok (.getfield 7, 3) := by decide +kernel
theorem dX5_lay_19 : decode cX5_lay 19 = .ok (.iconst 1, 1) := by decide +kernel
theorem dX5_lay_20 : decode cX5_lay 20 = .ok (.iload_n 2, 1) := by decide +kernel
theorem dX5_lay_21 : decode cX5_lay 21 = .ok (.iadd, 1) := by decide +kernel
theorem dX5_lay_22 : decode cX5_lay 22 = .ok (.iconst 0, 1) := by decide +kernel
theorem dX5_lay_23 : decode cX5_lay 23 = .ok (.iastore, 1) := by decide +kernel
theorem dX5_lay_24 : decode cX5_lay 24 = .ok (.aload_n 0, 1) := by decide +kernel
theorem dX5_lay_25 : decode cX5_lay 25 = .ok (.getfield 7, 3) := by decide +kernel
theorem dX5_lay_28 : decode cX5_lay 28 = .ok (.bipush 11, 2) := by decide +kernel
theorem dX5_lay_30 : decode cX5_lay 30 = .ok (.iload_n 2, 1) := by decide +kernel
theorem dX5_lay_31 : decode cX5_lay 31 = .ok (.iadd, 1) := by decide +kernel
theorem dX5_lay_32 : decode cX5_lay 32 = .ok (.iconst 0, 1) := by decide +kernel
theorem dX5_lay_33 : decode cX5_lay 33 = .ok (.iastore, 1) := by decide +kernel
theorem dX5_lay_34 : decode cX5_lay 34 = .ok (.aload_n 0, 1) := by decide +kernel
theorem dX5_lay_35 : decode cX5_lay 35 = .ok (.getfield 7, 3) := by decide +kernel
theorem dX5_lay_38 : decode cX5_lay 38 = .ok (.bipush 21, 2) := by decide +kernel
theorem dX5_lay_40 : decode cX5_lay 40 = .ok (.iload_n 2, 1) := by decide +kernel
theorem dX5_lay_41 : decode cX5_lay 41 = .ok (.iadd, 1) := by decide +kernel
theorem dX5_lay_42 : decode cX5_lay 42 = .ok (.ldc 25, 2) := by decide +kernel
theorem dX5_lay_44 : decode cX5_lay 44 = .ok (.iastore, 1) := by decide +kernel
theorem dX5_lay_45 : decode cX5_lay 45 = .ok (.iinc 2 1, 3) := by decide +kernel
theorem dX5_lay_48 : decode cX5_lay 48 = .ok (.goto (-39), 3) := by decide +kernel
theorem dX5_lay_51 : decode cX5_lay 51 = .ok (.return_, 1) := by decide +kernel
theorem dX5_record_0 : decode cX5_record 0 = .ok (.aload_n 0, 1) := by decide +kernel
theorem dX5_record_1 : decode cX5_record 1 = .ok (.getfield 56, 3) := by decide +kernel
theorem dX5_record_4 : decode cX5_record 4 = .ok (.bipush 8, 2) := by decide +kernel
theorem dX5_record_6 : decode cX5_record 6 = .ok (.if_icmp .ne 44, 3) := by decide +kernel
theorem dX5_record_9 : decode cX5_record 9 = .ok (.iconst 0, 1) := by decide +kernel
theorem dX5_record_10 : decode cX5_record 10 = .ok (.istore_n 1, 1) := by decide +kernel
theorem dX5_record_11 : decode cX5_record 11 = .ok (.iload_n 1, 1) := by decide +kernel
theorem dX5_record_12 : decode cX5_record 12 = .ok (.sipush 910, 3) := by decide +kernel
theorem dX5_record_15 : decode cX5_record 15 = .ok (.if_icmp .ge 25, 3) := by decide +kernel
theorem dX5_record_18 : decode cX5_record 18 = .ok (.aload_n 0, 1) := by decide +kernel
theorem dX5_record_19 : decode cX5_record 19 = .ok (.getfield 13, 3) := by decide +kernel
theorem dX5_record_22 : decode cX5_record 22 = .ok (.iload_n 1, 1) := by decide +kernel
theorem dX5_record_23 : decode cX5_record 23 = .ok (.aload_n 0, 1) := by decide +kernel
theorem dX5_record_24 : decode cX5_record 24 = .ok (.getfield 13, 3) := by decide +kernel
theorem dX5_record_27 : decode cX5_record 27 = .ok (.iload_n 1, 1) := by decide +kernel
theorem dX5_record_28 : decode cX5_record 28 = .ok (.sipush 130, 3) := by decide +kernel
theorem dX5_record_31 : decode cX5_record 31 = .ok (.iadd, 1) := by decide +kernel
theorem dX5_record_32 : decode cX5_record 32 = .ok (.iaload, 1) := by decide +kernel
theorem dX5_record_33 : decode cX5_record 33 = .ok (.iastore, 1) := by decide +kernel
theorem dX5_record_34 : decode cX5_record 34 = .ok (.iinc 1 1, 3) := by decide +kernel
theorem dX5_record_37 : decode cX5_record 37 = .ok (.goto (-26), 3) := by decide +kernel
theorem dX5_record_40 : decode cX5_record 40 = .ok (.aload_n 0, 1) := by decide +kernel
theorem dX5_record_41 : decode cX5_record 41 = .ok (.dup, 1) := by decide +kernel
theorem dX5_record_42 : decode cX5_record 42 = .ok (.getfield 56, 3) := by decide +kernel
theorem dX5_record_45 : decode cX5_record 45 = .ok (.iconst 1, 1) := by decide +kernel
theorem dX5_record_46 : decode cX5_record 46 = .ok (.isub, 1) := by decide +kernel
theorem dX5_record_47 : decode cX5_record 47 = .ok (.putfield 56, 3) := by decide +kernel
theorem dX5_record_50 : decode cX5_record 50 = .ok (.iconst 0, 1) := by decide +kernel
theorem dX5_record_51 : decode cX5_record 51 = .ok (.istore_n 1, 1) := by decide +kernel
theorem dX5_record_52 : decode cX5_record 52 = .ok (.iload_n 1, 1) := by decide +kernel
theorem dX5_record_53 : decode cX5_record 53 = .ok (.sipush 130, 3) := by decide +kernel
theorem dX5_record_56 : decode cX5_record 56 = .ok (.if_icmp .ge 30, 3) := by decide +kernel
theorem dX5_record_59 : decode cX5_record 59 = .ok (.aload_n 0, 1) := by decide +kernel
theorem dX5_record_60 : decode cX5_record 60 = .ok (.getfield 13, 3) := by decide +kernel
theorem dX5_record_63 : decode cX5_record 63 = .ok (.sipush 130, 3) := by decide +kernel
theorem dX5_record_66 : decode cX5_record 66 = .ok (.aload_n 0, 1) := by decide +kernel
theorem dX5_record_67 : decode cX5_record 67 = .ok (.getfield 56, 3) := by decide +kernel
theorem dX5_record_70 : decode cX5_record 70 = .ok (.imul, 1) := by decide +kernel
theorem dX5_record_71 : decode cX5_record 71 = .ok (.iload_n 1, 1) := by decide +kernel
theorem dX5_record_72 : decode cX5_record 72 = .ok (.iadd, 1) := by decide +kernel
theorem dX5_record_73 : decode cX5_record 73 = .ok (.aload_n 0, 1) := by decide +kernel
theorem dX5_record_74 : decode cX5_record 74 = .ok (.getfield 7, 3) := by decide +kernel
theorem dX5_record_77 : decode cX5_record 77 = .ok (.iload_n 1, 1) := by decide +kernel
theorem dX5_record_78 : decode cX5_record 78 = .ok (.iaload, 1) := by decide +kernel
theorem dX5_record_79 : decode cX5_record 79 = .ok (.iastore, 1) := by decide +kernel
theorem dX5_record_80 : decode cX5_record 80 = .ok (.iinc 1 1, 3) := by decide +kernel
theorem dX5_record_83 : decode cX5_record 83 = .ok (.goto (-31), 3) := by decide +kernel
theorem dX5_record_86 : decode cX5_record 86 = .ok (.aload_n 0, 1) := by decide +kernel
theorem dX5_record_87 : decode cX5_record 87 = .ok (.dup, 1) := by decide +kernel
theorem dX5_record_88 : decode cX5_record 88 = .ok (.getfield 56, 3) := by decide +kernel
theorem dX5_record_91 : decode cX5_record 91 = .ok (.iconst 1, 1) := by decide +kernel
theorem dX5_record_92 : decode cX5_record 92 = .ok (.iadd, 1) := by decide +kernel
theorem dX5_record_93 : decode cX5_record 93 = .ok (.putfield 56, 3) := by decide +kernel
theorem dX5_record_96 : decode cX5_record 96 = .ok (.return_, 1) := by decide +kernel
theorem dX5_undo_0 : decode cX5_undo 0 = .ok (.aload_n 0, 1) := by decide +kernel
theorem dX5_undo_1 : decode cX5_undo 1 = .ok (.getfield 56, 3) := by decide +kernel
theorem dX5_undo_4 : decode cX5_undo 4 = .ok (.ifCond .ne 6, 3) := by decide +kernel
theorem dX5_undo_7 : decode cX5_undo 7 = .ok (.ldc 59, 2) := by decide +kernel
theorem dX5_undo_9 : decode cX5_undo 9 = .ok (.ireturn, 1) := by decide +kernel
theorem dX5_undo_10 : decode cX5_undo 10 = .ok (.aload_n 0, 1) := by decide +kernel
theorem dX5_undo_11 : decode cX5_undo 11 = .ok (.dup, 1) := by decide +kernel
theorem dX5_undo_12 : decode cX5_undo 12 = .ok (.getfield 56, 3) := by decide +kernel
theorem dX5_undo_15 : decode cX5_undo 15 = .ok (.iconst 1, 1) := by decide +kernel
theorem dX5_undo_16 : decode cX5_undo 16 = .ok (.isub, 1) := by decide +kernel
theorem dX5_undo_17 : decode cX5_undo 17 = .ok (.putfield 56, 3) := by decide +kernel
theorem dX5_undo_20 : decode cX5_undo 20 = .ok (.iconst 0, 1) := by decide +kernel
theorem dX5_undo_21 : decode cX5_undo 21 = .ok (.istore_n 1, 1) := by decide +kernel
theorem dX5_undo_22 : decode cX5_undo 22 = .ok (.iload_n 1, 1) := by decide +kernel
theorem dX5_undo_23 : decode cX5_undo 23 = .ok (.sipush 130, 3) := by decide +kernel
theorem dX5_undo_26 : decode cX5_undo 26 = .ok (.if_icmp .ge 30, 3) := by decide +kernel
theorem dX5_undo_29 : decode cX5_undo 29 = .ok (.aload_n 0, 1) := by decide +kernel
theorem dX5_undo_30 : decode cX5_undo 30 = .ok (.getfield 7, 3) := by decide +kernel
theorem dX5_undo_33 : decode cX5_undo 33 = .ok (.iload_n 1, 1) := by decide +kernel
theorem dX5_undo_34 : decode cX5_undo 34 = .ok (.aload_n 0, 1) := by decide +kernel
theorem dX5_undo_35 : decode cX5_undo 35 = .ok (.getfield 13, 3) := by decide +kernel
theorem dX5_undo_38 : decode cX5_undo 38 = .ok (.sipush 130, 3) := by decide +kernel
theorem dX5_undo_41 : decode cX5_undo 41 = .ok (.aload_n 0, 1) := by decide +kernel
theorem dX5_undo_42 : decode cX5_undo 42 = .ok (.getfield 56, 3) := by decide +kernel
theorem dX5_undo_45 : decode cX5_undo 45 = .ok (.imul, 1) := by decide +kernel
theorem dX5_undo_46 : decode cX5_undo 46 = .ok (.iload_n 1, 1) := by decide +kernel
theorem dX5_undo_47 : decode cX5_undo 47 = .ok (.iadd, 1) := by decide +kernel
theorem dX5_undo_48 : decode cX5_undo 48 = .ok (.iaload, 1) := by decide +kernel
theorem dX5_undo_49 : decode cX5_undo 49 = .ok (.iastore, 1) := by decide +kernel
theorem dX5_undo_50 : decode cX5_undo 50 = .ok (.iinc 1 1, 3) := by decide +kernel
theorem dX5_undo_53 : decode cX5_undo 53 = .ok (.goto (-31), 3) := by decide +kernel
theorem dX5_undo_56 : decode cX5_undo 56 = .ok (.aload_n 0, 1) := by decide +kernel
theorem dX5_undo_57 : decode cX5_undo 57 = .ok (.getfield 56, 3) := by decide +kernel
theorem dX5_undo_60 : decode cX5_undo 60 = .ok (.ireturn, 1) := by decide +kernel
theorem dX5_c_0 : decode cX5_c 0 = .ok (.iload_n 0, 1) := by decide +kernel
theorem dX5_c_1 : decode cX5_c 1 = .ok (.bipush 8, 2) := by decide +kernel
theorem dX5_c_3 : decode cX5_c 3 = .ok (.irem, 1) := by decide +kernel
theorem dX5_c_4 : decode cX5_c 4 = .ok (.bipush 8, 2) := by decide +kernel
theorem dX5_c_6 : decode cX5_c 6 = .ok (.iadd, 1) := by decide +kernel
theorem dX5_c_7 : decode cX5_c 7 = .ok (.bipush 8, 2) := by decide +kernel
theorem dX5_c_9 : decode cX5_c 9 = .ok (.irem, 1) := by decide +kernel
theorem dX5_c_10 : decode cX5_c 10 = .ok (.tableswitch 61 0 6 #[42, 45, 48, 50, 53, 56, 59], 42) := by decide +kernel
theorem dX5_c_52 : decode cX5_c 52 = .ok (.bipush 10, 2) := by decide +kernel
theorem dX5_c_54 : decode cX5_c 54 = .ok (.ireturn, 1) := by decide +kernel
theorem dX5_c_55 : decode cX5_c 55 = .ok (.bipush 7, 2) := by decide +kernel
theorem dX5_c_57 : decode cX5_c 57 = .ok (.ireturn, 1) := by decide +kernel
theorem dX5_c_58 : decode cX5_c 58 = .ok (.iconst 0, 1) := by decide +kernel
theorem dX5_c_59 : decode cX5_c 59 = .ok (.ireturn, 1) := by decide +kernel
theorem dX5_c_60 : decode cX5_c 60 = .ok (.bipush (-7), 2) := by decide +kernel
theorem dX5_c_62 : decode cX5_c 62 = .ok (.ireturn, 1) := by decide +kernel
theorem dX5_c_63 : decode cX5_c 63 = .ok (.bipush (-10), 2) := by decide +kernel
theorem dX5_c_65 : decode cX5_c 65 = .ok (.ireturn, 1) := by decide +kernel
theorem dX5_c_66 : decode cX5_c 66 = .ok (.bipush (-7), 2) := by decide +kernel
theorem dX5_c_68 : decode cX5_c 68 = .ok (.ireturn, 1) := by decide +kernel
theorem dX5_c_69 : decode cX5_c 69 = .ok (.iconst 0, 1) := by decide +kernel
theorem dX5_c_70 : decode cX5_c 70 = .ok (.ireturn, 1) := by decide +kernel
theorem dX5_c_71 : decode cX5_c 71 = .ok (.bipush 7, 2) := by decide +kernel
theorem dX5_c_73 : decode cX5_c 73 = .ok (.ireturn, 1) := by decide +kernel
theorem dX5_pull_0 : decode cX5_pull 0 = .ok (.bipush 10, 2) := by decide +kernel
theorem dX5_pull_2 : decode cX5_pull 2 = .ok (.iload_n 0, 1) := by decide +kernel
theorem dX5_pull_3 : decode cX5_pull 3 = .ok (.iload_n 1, 1) := by decide +kernel
theorem dX5_pull_4 : decode cX5_pull 4 = .ok (.isub, 1) := by decide +kernel
theorem dX5_pull_5 : decode cX5_pull 5 = .ok (.invokestatic 60, 3) := by decide +kernel
theorem dX5_pull_8 : decode cX5_pull 8 = .ok (.imul, 1) := by decide +kernel
theorem dX5_pull_9 : decode cX5_pull 9 = .ok (.iconst 3, 1) := by decide +kernel
theorem dX5_pull_10 : decode cX5_pull 10 = .ok (.iload_n 0, 1) := by decide +kernel
theorem dX5_pull_11 : decode cX5_pull 11 = .ok (.invokestatic 60, 3) := by decide +kernel
theorem dX5_pull_14 : decode cX5_pull 14 = .ok (.imul, 1) := by decide +kernel
theorem dX5_pull_15 : decode cX5_pull 15 = .ok (.iload_n 1, 1) := by decide +kernel
theorem dX5_pull_16 : decode cX5_pull 16 = .ok (.invokestatic 60, 3) := by decide +kernel
theorem dX5_pull_19 : decode cX5_pull 19 = .ok (.imul, 1) := by decide +kernel
theorem dX5_pull_20 : decode cX5_pull 20 = .ok (.isub, 1) := by decide +kernel
theorem dX5_pull_21 : decode cX5_pull 21 = .ok (.ireturn, 1) := by decide +kernel
theorem dX5_angle_0 : decode cX5_angle 0 = .ok (.aload_n 0, 1) := by decide +kernel
theorem dX5_angle_1 : decode cX5_angle 1 = .ok (.getfield 7, 3) := by decide +kernel
theorem dX5_angle_4 : decode cX5_angle 4 = .ok (.iconst 1, 1) := by decide +kernel
theorem dX5_angle_5 : decode cX5_angle 5 = .ok (.iload_n 1, 1) := by decide +kernel
theorem dX5_angle_6 : decode cX5_angle 6 = .ok (.iadd, 1) := by decide +kernel
theorem dX5_angle_7 : decode cX5_angle 7 = .ok (.iaload, 1) := by decide +kernel
theorem dX5_angle_8 : decode cX5_angle 8 = .ok (.ireturn, 1) := by decide +kernel
theorem dX5_pair_0 : decode cX5_pair 0 = .ok (.aload_n 0, 1) := by decide +kernel
theorem dX5_pair_1 : decode cX5_pair 1 = .ok (.iload_n 3, 1) := by decide +kernel
theorem dX5_pair_2 : decode cX5_pair 2 = .ok (.invokevirtual 64, 3) := by decide +kernel
theorem dX5_pair_5 : decode cX5_pair 5 = .ok (.ifCond .ne 5, 3) := by decide +kernel
theorem dX5_pair_8 : decode cX5_pair 8 = .ok (.iconst 0, 1) := by decide +kernel
theorem dX5_pair_9 : decode cX5_pair 9 = .ok (.ireturn, 1) := by decide +kernel
theorem dX5_pair_10 : decode cX5_pair 10 = .ok (.iload_n 1, 1) := by decide +kernel
theorem dX5_pair_11 : decode cX5_pair 11 = .ok (.iload_n 3, 1) := by decide +kernel
theorem dX5_pair_12 : decode cX5_pair 12 = .ok (.if_icmp .le 9, 3) := by decide +kernel
theorem dX5_pair_15 : decode cX5_pair 15 = .ok (.iload_n 1, 1) := by decide +kernel
theorem dX5_pair_16 : decode cX5_pair 16 = .ok (.iload_n 3, 1) := by decide +kernel
theorem dX5_pair_17 : decode cX5_pair 17 = .ok (.isub, 1) := by decide +kernel
theorem dX5_pair_18 : decode cX5_pair 18 = .ok (.goto 6, 3) := by decide +kernel
theorem dX5_pair_21 : decode cX5_pair 21 = .ok (.iload_n 3, 1) := by decide +kernel
theorem dX5_pair_22 : decode cX5_pair 22 = .ok (.iload_n 1, 1) := by decide +kernel
theorem dX5_pair_23 : decode cX5_pair 23 = .ok (.isub, 1) := by decide +kernel
theorem dX5_pair_24 : decode cX5_pair 24 = .ok (.istore 4, 2) := by decide +kernel
theorem dX5_pair_26 : decode cX5_pair 26 = .ok (.iload 4, 2) := by decide +kernel
theorem dX5_pair_28 : decode cX5_pair 28 = .ok (.iconst 1, 1) := by decide +kernel
theorem dX5_pair_29 : decode cX5_pair 29 = .ok (.if_icmp .ne 13, 3) := by decide +kernel
theorem dX5_pair_32 : decode cX5_pair 32 = .ok (.aload_n 0, 1) := by decide +kernel
theorem dX5_pair_33 : decode cX5_pair 33 = .ok (.getfield 7, 3) := by decide +kernel
theorem dX5_pair_36 : decode cX5_pair 36 = .ok (.bipush 31, 2) := by decide +kernel
theorem dX5_pair_38 : decode cX5_pair 38 = .ok (.iaload, 1) := by decide +kernel
theorem dX5_pair_39 : decode cX5_pair 39 = .ok (.goto 13, 3) := by decide +kernel
theorem dX5_pair_42 : decode cX5_pair 42 = .ok (.aload_n 0, 1) := by decide +kernel
theorem dX5_pair_43 : decode cX5_pair 43 = .ok (.getfield 7, 3) := by decide +kernel
theorem dX5_pair_46 : decode cX5_pair 46 = .ok (.bipush 31, 2) := by decide +kernel
theorem dX5_pair_48 : decode cX5_pair 48 = .ok (.iaload, 1) := by decide +kernel
theorem dX5_pair_49 : decode cX5_pair 49 = .ok (.bipush 8, 2) := by decide +kernel
theorem dX5_pair_51 : decode cX5_pair 51 = .ok (.idiv, 1) := by decide +kernel
theorem dX5_pair_52 : decode cX5_pair 52 = .ok (.iload_n 2, 1) := by decide +kernel
theorem dX5_pair_53 : decode cX5_pair 53 = .ok (.aload_n 0, 1) := by decide +kernel
theorem dX5_pair_54 : decode cX5_pair 54 = .ok (.iload_n 3, 1) := by decide +kernel
theorem dX5_pair_55 : decode cX5_pair 55 = .ok (.invokevirtual 68, 3) := by decide +kernel
theorem dX5_pair_58 : decode cX5_pair 58 = .ok (.invokestatic 71, 3) := by decide +kernel
theorem dX5_pair_61 : decode cX5_pair 61 = .ok (.imul, 1) := by decide +kernel
theorem dX5_pair_62 : decode cX5_pair 62 = .ok (.ireturn, 1) := by decide +kernel
theorem dX5_field_0 : decode cX5_field 0 = .ok (.aload_n 0, 1) := by decide +kernel
theorem dX5_field_1 : decode cX5_field 1 = .ok (.getfield 7, 3) := by decide +kernel
theorem dX5_field_4 : decode cX5_field 4 = .ok (.bipush 33, 2) := by decide +kernel
theorem dX5_field_6 : decode cX5_field 6 = .ok (.iaload, 1) := by decide +kernel
theorem dX5_field_7 : decode cX5_field 7 = .ok (.ineg, 1) := by decide +kernel
theorem dX5_field_8 : decode cX5_field 8 = .ok (.iload_n 1, 1) := by decide +kernel
theorem dX5_field_9 : decode cX5_field 9 = .ok (.aload_n 0, 1) := by decide +kernel
theorem dX5_field_10 : decode cX5_field 10 = .ok (.getfield 7, 3) := by decide +kernel
theorem dX5_field_13 : decode cX5_field 13 = .ok (.bipush 34, 2) := by decide +kernel
theorem dX5_field_15 : decode cX5_field 15 = .ok (.iaload, 1) := by decide +kernel
theorem dX5_field_16 : decode cX5_field 16 = .ok (.isub, 1) := by decide +kernel
theorem dX5_field_17 : decode cX5_field 17 = .ok (.invokestatic 60, 3) := by decide +kernel
theorem dX5_field_20 : decode cX5_field 20 = .ok (.imul, 1) := by decide +kernel
theorem dX5_field_21 : decode cX5_field 21 = .ok (.bipush 10, 2) := by decide +kernel
theorem dX5_field_23 : decode cX5_field 23 = .ok (.imul, 1) := by decide +kernel
theorem dX5_field_24 : decode cX5_field 24 = .ok (.ireturn, 1) := by decide +kernel
theorem dX5_part_0 : decode cX5_part 0 = .ok (.aload_n 0, 1) := by decide +kernel
theorem dX5_part_1 : decode cX5_part 1 = .ok (.iload_n 1, 1) := by decide +kernel
theorem dX5_part_2 : decode cX5_part 2 = .ok (.iload_n 2, 1) := by decide +kernel
theorem dX5_part_3 : decode cX5_part 3 = .ok (.iload_n 1, 1) := by decide +kernel
theorem dX5_part_4 : decode cX5_part 4 = .ok (.iconst 2, 1) := by decide +kernel
theorem dX5_part_5 : decode cX5_part 5 = .ok (.isub, 1) := by decide +kernel
theorem dX5_part_6 : decode cX5_part 6 = .ok (.invokevirtual 75, 3) := by decide +kernel
theorem dX5_part_9 : decode cX5_part 9 = .ok (.aload_n 0, 1) := by decide +kernel
theorem dX5_part_10 : decode cX5_part 10 = .ok (.iload_n 1, 1) := by decide +kernel
theorem dX5_part_11 : decode cX5_part 11 = .ok (.iload_n 2, 1) := by decide +kernel
theorem dX5_part_12 : decode cX5_part 12 = .ok (.iload_n 1, 1) := by decide +kernel
theorem dX5_part_13 : decode cX5_part 13 = .ok (.iconst 1, 1) := by decide +kernel
theorem dX5_part_14 : decode cX5_part 14 = .ok (.isub, 1) := by decide +kernel
theorem dX5_part_15 : decode cX5_part 15 = .ok (.invokevirtual 75, 3) := by decide +kernel
theorem dX5_part_18 : decode cX5_part 18 = .ok (.iadd, 1) := by decide +kernel
theorem dX5_part_19 : decode cX5_part 19 = .ok (.aload_n 0, 1) := by decide +kernel
theorem dX5_part_20 : decode cX5_part 20 = .ok (.iload_n 1, 1) := by decide +kernel
theorem dX5_part_21 : decode cX5_part 21 = .ok (.iload_n 2, 1) := by decide +kernel
theorem dX5_part_22 : decode cX5_part 22 = .ok (.iload_n 1, 1) := by decide +kernel
theorem dX5_part_23 : decode cX5_part 23 = .ok (.iconst 1, 1) := by decide +kernel
theorem dX5_part_24 : decode cX5_part 24 = .ok (.iadd, 1) := by decide +kernel
theorem dX5_part_25 : decode cX5_part 25 = .ok (.invokevirtual 75, 3) := by decide +kernel
theorem dX5_part_28 : decode cX5_part 28 = .ok (.iadd, 1) := by decide +kernel
theorem dX5_part_29 : decode cX5_part 29 = .ok (.aload_n 0, 1) := by decide +kernel
theorem dX5_part_30 : decode cX5_part 30 = .ok (.iload_n 1, 1) := by decide +kernel
theorem dX5_part_31 : decode cX5_part 31 = .ok (.iload_n 2, 1) := by decide +kernel
theorem dX5_part_32 : decode cX5_part 32 = .ok (.iload_n 1, 1) := by decide +kernel
theorem dX5_part_33 : decode cX5_part 33 = .ok (.iconst 2, 1) := by decide +kernel
theorem dX5_part_34 : decode cX5_part 34 = .ok (.iadd, 1) := by decide +kernel
theorem dX5_part_35 : decode cX5_part 35 = .ok (.invokevirtual 75, 3) := by decide +kernel
theorem dX5_part_38 : decode cX5_part 38 = .ok (.iadd, 1) := by decide +kernel
theorem dX5_part_39 : decode cX5_part 39 = .ok (.aload_n 0, 1) := by decide +kernel
theorem dX5_part_40 : decode cX5_part 40 = .ok (.iload_n 2, 1) := by decide +kernel
theorem dX5_part_41 : decode cX5_part 41 = .ok (.invokevirtual 79, 3) := by decide +kernel
theorem dX5_part_44 : decode cX5_part 44 = .ok (.iadd, 1) := by decide +kernel
theorem dX5_part_45 : decode cX5_part 45 = .ok (.ireturn, 1) := by decide +kernel
theorem dX5_energy_0 : decode cX5_energy 0 = .ok (.iconst 0, 1) := by decide +kernel
theorem dX5_energy_1 : decode cX5_energy 1 = .ok (.istore_n 1, 1) := by decide +kernel
theorem dX5_energy_2 : decode cX5_energy 2 = .ok (.iconst 0, 1) := by decide +kernel
theorem dX5_energy_3 : decode cX5_energy 3 = .ok (.istore_n 2, 1) := by decide +kernel
theorem dX5_energy_4 : decode cX5_energy 4 = .ok (.iload_n 2, 1) := by decide +kernel
theorem dX5_energy_5 : decode cX5_energy 5 = .ok (.aload_n 0, 1) := by decide +kernel
theorem dX5_energy_6 : decode cX5_energy 6 = .ok (.getfield 7, 3) := by decide +kernel
theorem dX5_energy_9 : decode cX5_energy 9 = .ok (.iconst 0, 1) := by decide +kernel
theorem dX5_energy_10 : decode cX5_energy 10 = .ok (.iaload, 1) := by decide +kernel
theorem dX5_energy_11 : decode cX5_energy 11 = .ok (.if_icmp .ge 49, 3) := by decide +kernel
theorem dX5_energy_14 : decode cX5_energy 14 = .ok (.iload_n 1, 1) := by decide +kernel
theorem dX5_energy_15 : decode cX5_energy 15 = .ok (.aload_n 0, 1) := by decide +kernel
theorem dX5_energy_16 : decode cX5_energy 16 = .ok (.iload_n 2, 1) := by decide +kernel
theorem dX5_energy_17 : decode cX5_energy 17 = .ok (.aload_n 0, 1) := by decide +kernel
theorem dX5_energy_18 : decode cX5_energy 18 = .ok (.iload_n 2, 1) := by decide +kernel
theorem dX5_energy_19 : decode cX5_energy 19 = .ok (.invokevirtual 68, 3) := by decide +kernel
theorem dX5_energy_22 : decode cX5_energy 22 = .ok (.iload_n 2, 1) := by decide +kernel
theorem dX5_energy_23 : decode cX5_energy 23 = .ok (.iconst 1, 1) := by decide +kernel
theorem dX5_energy_24 : decode cX5_energy 24 = .ok (.iadd, 1) := by decide +kernel
theorem dX5_energy_25 : decode cX5_energy 25 = .ok (.invokevirtual 75, 3) := by decide +kernel
theorem dX5_energy_28 : decode cX5_energy 28 = .ok (.aload_n 0, 1) := by decide +kernel
theorem dX5_energy_29 : decode cX5_energy 29 = .ok (.iload_n 2, 1) := by decide +kernel
theorem dX5_energy_30 : decode cX5_energy 30 = .ok (.aload_n 0, 1) := by decide +kernel
theorem dX5_energy_31 : decode cX5_energy 31 = .ok (.iload_n 2, 1) := by decide +kernel
theorem dX5_energy_32 : decode cX5_energy 32 = .ok (.invokevirtual 68, 3) := by decide +kernel
theorem dX5_energy_35 : decode cX5_energy 35 = .ok (.iload_n 2, 1) := by decide +kernel
theorem dX5_energy_36 : decode cX5_energy 36 = .ok (.iconst 2, 1) := by decide +kernel
theorem dX5_energy_37 : decode cX5_energy 37 = .ok (.iadd, 1) := by decide +kernel
theorem dX5_energy_38 : decode cX5_energy 38 = .ok (.invokevirtual 75, 3) := by decide +kernel
theorem dX5_energy_41 : decode cX5_energy 41 = .ok (.iadd, 1) := by decide +kernel
theorem dX5_energy_42 : decode cX5_energy 42 = .ok (.aload_n 0, 1) := by decide +kernel
theorem dX5_energy_43 : decode cX5_energy 43 = .ok (.aload_n 0, 1) := by decide +kernel
theorem dX5_energy_44 : decode cX5_energy 44 = .ok (.iload_n 2, 1) := by decide +kernel
theorem dX5_energy_45 : decode cX5_energy 45 = .ok (.invokevirtual 68, 3) := by decide +kernel
theorem dX5_energy_48 : decode cX5_energy 48 = .ok (.invokevirtual 79, 3) := by decide +kernel
theorem dX5_energy_51 : decode cX5_energy 51 = .ok (.iadd, 1) := by decide +kernel
theorem dX5_energy_52 : decode cX5_energy 52 = .ok (.iadd, 1) := by decide +kernel
theorem dX5_energy_53 : decode cX5_energy 53 = .ok (.istore_n 1, 1) := by decide +kernel
theorem dX5_energy_54 : decode cX5_energy 54 = .ok (.iinc 2 1, 3) := by decide +kernel
theorem dX5_energy_57 : decode cX5_energy 57 = .ok (.goto (-53), 3) := by decide +kernel
theorem dX5_energy_60 : decode cX5_energy 60 = .ok (.iload_n 1, 1) := by decide +kernel
theorem dX5_energy_61 : decode cX5_energy 61 = .ok (.ireturn, 1) := by decide +kernel
theorem dX5_turned_0 : decode cX5_turned 0 = .ok (.iload_n 0, 1) := by decide +kernel
theorem dX5_turned_1 : decode cX5_turned 1 = .ok (.iload_n 1, 1) := by decide +kernel
theorem dX5_turned_2 : decode cX5_turned 2 = .ok (.iadd, 1) := by decide +kernel
theorem dX5_turned_3 : decode cX5_turned 3 = .ok (.bipush 8, 2) := by decide +kernel
theorem dX5_turned_5 : decode cX5_turned 5 = .ok (.iadd, 1) := by decide +kernel
theorem dX5_turned_6 : decode cX5_turned 6 = .ok (.bipush 8, 2) := by decide +kernel
theorem dX5_turned_8 : decode cX5_turned 8 = .ok (.irem, 1) := by decide +kernel
theorem dX5_turned_9 : decode cX5_turned 9 = .ok (.ireturn, 1) := by decide +kernel
theorem dX5_free_0 : decode cX5_free 0 = .ok (.aload_n 0, 1) := by decide +kernel
theorem dX5_free_1 : decode cX5_free 1 = .ok (.iload_n 1, 1) := by decide +kernel
theorem dX5_free_2 : decode cX5_free 2 = .ok (.aload_n 0, 1) := by decide +kernel
theorem dX5_free_3 : decode cX5_free 3 = .ok (.iload_n 1, 1) := by decide +kernel
theorem dX5_free_4 : decode cX5_free 4 = .ok (.invokevirtual 68, 3) := by decide +kernel
theorem dX5_free_7 : decode cX5_free 7 = .ok (.invokevirtual 82, 3) := by decide +kernel
theorem dX5_free_10 : decode cX5_free 10 = .ok (.aload_n 0, 1) := by decide +kernel
theorem dX5_free_11 : decode cX5_free 11 = .ok (.iload_n 1, 1) := by decide +kernel
theorem dX5_free_12 : decode cX5_free 12 = .ok (.aload_n 0, 1) := by decide +kernel
theorem dX5_free_13 : decode cX5_free 13 = .ok (.iload_n 1, 1) := by decide +kernel
theorem dX5_free_14 : decode cX5_free 14 = .ok (.invokevirtual 68, 3) := by decide +kernel
theorem dX5_free_17 : decode cX5_free 17 = .ok (.iload_n 2, 1) := by decide +kernel
theorem dX5_free_18 : decode cX5_free 18 = .ok (.invokestatic 85, 3) := by decide +kernel
theorem dX5_free_21 : decode cX5_free 21 = .ok (.invokevirtual 82, 3) := by decide +kernel
theorem dX5_free_24 : decode cX5_free 24 = .ok (.isub, 1) := by decide +kernel
theorem dX5_free_25 : decode cX5_free 25 = .ok (.ireturn, 1) := by decide +kernel
theorem dX5_note_0 : decode cX5_note 0 = .ok (.aload_n 0, 1) := by decide +kernel
theorem dX5_note_1 : decode cX5_note 1 = .ok (.getfield 7, 3) := by decide +kernel
theorem dX5_note_4 : decode cX5_note 4 = .ok (.bipush 39, 2) := by decide +kernel
theorem dX5_note_6 : decode cX5_note 6 = .ok (.iaload, 1) := by decide +kernel
theorem dX5_note_7 : decode cX5_note 7 = .ok (.bipush 30, 2) := by decide +kernel
theorem dX5_note_9 : decode cX5_note 9 = .ok (.if_icmp .ne 47, 3) := by decide +kernel
theorem dX5_note_12 : decode cX5_note 12 = .ok (.bipush 40, 2) := by decide +kernel
theorem dX5_note_14 : decode cX5_note 14 = .ok (.istore 4, 2) := by decide +kernel
theorem dX5_note_16 : decode cX5_note 16 = .ok (.iload 4, 2) := by decide +kernel
theorem dX5_note_18 : decode cX5_note 18 = .ok (.bipush 127, 2) := by decide +kernel
theorem dX5_note_20 : decode cX5_note 20 = .ok (.if_icmp .ge 25, 3) := by decide +kernel
theorem dX5_note_23 : decode cX5_note 23 = .ok (.aload_n 0, 1) := by decide +kernel
theorem dX5_note_24 : decode cX5_note 24 = .ok (.getfield 7, 3) := by decide +kernel
theorem dX5_note_27 : decode cX5_note 27 = .ok (.iload 4, 2) := by decide +kernel
theorem dX5_note_29 : decode cX5_note 29 = .ok (.aload_n 0, 1) := by decide +kernel
theorem dX5_note_30 : decode cX5_note 30 = .ok (.getfield 7, 3) := by decide +kernel
theorem dX5_note_33 : decode cX5_note 33 = .ok (.iload 4, 2) := by decide +kernel
theorem dX5_note_35 : decode cX5_note 35 = .ok (.iconst 3, 1) := by decide +kernel
theorem dX5_note_36 : decode cX5_note 36 = .ok (.iadd, 1) := by decide +kernel
theorem dX5_note_37 : decode cX5_note 37 = .ok (.iaload, 1) := by decide +kernel
theorem dX5_note_38 : decode cX5_note 38 = .ok (.iastore, 1) := by decide +kernel
theorem dX5_note_39 : decode cX5_note 39 = .ok (.iinc 4 1, 3) := by decide +kernel
theorem dX5_note_42 : decode cX5_note 42 = .ok (.goto (-26), 3) := by decide +kernel
theorem dX5_note_45 : decode cX5_note 45 = .ok (.aload_n 0, 1) := by decide +kernel
theorem dX5_note_46 : decode cX5_note 46 = .ok (.getfield 7, 3) := by decide +kernel
theorem dX5_note_49 : decode cX5_note 49 = .ok (.bipush 39, 2) := by decide +kernel
theorem dX5_note_51 : decode cX5_note 51 = .ok (.dup2, 1) := by decide +kernel
theorem dX5_note_52 : decode cX5_note 52 = .ok (.iaload, 1) := by decide +kernel
theorem dX5_note_53 : decode cX5_note 53 = .ok (.iconst 1, 1) := by decide +kernel
theorem dX5_note_54 : decode cX5_note 54 = .ok (.isub, 1) := by decide +kernel
theorem dX5_note_55 : decode cX5_note 55 = .ok (.iastore, 1) := by decide +kernel
theorem dX5_note_56 : decode cX5_note 56 = .ok (.bipush 40, 2) := by decide +kernel
theorem dX5_note_58 : decode cX5_note 58 = .ok (.iconst 3, 1) := by decide +kernel
theorem dX5_note_59 : decode cX5_note 59 = .ok (.aload_n 0, 1) := by decide +kernel
theorem dX5_note_60 : decode cX5_note 60 = .ok (.getfield 7, 3) := by decide +kernel
theorem dX5_note_63 : decode cX5_note 63 = .ok (.bipush 39, 2) := by decide +kernel
theorem dX5_note_65 : decode cX5_note 65 = .ok (.iaload, 1) := by decide +kernel
theorem dX5_note_66 : decode cX5_note 66 = .ok (.imul, 1) := by decide +kernel
theorem dX5_note_67 : decode cX5_note 67 = .ok (.iadd, 1) := by decide +kernel
theorem dX5_note_68 : decode cX5_note 68 = .ok (.istore 4, 2) := by decide +kernel
theorem dX5_note_70 : decode cX5_note 70 = .ok (.aload_n 0, 1) := by decide +kernel
theorem dX5_note_71 : decode cX5_note 71 = .ok (.getfield 7, 3) := by decide +kernel
theorem dX5_note_74 : decode cX5_note 74 = .ok (.iload 4, 2) := by decide +kernel
theorem dX5_note_76 : decode cX5_note 76 = .ok (.iload_n 1, 1) := by decide +kernel
theorem dX5_note_77 : decode cX5_note 77 = .ok (.iastore, 1) := by decide +kernel
theorem dX5_note_78 : decode cX5_note 78 = .ok (.aload_n 0, 1) := by decide +kernel
theorem dX5_note_79 : decode cX5_note 79 = .ok (.getfield 7, 3) := by decide +kernel
theorem dX5_note_82 : decode cX5_note 82 = .ok (.iload 4, 2) := by decide +kernel
theorem dX5_note_84 : decode cX5_note 84 = .ok (.iconst 1, 1) := by decide +kernel
theorem dX5_note_85 : decode cX5_note 85 = .ok (.iadd, 1) := by decide +kernel
theorem dX5_note_86 : decode cX5_note 86 = .ok (.iload_n 2, 1) := by decide +kernel
theorem dX5_note_87 : decode cX5_note 87 = .ok (.iastore, 1) := by decide +kernel
theorem dX5_note_88 : decode cX5_note 88 = .ok (.aload_n 0, 1) := by decide +kernel
theorem dX5_note_89 : decode cX5_note 89 = .ok (.getfield 7, 3) := by decide +kernel
theorem dX5_note_92 : decode cX5_note 92 = .ok (.iload 4, 2) := by decide +kernel
theorem dX5_note_94 : decode cX5_note 94 = .ok (.iconst 2, 1) := by decide +kernel
theorem dX5_note_95 : decode cX5_note 95 = .ok (.iadd, 1) := by decide +kernel
theorem dX5_note_96 : decode cX5_note 96 = .ok (.iload_n 3, 1) := by decide +kernel
theorem dX5_note_97 : decode cX5_note 97 = .ok (.iastore, 1) := by decide +kernel
theorem dX5_note_98 : decode cX5_note 98 = .ok (.aload_n 0, 1) := by decide +kernel
theorem dX5_note_99 : decode cX5_note 99 = .ok (.getfield 7, 3) := by decide +kernel
theorem dX5_note_102 : decode cX5_note 102 = .ok (.bipush 39, 2) := by decide +kernel
theorem dX5_note_104 : decode cX5_note 104 = .ok (.dup2, 1) := by decide +kernel
theorem dX5_note_105 : decode cX5_note 105 = .ok (.iaload, 1) := by decide +kernel
theorem dX5_note_106 : decode cX5_note 106 = .ok (.iconst 1, 1) := by decide +kernel
theorem dX5_note_107 : decode cX5_note 107 = .ok (.iadd, 1) := by decide +kernel
theorem dX5_note_108 : decode cX5_note 108 = .ok (.iastore, 1) := by decide +kernel
theorem dX5_note_109 : decode cX5_note 109 = .ok (.return_, 1) := by decide +kernel
theorem dX5_settle_0 : decode cX5_settle 0 = .ok (.iconst 0, 1) := by decide +kernel
theorem dX5_settle_1 : decode cX5_settle 1 = .ok (.istore_n 1, 1) := by decide +kernel
theorem dX5_settle_2 : decode cX5_settle 2 = .ok (.iconst 1, 1) := by decide +kernel
theorem dX5_settle_3 : decode cX5_settle 3 = .ok (.istore_n 2, 1) := by decide +kernel
theorem dX5_settle_4 : decode cX5_settle 4 = .ok (.iload_n 2, 1) := by decide +kernel
theorem dX5_settle_5 : decode cX5_settle 5 = .ok (.ifCond .eq 174, 3) := by decide +kernel
theorem dX5_settle_8 : decode cX5_settle 8 = .ok (.iload_n 1, 1) := by decide +kernel
theorem dX5_settle_9 : decode cX5_settle 9 = .ok (.sipush 200, 3) := by decide +kernel
theorem dX5_settle_12 : decode cX5_settle 12 = .ok (.if_icmp .ge 167, 3) := by decide +kernel
theorem dX5_settle_15 : decode cX5_settle 15 = .ok (.ldc 25, 2) := by decide +kernel
theorem dX5_settle_17 : decode cX5_settle 17 = .ok (.istore_n 3, 1) := by decide +kernel
theorem dX5_settle_18 : decode cX5_settle 18 = .ok (.iconst 0, 1) := by decide +kernel
theorem dX5_settle_19 : decode cX5_settle 19 = .ok (.istore 4, 2) := by decide +kernel
theorem dX5_settle_21 : decode cX5_settle 21 = .ok (.aload_n 0, 1) := by decide +kernel
theorem dX5_settle_22 : decode cX5_settle 22 = .ok (.getfield 7, 3) := by decide +kernel
theorem dX5_settle_25 : decode cX5_settle 25 = .ok (.bipush 32, 2) := by decide +kernel
theorem dX5_settle_27 : decode cX5_settle 27 = .ok (.iaload, 1) := by decide +kernel
theorem dX5_settle_28 : decode cX5_settle 28 = .ok (.istore 5, 2) := by decide +kernel
theorem dX5_settle_30 : decode cX5_settle 30 = .ok (.iconst 0, 1) := by decide +kernel
theorem dX5_settle_31 : decode cX5_settle 31 = .ok (.istore 6, 2) := by decide +kernel
theorem dX5_settle_33 : decode cX5_settle 33 = .ok (.iload 6, 2) := by decide +kernel
theorem dX5_settle_35 : decode cX5_settle 35 = .ok (.aload_n 0, 1) := by decide +kernel
theorem dX5_settle_36 : decode cX5_settle 36 = .ok (.getfield 7, 3) := by decide +kernel
theorem dX5_settle_39 : decode cX5_settle 39 = .ok (.iconst 0, 1) := by decide +kernel
theorem dX5_settle_40 : decode cX5_settle 40 = .ok (.iaload, 1) := by decide +kernel
theorem dX5_settle_41 : decode cX5_settle 41 = .ok (.if_icmp .ge 66, 3) := by decide +kernel
theorem dX5_settle_44 : decode cX5_settle 44 = .ok (.iconst 1, 1) := by decide +kernel
theorem dX5_settle_45 : decode cX5_settle 45 = .ok (.istore 7, 2) := by decide +kernel
theorem dX5_settle_47 : decode cX5_settle 47 = .ok (.iload 7, 2) := by decide +kernel
theorem dX5_settle_49 : decode cX5_settle 49 = .ok (.bipush (-2), 2) := by decide +kernel
theorem dX5_settle_51 : decode cX5_settle 51 = .ok (.if_icmp .le 50, 3) := by decide +kernel
theorem dX5_settle_54 : decode cX5_settle 54 = .ok (.aload_n 0, 1) := by decide +kernel
theorem dX5_settle_55 : decode cX5_settle 55 = .ok (.iload 6, 2) := by decide +kernel
theorem dX5_settle_57 : decode cX5_settle 57 = .ok (.iload 7, 2) := by decide +kernel
theorem dX5_settle_59 : decode cX5_settle 59 = .ok (.invokevirtual 88, 3) := by decide +kernel
theorem dX5_settle_62 : decode cX5_settle 62 = .ok (.istore 8, 2) := by decide +kernel
theorem dX5_settle_64 : decode cX5_settle 64 = .ok (.aload_n 0, 1) := by decide +kernel
theorem dX5_settle_65 : decode cX5_settle 65 = .ok (.getfield 7, 3) := by decide +kernel
theorem dX5_settle_68 : decode cX5_settle 68 = .ok (.bipush 11, 2) := by decide +kernel
theorem dX5_settle_70 : decode cX5_settle 70 = .ok (.iload 6, 2) := by decide +kernel
theorem dX5_settle_72 : decode cX5_settle 72 = .ok (.iadd, 1) := by decide +kernel
theorem dX5_settle_73 : decode cX5_settle 73 = .ok (.iaload, 1) := by decide +kernel
theorem dX5_settle_74 : decode cX5_settle 74 = .ok (.ifCond .ne 21, 3) := by decide +kernel
theorem dX5_settle_77 : decode cX5_settle 77 = .ok (.iload 8, 2) := by decide +kernel
theorem dX5_settle_79 : decode cX5_settle 79 = .ok (.iload 5, 2) := by decide +kernel
theorem dX5_settle_81 : decode cX5_settle 81 = .ok (.if_icmp .le 14, 3) := by decide +kernel
theorem dX5_settle_84 : decode cX5_settle 84 = .ok (.iload 6, 2) := by decide +kernel
theorem dX5_settle_86 : decode cX5_settle 86 = .ok (.istore_n 3, 1) := by decide +kernel
theorem dX5_settle_87 : decode cX5_settle 87 = .ok (.iload 7, 2) := by decide +kernel
theorem dX5_settle_89 : decode cX5_settle 89 = .ok (.istore 4, 2) := by decide +kernel
theorem dX5_settle_91 : decode cX5_settle 91 = .ok (.iload 8, 2) := by decide +kernel
theorem dX5_settle_93 : decode cX5_settle 93 = .ok (.istore 5, 2) := by decide +kernel
theorem dX5_settle_95 : decode cX5_settle 95 = .ok (.iinc 7 (-2), 3) := by decide +kernel
theorem dX5_settle_98 : decode cX5_settle 98 = .ok (.goto (-51), 3) := by decide +kernel
theorem dX5_settle_101 : decode cX5_settle 101 = .ok (.iinc 6 1, 3) := by decide +kernel
theorem dX5_settle_104 : decode cX5_settle 104 = .ok (.goto (-71), 3) := by decide +kernel
theorem dX5_settle_107 : decode cX5_settle 107 = .ok (.iload_n 3, 1) := by decide +kernel
theorem dX5_settle_108 : decode cX5_settle 108 = .ok (.ldc 25, 2) := by decide +kernel
theorem dX5_settle_110 : decode cX5_settle 110 = .ok (.if_icmp .eq 7, 3) := by decide +kernel
theorem dX5_settle_113 : decode cX5_settle 113 = .ok (.iconst 1, 1) := by decide +kernel
theorem dX5_settle_114 : decode cX5_settle 114 = .ok (.goto 4, 3) := by decide +kernel
theorem dX5_settle_117 : decode cX5_settle 117 = .ok (.iconst 0, 1) := by decide +kernel
theorem dX5_settle_118 : decode cX5_settle 118 = .ok (.istore_n 2, 1) := by decide +kernel
theorem dX5_settle_119 : decode cX5_settle 119 = .ok (.iload_n 2, 1) := by decide +kernel
theorem dX5_settle_120 : decode cX5_settle 120 = .ok (.ifCond .eq 56, 3) := by decide +kernel
theorem dX5_settle_123 : decode cX5_settle 123 = .ok (.aload_n 0, 1) := by decide +kernel
theorem dX5_settle_124 : decode cX5_settle 124 = .ok (.getfield 7, 3) := by decide +kernel
theorem dX5_settle_127 : decode cX5_settle 127 = .ok (.iconst 1, 1) := by decide +kernel
theorem dX5_settle_128 : decode cX5_settle 128 = .ok (.iload_n 3, 1) := by decide +kernel
theorem dX5_settle_129 : decode cX5_settle 129 = .ok (.iadd, 1) := by decide +kernel
theorem dX5_settle_130 : decode cX5_settle 130 = .ok (.aload_n 0, 1) := by decide +kernel
theorem dX5_settle_131 : decode cX5_settle 131 = .ok (.iload_n 3, 1) := by decide +kernel
theorem dX5_settle_132 : decode cX5_settle 132 = .ok (.invokevirtual 68, 3) := by decide +kernel
theorem dX5_settle_135 : decode cX5_settle 135 = .ok (.iload 4, 2) := by decide +kernel
