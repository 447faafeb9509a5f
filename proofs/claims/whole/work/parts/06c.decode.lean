theorem dX4_undo_41 : decode cX4_undo 41 = .ok (.getfield 20, 3) := by decide +kernel
theorem dX4_undo_44 : decode cX4_undo 44 = .ok (.aaload, 1) := by decide +kernel
theorem dX4_undo_45 : decode cX4_undo 45 = .ok (.invokevirtual 155, 3) := by decide +kernel
theorem dX4_undo_48 : decode cX4_undo 48 = .ok (.aload_n 0, 1) := by decide +kernel
theorem dX4_undo_49 : decode cX4_undo 49 = .ok (.getfield 20, 3) := by decide +kernel
theorem dX4_undo_52 : decode cX4_undo 52 = .ok (.ireturn, 1) := by decide +kernel
theorem dX4_told_0 : decode cX4_told 0 = .ok (.aload_n 0, 1) := by decide +kernel
theorem dX4_told_1 : decode cX4_told 1 = .ok (.getfield 10, 3) := by decide +kernel
theorem dX4_told_4 : decode cX4_told 4 = .ok (.getfield 50, 3) := by decide +kernel
theorem dX4_told_7 : decode cX4_told 7 = .ok (.astore_n 2, 1) := by decide +kernel
theorem dX4_told_8 : decode cX4_told 8 = .ok (.aload_n 0, 1) := by decide +kernel
theorem dX4_told_9 : decode cX4_told 9 = .ok (.getfield 10, 3) := by decide +kernel
theorem dX4_told_12 : decode cX4_told 12 = .ok (.getfield 64, 3) := by decide +kernel
theorem dX4_told_15 : decode cX4_told 15 = .ok (.astore_n 3, 1) := by decide +kernel
theorem dX4_told_16 : decode cX4_told 16 = .ok (.iload_n 1, 1) := by decide +kernel
theorem dX4_told_17 : decode cX4_told 17 = .ok (.tableswitch 162 0 15 #[79, 84, 89, 94, 99, 104, 109, 114, 119, 124, 129, 134, 139, 144, 149, 157], 79) := by decide +kernel
theorem dX4_told_96 : decode cX4_told 96 = .ok (.aload_n 2, 1) := by decide +kernel
theorem dX4_told_97 : decode cX4_told 97 = .ok (.getfield 54, 3) := by decide +kernel
theorem dX4_told_100 : decode cX4_told 100 = .ok (.ireturn, 1) := by decide +kernel
theorem dX4_told_101 : decode cX4_told 101 = .ok (.aload_n 2, 1) := by decide +kernel
theorem dX4_told_102 : decode cX4_told 102 = .ok (.invokevirtual 159, 3) := by decide +kernel
theorem dX4_told_105 : decode cX4_told 105 = .ok (.ireturn, 1) := by decide +kernel
theorem dX4_told_106 : decode cX4_told 106 = .ok (.aload_n 3, 1) := by decide +kernel
theorem dX4_told_107 : decode cX4_told 107 = .ok (.getfield 162, 3) := by decide +kernel
theorem dX4_told_110 : decode cX4_told 110 = .ok (.ireturn, 1) := by decide +kernel
theorem dX4_told_111 : decode cX4_told 111 = .ok (.aload_n 3, 1) := by decide +kernel
theorem dX4_told_112 : decode cX4_told 112 = .ok (.getfield 165, 3) := by decide +kernel
theorem dX4_told_115 : decode cX4_told 115 = .ok (.ireturn, 1) := by decide +kernel
theorem dX4_told_116 : decode cX4_told 116 = .ok (.aload_n 2, 1) := by decide +kernel
theorem dX4_told_117 : decode cX4_told 117 = .ok (.getfield 139, 3) := by decide +kernel
theorem dX4_told_120 : decode cX4_told 120 = .ok (.ireturn, 1) := by decide +kernel
theorem dX4_told_121 : decode cX4_told 121 = .ok (.aload_n 2, 1) := by decide +kernel
theorem dX4_told_122 : decode cX4_told 122 = .ok (.getfield 142, 3) := by decide +kernel
theorem dX4_told_125 : decode cX4_told 125 = .ok (.ireturn, 1) := by decide +kernel
theorem dX4_told_126 : decode cX4_told 126 = .ok (.aload_n 2, 1) := by decide +kernel
theorem dX4_told_127 : decode cX4_told 127 = .ok (.getfield 145, 3) := by decide +kernel
theorem dX4_told_130 : decode cX4_told 130 = .ok (.ireturn, 1) := by decide +kernel
theorem dX4_told_131 : decode cX4_told 131 = .ok (.aload_n 2, 1) := by decide +kernel
theorem dX4_told_132 : decode cX4_told 132 = .ok (.getfield 148, 3) := by decide +kernel
theorem dX4_told_135 : decode cX4_told 135 = .ok (.ireturn, 1) := by decide +kernel
theorem dX4_told_136 : decode cX4_told 136 = .ok (.aload_n 3, 1) := by decide +kernel
theorem dX4_told_137 : decode cX4_told 137 = .ok (.getfield 168, 3) := by decide +kernel
theorem dX4_told_140 : decode cX4_told 140 = .ok (.ireturn, 1) := by decide +kernel
theorem dX4_told_141 : decode cX4_told 141 = .ok (.aload_n 3, 1) := by decide +kernel
theorem dX4_told_142 : decode cX4_told 142 = .ok (.getfield 132, 3) := by decide +kernel
theorem dX4_told_145 : decode cX4_told 145 = .ok (.ireturn, 1) := by decide +kernel
theorem dX4_told_146 : decode cX4_told 146 = .ok (.aload_n 3, 1) := by decide +kernel
theorem dX4_told_147 : decode cX4_told 147 = .ok (.getfield 171, 3) := by decide +kernel
theorem dX4_told_150 : decode cX4_told 150 = .ok (.ireturn, 1) := by decide +kernel
theorem dX4_told_151 : decode cX4_told 151 = .ok (.aload_n 2, 1) := by decide +kernel
theorem dX4_told_152 : decode cX4_told 152 = .ok (.invokevirtual 174, 3) := by decide +kernel
theorem dX4_told_155 : decode cX4_told 155 = .ok (.ireturn, 1) := by decide +kernel
theorem dX4_told_156 : decode cX4_told 156 = .ok (.aload_n 2, 1) := by decide +kernel
theorem dX4_told_157 : decode cX4_told 157 = .ok (.invokevirtual 177, 3) := by decide +kernel
theorem dX4_told_160 : decode cX4_told 160 = .ok (.ireturn, 1) := by decide +kernel
theorem dX4_told_161 : decode cX4_told 161 = .ok (.aload_n 2, 1) := by decide +kernel
theorem dX4_told_162 : decode cX4_told 162 = .ok (.invokevirtual 180, 3) := by decide +kernel
theorem dX4_told_165 : decode cX4_told 165 = .ok (.ireturn, 1) := by decide +kernel
theorem dX4_told_166 : decode cX4_told 166 = .ok (.aload_n 0, 1) := by decide +kernel
theorem dX4_told_167 : decode cX4_told 167 = .ok (.getfield 34, 3) := by decide +kernel
theorem dX4_told_170 : decode cX4_told 170 = .ok (.getfield 183, 3) := by decide +kernel
theorem dX4_told_173 : decode cX4_told 173 = .ok (.ireturn, 1) := by decide +kernel
theorem dX4_told_174 : decode cX4_told 174 = .ok (.aload_n 0, 1) := by decide +kernel
theorem dX4_told_175 : decode cX4_told 175 = .ok (.getfield 20, 3) := by decide +kernel
theorem dX4_told_178 : decode cX4_told 178 = .ok (.ireturn, 1) := by decide +kernel
theorem dX4_told_179 : decode cX4_told 179 = .ok (.ldc 49, 2) := by decide +kernel
theorem dX4_told_181 : decode cX4_told 181 = .ok (.ireturn, 1) := by decide +kernel
theorem dX4_magnet_0 : decode cX4_magnet 0 = .ok (.aload_n 0, 1) := by decide +kernel
theorem dX4_magnet_1 : decode cX4_magnet 1 = .ok (.iload_n 1, 1) := by decide +kernel
theorem dX4_magnet_2 : decode cX4_magnet 2 = .ok (.invokevirtual 94, 3) := by decide +kernel
theorem dX4_magnet_5 : decode cX4_magnet 5 = .ok (.ifCond .ne 6, 3) := by decide +kernel
theorem dX4_magnet_8 : decode cX4_magnet 8 = .ok (.ldc 49, 2) := by decide +kernel
theorem dX4_magnet_10 : decode cX4_magnet 10 = .ok (.ireturn, 1) := by decide +kernel
theorem dX4_magnet_11 : decode cX4_magnet 11 = .ok (.aload_n 0, 1) := by decide +kernel
theorem dX4_magnet_12 : decode cX4_magnet 12 = .ok (.getfield 10, 3) := by decide +kernel
theorem dX4_magnet_15 : decode cX4_magnet 15 = .ok (.getfield 50, 3) := by decide +kernel
theorem dX4_magnet_18 : decode cX4_magnet 18 = .ok (.astore_n 3, 1) := by decide +kernel
theorem dX4_magnet_19 : decode cX4_magnet 19 = .ok (.iload_n 2, 1) := by decide +kernel
theorem dX4_magnet_20 : decode cX4_magnet 20 = .ok (.tableswitch 87 0 5 #[40, 47, 54, 61, 68, 75], 40) := by decide +kernel
theorem dX4_magnet_60 : decode cX4_magnet 60 = .ok (.aload_n 3, 1) := by decide +kernel
theorem dX4_magnet_61 : decode cX4_magnet 61 = .ok (.getfield 98, 3) := by decide +kernel
theorem dX4_magnet_64 : decode cX4_magnet 64 = .ok (.iload_n 1, 1) := by decide +kernel
theorem dX4_magnet_65 : decode cX4_magnet 65 = .ok (.iaload, 1) := by decide +kernel
theorem dX4_magnet_66 : decode cX4_magnet 66 = .ok (.ireturn, 1) := by decide +kernel
theorem dX4_magnet_67 : decode cX4_magnet 67 = .ok (.aload_n 3, 1) := by decide +kernel
theorem dX4_magnet_68 : decode cX4_magnet 68 = .ok (.getfield 105, 3) := by decide +kernel
theorem dX4_magnet_71 : decode cX4_magnet 71 = .ok (.iload_n 1, 1) := by decide +kernel
theorem dX4_magnet_72 : decode cX4_magnet 72 = .ok (.iaload, 1) := by decide +kernel
theorem dX4_magnet_73 : decode cX4_magnet 73 = .ok (.ireturn, 1) := by decide +kernel
theorem dX4_magnet_74 : decode cX4_magnet 74 = .ok (.aload_n 3, 1) := by decide +kernel
theorem dX4_magnet_75 : decode cX4_magnet 75 = .ok (.getfield 152, 3) := by decide +kernel
theorem dX4_magnet_78 : decode cX4_magnet 78 = .ok (.iload_n 1, 1) := by decide +kernel
theorem dX4_magnet_79 : decode cX4_magnet 79 = .ok (.iaload, 1) := by decide +kernel
theorem dX4_magnet_80 : decode cX4_magnet 80 = .ok (.ireturn, 1) := by decide +kernel
theorem dX4_magnet_81 : decode cX4_magnet 81 = .ok (.aload_n 3, 1) := by decide +kernel
theorem dX4_magnet_82 : decode cX4_magnet 82 = .ok (.iload_n 1, 1) := by decide +kernel
theorem dX4_magnet_83 : decode cX4_magnet 83 = .ok (.iconst 1, 1) := by decide +kernel
theorem dX4_magnet_84 : decode cX4_magnet 84 = .ok (.invokevirtual 186, 3) := by decide +kernel
theorem dX4_magnet_87 : decode cX4_magnet 87 = .ok (.ireturn, 1) := by decide +kernel
theorem dX4_magnet_88 : decode cX4_magnet 88 = .ok (.aload_n 3, 1) := by decide +kernel
theorem dX4_magnet_89 : decode cX4_magnet 89 = .ok (.iload_n 1, 1) := by decide +kernel
theorem dX4_magnet_90 : decode cX4_magnet 90 = .ok (.iconst (-1), 1) := by decide +kernel
theorem dX4_magnet_91 : decode cX4_magnet 91 = .ok (.invokevirtual 186, 3) := by decide +kernel
theorem dX4_magnet_94 : decode cX4_magnet 94 = .ok (.ireturn, 1) := by decide +kernel
theorem dX4_magnet_95 : decode cX4_magnet 95 = .ok (.aload_n 3, 1) := by decide +kernel
theorem dX4_magnet_96 : decode cX4_magnet 96 = .ok (.iload_n 1, 1) := by decide +kernel
theorem dX4_magnet_97 : decode cX4_magnet 97 = .ok (.aload_n 3, 1) := by decide +kernel
theorem dX4_magnet_98 : decode cX4_magnet 98 = .ok (.getfield 98, 3) := by decide +kernel
theorem dX4_magnet_101 : decode cX4_magnet 101 = .ok (.iload_n 1, 1) := by decide +kernel
theorem dX4_magnet_102 : decode cX4_magnet 102 = .ok (.iaload, 1) := by decide +kernel
theorem dX4_magnet_103 : decode cX4_magnet 103 = .ok (.invokevirtual 190, 3) := by decide +kernel
theorem dX4_magnet_106 : decode cX4_magnet 106 = .ok (.ireturn, 1) := by decide +kernel
theorem dX4_magnet_107 : decode cX4_magnet 107 = .ok (.ldc 49, 2) := by decide +kernel
theorem dX4_magnet_109 : decode cX4_magnet 109 = .ok (.ireturn, 1) := by decide +kernel
theorem dX4_log_0 : decode cX4_log 0 = .ok (.iload_n 1, 1) := by decide +kernel
theorem dX4_log_1 : decode cX4_log 1 = .ok (.ifCond .lt 12, 3) := by decide +kernel
theorem dX4_log_4 : decode cX4_log 4 = .ok (.iload_n 2, 1) := by decide +kernel
theorem dX4_log_5 : decode cX4_log 5 = .ok (.iconst 0, 1) := by decide +kernel
theorem dX4_log_6 : decode cX4_log 6 = .ok (.iconst 2, 1) := by decide +kernel
theorem dX4_log_7 : decode cX4_log 7 = .ok (.invokestatic 45, 3) := by decide +kernel
theorem dX4_log_10 : decode cX4_log 10 = .ok (.ifCond .ne 6, 3) := by decide +kernel
theorem dX4_log_13 : decode cX4_log 13 = .ok (.ldc 49, 2) := by decide +kernel
theorem dX4_log_15 : decode cX4_log 15 = .ok (.ireturn, 1) := by decide +kernel
theorem dX4_log_16 : decode cX4_log 16 = .ok (.aload_n 0, 1) := by decide +kernel
theorem dX4_log_17 : decode cX4_log 17 = .ok (.getfield 10, 3) := by decide +kernel
theorem dX4_log_20 : decode cX4_log 20 = .ok (.getfield 64, 3) := by decide +kernel
theorem dX4_log_23 : decode cX4_log 23 = .ok (.astore_n 3, 1) := by decide +kernel
theorem dX4_log_24 : decode cX4_log 24 = .ok (.iload_n 1, 1) := by decide +kernel
theorem dX4_log_25 : decode cX4_log 25 = .ok (.aload_n 3, 1) := by decide +kernel
theorem dX4_log_26 : decode cX4_log 26 = .ok (.getfield 171, 3) := by decide +kernel
theorem dX4_log_29 : decode cX4_log 29 = .ok (.if_icmp .lt 6, 3) := by decide +kernel
theorem dX4_log_32 : decode cX4_log 32 = .ok (.ldc 151, 2) := by decide +kernel
theorem dX4_log_34 : decode cX4_log 34 = .ok (.ireturn, 1) := by decide +kernel
theorem dX4_log_35 : decode cX4_log 35 = .ok (.aload_n 3, 1) := by decide +kernel
theorem dX4_log_36 : decode cX4_log 36 = .ok (.getfield 171, 3) := by decide +kernel
theorem dX4_log_39 : decode cX4_log 39 = .ok (.iconst 1, 1) := by decide +kernel
theorem dX4_log_40 : decode cX4_log 40 = .ok (.isub, 1) := by decide +kernel
theorem dX4_log_41 : decode cX4_log 41 = .ok (.iload_n 1, 1) := by decide +kernel
theorem dX4_log_42 : decode cX4_log 42 = .ok (.isub, 1) := by decide +kernel
theorem dX4_log_43 : decode cX4_log 43 = .ok (.istore 4, 2) := by decide +kernel
theorem dX4_log_45 : decode cX4_log 45 = .ok (.iload_n 2, 1) := by decide +kernel
theorem dX4_log_46 : decode cX4_log 46 = .ok (.lookupswitch 42 #[(0, 26), (1, 34)], 26) := by decide +kernel
theorem dX4_log_72 : decode cX4_log 72 = .ok (.aload_n 3, 1) := by decide +kernel
theorem dX4_log_73 : decode cX4_log 73 = .ok (.getfield 193, 3) := by decide +kernel
theorem dX4_log_76 : decode cX4_log 76 = .ok (.iload 4, 2) := by decide +kernel
theorem dX4_log_78 : decode cX4_log 78 = .ok (.iaload, 1) := by decide +kernel
theorem dX4_log_79 : decode cX4_log 79 = .ok (.ireturn, 1) := by decide +kernel
theorem dX4_log_80 : decode cX4_log 80 = .ok (.aload_n 3, 1) := by decide +kernel
theorem dX4_log_81 : decode cX4_log 81 = .ok (.getfield 196, 3) := by decide +kernel
theorem dX4_log_84 : decode cX4_log 84 = .ok (.iload 4, 2) := by decide +kernel
theorem dX4_log_86 : decode cX4_log 86 = .ok (.iaload, 1) := by decide +kernel
theorem dX4_log_87 : decode cX4_log 87 = .ok (.ireturn, 1) := by decide +kernel
theorem dX4_log_88 : decode cX4_log 88 = .ok (.aload_n 3, 1) := by decide +kernel
theorem dX4_log_89 : decode cX4_log 89 = .ok (.getfield 199, 3) := by decide +kernel
theorem dX4_log_92 : decode cX4_log 92 = .ok (.iload 4, 2) := by decide +kernel
theorem dX4_log_94 : decode cX4_log 94 = .ok (.iaload, 1) := by decide +kernel
theorem dX4_log_95 : decode cX4_log 95 = .ok (.ireturn, 1) := by decide +kernel
theorem dX4_points_0 : decode cX4_points 0 = .ok (.iload_n 1, 1) := by decide +kernel
theorem dX4_points_1 : decode cX4_points 1 = .ok (.invokestatic 77, 3) := by decide +kernel
theorem dX4_points_4 : decode cX4_points 4 = .ok (.ifCond .eq 17, 3) := by decide +kernel
theorem dX4_points_7 : decode cX4_points 7 = .ok (.aload_n 0, 1) := by decide +kernel
theorem dX4_points_8 : decode cX4_points 8 = .ok (.getfield 10, 3) := by decide +kernel
theorem dX4_points_11 : decode cX4_points 11 = .ok (.getfield 50, 3) := by decide +kernel
theorem dX4_points_14 : decode cX4_points 14 = .ok (.iload_n 1, 1) := by decide +kernel
theorem dX4_points_15 : decode cX4_points 15 = .ok (.invokevirtual 202, 3) := by decide +kernel
theorem dX4_points_18 : decode cX4_points 18 = .ok (.goto 5, 3) := by decide +kernel
theorem dX4_points_21 : decode cX4_points 21 = .ok (.ldc 49, 2) := by decide +kernel
theorem dX4_points_23 : decode cX4_points 23 = .ok (.ireturn, 1) := by decide +kernel
theorem dX4_mean_0 : decode cX4_mean 0 = .ok (.aload_n 0, 1) := by decide +kernel
theorem dX4_mean_1 : decode cX4_mean 1 = .ok (.getfield 10, 3) := by decide +kernel
theorem dX4_mean_4 : decode cX4_mean 4 = .ok (.getfield 50, 3) := by decide +kernel
theorem dX4_mean_7 : decode cX4_mean 7 = .ok (.getfield 54, 3) := by decide +kernel
theorem dX4_mean_10 : decode cX4_mean 10 = .ok (.istore_n 1, 1) := by decide +kernel
theorem dX4_mean_11 : decode cX4_mean 11 = .ok (.iload_n 1, 1) := by decide +kernel
theorem dX4_mean_12 : decode cX4_mean 12 = .ok (.ifCond .le 20, 3) := by decide +kernel
theorem dX4_mean_15 : decode cX4_mean 15 = .ok (.aload_n 0, 1) := by decide +kernel
theorem dX4_mean_16 : decode cX4_mean 16 = .ok (.getfield 10, 3) := by decide +kernel
theorem dX4_mean_19 : decode cX4_mean 19 = .ok (.getfield 50, 3) := by decide +kernel
theorem dX4_mean_22 : decode cX4_mean 22 = .ok (.invokevirtual 159, 3) := by decide +kernel
theorem dX4_mean_25 : decode cX4_mean 25 = .ok (.i2f, 1) := by decide +kernel
theorem dX4_mean_26 : decode cX4_mean 26 = .ok (.iload_n 1, 1) := by decide +kernel
theorem dX4_mean_27 : decode cX4_mean 27 = .ok (.i2f, 1) := by decide +kernel
theorem dX4_mean_28 : decode cX4_mean 28 = .ok (.fdiv, 1) := by decide +kernel
theorem dX4_mean_29 : decode cX4_mean 29 = .ok (.goto 4, 3) := by decide +kernel
theorem dX4_mean_32 : decode cX4_mean 32 = .ok (.fconst 0, 1) := by decide +kernel
theorem dX4_mean_33 : decode cX4_mean 33 = .ok (.freturn, 1) := by decide +kernel
theorem dX4_moved_0 : decode cX4_moved 0 = .ok (.aload_n 0, 1) := by decide +kernel
theorem dX4_moved_1 : decode cX4_moved 1 = .ok (.iload_n 1, 1) := by decide +kernel
theorem dX4_moved_2 : decode cX4_moved 2 = .ok (.invokevirtual 94, 3) := by decide +kernel
theorem dX4_moved_5 : decode cX4_moved 5 = .ok (.ifCond .eq 10, 3) := by decide +kernel
theorem dX4_moved_8 : decode cX4_moved 8 = .ok (.iload_n 2, 1) := by decide +kernel
theorem dX4_moved_9 : decode cX4_moved 9 = .ok (.invokestatic 126, 3) := by decide +kernel
theorem dX4_moved_12 : decode cX4_moved 12 = .ok (.ifCond .ne 6, 3) := by decide +kernel
theorem dX4_moved_15 : decode cX4_moved 15 = .ok (.ldc 49, 2) := by decide +kernel
theorem dX4_moved_17 : decode cX4_moved 17 = .ok (.ireturn, 1) := by decide +kernel
theorem dX4_moved_18 : decode cX4_moved 18 = .ok (.aload_n 0, 1) := by decide +kernel
theorem dX4_moved_19 : decode cX4_moved 19 = .ok (.getfield 10, 3) := by decide +kernel
theorem dX4_moved_22 : decode cX4_moved 22 = .ok (.getfield 50, 3) := by decide +kernel
theorem dX4_moved_25 : decode cX4_moved 25 = .ok (.getfield 105, 3) := by decide +kernel
theorem dX4_moved_28 : decode cX4_moved 28 = .ok (.iload_n 1, 1) := by decide +kernel
theorem dX4_moved_29 : decode cX4_moved 29 = .ok (.iaload, 1) := by decide +kernel
theorem dX4_moved_30 : decode cX4_moved 30 = .ok (.iconst 1, 1) := by decide +kernel
theorem dX4_moved_31 : decode cX4_moved 31 = .ok (.if_icmp .ne 6, 3) := by decide +kernel
theorem dX4_moved_34 : decode cX4_moved 34 = .ok (.ldc 97, 2) := by decide +kernel
theorem dX4_moved_36 : decode cX4_moved 36 = .ok (.ireturn, 1) := by decide +kernel
theorem dX4_moved_37 : decode cX4_moved 37 = .ok (.aload_n 0, 1) := by decide +kernel
theorem dX4_moved_38 : decode cX4_moved 38 = .ok (.getfield 40, 3) := by decide +kernel
theorem dX4_moved_41 : decode cX4_moved 41 = .ok (.iconst 0, 1) := by decide +kernel
theorem dX4_moved_42 : decode cX4_moved 42 = .ok (.aaload, 1) := by decide +kernel
theorem dX4_moved_43 : decode cX4_moved 43 = .ok (.astore_n 3, 1) := by decide +kernel
theorem dX4_moved_44 : decode cX4_moved 44 = .ok (.aload_n 3, 1) := by decide +kernel
theorem dX4_moved_45 : decode cX4_moved 45 = .ok (.aload_n 0, 1) := by decide +kernel
theorem dX4_moved_46 : decode cX4_moved 46 = .ok (.getfield 10, 3) := by decide +kernel
theorem dX4_moved_49 : decode cX4_moved 49 = .ok (.getfield 50, 3) := by decide +kernel
theorem dX4_moved_52 : decode cX4_moved 52 = .ok (.invokevirtual 205, 3) := by decide +kernel
theorem dX4_moved_55 : decode cX4_moved 55 = .ok (.aload_n 3, 1) := by decide +kernel
theorem dX4_moved_56 : decode cX4_moved 56 = .ok (.iload_n 1, 1) := by decide +kernel
theorem dX4_moved_57 : decode cX4_moved 57 = .ok (.iload_n 2, 1) := by decide +kernel
theorem dX4_moved_58 : decode cX4_moved 58 = .ok (.invokevirtual 129, 3) := by decide +kernel
theorem dX4_moved_61 : decode cX4_moved 61 = .ok (.aload_n 3, 1) := by decide +kernel
theorem dX4_moved_62 : decode cX4_moved 62 = .ok (.aconst_null, 1) := by decide +kernel
theorem dX4_moved_63 : decode cX4_moved 63 = .ok (.invokevirtual 73, 3) := by decide +kernel
theorem dX4_moved_66 : decode cX4_moved 66 = .ok (.ireturn, 1) := by decide +kernel
theorem dX4_loop_0 : decode cX4_loop 0 = .ok (.iload_n 1, 1) := by decide +kernel
theorem dX4_loop_1 : decode cX4_loop 1 = .ok (.iload_n 2, 1) := by decide +kernel
theorem dX4_loop_2 : decode cX4_loop 2 = .ok (.invokestatic 207, 3) := by decide +kernel
theorem dX4_loop_5 : decode cX4_loop 5 = .ok (.ifCond .eq 12, 3) := by decide +kernel
theorem dX4_loop_8 : decode cX4_loop 8 = .ok (.iload_n 3, 1) := by decide +kernel
theorem dX4_loop_9 : decode cX4_loop 9 = .ok (.iconst 0, 1) := by decide +kernel
theorem dX4_loop_10 : decode cX4_loop 10 = .ok (.iconst 4, 1) := by decide +kernel
theorem dX4_loop_11 : decode cX4_loop 11 = .ok (.invokestatic 45, 3) := by decide +kernel
theorem dX4_loop_14 : decode cX4_loop 14 = .ok (.ifCond .ne 6, 3) := by decide +kernel
theorem dX4_loop_17 : decode cX4_loop 17 = .ok (.ldc 49, 2) := by decide +kernel
theorem dX4_loop_19 : decode cX4_loop 19 = .ok (.ireturn, 1) := by decide +kernel
theorem dX4_loop_20 : decode cX4_loop 20 = .ok (.aload_n 0, 1) := by decide +kernel
theorem dX4_loop_21 : decode cX4_loop 21 = .ok (.getfield 40, 3) := by decide +kernel
theorem dX4_loop_24 : decode cX4_loop 24 = .ok (.iconst 0, 1) := by decide +kernel
theorem dX4_loop_25 : decode cX4_loop 25 = .ok (.aaload, 1) := by decide +kernel
theorem dX4_loop_26 : decode cX4_loop 26 = .ok (.astore 4, 2) := by decide +kernel
theorem dX4_loop_28 : decode cX4_loop 28 = .ok (.aload 4, 2) := by decide +kernel
theorem dX4_loop_30 : decode cX4_loop 30 = .ok (.aload_n 0, 1) := by decide +kernel
theorem dX4_loop_31 : decode cX4_loop 31 = .ok (.getfield 10, 3) := by decide +kernel
theorem dX4_loop_34 : decode cX4_loop 34 = .ok (.getfield 50, 3) := by decide +kernel
theorem dX4_loop_37 : decode cX4_loop 37 = .ok (.invokevirtual 205, 3) := by decide +kernel
theorem dX4_loop_40 : decode cX4_loop 40 = .ok (.iload_n 1, 1) := by decide +kernel
theorem dX4_loop_41 : decode cX4_loop 41 = .ok (.iload_n 2, 1) := by decide +kernel
theorem dX4_loop_42 : decode cX4_loop 42 = .ok (.idiv, 1) := by decide +kernel
theorem dX4_loop_43 : decode cX4_loop 43 = .ok (.istore 5, 2) := by decide +kernel
theorem dX4_loop_45 : decode cX4_loop 45 = .ok (.iconst 0, 1) := by decide +kernel
theorem dX4_loop_46 : decode cX4_loop 46 = .ok (.istore 6, 2) := by decide +kernel
theorem dX4_loop_48 : decode cX4_loop 48 = .ok (.iconst 0, 1) := by decide +kernel
theorem dX4_loop_49 : decode cX4_loop 49 = .ok (.istore 7, 2) := by decide +kernel
theorem dX4_loop_51 : decode cX4_loop 51 = .ok (.ldc 151, 2) := by decide +kernel
theorem dX4_loop_53 : decode cX4_loop 53 = .ok (.istore 8, 2) := by decide +kernel
theorem dX4_loop_55 : decode cX4_loop 55 = .ok (.iconst 0, 1) := by decide +kernel
theorem dX4_loop_56 : decode cX4_loop 56 = .ok (.istore 9, 2) := by decide +kernel
theorem dX4_loop_58 : decode cX4_loop 58 = .ok (.iconst 0, 1) := by decide +kernel
theorem dX4_loop_59 : decode cX4_loop 59 = .ok (.istore 10, 2) := by decide +kernel
theorem dX4_loop_61 : decode cX4_loop 61 = .ok (.iconst 0, 1) := by decide +kernel
theorem dX4_loop_62 : decode cX4_loop 62 = .ok (.istore 11, 2) := by decide +kernel
theorem dX4_loop_64 : decode cX4_loop 64 = .ok (.iload 11, 2) := by decide +kernel
theorem dX4_loop_66 : decode cX4_loop 66 = .ok (.iconst 5, 1) := by decide +kernel
theorem dX4_loop_67 : decode cX4_loop 67 = .ok (.iload 5, 2) := by decide +kernel
theorem dX4_loop_69 : decode cX4_loop 69 = .ok (.imul, 1) := by decide +kernel
theorem dX4_loop_70 : decode cX4_loop 70 = .ok (.if_icmp .gt 149, 3) := by decide +kernel
theorem dX4_loop_73 : decode cX4_loop 73 = .ok (.iload 11, 2) := by decide +kernel
theorem dX4_loop_75 : decode cX4_loop 75 = .ok (.iload 5, 2) := by decide +kernel
theorem dX4_loop_77 : decode cX4_loop 77 = .ok (.if_icmp .le 7, 3) := by decide +kernel
theorem dX4_loop_80 : decode cX4_loop 80 = .ok (.iconst 1, 1) := by decide +kernel
theorem dX4_loop_81 : decode cX4_loop 81 = .ok (.goto 4, 3) := by decide +kernel
theorem dX4_loop_84 : decode cX4_loop 84 = .ok (.iconst 0, 1) := by decide +kernel
theorem dX4_loop_85 : decode cX4_loop 85 = .ok (.istore 12, 2) := by decide +kernel
theorem dX4_loop_87 : decode cX4_loop 87 = .ok (.iload 12, 2) := by decide +kernel
theorem dX4_loop_89 : decode cX4_loop 89 = .ok (.ifCond .eq 16, 3) := by decide +kernel
theorem dX4_loop_92 : decode cX4_loop 92 = .ok (.iload 11, 2) := by decide +kernel
theorem dX4_loop_94 : decode cX4_loop 94 = .ok (.iconst 3, 1) := by decide +kernel
theorem dX4_loop_95 : decode cX4_loop 95 = .ok (.iload 5, 2) := by decide +kernel
theorem dX4_loop_97 : decode cX4_loop 97 = .ok (.imul, 1) := by decide +kernel
theorem dX4_loop_98 : decode cX4_loop 98 = .ok (.if_icmp .gt 7, 3) := by decide +kernel
theorem dX4_loop_101 : decode cX4_loop 101 = .ok (.iconst 1, 1) := by decide +kernel
theorem dX4_loop_102 : decode cX4_loop 102 = .ok (.goto 4, 3) := by decide +kernel
theorem dX4_loop_105 : decode cX4_loop 105 = .ok (.iconst 0, 1) := by decide +kernel
theorem dX4_loop_106 : decode cX4_loop 106 = .ok (.istore 13, 2) := by decide +kernel
theorem dX4_loop_108 : decode cX4_loop 108 = .ok (.iload 10, 2) := by decide +kernel
theorem dX4_loop_110 : decode cX4_loop 110 = .ok (.istore 14, 2) := by decide +kernel
theorem dX4_loop_112 : decode cX4_loop 112 = .ok (.aload 4, 2) := by decide +kernel
theorem dX4_loop_114 : decode cX4_loop 114 = .ok (.iload 11, 2) := by decide +kernel
theorem dX4_loop_116 : decode cX4_loop 116 = .ok (.iload 5, 2) := by decide +kernel
theorem dX4_loop_118 : decode cX4_loop 118 = .ok (.invokestatic 210, 3) := by decide +kernel
theorem dX4_loop_121 : decode cX4_loop 121 = .ok (.iload_n 2, 1) := by decide +kernel
theorem dX4_loop_122 : decode cX4_loop 122 = .ok (.imul, 1) := by decide +kernel
theorem dX4_loop_123 : decode cX4_loop 123 = .ok (.putfield 145, 3) := by decide +kernel
theorem dX4_loop_126 : decode cX4_loop 126 = .ok (.iload 9, 2) := by decide +kernel
theorem dX4_loop_128 : decode cX4_loop 128 = .ok (.aload 4, 2) := by decide +kernel
theorem dX4_loop_130 : decode cX4_loop 130 = .ok (.aconst_null, 1) := by decide +kernel
theorem dX4_loop_131 : decode cX4_loop 131 = .ok (.invokevirtual 73, 3) := by decide +kernel
theorem dX4_loop_134 : decode cX4_loop 134 = .ok (.iadd, 1) := by decide +kernel
theorem dX4_loop_135 : decode cX4_loop 135 = .ok (.istore 9, 2) := by decide +kernel
theorem dX4_loop_137 : decode cX4_loop 137 = .ok (.aload 4, 2) := by decide +kernel
theorem dX4_loop_139 : decode cX4_loop 139 = .ok (.aload 4, 2) := by decide +kernel
theorem dX4_loop_141 : decode cX4_loop 141 = .ok (.getfield 148, 3) := by decide +kernel
theorem dX4_loop_144 : decode cX4_loop 144 = .ok (.invokevirtual 202, 3) := by decide +kernel
theorem dX4_loop_147 : decode cX4_loop 147 = .ok (.istore 10, 2) := by decide +kernel
theorem dX4_loop_149 : decode cX4_loop 149 = .ok (.iload 12, 2) := by decide +kernel
theorem dX4_loop_151 : decode cX4_loop 151 = .ok (.ifCond .eq 25, 3) := by decide +kernel
theorem dX4_loop_154 : decode cX4_loop 154 = .ok (.iload 6, 2) := by decide +kernel
theorem dX4_loop_156 : decode cX4_loop 156 = .ok (.iload 14, 2) := by decide +kernel
theorem dX4_loop_158 : decode cX4_loop 158 = .ok (.iload 10, 2) := by decide +kernel
theorem dX4_loop_160 : decode cX4_loop 160 = .ok (.iadd, 1) := by decide +kernel
theorem dX4_loop_161 : decode cX4_loop 161 = .ok (.iload 13, 2) := by decide +kernel
theorem dX4_loop_163 : decode cX4_loop 163 = .ok (.ifCond .eq 8, 3) := by decide +kernel
theorem dX4_loop_166 : decode cX4_loop 166 = .ok (.iload_n 2, 1) := by decide +kernel
theorem dX4_loop_167 : decode cX4_loop 167 = .ok (.ineg, 1) := by decide +kernel
theorem dX4_loop_168 : decode cX4_loop 168 = .ok (.goto 4, 3) := by decide +kernel
theorem dX4_loop_171 : decode cX4_loop 171 = .ok (.iload_n 2, 1) := by decide +kernel
theorem dX4_loop_172 : decode cX4_loop 172 = .ok (.imul, 1) := by decide +kernel
theorem dX4_loop_173 : decode cX4_loop 173 = .ok (.iadd, 1) := by decide +kernel
theorem dX4_loop_174 : decode cX4_loop 174 = .ok (.istore 6, 2) := by decide +kernel
theorem dX4_loop_176 : decode cX4_loop 176 = .ok (.iload 11, 2) := by decide +kernel
theorem dX4_loop_178 : decode cX4_loop 178 = .ok (.iconst 2, 1) := by decide +kernel
theorem dX4_loop_179 : decode cX4_loop 179 = .ok (.iload 5, 2) := by decide +kernel
theorem dX4_loop_181 : decode cX4_loop 181 = .ok (.imul, 1) := by decide +kernel
theorem dX4_loop_182 : decode cX4_loop 182 = .ok (.if_icmp .ne 7, 3) := by decide +kernel
theorem dX4_loop_185 : decode cX4_loop 185 = .ok (.iload 10, 2) := by decide +kernel
theorem dX4_loop_187 : decode cX4_loop 187 = .ok (.istore 7, 2) := by decide +kernel
theorem dX4_loop_189 : decode cX4_loop 189 = .ok (.iload 13, 2) := by decide +kernel
theorem dX4_loop_191 : decode cX4_loop 191 = .ok (.ifCond .eq 22, 3) := by decide +kernel
theorem dX4_loop_194 : decode cX4_loop 194 = .ok (.iload 10, 2) := by decide +kernel
theorem dX4_loop_196 : decode cX4_loop 196 = .ok (.ifCond .gt 17, 3) := by decide +kernel
theorem dX4_loop_199 : decode cX4_loop 199 = .ok (.iload 8, 2) := by decide +kernel
theorem dX4_loop_201 : decode cX4_loop 201 = .ok (.ldc 151, 2) := by decide +kernel
theorem dX4_loop_203 : decode cX4_loop 203 = .ok (.if_icmp .ne 10, 3) := by decide +kernel
theorem dX4_loop_206 : decode cX4_loop 206 = .ok (.aload 4, 2) := by decide +kernel
theorem dX4_loop_208 : decode cX4_loop 208 = .ok (.getfield 145, 3) := by decide +kernel
theorem dX4_loop_211 : decode cX4_loop 211 = .ok (.istore 8, 2) := by decide +kernel
theorem dX4_loop_213 : decode cX4_loop 213 = .ok (.iinc 11 1, 3) := by decide +kernel
theorem dX4_loop_216 : decode cX4_loop 216 = .ok (.goto (-152), 3) := by decide +kernel
theorem dX4_loop_219 : decode cX4_loop 219 = .ok (.iload_n 3, 1) := by decide +kernel
theorem dX4_loop_220 : decode cX4_loop 220 = .ok (.tableswitch 44 0 3 #[32, 35, 38, 41], 32) := by decide +kernel
theorem dX4_loop_252 : decode cX4_loop 252 = .ok (.iload 6, 2) := by decide +kernel
theorem dX4_loop_254 : decode cX4_loop 254 = .ok (.ireturn, 1) := by decide +kernel
theorem dX4_loop_255 : decode cX4_loop 255 = .ok (.iload 7, 2) := by decide +kernel
theorem dX4_loop_257 : decode cX4_loop 257 = .ok (.ireturn, 1) := by decide +kernel
theorem dX4_loop_258 : decode cX4_loop 258 = .ok (.iload 8, 2) := by decide +kernel
theorem dX4_loop_260 : decode cX4_loop 260 = .ok (.ireturn, 1) := by decide +kernel
theorem dX4_loop_261 : decode cX4_loop 261 = .ok (.iload 9, 2) := by decide +kernel
theorem dX4_loop_263 : decode cX4_loop 263 = .ok (.ireturn, 1) := by decide +kernel
theorem dX4_loop_264 : decode cX4_loop 264 = .ok (.iload 10, 2) := by decide +kernel
theorem dX4_loop_266 : decode cX4_loop 266 = .ok (.ireturn, 1) := by decide +kernel
theorem dX4_solve_0 : decode cX4_solve 0 = .ok (.iload_n 1, 1) := by decide +kernel
theorem dX4_solve_1 : decode cX4_solve 1 = .ok (.iconst 0, 1) := by decide +kernel
theorem dX4_solve_2 : decode cX4_solve 2 = .ok (.iconst 3, 1) := by decide +kernel
theorem dX4_solve_3 : decode cX4_solve 3 = .ok (.invokestatic 45, 3) := by decide +kernel
theorem dX4_solve_6 : decode cX4_solve 6 = .ok (.ifCond .eq 12, 3) := by decide +kernel
theorem dX4_solve_9 : decode cX4_solve 9 = .ok (.iload_n 2, 1) := by decide +kernel
theorem dX4_solve_10 : decode cX4_solve 10 = .ok (.iconst 0, 1) := by decide +kernel
theorem dX4_solve_11 : decode cX4_solve 11 = .ok (.iconst 2, 1) := by decide +kernel
theorem dX4_solve_12 : decode cX4_solve 12 = .ok (.invokestatic 45, 3) := by decide +kernel
theorem dX4_solve_15 : decode cX4_solve 15 = .ok (.ifCond .ne 6, 3) := by decide +kernel
theorem dX4_solve_18 : decode cX4_solve 18 = .ok (.ldc 49, 2) := by decide +kernel
theorem dX4_solve_20 : decode cX4_solve 20 = .ok (.ireturn, 1) := by decide +kernel
theorem dX4_solve_21 : decode cX4_solve 21 = .ok (.aload_n 0, 1) := by decide +kernel
theorem dX4_solve_22 : decode cX4_solve 22 = .ok (.getfield 10, 3) := by decide +kernel
theorem dX4_solve_25 : decode cX4_solve 25 = .ok (.getfield 50, 3) := by decide +kernel
theorem dX4_solve_28 : decode cX4_solve 28 = .ok (.invokevirtual 177, 3) := by decide +kernel
theorem dX4_solve_31 : decode cX4_solve 31 = .ok (.ifCond .ne 14, 3) := by decide +kernel
theorem dX4_solve_34 : decode cX4_solve 34 = .ok (.iload_n 2, 1) := by decide +kernel
theorem dX4_solve_35 : decode cX4_solve 35 = .ok (.ifCond .ne 7, 3) := by decide +kernel
theorem dX4_solve_38 : decode cX4_solve 38 = .ok (.iconst 0, 1) := by decide +kernel
theorem dX4_solve_39 : decode cX4_solve 39 = .ok (.goto 5, 3) := by decide +kernel
theorem dX4_solve_42 : decode cX4_solve 42 = .ok (.ldc 151, 2) := by decide +kernel
theorem dX4_solve_44 : decode cX4_solve 44 = .ok (.ireturn, 1) := by decide +kernel
theorem dX4_solve_45 : decode cX4_solve 45 = .ok (.iconst 0, 1) := by decide +kernel
theorem dX4_solve_46 : decode cX4_solve 46 = .ok (.istore_n 3, 1) := by decide +kernel
theorem dX4_solve_47 : decode cX4_solve 47 = .ok (.iload_n 3, 1) := by decide +kernel
theorem dX4_solve_48 : decode cX4_solve 48 = .ok (.aload_n 0, 1) := by decide +kernel
theorem dX4_solve_49 : decode cX4_solve 49 = .ok (.getfield 40, 3) := by decide +kernel
theorem dX4_solve_52 : decode cX4_solve 52 = .ok (.arraylength, 1) := by decide +kernel
theorem dX4_solve_53 : decode cX4_solve 53 = .ok (.if_icmp .ge 25, 3) := by decide +kernel
theorem dX4_solve_56 : decode cX4_solve 56 = .ok (.aload_n 0, 1) := by decide +kernel
theorem dX4_solve_57 : decode cX4_solve 57 = .ok (.getfield 40, 3) := by decide +kernel
theorem dX4_solve_60 : decode cX4_solve 60 = .ok (.iload_n 3, 1) := by decide +kernel
theorem dX4_solve_61 : decode cX4_solve 61 = .ok (.aaload, 1) := by decide +kernel
theorem dX4_solve_62 : decode cX4_solve 62 = .ok (.aload_n 0, 1) := by decide +kernel
theorem dX4_solve_63 : decode cX4_solve 63 = .ok (.getfield 10, 3) := by decide +kernel
theorem dX4_solve_66 : decode cX4_solve 66 = .ok (.getfield 50, 3) := by decide +kernel
theorem dX4_solve_69 : decode cX4_solve 69 = .ok (.invokevirtual 205, 3) := by decide +kernel
theorem dX4_solve_72 : decode cX4_solve 72 = .ok (.iinc 3 1, 3) := by decide +kernel
theorem dX4_solve_75 : decode cX4_solve 75 = .ok (.goto (-28), 3) := by decide +kernel
theorem dX4_solve_78 : decode cX4_solve 78 = .ok (.iconst 1, 1) := by decide +kernel
theorem dX4_solve_79 : decode cX4_solve 79 = .ok (.istore_n 3, 1) := by decide +kernel
theorem dX4_solve_80 : decode cX4_solve 80 = .ok (.iload_n 3, 1) := by decide +kernel
theorem dX4_solve_81 : decode cX4_solve 81 = .ok (.iload_n 1, 1) := by decide +kernel
theorem dX4_solve_82 : decode cX4_solve 82 = .ok (.if_icmp .gt 70, 3) := by decide +kernel
theorem dX4_solve_85 : decode cX4_solve 85 = .ok (.aload_n 0, 1) := by decide +kernel
theorem dX4_solve_86 : decode cX4_solve 86 = .ok (.getfield 40, 3) := by decide +kernel
theorem dX4_solve_89 : decode cX4_solve 89 = .ok (.iconst 0, 1) := by decide +kernel
theorem dX4_solve_90 : decode cX4_solve 90 = .ok (.iload_n 3, 1) := by decide +kernel
theorem dX4_solve_91 : decode cX4_solve 91 = .ok (.invokestatic 213, 3) := by decide +kernel
theorem dX4_solve_94 : decode cX4_solve 94 = .ok (.istore 4, 2) := by decide +kernel
theorem dX4_solve_96 : decode cX4_solve 96 = .ok (.iload 4, 2) := by decide +kernel
theorem dX4_solve_98 : decode cX4_solve 98 = .ok (.ldc 151, 2) := by decide +kernel
theorem dX4_solve_100 : decode cX4_solve 100 = .ok (.if_icmp .eq 46, 3) := by decide +kernel
theorem dX4_solve_103 : decode cX4_solve 103 = .ok (.iload_n 2, 1) := by decide +kernel
theorem dX4_solve_104 : decode cX4_solve 104 = .ok (.lookupswitch 36 #[(0, 28), (1, 30)], 28) := by decide +kernel
theorem dX4_solve_132 : decode cX4_solve 132 = .ok (.iload_n 3, 1) := by decide +kernel
theorem dX4_solve_133 : decode cX4_solve 133 = .ok (.ireturn, 1) := by decide +kernel
theorem dX4_solve_134 : decode cX4_solve 134 = .ok (.iload 4, 2) := by decide +kernel
theorem dX4_solve_136 : decode cX4_solve 136 = .ok (.invokestatic 217, 3) := by decide +kernel
theorem dX4_solve_139 : decode cX4_solve 139 = .ok (.ireturn, 1) := by decide +kernel
theorem dX4_solve_140 : decode cX4_solve 140 = .ok (.iload 4, 2) := by decide +kernel
theorem dX4_solve_142 : decode cX4_solve 142 = .ok (.invokestatic 220, 3) := by decide +kernel
theorem dX4_solve_145 : decode cX4_solve 145 = .ok (.ireturn, 1) := by decide +kernel
theorem dX4_solve_146 : decode cX4_solve 146 = .ok (.iinc 3 1, 3) := by decide +kernel
theorem dX4_solve_149 : decode cX4_solve 149 = .ok (.goto (-69), 3) := by decide +kernel
theorem dX4_solve_152 : decode cX4_solve 152 = .ok (.ldc 151, 2) := by decide +kernel
theorem dX4_solve_154 : decode cX4_solve 154 = .ok (.ireturn, 1) := by decide +kernel
theorem dX4_write_0 : decode cX4_write 0 = .ok (.iload_n 1, 1) := by decide +kernel
theorem dX4_write_1 : decode cX4_write 1 = .ok (.bipush 32, 2) := by decide +kernel
theorem dX4_write_3 : decode cX4_write 3 = .ok (.bipush 126, 2) := by decide +kernel
theorem dX4_write_5 : decode cX4_write 5 = .ok (.invokestatic 45, 3) := by decide +kernel
theorem dX4_write_8 : decode cX4_write 8 = .ok (.ifCond .ne 6, 3) := by decide +kernel
theorem dX4_write_11 : decode cX4_write 11 = .ok (.ldc 49, 2) := by decide +kernel
theorem dX4_write_13 : decode cX4_write 13 = .ok (.ireturn, 1) := by decide +kernel
theorem dX4_write_14 : decode cX4_write 14 = .ok (.aload_n 0, 1) := by decide +kernel
theorem dX4_write_15 : decode cX4_write 15 = .ok (.getfield 34, 3) := by decide +kernel
theorem dX4_write_18 : decode cX4_write 18 = .ok (.iload_n 1, 1) := by decide +kernel
theorem dX4_write_19 : decode cX4_write 19 = .ok (.invokevirtual 223, 3) := by decide +kernel
theorem dX4_write_22 : decode cX4_write 22 = .ok (.ifCond .eq 13, 3) := by decide +kernel
theorem dX4_write_25 : decode cX4_write 25 = .ok (.aload_n 0, 1) := by decide +kernel
theorem dX4_write_26 : decode cX4_write 26 = .ok (.getfield 34, 3) := by decide +kernel
theorem dX4_write_29 : decode cX4_write 29 = .ok (.getfield 183, 3) := by decide +kernel
theorem dX4_write_32 : decode cX4_write 32 = .ok (.goto 5, 3) := by decide +kernel
theorem dX4_write_35 : decode cX4_write 35 = .ok (.ldc 81, 2) := by decide +kernel
theorem dX4_write_37 : decode cX4_write 37 = .ok (.ireturn, 1) := by decide +kernel
theorem dX4_wipe_0 : decode cX4_wipe 0 = .ok (.aload_n 0, 1) := by decide +kernel
theorem dX4_wipe_1 : decode cX4_wipe 1 = .ok (.getfield 34, 3) := by decide +kernel
theorem dX4_wipe_4 : decode cX4_wipe 4 = .ok (.getfield 183, 3) := by decide +kernel
theorem dX4_wipe_7 : decode cX4_wipe 7 = .ok (.istore_n 1, 1) := by decide +kernel
theorem dX4_wipe_8 : decode cX4_wipe 8 = .ok (.aload_n 0, 1) := by decide +kernel
theorem dX4_wipe_9 : decode cX4_wipe 9 = .ok (.getfield 34, 3) := by decide +kernel
theorem dX4_wipe_12 : decode cX4_wipe 12 = .ok (.iconst 0, 1) := by decide +kernel
theorem dX4_wipe_13 : decode cX4_wipe 13 = .ok (.putfield 183, 3) := by decide +kernel
theorem dX4_wipe_16 : decode cX4_wipe 16 = .ok (.iload_n 1, 1) := by decide +kernel
theorem dX4_wipe_17 : decode cX4_wipe 17 = .ok (.ireturn, 1) := by decide +kernel
theorem dX4_load_0 : decode cX4_load 0 = .ok (.aload_n 0, 1) := by decide +kernel
theorem dX4_load_1 : decode cX4_load 1 = .ok (.getfield 40, 3) := by decide +kernel
theorem dX4_load_4 : decode cX4_load 4 = .ok (.iconst 0, 1) := by decide +kernel
theorem dX4_load_5 : decode cX4_load 5 = .ok (.aaload, 1) := by decide +kernel
theorem dX4_load_6 : decode cX4_load 6 = .ok (.astore_n 1, 1) := by decide +kernel
theorem dX4_load_7 : decode cX4_load 7 = .ok (.aload_n 0, 1) := by decide +kernel
theorem dX4_load_8 : decode cX4_load 8 = .ok (.getfield 34, 3) := by decide +kernel
theorem dX4_load_11 : decode cX4_load 11 = .ok (.aload_n 1, 1) := by decide +kernel
theorem dX4_load_12 : decode cX4_load 12 = .ok (.invokevirtual 225, 3) := by decide +kernel
theorem dX4_load_15 : decode cX4_load 15 = .ok (.ifCond .ne 6, 3) := by decide +kernel
theorem dX4_load_18 : decode cX4_load 18 = .ok (.ldc 97, 2) := by decide +kernel
theorem dX4_load_20 : decode cX4_load 20 = .ok (.ireturn, 1) := by decide +kernel
theorem dX4_load_21 : decode cX4_load 21 = .ok (.aload_n 0, 1) := by decide +kernel
theorem dX4_load_22 : decode cX4_load 22 = .ok (.invokevirtual 82, 3) := by decide +kernel
theorem dX4_load_25 : decode cX4_load 25 = .ok (.istore_n 2, 1) := by decide +kernel
theorem dX4_load_26 : decode cX4_load 26 = .ok (.aload_n 0, 1) := by decide +kernel
theorem dX4_load_27 : decode cX4_load 27 = .ok (.getfield 10, 3) := by decide +kernel
theorem dX4_load_30 : decode cX4_load 30 = .ok (.getfield 50, 3) := by decide +kernel
theorem dX4_load_33 : decode cX4_load 33 = .ok (.aload_n 1, 1) := by decide +kernel
theorem dX4_load_34 : decode cX4_load 34 = .ok (.invokevirtual 115, 3) := by decide +kernel
theorem dX4_load_37 : decode cX4_load 37 = .ok (.aload_n 0, 1) := by decide +kernel
theorem dX4_load_38 : decode cX4_load 38 = .ok (.iload_n 2, 1) := by decide +kernel
theorem dX4_load_39 : decode cX4_load 39 = .ok (.invokevirtual 90, 3) := by decide +kernel
theorem dX4_load_42 : decode cX4_load 42 = .ok (.pop, 1) := by decide +kernel
theorem dX4_load_43 : decode cX4_load 43 = .ok (.aload_n 0, 1) := by decide +kernel
theorem dX4_load_44 : decode cX4_load 44 = .ok (.getfield 10, 3) := by decide +kernel
theorem dX4_load_47 : decode cX4_load 47 = .ok (.getfield 50, 3) := by decide +kernel
theorem dX4_load_50 : decode cX4_load 50 = .ok (.getfield 54, 3) := by decide +kernel
theorem dX4_load_53 : decode cX4_load 53 = .ok (.ireturn, 1) := by decide +kernel
theorem dX4_fault_0 : decode cX4_fault 0 = .ok (.iload_n 1, 1) := by decide +kernel
theorem dX4_fault_1 : decode cX4_fault 1 = .ok (.lookupswitch 43 #[(0, 27), (1, 35)], 27) := by decide +kernel
theorem dX4_fault_28 : decode cX4_fault 28 = .ok (.aload_n 0, 1) := by decide +kernel
theorem dX4_fault_29 : decode cX4_fault 29 = .ok (.getfield 34, 3) := by decide +kernel
theorem dX4_fault_32 : decode cX4_fault 32 = .ok (.getfield 229, 3) := by decide +kernel
theorem dX4_fault_35 : decode cX4_fault 35 = .ok (.ireturn, 1) := by decide +kernel
theorem dX4_fault_36 : decode cX4_fault 36 = .ok (.aload_n 0, 1) := by decide +kernel
theorem dX4_fault_37 : decode cX4_fault 37 = .ok (.getfield 34, 3) := by decide +kernel
theorem dX4_fault_40 : decode cX4_fault 40 = .ok (.getfield 232, 3) := by decide +kernel
theorem dX4_fault_43 : decode cX4_fault 43 = .ok (.ireturn, 1) := by decide +kernel
theorem dX4_fault_44 : decode cX4_fault 44 = .ok (.ldc 49, 2) := by decide +kernel
theorem dX4_fault_46 : decode cX4_fault 46 = .ok (.ireturn, 1) := by decide +kernel
theorem dX4_keep_0 : decode cX4_keep 0 = .ok (.iload_n 1, 1) := by decide +kernel
theorem dX4_keep_1 : decode cX4_keep 1 = .ok (.iconst 0, 1) := by decide +kernel
theorem dX4_keep_2 : decode cX4_keep 2 = .ok (.iconst 1, 1) := by decide +kernel
theorem dX4_keep_3 : decode cX4_keep 3 = .ok (.invokestatic 45, 3) := by decide +kernel
theorem dX4_keep_6 : decode cX4_keep 6 = .ok (.ifCond .ne 6, 3) := by decide +kernel
theorem dX4_keep_9 : decode cX4_keep 9 = .ok (.ldc 49, 2) := by decide +kernel
theorem dX4_keep_11 : decode cX4_keep 11 = .ok (.ireturn, 1) := by decide +kernel
theorem dX4_keep_12 : decode cX4_keep 12 = .ok (.aload_n 0, 1) := by decide +kernel
theorem dX4_keep_13 : decode cX4_keep 13 = .ok (.getfield 24, 3) := by decide +kernel
theorem dX4_keep_16 : decode cX4_keep 16 = .ok (.iload_n 1, 1) := by decide +kernel
theorem dX4_keep_17 : decode cX4_keep 17 = .ok (.aaload, 1) := by decide +kernel
theorem dX4_keep_18 : decode cX4_keep 18 = .ok (.aload_n 0, 1) := by decide +kernel
theorem dX4_keep_19 : decode cX4_keep 19 = .ok (.getfield 10, 3) := by decide +kernel
theorem dX4_keep_22 : decode cX4_keep 22 = .ok (.invokevirtual 155, 3) := by decide +kernel
theorem dX4_keep_25 : decode cX4_keep 25 = .ok (.aload_n 0, 1) := by decide +kernel
theorem dX4_keep_26 : decode cX4_keep 26 = .ok (.getfield 27, 3) := by decide +kernel
theorem dX4_keep_29 : decode cX4_keep 29 = .ok (.iload_n 1, 1) := by decide +kernel
theorem dX4_keep_30 : decode cX4_keep 30 = .ok (.iconst 1, 1) := by decide +kernel
theorem dX4_keep_31 : decode cX4_keep 31 = .ok (.bastore, 1) := by decide +kernel
theorem dX4_keep_32 : decode cX4_keep 32 = .ok (.aload_n 0, 1) := by decide +kernel
theorem dX4_keep_33 : decode cX4_keep 33 = .ok (.getfield 10, 3) := by decide +kernel
theorem dX4_keep_36 : decode cX4_keep 36 = .ok (.getfield 50, 3) := by decide +kernel
theorem dX4_keep_39 : decode cX4_keep 39 = .ok (.getfield 54, 3) := by decide +kernel
theorem dX4_keep_42 : decode cX4_keep 42 = .ok (.ireturn, 1) := by decide +kernel
theorem dX4_back_0 : decode cX4_back 0 = .ok (.iload_n 1, 1) := by decide +kernel
theorem dX4_back_1 : decode cX4_back 1 = .ok (.iconst 0, 1) := by decide +kernel
theorem dX4_back_2 : decode cX4_back 2 = .ok (.iconst 1, 1) := by decide +kernel
theorem dX4_back_3 : decode cX4_back 3 = .ok (.invokestatic 45, 3) := by decide +kernel
theorem dX4_back_6 : decode cX4_back 6 = .ok (.ifCond .ne 6, 3) := by decide +kernel
theorem dX4_back_9 : decode cX4_back 9 = .ok (.ldc 49, 2) := by decide +kernel
theorem dX4_back_11 : decode cX4_back 11 = .ok (.ireturn, 1) := by decide +kernel
theorem dX4_back_12 : decode cX4_back 12 = .ok (.aload_n 0, 1) := by decide +kernel
theorem dX4_back_13 : decode cX4_back 13 = .ok (.getfield 27, 3) := by decide +kernel
theorem dX4_back_16 : decode cX4_back 16 = .ok (.iload_n 1, 1) := by decide +kernel
theorem dX4_back_17 : decode cX4_back 17 = .ok (.baload, 1) := by decide +kernel
theorem dX4_back_18 : decode cX4_back 18 = .ok (.ifCond .ne 6, 3) := by decide +kernel
theorem dX4_back_21 : decode cX4_back 21 = .ok (.ldc 97, 2) := by decide +kernel
theorem dX4_back_23 : decode cX4_back 23 = .ok (.ireturn, 1) := by decide +kernel
theorem dX4_back_24 : decode cX4_back 24 = .ok (.aload_n 0, 1) := by decide +kernel
theorem dX4_back_25 : decode cX4_back 25 = .ok (.invokevirtual 57, 3) := by decide +kernel
theorem dX4_back_28 : decode cX4_back 28 = .ok (.aload_n 0, 1) := by decide +kernel
theorem dX4_back_29 : decode cX4_back 29 = .ok (.getfield 10, 3) := by decide +kernel
theorem dX4_back_32 : decode cX4_back 32 = .ok (.aload_n 0, 1) := by decide +kernel
theorem dX4_back_33 : decode cX4_back 33 = .ok (.getfield 24, 3) := by decide +kernel
theorem dX4_back_36 : decode cX4_back 36 = .ok (.iload_n 1, 1) := by decide +kernel
theorem dX4_back_37 : decode cX4_back 37 = .ok (.aaload, 1) := by decide +kernel
theorem dX4_back_38 : decode cX4_back 38 = .ok (.invokevirtual 155, 3) := by decide +kernel
theorem dX4_back_41 : decode cX4_back 41 = .ok (.aload_n 0, 1) := by decide +kernel
theorem dX4_back_42 : decode cX4_back 42 = .ok (.getfield 10, 3) := by decide +kernel
theorem dX4_back_45 : decode cX4_back 45 = .ok (.getfield 50, 3) := by decide +kernel
theorem dX4_back_48 : decode cX4_back 48 = .ok (.getfield 54, 3) := by decide +kernel
theorem dX4_back_51 : decode cX4_back 51 = .ok (.ireturn, 1) := by decide +kernel
theorem dX4_isWithin_0 : decode cX4_isWithin 0 = .ok (.iload_n 0, 1) := by decide +kernel
theorem dX4_isWithin_1 : decode cX4_isWithin 1 = .ok (.iload_n 1, 1) := by decide +kernel
theorem dX4_isWithin_2 : decode cX4_isWithin 2 = .ok (.if_icmp .lt 12, 3) := by decide +kernel
theorem dX4_isWithin_5 : decode cX4_isWithin 5 = .ok (.iload_n 0, 1) := by decide +kernel
theorem dX4_isWithin_6 : decode cX4_isWithin 6 = .ok (.iload_n 2, 1) := by decide +kernel
theorem dX4_isWithin_7 : decode cX4_isWithin 7 = .ok (.if_icmp .gt 7, 3) := by decide +kernel
theorem dX4_isWithin_10 : decode cX4_isWithin 10 = .ok (.iconst 1, 1) := by decide +kernel
theorem dX4_isWithin_11 : decode cX4_isWithin 11 = .ok (.goto 4, 3) := by decide +kernel
theorem dX4_isWithin_14 : decode cX4_isWithin 14 = .ok (.iconst 0, 1) := by decide +kernel
theorem dX4_isWithin_15 : decode cX4_isWithin 15 = .ok (.ireturn, 1) := by decide +kernel
theorem dX4_isAngle_0 : decode cX4_isAngle 0 = .ok (.iload_n 0, 1) := by decide +kernel
theorem dX4_isAngle_1 : decode cX4_isAngle 1 = .ok (.iconst 0, 1) := by decide +kernel
theorem dX4_isAngle_2 : decode cX4_isAngle 2 = .ok (.bipush 7, 2) := by decide +kernel
theorem dX4_isAngle_4 : decode cX4_isAngle 4 = .ok (.invokestatic 45, 3) := by decide +kernel
theorem dX4_isAngle_7 : decode cX4_isAngle 7 = .ok (.ireturn, 1) := by decide +kernel
theorem dX4_isPush_0 : decode cX4_isPush 0 = .ok (.iload_n 0, 1) := by decide +kernel
theorem dX4_isPush_1 : decode cX4_isPush 1 = .ok (.ifCond .eq 17, 3) := by decide +kernel
theorem dX4_isPush_4 : decode cX4_isPush 4 = .ok (.iload_n 0, 1) := by decide +kernel
theorem dX4_isPush_5 : decode cX4_isPush 5 = .ok (.bipush (-4), 2) := by decide +kernel
theorem dX4_isPush_7 : decode cX4_isPush 7 = .ok (.iconst 4, 1) := by decide +kernel
theorem dX4_isPush_8 : decode cX4_isPush 8 = .ok (.invokestatic 45, 3) := by decide +kernel
theorem dX4_isPush_11 : decode cX4_isPush 11 = .ok (.ifCond .eq 7, 3) := by decide +kernel
theorem dX4_isPush_14 : decode cX4_isPush 14 = .ok (.iconst 1, 1) := by decide +kernel
theorem dX4_isPush_15 : decode cX4_isPush 15 = .ok (.goto 4, 3) := by decide +kernel
theorem dX4_isPush_18 : decode cX4_isPush 18 = .ok (.iconst 0, 1) := by decide +kernel
theorem dX4_isPush_19 : decode cX4_isPush 19 = .ok (.ireturn, 1) := by decide +kernel
theorem dX4_isSetting_0 : decode cX4_isSetting 0 = .ok (.iload_n 0, 1) := by decide +kernel
theorem dX4_isSetting_1 : decode cX4_isSetting 1 = .ok (.tableswitch 61 0 3 #[31, 39, 48, 56], 31) := by decide +kernel
theorem dX4_isSetting_32 : decode cX4_isSetting 32 = .ok (.iload_n 1, 1) := by decide +kernel
theorem dX4_isSetting_33 : decode cX4_isSetting 33 = .ok (.iconst 0, 1) := by decide +kernel
theorem dX4_isSetting_34 : decode cX4_isSetting 34 = .ok (.bipush 20, 2) := by decide +kernel
theorem dX4_isSetting_36 : decode cX4_isSetting 36 = .ok (.invokestatic 45, 3) := by decide +kernel
theorem dX4_isSetting_39 : decode cX4_isSetting 39 = .ok (.ireturn, 1) := by decide +kernel
theorem dX4_isSetting_40 : decode cX4_isSetting 40 = .ok (.iload_n 1, 1) := by decide +kernel
theorem dX4_isSetting_41 : decode cX4_isSetting 41 = .ok (.iconst 0, 1) := by decide +kernel
theorem dX4_isSetting_42 : decode cX4_isSetting 42 = .ok (.sipush 2000, 3) := by decide +kernel
theorem dX4_isSetting_45 : decode cX4_isSetting 45 = .ok (.invokestatic 45, 3) := by decide +kernel
theorem dX4_isSetting_48 : decode cX4_isSetting 48 = .ok (.ireturn, 1) := by decide +kernel
theorem dX4_isSetting_49 : decode cX4_isSetting 49 = .ok (.iload_n 1, 1) := by decide +kernel
theorem dX4_isSetting_50 : decode cX4_isSetting 50 = .ok (.iconst 0, 1) := by decide +kernel
theorem dX4_isSetting_51 : decode cX4_isSetting 51 = .ok (.bipush 100, 2) := by decide +kernel
theorem dX4_isSetting_53 : decode cX4_isSetting 53 = .ok (.invokestatic 45, 3) := by decide +kernel
theorem dX4_isSetting_56 : decode cX4_isSetting 56 = .ok (.ireturn, 1) := by decide +kernel
theorem dX4_isSetting_57 : decode cX4_isSetting 57 = .ok (.iload_n 1, 1) := by decide +kernel
theorem dX4_isSetting_58 : decode cX4_isSetting 58 = .ok (.invokestatic 77, 3) := by decide +kernel
theorem dX4_isSetting_61 : decode cX4_isSetting 61 = .ok (.ireturn, 1) := by decide +kernel
theorem dX4_isSetting_62 : decode cX4_isSetting 62 = .ok (.iconst 0, 1) := by decide +kernel
theorem dX4_isSetting_63 : decode cX4_isSetting 63 = .ok (.ireturn, 1) := by decide +kernel
theorem dX4_isLoop_0 : decode cX4_isLoop 0 = .ok (.iload_n 0, 1) := by decide +kernel
theorem dX4_isLoop_1 : decode cX4_isLoop 1 = .ok (.iconst 1, 1) := by decide +kernel
theorem dX4_isLoop_2 : decode cX4_isLoop 2 = .ok (.bipush 100, 2) := by decide +kernel
theorem dX4_isLoop_4 : decode cX4_isLoop 4 = .ok (.invokestatic 45, 3) := by decide +kernel
theorem dX4_isLoop_7 : decode cX4_isLoop 7 = .ok (.ifCond .eq 31, 3) := by decide +kernel
theorem dX4_isLoop_10 : decode cX4_isLoop 10 = .ok (.iload_n 1, 1) := by decide +kernel
theorem dX4_isLoop_11 : decode cX4_isLoop 11 = .ok (.iconst 1, 1) := by decide +kernel
theorem dX4_isLoop_12 : decode cX4_isLoop 12 = .ok (.bipush 100, 2) := by decide +kernel
theorem dX4_isLoop_14 : decode cX4_isLoop 14 = .ok (.invokestatic 45, 3) := by decide +kernel
theorem dX4_isLoop_17 : decode cX4_isLoop 17 = .ok (.ifCond .eq 21, 3) := by decide +kernel
theorem dX4_isLoop_20 : decode cX4_isLoop 20 = .ok (.iload_n 1, 1) := by decide +kernel
theorem dX4_isLoop_21 : decode cX4_isLoop 21 = .ok (.bipush 10, 2) := by decide +kernel
theorem dX4_isLoop_23 : decode cX4_isLoop 23 = .ok (.imul, 1) := by decide +kernel
theorem dX4_isLoop_24 : decode cX4_isLoop 24 = .ok (.iload_n 0, 1) := by decide +kernel
theorem dX4_isLoop_25 : decode cX4_isLoop 25 = .ok (.if_icmp .lt 13, 3) := by decide +kernel
theorem dX4_isLoop_28 : decode cX4_isLoop 28 = .ok (.iload_n 0, 1) := by decide +kernel
theorem dX4_isLoop_29 : decode cX4_isLoop 29 = .ok (.iload_n 1, 1) := by decide +kernel
theorem dX4_isLoop_30 : decode cX4_isLoop 30 = .ok (.irem, 1) := by decide +kernel
theorem dX4_isLoop_31 : decode cX4_isLoop 31 = .ok (.ifCond .ne 7, 3) := by decide +kernel
theorem dX4_isLoop_34 : decode cX4_isLoop 34 = .ok (.iconst 1, 1) := by decide +kernel
theorem dX4_isLoop_35 : decode cX4_isLoop 35 = .ok (.goto 4, 3) := by decide +kernel
theorem dX4_isLoop_38 : decode cX4_isLoop 38 = .ok (.iconst 0, 1) := by decide +kernel
theorem dX4_isLoop_39 : decode cX4_isLoop 39 = .ok (.ireturn, 1) := by decide +kernel
theorem dX4_isMagnet_0 : decode cX4_isMagnet 0 = .ok (.iload_n 1, 1) := by decide +kernel
theorem dX4_isMagnet_1 : decode cX4_isMagnet 1 = .ok (.iconst 0, 1) := by decide +kernel
theorem dX4_isMagnet_2 : decode cX4_isMagnet 2 = .ok (.aload_n 0, 1) := by decide +kernel
theorem dX4_isMagnet_3 : decode cX4_isMagnet 3 = .ok (.getfield 10, 3) := by decide +kernel
theorem dX4_isMagnet_6 : decode cX4_isMagnet 6 = .ok (.getfield 50, 3) := by decide +kernel
theorem dX4_isMagnet_9 : decode cX4_isMagnet 9 = .ok (.getfield 54, 3) := by decide +kernel
theorem dX4_isMagnet_12 : decode cX4_isMagnet 12 = .ok (.iconst 1, 1) := by decide +kernel
theorem dX4_isMagnet_13 : decode cX4_isMagnet 13 = .ok (.isub, 1) := by decide +kernel
theorem dX4_isMagnet_14 : decode cX4_isMagnet 14 = .ok (.invokestatic 45, 3) := by decide +kernel
theorem dX4_isMagnet_17 : decode cX4_isMagnet 17 = .ok (.ireturn, 1) := by decide +kernel
theorem dX4_startChange_0 : decode cX4_startChange 0 = .ok (.aload_n 0, 1) := by decide +kernel
theorem dX4_startChange_1 : decode cX4_startChange 1 = .ok (.invokevirtual 57, 3) := by decide +kernel
theorem dX4_startChange_4 : decode cX4_startChange 4 = .ok (.aload_n 0, 1) := by decide +kernel
theorem dX4_startChange_5 : decode cX4_startChange 5 = .ok (.getfield 10, 3) := by decide +kernel
theorem dX4_startChange_8 : decode cX4_startChange 8 = .ok (.getfield 50, 3) := by decide +kernel
theorem dX4_startChange_11 : decode cX4_startChange 11 = .ok (.invokevirtual 159, 3) := by decide +kernel
theorem dX4_startChange_14 : decode cX4_startChange 14 = .ok (.ireturn, 1) := by decide +kernel
theorem dX4_endChange_0 : decode cX4_endChange 0 = .ok (.aload_n 0, 1) := by decide +kernel
theorem dX4_endChange_1 : decode cX4_endChange 1 = .ok (.getfield 10, 3) := by decide +kernel
theorem dX4_endChange_4 : decode cX4_endChange 4 = .ok (.getfield 64, 3) := by decide +kernel
theorem dX4_endChange_7 : decode cX4_endChange 7 = .ok (.dup, 1) := by decide +kernel
theorem dX4_endChange_8 : decode cX4_endChange 8 = .ok (.getfield 162, 3) := by decide +kernel
theorem dX4_endChange_11 : decode cX4_endChange 11 = .ok (.aload_n 0, 1) := by decide +kernel
theorem dX4_endChange_12 : decode cX4_endChange 12 = .ok (.getfield 10, 3) := by decide +kernel
theorem dX4_endChange_15 : decode cX4_endChange 15 = .ok (.getfield 50, 3) := by decide +kernel
theorem dX4_endChange_18 : decode cX4_endChange 18 = .ok (.invokevirtual 159, 3) := by decide +kernel
theorem dX4_endChange_21 : decode cX4_endChange 21 = .ok (.iload_n 1, 1) := by decide +kernel
theorem dX4_endChange_22 : decode cX4_endChange 22 = .ok (.isub, 1) := by decide +kernel
theorem dX4_endChange_23 : decode cX4_endChange 23 = .ok (.iadd, 1) := by decide +kernel
theorem dX4_endChange_24 : decode cX4_endChange 24 = .ok (.putfield 162, 3) := by decide +kernel
theorem dX4_endChange_27 : decode cX4_endChange 27 = .ok (.aload_n 0, 1) := by decide +kernel
theorem dX4_endChange_28 : decode cX4_endChange 28 = .ok (.getfield 10, 3) := by decide +kernel
theorem dX4_endChange_31 : decode cX4_endChange 31 = .ok (.getfield 50, 3) := by decide +kernel
theorem dX4_endChange_34 : decode cX4_endChange 34 = .ok (.aload_n 0, 1) := by decide +kernel
theorem dX4_endChange_35 : decode cX4_endChange 35 = .ok (.getfield 10, 3) := by decide +kernel
theorem dX4_endChange_38 : decode cX4_endChange 38 = .ok (.getfield 64, 3) := by decide +kernel
theorem dX4_endChange_41 : decode cX4_endChange 41 = .ok (.invokevirtual 73, 3) := by decide +kernel
theorem dX4_endChange_44 : decode cX4_endChange 44 = .ok (.ireturn, 1) := by decide +kernel
theorem dX4_record_0 : decode cX4_record 0 = .ok (.aload_n 0, 1) := by decide +kernel
theorem dX4_record_1 : decode cX4_record 1 = .ok (.getfield 20, 3) := by decide +kernel
theorem dX4_record_4 : decode cX4_record 4 = .ok (.aload_n 0, 1) := by decide +kernel
theorem dX4_record_5 : decode cX4_record 5 = .ok (.getfield 16, 3) := by decide +kernel
theorem dX4_record_8 : decode cX4_record 8 = .ok (.arraylength, 1) := by decide +kernel
theorem dX4_record_9 : decode cX4_record 9 = .ok (.if_icmp .lt 7, 3) := by decide +kernel
theorem dX4_record_12 : decode cX4_record 12 = .ok (.aload_n 0, 1) := by decide +kernel
theorem dX4_record_13 : decode cX4_record 13 = .ok (.invokevirtual 235, 3) := by decide +kernel
theorem dX4_record_16 : decode cX4_record 16 = .ok (.aload_n 0, 1) := by decide +kernel
theorem dX4_record_17 : decode cX4_record 17 = .ok (.getfield 16, 3) := by decide +kernel
theorem dX4_record_20 : decode cX4_record 20 = .ok (.aload_n 0, 1) := by decide +kernel
theorem dX4_record_21 : decode cX4_record 21 = .ok (.getfield 20, 3) := by decide +kernel
theorem dX4_record_24 : decode cX4_record 24 = .ok (.aaload, 1) := by decide +kernel
theorem dX4_record_25 : decode cX4_record 25 = .ok (.aload_n 0, 1) := by decide +kernel
theorem dX4_record_26 : decode cX4_record 26 = .ok (.getfield 10, 3) := by decide +kernel
theorem dX4_record_29 : decode cX4_record 29 = .ok (.invokevirtual 155, 3) := by decide +kernel
theorem dX4_record_32 : decode cX4_record 32 = .ok (.aload_n 0, 1) := by decide +kernel
theorem dX4_record_33 : decode cX4_record 33 = .ok (.dup, 1) := by decide +kernel
theorem dX4_record_34 : decode cX4_record 34 = .ok (.getfield 20, 3) := by decide +kernel
theorem dX4_record_37 : decode cX4_record 37 = .ok (.iconst 1, 1) := by decide +kernel
theorem dX4_record_38 : decode cX4_record 38 = .ok (.iadd, 1) := by decide +kernel
theorem dX4_record_39 : decode cX4_record 39 = .ok (.putfield 20, 3) := by decide +kernel
theorem dX4_record_42 : decode cX4_record 42 = .ok (.return_, 1) := by decide +kernel
theorem dX4_dropOldest_0 : decode cX4_dropOldest 0 = .ok (.aload_n 0, 1) := by decide +kernel
theorem dX4_dropOldest_1 : decode cX4_dropOldest 1 = .ok (.getfield 16, 3) := by decide +kernel
theorem dX4_dropOldest_4 : decode cX4_dropOldest 4 = .ok (.iconst 0, 1) := by decide +kernel
theorem dX4_dropOldest_5 : decode cX4_dropOldest 5 = .ok (.aaload, 1) := by decide +kernel
theorem dX4_dropOldest_6 : decode cX4_dropOldest 6 = .ok (.astore_n 1, 1) := by decide +kernel
theorem dX4_dropOldest_7 : decode cX4_dropOldest 7 = .ok (.iconst 1, 1) := by decide +kernel
theorem dX4_dropOldest_8 : decode cX4_dropOldest 8 = .ok (.istore_n 2, 1) := by decide +kernel
theorem dX4_dropOldest_9 : decode cX4_dropOldest 9 = .ok (.iload_n 2, 1) := by decide +kernel
theorem dX4_dropOldest_10 : decode cX4_dropOldest 10 = .ok (.aload_n 0, 1) := by decide +kernel
theorem dX4_dropOldest_11 : decode cX4_dropOldest 11 = .ok (.getfield 16, 3) := by decide +kernel
theorem dX4_dropOldest_14 : decode cX4_dropOldest 14 = .ok (.arraylength, 1) := by decide +kernel
theorem dX4_dropOldest_15 : decode cX4_dropOldest 15 = .ok (.if_icmp .ge 23, 3) := by decide +kernel
theorem dX4_dropOldest_18 : decode cX4_dropOldest 18 = .ok (.aload_n 0, 1) := by decide +kernel
theorem dX4_dropOldest_19 : decode cX4_dropOldest 19 = .ok (.getfield 16, 3) := by decide +kernel
theorem dX4_dropOldest_22 : decode cX4_dropOldest 22 = .ok (.iload_n 2, 1) := by decide +kernel
theorem dX4_dropOldest_23 : decode cX4_dropOldest 23 = .ok (.iconst 1, 1) := by decide +kernel
theorem dX4_dropOldest_24 : decode cX4_dropOldest 24 = .ok (.isub, 1) := by decide +kernel
theorem dX4_dropOldest_25 : decode cX4_dropOldest 25 = .ok (.aload_n 0, 1) := by decide +kernel
theorem dX4_dropOldest_26 : decode cX4_dropOldest 26 = .ok (.getfield 16, 3) := by decide +kernel
theorem dX4_dropOldest_29 : decode cX4_dropOldest 29 = .ok (.iload_n 2, 1) := by decide +kernel
theorem dX4_dropOldest_30 : decode cX4_dropOldest 30 = .ok (.aaload, 1) := by decide +kernel
theorem dX4_dropOldest_31 : decode cX4_dropOldest 31 = .ok (.aastore, 1) := by decide +kernel
theorem dX4_dropOldest_32 : decode cX4_dropOldest 32 = .ok (.iinc 2 1, 3) := by decide +kernel
theorem dX4_dropOldest_35 : decode cX4_dropOldest 35 = .ok (.goto (-26), 3) := by decide +kernel
theorem dX4_dropOldest_38 : decode cX4_dropOldest 38 = .ok (.aload_n 0, 1) := by decide +kernel
theorem dX4_dropOldest_39 : decode cX4_dropOldest 39 = .ok (.aload_n 0, 1) := by decide +kernel
theorem dX4_dropOldest_40 : decode cX4_dropOldest 40 = .ok (.getfield 16, 3) := by decide +kernel
theorem dX4_dropOldest_43 : decode cX4_dropOldest 43 = .ok (.arraylength, 1) := by decide +kernel
theorem dX4_dropOldest_44 : decode cX4_dropOldest 44 = .ok (.iconst 1, 1) := by decide +kernel
theorem dX4_dropOldest_45 : decode cX4_dropOldest 45 = .ok (.isub, 1) := by decide +kernel
