theorem dX5_unsolved_2 : decode cX5_unsolved 2 = .ok (.iconst 0, 1) := by decide +kernel
theorem dX5_unsolved_3 : decode cX5_unsolved 3 = .ok (.istore_n 2, 1) := by decide +kernel
theorem dX5_unsolved_4 : decode cX5_unsolved 4 = .ok (.iload_n 2, 1) := by decide +kernel
theorem dX5_unsolved_5 : decode cX5_unsolved 5 = .ok (.aload_n 0, 1) := by decide +kernel
theorem dX5_unsolved_6 : decode cX5_unsolved 6 = .ok (.getfield 7, 3) := by decide +kernel
theorem dX5_unsolved_9 : decode cX5_unsolved 9 = .ok (.iconst 0, 1) := by decide +kernel
theorem dX5_unsolved_10 : decode cX5_unsolved 10 = .ok (.iaload, 1) := by decide +kernel
theorem dX5_unsolved_11 : decode cX5_unsolved 11 = .ok (.if_icmp .ge 48, 3) := by decide +kernel
theorem dX5_unsolved_14 : decode cX5_unsolved 14 = .ok (.iload_n 1, 1) := by decide +kernel
theorem dX5_unsolved_15 : decode cX5_unsolved 15 = .ok (.aload_n 0, 1) := by decide +kernel
theorem dX5_unsolved_16 : decode cX5_unsolved 16 = .ok (.getfield 7, 3) := by decide +kernel
theorem dX5_unsolved_19 : decode cX5_unsolved 19 = .ok (.bipush 21, 2) := by decide +kernel
theorem dX5_unsolved_21 : decode cX5_unsolved 21 = .ok (.iload_n 2, 1) := by decide +kernel
theorem dX5_unsolved_22 : decode cX5_unsolved 22 = .ok (.iadd, 1) := by decide +kernel
theorem dX5_unsolved_23 : decode cX5_unsolved 23 = .ok (.iaload, 1) := by decide +kernel
theorem dX5_unsolved_24 : decode cX5_unsolved 24 = .ok (.ldc 25, 2) := by decide +kernel
theorem dX5_unsolved_26 : decode cX5_unsolved 26 = .ok (.if_icmp .eq 24, 3) := by decide +kernel
theorem dX5_unsolved_29 : decode cX5_unsolved 29 = .ok (.aload_n 0, 1) := by decide +kernel
theorem dX5_unsolved_30 : decode cX5_unsolved 30 = .ok (.getfield 7, 3) := by decide +kernel
theorem dX5_unsolved_33 : decode cX5_unsolved 33 = .ok (.bipush 21, 2) := by decide +kernel
theorem dX5_unsolved_35 : decode cX5_unsolved 35 = .ok (.iload_n 2, 1) := by decide +kernel
theorem dX5_unsolved_36 : decode cX5_unsolved 36 = .ok (.iadd, 1) := by decide +kernel
theorem dX5_unsolved_37 : decode cX5_unsolved 37 = .ok (.iaload, 1) := by decide +kernel
theorem dX5_unsolved_38 : decode cX5_unsolved 38 = .ok (.aload_n 0, 1) := by decide +kernel
theorem dX5_unsolved_39 : decode cX5_unsolved 39 = .ok (.iload_n 2, 1) := by decide +kernel
theorem dX5_unsolved_40 : decode cX5_unsolved 40 = .ok (.invokevirtual 68, 3) := by decide +kernel
theorem dX5_unsolved_43 : decode cX5_unsolved 43 = .ok (.if_icmp .eq 7, 3) := by decide +kernel
theorem dX5_unsolved_46 : decode cX5_unsolved 46 = .ok (.iconst 1, 1) := by decide +kernel
theorem dX5_unsolved_47 : decode cX5_unsolved 47 = .ok (.goto 4, 3) := by decide +kernel
theorem dX5_unsolved_50 : decode cX5_unsolved 50 = .ok (.iconst 0, 1) := by decide +kernel
theorem dX5_unsolved_51 : decode cX5_unsolved 51 = .ok (.iadd, 1) := by decide +kernel
theorem dX5_unsolved_52 : decode cX5_unsolved 52 = .ok (.istore_n 1, 1) := by decide +kernel
theorem dX5_unsolved_53 : decode cX5_unsolved 53 = .ok (.iinc 2 1, 3) := by decide +kernel
theorem dX5_unsolved_56 : decode cX5_unsolved 56 = .ok (.goto (-52), 3) := by decide +kernel
theorem dX5_unsolved_59 : decode cX5_unsolved 59 = .ok (.iload_n 1, 1) := by decide +kernel
theorem dX5_unsolved_60 : decode cX5_unsolved 60 = .ok (.ireturn, 1) := by decide +kernel
theorem dX5_walls_0 : decode cX5_walls 0 = .ok (.iconst 0, 1) := by decide +kernel
theorem dX5_walls_1 : decode cX5_walls 1 = .ok (.istore_n 1, 1) := by decide +kernel
theorem dX5_walls_2 : decode cX5_walls 2 = .ok (.iconst 1, 1) := by decide +kernel
theorem dX5_walls_3 : decode cX5_walls 3 = .ok (.istore_n 2, 1) := by decide +kernel
theorem dX5_walls_4 : decode cX5_walls 4 = .ok (.iload_n 2, 1) := by decide +kernel
theorem dX5_walls_5 : decode cX5_walls 5 = .ok (.aload_n 0, 1) := by decide +kernel
theorem dX5_walls_6 : decode cX5_walls 6 = .ok (.getfield 7, 3) := by decide +kernel
theorem dX5_walls_9 : decode cX5_walls 9 = .ok (.iconst 0, 1) := by decide +kernel
theorem dX5_walls_10 : decode cX5_walls 10 = .ok (.iaload, 1) := by decide +kernel
theorem dX5_walls_11 : decode cX5_walls 11 = .ok (.if_icmp .ge 32, 3) := by decide +kernel
theorem dX5_walls_14 : decode cX5_walls 14 = .ok (.iload_n 1, 1) := by decide +kernel
theorem dX5_walls_15 : decode cX5_walls 15 = .ok (.aload_n 0, 1) := by decide +kernel
theorem dX5_walls_16 : decode cX5_walls 16 = .ok (.iload_n 2, 1) := by decide +kernel
theorem dX5_walls_17 : decode cX5_walls 17 = .ok (.invokevirtual 68, 3) := by decide +kernel
theorem dX5_walls_20 : decode cX5_walls 20 = .ok (.aload_n 0, 1) := by decide +kernel
theorem dX5_walls_21 : decode cX5_walls 21 = .ok (.iload_n 2, 1) := by decide +kernel
theorem dX5_walls_22 : decode cX5_walls 22 = .ok (.iconst 1, 1) := by decide +kernel
theorem dX5_walls_23 : decode cX5_walls 23 = .ok (.isub, 1) := by decide +kernel
theorem dX5_walls_24 : decode cX5_walls 24 = .ok (.invokevirtual 68, 3) := by decide +kernel
theorem dX5_walls_27 : decode cX5_walls 27 = .ok (.if_icmp .eq 7, 3) := by decide +kernel
theorem dX5_walls_30 : decode cX5_walls 30 = .ok (.iconst 1, 1) := by decide +kernel
theorem dX5_walls_31 : decode cX5_walls 31 = .ok (.goto 4, 3) := by decide +kernel
theorem dX5_walls_34 : decode cX5_walls 34 = .ok (.iconst 0, 1) := by decide +kernel
theorem dX5_walls_35 : decode cX5_walls 35 = .ok (.iadd, 1) := by decide +kernel
theorem dX5_walls_36 : decode cX5_walls 36 = .ok (.istore_n 1, 1) := by decide +kernel
theorem dX5_walls_37 : decode cX5_walls 37 = .ok (.iinc 2 1, 3) := by decide +kernel
theorem dX5_walls_40 : decode cX5_walls 40 = .ok (.goto (-36), 3) := by decide +kernel
theorem dX5_walls_43 : decode cX5_walls 43 = .ok (.iload_n 1, 1) := by decide +kernel
theorem dX5_walls_44 : decode cX5_walls 44 = .ok (.ireturn, 1) := by decide +kernel
theorem dX5_held_0 : decode cX5_held 0 = .ok (.iconst 0, 1) := by decide +kernel
theorem dX5_held_1 : decode cX5_held 1 = .ok (.istore_n 1, 1) := by decide +kernel
theorem dX5_held_2 : decode cX5_held 2 = .ok (.iconst 0, 1) := by decide +kernel
theorem dX5_held_3 : decode cX5_held 3 = .ok (.istore_n 2, 1) := by decide +kernel
theorem dX5_held_4 : decode cX5_held 4 = .ok (.iload_n 2, 1) := by decide +kernel
theorem dX5_held_5 : decode cX5_held 5 = .ok (.aload_n 0, 1) := by decide +kernel
theorem dX5_held_6 : decode cX5_held 6 = .ok (.getfield 7, 3) := by decide +kernel
theorem dX5_held_9 : decode cX5_held 9 = .ok (.iconst 0, 1) := by decide +kernel
theorem dX5_held_10 : decode cX5_held 10 = .ok (.iaload, 1) := by decide +kernel
theorem dX5_held_11 : decode cX5_held 11 = .ok (.if_icmp .ge 21, 3) := by decide +kernel
theorem dX5_held_14 : decode cX5_held 14 = .ok (.iload_n 1, 1) := by decide +kernel
theorem dX5_held_15 : decode cX5_held 15 = .ok (.aload_n 0, 1) := by decide +kernel
theorem dX5_held_16 : decode cX5_held 16 = .ok (.getfield 7, 3) := by decide +kernel
theorem dX5_held_19 : decode cX5_held 19 = .ok (.bipush 11, 2) := by decide +kernel
theorem dX5_held_21 : decode cX5_held 21 = .ok (.iload_n 2, 1) := by decide +kernel
theorem dX5_held_22 : decode cX5_held 22 = .ok (.iadd, 1) := by decide +kernel
theorem dX5_held_23 : decode cX5_held 23 = .ok (.iaload, 1) := by decide +kernel
theorem dX5_held_24 : decode cX5_held 24 = .ok (.iadd, 1) := by decide +kernel
theorem dX5_held_25 : decode cX5_held 25 = .ok (.istore_n 1, 1) := by decide +kernel
theorem dX5_held_26 : decode cX5_held 26 = .ok (.iinc 2 1, 3) := by decide +kernel
theorem dX5_held_29 : decode cX5_held 29 = .ok (.goto (-25), 3) := by decide +kernel
theorem dX5_held_32 : decode cX5_held 32 = .ok (.iload_n 1, 1) := by decide +kernel
theorem dX5_held_33 : decode cX5_held 33 = .ok (.ireturn, 1) := by decide +kernel
theorem dX5_told_0 : decode cX5_told 0 = .ok (.iload_n 1, 1) := by decide +kernel
theorem dX5_told_1 : decode cX5_told 1 = .ok (.tableswitch 188 0 15 #[79, 86, 91, 99, 107, 115, 123, 131, 139, 147, 155, 163, 168, 173, 178, 183], 79) := by decide +kernel
theorem dX5_told_80 : decode cX5_told 80 = .ok (.aload_n 0, 1) := by decide +kernel
theorem dX5_told_81 : decode cX5_told 81 = .ok (.getfield 7, 3) := by decide +kernel
theorem dX5_told_84 : decode cX5_told 84 = .ok (.iconst 0, 1) := by decide +kernel
theorem dX5_told_85 : decode cX5_told 85 = .ok (.iaload, 1) := by decide +kernel
theorem dX5_told_86 : decode cX5_told 86 = .ok (.ireturn, 1) := by decide +kernel
theorem dX5_told_87 : decode cX5_told 87 = .ok (.aload_n 0, 1) := by decide +kernel
theorem dX5_told_88 : decode cX5_told 88 = .ok (.invokevirtual 95, 3) := by decide +kernel
theorem dX5_told_91 : decode cX5_told 91 = .ok (.ireturn, 1) := by decide +kernel
theorem dX5_told_92 : decode cX5_told 92 = .ok (.aload_n 0, 1) := by decide +kernel
theorem dX5_told_93 : decode cX5_told 93 = .ok (.getfield 7, 3) := by decide +kernel
theorem dX5_told_96 : decode cX5_told 96 = .ok (.bipush 35, 2) := by decide +kernel
theorem dX5_told_98 : decode cX5_told 98 = .ok (.iaload, 1) := by decide +kernel
theorem dX5_told_99 : decode cX5_told 99 = .ok (.ireturn, 1) := by decide +kernel
theorem dX5_told_100 : decode cX5_told 100 = .ok (.aload_n 0, 1) := by decide +kernel
theorem dX5_told_101 : decode cX5_told 101 = .ok (.getfield 7, 3) := by decide +kernel
theorem dX5_told_104 : decode cX5_told 104 = .ok (.bipush 36, 2) := by decide +kernel
theorem dX5_told_106 : decode cX5_told 106 = .ok (.iaload, 1) := by decide +kernel
theorem dX5_told_107 : decode cX5_told 107 = .ok (.ireturn, 1) := by decide +kernel
theorem dX5_told_108 : decode cX5_told 108 = .ok (.aload_n 0, 1) := by decide +kernel
theorem dX5_told_109 : decode cX5_told 109 = .ok (.getfield 7, 3) := by decide +kernel
theorem dX5_told_112 : decode cX5_told 112 = .ok (.bipush 31, 2) := by decide +kernel
theorem dX5_told_114 : decode cX5_told 114 = .ok (.iaload, 1) := by decide +kernel
theorem dX5_told_115 : decode cX5_told 115 = .ok (.ireturn, 1) := by decide +kernel
theorem dX5_told_116 : decode cX5_told 116 = .ok (.aload_n 0, 1) := by decide +kernel
theorem dX5_told_117 : decode cX5_told 117 = .ok (.getfield 7, 3) := by decide +kernel
theorem dX5_told_120 : decode cX5_told 120 = .ok (.bipush 32, 2) := by decide +kernel
theorem dX5_told_122 : decode cX5_told 122 = .ok (.iaload, 1) := by decide +kernel
theorem dX5_told_123 : decode cX5_told 123 = .ok (.ireturn, 1) := by decide +kernel
theorem dX5_told_124 : decode cX5_told 124 = .ok (.aload_n 0, 1) := by decide +kernel
theorem dX5_told_125 : decode cX5_told 125 = .ok (.getfield 7, 3) := by decide +kernel
theorem dX5_told_128 : decode cX5_told 128 = .ok (.bipush 33, 2) := by decide +kernel
theorem dX5_told_130 : decode cX5_told 130 = .ok (.iaload, 1) := by decide +kernel
theorem dX5_told_131 : decode cX5_told 131 = .ok (.ireturn, 1) := by decide +kernel
theorem dX5_told_132 : decode cX5_told 132 = .ok (.aload_n 0, 1) := by decide +kernel
theorem dX5_told_133 : decode cX5_told 133 = .ok (.getfield 7, 3) := by decide +kernel
theorem dX5_told_136 : decode cX5_told 136 = .ok (.bipush 34, 2) := by decide +kernel
theorem dX5_told_138 : decode cX5_told 138 = .ok (.iaload, 1) := by decide +kernel
theorem dX5_told_139 : decode cX5_told 139 = .ok (.ireturn, 1) := by decide +kernel
theorem dX5_told_140 : decode cX5_told 140 = .ok (.aload_n 0, 1) := by decide +kernel
theorem dX5_told_141 : decode cX5_told 141 = .ok (.getfield 7, 3) := by decide +kernel
theorem dX5_told_144 : decode cX5_told 144 = .ok (.bipush 37, 2) := by decide +kernel
theorem dX5_told_146 : decode cX5_told 146 = .ok (.iaload, 1) := by decide +kernel
theorem dX5_told_147 : decode cX5_told 147 = .ok (.ireturn, 1) := by decide +kernel
theorem dX5_told_148 : decode cX5_told 148 = .ok (.aload_n 0, 1) := by decide +kernel
theorem dX5_told_149 : decode cX5_told 149 = .ok (.getfield 7, 3) := by decide +kernel
theorem dX5_told_152 : decode cX5_told 152 = .ok (.bipush 38, 2) := by decide +kernel
theorem dX5_told_154 : decode cX5_told 154 = .ok (.iaload, 1) := by decide +kernel
theorem dX5_told_155 : decode cX5_told 155 = .ok (.ireturn, 1) := by decide +kernel
theorem dX5_told_156 : decode cX5_told 156 = .ok (.aload_n 0, 1) := by decide +kernel
theorem dX5_told_157 : decode cX5_told 157 = .ok (.getfield 7, 3) := by decide +kernel
theorem dX5_told_160 : decode cX5_told 160 = .ok (.bipush 39, 2) := by decide +kernel
theorem dX5_told_162 : decode cX5_told 162 = .ok (.iaload, 1) := by decide +kernel
theorem dX5_told_163 : decode cX5_told 163 = .ok (.ireturn, 1) := by decide +kernel
theorem dX5_told_164 : decode cX5_told 164 = .ok (.aload_n 0, 1) := by decide +kernel
theorem dX5_told_165 : decode cX5_told 165 = .ok (.invokevirtual 123, 3) := by decide +kernel
theorem dX5_told_168 : decode cX5_told 168 = .ok (.ireturn, 1) := by decide +kernel
theorem dX5_told_169 : decode cX5_told 169 = .ok (.aload_n 0, 1) := by decide +kernel
theorem dX5_told_170 : decode cX5_told 170 = .ok (.invokevirtual 126, 3) := by decide +kernel
theorem dX5_told_173 : decode cX5_told 173 = .ok (.ireturn, 1) := by decide +kernel
theorem dX5_told_174 : decode cX5_told 174 = .ok (.aload_n 0, 1) := by decide +kernel
theorem dX5_told_175 : decode cX5_told 175 = .ok (.invokevirtual 129, 3) := by decide +kernel
theorem dX5_told_178 : decode cX5_told 178 = .ok (.ireturn, 1) := by decide +kernel
theorem dX5_told_179 : decode cX5_told 179 = .ok (.aload_n 0, 1) := by decide +kernel
theorem dX5_told_180 : decode cX5_told 180 = .ok (.getfield 132, 3) := by decide +kernel
theorem dX5_told_183 : decode cX5_told 183 = .ok (.ireturn, 1) := by decide +kernel
theorem dX5_told_184 : decode cX5_told 184 = .ok (.aload_n 0, 1) := by decide +kernel
theorem dX5_told_185 : decode cX5_told 185 = .ok (.getfield 56, 3) := by decide +kernel
theorem dX5_told_188 : decode cX5_told 188 = .ok (.ireturn, 1) := by decide +kernel
theorem dX5_told_189 : decode cX5_told 189 = .ok (.ldc 102, 2) := by decide +kernel
theorem dX5_told_191 : decode cX5_told 191 = .ok (.ireturn, 1) := by decide +kernel
theorem dX5_magnet_0 : decode cX5_magnet 0 = .ok (.aload_n 0, 1) := by decide +kernel
theorem dX5_magnet_1 : decode cX5_magnet 1 = .ok (.iload_n 1, 1) := by decide +kernel
theorem dX5_magnet_2 : decode cX5_magnet 2 = .ok (.invokevirtual 64, 3) := by decide +kernel
theorem dX5_magnet_5 : decode cX5_magnet 5 = .ok (.ifCond .eq 12, 3) := by decide +kernel
theorem dX5_magnet_8 : decode cX5_magnet 8 = .ok (.iload_n 2, 1) := by decide +kernel
theorem dX5_magnet_9 : decode cX5_magnet 9 = .ok (.iconst 0, 1) := by decide +kernel
theorem dX5_magnet_10 : decode cX5_magnet 10 = .ok (.iconst 5, 1) := by decide +kernel
theorem dX5_magnet_11 : decode cX5_magnet 11 = .ok (.invokestatic 52, 3) := by decide +kernel
theorem dX5_magnet_14 : decode cX5_magnet 14 = .ok (.ifCond .ne 6, 3) := by decide +kernel
theorem dX5_magnet_17 : decode cX5_magnet 17 = .ok (.ldc 102, 2) := by decide +kernel
theorem dX5_magnet_19 : decode cX5_magnet 19 = .ok (.ireturn, 1) := by decide +kernel
theorem dX5_magnet_20 : decode cX5_magnet 20 = .ok (.iload_n 2, 1) := by decide +kernel
theorem dX5_magnet_21 : decode cX5_magnet 21 = .ok (.tableswitch 75 0 4 #[35, 41, 51, 61, 68], 35) := by decide +kernel
theorem dX5_magnet_56 : decode cX5_magnet 56 = .ok (.aload_n 0, 1) := by decide +kernel
theorem dX5_magnet_57 : decode cX5_magnet 57 = .ok (.iload_n 1, 1) := by decide +kernel
theorem dX5_magnet_58 : decode cX5_magnet 58 = .ok (.invokevirtual 68, 3) := by decide +kernel
theorem dX5_magnet_61 : decode cX5_magnet 61 = .ok (.ireturn, 1) := by decide +kernel
theorem dX5_magnet_62 : decode cX5_magnet 62 = .ok (.aload_n 0, 1) := by decide +kernel
theorem dX5_magnet_63 : decode cX5_magnet 63 = .ok (.getfield 7, 3) := by decide +kernel
theorem dX5_magnet_66 : decode cX5_magnet 66 = .ok (.bipush 11, 2) := by decide +kernel
theorem dX5_magnet_68 : decode cX5_magnet 68 = .ok (.iload_n 1, 1) := by decide +kernel
theorem dX5_magnet_69 : decode cX5_magnet 69 = .ok (.iadd, 1) := by decide +kernel
theorem dX5_magnet_70 : decode cX5_magnet 70 = .ok (.iaload, 1) := by decide +kernel
theorem dX5_magnet_71 : decode cX5_magnet 71 = .ok (.ireturn, 1) := by decide +kernel
theorem dX5_magnet_72 : decode cX5_magnet 72 = .ok (.aload_n 0, 1) := by decide +kernel
theorem dX5_magnet_73 : decode cX5_magnet 73 = .ok (.getfield 7, 3) := by decide +kernel
theorem dX5_magnet_76 : decode cX5_magnet 76 = .ok (.bipush 21, 2) := by decide +kernel
theorem dX5_magnet_78 : decode cX5_magnet 78 = .ok (.iload_n 1, 1) := by decide +kernel
theorem dX5_magnet_79 : decode cX5_magnet 79 = .ok (.iadd, 1) := by decide +kernel
theorem dX5_magnet_80 : decode cX5_magnet 80 = .ok (.iaload, 1) := by decide +kernel
theorem dX5_magnet_81 : decode cX5_magnet 81 = .ok (.ireturn, 1) := by decide +kernel
theorem dX5_magnet_82 : decode cX5_magnet 82 = .ok (.aload_n 0, 1) := by decide +kernel
theorem dX5_magnet_83 : decode cX5_magnet 83 = .ok (.iload_n 1, 1) := by decide +kernel
theorem dX5_magnet_84 : decode cX5_magnet 84 = .ok (.iconst 1, 1) := by decide +kernel
theorem dX5_magnet_85 : decode cX5_magnet 85 = .ok (.invokevirtual 88, 3) := by decide +kernel
theorem dX5_magnet_88 : decode cX5_magnet 88 = .ok (.ireturn, 1) := by decide +kernel
theorem dX5_magnet_89 : decode cX5_magnet 89 = .ok (.aload_n 0, 1) := by decide +kernel
theorem dX5_magnet_90 : decode cX5_magnet 90 = .ok (.iload_n 1, 1) := by decide +kernel
theorem dX5_magnet_91 : decode cX5_magnet 91 = .ok (.iconst (-1), 1) := by decide +kernel
theorem dX5_magnet_92 : decode cX5_magnet 92 = .ok (.invokevirtual 88, 3) := by decide +kernel
theorem dX5_magnet_95 : decode cX5_magnet 95 = .ok (.ireturn, 1) := by decide +kernel
theorem dX5_magnet_96 : decode cX5_magnet 96 = .ok (.aload_n 0, 1) := by decide +kernel
theorem dX5_magnet_97 : decode cX5_magnet 97 = .ok (.iload_n 1, 1) := by decide +kernel
theorem dX5_magnet_98 : decode cX5_magnet 98 = .ok (.aload_n 0, 1) := by decide +kernel
theorem dX5_magnet_99 : decode cX5_magnet 99 = .ok (.iload_n 1, 1) := by decide +kernel
theorem dX5_magnet_100 : decode cX5_magnet 100 = .ok (.invokevirtual 68, 3) := by decide +kernel
theorem dX5_magnet_103 : decode cX5_magnet 103 = .ok (.invokevirtual 82, 3) := by decide +kernel
theorem dX5_magnet_106 : decode cX5_magnet 106 = .ok (.ireturn, 1) := by decide +kernel
theorem dX5_log_0 : decode cX5_log 0 = .ok (.iload_n 1, 1) := by decide +kernel
theorem dX5_log_1 : decode cX5_log 1 = .ok (.ifCond .lt 12, 3) := by decide +kernel
theorem dX5_log_4 : decode cX5_log 4 = .ok (.iload_n 2, 1) := by decide +kernel
theorem dX5_log_5 : decode cX5_log 5 = .ok (.iconst 0, 1) := by decide +kernel
theorem dX5_log_6 : decode cX5_log 6 = .ok (.iconst 2, 1) := by decide +kernel
theorem dX5_log_7 : decode cX5_log 7 = .ok (.invokestatic 52, 3) := by decide +kernel
theorem dX5_log_10 : decode cX5_log 10 = .ok (.ifCond .ne 6, 3) := by decide +kernel
theorem dX5_log_13 : decode cX5_log 13 = .ok (.ldc 102, 2) := by decide +kernel
theorem dX5_log_15 : decode cX5_log 15 = .ok (.ireturn, 1) := by decide +kernel
theorem dX5_log_16 : decode cX5_log 16 = .ok (.iload_n 1, 1) := by decide +kernel
theorem dX5_log_17 : decode cX5_log 17 = .ok (.aload_n 0, 1) := by decide +kernel
theorem dX5_log_18 : decode cX5_log 18 = .ok (.getfield 7, 3) := by decide +kernel
theorem dX5_log_21 : decode cX5_log 21 = .ok (.bipush 39, 2) := by decide +kernel
theorem dX5_log_23 : decode cX5_log 23 = .ok (.iaload, 1) := by decide +kernel
theorem dX5_log_24 : decode cX5_log 24 = .ok (.if_icmp .ge 29, 3) := by decide +kernel
theorem dX5_log_27 : decode cX5_log 27 = .ok (.aload_n 0, 1) := by decide +kernel
theorem dX5_log_28 : decode cX5_log 28 = .ok (.getfield 7, 3) := by decide +kernel
theorem dX5_log_31 : decode cX5_log 31 = .ok (.bipush 40, 2) := by decide +kernel
theorem dX5_log_33 : decode cX5_log 33 = .ok (.iconst 3, 1) := by decide +kernel
theorem dX5_log_34 : decode cX5_log 34 = .ok (.aload_n 0, 1) := by decide +kernel
theorem dX5_log_35 : decode cX5_log 35 = .ok (.getfield 7, 3) := by decide +kernel
theorem dX5_log_38 : decode cX5_log 38 = .ok (.bipush 39, 2) := by decide +kernel
theorem dX5_log_40 : decode cX5_log 40 = .ok (.iaload, 1) := by decide +kernel
theorem dX5_log_41 : decode cX5_log 41 = .ok (.iconst 1, 1) := by decide +kernel
theorem dX5_log_42 : decode cX5_log 42 = .ok (.isub, 1) := by decide +kernel
theorem dX5_log_43 : decode cX5_log 43 = .ok (.iload_n 1, 1) := by decide +kernel
theorem dX5_log_44 : decode cX5_log 44 = .ok (.isub, 1) := by decide +kernel
theorem dX5_log_45 : decode cX5_log 45 = .ok (.imul, 1) := by decide +kernel
theorem dX5_log_46 : decode cX5_log 46 = .ok (.iadd, 1) := by decide +kernel
theorem dX5_log_47 : decode cX5_log 47 = .ok (.iload_n 2, 1) := by decide +kernel
theorem dX5_log_48 : decode cX5_log 48 = .ok (.iadd, 1) := by decide +kernel
theorem dX5_log_49 : decode cX5_log 49 = .ok (.iaload, 1) := by decide +kernel
theorem dX5_log_50 : decode cX5_log 50 = .ok (.goto 5, 3) := by decide +kernel
theorem dX5_log_53 : decode cX5_log 53 = .ok (.ldc 25, 2) := by decide +kernel
theorem dX5_log_55 : decode cX5_log 55 = .ok (.ireturn, 1) := by decide +kernel
theorem dX5_pointsTo_0 : decode cX5_pointsTo 0 = .ok (.iconst 0, 1) := by decide +kernel
theorem dX5_pointsTo_1 : decode cX5_pointsTo 1 = .ok (.istore_n 2, 1) := by decide +kernel
theorem dX5_pointsTo_2 : decode cX5_pointsTo 2 = .ok (.iconst 0, 1) := by decide +kernel
theorem dX5_pointsTo_3 : decode cX5_pointsTo 3 = .ok (.istore_n 3, 1) := by decide +kernel
theorem dX5_pointsTo_4 : decode cX5_pointsTo 4 = .ok (.iload_n 3, 1) := by decide +kernel
theorem dX5_pointsTo_5 : decode cX5_pointsTo 5 = .ok (.aload_n 0, 1) := by decide +kernel
theorem dX5_pointsTo_6 : decode cX5_pointsTo 6 = .ok (.getfield 7, 3) := by decide +kernel
theorem dX5_pointsTo_9 : decode cX5_pointsTo 9 = .ok (.iconst 0, 1) := by decide +kernel
theorem dX5_pointsTo_10 : decode cX5_pointsTo 10 = .ok (.iaload, 1) := by decide +kernel
theorem dX5_pointsTo_11 : decode cX5_pointsTo 11 = .ok (.if_icmp .ge 22, 3) := by decide +kernel
theorem dX5_pointsTo_14 : decode cX5_pointsTo 14 = .ok (.iload_n 2, 1) := by decide +kernel
theorem dX5_pointsTo_15 : decode cX5_pointsTo 15 = .ok (.aload_n 0, 1) := by decide +kernel
theorem dX5_pointsTo_16 : decode cX5_pointsTo 16 = .ok (.iload_n 3, 1) := by decide +kernel
theorem dX5_pointsTo_17 : decode cX5_pointsTo 17 = .ok (.invokevirtual 68, 3) := by decide +kernel
theorem dX5_pointsTo_20 : decode cX5_pointsTo 20 = .ok (.iload_n 1, 1) := by decide +kernel
theorem dX5_pointsTo_21 : decode cX5_pointsTo 21 = .ok (.isub, 1) := by decide +kernel
theorem dX5_pointsTo_22 : decode cX5_pointsTo 22 = .ok (.invokestatic 60, 3) := by decide +kernel
theorem dX5_pointsTo_25 : decode cX5_pointsTo 25 = .ok (.iadd, 1) := by decide +kernel
theorem dX5_pointsTo_26 : decode cX5_pointsTo 26 = .ok (.istore_n 2, 1) := by decide +kernel
theorem dX5_pointsTo_27 : decode cX5_pointsTo 27 = .ok (.iinc 3 1, 3) := by decide +kernel
theorem dX5_pointsTo_30 : decode cX5_pointsTo 30 = .ok (.goto (-26), 3) := by decide +kernel
theorem dX5_pointsTo_33 : decode cX5_pointsTo 33 = .ok (.iload_n 2, 1) := by decide +kernel
theorem dX5_pointsTo_34 : decode cX5_pointsTo 34 = .ok (.ireturn, 1) := by decide +kernel
theorem dX5_points_0 : decode cX5_points 0 = .ok (.iload_n 1, 1) := by decide +kernel
theorem dX5_points_1 : decode cX5_points 1 = .ok (.iconst 0, 1) := by decide +kernel
theorem dX5_points_2 : decode cX5_points 2 = .ok (.bipush 7, 2) := by decide +kernel
theorem dX5_points_4 : decode cX5_points 4 = .ok (.invokestatic 52, 3) := by decide +kernel
theorem dX5_points_7 : decode cX5_points 7 = .ok (.ifCond .eq 11, 3) := by decide +kernel
theorem dX5_points_10 : decode cX5_points 10 = .ok (.aload_n 0, 1) := by decide +kernel
theorem dX5_points_11 : decode cX5_points 11 = .ok (.iload_n 1, 1) := by decide +kernel
theorem dX5_points_12 : decode cX5_points 12 = .ok (.invokevirtual 135, 3) := by decide +kernel
theorem dX5_points_15 : decode cX5_points 15 = .ok (.goto 5, 3) := by decide +kernel
theorem dX5_points_18 : decode cX5_points 18 = .ok (.ldc 102, 2) := by decide +kernel
theorem dX5_points_20 : decode cX5_points 20 = .ok (.ireturn, 1) := by decide +kernel
theorem dX5_mean_0 : decode cX5_mean 0 = .ok (.aload_n 0, 1) := by decide +kernel
theorem dX5_mean_1 : decode cX5_mean 1 = .ok (.invokevirtual 95, 3) := by decide +kernel
theorem dX5_mean_4 : decode cX5_mean 4 = .ok (.i2f, 1) := by decide +kernel
theorem dX5_mean_5 : decode cX5_mean 5 = .ok (.aload_n 0, 1) := by decide +kernel
theorem dX5_mean_6 : decode cX5_mean 6 = .ok (.getfield 7, 3) := by decide +kernel
theorem dX5_mean_9 : decode cX5_mean 9 = .ok (.iconst 0, 1) := by decide +kernel
theorem dX5_mean_10 : decode cX5_mean 10 = .ok (.iaload, 1) := by decide +kernel
theorem dX5_mean_11 : decode cX5_mean 11 = .ok (.i2f, 1) := by decide +kernel
theorem dX5_mean_12 : decode cX5_mean 12 = .ok (.fdiv, 1) := by decide +kernel
theorem dX5_mean_13 : decode cX5_mean 13 = .ok (.freturn, 1) := by decide +kernel
theorem dX5_putAside_0 : decode cX5_putAside 0 = .ok (.iconst 0, 1) := by decide +kernel
theorem dX5_putAside_1 : decode cX5_putAside 1 = .ok (.istore_n 1, 1) := by decide +kernel
theorem dX5_putAside_2 : decode cX5_putAside 2 = .ok (.iload_n 1, 1) := by decide +kernel
theorem dX5_putAside_3 : decode cX5_putAside 3 = .ok (.sipush 130, 3) := by decide +kernel
theorem dX5_putAside_6 : decode cX5_putAside 6 = .ok (.if_icmp .ge 21, 3) := by decide +kernel
theorem dX5_putAside_9 : decode cX5_putAside 9 = .ok (.aload_n 0, 1) := by decide +kernel
theorem dX5_putAside_10 : decode cX5_putAside 10 = .ok (.getfield 33, 3) := by decide +kernel
theorem dX5_putAside_13 : decode cX5_putAside 13 = .ok (.iload_n 1, 1) := by decide +kernel
theorem dX5_putAside_14 : decode cX5_putAside 14 = .ok (.aload_n 0, 1) := by decide +kernel
theorem dX5_putAside_15 : decode cX5_putAside 15 = .ok (.getfield 7, 3) := by decide +kernel
theorem dX5_putAside_18 : decode cX5_putAside 18 = .ok (.iload_n 1, 1) := by decide +kernel
theorem dX5_putAside_19 : decode cX5_putAside 19 = .ok (.iaload, 1) := by decide +kernel
theorem dX5_putAside_20 : decode cX5_putAside 20 = .ok (.iastore, 1) := by decide +kernel
theorem dX5_putAside_21 : decode cX5_putAside 21 = .ok (.iinc 1 1, 3) := by decide +kernel
theorem dX5_putAside_24 : decode cX5_putAside 24 = .ok (.goto (-22), 3) := by decide +kernel
theorem dX5_putAside_27 : decode cX5_putAside 27 = .ok (.return_, 1) := by decide +kernel
theorem dX5_putBack_0 : decode cX5_putBack 0 = .ok (.iconst 0, 1) := by decide +kernel
theorem dX5_putBack_1 : decode cX5_putBack 1 = .ok (.istore_n 1, 1) := by decide +kernel
theorem dX5_putBack_2 : decode cX5_putBack 2 = .ok (.iload_n 1, 1) := by decide +kernel
theorem dX5_putBack_3 : decode cX5_putBack 3 = .ok (.sipush 130, 3) := by decide +kernel
theorem dX5_putBack_6 : decode cX5_putBack 6 = .ok (.if_icmp .ge 21, 3) := by decide +kernel
theorem dX5_putBack_9 : decode cX5_putBack 9 = .ok (.aload_n 0, 1) := by decide +kernel
theorem dX5_putBack_10 : decode cX5_putBack 10 = .ok (.getfield 7, 3) := by decide +kernel
theorem dX5_putBack_13 : decode cX5_putBack 13 = .ok (.iload_n 1, 1) := by decide +kernel
theorem dX5_putBack_14 : decode cX5_putBack 14 = .ok (.aload_n 0, 1) := by decide +kernel
theorem dX5_putBack_15 : decode cX5_putBack 15 = .ok (.getfield 33, 3) := by decide +kernel
theorem dX5_putBack_18 : decode cX5_putBack 18 = .ok (.iload_n 1, 1) := by decide +kernel
theorem dX5_putBack_19 : decode cX5_putBack 19 = .ok (.iaload, 1) := by decide +kernel
theorem dX5_putBack_20 : decode cX5_putBack 20 = .ok (.iastore, 1) := by decide +kernel
theorem dX5_putBack_21 : decode cX5_putBack 21 = .ok (.iinc 1 1, 3) := by decide +kernel
theorem dX5_putBack_24 : decode cX5_putBack 24 = .ok (.goto (-22), 3) := by decide +kernel
theorem dX5_putBack_27 : decode cX5_putBack 27 = .ok (.return_, 1) := by decide +kernel
theorem dX5_moved_0 : decode cX5_moved 0 = .ok (.aload_n 0, 1) := by decide +kernel
theorem dX5_moved_1 : decode cX5_moved 1 = .ok (.iload_n 1, 1) := by decide +kernel
theorem dX5_moved_2 : decode cX5_moved 2 = .ok (.iload_n 2, 1) := by decide +kernel
theorem dX5_moved_3 : decode cX5_moved 3 = .ok (.invokevirtual 119, 3) := by decide +kernel
theorem dX5_moved_6 : decode cX5_moved 6 = .ok (.ifCond .ne 6, 3) := by decide +kernel
theorem dX5_moved_9 : decode cX5_moved 9 = .ok (.ldc 102, 2) := by decide +kernel
theorem dX5_moved_11 : decode cX5_moved 11 = .ok (.ireturn, 1) := by decide +kernel
theorem dX5_moved_12 : decode cX5_moved 12 = .ok (.aload_n 0, 1) := by decide +kernel
theorem dX5_moved_13 : decode cX5_moved 13 = .ok (.getfield 7, 3) := by decide +kernel
theorem dX5_moved_16 : decode cX5_moved 16 = .ok (.bipush 11, 2) := by decide +kernel
theorem dX5_moved_18 : decode cX5_moved 18 = .ok (.iload_n 1, 1) := by decide +kernel
theorem dX5_moved_19 : decode cX5_moved 19 = .ok (.iadd, 1) := by decide +kernel
theorem dX5_moved_20 : decode cX5_moved 20 = .ok (.iaload, 1) := by decide +kernel
theorem dX5_moved_21 : decode cX5_moved 21 = .ok (.iconst 1, 1) := by decide +kernel
theorem dX5_moved_22 : decode cX5_moved 22 = .ok (.if_icmp .ne 6, 3) := by decide +kernel
theorem dX5_moved_25 : decode cX5_moved 25 = .ok (.ldc 59, 2) := by decide +kernel
theorem dX5_moved_27 : decode cX5_moved 27 = .ok (.ireturn, 1) := by decide +kernel
theorem dX5_moved_28 : decode cX5_moved 28 = .ok (.aload_n 0, 1) := by decide +kernel
theorem dX5_moved_29 : decode cX5_moved 29 = .ok (.invokevirtual 138, 3) := by decide +kernel
theorem dX5_moved_32 : decode cX5_moved 32 = .ok (.aload_n 0, 1) := by decide +kernel
theorem dX5_moved_33 : decode cX5_moved 33 = .ok (.getfield 7, 3) := by decide +kernel
theorem dX5_moved_36 : decode cX5_moved 36 = .ok (.iconst 1, 1) := by decide +kernel
theorem dX5_moved_37 : decode cX5_moved 37 = .ok (.iload_n 1, 1) := by decide +kernel
theorem dX5_moved_38 : decode cX5_moved 38 = .ok (.iadd, 1) := by decide +kernel
theorem dX5_moved_39 : decode cX5_moved 39 = .ok (.aload_n 0, 1) := by decide +kernel
theorem dX5_moved_40 : decode cX5_moved 40 = .ok (.iload_n 1, 1) := by decide +kernel
theorem dX5_moved_41 : decode cX5_moved 41 = .ok (.invokevirtual 68, 3) := by decide +kernel
theorem dX5_moved_44 : decode cX5_moved 44 = .ok (.iload_n 2, 1) := by decide +kernel
theorem dX5_moved_45 : decode cX5_moved 45 = .ok (.invokestatic 85, 3) := by decide +kernel
theorem dX5_moved_48 : decode cX5_moved 48 = .ok (.iastore, 1) := by decide +kernel
theorem dX5_moved_49 : decode cX5_moved 49 = .ok (.aload_n 0, 1) := by decide +kernel
theorem dX5_moved_50 : decode cX5_moved 50 = .ok (.invokevirtual 99, 3) := by decide +kernel
theorem dX5_moved_53 : decode cX5_moved 53 = .ok (.istore_n 3, 1) := by decide +kernel
theorem dX5_moved_54 : decode cX5_moved 54 = .ok (.aload_n 0, 1) := by decide +kernel
theorem dX5_moved_55 : decode cX5_moved 55 = .ok (.invokevirtual 141, 3) := by decide +kernel
theorem dX5_moved_58 : decode cX5_moved 58 = .ok (.iload_n 3, 1) := by decide +kernel
theorem dX5_moved_59 : decode cX5_moved 59 = .ok (.ireturn, 1) := by decide +kernel
theorem dX5_to_0 : decode cX5_to 0 = .ok (.aload_n 0, 1) := by decide +kernel
theorem dX5_to_1 : decode cX5_to 1 = .ok (.getfield 7, 3) := by decide +kernel
theorem dX5_to_4 : decode cX5_to 4 = .ok (.bipush 33, 2) := by decide +kernel
theorem dX5_to_6 : decode cX5_to 6 = .ok (.iload_n 1, 1) := by decide +kernel
theorem dX5_to_7 : decode cX5_to 7 = .ok (.ifCond .ge 8, 3) := by decide +kernel
theorem dX5_to_10 : decode cX5_to 10 = .ok (.iload_n 1, 1) := by decide +kernel
theorem dX5_to_11 : decode cX5_to 11 = .ok (.ineg, 1) := by decide +kernel
theorem dX5_to_12 : decode cX5_to 12 = .ok (.goto 4, 3) := by decide +kernel
theorem dX5_to_15 : decode cX5_to 15 = .ok (.iload_n 1, 1) := by decide +kernel
theorem dX5_to_16 : decode cX5_to 16 = .ok (.iastore, 1) := by decide +kernel
theorem dX5_to_17 : decode cX5_to 17 = .ok (.aload_n 0, 1) := by decide +kernel
theorem dX5_to_18 : decode cX5_to 18 = .ok (.getfield 7, 3) := by decide +kernel
theorem dX5_to_21 : decode cX5_to 21 = .ok (.bipush 34, 2) := by decide +kernel
theorem dX5_to_23 : decode cX5_to 23 = .ok (.iload_n 1, 1) := by decide +kernel
theorem dX5_to_24 : decode cX5_to 24 = .ok (.ifCond .ge 12, 3) := by decide +kernel
theorem dX5_to_27 : decode cX5_to 27 = .ok (.iload_n 2, 1) := by decide +kernel
theorem dX5_to_28 : decode cX5_to 28 = .ok (.iconst 4, 1) := by decide +kernel
theorem dX5_to_29 : decode cX5_to 29 = .ok (.iadd, 1) := by decide +kernel
theorem dX5_to_30 : decode cX5_to 30 = .ok (.bipush 8, 2) := by decide +kernel
theorem dX5_to_32 : decode cX5_to 32 = .ok (.irem, 1) := by decide +kernel
theorem dX5_to_33 : decode cX5_to 33 = .ok (.goto 4, 3) := by decide +kernel
theorem dX5_to_36 : decode cX5_to 36 = .ok (.iload_n 2, 1) := by decide +kernel
theorem dX5_to_37 : decode cX5_to 37 = .ok (.iastore, 1) := by decide +kernel
theorem dX5_to_38 : decode cX5_to 38 = .ok (.aload_n 0, 1) := by decide +kernel
theorem dX5_to_39 : decode cX5_to 39 = .ok (.dup, 1) := by decide +kernel
theorem dX5_to_40 : decode cX5_to 40 = .ok (.getfield 144, 3) := by decide +kernel
theorem dX5_to_43 : decode cX5_to 43 = .ok (.aload_n 0, 1) := by decide +kernel
theorem dX5_to_44 : decode cX5_to 44 = .ok (.invokevirtual 99, 3) := by decide +kernel
theorem dX5_to_47 : decode cX5_to 47 = .ok (.iadd, 1) := by decide +kernel
theorem dX5_to_48 : decode cX5_to 48 = .ok (.putfield 144, 3) := by decide +kernel
theorem dX5_to_51 : decode cX5_to 51 = .ok (.aload_n 0, 1) := by decide +kernel
theorem dX5_to_52 : decode cX5_to 52 = .ok (.iload_n 2, 1) := by decide +kernel
theorem dX5_to_53 : decode cX5_to 53 = .ok (.invokevirtual 135, 3) := by decide +kernel
theorem dX5_to_56 : decode cX5_to 56 = .ok (.ireturn, 1) := by decide +kernel
theorem dX5_run_0 : decode cX5_run 0 = .ok (.aload_n 0, 1) := by decide +kernel
theorem dX5_run_1 : decode cX5_run 1 = .ok (.iconst 0, 1) := by decide +kernel
theorem dX5_run_2 : decode cX5_run 2 = .ok (.putfield 144, 3) := by decide +kernel
theorem dX5_run_5 : decode cX5_run 5 = .ok (.aload_n 0, 1) := by decide +kernel
theorem dX5_run_6 : decode cX5_run 6 = .ok (.iconst 0, 1) := by decide +kernel
theorem dX5_run_7 : decode cX5_run 7 = .ok (.putfield 147, 3) := by decide +kernel
theorem dX5_run_10 : decode cX5_run 10 = .ok (.aload_n 0, 1) := by decide +kernel
theorem dX5_run_11 : decode cX5_run 11 = .ok (.iconst 0, 1) := by decide +kernel
theorem dX5_run_12 : decode cX5_run 12 = .ok (.putfield 150, 3) := by decide +kernel
theorem dX5_run_15 : decode cX5_run 15 = .ok (.aload_n 0, 1) := by decide +kernel
theorem dX5_run_16 : decode cX5_run 16 = .ok (.ldc 25, 2) := by decide +kernel
theorem dX5_run_18 : decode cX5_run 18 = .ok (.putfield 153, 3) := by decide +kernel
theorem dX5_run_21 : decode cX5_run 21 = .ok (.iconst 0, 1) := by decide +kernel
theorem dX5_run_22 : decode cX5_run 22 = .ok (.istore 4, 2) := by decide +kernel
theorem dX5_run_24 : decode cX5_run 24 = .ok (.iconst 0, 1) := by decide +kernel
theorem dX5_run_25 : decode cX5_run 25 = .ok (.istore 5, 2) := by decide +kernel
theorem dX5_run_27 : decode cX5_run 27 = .ok (.iload 5, 2) := by decide +kernel
theorem dX5_run_29 : decode cX5_run 29 = .ok (.iload_n 1, 1) := by decide +kernel
theorem dX5_run_30 : decode cX5_run 30 = .ok (.if_icmp .gt 21, 3) := by decide +kernel
theorem dX5_run_33 : decode cX5_run 33 = .ok (.aload_n 0, 1) := by decide +kernel
theorem dX5_run_34 : decode cX5_run 34 = .ok (.iload 5, 2) := by decide +kernel
theorem dX5_run_36 : decode cX5_run 36 = .ok (.iload_n 3, 1) := by decide +kernel
theorem dX5_run_37 : decode cX5_run 37 = .ok (.invokevirtual 156, 3) := by decide +kernel
theorem dX5_run_40 : decode cX5_run 40 = .ok (.istore 4, 2) := by decide +kernel
theorem dX5_run_42 : decode cX5_run 42 = .ok (.iload 5, 2) := by decide +kernel
theorem dX5_run_44 : decode cX5_run 44 = .ok (.iload_n 2, 1) := by decide +kernel
theorem dX5_run_45 : decode cX5_run 45 = .ok (.iadd, 1) := by decide +kernel
theorem dX5_run_46 : decode cX5_run 46 = .ok (.istore 5, 2) := by decide +kernel
theorem dX5_run_48 : decode cX5_run 48 = .ok (.goto (-21), 3) := by decide +kernel
theorem dX5_run_51 : decode cX5_run 51 = .ok (.iload_n 1, 1) := by decide +kernel
theorem dX5_run_52 : decode cX5_run 52 = .ok (.iload_n 2, 1) := by decide +kernel
theorem dX5_run_53 : decode cX5_run 53 = .ok (.isub, 1) := by decide +kernel
theorem dX5_run_54 : decode cX5_run 54 = .ok (.istore 5, 2) := by decide +kernel
theorem dX5_run_56 : decode cX5_run 56 = .ok (.iload 5, 2) := by decide +kernel
theorem dX5_run_58 : decode cX5_run 58 = .ok (.iload_n 1, 1) := by decide +kernel
theorem dX5_run_59 : decode cX5_run 59 = .ok (.ineg, 1) := by decide +kernel
theorem dX5_run_60 : decode cX5_run 60 = .ok (.if_icmp .lt 87, 3) := by decide +kernel
theorem dX5_run_63 : decode cX5_run 63 = .ok (.aload_n 0, 1) := by decide +kernel
theorem dX5_run_64 : decode cX5_run 64 = .ok (.iload 5, 2) := by decide +kernel
theorem dX5_run_66 : decode cX5_run 66 = .ok (.iload_n 3, 1) := by decide +kernel
theorem dX5_run_67 : decode cX5_run 67 = .ok (.invokevirtual 156, 3) := by decide +kernel
theorem dX5_run_70 : decode cX5_run 70 = .ok (.istore 6, 2) := by decide +kernel
theorem dX5_run_72 : decode cX5_run 72 = .ok (.aload_n 0, 1) := by decide +kernel
theorem dX5_run_73 : decode cX5_run 73 = .ok (.dup, 1) := by decide +kernel
theorem dX5_run_74 : decode cX5_run 74 = .ok (.getfield 147, 3) := by decide +kernel
theorem dX5_run_77 : decode cX5_run 77 = .ok (.iload 4, 2) := by decide +kernel
theorem dX5_run_79 : decode cX5_run 79 = .ok (.iload 6, 2) := by decide +kernel
theorem dX5_run_81 : decode cX5_run 81 = .ok (.iadd, 1) := by decide +kernel
theorem dX5_run_82 : decode cX5_run 82 = .ok (.iload_n 2, 1) := by decide +kernel
theorem dX5_run_83 : decode cX5_run 83 = .ok (.ineg, 1) := by decide +kernel
theorem dX5_run_84 : decode cX5_run 84 = .ok (.imul, 1) := by decide +kernel
theorem dX5_run_85 : decode cX5_run 85 = .ok (.iadd, 1) := by decide +kernel
theorem dX5_run_86 : decode cX5_run 86 = .ok (.putfield 147, 3) := by decide +kernel
theorem dX5_run_89 : decode cX5_run 89 = .ok (.iload 6, 2) := by decide +kernel
theorem dX5_run_91 : decode cX5_run 91 = .ok (.istore 4, 2) := by decide +kernel
theorem dX5_run_93 : decode cX5_run 93 = .ok (.aload_n 0, 1) := by decide +kernel
theorem dX5_run_94 : decode cX5_run 94 = .ok (.iload 5, 2) := by decide +kernel
theorem dX5_run_96 : decode cX5_run 96 = .ok (.ifCond .ne 8, 3) := by decide +kernel
theorem dX5_run_99 : decode cX5_run 99 = .ok (.iload 4, 2) := by decide +kernel
theorem dX5_run_101 : decode cX5_run 101 = .ok (.goto 7, 3) := by decide +kernel
theorem dX5_run_104 : decode cX5_run 104 = .ok (.aload_n 0, 1) := by decide +kernel
theorem dX5_run_105 : decode cX5_run 105 = .ok (.getfield 150, 3) := by decide +kernel
theorem dX5_run_108 : decode cX5_run 108 = .ok (.putfield 150, 3) := by decide +kernel
theorem dX5_run_111 : decode cX5_run 111 = .ok (.aload_n 0, 1) := by decide +kernel
theorem dX5_run_112 : decode cX5_run 112 = .ok (.aload_n 0, 1) := by decide +kernel
theorem dX5_run_113 : decode cX5_run 113 = .ok (.getfield 153, 3) := by decide +kernel
theorem dX5_run_116 : decode cX5_run 116 = .ok (.ldc 25, 2) := by decide +kernel
theorem dX5_run_118 : decode cX5_run 118 = .ok (.if_icmp .ne 13, 3) := by decide +kernel
theorem dX5_run_121 : decode cX5_run 121 = .ok (.iload 4, 2) := by decide +kernel
theorem dX5_run_123 : decode cX5_run 123 = .ok (.ifCond .gt 8, 3) := by decide +kernel
theorem dX5_run_126 : decode cX5_run 126 = .ok (.iload 5, 2) := by decide +kernel
theorem dX5_run_128 : decode cX5_run 128 = .ok (.goto 7, 3) := by decide +kernel
theorem dX5_run_131 : decode cX5_run 131 = .ok (.aload_n 0, 1) := by decide +kernel
theorem dX5_run_132 : decode cX5_run 132 = .ok (.getfield 153, 3) := by decide +kernel
theorem dX5_run_135 : decode cX5_run 135 = .ok (.putfield 153, 3) := by decide +kernel
theorem dX5_run_138 : decode cX5_run 138 = .ok (.iload 5, 2) := by decide +kernel
theorem dX5_run_140 : decode cX5_run 140 = .ok (.iload_n 2, 1) := by decide +kernel
theorem dX5_run_141 : decode cX5_run 141 = .ok (.isub, 1) := by decide +kernel
theorem dX5_run_142 : decode cX5_run 142 = .ok (.istore 5, 2) := by decide +kernel
theorem dX5_run_144 : decode cX5_run 144 = .ok (.goto (-88), 3) := by decide +kernel
theorem dX5_run_147 : decode cX5_run 147 = .ok (.iload_n 2, 1) := by decide +kernel
theorem dX5_run_148 : decode cX5_run 148 = .ok (.iload_n 1, 1) := by decide +kernel
theorem dX5_run_149 : decode cX5_run 149 = .ok (.isub, 1) := by decide +kernel
theorem dX5_run_150 : decode cX5_run 150 = .ok (.istore 5, 2) := by decide +kernel
theorem dX5_run_152 : decode cX5_run 152 = .ok (.iload 5, 2) := by decide +kernel
theorem dX5_run_154 : decode cX5_run 154 = .ok (.iload_n 1, 1) := by decide +kernel
theorem dX5_run_155 : decode cX5_run 155 = .ok (.if_icmp .gt 41, 3) := by decide +kernel
theorem dX5_run_158 : decode cX5_run 158 = .ok (.aload_n 0, 1) := by decide +kernel
theorem dX5_run_159 : decode cX5_run 159 = .ok (.iload 5, 2) := by decide +kernel
theorem dX5_run_161 : decode cX5_run 161 = .ok (.iload_n 3, 1) := by decide +kernel
theorem dX5_run_162 : decode cX5_run 162 = .ok (.invokevirtual 156, 3) := by decide +kernel
theorem dX5_run_165 : decode cX5_run 165 = .ok (.istore 6, 2) := by decide +kernel
theorem dX5_run_167 : decode cX5_run 167 = .ok (.aload_n 0, 1) := by decide +kernel
theorem dX5_run_168 : decode cX5_run 168 = .ok (.dup, 1) := by decide +kernel
theorem dX5_run_169 : decode cX5_run 169 = .ok (.getfield 147, 3) := by decide +kernel
theorem dX5_run_172 : decode cX5_run 172 = .ok (.iload 4, 2) := by decide +kernel
theorem dX5_run_174 : decode cX5_run 174 = .ok (.iload 6, 2) := by decide +kernel
theorem dX5_run_176 : decode cX5_run 176 = .ok (.iadd, 1) := by decide +kernel
theorem dX5_run_177 : decode cX5_run 177 = .ok (.iload_n 2, 1) := by decide +kernel
theorem dX5_run_178 : decode cX5_run 178 = .ok (.imul, 1) := by decide +kernel
theorem dX5_run_179 : decode cX5_run 179 = .ok (.iadd, 1) := by decide +kernel
theorem dX5_run_180 : decode cX5_run 180 = .ok (.putfield 147, 3) := by decide +kernel
theorem dX5_run_183 : decode cX5_run 183 = .ok (.iload 6, 2) := by decide +kernel
theorem dX5_run_185 : decode cX5_run 185 = .ok (.istore 4, 2) := by decide +kernel
theorem dX5_run_187 : decode cX5_run 187 = .ok (.iload 5, 2) := by decide +kernel
theorem dX5_run_189 : decode cX5_run 189 = .ok (.iload_n 2, 1) := by decide +kernel
theorem dX5_run_190 : decode cX5_run 190 = .ok (.iadd, 1) := by decide +kernel
theorem dX5_run_191 : decode cX5_run 191 = .ok (.istore 5, 2) := by decide +kernel
theorem dX5_run_193 : decode cX5_run 193 = .ok (.goto (-41), 3) := by decide +kernel
theorem dX5_run_196 : decode cX5_run 196 = .ok (.iload 4, 2) := by decide +kernel
theorem dX5_run_198 : decode cX5_run 198 = .ok (.ireturn, 1) := by decide +kernel
theorem dX5_loop_0 : decode cX5_loop 0 = .ok (.iload_n 1, 1) := by decide +kernel
theorem dX5_loop_1 : decode cX5_loop 1 = .ok (.iconst 1, 1) := by decide +kernel
theorem dX5_loop_2 : decode cX5_loop 2 = .ok (.bipush 100, 2) := by decide +kernel
theorem dX5_loop_4 : decode cX5_loop 4 = .ok (.invokestatic 52, 3) := by decide +kernel
theorem dX5_loop_7 : decode cX5_loop 7 = .ok (.ifCond .eq 36, 3) := by decide +kernel
theorem dX5_loop_10 : decode cX5_loop 10 = .ok (.iload_n 2, 1) := by decide +kernel
theorem dX5_loop_11 : decode cX5_loop 11 = .ok (.iconst 1, 1) := by decide +kernel
theorem dX5_loop_12 : decode cX5_loop 12 = .ok (.bipush 100, 2) := by decide +kernel
theorem dX5_loop_14 : decode cX5_loop 14 = .ok (.invokestatic 52, 3) := by decide +kernel
theorem dX5_loop_17 : decode cX5_loop 17 = .ok (.ifCond .eq 26, 3) := by decide +kernel
theorem dX5_loop_20 : decode cX5_loop 20 = .ok (.iload_n 3, 1) := by decide +kernel
theorem dX5_loop_21 : decode cX5_loop 21 = .ok (.iconst 0, 1) := by decide +kernel
theorem dX5_loop_22 : decode cX5_loop 22 = .ok (.iconst 4, 1) := by decide +kernel
theorem dX5_loop_23 : decode cX5_loop 23 = .ok (.invokestatic 52, 3) := by decide +kernel
theorem dX5_loop_26 : decode cX5_loop 26 = .ok (.ifCond .eq 17, 3) := by decide +kernel
theorem dX5_loop_29 : decode cX5_loop 29 = .ok (.iload_n 1, 1) := by decide +kernel
theorem dX5_loop_30 : decode cX5_loop 30 = .ok (.iload_n 2, 1) := by decide +kernel
theorem dX5_loop_31 : decode cX5_loop 31 = .ok (.irem, 1) := by decide +kernel
theorem dX5_loop_32 : decode cX5_loop 32 = .ok (.ifCond .ne 11, 3) := by decide +kernel
theorem dX5_loop_35 : decode cX5_loop 35 = .ok (.bipush 10, 2) := by decide +kernel
theorem dX5_loop_37 : decode cX5_loop 37 = .ok (.iload_n 2, 1) := by decide +kernel
theorem dX5_loop_38 : decode cX5_loop 38 = .ok (.imul, 1) := by decide +kernel
theorem dX5_loop_39 : decode cX5_loop 39 = .ok (.iload_n 1, 1) := by decide +kernel
theorem dX5_loop_40 : decode cX5_loop 40 = .ok (.if_icmp .ge 6, 3) := by decide +kernel
theorem dX5_loop_43 : decode cX5_loop 43 = .ok (.ldc 102, 2) := by decide +kernel
theorem dX5_loop_45 : decode cX5_loop 45 = .ok (.ireturn, 1) := by decide +kernel
theorem dX5_loop_46 : decode cX5_loop 46 = .ok (.aload_n 0, 1) := by decide +kernel
theorem dX5_loop_47 : decode cX5_loop 47 = .ok (.invokevirtual 138, 3) := by decide +kernel
theorem dX5_loop_50 : decode cX5_loop 50 = .ok (.aload_n 0, 1) := by decide +kernel
theorem dX5_loop_51 : decode cX5_loop 51 = .ok (.iload_n 1, 1) := by decide +kernel
theorem dX5_loop_52 : decode cX5_loop 52 = .ok (.iload_n 2, 1) := by decide +kernel
theorem dX5_loop_53 : decode cX5_loop 53 = .ok (.aload_n 0, 1) := by decide +kernel
theorem dX5_loop_54 : decode cX5_loop 54 = .ok (.getfield 7, 3) := by decide +kernel
theorem dX5_loop_57 : decode cX5_loop 57 = .ok (.bipush 34, 2) := by decide +kernel
theorem dX5_loop_59 : decode cX5_loop 59 = .ok (.iaload, 1) := by decide +kernel
theorem dX5_loop_60 : decode cX5_loop 60 = .ok (.invokevirtual 159, 3) := by decide +kernel
theorem dX5_loop_63 : decode cX5_loop 63 = .ok (.istore 4, 2) := by decide +kernel
theorem dX5_loop_65 : decode cX5_loop 65 = .ok (.aload_n 0, 1) := by decide +kernel
theorem dX5_loop_66 : decode cX5_loop 66 = .ok (.invokevirtual 141, 3) := by decide +kernel
theorem dX5_loop_69 : decode cX5_loop 69 = .ok (.iload_n 3, 1) := by decide +kernel
theorem dX5_loop_70 : decode cX5_loop 70 = .ok (.tableswitch 50 0 3 #[30, 35, 40, 45], 30) := by decide +kernel
theorem dX5_loop_100 : decode cX5_loop 100 = .ok (.aload_n 0, 1) := by decide +kernel
theorem dX5_loop_101 : decode cX5_loop 101 = .ok (.getfield 147, 3) := by decide +kernel
theorem dX5_loop_104 : decode cX5_loop 104 = .ok (.ireturn, 1) := by decide +kernel
theorem dX5_loop_105 : decode cX5_loop 105 = .ok (.aload_n 0, 1) := by decide +kernel
theorem dX5_loop_106 : decode cX5_loop 106 = .ok (.getfield 150, 3) := by decide +kernel
theorem dX5_loop_109 : decode cX5_loop 109 = .ok (.ireturn, 1) := by decide +kernel
theorem dX5_loop_110 : decode cX5_loop 110 = .ok (.aload_n 0, 1) := by decide +kernel
theorem dX5_loop_111 : decode cX5_loop 111 = .ok (.getfield 153, 3) := by decide +kernel
theorem dX5_loop_114 : decode cX5_loop 114 = .ok (.ireturn, 1) := by decide +kernel
theorem dX5_loop_115 : decode cX5_loop 115 = .ok (.aload_n 0, 1) := by decide +kernel
theorem dX5_loop_116 : decode cX5_loop 116 = .ok (.getfield 144, 3) := by decide +kernel
theorem dX5_loop_119 : decode cX5_loop 119 = .ok (.ireturn, 1) := by decide +kernel
theorem dX5_loop_120 : decode cX5_loop 120 = .ok (.iload 4, 2) := by decide +kernel
theorem dX5_loop_122 : decode cX5_loop 122 = .ok (.ireturn, 1) := by decide +kernel
theorem dX5_choices_0 : decode cX5_choices 0 = .ok (.iconst 2, 1) := by decide +kernel
theorem dX5_choices_1 : decode cX5_choices 1 = .ok (.aload_n 0, 1) := by decide +kernel
theorem dX5_choices_2 : decode cX5_choices 2 = .ok (.getfield 7, 3) := by decide +kernel
theorem dX5_choices_5 : decode cX5_choices 5 = .ok (.iconst 0, 1) := by decide +kernel
theorem dX5_choices_6 : decode cX5_choices 6 = .ok (.iaload, 1) := by decide +kernel
theorem dX5_choices_7 : decode cX5_choices 7 = .ok (.imul, 1) := by decide +kernel
theorem dX5_choices_8 : decode cX5_choices 8 = .ok (.ireturn, 1) := by decide +kernel
theorem dX5_store_0 : decode cX5_store 0 = .ok (.iconst 0, 1) := by decide +kernel
theorem dX5_store_1 : decode cX5_store 1 = .ok (.istore_n 2, 1) := by decide +kernel
theorem dX5_store_2 : decode cX5_store 2 = .ok (.iload_n 2, 1) := by decide +kernel
theorem dX5_store_3 : decode cX5_store 3 = .ok (.bipush 10, 2) := by decide +kernel
theorem dX5_store_5 : decode cX5_store 5 = .ok (.if_icmp .ge 25, 3) := by decide +kernel
theorem dX5_store_8 : decode cX5_store 8 = .ok (.aload_n 0, 1) := by decide +kernel
theorem dX5_store_9 : decode cX5_store 9 = .ok (.getfield 36, 3) := by decide +kernel
theorem dX5_store_12 : decode cX5_store 12 = .ok (.bipush 10, 2) := by decide +kernel
theorem dX5_store_14 : decode cX5_store 14 = .ok (.iload_n 1, 1) := by decide +kernel
theorem dX5_store_15 : decode cX5_store 15 = .ok (.imul, 1) := by decide +kernel
theorem dX5_store_16 : decode cX5_store 16 = .ok (.iload_n 2, 1) := by decide +kernel
theorem dX5_store_17 : decode cX5_store 17 = .ok (.iadd, 1) := by decide +kernel
theorem dX5_store_18 : decode cX5_store 18 = .ok (.aload_n 0, 1) := by decide +kernel
theorem dX5_store_19 : decode cX5_store 19 = .ok (.iload_n 2, 1) := by decide +kernel
theorem dX5_store_20 : decode cX5_store 20 = .ok (.invokevirtual 68, 3) := by decide +kernel
theorem dX5_store_23 : decode cX5_store 23 = .ok (.iastore, 1) := by decide +kernel
theorem dX5_store_24 : decode cX5_store 24 = .ok (.iinc 2 1, 3) := by decide +kernel
theorem dX5_store_27 : decode cX5_store 27 = .ok (.goto (-25), 3) := by decide +kernel
theorem dX5_store_30 : decode cX5_store 30 = .ok (.return_, 1) := by decide +kernel
theorem dX5_restore_0 : decode cX5_restore 0 = .ok (.iconst 0, 1) := by decide +kernel
theorem dX5_restore_1 : decode cX5_restore 1 = .ok (.istore_n 2, 1) := by decide +kernel
theorem dX5_restore_2 : decode cX5_restore 2 = .ok (.iload_n 2, 1) := by decide +kernel
theorem dX5_restore_3 : decode cX5_restore 3 = .ok (.bipush 10, 2) := by decide +kernel
theorem dX5_restore_5 : decode cX5_restore 5 = .ok (.if_icmp .ge 28, 3) := by decide +kernel
theorem dX5_restore_8 : decode cX5_restore 8 = .ok (.aload_n 0, 1) := by decide +kernel
theorem dX5_restore_9 : decode cX5_restore 9 = .ok (.getfield 7, 3) := by decide +kernel
theorem dX5_restore_12 : decode cX5_restore 12 = .ok (.iconst 1, 1) := by decide +kernel
theorem dX5_restore_13 : decode cX5_restore 13 = .ok (.iload_n 2, 1) := by decide +kernel
theorem dX5_restore_14 : decode cX5_restore 14 = .ok (.iadd, 1) := by decide +kernel
theorem dX5_restore_15 : decode cX5_restore 15 = .ok (.aload_n 0, 1) := by decide +kernel
theorem dX5_restore_16 : decode cX5_restore 16 = .ok (.getfield 36, 3) := by decide +kernel
theorem dX5_restore_19 : decode cX5_restore 19 = .ok (.bipush 10, 2) := by decide +kernel
theorem dX5_restore_21 : decode cX5_restore 21 = .ok (.iload_n 1, 1) := by decide +kernel
theorem dX5_restore_22 : decode cX5_restore 22 = .ok (.imul, 1) := by decide +kernel
theorem dX5_restore_23 : decode cX5_restore 23 = .ok (.iload_n 2, 1) := by decide +kernel
theorem dX5_restore_24 : decode cX5_restore 24 = .ok (.iadd, 1) := by decide +kernel
theorem dX5_restore_25 : decode cX5_restore 25 = .ok (.iaload, 1) := by decide +kernel
theorem dX5_restore_26 : decode cX5_restore 26 = .ok (.iastore, 1) := by decide +kernel
theorem dX5_restore_27 : decode cX5_restore 27 = .ok (.iinc 2 1, 3) := by decide +kernel
theorem dX5_restore_30 : decode cX5_restore 30 = .ok (.goto (-28), 3) := by decide +kernel
theorem dX5_restore_33 : decode cX5_restore 33 = .ok (.return_, 1) := by decide +kernel
theorem dX5_search_0 : decode cX5_search 0 = .ok (.iconst 0, 1) := by decide +kernel
theorem dX5_search_1 : decode cX5_search 1 = .ok (.istore_n 2, 1) := by decide +kernel
theorem dX5_search_2 : decode cX5_search 2 = .ok (.aload_n 0, 1) := by decide +kernel
theorem dX5_search_3 : decode cX5_search 3 = .ok (.getfield 39, 3) := by decide +kernel
theorem dX5_search_6 : decode cX5_search 6 = .ok (.iconst 0, 1) := by decide +kernel
theorem dX5_search_7 : decode cX5_search 7 = .ok (.iconst 0, 1) := by decide +kernel
theorem dX5_search_8 : decode cX5_search 8 = .ok (.iastore, 1) := by decide +kernel
theorem dX5_search_9 : decode cX5_search 9 = .ok (.aload_n 0, 1) := by decide +kernel
theorem dX5_search_10 : decode cX5_search 10 = .ok (.iconst 0, 1) := by decide +kernel
theorem dX5_search_11 : decode cX5_search 11 = .ok (.invokevirtual 162, 3) := by decide +kernel
theorem dX5_search_14 : decode cX5_search 14 = .ok (.iload_n 2, 1) := by decide +kernel
theorem dX5_search_15 : decode cX5_search 15 = .ok (.ifCond .lt 174, 3) := by decide +kernel
theorem dX5_search_18 : decode cX5_search 18 = .ok (.aload_n 0, 1) := by decide +kernel
theorem dX5_search_19 : decode cX5_search 19 = .ok (.getfield 39, 3) := by decide +kernel
theorem dX5_search_22 : decode cX5_search 22 = .ok (.iload_n 2, 1) := by decide +kernel
theorem dX5_search_23 : decode cX5_search 23 = .ok (.iaload, 1) := by decide +kernel
theorem dX5_search_24 : decode cX5_search 24 = .ok (.istore_n 3, 1) := by decide +kernel
theorem dX5_search_25 : decode cX5_search 25 = .ok (.iload_n 3, 1) := by decide +kernel
theorem dX5_search_26 : decode cX5_search 26 = .ok (.aload_n 0, 1) := by decide +kernel
theorem dX5_search_27 : decode cX5_search 27 = .ok (.invokevirtual 165, 3) := by decide +kernel
theorem dX5_search_30 : decode cX5_search 30 = .ok (.if_icmp .ne 35, 3) := by decide +kernel
theorem dX5_search_33 : decode cX5_search 33 = .ok (.iinc 2 (-1), 3) := by decide +kernel
theorem dX5_search_36 : decode cX5_search 36 = .ok (.aload_n 0, 1) := by decide +kernel
theorem dX5_search_37 : decode cX5_search 37 = .ok (.getfield 39, 3) := by decide +kernel
theorem dX5_search_40 : decode cX5_search 40 = .ok (.iload_n 2, 1) := by decide +kernel
theorem dX5_search_41 : decode cX5_search 41 = .ok (.ifCond .ge 7, 3) := by decide +kernel
theorem dX5_search_44 : decode cX5_search 44 = .ok (.iconst 0, 1) := by decide +kernel
theorem dX5_search_45 : decode cX5_search 45 = .ok (.goto 4, 3) := by decide +kernel
theorem dX5_search_48 : decode cX5_search 48 = .ok (.iload_n 2, 1) := by decide +kernel
theorem dX5_search_49 : decode cX5_search 49 = .ok (.dup2, 1) := by decide +kernel
theorem dX5_search_50 : decode cX5_search 50 = .ok (.iaload, 1) := by decide +kernel
theorem dX5_search_51 : decode cX5_search 51 = .ok (.iload_n 2, 1) := by decide +kernel
theorem dX5_search_52 : decode cX5_search 52 = .ok (.ifCond .ge 7, 3) := by decide +kernel
theorem dX5_search_55 : decode cX5_search 55 = .ok (.iconst 0, 1) := by decide +kernel
theorem dX5_search_56 : decode cX5_search 56 = .ok (.goto 4, 3) := by decide +kernel
theorem dX5_search_59 : decode cX5_search 59 = .ok (.iconst 1, 1) := by decide +kernel
theorem dX5_search_60 : decode cX5_search 60 = .ok (.iadd, 1) := by decide +kernel
theorem dX5_search_61 : decode cX5_search 61 = .ok (.iastore, 1) := by decide +kernel
theorem dX5_search_62 : decode cX5_search 62 = .ok (.goto 124, 3) := by decide +kernel
theorem dX5_search_65 : decode cX5_search 65 = .ok (.aload_n 0, 1) := by decide +kernel
theorem dX5_search_66 : decode cX5_search 66 = .ok (.getfield 7, 3) := by decide +kernel
theorem dX5_search_69 : decode cX5_search 69 = .ok (.bipush 11, 2) := by decide +kernel
theorem dX5_search_71 : decode cX5_search 71 = .ok (.iload_n 3, 1) := by decide +kernel
theorem dX5_search_72 : decode cX5_search 72 = .ok (.iconst 2, 1) := by decide +kernel
theorem dX5_search_73 : decode cX5_search 73 = .ok (.idiv, 1) := by decide +kernel
theorem dX5_search_74 : decode cX5_search 74 = .ok (.iadd, 1) := by decide +kernel
theorem dX5_search_75 : decode cX5_search 75 = .ok (.iaload, 1) := by decide +kernel
theorem dX5_search_76 : decode cX5_search 76 = .ok (.iconst 1, 1) := by decide +kernel
theorem dX5_search_77 : decode cX5_search 77 = .ok (.if_icmp .ne 16, 3) := by decide +kernel
theorem dX5_search_80 : decode cX5_search 80 = .ok (.aload_n 0, 1) := by decide +kernel
theorem dX5_search_81 : decode cX5_search 81 = .ok (.getfield 39, 3) := by decide +kernel
theorem dX5_search_84 : decode cX5_search 84 = .ok (.iload_n 2, 1) := by decide +kernel
theorem dX5_search_85 : decode cX5_search 85 = .ok (.dup2, 1) := by decide +kernel
theorem dX5_search_86 : decode cX5_search 86 = .ok (.iaload, 1) := by decide +kernel
theorem dX5_search_87 : decode cX5_search 87 = .ok (.iconst 1, 1) := by decide +kernel
theorem dX5_search_88 : decode cX5_search 88 = .ok (.iadd, 1) := by decide +kernel
theorem dX5_search_89 : decode cX5_search 89 = .ok (.iastore, 1) := by decide +kernel
theorem dX5_search_90 : decode cX5_search 90 = .ok (.goto 96, 3) := by decide +kernel
theorem dX5_search_93 : decode cX5_search 93 = .ok (.aload_n 0, 1) := by decide +kernel
theorem dX5_search_94 : decode cX5_search 94 = .ok (.iload_n 2, 1) := by decide +kernel
theorem dX5_search_95 : decode cX5_search 95 = .ok (.invokevirtual 168, 3) := by decide +kernel
theorem dX5_search_98 : decode cX5_search 98 = .ok (.aload_n 0, 1) := by decide +kernel
theorem dX5_search_99 : decode cX5_search 99 = .ok (.getfield 7, 3) := by decide +kernel
theorem dX5_search_102 : decode cX5_search 102 = .ok (.iconst 1, 1) := by decide +kernel
theorem dX5_search_103 : decode cX5_search 103 = .ok (.iload_n 3, 1) := by decide +kernel
theorem dX5_search_104 : decode cX5_search 104 = .ok (.iconst 2, 1) := by decide +kernel
theorem dX5_search_105 : decode cX5_search 105 = .ok (.idiv, 1) := by decide +kernel
theorem dX5_search_106 : decode cX5_search 106 = .ok (.iadd, 1) := by decide +kernel
theorem dX5_search_107 : decode cX5_search 107 = .ok (.aload_n 0, 1) := by decide +kernel
theorem dX5_search_108 : decode cX5_search 108 = .ok (.iload_n 3, 1) := by decide +kernel
theorem dX5_search_109 : decode cX5_search 109 = .ok (.iconst 2, 1) := by decide +kernel
theorem dX5_search_110 : decode cX5_search 110 = .ok (.idiv, 1) := by decide +kernel
theorem dX5_search_111 : decode cX5_search 111 = .ok (.invokevirtual 68, 3) := by decide +kernel
theorem dX5_search_114 : decode cX5_search 114 = .ok (.iload_n 3, 1) := by decide +kernel
theorem dX5_search_115 : decode cX5_search 115 = .ok (.iconst 2, 1) := by decide +kernel
theorem dX5_search_116 : decode cX5_search 116 = .ok (.irem, 1) := by decide +kernel
theorem dX5_search_117 : decode cX5_search 117 = .ok (.ifCond .ne 7, 3) := by decide +kernel
theorem dX5_search_120 : decode cX5_search 120 = .ok (.iconst 1, 1) := by decide +kernel
theorem dX5_search_121 : decode cX5_search 121 = .ok (.goto 4, 3) := by decide +kernel
theorem dX5_search_124 : decode cX5_search 124 = .ok (.iconst (-1), 1) := by decide +kernel
theorem dX5_search_125 : decode cX5_search 125 = .ok (.invokestatic 85, 3) := by decide +kernel
theorem dX5_search_128 : decode cX5_search 128 = .ok (.iastore, 1) := by decide +kernel
theorem dX5_search_129 : decode cX5_search 129 = .ok (.aload_n 0, 1) := by decide +kernel
theorem dX5_search_130 : decode cX5_search 130 = .ok (.invokevirtual 99, 3) := by decide +kernel
theorem dX5_search_133 : decode cX5_search 133 = .ok (.istore 4, 2) := by decide +kernel
theorem dX5_search_135 : decode cX5_search 135 = .ok (.iload_n 2, 1) := by decide +kernel
theorem dX5_search_136 : decode cX5_search 136 = .ok (.iload_n 1, 1) := by decide +kernel
theorem dX5_search_137 : decode cX5_search 137 = .ok (.iconst 1, 1) := by decide +kernel
theorem dX5_search_138 : decode cX5_search 138 = .ok (.isub, 1) := by decide +kernel
theorem dX5_search_139 : decode cX5_search 139 = .ok (.if_icmp .ne 12, 3) := by decide +kernel
theorem dX5_search_142 : decode cX5_search 142 = .ok (.aload_n 0, 1) := by decide +kernel
theorem dX5_search_143 : decode cX5_search 143 = .ok (.invokevirtual 126, 3) := by decide +kernel
theorem dX5_search_146 : decode cX5_search 146 = .ok (.ifCond .ne 5, 3) := by decide +kernel
theorem dX5_search_149 : decode cX5_search 149 = .ok (.iconst 1, 1) := by decide +kernel
theorem dX5_search_150 : decode cX5_search 150 = .ok (.ireturn, 1) := by decide +kernel
theorem dX5_search_151 : decode cX5_search 151 = .ok (.iload_n 2, 1) := by decide +kernel
