theorem dX5_settle_137 : decode cX5_settle 137 = .ok (.invokestatic 85, 3) := by decide +kernel
theorem dX5_settle_140 : decode cX5_settle 140 = .ok (.iastore, 1) := by decide +kernel
theorem dX5_settle_141 : decode cX5_settle 141 = .ok (.aload_n 0, 1) := by decide +kernel
theorem dX5_settle_142 : decode cX5_settle 142 = .ok (.getfield 7, 3) := by decide +kernel
theorem dX5_settle_145 : decode cX5_settle 145 = .ok (.bipush 36, 2) := by decide +kernel
theorem dX5_settle_147 : decode cX5_settle 147 = .ok (.dup2, 1) := by decide +kernel
theorem dX5_settle_148 : decode cX5_settle 148 = .ok (.iaload, 1) := by decide +kernel
theorem dX5_settle_149 : decode cX5_settle 149 = .ok (.iload 5, 2) := by decide +kernel
theorem dX5_settle_151 : decode cX5_settle 151 = .ok (.iadd, 1) := by decide +kernel
theorem dX5_settle_152 : decode cX5_settle 152 = .ok (.iastore, 1) := by decide +kernel
theorem dX5_settle_153 : decode cX5_settle 153 = .ok (.aload_n 0, 1) := by decide +kernel
theorem dX5_settle_154 : decode cX5_settle 154 = .ok (.getfield 7, 3) := by decide +kernel
theorem dX5_settle_157 : decode cX5_settle 157 = .ok (.bipush 37, 2) := by decide +kernel
theorem dX5_settle_159 : decode cX5_settle 159 = .ok (.dup2, 1) := by decide +kernel
theorem dX5_settle_160 : decode cX5_settle 160 = .ok (.iaload, 1) := by decide +kernel
theorem dX5_settle_161 : decode cX5_settle 161 = .ok (.iconst 1, 1) := by decide +kernel
theorem dX5_settle_162 : decode cX5_settle 162 = .ok (.iadd, 1) := by decide +kernel
theorem dX5_settle_163 : decode cX5_settle 163 = .ok (.iastore, 1) := by decide +kernel
theorem dX5_settle_164 : decode cX5_settle 164 = .ok (.aload_n 0, 1) := by decide +kernel
theorem dX5_settle_165 : decode cX5_settle 165 = .ok (.iload_n 3, 1) := by decide +kernel
theorem dX5_settle_166 : decode cX5_settle 166 = .ok (.iload 4, 2) := by decide +kernel
theorem dX5_settle_168 : decode cX5_settle 168 = .ok (.iload 5, 2) := by decide +kernel
theorem dX5_settle_170 : decode cX5_settle 170 = .ok (.invokevirtual 91, 3) := by decide +kernel
theorem dX5_settle_173 : decode cX5_settle 173 = .ok (.iinc 1 1, 3) := by decide +kernel
theorem dX5_settle_176 : decode cX5_settle 176 = .ok (.goto (-172), 3) := by decide +kernel
theorem dX5_settle_179 : decode cX5_settle 179 = .ok (.iload_n 1, 1) := by decide +kernel
theorem dX5_settle_180 : decode cX5_settle 180 = .ok (.ireturn, 1) := by decide +kernel
theorem dX5_end_0 : decode cX5_end 0 = .ok (.aload_n 0, 1) := by decide +kernel
theorem dX5_end_1 : decode cX5_end 1 = .ok (.getfield 7, 3) := by decide +kernel
theorem dX5_end_4 : decode cX5_end 4 = .ok (.bipush 35, 2) := by decide +kernel
theorem dX5_end_6 : decode cX5_end 6 = .ok (.dup2, 1) := by decide +kernel
theorem dX5_end_7 : decode cX5_end 7 = .ok (.iaload, 1) := by decide +kernel
theorem dX5_end_8 : decode cX5_end 8 = .ok (.aload_n 0, 1) := by decide +kernel
theorem dX5_end_9 : decode cX5_end 9 = .ok (.invokevirtual 95, 3) := by decide +kernel
theorem dX5_end_12 : decode cX5_end 12 = .ok (.iload_n 1, 1) := by decide +kernel
theorem dX5_end_13 : decode cX5_end 13 = .ok (.isub, 1) := by decide +kernel
theorem dX5_end_14 : decode cX5_end 14 = .ok (.iadd, 1) := by decide +kernel
theorem dX5_end_15 : decode cX5_end 15 = .ok (.iastore, 1) := by decide +kernel
theorem dX5_end_16 : decode cX5_end 16 = .ok (.aload_n 0, 1) := by decide +kernel
theorem dX5_end_17 : decode cX5_end 17 = .ok (.invokevirtual 99, 3) := by decide +kernel
theorem dX5_end_20 : decode cX5_end 20 = .ok (.ireturn, 1) := by decide +kernel
theorem dX5_begin_0 : decode cX5_begin 0 = .ok (.iload_n 1, 1) := by decide +kernel
theorem dX5_begin_1 : decode cX5_begin 1 = .ok (.iconst 1, 1) := by decide +kernel
theorem dX5_begin_2 : decode cX5_begin 2 = .ok (.bipush 10, 2) := by decide +kernel
theorem dX5_begin_4 : decode cX5_begin 4 = .ok (.invokestatic 52, 3) := by decide +kernel
theorem dX5_begin_7 : decode cX5_begin 7 = .ok (.ifCond .ne 6, 3) := by decide +kernel
theorem dX5_begin_10 : decode cX5_begin 10 = .ok (.ldc 102, 2) := by decide +kernel
theorem dX5_begin_12 : decode cX5_begin 12 = .ok (.ireturn, 1) := by decide +kernel
theorem dX5_begin_13 : decode cX5_begin 13 = .ok (.aload_n 0, 1) := by decide +kernel
theorem dX5_begin_14 : decode cX5_begin 14 = .ok (.invokevirtual 103, 3) := by decide +kernel
theorem dX5_begin_17 : decode cX5_begin 17 = .ok (.aload_n 0, 1) := by decide +kernel
theorem dX5_begin_18 : decode cX5_begin 18 = .ok (.getfield 7, 3) := by decide +kernel
theorem dX5_begin_21 : decode cX5_begin 21 = .ok (.iconst 0, 1) := by decide +kernel
theorem dX5_begin_22 : decode cX5_begin 22 = .ok (.iaload, 1) := by decide +kernel
theorem dX5_begin_23 : decode cX5_begin 23 = .ok (.istore_n 2, 1) := by decide +kernel
theorem dX5_begin_24 : decode cX5_begin 24 = .ok (.aload_n 0, 1) := by decide +kernel
theorem dX5_begin_25 : decode cX5_begin 25 = .ok (.iload_n 1, 1) := by decide +kernel
theorem dX5_begin_26 : decode cX5_begin 26 = .ok (.invokevirtual 48, 3) := by decide +kernel
theorem dX5_begin_29 : decode cX5_begin 29 = .ok (.bipush 35, 2) := by decide +kernel
theorem dX5_begin_31 : decode cX5_begin 31 = .ok (.istore_n 3, 1) := by decide +kernel
theorem dX5_begin_32 : decode cX5_begin 32 = .ok (.iload_n 3, 1) := by decide +kernel
theorem dX5_begin_33 : decode cX5_begin 33 = .ok (.bipush 40, 2) := by decide +kernel
theorem dX5_begin_35 : decode cX5_begin 35 = .ok (.if_icmp .ge 16, 3) := by decide +kernel
theorem dX5_begin_38 : decode cX5_begin 38 = .ok (.aload_n 0, 1) := by decide +kernel
theorem dX5_begin_39 : decode cX5_begin 39 = .ok (.getfield 7, 3) := by decide +kernel
theorem dX5_begin_42 : decode cX5_begin 42 = .ok (.iload_n 3, 1) := by decide +kernel
theorem dX5_begin_43 : decode cX5_begin 43 = .ok (.iconst 0, 1) := by decide +kernel
theorem dX5_begin_44 : decode cX5_begin 44 = .ok (.iastore, 1) := by decide +kernel
theorem dX5_begin_45 : decode cX5_begin 45 = .ok (.iinc 3 1, 3) := by decide +kernel
theorem dX5_begin_48 : decode cX5_begin 48 = .ok (.goto (-16), 3) := by decide +kernel
theorem dX5_begin_51 : decode cX5_begin 51 = .ok (.aload_n 0, 1) := by decide +kernel
theorem dX5_begin_52 : decode cX5_begin 52 = .ok (.invokevirtual 99, 3) := by decide +kernel
theorem dX5_begin_55 : decode cX5_begin 55 = .ok (.istore_n 3, 1) := by decide +kernel
theorem dX5_begin_56 : decode cX5_begin 56 = .ok (.iload_n 2, 1) := by decide +kernel
theorem dX5_begin_57 : decode cX5_begin 57 = .ok (.ireturn, 1) := by decide +kernel
theorem dX5_insert_0 : decode cX5_insert 0 = .ok (.iload_n 1, 1) := by decide +kernel
theorem dX5_insert_1 : decode cX5_insert 1 = .ok (.iconst 0, 1) := by decide +kernel
theorem dX5_insert_2 : decode cX5_insert 2 = .ok (.aload_n 0, 1) := by decide +kernel
theorem dX5_insert_3 : decode cX5_insert 3 = .ok (.getfield 7, 3) := by decide +kernel
theorem dX5_insert_6 : decode cX5_insert 6 = .ok (.iconst 0, 1) := by decide +kernel
theorem dX5_insert_7 : decode cX5_insert 7 = .ok (.iaload, 1) := by decide +kernel
theorem dX5_insert_8 : decode cX5_insert 8 = .ok (.invokestatic 52, 3) := by decide +kernel
theorem dX5_insert_11 : decode cX5_insert 11 = .ok (.ifCond .eq 13, 3) := by decide +kernel
theorem dX5_insert_14 : decode cX5_insert 14 = .ok (.iload_n 2, 1) := by decide +kernel
theorem dX5_insert_15 : decode cX5_insert 15 = .ok (.iconst 0, 1) := by decide +kernel
theorem dX5_insert_16 : decode cX5_insert 16 = .ok (.bipush 7, 2) := by decide +kernel
theorem dX5_insert_18 : decode cX5_insert 18 = .ok (.invokestatic 52, 3) := by decide +kernel
theorem dX5_insert_21 : decode cX5_insert 21 = .ok (.ifCond .ne 6, 3) := by decide +kernel
theorem dX5_insert_24 : decode cX5_insert 24 = .ok (.ldc 102, 2) := by decide +kernel
theorem dX5_insert_26 : decode cX5_insert 26 = .ok (.ireturn, 1) := by decide +kernel
theorem dX5_insert_27 : decode cX5_insert 27 = .ok (.aload_n 0, 1) := by decide +kernel
theorem dX5_insert_28 : decode cX5_insert 28 = .ok (.getfield 7, 3) := by decide +kernel
theorem dX5_insert_31 : decode cX5_insert 31 = .ok (.iconst 0, 1) := by decide +kernel
theorem dX5_insert_32 : decode cX5_insert 32 = .ok (.iaload, 1) := by decide +kernel
theorem dX5_insert_33 : decode cX5_insert 33 = .ok (.bipush 10, 2) := by decide +kernel
theorem dX5_insert_35 : decode cX5_insert 35 = .ok (.if_icmp .ne 6, 3) := by decide +kernel
theorem dX5_insert_38 : decode cX5_insert 38 = .ok (.ldc 106, 2) := by decide +kernel
theorem dX5_insert_40 : decode cX5_insert 40 = .ok (.ireturn, 1) := by decide +kernel
theorem dX5_insert_41 : decode cX5_insert 41 = .ok (.aload_n 0, 1) := by decide +kernel
theorem dX5_insert_42 : decode cX5_insert 42 = .ok (.invokevirtual 103, 3) := by decide +kernel
theorem dX5_insert_45 : decode cX5_insert 45 = .ok (.aload_n 0, 1) := by decide +kernel
theorem dX5_insert_46 : decode cX5_insert 46 = .ok (.invokevirtual 95, 3) := by decide +kernel
theorem dX5_insert_49 : decode cX5_insert 49 = .ok (.istore_n 3, 1) := by decide +kernel
theorem dX5_insert_50 : decode cX5_insert 50 = .ok (.aload_n 0, 1) := by decide +kernel
theorem dX5_insert_51 : decode cX5_insert 51 = .ok (.getfield 7, 3) := by decide +kernel
theorem dX5_insert_54 : decode cX5_insert 54 = .ok (.iconst 0, 1) := by decide +kernel
theorem dX5_insert_55 : decode cX5_insert 55 = .ok (.iaload, 1) := by decide +kernel
theorem dX5_insert_56 : decode cX5_insert 56 = .ok (.istore 4, 2) := by decide +kernel
theorem dX5_insert_58 : decode cX5_insert 58 = .ok (.iload 4, 2) := by decide +kernel
theorem dX5_insert_60 : decode cX5_insert 60 = .ok (.iload_n 1, 1) := by decide +kernel
theorem dX5_insert_61 : decode cX5_insert 61 = .ok (.if_icmp .le 73, 3) := by decide +kernel
theorem dX5_insert_64 : decode cX5_insert 64 = .ok (.aload_n 0, 1) := by decide +kernel
theorem dX5_insert_65 : decode cX5_insert 65 = .ok (.getfield 7, 3) := by decide +kernel
theorem dX5_insert_68 : decode cX5_insert 68 = .ok (.iconst 1, 1) := by decide +kernel
theorem dX5_insert_69 : decode cX5_insert 69 = .ok (.iload 4, 2) := by decide +kernel
theorem dX5_insert_71 : decode cX5_insert 71 = .ok (.iadd, 1) := by decide +kernel
theorem dX5_insert_72 : decode cX5_insert 72 = .ok (.aload_n 0, 1) := by decide +kernel
theorem dX5_insert_73 : decode cX5_insert 73 = .ok (.getfield 7, 3) := by decide +kernel
theorem dX5_insert_76 : decode cX5_insert 76 = .ok (.iconst 1, 1) := by decide +kernel
theorem dX5_insert_77 : decode cX5_insert 77 = .ok (.iload 4, 2) := by decide +kernel
theorem dX5_insert_79 : decode cX5_insert 79 = .ok (.iadd, 1) := by decide +kernel
theorem dX5_insert_80 : decode cX5_insert 80 = .ok (.iconst 1, 1) := by decide +kernel
theorem dX5_insert_81 : decode cX5_insert 81 = .ok (.isub, 1) := by decide +kernel
theorem dX5_insert_82 : decode cX5_insert 82 = .ok (.iaload, 1) := by decide +kernel
theorem dX5_insert_83 : decode cX5_insert 83 = .ok (.iastore, 1) := by decide +kernel
theorem dX5_insert_84 : decode cX5_insert 84 = .ok (.aload_n 0, 1) := by decide +kernel
theorem dX5_insert_85 : decode cX5_insert 85 = .ok (.getfield 7, 3) := by decide +kernel
theorem dX5_insert_88 : decode cX5_insert 88 = .ok (.bipush 11, 2) := by decide +kernel
theorem dX5_insert_90 : decode cX5_insert 90 = .ok (.iload 4, 2) := by decide +kernel
theorem dX5_insert_92 : decode cX5_insert 92 = .ok (.iadd, 1) := by decide +kernel
theorem dX5_insert_93 : decode cX5_insert 93 = .ok (.aload_n 0, 1) := by decide +kernel
theorem dX5_insert_94 : decode cX5_insert 94 = .ok (.getfield 7, 3) := by decide +kernel
theorem dX5_insert_97 : decode cX5_insert 97 = .ok (.bipush 11, 2) := by decide +kernel
theorem dX5_insert_99 : decode cX5_insert 99 = .ok (.iload 4, 2) := by decide +kernel
theorem dX5_insert_101 : decode cX5_insert 101 = .ok (.iadd, 1) := by decide +kernel
theorem dX5_insert_102 : decode cX5_insert 102 = .ok (.iconst 1, 1) := by decide +kernel
theorem dX5_insert_103 : decode cX5_insert 103 = .ok (.isub, 1) := by decide +kernel
theorem dX5_insert_104 : decode cX5_insert 104 = .ok (.iaload, 1) := by decide +kernel
theorem dX5_insert_105 : decode cX5_insert 105 = .ok (.iastore, 1) := by decide +kernel
theorem dX5_insert_106 : decode cX5_insert 106 = .ok (.aload_n 0, 1) := by decide +kernel
theorem dX5_insert_107 : decode cX5_insert 107 = .ok (.getfield 7, 3) := by decide +kernel
theorem dX5_insert_110 : decode cX5_insert 110 = .ok (.bipush 21, 2) := by decide +kernel
theorem dX5_insert_112 : decode cX5_insert 112 = .ok (.iload 4, 2) := by decide +kernel
theorem dX5_insert_114 : decode cX5_insert 114 = .ok (.iadd, 1) := by decide +kernel
theorem dX5_insert_115 : decode cX5_insert 115 = .ok (.aload_n 0, 1) := by decide +kernel
theorem dX5_insert_116 : decode cX5_insert 116 = .ok (.getfield 7, 3) := by decide +kernel
theorem dX5_insert_119 : decode cX5_insert 119 = .ok (.bipush 21, 2) := by decide +kernel
theorem dX5_insert_121 : decode cX5_insert 121 = .ok (.iload 4, 2) := by decide +kernel
theorem dX5_insert_123 : decode cX5_insert 123 = .ok (.iadd, 1) := by decide +kernel
theorem dX5_insert_124 : decode cX5_insert 124 = .ok (.iconst 1, 1) := by decide +kernel
theorem dX5_insert_125 : decode cX5_insert 125 = .ok (.isub, 1) := by decide +kernel
theorem dX5_insert_126 : decode cX5_insert 126 = .ok (.iaload, 1) := by decide +kernel
theorem dX5_insert_127 : decode cX5_insert 127 = .ok (.iastore, 1) := by decide +kernel
theorem dX5_insert_128 : decode cX5_insert 128 = .ok (.iinc 4 (-1), 3) := by decide +kernel
theorem dX5_insert_131 : decode cX5_insert 131 = .ok (.goto (-73), 3) := by decide +kernel
theorem dX5_insert_134 : decode cX5_insert 134 = .ok (.aload_n 0, 1) := by decide +kernel
theorem dX5_insert_135 : decode cX5_insert 135 = .ok (.getfield 7, 3) := by decide +kernel
theorem dX5_insert_138 : decode cX5_insert 138 = .ok (.iconst 1, 1) := by decide +kernel
theorem dX5_insert_139 : decode cX5_insert 139 = .ok (.iload_n 1, 1) := by decide +kernel
theorem dX5_insert_140 : decode cX5_insert 140 = .ok (.iadd, 1) := by decide +kernel
theorem dX5_insert_141 : decode cX5_insert 141 = .ok (.iload_n 2, 1) := by decide +kernel
theorem dX5_insert_142 : decode cX5_insert 142 = .ok (.iastore, 1) := by decide +kernel
theorem dX5_insert_143 : decode cX5_insert 143 = .ok (.aload_n 0, 1) := by decide +kernel
theorem dX5_insert_144 : decode cX5_insert 144 = .ok (.getfield 7, 3) := by decide +kernel
theorem dX5_insert_147 : decode cX5_insert 147 = .ok (.bipush 11, 2) := by decide +kernel
theorem dX5_insert_149 : decode cX5_insert 149 = .ok (.iload_n 1, 1) := by decide +kernel
theorem dX5_insert_150 : decode cX5_insert 150 = .ok (.iadd, 1) := by decide +kernel
theorem dX5_insert_151 : decode cX5_insert 151 = .ok (.iconst 0, 1) := by decide +kernel
theorem dX5_insert_152 : decode cX5_insert 152 = .ok (.iastore, 1) := by decide +kernel
theorem dX5_insert_153 : decode cX5_insert 153 = .ok (.aload_n 0, 1) := by decide +kernel
theorem dX5_insert_154 : decode cX5_insert 154 = .ok (.getfield 7, 3) := by decide +kernel
theorem dX5_insert_157 : decode cX5_insert 157 = .ok (.bipush 21, 2) := by decide +kernel
theorem dX5_insert_159 : decode cX5_insert 159 = .ok (.iload_n 1, 1) := by decide +kernel
theorem dX5_insert_160 : decode cX5_insert 160 = .ok (.iadd, 1) := by decide +kernel
theorem dX5_insert_161 : decode cX5_insert 161 = .ok (.ldc 25, 2) := by decide +kernel
theorem dX5_insert_163 : decode cX5_insert 163 = .ok (.iastore, 1) := by decide +kernel
theorem dX5_insert_164 : decode cX5_insert 164 = .ok (.aload_n 0, 1) := by decide +kernel
theorem dX5_insert_165 : decode cX5_insert 165 = .ok (.getfield 7, 3) := by decide +kernel
theorem dX5_insert_168 : decode cX5_insert 168 = .ok (.iconst 0, 1) := by decide +kernel
theorem dX5_insert_169 : decode cX5_insert 169 = .ok (.dup2, 1) := by decide +kernel
theorem dX5_insert_170 : decode cX5_insert 170 = .ok (.iaload, 1) := by decide +kernel
theorem dX5_insert_171 : decode cX5_insert 171 = .ok (.iconst 1, 1) := by decide +kernel
theorem dX5_insert_172 : decode cX5_insert 172 = .ok (.iadd, 1) := by decide +kernel
theorem dX5_insert_173 : decode cX5_insert 173 = .ok (.iastore, 1) := by decide +kernel
theorem dX5_insert_174 : decode cX5_insert 174 = .ok (.aload_n 0, 1) := by decide +kernel
theorem dX5_insert_175 : decode cX5_insert 175 = .ok (.iload_n 3, 1) := by decide +kernel
theorem dX5_insert_176 : decode cX5_insert 176 = .ok (.invokevirtual 107, 3) := by decide +kernel
theorem dX5_insert_179 : decode cX5_insert 179 = .ok (.istore 4, 2) := by decide +kernel
theorem dX5_insert_181 : decode cX5_insert 181 = .ok (.aload_n 0, 1) := by decide +kernel
theorem dX5_insert_182 : decode cX5_insert 182 = .ok (.getfield 7, 3) := by decide +kernel
theorem dX5_insert_185 : decode cX5_insert 185 = .ok (.iconst 0, 1) := by decide +kernel
theorem dX5_insert_186 : decode cX5_insert 186 = .ok (.iaload, 1) := by decide +kernel
theorem dX5_insert_187 : decode cX5_insert 187 = .ok (.ireturn, 1) := by decide +kernel
theorem dX5_take_0 : decode cX5_take 0 = .ok (.aload_n 0, 1) := by decide +kernel
theorem dX5_take_1 : decode cX5_take 1 = .ok (.getfield 7, 3) := by decide +kernel
theorem dX5_take_4 : decode cX5_take 4 = .ok (.iconst 0, 1) := by decide +kernel
theorem dX5_take_5 : decode cX5_take 5 = .ok (.dup2, 1) := by decide +kernel
theorem dX5_take_6 : decode cX5_take 6 = .ok (.iaload, 1) := by decide +kernel
theorem dX5_take_7 : decode cX5_take 7 = .ok (.iconst 1, 1) := by decide +kernel
theorem dX5_take_8 : decode cX5_take 8 = .ok (.isub, 1) := by decide +kernel
theorem dX5_take_9 : decode cX5_take 9 = .ok (.iastore, 1) := by decide +kernel
theorem dX5_take_10 : decode cX5_take 10 = .ok (.iload_n 1, 1) := by decide +kernel
theorem dX5_take_11 : decode cX5_take 11 = .ok (.istore_n 2, 1) := by decide +kernel
theorem dX5_take_12 : decode cX5_take 12 = .ok (.iload_n 2, 1) := by decide +kernel
theorem dX5_take_13 : decode cX5_take 13 = .ok (.aload_n 0, 1) := by decide +kernel
theorem dX5_take_14 : decode cX5_take 14 = .ok (.getfield 7, 3) := by decide +kernel
theorem dX5_take_17 : decode cX5_take 17 = .ok (.iconst 0, 1) := by decide +kernel
theorem dX5_take_18 : decode cX5_take 18 = .ok (.iaload, 1) := by decide +kernel
theorem dX5_take_19 : decode cX5_take 19 = .ok (.if_icmp .ge 67, 3) := by decide +kernel
theorem dX5_take_22 : decode cX5_take 22 = .ok (.aload_n 0, 1) := by decide +kernel
theorem dX5_take_23 : decode cX5_take 23 = .ok (.getfield 7, 3) := by decide +kernel
theorem dX5_take_26 : decode cX5_take 26 = .ok (.iconst 1, 1) := by decide +kernel
theorem dX5_take_27 : decode cX5_take 27 = .ok (.iload_n 2, 1) := by decide +kernel
theorem dX5_take_28 : decode cX5_take 28 = .ok (.iadd, 1) := by decide +kernel
theorem dX5_take_29 : decode cX5_take 29 = .ok (.aload_n 0, 1) := by decide +kernel
theorem dX5_take_30 : decode cX5_take 30 = .ok (.getfield 7, 3) := by decide +kernel
theorem dX5_take_33 : decode cX5_take 33 = .ok (.iconst 1, 1) := by decide +kernel
theorem dX5_take_34 : decode cX5_take 34 = .ok (.iload_n 2, 1) := by decide +kernel
theorem dX5_take_35 : decode cX5_take 35 = .ok (.iadd, 1) := by decide +kernel
theorem dX5_take_36 : decode cX5_take 36 = .ok (.iconst 1, 1) := by decide +kernel
theorem dX5_take_37 : decode cX5_take 37 = .ok (.iadd, 1) := by decide +kernel
theorem dX5_take_38 : decode cX5_take 38 = .ok (.iaload, 1) := by decide +kernel
theorem dX5_take_39 : decode cX5_take 39 = .ok (.iastore, 1) := by decide +kernel
theorem dX5_take_40 : decode cX5_take 40 = .ok (.aload_n 0, 1) := by decide +kernel
theorem dX5_take_41 : decode cX5_take 41 = .ok (.getfield 7, 3) := by decide +kernel
theorem dX5_take_44 : decode cX5_take 44 = .ok (.bipush 11, 2) := by decide +kernel
theorem dX5_take_46 : decode cX5_take 46 = .ok (.iload_n 2, 1) := by decide +kernel
theorem dX5_take_47 : decode cX5_take 47 = .ok (.iadd, 1) := by decide +kernel
theorem dX5_take_48 : decode cX5_take 48 = .ok (.aload_n 0, 1) := by decide +kernel
theorem dX5_take_49 : decode cX5_take 49 = .ok (.getfield 7, 3) := by decide +kernel
theorem dX5_take_52 : decode cX5_take 52 = .ok (.bipush 11, 2) := by decide +kernel
theorem dX5_take_54 : decode cX5_take 54 = .ok (.iload_n 2, 1) := by decide +kernel
theorem dX5_take_55 : decode cX5_take 55 = .ok (.iadd, 1) := by decide +kernel
theorem dX5_take_56 : decode cX5_take 56 = .ok (.iconst 1, 1) := by decide +kernel
theorem dX5_take_57 : decode cX5_take 57 = .ok (.iadd, 1) := by decide +kernel
theorem dX5_take_58 : decode cX5_take 58 = .ok (.iaload, 1) := by decide +kernel
theorem dX5_take_59 : decode cX5_take 59 = .ok (.iastore, 1) := by decide +kernel
theorem dX5_take_60 : decode cX5_take 60 = .ok (.aload_n 0, 1) := by decide +kernel
theorem dX5_take_61 : decode cX5_take 61 = .ok (.getfield 7, 3) := by decide +kernel
theorem dX5_take_64 : decode cX5_take 64 = .ok (.bipush 21, 2) := by decide +kernel
theorem dX5_take_66 : decode cX5_take 66 = .ok (.iload_n 2, 1) := by decide +kernel
theorem dX5_take_67 : decode cX5_take 67 = .ok (.iadd, 1) := by decide +kernel
theorem dX5_take_68 : decode cX5_take 68 = .ok (.aload_n 0, 1) := by decide +kernel
theorem dX5_take_69 : decode cX5_take 69 = .ok (.getfield 7, 3) := by decide +kernel
theorem dX5_take_72 : decode cX5_take 72 = .ok (.bipush 21, 2) := by decide +kernel
theorem dX5_take_74 : decode cX5_take 74 = .ok (.iload_n 2, 1) := by decide +kernel
theorem dX5_take_75 : decode cX5_take 75 = .ok (.iadd, 1) := by decide +kernel
theorem dX5_take_76 : decode cX5_take 76 = .ok (.iconst 1, 1) := by decide +kernel
theorem dX5_take_77 : decode cX5_take 77 = .ok (.iadd, 1) := by decide +kernel
theorem dX5_take_78 : decode cX5_take 78 = .ok (.iaload, 1) := by decide +kernel
theorem dX5_take_79 : decode cX5_take 79 = .ok (.iastore, 1) := by decide +kernel
theorem dX5_take_80 : decode cX5_take 80 = .ok (.iinc 2 1, 3) := by decide +kernel
theorem dX5_take_83 : decode cX5_take 83 = .ok (.goto (-71), 3) := by decide +kernel
theorem dX5_take_86 : decode cX5_take 86 = .ok (.return_, 1) := by decide +kernel
theorem dX5_remove_0 : decode cX5_remove 0 = .ok (.aload_n 0, 1) := by decide +kernel
theorem dX5_remove_1 : decode cX5_remove 1 = .ok (.iload_n 1, 1) := by decide +kernel
theorem dX5_remove_2 : decode cX5_remove 2 = .ok (.invokevirtual 64, 3) := by decide +kernel
theorem dX5_remove_5 : decode cX5_remove 5 = .ok (.ifCond .ne 6, 3) := by decide +kernel
theorem dX5_remove_8 : decode cX5_remove 8 = .ok (.ldc 102, 2) := by decide +kernel
theorem dX5_remove_10 : decode cX5_remove 10 = .ok (.ireturn, 1) := by decide +kernel
theorem dX5_remove_11 : decode cX5_remove 11 = .ok (.aload_n 0, 1) := by decide +kernel
theorem dX5_remove_12 : decode cX5_remove 12 = .ok (.getfield 7, 3) := by decide +kernel
theorem dX5_remove_15 : decode cX5_remove 15 = .ok (.iconst 0, 1) := by decide +kernel
theorem dX5_remove_16 : decode cX5_remove 16 = .ok (.iaload, 1) := by decide +kernel
theorem dX5_remove_17 : decode cX5_remove 17 = .ok (.iconst 1, 1) := by decide +kernel
theorem dX5_remove_18 : decode cX5_remove 18 = .ok (.if_icmp .ne 6, 3) := by decide +kernel
theorem dX5_remove_21 : decode cX5_remove 21 = .ok (.ldc 59, 2) := by decide +kernel
theorem dX5_remove_23 : decode cX5_remove 23 = .ok (.ireturn, 1) := by decide +kernel
theorem dX5_remove_24 : decode cX5_remove 24 = .ok (.aload_n 0, 1) := by decide +kernel
theorem dX5_remove_25 : decode cX5_remove 25 = .ok (.invokevirtual 103, 3) := by decide +kernel
theorem dX5_remove_28 : decode cX5_remove 28 = .ok (.aload_n 0, 1) := by decide +kernel
theorem dX5_remove_29 : decode cX5_remove 29 = .ok (.invokevirtual 95, 3) := by decide +kernel
theorem dX5_remove_32 : decode cX5_remove 32 = .ok (.istore_n 2, 1) := by decide +kernel
theorem dX5_remove_33 : decode cX5_remove 33 = .ok (.aload_n 0, 1) := by decide +kernel
theorem dX5_remove_34 : decode cX5_remove 34 = .ok (.iload_n 1, 1) := by decide +kernel
theorem dX5_remove_35 : decode cX5_remove 35 = .ok (.invokevirtual 68, 3) := by decide +kernel
theorem dX5_remove_38 : decode cX5_remove 38 = .ok (.istore_n 3, 1) := by decide +kernel
theorem dX5_remove_39 : decode cX5_remove 39 = .ok (.aload_n 0, 1) := by decide +kernel
theorem dX5_remove_40 : decode cX5_remove 40 = .ok (.iload_n 1, 1) := by decide +kernel
theorem dX5_remove_41 : decode cX5_remove 41 = .ok (.invokevirtual 110, 3) := by decide +kernel
theorem dX5_remove_44 : decode cX5_remove 44 = .ok (.aload_n 0, 1) := by decide +kernel
theorem dX5_remove_45 : decode cX5_remove 45 = .ok (.iload_n 2, 1) := by decide +kernel
theorem dX5_remove_46 : decode cX5_remove 46 = .ok (.invokevirtual 107, 3) := by decide +kernel
theorem dX5_remove_49 : decode cX5_remove 49 = .ok (.istore 4, 2) := by decide +kernel
theorem dX5_remove_51 : decode cX5_remove 51 = .ok (.iload_n 3, 1) := by decide +kernel
theorem dX5_remove_52 : decode cX5_remove 52 = .ok (.ireturn, 1) := by decide +kernel
theorem dX5_shedSet_0 : decode cX5_shedSet 0 = .ok (.iconst 0, 1) := by decide +kernel
theorem dX5_shedSet_1 : decode cX5_shedSet 1 = .ok (.istore_n 1, 1) := by decide +kernel
theorem dX5_shedSet_2 : decode cX5_shedSet 2 = .ok (.iconst 0, 1) := by decide +kernel
theorem dX5_shedSet_3 : decode cX5_shedSet 3 = .ok (.istore_n 2, 1) := by decide +kernel
theorem dX5_shedSet_4 : decode cX5_shedSet 4 = .ok (.iload_n 2, 1) := by decide +kernel
theorem dX5_shedSet_5 : decode cX5_shedSet 5 = .ok (.aload_n 0, 1) := by decide +kernel
theorem dX5_shedSet_6 : decode cX5_shedSet 6 = .ok (.getfield 7, 3) := by decide +kernel
theorem dX5_shedSet_9 : decode cX5_shedSet 9 = .ok (.iconst 0, 1) := by decide +kernel
theorem dX5_shedSet_10 : decode cX5_shedSet 10 = .ok (.iaload, 1) := by decide +kernel
theorem dX5_shedSet_11 : decode cX5_shedSet 11 = .ok (.if_icmp .ge 63, 3) := by decide +kernel
theorem dX5_shedSet_14 : decode cX5_shedSet 14 = .ok (.aload_n 0, 1) := by decide +kernel
theorem dX5_shedSet_15 : decode cX5_shedSet 15 = .ok (.iload_n 2, 1) := by decide +kernel
theorem dX5_shedSet_16 : decode cX5_shedSet 16 = .ok (.aload_n 0, 1) := by decide +kernel
theorem dX5_shedSet_17 : decode cX5_shedSet 17 = .ok (.iload_n 2, 1) := by decide +kernel
theorem dX5_shedSet_18 : decode cX5_shedSet 18 = .ok (.invokevirtual 68, 3) := by decide +kernel
theorem dX5_shedSet_21 : decode cX5_shedSet 21 = .ok (.iload_n 2, 1) := by decide +kernel
theorem dX5_shedSet_22 : decode cX5_shedSet 22 = .ok (.iconst 1, 1) := by decide +kernel
theorem dX5_shedSet_23 : decode cX5_shedSet 23 = .ok (.isub, 1) := by decide +kernel
theorem dX5_shedSet_24 : decode cX5_shedSet 24 = .ok (.invokevirtual 75, 3) := by decide +kernel
theorem dX5_shedSet_27 : decode cX5_shedSet 27 = .ok (.aload_n 0, 1) := by decide +kernel
theorem dX5_shedSet_28 : decode cX5_shedSet 28 = .ok (.iload_n 2, 1) := by decide +kernel
theorem dX5_shedSet_29 : decode cX5_shedSet 29 = .ok (.aload_n 0, 1) := by decide +kernel
theorem dX5_shedSet_30 : decode cX5_shedSet 30 = .ok (.iload_n 2, 1) := by decide +kernel
theorem dX5_shedSet_31 : decode cX5_shedSet 31 = .ok (.invokevirtual 68, 3) := by decide +kernel
theorem dX5_shedSet_34 : decode cX5_shedSet 34 = .ok (.iload_n 2, 1) := by decide +kernel
theorem dX5_shedSet_35 : decode cX5_shedSet 35 = .ok (.iconst 1, 1) := by decide +kernel
theorem dX5_shedSet_36 : decode cX5_shedSet 36 = .ok (.iadd, 1) := by decide +kernel
theorem dX5_shedSet_37 : decode cX5_shedSet 37 = .ok (.invokevirtual 75, 3) := by decide +kernel
theorem dX5_shedSet_40 : decode cX5_shedSet 40 = .ok (.iadd, 1) := by decide +kernel
theorem dX5_shedSet_41 : decode cX5_shedSet 41 = .ok (.istore_n 3, 1) := by decide +kernel
theorem dX5_shedSet_42 : decode cX5_shedSet 42 = .ok (.iload_n 1, 1) := by decide +kernel
theorem dX5_shedSet_43 : decode cX5_shedSet 43 = .ok (.aload_n 0, 1) := by decide +kernel
theorem dX5_shedSet_44 : decode cX5_shedSet 44 = .ok (.getfield 7, 3) := by decide +kernel
theorem dX5_shedSet_47 : decode cX5_shedSet 47 = .ok (.bipush 11, 2) := by decide +kernel
theorem dX5_shedSet_49 : decode cX5_shedSet 49 = .ok (.iload_n 2, 1) := by decide +kernel
theorem dX5_shedSet_50 : decode cX5_shedSet 50 = .ok (.iadd, 1) := by decide +kernel
theorem dX5_shedSet_51 : decode cX5_shedSet 51 = .ok (.iaload, 1) := by decide +kernel
theorem dX5_shedSet_52 : decode cX5_shedSet 52 = .ok (.ifCond .ne 13, 3) := by decide +kernel
theorem dX5_shedSet_55 : decode cX5_shedSet 55 = .ok (.iload_n 3, 1) := by decide +kernel
theorem dX5_shedSet_56 : decode cX5_shedSet 56 = .ok (.ifCond .le 9, 3) := by decide +kernel
theorem dX5_shedSet_59 : decode cX5_shedSet 59 = .ok (.iconst 1, 1) := by decide +kernel
theorem dX5_shedSet_60 : decode cX5_shedSet 60 = .ok (.iload_n 2, 1) := by decide +kernel
theorem dX5_shedSet_61 : decode cX5_shedSet 61 = .ok (.ishl, 1) := by decide +kernel
theorem dX5_shedSet_62 : decode cX5_shedSet 62 = .ok (.goto 4, 3) := by decide +kernel
theorem dX5_shedSet_65 : decode cX5_shedSet 65 = .ok (.iconst 0, 1) := by decide +kernel
theorem dX5_shedSet_66 : decode cX5_shedSet 66 = .ok (.ior, 1) := by decide +kernel
theorem dX5_shedSet_67 : decode cX5_shedSet 67 = .ok (.istore_n 1, 1) := by decide +kernel
theorem dX5_shedSet_68 : decode cX5_shedSet 68 = .ok (.iinc 2 1, 3) := by decide +kernel
theorem dX5_shedSet_71 : decode cX5_shedSet 71 = .ok (.goto (-67), 3) := by decide +kernel
theorem dX5_shedSet_74 : decode cX5_shedSet 74 = .ok (.iload_n 1, 1) := by decide +kernel
theorem dX5_shedSet_75 : decode cX5_shedSet 75 = .ok (.ireturn, 1) := by decide +kernel
theorem dX5_shed_0 : decode cX5_shed 0 = .ok (.aload_n 0, 1) := by decide +kernel
theorem dX5_shed_1 : decode cX5_shed 1 = .ok (.invokevirtual 113, 3) := by decide +kernel
theorem dX5_shed_4 : decode cX5_shed 4 = .ok (.istore_n 1, 1) := by decide +kernel
theorem dX5_shed_5 : decode cX5_shed 5 = .ok (.iconst 0, 1) := by decide +kernel
theorem dX5_shed_6 : decode cX5_shed 6 = .ok (.istore_n 2, 1) := by decide +kernel
theorem dX5_shed_7 : decode cX5_shed 7 = .ok (.iconst 0, 1) := by decide +kernel
theorem dX5_shed_8 : decode cX5_shed 8 = .ok (.istore_n 3, 1) := by decide +kernel
theorem dX5_shed_9 : decode cX5_shed 9 = .ok (.iload_n 3, 1) := by decide +kernel
theorem dX5_shed_10 : decode cX5_shed 10 = .ok (.aload_n 0, 1) := by decide +kernel
theorem dX5_shed_11 : decode cX5_shed 11 = .ok (.getfield 7, 3) := by decide +kernel
theorem dX5_shed_14 : decode cX5_shed 14 = .ok (.iconst 0, 1) := by decide +kernel
theorem dX5_shed_15 : decode cX5_shed 15 = .ok (.iaload, 1) := by decide +kernel
theorem dX5_shed_16 : decode cX5_shed 16 = .ok (.if_icmp .ge 17, 3) := by decide +kernel
theorem dX5_shed_19 : decode cX5_shed 19 = .ok (.iload_n 2, 1) := by decide +kernel
theorem dX5_shed_20 : decode cX5_shed 20 = .ok (.iload_n 1, 1) := by decide +kernel
theorem dX5_shed_21 : decode cX5_shed 21 = .ok (.iload_n 3, 1) := by decide +kernel
theorem dX5_shed_22 : decode cX5_shed 22 = .ok (.ishr, 1) := by decide +kernel
theorem dX5_shed_23 : decode cX5_shed 23 = .ok (.iconst 1, 1) := by decide +kernel
theorem dX5_shed_24 : decode cX5_shed 24 = .ok (.iand, 1) := by decide +kernel
theorem dX5_shed_25 : decode cX5_shed 25 = .ok (.iadd, 1) := by decide +kernel
theorem dX5_shed_26 : decode cX5_shed 26 = .ok (.istore_n 2, 1) := by decide +kernel
theorem dX5_shed_27 : decode cX5_shed 27 = .ok (.iinc 3 1, 3) := by decide +kernel
theorem dX5_shed_30 : decode cX5_shed 30 = .ok (.goto (-21), 3) := by decide +kernel
theorem dX5_shed_33 : decode cX5_shed 33 = .ok (.iload_n 2, 1) := by decide +kernel
theorem dX5_shed_34 : decode cX5_shed 34 = .ok (.aload_n 0, 1) := by decide +kernel
theorem dX5_shed_35 : decode cX5_shed 35 = .ok (.getfield 7, 3) := by decide +kernel
theorem dX5_shed_38 : decode cX5_shed 38 = .ok (.iconst 0, 1) := by decide +kernel
theorem dX5_shed_39 : decode cX5_shed 39 = .ok (.iaload, 1) := by decide +kernel
theorem dX5_shed_40 : decode cX5_shed 40 = .ok (.if_icmp .ne 6, 3) := by decide +kernel
theorem dX5_shed_43 : decode cX5_shed 43 = .ok (.ldc 59, 2) := by decide +kernel
theorem dX5_shed_45 : decode cX5_shed 45 = .ok (.ireturn, 1) := by decide +kernel
theorem dX5_shed_46 : decode cX5_shed 46 = .ok (.aload_n 0, 1) := by decide +kernel
theorem dX5_shed_47 : decode cX5_shed 47 = .ok (.invokevirtual 103, 3) := by decide +kernel
theorem dX5_shed_50 : decode cX5_shed 50 = .ok (.aload_n 0, 1) := by decide +kernel
theorem dX5_shed_51 : decode cX5_shed 51 = .ok (.invokevirtual 95, 3) := by decide +kernel
theorem dX5_shed_54 : decode cX5_shed 54 = .ok (.istore_n 3, 1) := by decide +kernel
theorem dX5_shed_55 : decode cX5_shed 55 = .ok (.bipush 9, 2) := by decide +kernel
theorem dX5_shed_57 : decode cX5_shed 57 = .ok (.istore 4, 2) := by decide +kernel
theorem dX5_shed_59 : decode cX5_shed 59 = .ok (.iload 4, 2) := by decide +kernel
theorem dX5_shed_61 : decode cX5_shed 61 = .ok (.ifCond .lt 25, 3) := by decide +kernel
theorem dX5_shed_64 : decode cX5_shed 64 = .ok (.iload_n 1, 1) := by decide +kernel
theorem dX5_shed_65 : decode cX5_shed 65 = .ok (.iload 4, 2) := by decide +kernel
theorem dX5_shed_67 : decode cX5_shed 67 = .ok (.ishr, 1) := by decide +kernel
theorem dX5_shed_68 : decode cX5_shed 68 = .ok (.iconst 1, 1) := by decide +kernel
theorem dX5_shed_69 : decode cX5_shed 69 = .ok (.iand, 1) := by decide +kernel
theorem dX5_shed_70 : decode cX5_shed 70 = .ok (.iconst 1, 1) := by decide +kernel
theorem dX5_shed_71 : decode cX5_shed 71 = .ok (.if_icmp .ne 9, 3) := by decide +kernel
theorem dX5_shed_74 : decode cX5_shed 74 = .ok (.aload_n 0, 1) := by decide +kernel
theorem dX5_shed_75 : decode cX5_shed 75 = .ok (.iload 4, 2) := by decide +kernel
theorem dX5_shed_77 : decode cX5_shed 77 = .ok (.invokevirtual 110, 3) := by decide +kernel
theorem dX5_shed_80 : decode cX5_shed 80 = .ok (.iinc 4 (-1), 3) := by decide +kernel
theorem dX5_shed_83 : decode cX5_shed 83 = .ok (.goto (-24), 3) := by decide +kernel
theorem dX5_shed_86 : decode cX5_shed 86 = .ok (.aload_n 0, 1) := by decide +kernel
theorem dX5_shed_87 : decode cX5_shed 87 = .ok (.iload_n 3, 1) := by decide +kernel
theorem dX5_shed_88 : decode cX5_shed 88 = .ok (.invokevirtual 107, 3) := by decide +kernel
theorem dX5_shed_91 : decode cX5_shed 91 = .ok (.istore 4, 2) := by decide +kernel
theorem dX5_shed_93 : decode cX5_shed 93 = .ok (.iload_n 2, 1) := by decide +kernel
theorem dX5_shed_94 : decode cX5_shed 94 = .ok (.ireturn, 1) := by decide +kernel
theorem dX5_mirrored_0 : decode cX5_mirrored 0 = .ok (.bipush 12, 2) := by decide +kernel
theorem dX5_mirrored_2 : decode cX5_mirrored 2 = .ok (.iload_n 0, 1) := by decide +kernel
theorem dX5_mirrored_3 : decode cX5_mirrored 3 = .ok (.isub, 1) := by decide +kernel
theorem dX5_mirrored_4 : decode cX5_mirrored 4 = .ok (.bipush 8, 2) := by decide +kernel
theorem dX5_mirrored_6 : decode cX5_mirrored 6 = .ok (.irem, 1) := by decide +kernel
theorem dX5_mirrored_7 : decode cX5_mirrored 7 = .ok (.ireturn, 1) := by decide +kernel
theorem dX5_reverse_0 : decode cX5_reverse 0 = .ok (.aload_n 0, 1) := by decide +kernel
theorem dX5_reverse_1 : decode cX5_reverse 1 = .ok (.invokevirtual 103, 3) := by decide +kernel
theorem dX5_reverse_4 : decode cX5_reverse 4 = .ok (.aload_n 0, 1) := by decide +kernel
theorem dX5_reverse_5 : decode cX5_reverse 5 = .ok (.invokevirtual 95, 3) := by decide +kernel
theorem dX5_reverse_8 : decode cX5_reverse 8 = .ok (.istore_n 1, 1) := by decide +kernel
theorem dX5_reverse_9 : decode cX5_reverse 9 = .ok (.aload_n 0, 1) := by decide +kernel
theorem dX5_reverse_10 : decode cX5_reverse 10 = .ok (.getfield 7, 3) := by decide +kernel
theorem dX5_reverse_13 : decode cX5_reverse 13 = .ok (.iconst 0, 1) := by decide +kernel
theorem dX5_reverse_14 : decode cX5_reverse 14 = .ok (.iaload, 1) := by decide +kernel
theorem dX5_reverse_15 : decode cX5_reverse 15 = .ok (.istore_n 2, 1) := by decide +kernel
theorem dX5_reverse_16 : decode cX5_reverse 16 = .ok (.iconst 0, 1) := by decide +kernel
theorem dX5_reverse_17 : decode cX5_reverse 17 = .ok (.istore_n 3, 1) := by decide +kernel
theorem dX5_reverse_18 : decode cX5_reverse 18 = .ok (.iconst 0, 1) := by decide +kernel
theorem dX5_reverse_19 : decode cX5_reverse 19 = .ok (.istore 4, 2) := by decide +kernel
theorem dX5_reverse_21 : decode cX5_reverse 21 = .ok (.iload 4, 2) := by decide +kernel
theorem dX5_reverse_23 : decode cX5_reverse 23 = .ok (.iload_n 2, 1) := by decide +kernel
theorem dX5_reverse_24 : decode cX5_reverse 24 = .ok (.if_icmp .ge 67, 3) := by decide +kernel
theorem dX5_reverse_27 : decode cX5_reverse 27 = .ok (.iload_n 3, 1) := by decide +kernel
theorem dX5_reverse_28 : decode cX5_reverse 28 = .ok (.aload_n 0, 1) := by decide +kernel
theorem dX5_reverse_29 : decode cX5_reverse 29 = .ok (.getfield 13, 3) := by decide +kernel
theorem dX5_reverse_32 : decode cX5_reverse 32 = .ok (.sipush 130, 3) := by decide +kernel
theorem dX5_reverse_35 : decode cX5_reverse 35 = .ok (.aload_n 0, 1) := by decide +kernel
theorem dX5_reverse_36 : decode cX5_reverse 36 = .ok (.getfield 56, 3) := by decide +kernel
theorem dX5_reverse_39 : decode cX5_reverse 39 = .ok (.iconst 1, 1) := by decide +kernel
theorem dX5_reverse_40 : decode cX5_reverse 40 = .ok (.isub, 1) := by decide +kernel
theorem dX5_reverse_41 : decode cX5_reverse 41 = .ok (.imul, 1) := by decide +kernel
theorem dX5_reverse_42 : decode cX5_reverse 42 = .ok (.iconst 1, 1) := by decide +kernel
theorem dX5_reverse_43 : decode cX5_reverse 43 = .ok (.iadd, 1) := by decide +kernel
theorem dX5_reverse_44 : decode cX5_reverse 44 = .ok (.iload_n 2, 1) := by decide +kernel
theorem dX5_reverse_45 : decode cX5_reverse 45 = .ok (.iadd, 1) := by decide +kernel
theorem dX5_reverse_46 : decode cX5_reverse 46 = .ok (.iconst 1, 1) := by decide +kernel
theorem dX5_reverse_47 : decode cX5_reverse 47 = .ok (.isub, 1) := by decide +kernel
theorem dX5_reverse_48 : decode cX5_reverse 48 = .ok (.iload 4, 2) := by decide +kernel
theorem dX5_reverse_50 : decode cX5_reverse 50 = .ok (.isub, 1) := by decide +kernel
theorem dX5_reverse_51 : decode cX5_reverse 51 = .ok (.iaload, 1) := by decide +kernel
theorem dX5_reverse_52 : decode cX5_reverse 52 = .ok (.invokestatic 116, 3) := by decide +kernel
theorem dX5_reverse_55 : decode cX5_reverse 55 = .ok (.aload_n 0, 1) := by decide +kernel
theorem dX5_reverse_56 : decode cX5_reverse 56 = .ok (.getfield 13, 3) := by decide +kernel
theorem dX5_reverse_59 : decode cX5_reverse 59 = .ok (.sipush 130, 3) := by decide +kernel
theorem dX5_reverse_62 : decode cX5_reverse 62 = .ok (.aload_n 0, 1) := by decide +kernel
theorem dX5_reverse_63 : decode cX5_reverse 63 = .ok (.getfield 56, 3) := by decide +kernel
theorem dX5_reverse_66 : decode cX5_reverse 66 = .ok (.iconst 1, 1) := by decide +kernel
theorem dX5_reverse_67 : decode cX5_reverse 67 = .ok (.isub, 1) := by decide +kernel
theorem dX5_reverse_68 : decode cX5_reverse 68 = .ok (.imul, 1) := by decide +kernel
theorem dX5_reverse_69 : decode cX5_reverse 69 = .ok (.iconst 1, 1) := by decide +kernel
theorem dX5_reverse_70 : decode cX5_reverse 70 = .ok (.iadd, 1) := by decide +kernel
theorem dX5_reverse_71 : decode cX5_reverse 71 = .ok (.iload 4, 2) := by decide +kernel
theorem dX5_reverse_73 : decode cX5_reverse 73 = .ok (.iadd, 1) := by decide +kernel
theorem dX5_reverse_74 : decode cX5_reverse 74 = .ok (.iaload, 1) := by decide +kernel
theorem dX5_reverse_75 : decode cX5_reverse 75 = .ok (.if_icmp .eq 7, 3) := by decide +kernel
theorem dX5_reverse_78 : decode cX5_reverse 78 = .ok (.iconst 1, 1) := by decide +kernel
theorem dX5_reverse_79 : decode cX5_reverse 79 = .ok (.goto 4, 3) := by decide +kernel
theorem dX5_reverse_82 : decode cX5_reverse 82 = .ok (.iconst 0, 1) := by decide +kernel
theorem dX5_reverse_83 : decode cX5_reverse 83 = .ok (.iadd, 1) := by decide +kernel
theorem dX5_reverse_84 : decode cX5_reverse 84 = .ok (.istore_n 3, 1) := by decide +kernel
theorem dX5_reverse_85 : decode cX5_reverse 85 = .ok (.iinc 4 1, 3) := by decide +kernel
theorem dX5_reverse_88 : decode cX5_reverse 88 = .ok (.goto (-67), 3) := by decide +kernel
theorem dX5_reverse_91 : decode cX5_reverse 91 = .ok (.iconst 0, 1) := by decide +kernel
theorem dX5_reverse_92 : decode cX5_reverse 92 = .ok (.istore 4, 2) := by decide +kernel
theorem dX5_reverse_94 : decode cX5_reverse 94 = .ok (.iload 4, 2) := by decide +kernel
theorem dX5_reverse_96 : decode cX5_reverse 96 = .ok (.iload_n 2, 1) := by decide +kernel
theorem dX5_reverse_97 : decode cX5_reverse 97 = .ok (.if_icmp .ge 108, 3) := by decide +kernel
theorem dX5_reverse_100 : decode cX5_reverse 100 = .ok (.sipush 130, 3) := by decide +kernel
theorem dX5_reverse_103 : decode cX5_reverse 103 = .ok (.aload_n 0, 1) := by decide +kernel
theorem dX5_reverse_104 : decode cX5_reverse 104 = .ok (.getfield 56, 3) := by decide +kernel
theorem dX5_reverse_107 : decode cX5_reverse 107 = .ok (.iconst 1, 1) := by decide +kernel
theorem dX5_reverse_108 : decode cX5_reverse 108 = .ok (.isub, 1) := by decide +kernel
theorem dX5_reverse_109 : decode cX5_reverse 109 = .ok (.imul, 1) := by decide +kernel
theorem dX5_reverse_110 : decode cX5_reverse 110 = .ok (.iload_n 2, 1) := by decide +kernel
theorem dX5_reverse_111 : decode cX5_reverse 111 = .ok (.iadd, 1) := by decide +kernel
theorem dX5_reverse_112 : decode cX5_reverse 112 = .ok (.iconst 1, 1) := by decide +kernel
theorem dX5_reverse_113 : decode cX5_reverse 113 = .ok (.isub, 1) := by decide +kernel
theorem dX5_reverse_114 : decode cX5_reverse 114 = .ok (.iload 4, 2) := by decide +kernel
theorem dX5_reverse_116 : decode cX5_reverse 116 = .ok (.isub, 1) := by decide +kernel
theorem dX5_reverse_117 : decode cX5_reverse 117 = .ok (.istore 5, 2) := by decide +kernel
theorem dX5_reverse_119 : decode cX5_reverse 119 = .ok (.aload_n 0, 1) := by decide +kernel
theorem dX5_reverse_120 : decode cX5_reverse 120 = .ok (.getfield 13, 3) := by decide +kernel
theorem dX5_reverse_123 : decode cX5_reverse 123 = .ok (.iload 5, 2) := by decide +kernel
theorem dX5_reverse_125 : decode cX5_reverse 125 = .ok (.bipush 21, 2) := by decide +kernel
theorem dX5_reverse_127 : decode cX5_reverse 127 = .ok (.iadd, 1) := by decide +kernel
theorem dX5_reverse_128 : decode cX5_reverse 128 = .ok (.iaload, 1) := by decide +kernel
theorem dX5_reverse_129 : decode cX5_reverse 129 = .ok (.istore 6, 2) := by decide +kernel
theorem dX5_reverse_131 : decode cX5_reverse 131 = .ok (.aload_n 0, 1) := by decide +kernel
theorem dX5_reverse_132 : decode cX5_reverse 132 = .ok (.getfield 7, 3) := by decide +kernel
theorem dX5_reverse_135 : decode cX5_reverse 135 = .ok (.iconst 1, 1) := by decide +kernel
theorem dX5_reverse_136 : decode cX5_reverse 136 = .ok (.iload 4, 2) := by decide +kernel
theorem dX5_reverse_138 : decode cX5_reverse 138 = .ok (.iadd, 1) := by decide +kernel
theorem dX5_reverse_139 : decode cX5_reverse 139 = .ok (.aload_n 0, 1) := by decide +kernel
theorem dX5_reverse_140 : decode cX5_reverse 140 = .ok (.getfield 13, 3) := by decide +kernel
theorem dX5_reverse_143 : decode cX5_reverse 143 = .ok (.iload 5, 2) := by decide +kernel
theorem dX5_reverse_145 : decode cX5_reverse 145 = .ok (.iconst 1, 1) := by decide +kernel
theorem dX5_reverse_146 : decode cX5_reverse 146 = .ok (.iadd, 1) := by decide +kernel
theorem dX5_reverse_147 : decode cX5_reverse 147 = .ok (.iaload, 1) := by decide +kernel
theorem dX5_reverse_148 : decode cX5_reverse 148 = .ok (.invokestatic 116, 3) := by decide +kernel
theorem dX5_reverse_151 : decode cX5_reverse 151 = .ok (.iastore, 1) := by decide +kernel
theorem dX5_reverse_152 : decode cX5_reverse 152 = .ok (.aload_n 0, 1) := by decide +kernel
theorem dX5_reverse_153 : decode cX5_reverse 153 = .ok (.getfield 7, 3) := by decide +kernel
theorem dX5_reverse_156 : decode cX5_reverse 156 = .ok (.bipush 11, 2) := by decide +kernel
theorem dX5_reverse_158 : decode cX5_reverse 158 = .ok (.iload 4, 2) := by decide +kernel
theorem dX5_reverse_160 : decode cX5_reverse 160 = .ok (.iadd, 1) := by decide +kernel
theorem dX5_reverse_161 : decode cX5_reverse 161 = .ok (.aload_n 0, 1) := by decide +kernel
theorem dX5_reverse_162 : decode cX5_reverse 162 = .ok (.getfield 13, 3) := by decide +kernel
theorem dX5_reverse_165 : decode cX5_reverse 165 = .ok (.iload 5, 2) := by decide +kernel
theorem dX5_reverse_167 : decode cX5_reverse 167 = .ok (.bipush 11, 2) := by decide +kernel
theorem dX5_reverse_169 : decode cX5_reverse 169 = .ok (.iadd, 1) := by decide +kernel
theorem dX5_reverse_170 : decode cX5_reverse 170 = .ok (.iaload, 1) := by decide +kernel
theorem dX5_reverse_171 : decode cX5_reverse 171 = .ok (.iastore, 1) := by decide +kernel
theorem dX5_reverse_172 : decode cX5_reverse 172 = .ok (.aload_n 0, 1) := by decide +kernel
theorem dX5_reverse_173 : decode cX5_reverse 173 = .ok (.getfield 7, 3) := by decide +kernel
theorem dX5_reverse_176 : decode cX5_reverse 176 = .ok (.bipush 21, 2) := by decide +kernel
theorem dX5_reverse_178 : decode cX5_reverse 178 = .ok (.iload 4, 2) := by decide +kernel
theorem dX5_reverse_180 : decode cX5_reverse 180 = .ok (.iadd, 1) := by decide +kernel
theorem dX5_reverse_181 : decode cX5_reverse 181 = .ok (.iload 6, 2) := by decide +kernel
theorem dX5_reverse_183 : decode cX5_reverse 183 = .ok (.ldc 25, 2) := by decide +kernel
theorem dX5_reverse_185 : decode cX5_reverse 185 = .ok (.if_icmp .ne 8, 3) := by decide +kernel
theorem dX5_reverse_188 : decode cX5_reverse 188 = .ok (.ldc 25, 2) := by decide +kernel
theorem dX5_reverse_190 : decode cX5_reverse 190 = .ok (.goto 8, 3) := by decide +kernel
theorem dX5_reverse_193 : decode cX5_reverse 193 = .ok (.iload 6, 2) := by decide +kernel
theorem dX5_reverse_195 : decode cX5_reverse 195 = .ok (.invokestatic 116, 3) := by decide +kernel
theorem dX5_reverse_198 : decode cX5_reverse 198 = .ok (.iastore, 1) := by decide +kernel
theorem dX5_reverse_199 : decode cX5_reverse 199 = .ok (.iinc 4 1, 3) := by decide +kernel
theorem dX5_reverse_202 : decode cX5_reverse 202 = .ok (.goto (-108), 3) := by decide +kernel
theorem dX5_reverse_205 : decode cX5_reverse 205 = .ok (.aload_n 0, 1) := by decide +kernel
theorem dX5_reverse_206 : decode cX5_reverse 206 = .ok (.iload_n 1, 1) := by decide +kernel
theorem dX5_reverse_207 : decode cX5_reverse 207 = .ok (.invokevirtual 107, 3) := by decide +kernel
theorem dX5_reverse_210 : decode cX5_reverse 210 = .ok (.istore 4, 2) := by decide +kernel
theorem dX5_reverse_212 : decode cX5_reverse 212 = .ok (.iload_n 3, 1) := by decide +kernel
theorem dX5_reverse_213 : decode cX5_reverse 213 = .ok (.ireturn, 1) := by decide +kernel
theorem dX5_hold_0 : decode cX5_hold 0 = .ok (.aload_n 0, 1) := by decide +kernel
theorem dX5_hold_1 : decode cX5_hold 1 = .ok (.iload_n 1, 1) := by decide +kernel
theorem dX5_hold_2 : decode cX5_hold 2 = .ok (.invokevirtual 64, 3) := by decide +kernel
theorem dX5_hold_5 : decode cX5_hold 5 = .ok (.ifCond .eq 12, 3) := by decide +kernel
theorem dX5_hold_8 : decode cX5_hold 8 = .ok (.iload_n 2, 1) := by decide +kernel
theorem dX5_hold_9 : decode cX5_hold 9 = .ok (.iconst 0, 1) := by decide +kernel
theorem dX5_hold_10 : decode cX5_hold 10 = .ok (.iconst 1, 1) := by decide +kernel
theorem dX5_hold_11 : decode cX5_hold 11 = .ok (.invokestatic 52, 3) := by decide +kernel
theorem dX5_hold_14 : decode cX5_hold 14 = .ok (.ifCond .ne 6, 3) := by decide +kernel
theorem dX5_hold_17 : decode cX5_hold 17 = .ok (.ldc 102, 2) := by decide +kernel
theorem dX5_hold_19 : decode cX5_hold 19 = .ok (.ireturn, 1) := by decide +kernel
theorem dX5_hold_20 : decode cX5_hold 20 = .ok (.aload_n 0, 1) := by decide +kernel
theorem dX5_hold_21 : decode cX5_hold 21 = .ok (.invokevirtual 103, 3) := by decide +kernel
theorem dX5_hold_24 : decode cX5_hold 24 = .ok (.aload_n 0, 1) := by decide +kernel
theorem dX5_hold_25 : decode cX5_hold 25 = .ok (.getfield 7, 3) := by decide +kernel
theorem dX5_hold_28 : decode cX5_hold 28 = .ok (.bipush 11, 2) := by decide +kernel
theorem dX5_hold_30 : decode cX5_hold 30 = .ok (.iload_n 1, 1) := by decide +kernel
theorem dX5_hold_31 : decode cX5_hold 31 = .ok (.iadd, 1) := by decide +kernel
theorem dX5_hold_32 : decode cX5_hold 32 = .ok (.iaload, 1) := by decide +kernel
theorem dX5_hold_33 : decode cX5_hold 33 = .ok (.istore_n 3, 1) := by decide +kernel
theorem dX5_hold_34 : decode cX5_hold 34 = .ok (.aload_n 0, 1) := by decide +kernel
theorem dX5_hold_35 : decode cX5_hold 35 = .ok (.getfield 7, 3) := by decide +kernel
theorem dX5_hold_38 : decode cX5_hold 38 = .ok (.bipush 11, 2) := by decide +kernel
theorem dX5_hold_40 : decode cX5_hold 40 = .ok (.iload_n 1, 1) := by decide +kernel
theorem dX5_hold_41 : decode cX5_hold 41 = .ok (.iadd, 1) := by decide +kernel
theorem dX5_hold_42 : decode cX5_hold 42 = .ok (.iload_n 2, 1) := by decide +kernel
theorem dX5_hold_43 : decode cX5_hold 43 = .ok (.iastore, 1) := by decide +kernel
theorem dX5_hold_44 : decode cX5_hold 44 = .ok (.aload_n 0, 1) := by decide +kernel
theorem dX5_hold_45 : decode cX5_hold 45 = .ok (.invokevirtual 99, 3) := by decide +kernel
theorem dX5_hold_48 : decode cX5_hold 48 = .ok (.istore 4, 2) := by decide +kernel
theorem dX5_hold_50 : decode cX5_hold 50 = .ok (.iload_n 3, 1) := by decide +kernel
theorem dX5_hold_51 : decode cX5_hold 51 = .ok (.ireturn, 1) := by decide +kernel
theorem dX5_isPush_0 : decode cX5_isPush 0 = .ok (.aload_n 0, 1) := by decide +kernel
theorem dX5_isPush_1 : decode cX5_isPush 1 = .ok (.iload_n 1, 1) := by decide +kernel
theorem dX5_isPush_2 : decode cX5_isPush 2 = .ok (.invokevirtual 64, 3) := by decide +kernel
theorem dX5_isPush_5 : decode cX5_isPush 5 = .ok (.ifCond .eq 21, 3) := by decide +kernel
theorem dX5_isPush_8 : decode cX5_isPush 8 = .ok (.iload_n 2, 1) := by decide +kernel
theorem dX5_isPush_9 : decode cX5_isPush 9 = .ok (.bipush (-4), 2) := by decide +kernel
theorem dX5_isPush_11 : decode cX5_isPush 11 = .ok (.iconst 4, 1) := by decide +kernel
theorem dX5_isPush_12 : decode cX5_isPush 12 = .ok (.invokestatic 52, 3) := by decide +kernel
theorem dX5_isPush_15 : decode cX5_isPush 15 = .ok (.ifCond .eq 11, 3) := by decide +kernel
theorem dX5_isPush_18 : decode cX5_isPush 18 = .ok (.iload_n 2, 1) := by decide +kernel
theorem dX5_isPush_19 : decode cX5_isPush 19 = .ok (.ifCond .eq 7, 3) := by decide +kernel
theorem dX5_isPush_22 : decode cX5_isPush 22 = .ok (.iconst 1, 1) := by decide +kernel
theorem dX5_isPush_23 : decode cX5_isPush 23 = .ok (.goto 4, 3) := by decide +kernel
theorem dX5_isPush_26 : decode cX5_isPush 26 = .ok (.iconst 0, 1) := by decide +kernel
theorem dX5_isPush_27 : decode cX5_isPush 27 = .ok (.ireturn, 1) := by decide +kernel
theorem dX5_push_0 : decode cX5_push 0 = .ok (.aload_n 0, 1) := by decide +kernel
theorem dX5_push_1 : decode cX5_push 1 = .ok (.iload_n 1, 1) := by decide +kernel
theorem dX5_push_2 : decode cX5_push 2 = .ok (.iload_n 2, 1) := by decide +kernel
theorem dX5_push_3 : decode cX5_push 3 = .ok (.invokevirtual 119, 3) := by decide +kernel
theorem dX5_push_6 : decode cX5_push 6 = .ok (.ifCond .ne 6, 3) := by decide +kernel
theorem dX5_push_9 : decode cX5_push 9 = .ok (.ldc 102, 2) := by decide +kernel
theorem dX5_push_11 : decode cX5_push 11 = .ok (.ireturn, 1) := by decide +kernel
theorem dX5_push_12 : decode cX5_push 12 = .ok (.aload_n 0, 1) := by decide +kernel
theorem dX5_push_13 : decode cX5_push 13 = .ok (.getfield 7, 3) := by decide +kernel
theorem dX5_push_16 : decode cX5_push 16 = .ok (.bipush 11, 2) := by decide +kernel
theorem dX5_push_18 : decode cX5_push 18 = .ok (.iload_n 1, 1) := by decide +kernel
theorem dX5_push_19 : decode cX5_push 19 = .ok (.iadd, 1) := by decide +kernel
theorem dX5_push_20 : decode cX5_push 20 = .ok (.iaload, 1) := by decide +kernel
theorem dX5_push_21 : decode cX5_push 21 = .ok (.iconst 1, 1) := by decide +kernel
theorem dX5_push_22 : decode cX5_push 22 = .ok (.if_icmp .ne 6, 3) := by decide +kernel
theorem dX5_push_25 : decode cX5_push 25 = .ok (.ldc 59, 2) := by decide +kernel
theorem dX5_push_27 : decode cX5_push 27 = .ok (.ireturn, 1) := by decide +kernel
theorem dX5_push_28 : decode cX5_push 28 = .ok (.aload_n 0, 1) := by decide +kernel
theorem dX5_push_29 : decode cX5_push 29 = .ok (.invokevirtual 103, 3) := by decide +kernel
theorem dX5_push_32 : decode cX5_push 32 = .ok (.aload_n 0, 1) := by decide +kernel
theorem dX5_push_33 : decode cX5_push 33 = .ok (.invokevirtual 95, 3) := by decide +kernel
theorem dX5_push_36 : decode cX5_push 36 = .ok (.istore_n 3, 1) := by decide +kernel
theorem dX5_push_37 : decode cX5_push 37 = .ok (.aload_n 0, 1) := by decide +kernel
theorem dX5_push_38 : decode cX5_push 38 = .ok (.getfield 7, 3) := by decide +kernel
theorem dX5_push_41 : decode cX5_push 41 = .ok (.iconst 1, 1) := by decide +kernel
theorem dX5_push_42 : decode cX5_push 42 = .ok (.iload_n 1, 1) := by decide +kernel
theorem dX5_push_43 : decode cX5_push 43 = .ok (.iadd, 1) := by decide +kernel
theorem dX5_push_44 : decode cX5_push 44 = .ok (.aload_n 0, 1) := by decide +kernel
theorem dX5_push_45 : decode cX5_push 45 = .ok (.iload_n 1, 1) := by decide +kernel
theorem dX5_push_46 : decode cX5_push 46 = .ok (.invokevirtual 68, 3) := by decide +kernel
theorem dX5_push_49 : decode cX5_push 49 = .ok (.iload_n 2, 1) := by decide +kernel
theorem dX5_push_50 : decode cX5_push 50 = .ok (.invokestatic 85, 3) := by decide +kernel
theorem dX5_push_53 : decode cX5_push 53 = .ok (.iastore, 1) := by decide +kernel
theorem dX5_push_54 : decode cX5_push 54 = .ok (.aload_n 0, 1) := by decide +kernel
theorem dX5_push_55 : decode cX5_push 55 = .ok (.getfield 7, 3) := by decide +kernel
theorem dX5_push_58 : decode cX5_push 58 = .ok (.bipush 38, 2) := by decide +kernel
theorem dX5_push_60 : decode cX5_push 60 = .ok (.dup2, 1) := by decide +kernel
theorem dX5_push_61 : decode cX5_push 61 = .ok (.iaload, 1) := by decide +kernel
theorem dX5_push_62 : decode cX5_push 62 = .ok (.iconst 1, 1) := by decide +kernel
theorem dX5_push_63 : decode cX5_push 63 = .ok (.iadd, 1) := by decide +kernel
theorem dX5_push_64 : decode cX5_push 64 = .ok (.iastore, 1) := by decide +kernel
theorem dX5_push_65 : decode cX5_push 65 = .ok (.aload_n 0, 1) := by decide +kernel
theorem dX5_push_66 : decode cX5_push 66 = .ok (.iload_n 3, 1) := by decide +kernel
theorem dX5_push_67 : decode cX5_push 67 = .ok (.invokevirtual 107, 3) := by decide +kernel
theorem dX5_push_70 : decode cX5_push 70 = .ok (.ireturn, 1) := by decide +kernel
theorem dX5_set_0 : decode cX5_set 0 = .ok (.iload_n 1, 1) := by decide +kernel
theorem dX5_set_1 : decode cX5_set 1 = .ok (.iconst 0, 1) := by decide +kernel
theorem dX5_set_2 : decode cX5_set 2 = .ok (.iconst 3, 1) := by decide +kernel
theorem dX5_set_3 : decode cX5_set 3 = .ok (.invokestatic 52, 3) := by decide +kernel
theorem dX5_set_6 : decode cX5_set 6 = .ok (.ifCond .eq 43, 3) := by decide +kernel
theorem dX5_set_9 : decode cX5_set 9 = .ok (.iload_n 2, 1) := by decide +kernel
theorem dX5_set_10 : decode cX5_set 10 = .ok (.iconst 0, 1) := by decide +kernel
theorem dX5_set_11 : decode cX5_set 11 = .ok (.iload_n 1, 1) := by decide +kernel
theorem dX5_set_12 : decode cX5_set 12 = .ok (.ifCond .ne 8, 3) := by decide +kernel
theorem dX5_set_15 : decode cX5_set 15 = .ok (.bipush 20, 2) := by decide +kernel
theorem dX5_set_17 : decode cX5_set 17 = .ok (.goto 26, 3) := by decide +kernel
theorem dX5_set_20 : decode cX5_set 20 = .ok (.iload_n 1, 1) := by decide +kernel
theorem dX5_set_21 : decode cX5_set 21 = .ok (.iconst 1, 1) := by decide +kernel
theorem dX5_set_22 : decode cX5_set 22 = .ok (.if_icmp .ne 9, 3) := by decide +kernel
theorem dX5_set_25 : decode cX5_set 25 = .ok (.sipush 2000, 3) := by decide +kernel
theorem dX5_set_28 : decode cX5_set 28 = .ok (.goto 15, 3) := by decide +kernel
theorem dX5_set_31 : decode cX5_set 31 = .ok (.iload_n 1, 1) := by decide +kernel
theorem dX5_set_32 : decode cX5_set 32 = .ok (.iconst 2, 1) := by decide +kernel
theorem dX5_set_33 : decode cX5_set 33 = .ok (.if_icmp .ne 8, 3) := by decide +kernel
theorem dX5_set_36 : decode cX5_set 36 = .ok (.bipush 100, 2) := by decide +kernel
theorem dX5_set_38 : decode cX5_set 38 = .ok (.goto 5, 3) := by decide +kernel
theorem dX5_set_41 : decode cX5_set 41 = .ok (.bipush 7, 2) := by decide +kernel
theorem dX5_set_43 : decode cX5_set 43 = .ok (.invokestatic 52, 3) := by decide +kernel
theorem dX5_set_46 : decode cX5_set 46 = .ok (.ifCond .ne 6, 3) := by decide +kernel
theorem dX5_set_49 : decode cX5_set 49 = .ok (.ldc 102, 2) := by decide +kernel
theorem dX5_set_51 : decode cX5_set 51 = .ok (.ireturn, 1) := by decide +kernel
theorem dX5_set_52 : decode cX5_set 52 = .ok (.aload_n 0, 1) := by decide +kernel
theorem dX5_set_53 : decode cX5_set 53 = .ok (.invokevirtual 103, 3) := by decide +kernel
theorem dX5_set_56 : decode cX5_set 56 = .ok (.aload_n 0, 1) := by decide +kernel
theorem dX5_set_57 : decode cX5_set 57 = .ok (.invokevirtual 95, 3) := by decide +kernel
theorem dX5_set_60 : decode cX5_set 60 = .ok (.istore_n 3, 1) := by decide +kernel
theorem dX5_set_61 : decode cX5_set 61 = .ok (.aload_n 0, 1) := by decide +kernel
theorem dX5_set_62 : decode cX5_set 62 = .ok (.getfield 7, 3) := by decide +kernel
theorem dX5_set_65 : decode cX5_set 65 = .ok (.bipush 31, 2) := by decide +kernel
theorem dX5_set_67 : decode cX5_set 67 = .ok (.iload_n 1, 1) := by decide +kernel
theorem dX5_set_68 : decode cX5_set 68 = .ok (.iadd, 1) := by decide +kernel
theorem dX5_set_69 : decode cX5_set 69 = .ok (.iload_n 2, 1) := by decide +kernel
theorem dX5_set_70 : decode cX5_set 70 = .ok (.iastore, 1) := by decide +kernel
theorem dX5_set_71 : decode cX5_set 71 = .ok (.aload_n 0, 1) := by decide +kernel
theorem dX5_set_72 : decode cX5_set 72 = .ok (.iload_n 3, 1) := by decide +kernel
theorem dX5_set_73 : decode cX5_set 73 = .ok (.invokevirtual 107, 3) := by decide +kernel
theorem dX5_set_76 : decode cX5_set 76 = .ok (.ireturn, 1) := by decide +kernel
theorem dX5_goal_0 : decode cX5_goal 0 = .ok (.aload_n 0, 1) := by decide +kernel
theorem dX5_goal_1 : decode cX5_goal 1 = .ok (.iload_n 1, 1) := by decide +kernel
theorem dX5_goal_2 : decode cX5_goal 2 = .ok (.invokevirtual 64, 3) := by decide +kernel
theorem dX5_goal_5 : decode cX5_goal 5 = .ok (.ifCond .eq 19, 3) := by decide +kernel
theorem dX5_goal_8 : decode cX5_goal 8 = .ok (.iload_n 2, 1) := by decide +kernel
theorem dX5_goal_9 : decode cX5_goal 9 = .ok (.iconst 0, 1) := by decide +kernel
theorem dX5_goal_10 : decode cX5_goal 10 = .ok (.bipush 7, 2) := by decide +kernel
theorem dX5_goal_12 : decode cX5_goal 12 = .ok (.invokestatic 52, 3) := by decide +kernel
theorem dX5_goal_15 : decode cX5_goal 15 = .ok (.ifCond .ne 12, 3) := by decide +kernel
theorem dX5_goal_18 : decode cX5_goal 18 = .ok (.iload_n 2, 1) := by decide +kernel
theorem dX5_goal_19 : decode cX5_goal 19 = .ok (.ldc 25, 2) := by decide +kernel
theorem dX5_goal_21 : decode cX5_goal 21 = .ok (.if_icmp .eq 6, 3) := by decide +kernel
theorem dX5_goal_24 : decode cX5_goal 24 = .ok (.ldc 102, 2) := by decide +kernel
theorem dX5_goal_26 : decode cX5_goal 26 = .ok (.ireturn, 1) := by decide +kernel
theorem dX5_goal_27 : decode cX5_goal 27 = .ok (.aload_n 0, 1) := by decide +kernel
theorem dX5_goal_28 : decode cX5_goal 28 = .ok (.invokevirtual 103, 3) := by decide +kernel
theorem dX5_goal_31 : decode cX5_goal 31 = .ok (.aload_n 0, 1) := by decide +kernel
theorem dX5_goal_32 : decode cX5_goal 32 = .ok (.getfield 7, 3) := by decide +kernel
theorem dX5_goal_35 : decode cX5_goal 35 = .ok (.bipush 21, 2) := by decide +kernel
theorem dX5_goal_37 : decode cX5_goal 37 = .ok (.iload_n 1, 1) := by decide +kernel
theorem dX5_goal_38 : decode cX5_goal 38 = .ok (.iadd, 1) := by decide +kernel
theorem dX5_goal_39 : decode cX5_goal 39 = .ok (.iaload, 1) := by decide +kernel
theorem dX5_goal_40 : decode cX5_goal 40 = .ok (.istore_n 3, 1) := by decide +kernel
theorem dX5_goal_41 : decode cX5_goal 41 = .ok (.aload_n 0, 1) := by decide +kernel
theorem dX5_goal_42 : decode cX5_goal 42 = .ok (.getfield 7, 3) := by decide +kernel
theorem dX5_goal_45 : decode cX5_goal 45 = .ok (.bipush 21, 2) := by decide +kernel
theorem dX5_goal_47 : decode cX5_goal 47 = .ok (.iload_n 1, 1) := by decide +kernel
theorem dX5_goal_48 : decode cX5_goal 48 = .ok (.iadd, 1) := by decide +kernel
theorem dX5_goal_49 : decode cX5_goal 49 = .ok (.iload_n 2, 1) := by decide +kernel
theorem dX5_goal_50 : decode cX5_goal 50 = .ok (.iastore, 1) := by decide +kernel
theorem dX5_goal_51 : decode cX5_goal 51 = .ok (.aload_n 0, 1) := by decide +kernel
theorem dX5_goal_52 : decode cX5_goal 52 = .ok (.invokevirtual 99, 3) := by decide +kernel
theorem dX5_goal_55 : decode cX5_goal 55 = .ok (.istore 4, 2) := by decide +kernel
theorem dX5_goal_57 : decode cX5_goal 57 = .ok (.iload_n 3, 1) := by decide +kernel
theorem dX5_goal_58 : decode cX5_goal 58 = .ok (.ireturn, 1) := by decide +kernel
theorem dX5_unsolved_0 : decode cX5_unsolved 0 = .ok (.iconst 0, 1) := by decide +kernel
theorem dX5_unsolved_1 : decode cX5_unsolved 1 = .ok (.istore_n 1, 1) := by decide +kernel
