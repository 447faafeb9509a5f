theorem dX5_search_152 : decode cX5_search 152 = .ok (.iload_n 1, 1) := by decide +kernel
theorem dX5_search_153 : decode cX5_search 153 = .ok (.iconst 1, 1) := by decide +kernel
theorem dX5_search_154 : decode cX5_search 154 = .ok (.isub, 1) := by decide +kernel
theorem dX5_search_155 : decode cX5_search 155 = .ok (.if_icmp .ne 16, 3) := by decide +kernel
theorem dX5_search_158 : decode cX5_search 158 = .ok (.aload_n 0, 1) := by decide +kernel
theorem dX5_search_159 : decode cX5_search 159 = .ok (.getfield 39, 3) := by decide +kernel
theorem dX5_search_162 : decode cX5_search 162 = .ok (.iload_n 2, 1) := by decide +kernel
theorem dX5_search_163 : decode cX5_search 163 = .ok (.dup2, 1) := by decide +kernel
theorem dX5_search_164 : decode cX5_search 164 = .ok (.iaload, 1) := by decide +kernel
theorem dX5_search_165 : decode cX5_search 165 = .ok (.iconst 1, 1) := by decide +kernel
theorem dX5_search_166 : decode cX5_search 166 = .ok (.iadd, 1) := by decide +kernel
theorem dX5_search_167 : decode cX5_search 167 = .ok (.iastore, 1) := by decide +kernel
theorem dX5_search_168 : decode cX5_search 168 = .ok (.goto 18, 3) := by decide +kernel
theorem dX5_search_171 : decode cX5_search 171 = .ok (.iinc 2 1, 3) := by decide +kernel
theorem dX5_search_174 : decode cX5_search 174 = .ok (.aload_n 0, 1) := by decide +kernel
theorem dX5_search_175 : decode cX5_search 175 = .ok (.getfield 39, 3) := by decide +kernel
theorem dX5_search_178 : decode cX5_search 178 = .ok (.iload_n 2, 1) := by decide +kernel
theorem dX5_search_179 : decode cX5_search 179 = .ok (.iconst 0, 1) := by decide +kernel
theorem dX5_search_180 : decode cX5_search 180 = .ok (.iastore, 1) := by decide +kernel
theorem dX5_search_181 : decode cX5_search 181 = .ok (.aload_n 0, 1) := by decide +kernel
theorem dX5_search_182 : decode cX5_search 182 = .ok (.iload_n 2, 1) := by decide +kernel
theorem dX5_search_183 : decode cX5_search 183 = .ok (.invokevirtual 162, 3) := by decide +kernel
theorem dX5_search_186 : decode cX5_search 186 = .ok (.goto (-172), 3) := by decide +kernel
theorem dX5_search_189 : decode cX5_search 189 = .ok (.iconst 0, 1) := by decide +kernel
theorem dX5_search_190 : decode cX5_search 190 = .ok (.ireturn, 1) := by decide +kernel
theorem dX5_isSolvedBy_0 : decode cX5_isSolvedBy 0 = .ok (.iload_n 1, 1) := by decide +kernel
theorem dX5_isSolvedBy_1 : decode cX5_isSolvedBy 1 = .ok (.ifCond .ne 16, 3) := by decide +kernel
theorem dX5_isSolvedBy_4 : decode cX5_isSolvedBy 4 = .ok (.aload_n 0, 1) := by decide +kernel
theorem dX5_isSolvedBy_5 : decode cX5_isSolvedBy 5 = .ok (.invokevirtual 126, 3) := by decide +kernel
theorem dX5_isSolvedBy_8 : decode cX5_isSolvedBy 8 = .ok (.ifCond .ne 7, 3) := by decide +kernel
theorem dX5_isSolvedBy_11 : decode cX5_isSolvedBy 11 = .ok (.iconst 1, 1) := by decide +kernel
theorem dX5_isSolvedBy_12 : decode cX5_isSolvedBy 12 = .ok (.goto 4, 3) := by decide +kernel
theorem dX5_isSolvedBy_15 : decode cX5_isSolvedBy 15 = .ok (.iconst 0, 1) := by decide +kernel
theorem dX5_isSolvedBy_16 : decode cX5_isSolvedBy 16 = .ok (.ireturn, 1) := by decide +kernel
theorem dX5_isSolvedBy_17 : decode cX5_isSolvedBy 17 = .ok (.aload_n 0, 1) := by decide +kernel
theorem dX5_isSolvedBy_18 : decode cX5_isSolvedBy 18 = .ok (.invokevirtual 138, 3) := by decide +kernel
theorem dX5_isSolvedBy_21 : decode cX5_isSolvedBy 21 = .ok (.aload_n 0, 1) := by decide +kernel
theorem dX5_isSolvedBy_22 : decode cX5_isSolvedBy 22 = .ok (.iload_n 1, 1) := by decide +kernel
theorem dX5_isSolvedBy_23 : decode cX5_isSolvedBy 23 = .ok (.invokevirtual 171, 3) := by decide +kernel
theorem dX5_isSolvedBy_26 : decode cX5_isSolvedBy 26 = .ok (.istore_n 2, 1) := by decide +kernel
theorem dX5_isSolvedBy_27 : decode cX5_isSolvedBy 27 = .ok (.aload_n 0, 1) := by decide +kernel
theorem dX5_isSolvedBy_28 : decode cX5_isSolvedBy 28 = .ok (.invokevirtual 141, 3) := by decide +kernel
theorem dX5_isSolvedBy_31 : decode cX5_isSolvedBy 31 = .ok (.iload_n 2, 1) := by decide +kernel
theorem dX5_isSolvedBy_32 : decode cX5_isSolvedBy 32 = .ok (.ireturn, 1) := by decide +kernel
theorem dX5_solve_0 : decode cX5_solve 0 = .ok (.iload_n 1, 1) := by decide +kernel
theorem dX5_solve_1 : decode cX5_solve 1 = .ok (.iconst 0, 1) := by decide +kernel
theorem dX5_solve_2 : decode cX5_solve 2 = .ok (.iconst 3, 1) := by decide +kernel
theorem dX5_solve_3 : decode cX5_solve 3 = .ok (.invokestatic 52, 3) := by decide +kernel
theorem dX5_solve_6 : decode cX5_solve 6 = .ok (.ifCond .eq 12, 3) := by decide +kernel
theorem dX5_solve_9 : decode cX5_solve 9 = .ok (.iload_n 2, 1) := by decide +kernel
theorem dX5_solve_10 : decode cX5_solve 10 = .ok (.iconst 0, 1) := by decide +kernel
theorem dX5_solve_11 : decode cX5_solve 11 = .ok (.iconst 2, 1) := by decide +kernel
theorem dX5_solve_12 : decode cX5_solve 12 = .ok (.invokestatic 52, 3) := by decide +kernel
theorem dX5_solve_15 : decode cX5_solve 15 = .ok (.ifCond .ne 6, 3) := by decide +kernel
theorem dX5_solve_18 : decode cX5_solve 18 = .ok (.ldc 102, 2) := by decide +kernel
theorem dX5_solve_20 : decode cX5_solve 20 = .ok (.ireturn, 1) := by decide +kernel
theorem dX5_solve_21 : decode cX5_solve 21 = .ok (.iconst 0, 1) := by decide +kernel
theorem dX5_solve_22 : decode cX5_solve 22 = .ok (.istore_n 3, 1) := by decide +kernel
theorem dX5_solve_23 : decode cX5_solve 23 = .ok (.iload_n 3, 1) := by decide +kernel
theorem dX5_solve_24 : decode cX5_solve 24 = .ok (.iload_n 1, 1) := by decide +kernel
theorem dX5_solve_25 : decode cX5_solve 25 = .ok (.if_icmp .gt 67, 3) := by decide +kernel
theorem dX5_solve_28 : decode cX5_solve 28 = .ok (.aload_n 0, 1) := by decide +kernel
theorem dX5_solve_29 : decode cX5_solve 29 = .ok (.iload_n 3, 1) := by decide +kernel
theorem dX5_solve_30 : decode cX5_solve 30 = .ok (.invokevirtual 174, 3) := by decide +kernel
theorem dX5_solve_33 : decode cX5_solve 33 = .ok (.ifCond .eq 53, 3) := by decide +kernel
theorem dX5_solve_36 : decode cX5_solve 36 = .ok (.aload_n 0, 1) := by decide +kernel
theorem dX5_solve_37 : decode cX5_solve 37 = .ok (.getfield 39, 3) := by decide +kernel
theorem dX5_solve_40 : decode cX5_solve 40 = .ok (.iconst 0, 1) := by decide +kernel
theorem dX5_solve_41 : decode cX5_solve 41 = .ok (.iaload, 1) := by decide +kernel
theorem dX5_solve_42 : decode cX5_solve 42 = .ok (.istore 4, 2) := by decide +kernel
theorem dX5_solve_44 : decode cX5_solve 44 = .ok (.iload_n 2, 1) := by decide +kernel
theorem dX5_solve_45 : decode cX5_solve 45 = .ok (.ifCond .ne 7, 3) := by decide +kernel
theorem dX5_solve_48 : decode cX5_solve 48 = .ok (.iload_n 3, 1) := by decide +kernel
theorem dX5_solve_49 : decode cX5_solve 49 = .ok (.goto 36, 3) := by decide +kernel
theorem dX5_solve_52 : decode cX5_solve 52 = .ok (.iload_n 3, 1) := by decide +kernel
theorem dX5_solve_53 : decode cX5_solve 53 = .ok (.ifCond .ne 8, 3) := by decide +kernel
theorem dX5_solve_56 : decode cX5_solve 56 = .ok (.ldc 25, 2) := by decide +kernel
theorem dX5_solve_58 : decode cX5_solve 58 = .ok (.goto 27, 3) := by decide +kernel
theorem dX5_solve_61 : decode cX5_solve 61 = .ok (.iload_n 2, 1) := by decide +kernel
theorem dX5_solve_62 : decode cX5_solve 62 = .ok (.iconst 1, 1) := by decide +kernel
theorem dX5_solve_63 : decode cX5_solve 63 = .ok (.if_icmp .ne 10, 3) := by decide +kernel
theorem dX5_solve_66 : decode cX5_solve 66 = .ok (.iload 4, 2) := by decide +kernel
theorem dX5_solve_68 : decode cX5_solve 68 = .ok (.iconst 2, 1) := by decide +kernel
theorem dX5_solve_69 : decode cX5_solve 69 = .ok (.idiv, 1) := by decide +kernel
theorem dX5_solve_70 : decode cX5_solve 70 = .ok (.goto 15, 3) := by decide +kernel
theorem dX5_solve_73 : decode cX5_solve 73 = .ok (.iload 4, 2) := by decide +kernel
theorem dX5_solve_75 : decode cX5_solve 75 = .ok (.iconst 2, 1) := by decide +kernel
theorem dX5_solve_76 : decode cX5_solve 76 = .ok (.irem, 1) := by decide +kernel
theorem dX5_solve_77 : decode cX5_solve 77 = .ok (.ifCond .ne 7, 3) := by decide +kernel
theorem dX5_solve_80 : decode cX5_solve 80 = .ok (.iconst 1, 1) := by decide +kernel
theorem dX5_solve_81 : decode cX5_solve 81 = .ok (.goto 4, 3) := by decide +kernel
theorem dX5_solve_84 : decode cX5_solve 84 = .ok (.iconst (-1), 1) := by decide +kernel
theorem dX5_solve_85 : decode cX5_solve 85 = .ok (.ireturn, 1) := by decide +kernel
theorem dX5_solve_86 : decode cX5_solve 86 = .ok (.iinc 3 1, 3) := by decide +kernel
theorem dX5_solve_89 : decode cX5_solve 89 = .ok (.goto (-66), 3) := by decide +kernel
theorem dX5_solve_92 : decode cX5_solve 92 = .ok (.ldc 25, 2) := by decide +kernel
theorem dX5_solve_94 : decode cX5_solve 94 = .ok (.ireturn, 1) := by decide +kernel
theorem dX5_write_0 : decode cX5_write 0 = .ok (.iload_n 1, 1) := by decide +kernel
theorem dX5_write_1 : decode cX5_write 1 = .ok (.bipush 32, 2) := by decide +kernel
theorem dX5_write_3 : decode cX5_write 3 = .ok (.bipush 126, 2) := by decide +kernel
theorem dX5_write_5 : decode cX5_write 5 = .ok (.invokestatic 52, 3) := by decide +kernel
theorem dX5_write_8 : decode cX5_write 8 = .ok (.ifCond .ne 6, 3) := by decide +kernel
theorem dX5_write_11 : decode cX5_write 11 = .ok (.ldc 102, 2) := by decide +kernel
theorem dX5_write_13 : decode cX5_write 13 = .ok (.ireturn, 1) := by decide +kernel
theorem dX5_write_14 : decode cX5_write 14 = .ok (.aload_n 0, 1) := by decide +kernel
theorem dX5_write_15 : decode cX5_write 15 = .ok (.getfield 132, 3) := by decide +kernel
theorem dX5_write_18 : decode cX5_write 18 = .ok (.bipush 40, 2) := by decide +kernel
theorem dX5_write_20 : decode cX5_write 20 = .ok (.if_icmp .ne 6, 3) := by decide +kernel
theorem dX5_write_23 : decode cX5_write 23 = .ok (.ldc 106, 2) := by decide +kernel
theorem dX5_write_25 : decode cX5_write 25 = .ok (.ireturn, 1) := by decide +kernel
theorem dX5_write_26 : decode cX5_write 26 = .ok (.aload_n 0, 1) := by decide +kernel
theorem dX5_write_27 : decode cX5_write 27 = .ok (.getfield 22, 3) := by decide +kernel
theorem dX5_write_30 : decode cX5_write 30 = .ok (.aload_n 0, 1) := by decide +kernel
theorem dX5_write_31 : decode cX5_write 31 = .ok (.getfield 132, 3) := by decide +kernel
theorem dX5_write_34 : decode cX5_write 34 = .ok (.iload_n 1, 1) := by decide +kernel
theorem dX5_write_35 : decode cX5_write 35 = .ok (.iastore, 1) := by decide +kernel
theorem dX5_write_36 : decode cX5_write 36 = .ok (.aload_n 0, 1) := by decide +kernel
theorem dX5_write_37 : decode cX5_write 37 = .ok (.dup, 1) := by decide +kernel
theorem dX5_write_38 : decode cX5_write 38 = .ok (.getfield 132, 3) := by decide +kernel
theorem dX5_write_41 : decode cX5_write 41 = .ok (.iconst 1, 1) := by decide +kernel
theorem dX5_write_42 : decode cX5_write 42 = .ok (.iadd, 1) := by decide +kernel
theorem dX5_write_43 : decode cX5_write 43 = .ok (.putfield 132, 3) := by decide +kernel
theorem dX5_write_46 : decode cX5_write 46 = .ok (.aload_n 0, 1) := by decide +kernel
theorem dX5_write_47 : decode cX5_write 47 = .ok (.getfield 132, 3) := by decide +kernel
theorem dX5_write_50 : decode cX5_write 50 = .ok (.ireturn, 1) := by decide +kernel
theorem dX5_wipe_0 : decode cX5_wipe 0 = .ok (.aload_n 0, 1) := by decide +kernel
theorem dX5_wipe_1 : decode cX5_wipe 1 = .ok (.getfield 132, 3) := by decide +kernel
theorem dX5_wipe_4 : decode cX5_wipe 4 = .ok (.istore_n 1, 1) := by decide +kernel
theorem dX5_wipe_5 : decode cX5_wipe 5 = .ok (.aload_n 0, 1) := by decide +kernel
theorem dX5_wipe_6 : decode cX5_wipe 6 = .ok (.iconst 0, 1) := by decide +kernel
theorem dX5_wipe_7 : decode cX5_wipe 7 = .ok (.putfield 132, 3) := by decide +kernel
theorem dX5_wipe_10 : decode cX5_wipe 10 = .ok (.iload_n 1, 1) := by decide +kernel
theorem dX5_wipe_11 : decode cX5_wipe 11 = .ok (.ireturn, 1) := by decide +kernel
theorem dX5_fails_0 : decode cX5_fails 0 = .ok (.aload_n 0, 1) := by decide +kernel
theorem dX5_fails_1 : decode cX5_fails 1 = .ok (.iload_n 1, 1) := by decide +kernel
theorem dX5_fails_2 : decode cX5_fails 2 = .ok (.putfield 177, 3) := by decide +kernel
theorem dX5_fails_5 : decode cX5_fails 5 = .ok (.aload_n 0, 1) := by decide +kernel
theorem dX5_fails_6 : decode cX5_fails 6 = .ok (.iload_n 2, 1) := by decide +kernel
theorem dX5_fails_7 : decode cX5_fails 7 = .ok (.putfield 180, 3) := by decide +kernel
theorem dX5_fails_10 : decode cX5_fails 10 = .ok (.return_, 1) := by decide +kernel
theorem dX5_readByte_0 : decode cX5_readByte 0 = .ok (.aload_n 0, 1) := by decide +kernel
theorem dX5_readByte_1 : decode cX5_readByte 1 = .ok (.getfield 22, 3) := by decide +kernel
theorem dX5_readByte_4 : decode cX5_readByte 4 = .ok (.iload_n 1, 1) := by decide +kernel
theorem dX5_readByte_5 : decode cX5_readByte 5 = .ok (.iaload, 1) := by decide +kernel
theorem dX5_readByte_6 : decode cX5_readByte 6 = .ok (.istore_n 2, 1) := by decide +kernel
theorem dX5_readByte_7 : decode cX5_readByte 7 = .ok (.iload_n 1, 1) := by decide +kernel
theorem dX5_readByte_8 : decode cX5_readByte 8 = .ok (.ifCond .le 25, 3) := by decide +kernel
theorem dX5_readByte_11 : decode cX5_readByte 11 = .ok (.aload_n 0, 1) := by decide +kernel
theorem dX5_readByte_12 : decode cX5_readByte 12 = .ok (.getfield 22, 3) := by decide +kernel
theorem dX5_readByte_15 : decode cX5_readByte 15 = .ok (.iload_n 1, 1) := by decide +kernel
theorem dX5_readByte_16 : decode cX5_readByte 16 = .ok (.iconst 1, 1) := by decide +kernel
theorem dX5_readByte_17 : decode cX5_readByte 17 = .ok (.isub, 1) := by decide +kernel
theorem dX5_readByte_18 : decode cX5_readByte 18 = .ok (.iaload, 1) := by decide +kernel
theorem dX5_readByte_19 : decode cX5_readByte 19 = .ok (.bipush 48, 2) := by decide +kernel
theorem dX5_readByte_21 : decode cX5_readByte 21 = .ok (.bipush 55, 2) := by decide +kernel
theorem dX5_readByte_23 : decode cX5_readByte 23 = .ok (.invokestatic 52, 3) := by decide +kernel
theorem dX5_readByte_26 : decode cX5_readByte 26 = .ok (.ifCond .eq 7, 3) := by decide +kernel
theorem dX5_readByte_29 : decode cX5_readByte 29 = .ok (.iconst 1, 1) := by decide +kernel
theorem dX5_readByte_30 : decode cX5_readByte 30 = .ok (.goto 4, 3) := by decide +kernel
theorem dX5_readByte_33 : decode cX5_readByte 33 = .ok (.iconst 0, 1) := by decide +kernel
theorem dX5_readByte_34 : decode cX5_readByte 34 = .ok (.istore_n 3, 1) := by decide +kernel
theorem dX5_readByte_35 : decode cX5_readByte 35 = .ok (.iload_n 2, 1) := by decide +kernel
theorem dX5_readByte_36 : decode cX5_readByte 36 = .ok (.bipush 48, 2) := by decide +kernel
theorem dX5_readByte_38 : decode cX5_readByte 38 = .ok (.bipush 55, 2) := by decide +kernel
theorem dX5_readByte_40 : decode cX5_readByte 40 = .ok (.invokestatic 52, 3) := by decide +kernel
theorem dX5_readByte_43 : decode cX5_readByte 43 = .ok (.ifCond .eq 55, 3) := by decide +kernel
theorem dX5_readByte_46 : decode cX5_readByte 46 = .ok (.aload_n 0, 1) := by decide +kernel
theorem dX5_readByte_47 : decode cX5_readByte 47 = .ok (.getfield 183, 3) := by decide +kernel
theorem dX5_readByte_50 : decode cX5_readByte 50 = .ok (.bipush 10, 2) := by decide +kernel
theorem dX5_readByte_52 : decode cX5_readByte 52 = .ok (.if_icmp .ne 10, 3) := by decide +kernel
theorem dX5_readByte_55 : decode cX5_readByte 55 = .ok (.aload_n 0, 1) := by decide +kernel
theorem dX5_readByte_56 : decode cX5_readByte 56 = .ok (.iconst 2, 1) := by decide +kernel
theorem dX5_readByte_57 : decode cX5_readByte 57 = .ok (.iload_n 1, 1) := by decide +kernel
theorem dX5_readByte_58 : decode cX5_readByte 58 = .ok (.invokevirtual 186, 3) := by decide +kernel
theorem dX5_readByte_61 : decode cX5_readByte 61 = .ok (.return_, 1) := by decide +kernel
theorem dX5_readByte_62 : decode cX5_readByte 62 = .ok (.aload_n 0, 1) := by decide +kernel
theorem dX5_readByte_63 : decode cX5_readByte 63 = .ok (.getfield 42, 3) := by decide +kernel
theorem dX5_readByte_66 : decode cX5_readByte 66 = .ok (.aload_n 0, 1) := by decide +kernel
theorem dX5_readByte_67 : decode cX5_readByte 67 = .ok (.getfield 183, 3) := by decide +kernel
theorem dX5_readByte_70 : decode cX5_readByte 70 = .ok (.iload_n 2, 1) := by decide +kernel
theorem dX5_readByte_71 : decode cX5_readByte 71 = .ok (.bipush 48, 2) := by decide +kernel
theorem dX5_readByte_73 : decode cX5_readByte 73 = .ok (.isub, 1) := by decide +kernel
theorem dX5_readByte_74 : decode cX5_readByte 74 = .ok (.iastore, 1) := by decide +kernel
theorem dX5_readByte_75 : decode cX5_readByte 75 = .ok (.aload_n 0, 1) := by decide +kernel
theorem dX5_readByte_76 : decode cX5_readByte 76 = .ok (.getfield 45, 3) := by decide +kernel
theorem dX5_readByte_79 : decode cX5_readByte 79 = .ok (.aload_n 0, 1) := by decide +kernel
theorem dX5_readByte_80 : decode cX5_readByte 80 = .ok (.getfield 183, 3) := by decide +kernel
theorem dX5_readByte_83 : decode cX5_readByte 83 = .ok (.iconst 0, 1) := by decide +kernel
theorem dX5_readByte_84 : decode cX5_readByte 84 = .ok (.iastore, 1) := by decide +kernel
theorem dX5_readByte_85 : decode cX5_readByte 85 = .ok (.aload_n 0, 1) := by decide +kernel
theorem dX5_readByte_86 : decode cX5_readByte 86 = .ok (.dup, 1) := by decide +kernel
theorem dX5_readByte_87 : decode cX5_readByte 87 = .ok (.getfield 183, 3) := by decide +kernel
theorem dX5_readByte_90 : decode cX5_readByte 90 = .ok (.iconst 1, 1) := by decide +kernel
theorem dX5_readByte_91 : decode cX5_readByte 91 = .ok (.iadd, 1) := by decide +kernel
theorem dX5_readByte_92 : decode cX5_readByte 92 = .ok (.putfield 183, 3) := by decide +kernel
theorem dX5_readByte_95 : decode cX5_readByte 95 = .ok (.goto 40, 3) := by decide +kernel
theorem dX5_readByte_98 : decode cX5_readByte 98 = .ok (.iload_n 2, 1) := by decide +kernel
theorem dX5_readByte_99 : decode cX5_readByte 99 = .ok (.bipush 33, 2) := by decide +kernel
theorem dX5_readByte_101 : decode cX5_readByte 101 = .ok (.if_icmp .ne 22, 3) := by decide +kernel
theorem dX5_readByte_104 : decode cX5_readByte 104 = .ok (.iload_n 3, 1) := by decide +kernel
theorem dX5_readByte_105 : decode cX5_readByte 105 = .ok (.ifCond .eq 18, 3) := by decide +kernel
theorem dX5_readByte_108 : decode cX5_readByte 108 = .ok (.aload_n 0, 1) := by decide +kernel
theorem dX5_readByte_109 : decode cX5_readByte 109 = .ok (.getfield 45, 3) := by decide +kernel
theorem dX5_readByte_112 : decode cX5_readByte 112 = .ok (.aload_n 0, 1) := by decide +kernel
theorem dX5_readByte_113 : decode cX5_readByte 113 = .ok (.getfield 183, 3) := by decide +kernel
theorem dX5_readByte_116 : decode cX5_readByte 116 = .ok (.iconst 1, 1) := by decide +kernel
theorem dX5_readByte_117 : decode cX5_readByte 117 = .ok (.isub, 1) := by decide +kernel
theorem dX5_readByte_118 : decode cX5_readByte 118 = .ok (.iconst 1, 1) := by decide +kernel
theorem dX5_readByte_119 : decode cX5_readByte 119 = .ok (.iastore, 1) := by decide +kernel
theorem dX5_readByte_120 : decode cX5_readByte 120 = .ok (.goto 15, 3) := by decide +kernel
theorem dX5_readByte_123 : decode cX5_readByte 123 = .ok (.iload_n 2, 1) := by decide +kernel
theorem dX5_readByte_124 : decode cX5_readByte 124 = .ok (.bipush 32, 2) := by decide +kernel
theorem dX5_readByte_126 : decode cX5_readByte 126 = .ok (.if_icmp .eq 9, 3) := by decide +kernel
theorem dX5_readByte_129 : decode cX5_readByte 129 = .ok (.aload_n 0, 1) := by decide +kernel
theorem dX5_readByte_130 : decode cX5_readByte 130 = .ok (.iconst 1, 1) := by decide +kernel
theorem dX5_readByte_131 : decode cX5_readByte 131 = .ok (.iload_n 1, 1) := by decide +kernel
theorem dX5_readByte_132 : decode cX5_readByte 132 = .ok (.invokevirtual 186, 3) := by decide +kernel
theorem dX5_readByte_135 : decode cX5_readByte 135 = .ok (.return_, 1) := by decide +kernel
theorem dX5_readAll_0 : decode cX5_readAll 0 = .ok (.aload_n 0, 1) := by decide +kernel
theorem dX5_readAll_1 : decode cX5_readAll 1 = .ok (.iconst 0, 1) := by decide +kernel
theorem dX5_readAll_2 : decode cX5_readAll 2 = .ok (.putfield 183, 3) := by decide +kernel
theorem dX5_readAll_5 : decode cX5_readAll 5 = .ok (.aload_n 0, 1) := by decide +kernel
theorem dX5_readAll_6 : decode cX5_readAll 6 = .ok (.ldc 25, 2) := by decide +kernel
theorem dX5_readAll_8 : decode cX5_readAll 8 = .ok (.ldc 25, 2) := by decide +kernel
theorem dX5_readAll_10 : decode cX5_readAll 10 = .ok (.invokevirtual 186, 3) := by decide +kernel
theorem dX5_readAll_13 : decode cX5_readAll 13 = .ok (.iconst 0, 1) := by decide +kernel
theorem dX5_readAll_14 : decode cX5_readAll 14 = .ok (.istore_n 1, 1) := by decide +kernel
theorem dX5_readAll_15 : decode cX5_readAll 15 = .ok (.iload_n 1, 1) := by decide +kernel
theorem dX5_readAll_16 : decode cX5_readAll 16 = .ok (.aload_n 0, 1) := by decide +kernel
theorem dX5_readAll_17 : decode cX5_readAll 17 = .ok (.getfield 132, 3) := by decide +kernel
theorem dX5_readAll_20 : decode cX5_readAll 20 = .ok (.if_icmp .ge 23, 3) := by decide +kernel
theorem dX5_readAll_23 : decode cX5_readAll 23 = .ok (.aload_n 0, 1) := by decide +kernel
theorem dX5_readAll_24 : decode cX5_readAll 24 = .ok (.getfield 177, 3) := by decide +kernel
theorem dX5_readAll_27 : decode cX5_readAll 27 = .ok (.ldc 25, 2) := by decide +kernel
theorem dX5_readAll_29 : decode cX5_readAll 29 = .ok (.if_icmp .ne 14, 3) := by decide +kernel
theorem dX5_readAll_32 : decode cX5_readAll 32 = .ok (.aload_n 0, 1) := by decide +kernel
theorem dX5_readAll_33 : decode cX5_readAll 33 = .ok (.iload_n 1, 1) := by decide +kernel
theorem dX5_readAll_34 : decode cX5_readAll 34 = .ok (.invokevirtual 190, 3) := by decide +kernel
theorem dX5_readAll_37 : decode cX5_readAll 37 = .ok (.iinc 1 1, 3) := by decide +kernel
theorem dX5_readAll_40 : decode cX5_readAll 40 = .ok (.goto (-25), 3) := by decide +kernel
theorem dX5_readAll_43 : decode cX5_readAll 43 = .ok (.aload_n 0, 1) := by decide +kernel
theorem dX5_readAll_44 : decode cX5_readAll 44 = .ok (.getfield 177, 3) := by decide +kernel
theorem dX5_readAll_47 : decode cX5_readAll 47 = .ok (.ldc 25, 2) := by decide +kernel
theorem dX5_readAll_49 : decode cX5_readAll 49 = .ok (.if_icmp .ne 19, 3) := by decide +kernel
theorem dX5_readAll_52 : decode cX5_readAll 52 = .ok (.aload_n 0, 1) := by decide +kernel
theorem dX5_readAll_53 : decode cX5_readAll 53 = .ok (.getfield 183, 3) := by decide +kernel
theorem dX5_readAll_56 : decode cX5_readAll 56 = .ok (.ifCond .ne 12, 3) := by decide +kernel
theorem dX5_readAll_59 : decode cX5_readAll 59 = .ok (.aload_n 0, 1) := by decide +kernel
theorem dX5_readAll_60 : decode cX5_readAll 60 = .ok (.iconst 3, 1) := by decide +kernel
theorem dX5_readAll_61 : decode cX5_readAll 61 = .ok (.aload_n 0, 1) := by decide +kernel
theorem dX5_readAll_62 : decode cX5_readAll 62 = .ok (.getfield 132, 3) := by decide +kernel
theorem dX5_readAll_65 : decode cX5_readAll 65 = .ok (.invokevirtual 186, 3) := by decide +kernel
theorem dX5_readAll_68 : decode cX5_readAll 68 = .ok (.return_, 1) := by decide +kernel
theorem dX5_load_0 : decode cX5_load 0 = .ok (.aload_n 0, 1) := by decide +kernel
theorem dX5_load_1 : decode cX5_load 1 = .ok (.invokevirtual 193, 3) := by decide +kernel
theorem dX5_load_4 : decode cX5_load 4 = .ok (.aload_n 0, 1) := by decide +kernel
theorem dX5_load_5 : decode cX5_load 5 = .ok (.getfield 177, 3) := by decide +kernel
theorem dX5_load_8 : decode cX5_load 8 = .ok (.ldc 25, 2) := by decide +kernel
theorem dX5_load_10 : decode cX5_load 10 = .ok (.if_icmp .eq 22, 3) := by decide +kernel
theorem dX5_load_13 : decode cX5_load 13 = .ok (.aload_n 0, 1) := by decide +kernel
theorem dX5_load_14 : decode cX5_load 14 = .ok (.aload_n 0, 1) := by decide +kernel
theorem dX5_load_15 : decode cX5_load 15 = .ok (.getfield 177, 3) := by decide +kernel
theorem dX5_load_18 : decode cX5_load 18 = .ok (.putfield 26, 3) := by decide +kernel
theorem dX5_load_21 : decode cX5_load 21 = .ok (.aload_n 0, 1) := by decide +kernel
theorem dX5_load_22 : decode cX5_load 22 = .ok (.aload_n 0, 1) := by decide +kernel
theorem dX5_load_23 : decode cX5_load 23 = .ok (.getfield 180, 3) := by decide +kernel
theorem dX5_load_26 : decode cX5_load 26 = .ok (.putfield 30, 3) := by decide +kernel
theorem dX5_load_29 : decode cX5_load 29 = .ok (.ldc 59, 2) := by decide +kernel
theorem dX5_load_31 : decode cX5_load 31 = .ok (.ireturn, 1) := by decide +kernel
theorem dX5_load_32 : decode cX5_load 32 = .ok (.aload_n 0, 1) := by decide +kernel
theorem dX5_load_33 : decode cX5_load 33 = .ok (.invokevirtual 103, 3) := by decide +kernel
theorem dX5_load_36 : decode cX5_load 36 = .ok (.aload_n 0, 1) := by decide +kernel
theorem dX5_load_37 : decode cX5_load 37 = .ok (.invokevirtual 95, 3) := by decide +kernel
theorem dX5_load_40 : decode cX5_load 40 = .ok (.istore_n 1, 1) := by decide +kernel
theorem dX5_load_41 : decode cX5_load 41 = .ok (.aload_n 0, 1) := by decide +kernel
theorem dX5_load_42 : decode cX5_load 42 = .ok (.aload_n 0, 1) := by decide +kernel
theorem dX5_load_43 : decode cX5_load 43 = .ok (.getfield 183, 3) := by decide +kernel
theorem dX5_load_46 : decode cX5_load 46 = .ok (.invokevirtual 48, 3) := by decide +kernel
theorem dX5_load_49 : decode cX5_load 49 = .ok (.iconst 0, 1) := by decide +kernel
theorem dX5_load_50 : decode cX5_load 50 = .ok (.istore_n 2, 1) := by decide +kernel
theorem dX5_load_51 : decode cX5_load 51 = .ok (.iload_n 2, 1) := by decide +kernel
theorem dX5_load_52 : decode cX5_load 52 = .ok (.aload_n 0, 1) := by decide +kernel
theorem dX5_load_53 : decode cX5_load 53 = .ok (.getfield 183, 3) := by decide +kernel
theorem dX5_load_56 : decode cX5_load 56 = .ok (.if_icmp .ge 38, 3) := by decide +kernel
theorem dX5_load_59 : decode cX5_load 59 = .ok (.aload_n 0, 1) := by decide +kernel
theorem dX5_load_60 : decode cX5_load 60 = .ok (.getfield 7, 3) := by decide +kernel
theorem dX5_load_63 : decode cX5_load 63 = .ok (.iconst 1, 1) := by decide +kernel
theorem dX5_load_64 : decode cX5_load 64 = .ok (.iload_n 2, 1) := by decide +kernel
theorem dX5_load_65 : decode cX5_load 65 = .ok (.iadd, 1) := by decide +kernel
theorem dX5_load_66 : decode cX5_load 66 = .ok (.aload_n 0, 1) := by decide +kernel
theorem dX5_load_67 : decode cX5_load 67 = .ok (.getfield 42, 3) := by decide +kernel
theorem dX5_load_70 : decode cX5_load 70 = .ok (.iload_n 2, 1) := by decide +kernel
theorem dX5_load_71 : decode cX5_load 71 = .ok (.iaload, 1) := by decide +kernel
theorem dX5_load_72 : decode cX5_load 72 = .ok (.iastore, 1) := by decide +kernel
theorem dX5_load_73 : decode cX5_load 73 = .ok (.aload_n 0, 1) := by decide +kernel
theorem dX5_load_74 : decode cX5_load 74 = .ok (.getfield 7, 3) := by decide +kernel
theorem dX5_load_77 : decode cX5_load 77 = .ok (.bipush 11, 2) := by decide +kernel
theorem dX5_load_79 : decode cX5_load 79 = .ok (.iload_n 2, 1) := by decide +kernel
theorem dX5_load_80 : decode cX5_load 80 = .ok (.iadd, 1) := by decide +kernel
theorem dX5_load_81 : decode cX5_load 81 = .ok (.aload_n 0, 1) := by decide +kernel
theorem dX5_load_82 : decode cX5_load 82 = .ok (.getfield 45, 3) := by decide +kernel
theorem dX5_load_85 : decode cX5_load 85 = .ok (.iload_n 2, 1) := by decide +kernel
theorem dX5_load_86 : decode cX5_load 86 = .ok (.iaload, 1) := by decide +kernel
theorem dX5_load_87 : decode cX5_load 87 = .ok (.iastore, 1) := by decide +kernel
theorem dX5_load_88 : decode cX5_load 88 = .ok (.iinc 2 1, 3) := by decide +kernel
theorem dX5_load_91 : decode cX5_load 91 = .ok (.goto (-40), 3) := by decide +kernel
theorem dX5_load_94 : decode cX5_load 94 = .ok (.aload_n 0, 1) := by decide +kernel
theorem dX5_load_95 : decode cX5_load 95 = .ok (.iload_n 1, 1) := by decide +kernel
theorem dX5_load_96 : decode cX5_load 96 = .ok (.invokevirtual 107, 3) := by decide +kernel
theorem dX5_load_99 : decode cX5_load 99 = .ok (.istore_n 2, 1) := by decide +kernel
theorem dX5_load_100 : decode cX5_load 100 = .ok (.aload_n 0, 1) := by decide +kernel
theorem dX5_load_101 : decode cX5_load 101 = .ok (.getfield 7, 3) := by decide +kernel
theorem dX5_load_104 : decode cX5_load 104 = .ok (.iconst 0, 1) := by decide +kernel
theorem dX5_load_105 : decode cX5_load 105 = .ok (.iaload, 1) := by decide +kernel
theorem dX5_load_106 : decode cX5_load 106 = .ok (.ireturn, 1) := by decide +kernel
theorem dX5_fault_0 : decode cX5_fault 0 = .ok (.iload_n 1, 1) := by decide +kernel
theorem dX5_fault_1 : decode cX5_fault 1 = .ok (.iconst 0, 1) := by decide +kernel
theorem dX5_fault_2 : decode cX5_fault 2 = .ok (.iconst 1, 1) := by decide +kernel
theorem dX5_fault_3 : decode cX5_fault 3 = .ok (.invokestatic 52, 3) := by decide +kernel
theorem dX5_fault_6 : decode cX5_fault 6 = .ok (.ifCond .ne 8, 3) := by decide +kernel
theorem dX5_fault_9 : decode cX5_fault 9 = .ok (.ldc 102, 2) := by decide +kernel
theorem dX5_fault_11 : decode cX5_fault 11 = .ok (.goto 18, 3) := by decide +kernel
theorem dX5_fault_14 : decode cX5_fault 14 = .ok (.iload_n 1, 1) := by decide +kernel
theorem dX5_fault_15 : decode cX5_fault 15 = .ok (.ifCond .ne 10, 3) := by decide +kernel
theorem dX5_fault_18 : decode cX5_fault 18 = .ok (.aload_n 0, 1) := by decide +kernel
theorem dX5_fault_19 : decode cX5_fault 19 = .ok (.getfield 26, 3) := by decide +kernel
theorem dX5_fault_22 : decode cX5_fault 22 = .ok (.goto 7, 3) := by decide +kernel
theorem dX5_fault_25 : decode cX5_fault 25 = .ok (.aload_n 0, 1) := by decide +kernel
theorem dX5_fault_26 : decode cX5_fault 26 = .ok (.getfield 30, 3) := by decide +kernel
theorem dX5_fault_29 : decode cX5_fault 29 = .ok (.ireturn, 1) := by decide +kernel
theorem dX5_isImage_0 : decode cX5_isImage 0 = .ok (.iload_n 0, 1) := by decide +kernel
theorem dX5_isImage_1 : decode cX5_isImage 1 = .ok (.iconst 0, 1) := by decide +kernel
theorem dX5_isImage_2 : decode cX5_isImage 2 = .ok (.iconst 1, 1) := by decide +kernel
theorem dX5_isImage_3 : decode cX5_isImage 3 = .ok (.invokestatic 52, 3) := by decide +kernel
theorem dX5_isImage_6 : decode cX5_isImage 6 = .ok (.ireturn, 1) := by decide +kernel
theorem dX5_keep_0 : decode cX5_keep 0 = .ok (.iload_n 1, 1) := by decide +kernel
theorem dX5_keep_1 : decode cX5_keep 1 = .ok (.invokestatic 196, 3) := by decide +kernel
theorem dX5_keep_4 : decode cX5_keep 4 = .ok (.ifCond .ne 6, 3) := by decide +kernel
theorem dX5_keep_7 : decode cX5_keep 7 = .ok (.ldc 102, 2) := by decide +kernel
theorem dX5_keep_9 : decode cX5_keep 9 = .ok (.ireturn, 1) := by decide +kernel
theorem dX5_keep_10 : decode cX5_keep 10 = .ok (.iconst 0, 1) := by decide +kernel
theorem dX5_keep_11 : decode cX5_keep 11 = .ok (.istore_n 2, 1) := by decide +kernel
theorem dX5_keep_12 : decode cX5_keep 12 = .ok (.iload_n 2, 1) := by decide +kernel
theorem dX5_keep_13 : decode cX5_keep 13 = .ok (.sipush 130, 3) := by decide +kernel
theorem dX5_keep_16 : decode cX5_keep 16 = .ok (.if_icmp .ge 27, 3) := by decide +kernel
theorem dX5_keep_19 : decode cX5_keep 19 = .ok (.aload_n 0, 1) := by decide +kernel
theorem dX5_keep_20 : decode cX5_keep 20 = .ok (.getfield 16, 3) := by decide +kernel
theorem dX5_keep_23 : decode cX5_keep 23 = .ok (.sipush 130, 3) := by decide +kernel
theorem dX5_keep_26 : decode cX5_keep 26 = .ok (.iload_n 1, 1) := by decide +kernel
theorem dX5_keep_27 : decode cX5_keep 27 = .ok (.imul, 1) := by decide +kernel
theorem dX5_keep_28 : decode cX5_keep 28 = .ok (.iload_n 2, 1) := by decide +kernel
theorem dX5_keep_29 : decode cX5_keep 29 = .ok (.iadd, 1) := by decide +kernel
theorem dX5_keep_30 : decode cX5_keep 30 = .ok (.aload_n 0, 1) := by decide +kernel
theorem dX5_keep_31 : decode cX5_keep 31 = .ok (.getfield 7, 3) := by decide +kernel
theorem dX5_keep_34 : decode cX5_keep 34 = .ok (.iload_n 2, 1) := by decide +kernel
theorem dX5_keep_35 : decode cX5_keep 35 = .ok (.iaload, 1) := by decide +kernel
theorem dX5_keep_36 : decode cX5_keep 36 = .ok (.iastore, 1) := by decide +kernel
theorem dX5_keep_37 : decode cX5_keep 37 = .ok (.iinc 2 1, 3) := by decide +kernel
theorem dX5_keep_40 : decode cX5_keep 40 = .ok (.goto (-28), 3) := by decide +kernel
theorem dX5_keep_43 : decode cX5_keep 43 = .ok (.aload_n 0, 1) := by decide +kernel
theorem dX5_keep_44 : decode cX5_keep 44 = .ok (.getfield 19, 3) := by decide +kernel
theorem dX5_keep_47 : decode cX5_keep 47 = .ok (.iload_n 1, 1) := by decide +kernel
theorem dX5_keep_48 : decode cX5_keep 48 = .ok (.iconst 1, 1) := by decide +kernel
theorem dX5_keep_49 : decode cX5_keep 49 = .ok (.iastore, 1) := by decide +kernel
theorem dX5_keep_50 : decode cX5_keep 50 = .ok (.aload_n 0, 1) := by decide +kernel
theorem dX5_keep_51 : decode cX5_keep 51 = .ok (.getfield 7, 3) := by decide +kernel
theorem dX5_keep_54 : decode cX5_keep 54 = .ok (.iconst 0, 1) := by decide +kernel
theorem dX5_keep_55 : decode cX5_keep 55 = .ok (.iaload, 1) := by decide +kernel
theorem dX5_keep_56 : decode cX5_keep 56 = .ok (.ireturn, 1) := by decide +kernel
theorem dX5_back_0 : decode cX5_back 0 = .ok (.iload_n 1, 1) := by decide +kernel
theorem dX5_back_1 : decode cX5_back 1 = .ok (.invokestatic 196, 3) := by decide +kernel
theorem dX5_back_4 : decode cX5_back 4 = .ok (.ifCond .ne 6, 3) := by decide +kernel
theorem dX5_back_7 : decode cX5_back 7 = .ok (.ldc 102, 2) := by decide +kernel
theorem dX5_back_9 : decode cX5_back 9 = .ok (.ireturn, 1) := by decide +kernel
theorem dX5_back_10 : decode cX5_back 10 = .ok (.aload_n 0, 1) := by decide +kernel
theorem dX5_back_11 : decode cX5_back 11 = .ok (.getfield 19, 3) := by decide +kernel
theorem dX5_back_14 : decode cX5_back 14 = .ok (.iload_n 1, 1) := by decide +kernel
theorem dX5_back_15 : decode cX5_back 15 = .ok (.iaload, 1) := by decide +kernel
theorem dX5_back_16 : decode cX5_back 16 = .ok (.ifCond .ne 6, 3) := by decide +kernel
theorem dX5_back_19 : decode cX5_back 19 = .ok (.ldc 59, 2) := by decide +kernel
theorem dX5_back_21 : decode cX5_back 21 = .ok (.ireturn, 1) := by decide +kernel
theorem dX5_back_22 : decode cX5_back 22 = .ok (.aload_n 0, 1) := by decide +kernel
theorem dX5_back_23 : decode cX5_back 23 = .ok (.invokevirtual 103, 3) := by decide +kernel
theorem dX5_back_26 : decode cX5_back 26 = .ok (.iconst 0, 1) := by decide +kernel
theorem dX5_back_27 : decode cX5_back 27 = .ok (.istore_n 2, 1) := by decide +kernel
theorem dX5_back_28 : decode cX5_back 28 = .ok (.iload_n 2, 1) := by decide +kernel
theorem dX5_back_29 : decode cX5_back 29 = .ok (.sipush 130, 3) := by decide +kernel
theorem dX5_back_32 : decode cX5_back 32 = .ok (.if_icmp .ge 27, 3) := by decide +kernel
theorem dX5_back_35 : decode cX5_back 35 = .ok (.aload_n 0, 1) := by decide +kernel
theorem dX5_back_36 : decode cX5_back 36 = .ok (.getfield 7, 3) := by decide +kernel
theorem dX5_back_39 : decode cX5_back 39 = .ok (.iload_n 2, 1) := by decide +kernel
theorem dX5_back_40 : decode cX5_back 40 = .ok (.aload_n 0, 1) := by decide +kernel
theorem dX5_back_41 : decode cX5_back 41 = .ok (.getfield 16, 3) := by decide +kernel
theorem dX5_back_44 : decode cX5_back 44 = .ok (.sipush 130, 3) := by decide +kernel
theorem dX5_back_47 : decode cX5_back 47 = .ok (.iload_n 1, 1) := by decide +kernel
theorem dX5_back_48 : decode cX5_back 48 = .ok (.imul, 1) := by decide +kernel
theorem dX5_back_49 : decode cX5_back 49 = .ok (.iload_n 2, 1) := by decide +kernel
theorem dX5_back_50 : decode cX5_back 50 = .ok (.iadd, 1) := by decide +kernel
theorem dX5_back_51 : decode cX5_back 51 = .ok (.iaload, 1) := by decide +kernel
theorem dX5_back_52 : decode cX5_back 52 = .ok (.iastore, 1) := by decide +kernel
theorem dX5_back_53 : decode cX5_back 53 = .ok (.iinc 2 1, 3) := by decide +kernel
theorem dX5_back_56 : decode cX5_back 56 = .ok (.goto (-28), 3) := by decide +kernel
theorem dX5_back_59 : decode cX5_back 59 = .ok (.aload_n 0, 1) := by decide +kernel
theorem dX5_back_60 : decode cX5_back 60 = .ok (.getfield 7, 3) := by decide +kernel
theorem dX5_back_63 : decode cX5_back 63 = .ok (.iconst 0, 1) := by decide +kernel
theorem dX5_back_64 : decode cX5_back 64 = .ok (.iaload, 1) := by decide +kernel
theorem dX5_back_65 : decode cX5_back 65 = .ok (.ireturn, 1) := by decide +kernel
theorem dJ9_max_7cf53_0 : decode cJ9_max_7cf53 0 = .ok (.iload_n 0, 1) := by decide +kernel
theorem dJ9_max_7cf53_1 : decode cJ9_max_7cf53 1 = .ok (.iload_n 1, 1) := by decide +kernel
theorem dJ9_max_7cf53_2 : decode cJ9_max_7cf53 2 = .ok (.if_icmp .lt 7, 3) := by decide +kernel
theorem dJ9_max_7cf53_5 : decode cJ9_max_7cf53 5 = .ok (.iload_n 0, 1) := by decide +kernel
theorem dJ9_max_7cf53_6 : decode cJ9_max_7cf53 6 = .ok (.goto 4, 3) := by decide +kernel
theorem dJ9_max_7cf53_9 : decode cJ9_max_7cf53 9 = .ok (.iload_n 1, 1) := by decide +kernel
theorem dJ9_max_7cf53_10 : decode cJ9_max_7cf53 10 = .ok (.ireturn, 1) := by decide +kernel
theorem dJ7_fill_53178_0 : decode cJ7_fill_53178 0 = .ok (.iconst 0, 1) := by decide +kernel
theorem dJ7_fill_53178_1 : decode cJ7_fill_53178 1 = .ok (.istore_n 2, 1) := by decide +kernel
theorem dJ7_fill_53178_2 : decode cJ7_fill_53178 2 = .ok (.aload_n 0, 1) := by decide +kernel
theorem dJ7_fill_53178_3 : decode cJ7_fill_53178 3 = .ok (.arraylength, 1) := by decide +kernel
theorem dJ7_fill_53178_4 : decode cJ7_fill_53178 4 = .ok (.istore_n 3, 1) := by decide +kernel
theorem dJ7_fill_53178_5 : decode cJ7_fill_53178 5 = .ok (.iload_n 2, 1) := by decide +kernel
theorem dJ7_fill_53178_6 : decode cJ7_fill_53178 6 = .ok (.iload_n 3, 1) := by decide +kernel
theorem dJ7_fill_53178_7 : decode cJ7_fill_53178 7 = .ok (.if_icmp .ge 13, 3) := by decide +kernel
theorem dJ7_fill_53178_10 : decode cJ7_fill_53178 10 = .ok (.aload_n 0, 1) := by decide +kernel
theorem dJ7_fill_53178_11 : decode cJ7_fill_53178 11 = .ok (.iload_n 2, 1) := by decide +kernel
theorem dJ7_fill_53178_12 : decode cJ7_fill_53178 12 = .ok (.iload_n 1, 1) := by decide +kernel
theorem dJ7_fill_53178_13 : decode cJ7_fill_53178 13 = .ok (.iastore, 1) := by decide +kernel
theorem dJ7_fill_53178_14 : decode cJ7_fill_53178 14 = .ok (.iinc 2 1, 3) := by decide +kernel
theorem dJ7_fill_53178_17 : decode cJ7_fill_53178 17 = .ok (.goto (-12), 3) := by decide +kernel
theorem dJ7_fill_53178_20 : decode cJ7_fill_53178 20 = .ok (.return_, 1) := by decide +kernel
theorem dL_law_0 : decode cL_law 0 = .ok (.new 7, 3) := by decide +kernel
theorem dL_law_3 : decode cL_law 3 = .ok (.dup, 1) := by decide +kernel
theorem dL_law_4 : decode cL_law 4 = .ok (.invokespecial 9, 3) := by decide +kernel
theorem dL_law_7 : decode cL_law 7 = .ok (.astore_n 1, 1) := by decide +kernel
theorem dL_law_8 : decode cL_law 8 = .ok (.new 10, 3) := by decide +kernel
theorem dL_law_11 : decode cL_law 11 = .ok (.dup, 1) := by decide +kernel
theorem dL_law_12 : decode cL_law 12 = .ok (.invokespecial 12, 3) := by decide +kernel
theorem dL_law_15 : decode cL_law 15 = .ok (.astore_n 2, 1) := by decide +kernel
theorem dL_law_16 : decode cL_law 16 = .ok (.iconst 0, 1) := by decide +kernel
theorem dL_law_17 : decode cL_law 17 = .ok (.istore_n 3, 1) := by decide +kernel
theorem dL_law_18 : decode cL_law 18 = .ok (.iload_n 3, 1) := by decide +kernel
theorem dL_law_19 : decode cL_law 19 = .ok (.aload_n 0, 1) := by decide +kernel
theorem dL_law_20 : decode cL_law 20 = .ok (.arraylength, 1) := by decide +kernel
theorem dL_law_21 : decode cL_law 21 = .ok (.iconst 4, 1) := by decide +kernel
theorem dL_law_22 : decode cL_law 22 = .ok (.isub, 1) := by decide +kernel
theorem dL_law_23 : decode cL_law 23 = .ok (.if_icmp .gt 759, 3) := by decide +kernel
theorem dL_law_26 : decode cL_law 26 = .ok (.aload_n 0, 1) := by decide +kernel
theorem dL_law_27 : decode cL_law 27 = .ok (.iload_n 3, 1) := by decide +kernel
theorem dL_law_28 : decode cL_law 28 = .ok (.iaload, 1) := by decide +kernel
theorem dL_law_29 : decode cL_law 29 = .ok (.bipush 31, 2) := by decide +kernel
theorem dL_law_31 : decode cL_law 31 = .ok (.iand, 1) := by decide +kernel
theorem dL_law_32 : decode cL_law 32 = .ok (.tableswitch 744 0 23 #[112, 135, 168, 191, 204, 217, 250, 283, 316, 349, 362, 385, 418, 451, 474, 517, 550, 593, 626, 649, 662, 675, 698, 721], 112) := by decide +kernel
theorem dL_law_144 : decode cL_law 144 = .ok (.aload_n 1, 1) := by decide +kernel
theorem dL_law_145 : decode cL_law 145 = .ok (.aload_n 0, 1) := by decide +kernel
theorem dL_law_146 : decode cL_law 146 = .ok (.iload_n 3, 1) := by decide +kernel
theorem dL_law_147 : decode cL_law 147 = .ok (.iconst 1, 1) := by decide +kernel
theorem dL_law_148 : decode cL_law 148 = .ok (.iadd, 1) := by decide +kernel
theorem dL_law_149 : decode cL_law 149 = .ok (.iaload, 1) := by decide +kernel
theorem dL_law_150 : decode cL_law 150 = .ok (.invokevirtual 13, 3) := by decide +kernel
theorem dL_law_153 : decode cL_law 153 = .ok (.aload_n 2, 1) := by decide +kernel
theorem dL_law_154 : decode cL_law 154 = .ok (.aload_n 0, 1) := by decide +kernel
theorem dL_law_155 : decode cL_law 155 = .ok (.iload_n 3, 1) := by decide +kernel
theorem dL_law_156 : decode cL_law 156 = .ok (.iconst 1, 1) := by decide +kernel
theorem dL_law_157 : decode cL_law 157 = .ok (.iadd, 1) := by decide +kernel
theorem dL_law_158 : decode cL_law 158 = .ok (.iaload, 1) := by decide +kernel
theorem dL_law_159 : decode cL_law 159 = .ok (.invokevirtual 17, 3) := by decide +kernel
theorem dL_law_162 : decode cL_law 162 = .ok (.if_icmp .eq 614, 3) := by decide +kernel
theorem dL_law_165 : decode cL_law 165 = .ok (.iconst 0, 1) := by decide +kernel
theorem dL_law_166 : decode cL_law 166 = .ok (.ireturn, 1) := by decide +kernel
theorem dL_law_167 : decode cL_law 167 = .ok (.aload_n 1, 1) := by decide +kernel
theorem dL_law_168 : decode cL_law 168 = .ok (.aload_n 0, 1) := by decide +kernel
theorem dL_law_169 : decode cL_law 169 = .ok (.iload_n 3, 1) := by decide +kernel
theorem dL_law_170 : decode cL_law 170 = .ok (.iconst 1, 1) := by decide +kernel
theorem dL_law_171 : decode cL_law 171 = .ok (.iadd, 1) := by decide +kernel
theorem dL_law_172 : decode cL_law 172 = .ok (.iaload, 1) := by decide +kernel
theorem dL_law_173 : decode cL_law 173 = .ok (.aload_n 0, 1) := by decide +kernel
theorem dL_law_174 : decode cL_law 174 = .ok (.iload_n 3, 1) := by decide +kernel
theorem dL_law_175 : decode cL_law 175 = .ok (.iconst 2, 1) := by decide +kernel
theorem dL_law_176 : decode cL_law 176 = .ok (.iadd, 1) := by decide +kernel
theorem dL_law_177 : decode cL_law 177 = .ok (.iaload, 1) := by decide +kernel
theorem dL_law_178 : decode cL_law 178 = .ok (.invokevirtual 18, 3) := by decide +kernel
theorem dL_law_181 : decode cL_law 181 = .ok (.aload_n 2, 1) := by decide +kernel
theorem dL_law_182 : decode cL_law 182 = .ok (.aload_n 0, 1) := by decide +kernel
theorem dL_law_183 : decode cL_law 183 = .ok (.iload_n 3, 1) := by decide +kernel
theorem dL_law_184 : decode cL_law 184 = .ok (.iconst 1, 1) := by decide +kernel
theorem dL_law_185 : decode cL_law 185 = .ok (.iadd, 1) := by decide +kernel
theorem dL_law_186 : decode cL_law 186 = .ok (.iaload, 1) := by decide +kernel
theorem dL_law_187 : decode cL_law 187 = .ok (.aload_n 0, 1) := by decide +kernel
theorem dL_law_188 : decode cL_law 188 = .ok (.iload_n 3, 1) := by decide +kernel
theorem dL_law_189 : decode cL_law 189 = .ok (.iconst 2, 1) := by decide +kernel
theorem dL_law_190 : decode cL_law 190 = .ok (.iadd, 1) := by decide +kernel
theorem dL_law_191 : decode cL_law 191 = .ok (.iaload, 1) := by decide +kernel
theorem dL_law_192 : decode cL_law 192 = .ok (.invokevirtual 22, 3) := by decide +kernel
theorem dL_law_195 : decode cL_law 195 = .ok (.if_icmp .eq 581, 3) := by decide +kernel
theorem dL_law_198 : decode cL_law 198 = .ok (.iconst 0, 1) := by decide +kernel
theorem dL_law_199 : decode cL_law 199 = .ok (.ireturn, 1) := by decide +kernel
theorem dL_law_200 : decode cL_law 200 = .ok (.aload_n 1, 1) := by decide +kernel
theorem dL_law_201 : decode cL_law 201 = .ok (.aload_n 0, 1) := by decide +kernel
theorem dL_law_202 : decode cL_law 202 = .ok (.iload_n 3, 1) := by decide +kernel
theorem dL_law_203 : decode cL_law 203 = .ok (.iconst 1, 1) := by decide +kernel
theorem dL_law_204 : decode cL_law 204 = .ok (.iadd, 1) := by decide +kernel
theorem dL_law_205 : decode cL_law 205 = .ok (.iaload, 1) := by decide +kernel
theorem dL_law_206 : decode cL_law 206 = .ok (.invokevirtual 23, 3) := by decide +kernel
theorem dL_law_209 : decode cL_law 209 = .ok (.aload_n 2, 1) := by decide +kernel
theorem dL_law_210 : decode cL_law 210 = .ok (.aload_n 0, 1) := by decide +kernel
theorem dL_law_211 : decode cL_law 211 = .ok (.iload_n 3, 1) := by decide +kernel
theorem dL_law_212 : decode cL_law 212 = .ok (.iconst 1, 1) := by decide +kernel
theorem dL_law_213 : decode cL_law 213 = .ok (.iadd, 1) := by decide +kernel
theorem dL_law_214 : decode cL_law 214 = .ok (.iaload, 1) := by decide +kernel
theorem dL_law_215 : decode cL_law 215 = .ok (.invokevirtual 26, 3) := by decide +kernel
theorem dL_law_218 : decode cL_law 218 = .ok (.if_icmp .eq 558, 3) := by decide +kernel
theorem dL_law_221 : decode cL_law 221 = .ok (.iconst 0, 1) := by decide +kernel
theorem dL_law_222 : decode cL_law 222 = .ok (.ireturn, 1) := by decide +kernel
theorem dL_law_223 : decode cL_law 223 = .ok (.aload_n 1, 1) := by decide +kernel
theorem dL_law_224 : decode cL_law 224 = .ok (.invokevirtual 27, 3) := by decide +kernel
theorem dL_law_227 : decode cL_law 227 = .ok (.aload_n 2, 1) := by decide +kernel
theorem dL_law_228 : decode cL_law 228 = .ok (.invokevirtual 31, 3) := by decide +kernel
theorem dL_law_231 : decode cL_law 231 = .ok (.if_icmp .eq 545, 3) := by decide +kernel
theorem dL_law_234 : decode cL_law 234 = .ok (.iconst 0, 1) := by decide +kernel
theorem dL_law_235 : decode cL_law 235 = .ok (.ireturn, 1) := by decide +kernel
theorem dL_law_236 : decode cL_law 236 = .ok (.aload_n 1, 1) := by decide +kernel
theorem dL_law_237 : decode cL_law 237 = .ok (.invokevirtual 32, 3) := by decide +kernel
theorem dL_law_240 : decode cL_law 240 = .ok (.aload_n 2, 1) := by decide +kernel
theorem dL_law_241 : decode cL_law 241 = .ok (.invokevirtual 35, 3) := by decide +kernel
theorem dL_law_244 : decode cL_law 244 = .ok (.if_icmp .eq 532, 3) := by decide +kernel
theorem dL_law_247 : decode cL_law 247 = .ok (.iconst 0, 1) := by decide +kernel
theorem dL_law_248 : decode cL_law 248 = .ok (.ireturn, 1) := by decide +kernel
theorem dL_law_249 : decode cL_law 249 = .ok (.aload_n 1, 1) := by decide +kernel
theorem dL_law_250 : decode cL_law 250 = .ok (.aload_n 0, 1) := by decide +kernel
theorem dL_law_251 : decode cL_law 251 = .ok (.iload_n 3, 1) := by decide +kernel
theorem dL_law_252 : decode cL_law 252 = .ok (.iconst 1, 1) := by decide +kernel
theorem dL_law_253 : decode cL_law 253 = .ok (.iadd, 1) := by decide +kernel
theorem dL_law_254 : decode cL_law 254 = .ok (.iaload, 1) := by decide +kernel
theorem dL_law_255 : decode cL_law 255 = .ok (.aload_n 0, 1) := by decide +kernel
theorem dL_law_256 : decode cL_law 256 = .ok (.iload_n 3, 1) := by decide +kernel
theorem dL_law_257 : decode cL_law 257 = .ok (.iconst 2, 1) := by decide +kernel
theorem dL_law_258 : decode cL_law 258 = .ok (.iadd, 1) := by decide +kernel
theorem dL_law_259 : decode cL_law 259 = .ok (.iaload, 1) := by decide +kernel
theorem dL_law_260 : decode cL_law 260 = .ok (.invokevirtual 36, 3) := by decide +kernel
theorem dL_law_263 : decode cL_law 263 = .ok (.aload_n 2, 1) := by decide +kernel
theorem dL_law_264 : decode cL_law 264 = .ok (.aload_n 0, 1) := by decide +kernel
theorem dL_law_265 : decode cL_law 265 = .ok (.iload_n 3, 1) := by decide +kernel
theorem dL_law_266 : decode cL_law 266 = .ok (.iconst 1, 1) := by decide +kernel
theorem dL_law_267 : decode cL_law 267 = .ok (.iadd, 1) := by decide +kernel
theorem dL_law_268 : decode cL_law 268 = .ok (.iaload, 1) := by decide +kernel
theorem dL_law_269 : decode cL_law 269 = .ok (.aload_n 0, 1) := by decide +kernel
theorem dL_law_270 : decode cL_law 270 = .ok (.iload_n 3, 1) := by decide +kernel
theorem dL_law_271 : decode cL_law 271 = .ok (.iconst 2, 1) := by decide +kernel
theorem dL_law_272 : decode cL_law 272 = .ok (.iadd, 1) := by decide +kernel
theorem dL_law_273 : decode cL_law 273 = .ok (.iaload, 1) := by decide +kernel
theorem dL_law_274 : decode cL_law 274 = .ok (.invokevirtual 39, 3) := by decide +kernel
theorem dL_law_277 : decode cL_law 277 = .ok (.if_icmp .eq 499, 3) := by decide +kernel
theorem dL_law_280 : decode cL_law 280 = .ok (.iconst 0, 1) := by decide +kernel
theorem dL_law_281 : decode cL_law 281 = .ok (.ireturn, 1) := by decide +kernel
theorem dL_law_282 : decode cL_law 282 = .ok (.aload_n 1, 1) := by decide +kernel
theorem dL_law_283 : decode cL_law 283 = .ok (.aload_n 0, 1) := by decide +kernel
theorem dL_law_284 : decode cL_law 284 = .ok (.iload_n 3, 1) := by decide +kernel
theorem dL_law_285 : decode cL_law 285 = .ok (.iconst 1, 1) := by decide +kernel
theorem dL_law_286 : decode cL_law 286 = .ok (.iadd, 1) := by decide +kernel
theorem dL_law_287 : decode cL_law 287 = .ok (.iaload, 1) := by decide +kernel
theorem dL_law_288 : decode cL_law 288 = .ok (.aload_n 0, 1) := by decide +kernel
theorem dL_law_289 : decode cL_law 289 = .ok (.iload_n 3, 1) := by decide +kernel
theorem dL_law_290 : decode cL_law 290 = .ok (.iconst 2, 1) := by decide +kernel
theorem dL_law_291 : decode cL_law 291 = .ok (.iadd, 1) := by decide +kernel
theorem dL_law_292 : decode cL_law 292 = .ok (.iaload, 1) := by decide +kernel
theorem dL_law_293 : decode cL_law 293 = .ok (.invokevirtual 40, 3) := by decide +kernel
theorem dL_law_296 : decode cL_law 296 = .ok (.aload_n 2, 1) := by decide +kernel
theorem dL_law_297 : decode cL_law 297 = .ok (.aload_n 0, 1) := by decide +kernel
theorem dL_law_298 : decode cL_law 298 = .ok (.iload_n 3, 1) := by decide +kernel
theorem dL_law_299 : decode cL_law 299 = .ok (.iconst 1, 1) := by decide +kernel
theorem dL_law_300 : decode cL_law 300 = .ok (.iadd, 1) := by decide +kernel
theorem dL_law_301 : decode cL_law 301 = .ok (.iaload, 1) := by decide +kernel
theorem dL_law_302 : decode cL_law 302 = .ok (.aload_n 0, 1) := by decide +kernel
theorem dL_law_303 : decode cL_law 303 = .ok (.iload_n 3, 1) := by decide +kernel
theorem dL_law_304 : decode cL_law 304 = .ok (.iconst 2, 1) := by decide +kernel
theorem dL_law_305 : decode cL_law 305 = .ok (.iadd, 1) := by decide +kernel
theorem dL_law_306 : decode cL_law 306 = .ok (.iaload, 1) := by decide +kernel
theorem dL_law_307 : decode cL_law 307 = .ok (.invokevirtual 43, 3) := by decide +kernel
theorem dL_law_310 : decode cL_law 310 = .ok (.if_icmp .eq 466, 3) := by decide +kernel
theorem dL_law_313 : decode cL_law 313 = .ok (.iconst 0, 1) := by decide +kernel
theorem dL_law_314 : decode cL_law 314 = .ok (.ireturn, 1) := by decide +kernel
theorem dL_law_315 : decode cL_law 315 = .ok (.aload_n 1, 1) := by decide +kernel
theorem dL_law_316 : decode cL_law 316 = .ok (.aload_n 0, 1) := by decide +kernel
theorem dL_law_317 : decode cL_law 317 = .ok (.iload_n 3, 1) := by decide +kernel
theorem dL_law_318 : decode cL_law 318 = .ok (.iconst 1, 1) := by decide +kernel
theorem dL_law_319 : decode cL_law 319 = .ok (.iadd, 1) := by decide +kernel
theorem dL_law_320 : decode cL_law 320 = .ok (.iaload, 1) := by decide +kernel
theorem dL_law_321 : decode cL_law 321 = .ok (.aload_n 0, 1) := by decide +kernel
theorem dL_law_322 : decode cL_law 322 = .ok (.iload_n 3, 1) := by decide +kernel
theorem dL_law_323 : decode cL_law 323 = .ok (.iconst 2, 1) := by decide +kernel
theorem dL_law_324 : decode cL_law 324 = .ok (.iadd, 1) := by decide +kernel
theorem dL_law_325 : decode cL_law 325 = .ok (.iaload, 1) := by decide +kernel
theorem dL_law_326 : decode cL_law 326 = .ok (.invokevirtual 44, 3) := by decide +kernel
theorem dL_law_329 : decode cL_law 329 = .ok (.aload_n 2, 1) := by decide +kernel
theorem dL_law_330 : decode cL_law 330 = .ok (.aload_n 0, 1) := by decide +kernel
theorem dL_law_331 : decode cL_law 331 = .ok (.iload_n 3, 1) := by decide +kernel
theorem dL_law_332 : decode cL_law 332 = .ok (.iconst 1, 1) := by decide +kernel
theorem dL_law_333 : decode cL_law 333 = .ok (.iadd, 1) := by decide +kernel
theorem dL_law_334 : decode cL_law 334 = .ok (.iaload, 1) := by decide +kernel
theorem dL_law_335 : decode cL_law 335 = .ok (.aload_n 0, 1) := by decide +kernel
theorem dL_law_336 : decode cL_law 336 = .ok (.iload_n 3, 1) := by decide +kernel
theorem dL_law_337 : decode cL_law 337 = .ok (.iconst 2, 1) := by decide +kernel
theorem dL_law_338 : decode cL_law 338 = .ok (.iadd, 1) := by decide +kernel
theorem dL_law_339 : decode cL_law 339 = .ok (.iaload, 1) := by decide +kernel
theorem dL_law_340 : decode cL_law 340 = .ok (.invokevirtual 47, 3) := by decide +kernel
theorem dL_law_343 : decode cL_law 343 = .ok (.if_icmp .eq 433, 3) := by decide +kernel
theorem dL_law_346 : decode cL_law 346 = .ok (.iconst 0, 1) := by decide +kernel
theorem dL_law_347 : decode cL_law 347 = .ok (.ireturn, 1) := by decide +kernel
theorem dL_law_348 : decode cL_law 348 = .ok (.aload_n 1, 1) := by decide +kernel
theorem dL_law_349 : decode cL_law 349 = .ok (.aload_n 0, 1) := by decide +kernel
theorem dL_law_350 : decode cL_law 350 = .ok (.iload_n 3, 1) := by decide +kernel
theorem dL_law_351 : decode cL_law 351 = .ok (.iconst 1, 1) := by decide +kernel
theorem dL_law_352 : decode cL_law 352 = .ok (.iadd, 1) := by decide +kernel
theorem dL_law_353 : decode cL_law 353 = .ok (.iaload, 1) := by decide +kernel
theorem dL_law_354 : decode cL_law 354 = .ok (.aload_n 0, 1) := by decide +kernel
theorem dL_law_355 : decode cL_law 355 = .ok (.iload_n 3, 1) := by decide +kernel
theorem dL_law_356 : decode cL_law 356 = .ok (.iconst 2, 1) := by decide +kernel
theorem dL_law_357 : decode cL_law 357 = .ok (.iadd, 1) := by decide +kernel
theorem dL_law_358 : decode cL_law 358 = .ok (.iaload, 1) := by decide +kernel
theorem dL_law_359 : decode cL_law 359 = .ok (.invokevirtual 48, 3) := by decide +kernel
theorem dL_law_362 : decode cL_law 362 = .ok (.aload_n 2, 1) := by decide +kernel
theorem dL_law_363 : decode cL_law 363 = .ok (.aload_n 0, 1) := by decide +kernel
theorem dL_law_364 : decode cL_law 364 = .ok (.iload_n 3, 1) := by decide +kernel
theorem dL_law_365 : decode cL_law 365 = .ok (.iconst 1, 1) := by decide +kernel
theorem dL_law_366 : decode cL_law 366 = .ok (.iadd, 1) := by decide +kernel
theorem dL_law_367 : decode cL_law 367 = .ok (.iaload, 1) := by decide +kernel
theorem dL_law_368 : decode cL_law 368 = .ok (.aload_n 0, 1) := by decide +kernel
theorem dL_law_369 : decode cL_law 369 = .ok (.iload_n 3, 1) := by decide +kernel
theorem dL_law_370 : decode cL_law 370 = .ok (.iconst 2, 1) := by decide +kernel
theorem dL_law_371 : decode cL_law 371 = .ok (.iadd, 1) := by decide +kernel
theorem dL_law_372 : decode cL_law 372 = .ok (.iaload, 1) := by decide +kernel
theorem dL_law_373 : decode cL_law 373 = .ok (.invokevirtual 51, 3) := by decide +kernel
theorem dL_law_376 : decode cL_law 376 = .ok (.if_icmp .eq 400, 3) := by decide +kernel
theorem dL_law_379 : decode cL_law 379 = .ok (.iconst 0, 1) := by decide +kernel
theorem dL_law_380 : decode cL_law 380 = .ok (.ireturn, 1) := by decide +kernel
theorem dL_law_381 : decode cL_law 381 = .ok (.aload_n 1, 1) := by decide +kernel
theorem dL_law_382 : decode cL_law 382 = .ok (.invokevirtual 52, 3) := by decide +kernel
theorem dL_law_385 : decode cL_law 385 = .ok (.aload_n 2, 1) := by decide +kernel
theorem dL_law_386 : decode cL_law 386 = .ok (.invokevirtual 55, 3) := by decide +kernel
theorem dL_law_389 : decode cL_law 389 = .ok (.if_icmp .eq 387, 3) := by decide +kernel
theorem dL_law_392 : decode cL_law 392 = .ok (.iconst 0, 1) := by decide +kernel
theorem dL_law_393 : decode cL_law 393 = .ok (.ireturn, 1) := by decide +kernel
theorem dL_law_394 : decode cL_law 394 = .ok (.aload_n 1, 1) := by decide +kernel
theorem dL_law_395 : decode cL_law 395 = .ok (.aload_n 0, 1) := by decide +kernel
theorem dL_law_396 : decode cL_law 396 = .ok (.iload_n 3, 1) := by decide +kernel
theorem dL_law_397 : decode cL_law 397 = .ok (.iconst 1, 1) := by decide +kernel
theorem dL_law_398 : decode cL_law 398 = .ok (.iadd, 1) := by decide +kernel
theorem dL_law_399 : decode cL_law 399 = .ok (.iaload, 1) := by decide +kernel
theorem dL_law_400 : decode cL_law 400 = .ok (.invokevirtual 56, 3) := by decide +kernel
theorem dL_law_403 : decode cL_law 403 = .ok (.aload_n 2, 1) := by decide +kernel
theorem dL_law_404 : decode cL_law 404 = .ok (.aload_n 0, 1) := by decide +kernel
theorem dL_law_405 : decode cL_law 405 = .ok (.iload_n 3, 1) := by decide +kernel
theorem dL_law_406 : decode cL_law 406 = .ok (.iconst 1, 1) := by decide +kernel
theorem dL_law_407 : decode cL_law 407 = .ok (.iadd, 1) := by decide +kernel
theorem dL_law_408 : decode cL_law 408 = .ok (.iaload, 1) := by decide +kernel
theorem dL_law_409 : decode cL_law 409 = .ok (.invokevirtual 59, 3) := by decide +kernel
theorem dL_law_412 : decode cL_law 412 = .ok (.if_icmp .eq 364, 3) := by decide +kernel
theorem dL_law_415 : decode cL_law 415 = .ok (.iconst 0, 1) := by decide +kernel
theorem dL_law_416 : decode cL_law 416 = .ok (.ireturn, 1) := by decide +kernel
theorem dL_law_417 : decode cL_law 417 = .ok (.aload_n 1, 1) := by decide +kernel
theorem dL_law_418 : decode cL_law 418 = .ok (.aload_n 0, 1) := by decide +kernel
theorem dL_law_419 : decode cL_law 419 = .ok (.iload_n 3, 1) := by decide +kernel
theorem dL_law_420 : decode cL_law 420 = .ok (.iconst 1, 1) := by decide +kernel
theorem dL_law_421 : decode cL_law 421 = .ok (.iadd, 1) := by decide +kernel
theorem dL_law_422 : decode cL_law 422 = .ok (.iaload, 1) := by decide +kernel
theorem dL_law_423 : decode cL_law 423 = .ok (.aload_n 0, 1) := by decide +kernel
theorem dL_law_424 : decode cL_law 424 = .ok (.iload_n 3, 1) := by decide +kernel
theorem dL_law_425 : decode cL_law 425 = .ok (.iconst 2, 1) := by decide +kernel
theorem dL_law_426 : decode cL_law 426 = .ok (.iadd, 1) := by decide +kernel
theorem dL_law_427 : decode cL_law 427 = .ok (.iaload, 1) := by decide +kernel
theorem dL_law_428 : decode cL_law 428 = .ok (.invokevirtual 60, 3) := by decide +kernel
theorem dL_law_431 : decode cL_law 431 = .ok (.aload_n 2, 1) := by decide +kernel
theorem dL_law_432 : decode cL_law 432 = .ok (.aload_n 0, 1) := by decide +kernel
theorem dL_law_433 : decode cL_law 433 = .ok (.iload_n 3, 1) := by decide +kernel
theorem dL_law_434 : decode cL_law 434 = .ok (.iconst 1, 1) := by decide +kernel
theorem dL_law_435 : decode cL_law 435 = .ok (.iadd, 1) := by decide +kernel
theorem dL_law_436 : decode cL_law 436 = .ok (.iaload, 1) := by decide +kernel
theorem dL_law_437 : decode cL_law 437 = .ok (.aload_n 0, 1) := by decide +kernel
theorem dL_law_438 : decode cL_law 438 = .ok (.iload_n 3, 1) := by decide +kernel
theorem dL_law_439 : decode cL_law 439 = .ok (.iconst 2, 1) := by decide +kernel
theorem dL_law_440 : decode cL_law 440 = .ok (.iadd, 1) := by decide +kernel
theorem dL_law_441 : decode cL_law 441 = .ok (.iaload, 1) := by decide +kernel
theorem dL_law_442 : decode cL_law 442 = .ok (.invokevirtual 63, 3) := by decide +kernel
theorem dL_law_445 : decode cL_law 445 = .ok (.if_icmp .eq 331, 3) := by decide +kernel
theorem dL_law_448 : decode cL_law 448 = .ok (.iconst 0, 1) := by decide +kernel
theorem dL_law_449 : decode cL_law 449 = .ok (.ireturn, 1) := by decide +kernel
theorem dL_law_450 : decode cL_law 450 = .ok (.aload_n 1, 1) := by decide +kernel
theorem dL_law_451 : decode cL_law 451 = .ok (.aload_n 0, 1) := by decide +kernel
theorem dL_law_452 : decode cL_law 452 = .ok (.iload_n 3, 1) := by decide +kernel
theorem dL_law_453 : decode cL_law 453 = .ok (.iconst 1, 1) := by decide +kernel
theorem dL_law_454 : decode cL_law 454 = .ok (.iadd, 1) := by decide +kernel
theorem dL_law_455 : decode cL_law 455 = .ok (.iaload, 1) := by decide +kernel
theorem dL_law_456 : decode cL_law 456 = .ok (.aload_n 0, 1) := by decide +kernel
theorem dL_law_457 : decode cL_law 457 = .ok (.iload_n 3, 1) := by decide +kernel
theorem dL_law_458 : decode cL_law 458 = .ok (.iconst 2, 1) := by decide +kernel
theorem dL_law_459 : decode cL_law 459 = .ok (.iadd, 1) := by decide +kernel
theorem dL_law_460 : decode cL_law 460 = .ok (.iaload, 1) := by decide +kernel
theorem dL_law_461 : decode cL_law 461 = .ok (.invokevirtual 64, 3) := by decide +kernel
theorem dL_law_464 : decode cL_law 464 = .ok (.aload_n 2, 1) := by decide +kernel
theorem dL_law_465 : decode cL_law 465 = .ok (.aload_n 0, 1) := by decide +kernel
theorem dL_law_466 : decode cL_law 466 = .ok (.iload_n 3, 1) := by decide +kernel
