theorem dX1_walls_4 : decode cX1_walls 4 = .ok (.iload_n 2, 1) := by decide +kernel
theorem dX1_walls_5 : decode cX1_walls 5 = .ok (.aload_n 0, 1) := by decide +kernel
theorem dX1_walls_6 : decode cX1_walls 6 = .ok (.getfield 9, 3) := by decide +kernel
theorem dX1_walls_9 : decode cX1_walls 9 = .ok (.if_icmp .ge 34, 3) := by decide +kernel
theorem dX1_walls_12 : decode cX1_walls 12 = .ok (.iload_n 1, 1) := by decide +kernel
theorem dX1_walls_13 : decode cX1_walls 13 = .ok (.aload_n 0, 1) := by decide +kernel
theorem dX1_walls_14 : decode cX1_walls 14 = .ok (.getfield 15, 3) := by decide +kernel
theorem dX1_walls_17 : decode cX1_walls 17 = .ok (.iload_n 2, 1) := by decide +kernel
theorem dX1_walls_18 : decode cX1_walls 18 = .ok (.iconst 1, 1) := by decide +kernel
theorem dX1_walls_19 : decode cX1_walls 19 = .ok (.isub, 1) := by decide +kernel
theorem dX1_walls_20 : decode cX1_walls 20 = .ok (.iaload, 1) := by decide +kernel
theorem dX1_walls_21 : decode cX1_walls 21 = .ok (.aload_n 0, 1) := by decide +kernel
theorem dX1_walls_22 : decode cX1_walls 22 = .ok (.getfield 15, 3) := by decide +kernel
theorem dX1_walls_25 : decode cX1_walls 25 = .ok (.iload_n 2, 1) := by decide +kernel
theorem dX1_walls_26 : decode cX1_walls 26 = .ok (.iaload, 1) := by decide +kernel
theorem dX1_walls_27 : decode cX1_walls 27 = .ok (.if_icmp .eq 7, 3) := by decide +kernel
theorem dX1_walls_30 : decode cX1_walls 30 = .ok (.iconst 1, 1) := by decide +kernel
theorem dX1_walls_31 : decode cX1_walls 31 = .ok (.goto 4, 3) := by decide +kernel
theorem dX1_walls_34 : decode cX1_walls 34 = .ok (.iconst 0, 1) := by decide +kernel
theorem dX1_walls_35 : decode cX1_walls 35 = .ok (.iadd, 1) := by decide +kernel
theorem dX1_walls_36 : decode cX1_walls 36 = .ok (.istore_n 1, 1) := by decide +kernel
theorem dX1_walls_37 : decode cX1_walls 37 = .ok (.iinc 2 1, 3) := by decide +kernel
theorem dX1_walls_40 : decode cX1_walls 40 = .ok (.goto (-36), 3) := by decide +kernel
theorem dX1_walls_43 : decode cX1_walls 43 = .ok (.iload_n 1, 1) := by decide +kernel
theorem dX1_walls_44 : decode cX1_walls 44 = .ok (.ireturn, 1) := by decide +kernel
theorem dX1_goalsMissed_0 : decode cX1_goalsMissed 0 = .ok (.iconst 0, 1) := by decide +kernel
theorem dX1_goalsMissed_1 : decode cX1_goalsMissed 1 = .ok (.istore_n 1, 1) := by decide +kernel
theorem dX1_goalsMissed_2 : decode cX1_goalsMissed 2 = .ok (.iconst 0, 1) := by decide +kernel
theorem dX1_goalsMissed_3 : decode cX1_goalsMissed 3 = .ok (.istore_n 2, 1) := by decide +kernel
theorem dX1_goalsMissed_4 : decode cX1_goalsMissed 4 = .ok (.iload_n 2, 1) := by decide +kernel
theorem dX1_goalsMissed_5 : decode cX1_goalsMissed 5 = .ok (.aload_n 0, 1) := by decide +kernel
theorem dX1_goalsMissed_6 : decode cX1_goalsMissed 6 = .ok (.getfield 9, 3) := by decide +kernel
theorem dX1_goalsMissed_9 : decode cX1_goalsMissed 9 = .ok (.if_icmp .ge 43, 3) := by decide +kernel
theorem dX1_goalsMissed_12 : decode cX1_goalsMissed 12 = .ok (.iload_n 1, 1) := by decide +kernel
theorem dX1_goalsMissed_13 : decode cX1_goalsMissed 13 = .ok (.aload_n 0, 1) := by decide +kernel
theorem dX1_goalsMissed_14 : decode cX1_goalsMissed 14 = .ok (.getfield 22, 3) := by decide +kernel
theorem dX1_goalsMissed_17 : decode cX1_goalsMissed 17 = .ok (.iload_n 2, 1) := by decide +kernel
theorem dX1_goalsMissed_18 : decode cX1_goalsMissed 18 = .ok (.iaload, 1) := by decide +kernel
theorem dX1_goalsMissed_19 : decode cX1_goalsMissed 19 = .ok (.ldc 37, 2) := by decide +kernel
theorem dX1_goalsMissed_21 : decode cX1_goalsMissed 21 = .ok (.if_icmp .eq 22, 3) := by decide +kernel
theorem dX1_goalsMissed_24 : decode cX1_goalsMissed 24 = .ok (.aload_n 0, 1) := by decide +kernel
theorem dX1_goalsMissed_25 : decode cX1_goalsMissed 25 = .ok (.getfield 22, 3) := by decide +kernel
theorem dX1_goalsMissed_28 : decode cX1_goalsMissed 28 = .ok (.iload_n 2, 1) := by decide +kernel
theorem dX1_goalsMissed_29 : decode cX1_goalsMissed 29 = .ok (.iaload, 1) := by decide +kernel
theorem dX1_goalsMissed_30 : decode cX1_goalsMissed 30 = .ok (.aload_n 0, 1) := by decide +kernel
theorem dX1_goalsMissed_31 : decode cX1_goalsMissed 31 = .ok (.getfield 15, 3) := by decide +kernel
theorem dX1_goalsMissed_34 : decode cX1_goalsMissed 34 = .ok (.iload_n 2, 1) := by decide +kernel
theorem dX1_goalsMissed_35 : decode cX1_goalsMissed 35 = .ok (.iaload, 1) := by decide +kernel
theorem dX1_goalsMissed_36 : decode cX1_goalsMissed 36 = .ok (.if_icmp .eq 7, 3) := by decide +kernel
theorem dX1_goalsMissed_39 : decode cX1_goalsMissed 39 = .ok (.iconst 1, 1) := by decide +kernel
theorem dX1_goalsMissed_40 : decode cX1_goalsMissed 40 = .ok (.goto 4, 3) := by decide +kernel
theorem dX1_goalsMissed_43 : decode cX1_goalsMissed 43 = .ok (.iconst 0, 1) := by decide +kernel
theorem dX1_goalsMissed_44 : decode cX1_goalsMissed 44 = .ok (.iadd, 1) := by decide +kernel
theorem dX1_goalsMissed_45 : decode cX1_goalsMissed 45 = .ok (.istore_n 1, 1) := by decide +kernel
theorem dX1_goalsMissed_46 : decode cX1_goalsMissed 46 = .ok (.iinc 2 1, 3) := by decide +kernel
theorem dX1_goalsMissed_49 : decode cX1_goalsMissed 49 = .ok (.goto (-45), 3) := by decide +kernel
theorem dX1_goalsMissed_52 : decode cX1_goalsMissed 52 = .ok (.iload_n 1, 1) := by decide +kernel
theorem dX1_goalsMissed_53 : decode cX1_goalsMissed 53 = .ok (.ireturn, 1) := by decide +kernel
theorem dX1_heldOnes_0 : decode cX1_heldOnes 0 = .ok (.iconst 0, 1) := by decide +kernel
theorem dX1_heldOnes_1 : decode cX1_heldOnes 1 = .ok (.istore_n 1, 1) := by decide +kernel
theorem dX1_heldOnes_2 : decode cX1_heldOnes 2 = .ok (.iconst 0, 1) := by decide +kernel
theorem dX1_heldOnes_3 : decode cX1_heldOnes 3 = .ok (.istore_n 2, 1) := by decide +kernel
theorem dX1_heldOnes_4 : decode cX1_heldOnes 4 = .ok (.iload_n 2, 1) := by decide +kernel
theorem dX1_heldOnes_5 : decode cX1_heldOnes 5 = .ok (.aload_n 0, 1) := by decide +kernel
theorem dX1_heldOnes_6 : decode cX1_heldOnes 6 = .ok (.getfield 9, 3) := by decide +kernel
theorem dX1_heldOnes_9 : decode cX1_heldOnes 9 = .ok (.if_icmp .ge 18, 3) := by decide +kernel
theorem dX1_heldOnes_12 : decode cX1_heldOnes 12 = .ok (.iload_n 1, 1) := by decide +kernel
theorem dX1_heldOnes_13 : decode cX1_heldOnes 13 = .ok (.aload_n 0, 1) := by decide +kernel
theorem dX1_heldOnes_14 : decode cX1_heldOnes 14 = .ok (.getfield 19, 3) := by decide +kernel
theorem dX1_heldOnes_17 : decode cX1_heldOnes 17 = .ok (.iload_n 2, 1) := by decide +kernel
theorem dX1_heldOnes_18 : decode cX1_heldOnes 18 = .ok (.iaload, 1) := by decide +kernel
theorem dX1_heldOnes_19 : decode cX1_heldOnes 19 = .ok (.iadd, 1) := by decide +kernel
theorem dX1_heldOnes_20 : decode cX1_heldOnes 20 = .ok (.istore_n 1, 1) := by decide +kernel
theorem dX1_heldOnes_21 : decode cX1_heldOnes 21 = .ok (.iinc 2 1, 3) := by decide +kernel
theorem dX1_heldOnes_24 : decode cX1_heldOnes 24 = .ok (.goto (-20), 3) := by decide +kernel
theorem dX1_heldOnes_27 : decode cX1_heldOnes 27 = .ok (.iload_n 1, 1) := by decide +kernel
theorem dX1_heldOnes_28 : decode cX1_heldOnes 28 = .ok (.ireturn, 1) := by decide +kernel
theorem dX1_differencesFrom_0 : decode cX1_differencesFrom 0 = .ok (.iconst 0, 1) := by decide +kernel
theorem dX1_differencesFrom_1 : decode cX1_differencesFrom 1 = .ok (.istore_n 2, 1) := by decide +kernel
theorem dX1_differencesFrom_2 : decode cX1_differencesFrom 2 = .ok (.iconst 0, 1) := by decide +kernel
theorem dX1_differencesFrom_3 : decode cX1_differencesFrom 3 = .ok (.istore_n 3, 1) := by decide +kernel
theorem dX1_differencesFrom_4 : decode cX1_differencesFrom 4 = .ok (.iload_n 3, 1) := by decide +kernel
theorem dX1_differencesFrom_5 : decode cX1_differencesFrom 5 = .ok (.aload_n 0, 1) := by decide +kernel
theorem dX1_differencesFrom_6 : decode cX1_differencesFrom 6 = .ok (.getfield 9, 3) := by decide +kernel
theorem dX1_differencesFrom_9 : decode cX1_differencesFrom 9 = .ok (.if_icmp .ge 32, 3) := by decide +kernel
theorem dX1_differencesFrom_12 : decode cX1_differencesFrom 12 = .ok (.iload_n 2, 1) := by decide +kernel
theorem dX1_differencesFrom_13 : decode cX1_differencesFrom 13 = .ok (.aload_n 0, 1) := by decide +kernel
theorem dX1_differencesFrom_14 : decode cX1_differencesFrom 14 = .ok (.getfield 15, 3) := by decide +kernel
theorem dX1_differencesFrom_17 : decode cX1_differencesFrom 17 = .ok (.iload_n 3, 1) := by decide +kernel
theorem dX1_differencesFrom_18 : decode cX1_differencesFrom 18 = .ok (.iaload, 1) := by decide +kernel
theorem dX1_differencesFrom_19 : decode cX1_differencesFrom 19 = .ok (.aload_n 1, 1) := by decide +kernel
theorem dX1_differencesFrom_20 : decode cX1_differencesFrom 20 = .ok (.getfield 15, 3) := by decide +kernel
theorem dX1_differencesFrom_23 : decode cX1_differencesFrom 23 = .ok (.iload_n 3, 1) := by decide +kernel
theorem dX1_differencesFrom_24 : decode cX1_differencesFrom 24 = .ok (.iaload, 1) := by decide +kernel
theorem dX1_differencesFrom_25 : decode cX1_differencesFrom 25 = .ok (.if_icmp .eq 7, 3) := by decide +kernel
theorem dX1_differencesFrom_28 : decode cX1_differencesFrom 28 = .ok (.iconst 1, 1) := by decide +kernel
theorem dX1_differencesFrom_29 : decode cX1_differencesFrom 29 = .ok (.goto 4, 3) := by decide +kernel
theorem dX1_differencesFrom_32 : decode cX1_differencesFrom 32 = .ok (.iconst 0, 1) := by decide +kernel
theorem dX1_differencesFrom_33 : decode cX1_differencesFrom 33 = .ok (.iadd, 1) := by decide +kernel
theorem dX1_differencesFrom_34 : decode cX1_differencesFrom 34 = .ok (.istore_n 2, 1) := by decide +kernel
theorem dX1_differencesFrom_35 : decode cX1_differencesFrom 35 = .ok (.iinc 3 1, 3) := by decide +kernel
theorem dX1_differencesFrom_38 : decode cX1_differencesFrom 38 = .ok (.goto (-34), 3) := by decide +kernel
theorem dX1_differencesFrom_41 : decode cX1_differencesFrom 41 = .ok (.iload_n 2, 1) := by decide +kernel
theorem dX1_differencesFrom_42 : decode cX1_differencesFrom 42 = .ok (.ireturn, 1) := by decide +kernel
theorem dX2_init_0 : decode cX2_init 0 = .ok (.aload_n 0, 1) := by decide +kernel
theorem dX2_init_1 : decode cX2_init 1 = .ok (.invokespecial 1, 3) := by decide +kernel
theorem dX2_init_4 : decode cX2_init 4 = .ok (.aload_n 0, 1) := by decide +kernel
theorem dX2_init_5 : decode cX2_init 5 = .ok (.new 7, 3) := by decide +kernel
theorem dX2_init_8 : decode cX2_init 8 = .ok (.dup, 1) := by decide +kernel
theorem dX2_init_9 : decode cX2_init 9 = .ok (.invokespecial 9, 3) := by decide +kernel
theorem dX2_init_12 : decode cX2_init 12 = .ok (.putfield 10, 3) := by decide +kernel
theorem dX2_init_15 : decode cX2_init 15 = .ok (.aload_n 0, 1) := by decide +kernel
theorem dX2_init_16 : decode cX2_init 16 = .ok (.new 16, 3) := by decide +kernel
theorem dX2_init_19 : decode cX2_init 19 = .ok (.dup, 1) := by decide +kernel
theorem dX2_init_20 : decode cX2_init 20 = .ok (.invokespecial 18, 3) := by decide +kernel
theorem dX2_init_23 : decode cX2_init 23 = .ok (.putfield 19, 3) := by decide +kernel
theorem dX2_init_26 : decode cX2_init 26 = .ok (.return_, 1) := by decide +kernel
theorem dX2_takeFrom_0 : decode cX2_takeFrom 0 = .ok (.aload_n 0, 1) := by decide +kernel
theorem dX2_takeFrom_1 : decode cX2_takeFrom 1 = .ok (.getfield 10, 3) := by decide +kernel
theorem dX2_takeFrom_4 : decode cX2_takeFrom 4 = .ok (.aload_n 1, 1) := by decide +kernel
theorem dX2_takeFrom_5 : decode cX2_takeFrom 5 = .ok (.getfield 10, 3) := by decide +kernel
theorem dX2_takeFrom_8 : decode cX2_takeFrom 8 = .ok (.invokevirtual 23, 3) := by decide +kernel
theorem dX2_takeFrom_11 : decode cX2_takeFrom 11 = .ok (.aload_n 0, 1) := by decide +kernel
theorem dX2_takeFrom_12 : decode cX2_takeFrom 12 = .ok (.getfield 19, 3) := by decide +kernel
theorem dX2_takeFrom_15 : decode cX2_takeFrom 15 = .ok (.aload_n 1, 1) := by decide +kernel
theorem dX2_takeFrom_16 : decode cX2_takeFrom 16 = .ok (.getfield 19, 3) := by decide +kernel
theorem dX2_takeFrom_19 : decode cX2_takeFrom 19 = .ok (.invokevirtual 27, 3) := by decide +kernel
theorem dX2_takeFrom_22 : decode cX2_takeFrom 22 = .ok (.return_, 1) := by decide +kernel
theorem dX3_init_0 : decode cX3_init 0 = .ok (.aload_n 0, 1) := by decide +kernel
theorem dX3_init_1 : decode cX3_init 1 = .ok (.invokespecial 3, 3) := by decide +kernel
theorem dX3_init_4 : decode cX3_init 4 = .ok (.aload_n 0, 1) := by decide +kernel
theorem dX3_init_5 : decode cX3_init 5 = .ok (.bipush 40, 2) := by decide +kernel
theorem dX3_init_7 : decode cX3_init 7 = .ok (.newarray .int, 2) := by decide +kernel
theorem dX3_init_9 : decode cX3_init 9 = .ok (.putfield 9, 3) := by decide +kernel
theorem dX3_init_12 : decode cX3_init 12 = .ok (.aload_n 0, 1) := by decide +kernel
theorem dX3_init_13 : decode cX3_init 13 = .ok (.iconst 0, 1) := by decide +kernel
theorem dX3_init_14 : decode cX3_init 14 = .ok (.putfield 15, 3) := by decide +kernel
theorem dX3_init_17 : decode cX3_init 17 = .ok (.aload_n 0, 1) := by decide +kernel
theorem dX3_init_18 : decode cX3_init 18 = .ok (.ldc 19, 2) := by decide +kernel
theorem dX3_init_20 : decode cX3_init 20 = .ok (.putfield 20, 3) := by decide +kernel
theorem dX3_init_23 : decode cX3_init 23 = .ok (.aload_n 0, 1) := by decide +kernel
theorem dX3_init_24 : decode cX3_init 24 = .ok (.ldc 19, 2) := by decide +kernel
theorem dX3_init_26 : decode cX3_init 26 = .ok (.putfield 23, 3) := by decide +kernel
theorem dX3_init_29 : decode cX3_init 29 = .ok (.return_, 1) := by decide +kernel
theorem dX3_append_0 : decode cX3_append 0 = .ok (.aload_n 0, 1) := by decide +kernel
theorem dX3_append_1 : decode cX3_append 1 = .ok (.getfield 15, 3) := by decide +kernel
theorem dX3_append_4 : decode cX3_append 4 = .ok (.bipush 40, 2) := by decide +kernel
theorem dX3_append_6 : decode cX3_append 6 = .ok (.if_icmp .lt 5, 3) := by decide +kernel
theorem dX3_append_9 : decode cX3_append 9 = .ok (.iconst 0, 1) := by decide +kernel
theorem dX3_append_10 : decode cX3_append 10 = .ok (.ireturn, 1) := by decide +kernel
theorem dX3_append_11 : decode cX3_append 11 = .ok (.aload_n 0, 1) := by decide +kernel
theorem dX3_append_12 : decode cX3_append 12 = .ok (.getfield 9, 3) := by decide +kernel
theorem dX3_append_15 : decode cX3_append 15 = .ok (.aload_n 0, 1) := by decide +kernel
theorem dX3_append_16 : decode cX3_append 16 = .ok (.getfield 15, 3) := by decide +kernel
theorem dX3_append_19 : decode cX3_append 19 = .ok (.iload_n 1, 1) := by decide +kernel
theorem dX3_append_20 : decode cX3_append 20 = .ok (.iastore, 1) := by decide +kernel
theorem dX3_append_21 : decode cX3_append 21 = .ok (.aload_n 0, 1) := by decide +kernel
theorem dX3_append_22 : decode cX3_append 22 = .ok (.dup, 1) := by decide +kernel
theorem dX3_append_23 : decode cX3_append 23 = .ok (.getfield 15, 3) := by decide +kernel
theorem dX3_append_26 : decode cX3_append 26 = .ok (.iconst 1, 1) := by decide +kernel
theorem dX3_append_27 : decode cX3_append 27 = .ok (.iadd, 1) := by decide +kernel
theorem dX3_append_28 : decode cX3_append 28 = .ok (.putfield 15, 3) := by decide +kernel
theorem dX3_append_31 : decode cX3_append 31 = .ok (.iconst 1, 1) := by decide +kernel
theorem dX3_append_32 : decode cX3_append 32 = .ok (.ireturn, 1) := by decide +kernel
theorem dX3_readInto_0 : decode cX3_readInto 0 = .ok (.iconst 0, 1) := by decide +kernel
theorem dX3_readInto_1 : decode cX3_readInto 1 = .ok (.istore_n 2, 1) := by decide +kernel
theorem dX3_readInto_2 : decode cX3_readInto 2 = .ok (.aload_n 1, 1) := by decide +kernel
theorem dX3_readInto_3 : decode cX3_readInto 3 = .ok (.iconst 0, 1) := by decide +kernel
theorem dX3_readInto_4 : decode cX3_readInto 4 = .ok (.putfield 26, 3) := by decide +kernel
theorem dX3_readInto_7 : decode cX3_readInto 7 = .ok (.iconst 0, 1) := by decide +kernel
theorem dX3_readInto_8 : decode cX3_readInto 8 = .ok (.istore_n 3, 1) := by decide +kernel
theorem dX3_readInto_9 : decode cX3_readInto 9 = .ok (.iload_n 3, 1) := by decide +kernel
theorem dX3_readInto_10 : decode cX3_readInto 10 = .ok (.aload_n 0, 1) := by decide +kernel
theorem dX3_readInto_11 : decode cX3_readInto 11 = .ok (.getfield 15, 3) := by decide +kernel
theorem dX3_readInto_14 : decode cX3_readInto 14 = .ok (.if_icmp .ge 115, 3) := by decide +kernel
theorem dX3_readInto_17 : decode cX3_readInto 17 = .ok (.aload_n 0, 1) := by decide +kernel
theorem dX3_readInto_18 : decode cX3_readInto 18 = .ok (.getfield 9, 3) := by decide +kernel
theorem dX3_readInto_21 : decode cX3_readInto 21 = .ok (.iload_n 3, 1) := by decide +kernel
theorem dX3_readInto_22 : decode cX3_readInto 22 = .ok (.iaload, 1) := by decide +kernel
theorem dX3_readInto_23 : decode cX3_readInto 23 = .ok (.istore 4, 2) := by decide +kernel
theorem dX3_readInto_25 : decode cX3_readInto 25 = .ok (.iload 4, 2) := by decide +kernel
theorem dX3_readInto_27 : decode cX3_readInto 27 = .ok (.bipush 48, 2) := by decide +kernel
theorem dX3_readInto_29 : decode cX3_readInto 29 = .ok (.bipush 55, 2) := by decide +kernel
theorem dX3_readInto_31 : decode cX3_readInto 31 = .ok (.invokestatic 31, 3) := by decide +kernel
theorem dX3_readInto_34 : decode cX3_readInto 34 = .ok (.istore 5, 2) := by decide +kernel
theorem dX3_readInto_36 : decode cX3_readInto 36 = .ok (.iload 5, 2) := by decide +kernel
theorem dX3_readInto_38 : decode cX3_readInto 38 = .ok (.ifCond .eq 35, 3) := by decide +kernel
theorem dX3_readInto_41 : decode cX3_readInto 41 = .ok (.aload_n 1, 1) := by decide +kernel
theorem dX3_readInto_42 : decode cX3_readInto 42 = .ok (.getfield 26, 3) := by decide +kernel
theorem dX3_readInto_45 : decode cX3_readInto 45 = .ok (.bipush 10, 2) := by decide +kernel
theorem dX3_readInto_47 : decode cX3_readInto 47 = .ok (.if_icmp .lt 10, 3) := by decide +kernel
theorem dX3_readInto_50 : decode cX3_readInto 50 = .ok (.aload_n 0, 1) := by decide +kernel
theorem dX3_readInto_51 : decode cX3_readInto 51 = .ok (.iconst 2, 1) := by decide +kernel
theorem dX3_readInto_52 : decode cX3_readInto 52 = .ok (.iload_n 3, 1) := by decide +kernel
theorem dX3_readInto_53 : decode cX3_readInto 53 = .ok (.invokevirtual 35, 3) := by decide +kernel
theorem dX3_readInto_56 : decode cX3_readInto 56 = .ok (.ireturn, 1) := by decide +kernel
theorem dX3_readInto_57 : decode cX3_readInto 57 = .ok (.aload_n 1, 1) := by decide +kernel
theorem dX3_readInto_58 : decode cX3_readInto 58 = .ok (.aload_n 1, 1) := by decide +kernel
theorem dX3_readInto_59 : decode cX3_readInto 59 = .ok (.getfield 26, 3) := by decide +kernel
theorem dX3_readInto_62 : decode cX3_readInto 62 = .ok (.iload 4, 2) := by decide +kernel
theorem dX3_readInto_64 : decode cX3_readInto 64 = .ok (.bipush 48, 2) := by decide +kernel
theorem dX3_readInto_66 : decode cX3_readInto 66 = .ok (.isub, 1) := by decide +kernel
theorem dX3_readInto_67 : decode cX3_readInto 67 = .ok (.invokevirtual 39, 3) := by decide +kernel
theorem dX3_readInto_70 : decode cX3_readInto 70 = .ok (.goto 50, 3) := by decide +kernel
theorem dX3_readInto_73 : decode cX3_readInto 73 = .ok (.iload 4, 2) := by decide +kernel
theorem dX3_readInto_75 : decode cX3_readInto 75 = .ok (.bipush 33, 2) := by decide +kernel
theorem dX3_readInto_77 : decode cX3_readInto 77 = .ok (.if_icmp .ne 29, 3) := by decide +kernel
theorem dX3_readInto_80 : decode cX3_readInto 80 = .ok (.iload_n 2, 1) := by decide +kernel
theorem dX3_readInto_81 : decode cX3_readInto 81 = .ok (.ifCond .eq 25, 3) := by decide +kernel
theorem dX3_readInto_84 : decode cX3_readInto 84 = .ok (.aload_n 1, 1) := by decide +kernel
theorem dX3_readInto_85 : decode cX3_readInto 85 = .ok (.getfield 26, 3) := by decide +kernel
theorem dX3_readInto_88 : decode cX3_readInto 88 = .ok (.ifCond .le 18, 3) := by decide +kernel
theorem dX3_readInto_91 : decode cX3_readInto 91 = .ok (.aload_n 1, 1) := by decide +kernel
theorem dX3_readInto_92 : decode cX3_readInto 92 = .ok (.getfield 43, 3) := by decide +kernel
theorem dX3_readInto_95 : decode cX3_readInto 95 = .ok (.aload_n 1, 1) := by decide +kernel
theorem dX3_readInto_96 : decode cX3_readInto 96 = .ok (.getfield 26, 3) := by decide +kernel
theorem dX3_readInto_99 : decode cX3_readInto 99 = .ok (.iconst 1, 1) := by decide +kernel
theorem dX3_readInto_100 : decode cX3_readInto 100 = .ok (.isub, 1) := by decide +kernel
theorem dX3_readInto_101 : decode cX3_readInto 101 = .ok (.iconst 1, 1) := by decide +kernel
theorem dX3_readInto_102 : decode cX3_readInto 102 = .ok (.iastore, 1) := by decide +kernel
theorem dX3_readInto_103 : decode cX3_readInto 103 = .ok (.goto 17, 3) := by decide +kernel
theorem dX3_readInto_106 : decode cX3_readInto 106 = .ok (.iload 4, 2) := by decide +kernel
theorem dX3_readInto_108 : decode cX3_readInto 108 = .ok (.bipush 32, 2) := by decide +kernel
theorem dX3_readInto_110 : decode cX3_readInto 110 = .ok (.if_icmp .eq 10, 3) := by decide +kernel
theorem dX3_readInto_113 : decode cX3_readInto 113 = .ok (.aload_n 0, 1) := by decide +kernel
theorem dX3_readInto_114 : decode cX3_readInto 114 = .ok (.iconst 1, 1) := by decide +kernel
theorem dX3_readInto_115 : decode cX3_readInto 115 = .ok (.iload_n 3, 1) := by decide +kernel
theorem dX3_readInto_116 : decode cX3_readInto 116 = .ok (.invokevirtual 35, 3) := by decide +kernel
theorem dX3_readInto_119 : decode cX3_readInto 119 = .ok (.ireturn, 1) := by decide +kernel
theorem dX3_readInto_120 : decode cX3_readInto 120 = .ok (.iload 5, 2) := by decide +kernel
theorem dX3_readInto_122 : decode cX3_readInto 122 = .ok (.istore_n 2, 1) := by decide +kernel
theorem dX3_readInto_123 : decode cX3_readInto 123 = .ok (.iinc 3 1, 3) := by decide +kernel
theorem dX3_readInto_126 : decode cX3_readInto 126 = .ok (.goto (-117), 3) := by decide +kernel
theorem dX3_readInto_129 : decode cX3_readInto 129 = .ok (.aload_n 1, 1) := by decide +kernel
theorem dX3_readInto_130 : decode cX3_readInto 130 = .ok (.getfield 26, 3) := by decide +kernel
theorem dX3_readInto_133 : decode cX3_readInto 133 = .ok (.ifCond .gt 15, 3) := by decide +kernel
theorem dX3_readInto_136 : decode cX3_readInto 136 = .ok (.aload_n 0, 1) := by decide +kernel
theorem dX3_readInto_137 : decode cX3_readInto 137 = .ok (.iconst 3, 1) := by decide +kernel
theorem dX3_readInto_138 : decode cX3_readInto 138 = .ok (.aload_n 0, 1) := by decide +kernel
theorem dX3_readInto_139 : decode cX3_readInto 139 = .ok (.getfield 15, 3) := by decide +kernel
theorem dX3_readInto_142 : decode cX3_readInto 142 = .ok (.invokevirtual 35, 3) := by decide +kernel
theorem dX3_readInto_145 : decode cX3_readInto 145 = .ok (.ifCond .eq 7, 3) := by decide +kernel
theorem dX3_readInto_148 : decode cX3_readInto 148 = .ok (.iconst 1, 1) := by decide +kernel
theorem dX3_readInto_149 : decode cX3_readInto 149 = .ok (.goto 4, 3) := by decide +kernel
theorem dX3_readInto_152 : decode cX3_readInto 152 = .ok (.iconst 0, 1) := by decide +kernel
theorem dX3_readInto_153 : decode cX3_readInto 153 = .ok (.ireturn, 1) := by decide +kernel
theorem dX3_refuse_0 : decode cX3_refuse 0 = .ok (.aload_n 0, 1) := by decide +kernel
theorem dX3_refuse_1 : decode cX3_refuse 1 = .ok (.iload_n 1, 1) := by decide +kernel
theorem dX3_refuse_2 : decode cX3_refuse 2 = .ok (.putfield 20, 3) := by decide +kernel
theorem dX3_refuse_5 : decode cX3_refuse 5 = .ok (.aload_n 0, 1) := by decide +kernel
theorem dX3_refuse_6 : decode cX3_refuse 6 = .ok (.iload_n 2, 1) := by decide +kernel
theorem dX3_refuse_7 : decode cX3_refuse 7 = .ok (.putfield 23, 3) := by decide +kernel
theorem dX3_refuse_10 : decode cX3_refuse 10 = .ok (.iconst 0, 1) := by decide +kernel
theorem dX3_refuse_11 : decode cX3_refuse 11 = .ok (.ireturn, 1) := by decide +kernel
theorem dX4_init_0 : decode cX4_init 0 = .ok (.aload_n 0, 1) := by decide +kernel
theorem dX4_init_1 : decode cX4_init 1 = .ok (.invokespecial 1, 3) := by decide +kernel
theorem dX4_init_4 : decode cX4_init 4 = .ok (.aload_n 0, 1) := by decide +kernel
theorem dX4_init_5 : decode cX4_init 5 = .ok (.new 7, 3) := by decide +kernel
theorem dX4_init_8 : decode cX4_init 8 = .ok (.dup, 1) := by decide +kernel
theorem dX4_init_9 : decode cX4_init 9 = .ok (.invokespecial 9, 3) := by decide +kernel
theorem dX4_init_12 : decode cX4_init 12 = .ok (.putfield 10, 3) := by decide +kernel
theorem dX4_init_15 : decode cX4_init 15 = .ok (.aload_n 0, 1) := by decide +kernel
theorem dX4_init_16 : decode cX4_init 16 = .ok (.bipush 8, 2) := by decide +kernel
theorem dX4_init_18 : decode cX4_init 18 = .ok (.anewarray 7, 3) := by decide +kernel
theorem dX4_init_21 : decode cX4_init 21 = .ok (.putfield 16, 3) := by decide +kernel
theorem dX4_init_24 : decode cX4_init 24 = .ok (.aload_n 0, 1) := by decide +kernel
theorem dX4_init_25 : decode cX4_init 25 = .ok (.iconst 0, 1) := by decide +kernel
theorem dX4_init_26 : decode cX4_init 26 = .ok (.putfield 20, 3) := by decide +kernel
theorem dX4_init_29 : decode cX4_init 29 = .ok (.aload_n 0, 1) := by decide +kernel
theorem dX4_init_30 : decode cX4_init 30 = .ok (.iconst 2, 1) := by decide +kernel
theorem dX4_init_31 : decode cX4_init 31 = .ok (.anewarray 7, 3) := by decide +kernel
theorem dX4_init_34 : decode cX4_init 34 = .ok (.putfield 24, 3) := by decide +kernel
theorem dX4_init_37 : decode cX4_init 37 = .ok (.aload_n 0, 1) := by decide +kernel
theorem dX4_init_38 : decode cX4_init 38 = .ok (.iconst 2, 1) := by decide +kernel
theorem dX4_init_39 : decode cX4_init 39 = .ok (.newarray .boolean, 2) := by decide +kernel
theorem dX4_init_41 : decode cX4_init 41 = .ok (.putfield 27, 3) := by decide +kernel
theorem dX4_init_44 : decode cX4_init 44 = .ok (.aload_n 0, 1) := by decide +kernel
theorem dX4_init_45 : decode cX4_init 45 = .ok (.new 31, 3) := by decide +kernel
theorem dX4_init_48 : decode cX4_init 48 = .ok (.dup, 1) := by decide +kernel
theorem dX4_init_49 : decode cX4_init 49 = .ok (.invokespecial 33, 3) := by decide +kernel
theorem dX4_init_52 : decode cX4_init 52 = .ok (.putfield 34, 3) := by decide +kernel
theorem dX4_init_55 : decode cX4_init 55 = .ok (.aload_n 0, 1) := by decide +kernel
theorem dX4_init_56 : decode cX4_init 56 = .ok (.iconst 4, 1) := by decide +kernel
theorem dX4_init_57 : decode cX4_init 57 = .ok (.anewarray 38, 3) := by decide +kernel
theorem dX4_init_60 : decode cX4_init 60 = .ok (.putfield 40, 3) := by decide +kernel
theorem dX4_init_63 : decode cX4_init 63 = .ok (.iconst 0, 1) := by decide +kernel
theorem dX4_init_64 : decode cX4_init 64 = .ok (.istore_n 1, 1) := by decide +kernel
theorem dX4_init_65 : decode cX4_init 65 = .ok (.iload_n 1, 1) := by decide +kernel
theorem dX4_init_66 : decode cX4_init 66 = .ok (.aload_n 0, 1) := by decide +kernel
theorem dX4_init_67 : decode cX4_init 67 = .ok (.getfield 16, 3) := by decide +kernel
theorem dX4_init_70 : decode cX4_init 70 = .ok (.arraylength, 1) := by decide +kernel
theorem dX4_init_71 : decode cX4_init 71 = .ok (.if_icmp .ge 22, 3) := by decide +kernel
theorem dX4_init_74 : decode cX4_init 74 = .ok (.aload_n 0, 1) := by decide +kernel
theorem dX4_init_75 : decode cX4_init 75 = .ok (.getfield 16, 3) := by decide +kernel
theorem dX4_init_78 : decode cX4_init 78 = .ok (.iload_n 1, 1) := by decide +kernel
theorem dX4_init_79 : decode cX4_init 79 = .ok (.new 7, 3) := by decide +kernel
theorem dX4_init_82 : decode cX4_init 82 = .ok (.dup, 1) := by decide +kernel
theorem dX4_init_83 : decode cX4_init 83 = .ok (.invokespecial 9, 3) := by decide +kernel
theorem dX4_init_86 : decode cX4_init 86 = .ok (.aastore, 1) := by decide +kernel
theorem dX4_init_87 : decode cX4_init 87 = .ok (.iinc 1 1, 3) := by decide +kernel
theorem dX4_init_90 : decode cX4_init 90 = .ok (.goto (-25), 3) := by decide +kernel
theorem dX4_init_93 : decode cX4_init 93 = .ok (.iconst 0, 1) := by decide +kernel
theorem dX4_init_94 : decode cX4_init 94 = .ok (.istore_n 1, 1) := by decide +kernel
theorem dX4_init_95 : decode cX4_init 95 = .ok (.iload_n 1, 1) := by decide +kernel
theorem dX4_init_96 : decode cX4_init 96 = .ok (.aload_n 0, 1) := by decide +kernel
theorem dX4_init_97 : decode cX4_init 97 = .ok (.getfield 24, 3) := by decide +kernel
theorem dX4_init_100 : decode cX4_init 100 = .ok (.arraylength, 1) := by decide +kernel
theorem dX4_init_101 : decode cX4_init 101 = .ok (.if_icmp .ge 22, 3) := by decide +kernel
theorem dX4_init_104 : decode cX4_init 104 = .ok (.aload_n 0, 1) := by decide +kernel
theorem dX4_init_105 : decode cX4_init 105 = .ok (.getfield 24, 3) := by decide +kernel
theorem dX4_init_108 : decode cX4_init 108 = .ok (.iload_n 1, 1) := by decide +kernel
theorem dX4_init_109 : decode cX4_init 109 = .ok (.new 7, 3) := by decide +kernel
theorem dX4_init_112 : decode cX4_init 112 = .ok (.dup, 1) := by decide +kernel
theorem dX4_init_113 : decode cX4_init 113 = .ok (.invokespecial 9, 3) := by decide +kernel
theorem dX4_init_116 : decode cX4_init 116 = .ok (.aastore, 1) := by decide +kernel
theorem dX4_init_117 : decode cX4_init 117 = .ok (.iinc 1 1, 3) := by decide +kernel
theorem dX4_init_120 : decode cX4_init 120 = .ok (.goto (-25), 3) := by decide +kernel
theorem dX4_init_123 : decode cX4_init 123 = .ok (.iconst 0, 1) := by decide +kernel
theorem dX4_init_124 : decode cX4_init 124 = .ok (.istore_n 1, 1) := by decide +kernel
theorem dX4_init_125 : decode cX4_init 125 = .ok (.iload_n 1, 1) := by decide +kernel
theorem dX4_init_126 : decode cX4_init 126 = .ok (.aload_n 0, 1) := by decide +kernel
theorem dX4_init_127 : decode cX4_init 127 = .ok (.getfield 40, 3) := by decide +kernel
theorem dX4_init_130 : decode cX4_init 130 = .ok (.arraylength, 1) := by decide +kernel
theorem dX4_init_131 : decode cX4_init 131 = .ok (.if_icmp .ge 22, 3) := by decide +kernel
theorem dX4_init_134 : decode cX4_init 134 = .ok (.aload_n 0, 1) := by decide +kernel
theorem dX4_init_135 : decode cX4_init 135 = .ok (.getfield 40, 3) := by decide +kernel
theorem dX4_init_138 : decode cX4_init 138 = .ok (.iload_n 1, 1) := by decide +kernel
theorem dX4_init_139 : decode cX4_init 139 = .ok (.new 38, 3) := by decide +kernel
theorem dX4_init_142 : decode cX4_init 142 = .ok (.dup, 1) := by decide +kernel
theorem dX4_init_143 : decode cX4_init 143 = .ok (.invokespecial 44, 3) := by decide +kernel
theorem dX4_init_146 : decode cX4_init 146 = .ok (.aastore, 1) := by decide +kernel
theorem dX4_init_147 : decode cX4_init 147 = .ok (.iinc 1 1, 3) := by decide +kernel
theorem dX4_init_150 : decode cX4_init 150 = .ok (.goto (-25), 3) := by decide +kernel
theorem dX4_init_153 : decode cX4_init 153 = .ok (.return_, 1) := by decide +kernel
theorem dX4_begin_0 : decode cX4_begin 0 = .ok (.iload_n 1, 1) := by decide +kernel
theorem dX4_begin_1 : decode cX4_begin 1 = .ok (.iconst 1, 1) := by decide +kernel
theorem dX4_begin_2 : decode cX4_begin 2 = .ok (.bipush 10, 2) := by decide +kernel
theorem dX4_begin_4 : decode cX4_begin 4 = .ok (.invokestatic 45, 3) := by decide +kernel
theorem dX4_begin_7 : decode cX4_begin 7 = .ok (.ifCond .ne 6, 3) := by decide +kernel
theorem dX4_begin_10 : decode cX4_begin 10 = .ok (.ldc 49, 2) := by decide +kernel
theorem dX4_begin_12 : decode cX4_begin 12 = .ok (.ireturn, 1) := by decide +kernel
theorem dX4_begin_13 : decode cX4_begin 13 = .ok (.aload_n 0, 1) := by decide +kernel
theorem dX4_begin_14 : decode cX4_begin 14 = .ok (.getfield 10, 3) := by decide +kernel
theorem dX4_begin_17 : decode cX4_begin 17 = .ok (.getfield 50, 3) := by decide +kernel
theorem dX4_begin_20 : decode cX4_begin 20 = .ok (.getfield 54, 3) := by decide +kernel
theorem dX4_begin_23 : decode cX4_begin 23 = .ok (.istore_n 2, 1) := by decide +kernel
theorem dX4_begin_24 : decode cX4_begin 24 = .ok (.aload_n 0, 1) := by decide +kernel
theorem dX4_begin_25 : decode cX4_begin 25 = .ok (.invokevirtual 57, 3) := by decide +kernel
theorem dX4_begin_28 : decode cX4_begin 28 = .ok (.aload_n 0, 1) := by decide +kernel
theorem dX4_begin_29 : decode cX4_begin 29 = .ok (.getfield 10, 3) := by decide +kernel
theorem dX4_begin_32 : decode cX4_begin 32 = .ok (.getfield 50, 3) := by decide +kernel
theorem dX4_begin_35 : decode cX4_begin 35 = .ok (.iload_n 1, 1) := by decide +kernel
theorem dX4_begin_36 : decode cX4_begin 36 = .ok (.invokevirtual 60, 3) := by decide +kernel
theorem dX4_begin_39 : decode cX4_begin 39 = .ok (.aload_n 0, 1) := by decide +kernel
theorem dX4_begin_40 : decode cX4_begin 40 = .ok (.getfield 10, 3) := by decide +kernel
theorem dX4_begin_43 : decode cX4_begin 43 = .ok (.getfield 64, 3) := by decide +kernel
theorem dX4_begin_46 : decode cX4_begin 46 = .ok (.invokevirtual 68, 3) := by decide +kernel
theorem dX4_begin_49 : decode cX4_begin 49 = .ok (.aload_n 0, 1) := by decide +kernel
theorem dX4_begin_50 : decode cX4_begin 50 = .ok (.getfield 10, 3) := by decide +kernel
theorem dX4_begin_53 : decode cX4_begin 53 = .ok (.getfield 50, 3) := by decide +kernel
theorem dX4_begin_56 : decode cX4_begin 56 = .ok (.aload_n 0, 1) := by decide +kernel
theorem dX4_begin_57 : decode cX4_begin 57 = .ok (.getfield 10, 3) := by decide +kernel
theorem dX4_begin_60 : decode cX4_begin 60 = .ok (.getfield 64, 3) := by decide +kernel
theorem dX4_begin_63 : decode cX4_begin 63 = .ok (.invokevirtual 73, 3) := by decide +kernel
theorem dX4_begin_66 : decode cX4_begin 66 = .ok (.pop, 1) := by decide +kernel
theorem dX4_begin_67 : decode cX4_begin 67 = .ok (.iload_n 2, 1) := by decide +kernel
theorem dX4_begin_68 : decode cX4_begin 68 = .ok (.ireturn, 1) := by decide +kernel
theorem dX4_insert_0 : decode cX4_insert 0 = .ok (.aload_n 0, 1) := by decide +kernel
theorem dX4_insert_1 : decode cX4_insert 1 = .ok (.getfield 10, 3) := by decide +kernel
theorem dX4_insert_4 : decode cX4_insert 4 = .ok (.getfield 50, 3) := by decide +kernel
theorem dX4_insert_7 : decode cX4_insert 7 = .ok (.astore_n 3, 1) := by decide +kernel
theorem dX4_insert_8 : decode cX4_insert 8 = .ok (.iload_n 1, 1) := by decide +kernel
theorem dX4_insert_9 : decode cX4_insert 9 = .ok (.iconst 0, 1) := by decide +kernel
theorem dX4_insert_10 : decode cX4_insert 10 = .ok (.aload_n 3, 1) := by decide +kernel
theorem dX4_insert_11 : decode cX4_insert 11 = .ok (.getfield 54, 3) := by decide +kernel
theorem dX4_insert_14 : decode cX4_insert 14 = .ok (.invokestatic 45, 3) := by decide +kernel
theorem dX4_insert_17 : decode cX4_insert 17 = .ok (.ifCond .eq 10, 3) := by decide +kernel
theorem dX4_insert_20 : decode cX4_insert 20 = .ok (.iload_n 2, 1) := by decide +kernel
theorem dX4_insert_21 : decode cX4_insert 21 = .ok (.invokestatic 77, 3) := by decide +kernel
theorem dX4_insert_24 : decode cX4_insert 24 = .ok (.ifCond .ne 6, 3) := by decide +kernel
theorem dX4_insert_27 : decode cX4_insert 27 = .ok (.ldc 49, 2) := by decide +kernel
theorem dX4_insert_29 : decode cX4_insert 29 = .ok (.ireturn, 1) := by decide +kernel
theorem dX4_insert_30 : decode cX4_insert 30 = .ok (.aload_n 3, 1) := by decide +kernel
theorem dX4_insert_31 : decode cX4_insert 31 = .ok (.getfield 54, 3) := by decide +kernel
theorem dX4_insert_34 : decode cX4_insert 34 = .ok (.bipush 10, 2) := by decide +kernel
theorem dX4_insert_36 : decode cX4_insert 36 = .ok (.if_icmp .lt 6, 3) := by decide +kernel
theorem dX4_insert_39 : decode cX4_insert 39 = .ok (.ldc 81, 2) := by decide +kernel
theorem dX4_insert_41 : decode cX4_insert 41 = .ok (.ireturn, 1) := by decide +kernel
theorem dX4_insert_42 : decode cX4_insert 42 = .ok (.aload_n 0, 1) := by decide +kernel
theorem dX4_insert_43 : decode cX4_insert 43 = .ok (.invokevirtual 82, 3) := by decide +kernel
theorem dX4_insert_46 : decode cX4_insert 46 = .ok (.istore 4, 2) := by decide +kernel
theorem dX4_insert_48 : decode cX4_insert 48 = .ok (.aload_n 3, 1) := by decide +kernel
theorem dX4_insert_49 : decode cX4_insert 49 = .ok (.iload_n 1, 1) := by decide +kernel
theorem dX4_insert_50 : decode cX4_insert 50 = .ok (.iload_n 2, 1) := by decide +kernel
theorem dX4_insert_51 : decode cX4_insert 51 = .ok (.invokevirtual 86, 3) := by decide +kernel
theorem dX4_insert_54 : decode cX4_insert 54 = .ok (.aload_n 0, 1) := by decide +kernel
theorem dX4_insert_55 : decode cX4_insert 55 = .ok (.iload 4, 2) := by decide +kernel
theorem dX4_insert_57 : decode cX4_insert 57 = .ok (.invokevirtual 90, 3) := by decide +kernel
theorem dX4_insert_60 : decode cX4_insert 60 = .ok (.pop, 1) := by decide +kernel
theorem dX4_insert_61 : decode cX4_insert 61 = .ok (.aload_n 3, 1) := by decide +kernel
theorem dX4_insert_62 : decode cX4_insert 62 = .ok (.getfield 54, 3) := by decide +kernel
theorem dX4_insert_65 : decode cX4_insert 65 = .ok (.ireturn, 1) := by decide +kernel
theorem dX4_remove_0 : decode cX4_remove 0 = .ok (.aload_n 0, 1) := by decide +kernel
theorem dX4_remove_1 : decode cX4_remove 1 = .ok (.getfield 10, 3) := by decide +kernel
theorem dX4_remove_4 : decode cX4_remove 4 = .ok (.getfield 50, 3) := by decide +kernel
theorem dX4_remove_7 : decode cX4_remove 7 = .ok (.astore_n 2, 1) := by decide +kernel
theorem dX4_remove_8 : decode cX4_remove 8 = .ok (.aload_n 0, 1) := by decide +kernel
theorem dX4_remove_9 : decode cX4_remove 9 = .ok (.iload_n 1, 1) := by decide +kernel
theorem dX4_remove_10 : decode cX4_remove 10 = .ok (.invokevirtual 94, 3) := by decide +kernel
theorem dX4_remove_13 : decode cX4_remove 13 = .ok (.ifCond .ne 6, 3) := by decide +kernel
theorem dX4_remove_16 : decode cX4_remove 16 = .ok (.ldc 49, 2) := by decide +kernel
theorem dX4_remove_18 : decode cX4_remove 18 = .ok (.ireturn, 1) := by decide +kernel
theorem dX4_remove_19 : decode cX4_remove 19 = .ok (.aload_n 2, 1) := by decide +kernel
theorem dX4_remove_20 : decode cX4_remove 20 = .ok (.getfield 54, 3) := by decide +kernel
theorem dX4_remove_23 : decode cX4_remove 23 = .ok (.iconst 1, 1) := by decide +kernel
theorem dX4_remove_24 : decode cX4_remove 24 = .ok (.if_icmp .ne 6, 3) := by decide +kernel
theorem dX4_remove_27 : decode cX4_remove 27 = .ok (.ldc 97, 2) := by decide +kernel
theorem dX4_remove_29 : decode cX4_remove 29 = .ok (.ireturn, 1) := by decide +kernel
theorem dX4_remove_30 : decode cX4_remove 30 = .ok (.aload_n 2, 1) := by decide +kernel
theorem dX4_remove_31 : decode cX4_remove 31 = .ok (.getfield 98, 3) := by decide +kernel
theorem dX4_remove_34 : decode cX4_remove 34 = .ok (.iload_n 1, 1) := by decide +kernel
theorem dX4_remove_35 : decode cX4_remove 35 = .ok (.iaload, 1) := by decide +kernel
theorem dX4_remove_36 : decode cX4_remove 36 = .ok (.istore_n 3, 1) := by decide +kernel
theorem dX4_remove_37 : decode cX4_remove 37 = .ok (.aload_n 0, 1) := by decide +kernel
theorem dX4_remove_38 : decode cX4_remove 38 = .ok (.invokevirtual 82, 3) := by decide +kernel
theorem dX4_remove_41 : decode cX4_remove 41 = .ok (.istore 4, 2) := by decide +kernel
theorem dX4_remove_43 : decode cX4_remove 43 = .ok (.aload_n 2, 1) := by decide +kernel
theorem dX4_remove_44 : decode cX4_remove 44 = .ok (.iload_n 1, 1) := by decide +kernel
theorem dX4_remove_45 : decode cX4_remove 45 = .ok (.invokevirtual 102, 3) := by decide +kernel
theorem dX4_remove_48 : decode cX4_remove 48 = .ok (.aload_n 0, 1) := by decide +kernel
theorem dX4_remove_49 : decode cX4_remove 49 = .ok (.iload 4, 2) := by decide +kernel
theorem dX4_remove_51 : decode cX4_remove 51 = .ok (.invokevirtual 90, 3) := by decide +kernel
theorem dX4_remove_54 : decode cX4_remove 54 = .ok (.pop, 1) := by decide +kernel
theorem dX4_remove_55 : decode cX4_remove 55 = .ok (.iload_n 3, 1) := by decide +kernel
theorem dX4_remove_56 : decode cX4_remove 56 = .ok (.ireturn, 1) := by decide +kernel
theorem dX4_shed_0 : decode cX4_shed 0 = .ok (.aload_n 0, 1) := by decide +kernel
theorem dX4_shed_1 : decode cX4_shed 1 = .ok (.getfield 10, 3) := by decide +kernel
theorem dX4_shed_4 : decode cX4_shed 4 = .ok (.getfield 50, 3) := by decide +kernel
theorem dX4_shed_7 : decode cX4_shed 7 = .ok (.astore_n 1, 1) := by decide +kernel
theorem dX4_shed_8 : decode cX4_shed 8 = .ok (.aload_n 0, 1) := by decide +kernel
theorem dX4_shed_9 : decode cX4_shed 9 = .ok (.getfield 40, 3) := by decide +kernel
theorem dX4_shed_12 : decode cX4_shed 12 = .ok (.iconst 0, 1) := by decide +kernel
theorem dX4_shed_13 : decode cX4_shed 13 = .ok (.aaload, 1) := by decide +kernel
theorem dX4_shed_14 : decode cX4_shed 14 = .ok (.astore_n 2, 1) := by decide +kernel
theorem dX4_shed_15 : decode cX4_shed 15 = .ok (.aload_n 2, 1) := by decide +kernel
theorem dX4_shed_16 : decode cX4_shed 16 = .ok (.iconst 0, 1) := by decide +kernel
theorem dX4_shed_17 : decode cX4_shed 17 = .ok (.putfield 54, 3) := by decide +kernel
theorem dX4_shed_20 : decode cX4_shed 20 = .ok (.iconst 0, 1) := by decide +kernel
theorem dX4_shed_21 : decode cX4_shed 21 = .ok (.istore_n 3, 1) := by decide +kernel
theorem dX4_shed_22 : decode cX4_shed 22 = .ok (.iload_n 3, 1) := by decide +kernel
theorem dX4_shed_23 : decode cX4_shed 23 = .ok (.aload_n 1, 1) := by decide +kernel
theorem dX4_shed_24 : decode cX4_shed 24 = .ok (.getfield 54, 3) := by decide +kernel
theorem dX4_shed_27 : decode cX4_shed 27 = .ok (.if_icmp .ge 33, 3) := by decide +kernel
theorem dX4_shed_30 : decode cX4_shed 30 = .ok (.aload_n 1, 1) := by decide +kernel
theorem dX4_shed_31 : decode cX4_shed 31 = .ok (.getfield 105, 3) := by decide +kernel
theorem dX4_shed_34 : decode cX4_shed 34 = .ok (.iload_n 3, 1) := by decide +kernel
theorem dX4_shed_35 : decode cX4_shed 35 = .ok (.iaload, 1) := by decide +kernel
theorem dX4_shed_36 : decode cX4_shed 36 = .ok (.iconst 1, 1) := by decide +kernel
theorem dX4_shed_37 : decode cX4_shed 37 = .ok (.if_icmp .eq 11, 3) := by decide +kernel
theorem dX4_shed_40 : decode cX4_shed 40 = .ok (.aload_n 1, 1) := by decide +kernel
theorem dX4_shed_41 : decode cX4_shed 41 = .ok (.iload_n 3, 1) := by decide +kernel
theorem dX4_shed_42 : decode cX4_shed 42 = .ok (.invokevirtual 108, 3) := by decide +kernel
theorem dX4_shed_45 : decode cX4_shed 45 = .ok (.ifCond .gt 9, 3) := by decide +kernel
theorem dX4_shed_48 : decode cX4_shed 48 = .ok (.aload_n 2, 1) := by decide +kernel
theorem dX4_shed_49 : decode cX4_shed 49 = .ok (.aload_n 1, 1) := by decide +kernel
theorem dX4_shed_50 : decode cX4_shed 50 = .ok (.iload_n 3, 1) := by decide +kernel
theorem dX4_shed_51 : decode cX4_shed 51 = .ok (.invokevirtual 111, 3) := by decide +kernel
theorem dX4_shed_54 : decode cX4_shed 54 = .ok (.iinc 3 1, 3) := by decide +kernel
theorem dX4_shed_57 : decode cX4_shed 57 = .ok (.goto (-35), 3) := by decide +kernel
theorem dX4_shed_60 : decode cX4_shed 60 = .ok (.aload_n 2, 1) := by decide +kernel
theorem dX4_shed_61 : decode cX4_shed 61 = .ok (.getfield 54, 3) := by decide +kernel
theorem dX4_shed_64 : decode cX4_shed 64 = .ok (.ifCond .ne 6, 3) := by decide +kernel
theorem dX4_shed_67 : decode cX4_shed 67 = .ok (.ldc 97, 2) := by decide +kernel
theorem dX4_shed_69 : decode cX4_shed 69 = .ok (.ireturn, 1) := by decide +kernel
theorem dX4_shed_70 : decode cX4_shed 70 = .ok (.aload_n 1, 1) := by decide +kernel
theorem dX4_shed_71 : decode cX4_shed 71 = .ok (.getfield 54, 3) := by decide +kernel
theorem dX4_shed_74 : decode cX4_shed 74 = .ok (.aload_n 2, 1) := by decide +kernel
theorem dX4_shed_75 : decode cX4_shed 75 = .ok (.getfield 54, 3) := by decide +kernel
theorem dX4_shed_78 : decode cX4_shed 78 = .ok (.isub, 1) := by decide +kernel
theorem dX4_shed_79 : decode cX4_shed 79 = .ok (.istore_n 3, 1) := by decide +kernel
theorem dX4_shed_80 : decode cX4_shed 80 = .ok (.aload_n 0, 1) := by decide +kernel
theorem dX4_shed_81 : decode cX4_shed 81 = .ok (.invokevirtual 82, 3) := by decide +kernel
theorem dX4_shed_84 : decode cX4_shed 84 = .ok (.istore 4, 2) := by decide +kernel
theorem dX4_shed_86 : decode cX4_shed 86 = .ok (.aload_n 1, 1) := by decide +kernel
theorem dX4_shed_87 : decode cX4_shed 87 = .ok (.aload_n 2, 1) := by decide +kernel
theorem dX4_shed_88 : decode cX4_shed 88 = .ok (.invokevirtual 115, 3) := by decide +kernel
theorem dX4_shed_91 : decode cX4_shed 91 = .ok (.aload_n 0, 1) := by decide +kernel
theorem dX4_shed_92 : decode cX4_shed 92 = .ok (.iload 4, 2) := by decide +kernel
theorem dX4_shed_94 : decode cX4_shed 94 = .ok (.invokevirtual 90, 3) := by decide +kernel
theorem dX4_shed_97 : decode cX4_shed 97 = .ok (.pop, 1) := by decide +kernel
theorem dX4_shed_98 : decode cX4_shed 98 = .ok (.iload_n 3, 1) := by decide +kernel
theorem dX4_shed_99 : decode cX4_shed 99 = .ok (.ireturn, 1) := by decide +kernel
theorem dX4_reverse_0 : decode cX4_reverse 0 = .ok (.aload_n 0, 1) := by decide +kernel
theorem dX4_reverse_1 : decode cX4_reverse 1 = .ok (.getfield 10, 3) := by decide +kernel
theorem dX4_reverse_4 : decode cX4_reverse 4 = .ok (.getfield 50, 3) := by decide +kernel
theorem dX4_reverse_7 : decode cX4_reverse 7 = .ok (.astore_n 1, 1) := by decide +kernel
theorem dX4_reverse_8 : decode cX4_reverse 8 = .ok (.aload_n 0, 1) := by decide +kernel
theorem dX4_reverse_9 : decode cX4_reverse 9 = .ok (.getfield 40, 3) := by decide +kernel
theorem dX4_reverse_12 : decode cX4_reverse 12 = .ok (.iconst 0, 1) := by decide +kernel
theorem dX4_reverse_13 : decode cX4_reverse 13 = .ok (.aaload, 1) := by decide +kernel
theorem dX4_reverse_14 : decode cX4_reverse 14 = .ok (.astore_n 2, 1) := by decide +kernel
theorem dX4_reverse_15 : decode cX4_reverse 15 = .ok (.aload_n 2, 1) := by decide +kernel
theorem dX4_reverse_16 : decode cX4_reverse 16 = .ok (.iconst 0, 1) := by decide +kernel
theorem dX4_reverse_17 : decode cX4_reverse 17 = .ok (.putfield 54, 3) := by decide +kernel
theorem dX4_reverse_20 : decode cX4_reverse 20 = .ok (.aload_n 1, 1) := by decide +kernel
theorem dX4_reverse_21 : decode cX4_reverse 21 = .ok (.getfield 54, 3) := by decide +kernel
theorem dX4_reverse_24 : decode cX4_reverse 24 = .ok (.iconst 1, 1) := by decide +kernel
theorem dX4_reverse_25 : decode cX4_reverse 25 = .ok (.isub, 1) := by decide +kernel
theorem dX4_reverse_26 : decode cX4_reverse 26 = .ok (.istore_n 3, 1) := by decide +kernel
theorem dX4_reverse_27 : decode cX4_reverse 27 = .ok (.iload_n 3, 1) := by decide +kernel
theorem dX4_reverse_28 : decode cX4_reverse 28 = .ok (.ifCond .lt 15, 3) := by decide +kernel
theorem dX4_reverse_31 : decode cX4_reverse 31 = .ok (.aload_n 2, 1) := by decide +kernel
theorem dX4_reverse_32 : decode cX4_reverse 32 = .ok (.aload_n 1, 1) := by decide +kernel
theorem dX4_reverse_33 : decode cX4_reverse 33 = .ok (.iload_n 3, 1) := by decide +kernel
theorem dX4_reverse_34 : decode cX4_reverse 34 = .ok (.invokevirtual 111, 3) := by decide +kernel
theorem dX4_reverse_37 : decode cX4_reverse 37 = .ok (.iinc 3 (-1), 3) := by decide +kernel
theorem dX4_reverse_40 : decode cX4_reverse 40 = .ok (.goto (-13), 3) := by decide +kernel
theorem dX4_reverse_43 : decode cX4_reverse 43 = .ok (.aload_n 2, 1) := by decide +kernel
theorem dX4_reverse_44 : decode cX4_reverse 44 = .ok (.invokevirtual 119, 3) := by decide +kernel
theorem dX4_reverse_47 : decode cX4_reverse 47 = .ok (.aload_n 1, 1) := by decide +kernel
theorem dX4_reverse_48 : decode cX4_reverse 48 = .ok (.aload_n 2, 1) := by decide +kernel
theorem dX4_reverse_49 : decode cX4_reverse 49 = .ok (.invokevirtual 122, 3) := by decide +kernel
theorem dX4_reverse_52 : decode cX4_reverse 52 = .ok (.istore_n 3, 1) := by decide +kernel
theorem dX4_reverse_53 : decode cX4_reverse 53 = .ok (.aload_n 0, 1) := by decide +kernel
theorem dX4_reverse_54 : decode cX4_reverse 54 = .ok (.invokevirtual 82, 3) := by decide +kernel
theorem dX4_reverse_57 : decode cX4_reverse 57 = .ok (.istore 4, 2) := by decide +kernel
theorem dX4_reverse_59 : decode cX4_reverse 59 = .ok (.aload_n 1, 1) := by decide +kernel
theorem dX4_reverse_60 : decode cX4_reverse 60 = .ok (.aload_n 2, 1) := by decide +kernel
theorem dX4_reverse_61 : decode cX4_reverse 61 = .ok (.invokevirtual 115, 3) := by decide +kernel
theorem dX4_reverse_64 : decode cX4_reverse 64 = .ok (.aload_n 0, 1) := by decide +kernel
theorem dX4_reverse_65 : decode cX4_reverse 65 = .ok (.iload 4, 2) := by decide +kernel
theorem dX4_reverse_67 : decode cX4_reverse 67 = .ok (.invokevirtual 90, 3) := by decide +kernel
theorem dX4_reverse_70 : decode cX4_reverse 70 = .ok (.pop, 1) := by decide +kernel
theorem dX4_reverse_71 : decode cX4_reverse 71 = .ok (.iload_n 3, 1) := by decide +kernel
theorem dX4_reverse_72 : decode cX4_reverse 72 = .ok (.ireturn, 1) := by decide +kernel
theorem dX4_hold_0 : decode cX4_hold 0 = .ok (.aload_n 0, 1) := by decide +kernel
theorem dX4_hold_1 : decode cX4_hold 1 = .ok (.iload_n 1, 1) := by decide +kernel
theorem dX4_hold_2 : decode cX4_hold 2 = .ok (.invokevirtual 94, 3) := by decide +kernel
theorem dX4_hold_5 : decode cX4_hold 5 = .ok (.ifCond .eq 12, 3) := by decide +kernel
theorem dX4_hold_8 : decode cX4_hold 8 = .ok (.iload_n 2, 1) := by decide +kernel
theorem dX4_hold_9 : decode cX4_hold 9 = .ok (.iconst 0, 1) := by decide +kernel
theorem dX4_hold_10 : decode cX4_hold 10 = .ok (.iconst 1, 1) := by decide +kernel
theorem dX4_hold_11 : decode cX4_hold 11 = .ok (.invokestatic 45, 3) := by decide +kernel
theorem dX4_hold_14 : decode cX4_hold 14 = .ok (.ifCond .ne 6, 3) := by decide +kernel
theorem dX4_hold_17 : decode cX4_hold 17 = .ok (.ldc 49, 2) := by decide +kernel
theorem dX4_hold_19 : decode cX4_hold 19 = .ok (.ireturn, 1) := by decide +kernel
theorem dX4_hold_20 : decode cX4_hold 20 = .ok (.aload_n 0, 1) := by decide +kernel
theorem dX4_hold_21 : decode cX4_hold 21 = .ok (.getfield 10, 3) := by decide +kernel
theorem dX4_hold_24 : decode cX4_hold 24 = .ok (.getfield 50, 3) := by decide +kernel
theorem dX4_hold_27 : decode cX4_hold 27 = .ok (.getfield 105, 3) := by decide +kernel
theorem dX4_hold_30 : decode cX4_hold 30 = .ok (.iload_n 1, 1) := by decide +kernel
theorem dX4_hold_31 : decode cX4_hold 31 = .ok (.iaload, 1) := by decide +kernel
theorem dX4_hold_32 : decode cX4_hold 32 = .ok (.istore_n 3, 1) := by decide +kernel
theorem dX4_hold_33 : decode cX4_hold 33 = .ok (.aload_n 0, 1) := by decide +kernel
theorem dX4_hold_34 : decode cX4_hold 34 = .ok (.invokevirtual 82, 3) := by decide +kernel
theorem dX4_hold_37 : decode cX4_hold 37 = .ok (.istore 4, 2) := by decide +kernel
theorem dX4_hold_39 : decode cX4_hold 39 = .ok (.aload_n 0, 1) := by decide +kernel
theorem dX4_hold_40 : decode cX4_hold 40 = .ok (.getfield 10, 3) := by decide +kernel
theorem dX4_hold_43 : decode cX4_hold 43 = .ok (.getfield 50, 3) := by decide +kernel
theorem dX4_hold_46 : decode cX4_hold 46 = .ok (.getfield 105, 3) := by decide +kernel
theorem dX4_hold_49 : decode cX4_hold 49 = .ok (.iload_n 1, 1) := by decide +kernel
theorem dX4_hold_50 : decode cX4_hold 50 = .ok (.iload_n 2, 1) := by decide +kernel
theorem dX4_hold_51 : decode cX4_hold 51 = .ok (.iastore, 1) := by decide +kernel
theorem dX4_hold_52 : decode cX4_hold 52 = .ok (.aload_n 0, 1) := by decide +kernel
theorem dX4_hold_53 : decode cX4_hold 53 = .ok (.iload 4, 2) := by decide +kernel
theorem dX4_hold_55 : decode cX4_hold 55 = .ok (.invokevirtual 90, 3) := by decide +kernel
theorem dX4_hold_58 : decode cX4_hold 58 = .ok (.pop, 1) := by decide +kernel
theorem dX4_hold_59 : decode cX4_hold 59 = .ok (.iload_n 3, 1) := by decide +kernel
theorem dX4_hold_60 : decode cX4_hold 60 = .ok (.ireturn, 1) := by decide +kernel
theorem dX4_push_0 : decode cX4_push 0 = .ok (.aload_n 0, 1) := by decide +kernel
theorem dX4_push_1 : decode cX4_push 1 = .ok (.iload_n 1, 1) := by decide +kernel
theorem dX4_push_2 : decode cX4_push 2 = .ok (.invokevirtual 94, 3) := by decide +kernel
theorem dX4_push_5 : decode cX4_push 5 = .ok (.ifCond .eq 10, 3) := by decide +kernel
theorem dX4_push_8 : decode cX4_push 8 = .ok (.iload_n 2, 1) := by decide +kernel
theorem dX4_push_9 : decode cX4_push 9 = .ok (.invokestatic 126, 3) := by decide +kernel
theorem dX4_push_12 : decode cX4_push 12 = .ok (.ifCond .ne 6, 3) := by decide +kernel
theorem dX4_push_15 : decode cX4_push 15 = .ok (.ldc 49, 2) := by decide +kernel
theorem dX4_push_17 : decode cX4_push 17 = .ok (.ireturn, 1) := by decide +kernel
theorem dX4_push_18 : decode cX4_push 18 = .ok (.aload_n 0, 1) := by decide +kernel
theorem dX4_push_19 : decode cX4_push 19 = .ok (.getfield 10, 3) := by decide +kernel
theorem dX4_push_22 : decode cX4_push 22 = .ok (.getfield 50, 3) := by decide +kernel
theorem dX4_push_25 : decode cX4_push 25 = .ok (.getfield 105, 3) := by decide +kernel
theorem dX4_push_28 : decode cX4_push 28 = .ok (.iload_n 1, 1) := by decide +kernel
theorem dX4_push_29 : decode cX4_push 29 = .ok (.iaload, 1) := by decide +kernel
theorem dX4_push_30 : decode cX4_push 30 = .ok (.iconst 1, 1) := by decide +kernel
theorem dX4_push_31 : decode cX4_push 31 = .ok (.if_icmp .ne 6, 3) := by decide +kernel
theorem dX4_push_34 : decode cX4_push 34 = .ok (.ldc 97, 2) := by decide +kernel
theorem dX4_push_36 : decode cX4_push 36 = .ok (.ireturn, 1) := by decide +kernel
theorem dX4_push_37 : decode cX4_push 37 = .ok (.aload_n 0, 1) := by decide +kernel
theorem dX4_push_38 : decode cX4_push 38 = .ok (.invokevirtual 82, 3) := by decide +kernel
theorem dX4_push_41 : decode cX4_push 41 = .ok (.istore_n 3, 1) := by decide +kernel
theorem dX4_push_42 : decode cX4_push 42 = .ok (.aload_n 0, 1) := by decide +kernel
theorem dX4_push_43 : decode cX4_push 43 = .ok (.getfield 10, 3) := by decide +kernel
theorem dX4_push_46 : decode cX4_push 46 = .ok (.getfield 50, 3) := by decide +kernel
theorem dX4_push_49 : decode cX4_push 49 = .ok (.iload_n 1, 1) := by decide +kernel
theorem dX4_push_50 : decode cX4_push 50 = .ok (.iload_n 2, 1) := by decide +kernel
theorem dX4_push_51 : decode cX4_push 51 = .ok (.invokevirtual 129, 3) := by decide +kernel
theorem dX4_push_54 : decode cX4_push 54 = .ok (.aload_n 0, 1) := by decide +kernel
theorem dX4_push_55 : decode cX4_push 55 = .ok (.getfield 10, 3) := by decide +kernel
theorem dX4_push_58 : decode cX4_push 58 = .ok (.getfield 64, 3) := by decide +kernel
theorem dX4_push_61 : decode cX4_push 61 = .ok (.dup, 1) := by decide +kernel
theorem dX4_push_62 : decode cX4_push 62 = .ok (.getfield 132, 3) := by decide +kernel
theorem dX4_push_65 : decode cX4_push 65 = .ok (.iconst 1, 1) := by decide +kernel
theorem dX4_push_66 : decode cX4_push 66 = .ok (.iadd, 1) := by decide +kernel
theorem dX4_push_67 : decode cX4_push 67 = .ok (.putfield 132, 3) := by decide +kernel
theorem dX4_push_70 : decode cX4_push 70 = .ok (.aload_n 0, 1) := by decide +kernel
theorem dX4_push_71 : decode cX4_push 71 = .ok (.iload_n 3, 1) := by decide +kernel
theorem dX4_push_72 : decode cX4_push 72 = .ok (.invokevirtual 90, 3) := by decide +kernel
theorem dX4_push_75 : decode cX4_push 75 = .ok (.ireturn, 1) := by decide +kernel
theorem dX4_set_0 : decode cX4_set 0 = .ok (.iload_n 1, 1) := by decide +kernel
theorem dX4_set_1 : decode cX4_set 1 = .ok (.iload_n 2, 1) := by decide +kernel
theorem dX4_set_2 : decode cX4_set 2 = .ok (.invokestatic 135, 3) := by decide +kernel
theorem dX4_set_5 : decode cX4_set 5 = .ok (.ifCond .ne 6, 3) := by decide +kernel
theorem dX4_set_8 : decode cX4_set 8 = .ok (.ldc 49, 2) := by decide +kernel
theorem dX4_set_10 : decode cX4_set 10 = .ok (.ireturn, 1) := by decide +kernel
theorem dX4_set_11 : decode cX4_set 11 = .ok (.aload_n 0, 1) := by decide +kernel
theorem dX4_set_12 : decode cX4_set 12 = .ok (.getfield 10, 3) := by decide +kernel
theorem dX4_set_15 : decode cX4_set 15 = .ok (.getfield 50, 3) := by decide +kernel
theorem dX4_set_18 : decode cX4_set 18 = .ok (.astore_n 3, 1) := by decide +kernel
theorem dX4_set_19 : decode cX4_set 19 = .ok (.aload_n 0, 1) := by decide +kernel
theorem dX4_set_20 : decode cX4_set 20 = .ok (.invokevirtual 82, 3) := by decide +kernel
theorem dX4_set_23 : decode cX4_set 23 = .ok (.istore 4, 2) := by decide +kernel
theorem dX4_set_25 : decode cX4_set 25 = .ok (.iload_n 1, 1) := by decide +kernel
theorem dX4_set_26 : decode cX4_set 26 = .ok (.tableswitch 50 0 2 #[26, 34, 42], 26) := by decide +kernel
theorem dX4_set_52 : decode cX4_set 52 = .ok (.aload_n 3, 1) := by decide +kernel
theorem dX4_set_53 : decode cX4_set 53 = .ok (.iload_n 2, 1) := by decide +kernel
theorem dX4_set_54 : decode cX4_set 54 = .ok (.putfield 139, 3) := by decide +kernel
theorem dX4_set_57 : decode cX4_set 57 = .ok (.goto 24, 3) := by decide +kernel
theorem dX4_set_60 : decode cX4_set 60 = .ok (.aload_n 3, 1) := by decide +kernel
theorem dX4_set_61 : decode cX4_set 61 = .ok (.iload_n 2, 1) := by decide +kernel
theorem dX4_set_62 : decode cX4_set 62 = .ok (.putfield 142, 3) := by decide +kernel
theorem dX4_set_65 : decode cX4_set 65 = .ok (.goto 16, 3) := by decide +kernel
theorem dX4_set_68 : decode cX4_set 68 = .ok (.aload_n 3, 1) := by decide +kernel
theorem dX4_set_69 : decode cX4_set 69 = .ok (.iload_n 2, 1) := by decide +kernel
theorem dX4_set_70 : decode cX4_set 70 = .ok (.putfield 145, 3) := by decide +kernel
theorem dX4_set_73 : decode cX4_set 73 = .ok (.goto 8, 3) := by decide +kernel
theorem dX4_set_76 : decode cX4_set 76 = .ok (.aload_n 3, 1) := by decide +kernel
theorem dX4_set_77 : decode cX4_set 77 = .ok (.iload_n 2, 1) := by decide +kernel
theorem dX4_set_78 : decode cX4_set 78 = .ok (.putfield 148, 3) := by decide +kernel
theorem dX4_set_81 : decode cX4_set 81 = .ok (.aload_n 0, 1) := by decide +kernel
theorem dX4_set_82 : decode cX4_set 82 = .ok (.iload 4, 2) := by decide +kernel
theorem dX4_set_84 : decode cX4_set 84 = .ok (.invokevirtual 90, 3) := by decide +kernel
theorem dX4_set_87 : decode cX4_set 87 = .ok (.ireturn, 1) := by decide +kernel
theorem dX4_goal_0 : decode cX4_goal 0 = .ok (.aload_n 0, 1) := by decide +kernel
theorem dX4_goal_1 : decode cX4_goal 1 = .ok (.iload_n 1, 1) := by decide +kernel
theorem dX4_goal_2 : decode cX4_goal 2 = .ok (.invokevirtual 94, 3) := by decide +kernel
theorem dX4_goal_5 : decode cX4_goal 5 = .ok (.ifCond .eq 16, 3) := by decide +kernel
theorem dX4_goal_8 : decode cX4_goal 8 = .ok (.iload_n 2, 1) := by decide +kernel
theorem dX4_goal_9 : decode cX4_goal 9 = .ok (.ldc 151, 2) := by decide +kernel
theorem dX4_goal_11 : decode cX4_goal 11 = .ok (.if_icmp .eq 13, 3) := by decide +kernel
theorem dX4_goal_14 : decode cX4_goal 14 = .ok (.iload_n 2, 1) := by decide +kernel
theorem dX4_goal_15 : decode cX4_goal 15 = .ok (.invokestatic 77, 3) := by decide +kernel
theorem dX4_goal_18 : decode cX4_goal 18 = .ok (.ifCond .ne 6, 3) := by decide +kernel
theorem dX4_goal_21 : decode cX4_goal 21 = .ok (.ldc 49, 2) := by decide +kernel
theorem dX4_goal_23 : decode cX4_goal 23 = .ok (.ireturn, 1) := by decide +kernel
theorem dX4_goal_24 : decode cX4_goal 24 = .ok (.aload_n 0, 1) := by decide +kernel
theorem dX4_goal_25 : decode cX4_goal 25 = .ok (.getfield 10, 3) := by decide +kernel
theorem dX4_goal_28 : decode cX4_goal 28 = .ok (.getfield 50, 3) := by decide +kernel
theorem dX4_goal_31 : decode cX4_goal 31 = .ok (.getfield 152, 3) := by decide +kernel
theorem dX4_goal_34 : decode cX4_goal 34 = .ok (.iload_n 1, 1) := by decide +kernel
theorem dX4_goal_35 : decode cX4_goal 35 = .ok (.iaload, 1) := by decide +kernel
theorem dX4_goal_36 : decode cX4_goal 36 = .ok (.istore_n 3, 1) := by decide +kernel
theorem dX4_goal_37 : decode cX4_goal 37 = .ok (.aload_n 0, 1) := by decide +kernel
theorem dX4_goal_38 : decode cX4_goal 38 = .ok (.invokevirtual 82, 3) := by decide +kernel
theorem dX4_goal_41 : decode cX4_goal 41 = .ok (.istore 4, 2) := by decide +kernel
theorem dX4_goal_43 : decode cX4_goal 43 = .ok (.aload_n 0, 1) := by decide +kernel
theorem dX4_goal_44 : decode cX4_goal 44 = .ok (.getfield 10, 3) := by decide +kernel
theorem dX4_goal_47 : decode cX4_goal 47 = .ok (.getfield 50, 3) := by decide +kernel
theorem dX4_goal_50 : decode cX4_goal 50 = .ok (.getfield 152, 3) := by decide +kernel
theorem dX4_goal_53 : decode cX4_goal 53 = .ok (.iload_n 1, 1) := by decide +kernel
theorem dX4_goal_54 : decode cX4_goal 54 = .ok (.iload_n 2, 1) := by decide +kernel
theorem dX4_goal_55 : decode cX4_goal 55 = .ok (.iastore, 1) := by decide +kernel
theorem dX4_goal_56 : decode cX4_goal 56 = .ok (.aload_n 0, 1) := by decide +kernel
theorem dX4_goal_57 : decode cX4_goal 57 = .ok (.iload 4, 2) := by decide +kernel
theorem dX4_goal_59 : decode cX4_goal 59 = .ok (.invokevirtual 90, 3) := by decide +kernel
theorem dX4_goal_62 : decode cX4_goal 62 = .ok (.pop, 1) := by decide +kernel
theorem dX4_goal_63 : decode cX4_goal 63 = .ok (.iload_n 3, 1) := by decide +kernel
theorem dX4_goal_64 : decode cX4_goal 64 = .ok (.ireturn, 1) := by decide +kernel
theorem dX4_undo_0 : decode cX4_undo 0 = .ok (.aload_n 0, 1) := by decide +kernel
theorem dX4_undo_1 : decode cX4_undo 1 = .ok (.getfield 20, 3) := by decide +kernel
theorem dX4_undo_4 : decode cX4_undo 4 = .ok (.ifCond .le 15, 3) := by decide +kernel
theorem dX4_undo_7 : decode cX4_undo 7 = .ok (.aload_n 0, 1) := by decide +kernel
theorem dX4_undo_8 : decode cX4_undo 8 = .ok (.getfield 20, 3) := by decide +kernel
theorem dX4_undo_11 : decode cX4_undo 11 = .ok (.aload_n 0, 1) := by decide +kernel
theorem dX4_undo_12 : decode cX4_undo 12 = .ok (.getfield 16, 3) := by decide +kernel
theorem dX4_undo_15 : decode cX4_undo 15 = .ok (.arraylength, 1) := by decide +kernel
theorem dX4_undo_16 : decode cX4_undo 16 = .ok (.if_icmp .le 6, 3) := by decide +kernel
theorem dX4_undo_19 : decode cX4_undo 19 = .ok (.ldc 97, 2) := by decide +kernel
theorem dX4_undo_21 : decode cX4_undo 21 = .ok (.ireturn, 1) := by decide +kernel
theorem dX4_undo_22 : decode cX4_undo 22 = .ok (.aload_n 0, 1) := by decide +kernel
theorem dX4_undo_23 : decode cX4_undo 23 = .ok (.dup, 1) := by decide +kernel
theorem dX4_undo_24 : decode cX4_undo 24 = .ok (.getfield 20, 3) := by decide +kernel
theorem dX4_undo_27 : decode cX4_undo 27 = .ok (.iconst 1, 1) := by decide +kernel
theorem dX4_undo_28 : decode cX4_undo 28 = .ok (.isub, 1) := by decide +kernel
theorem dX4_undo_29 : decode cX4_undo 29 = .ok (.putfield 20, 3) := by decide +kernel
theorem dX4_undo_32 : decode cX4_undo 32 = .ok (.aload_n 0, 1) := by decide +kernel
theorem dX4_undo_33 : decode cX4_undo 33 = .ok (.getfield 10, 3) := by decide +kernel
theorem dX4_undo_36 : decode cX4_undo 36 = .ok (.aload_n 0, 1) := by decide +kernel
theorem dX4_undo_37 : decode cX4_undo 37 = .ok (.getfield 16, 3) := by decide +kernel
theorem dX4_undo_40 : decode cX4_undo 40 = .ok (.aload_n 0, 1) := by decide +kernel
