theorem dX0_init_0 : decode cX0_init 0 = .ok (.aload_n 0, 1) := by decide +kernel
theorem dX0_init_1 : decode cX0_init 1 = .ok (.invokespecial 3, 3) := by decide +kernel
theorem dX0_init_4 : decode cX0_init 4 = .ok (.aload_n 0, 1) := by decide +kernel
theorem dX0_init_5 : decode cX0_init 5 = .ok (.iconst 0, 1) := by decide +kernel
theorem dX0_init_6 : decode cX0_init 6 = .ok (.putfield 9, 3) := by decide +kernel
theorem dX0_init_9 : decode cX0_init 9 = .ok (.aload_n 0, 1) := by decide +kernel
theorem dX0_init_10 : decode cX0_init 10 = .ok (.iconst 0, 1) := by decide +kernel
theorem dX0_init_11 : decode cX0_init 11 = .ok (.putfield 15, 3) := by decide +kernel
theorem dX0_init_14 : decode cX0_init 14 = .ok (.aload_n 0, 1) := by decide +kernel
theorem dX0_init_15 : decode cX0_init 15 = .ok (.iconst 0, 1) := by decide +kernel
theorem dX0_init_16 : decode cX0_init 16 = .ok (.putfield 18, 3) := by decide +kernel
theorem dX0_init_19 : decode cX0_init 19 = .ok (.aload_n 0, 1) := by decide +kernel
theorem dX0_init_20 : decode cX0_init 20 = .ok (.iconst 0, 1) := by decide +kernel
theorem dX0_init_21 : decode cX0_init 21 = .ok (.putfield 21, 3) := by decide +kernel
theorem dX0_init_24 : decode cX0_init 24 = .ok (.aload_n 0, 1) := by decide +kernel
theorem dX0_init_25 : decode cX0_init 25 = .ok (.iconst 0, 1) := by decide +kernel
theorem dX0_init_26 : decode cX0_init 26 = .ok (.putfield 24, 3) := by decide +kernel
theorem dX0_init_29 : decode cX0_init 29 = .ok (.aload_n 0, 1) := by decide +kernel
theorem dX0_init_30 : decode cX0_init 30 = .ok (.bipush 30, 2) := by decide +kernel
theorem dX0_init_32 : decode cX0_init 32 = .ok (.newarray .int, 2) := by decide +kernel
theorem dX0_init_34 : decode cX0_init 34 = .ok (.putfield 27, 3) := by decide +kernel
theorem dX0_init_37 : decode cX0_init 37 = .ok (.aload_n 0, 1) := by decide +kernel
theorem dX0_init_38 : decode cX0_init 38 = .ok (.bipush 30, 2) := by decide +kernel
theorem dX0_init_40 : decode cX0_init 40 = .ok (.newarray .int, 2) := by decide +kernel
theorem dX0_init_42 : decode cX0_init 42 = .ok (.putfield 31, 3) := by decide +kernel
theorem dX0_init_45 : decode cX0_init 45 = .ok (.aload_n 0, 1) := by decide +kernel
theorem dX0_init_46 : decode cX0_init 46 = .ok (.bipush 30, 2) := by decide +kernel
theorem dX0_init_48 : decode cX0_init 48 = .ok (.newarray .int, 2) := by decide +kernel
theorem dX0_init_50 : decode cX0_init 50 = .ok (.putfield 34, 3) := by decide +kernel
theorem dX0_init_53 : decode cX0_init 53 = .ok (.return_, 1) := by decide +kernel
theorem dX0_takeFrom_0 : decode cX0_takeFrom 0 = .ok (.aload_n 0, 1) := by decide +kernel
theorem dX0_takeFrom_1 : decode cX0_takeFrom 1 = .ok (.aload_n 1, 1) := by decide +kernel
theorem dX0_takeFrom_2 : decode cX0_takeFrom 2 = .ok (.getfield 9, 3) := by decide +kernel
theorem dX0_takeFrom_5 : decode cX0_takeFrom 5 = .ok (.putfield 9, 3) := by decide +kernel
theorem dX0_takeFrom_8 : decode cX0_takeFrom 8 = .ok (.aload_n 0, 1) := by decide +kernel
theorem dX0_takeFrom_9 : decode cX0_takeFrom 9 = .ok (.aload_n 1, 1) := by decide +kernel
theorem dX0_takeFrom_10 : decode cX0_takeFrom 10 = .ok (.getfield 15, 3) := by decide +kernel
theorem dX0_takeFrom_13 : decode cX0_takeFrom 13 = .ok (.putfield 15, 3) := by decide +kernel
theorem dX0_takeFrom_16 : decode cX0_takeFrom 16 = .ok (.aload_n 0, 1) := by decide +kernel
theorem dX0_takeFrom_17 : decode cX0_takeFrom 17 = .ok (.aload_n 1, 1) := by decide +kernel
theorem dX0_takeFrom_18 : decode cX0_takeFrom 18 = .ok (.getfield 18, 3) := by decide +kernel
theorem dX0_takeFrom_21 : decode cX0_takeFrom 21 = .ok (.putfield 18, 3) := by decide +kernel
theorem dX0_takeFrom_24 : decode cX0_takeFrom 24 = .ok (.aload_n 0, 1) := by decide +kernel
theorem dX0_takeFrom_25 : decode cX0_takeFrom 25 = .ok (.aload_n 1, 1) := by decide +kernel
theorem dX0_takeFrom_26 : decode cX0_takeFrom 26 = .ok (.getfield 21, 3) := by decide +kernel
theorem dX0_takeFrom_29 : decode cX0_takeFrom 29 = .ok (.putfield 21, 3) := by decide +kernel
theorem dX0_takeFrom_32 : decode cX0_takeFrom 32 = .ok (.aload_n 0, 1) := by decide +kernel
theorem dX0_takeFrom_33 : decode cX0_takeFrom 33 = .ok (.aload_n 1, 1) := by decide +kernel
theorem dX0_takeFrom_34 : decode cX0_takeFrom 34 = .ok (.getfield 24, 3) := by decide +kernel
theorem dX0_takeFrom_37 : decode cX0_takeFrom 37 = .ok (.putfield 24, 3) := by decide +kernel
theorem dX0_takeFrom_40 : decode cX0_takeFrom 40 = .ok (.aload_n 1, 1) := by decide +kernel
theorem dX0_takeFrom_41 : decode cX0_takeFrom 41 = .ok (.getfield 27, 3) := by decide +kernel
theorem dX0_takeFrom_44 : decode cX0_takeFrom 44 = .ok (.iconst 0, 1) := by decide +kernel
theorem dX0_takeFrom_45 : decode cX0_takeFrom 45 = .ok (.aload_n 0, 1) := by decide +kernel
theorem dX0_takeFrom_46 : decode cX0_takeFrom 46 = .ok (.getfield 27, 3) := by decide +kernel
theorem dX0_takeFrom_49 : decode cX0_takeFrom 49 = .ok (.iconst 0, 1) := by decide +kernel
theorem dX0_takeFrom_50 : decode cX0_takeFrom 50 = .ok (.bipush 30, 2) := by decide +kernel
theorem dX0_takeFrom_52 : decode cX0_takeFrom 52 = .ok (.invokestatic 37, 3) := by decide +kernel
theorem dX0_takeFrom_55 : decode cX0_takeFrom 55 = .ok (.aload_n 1, 1) := by decide +kernel
theorem dX0_takeFrom_56 : decode cX0_takeFrom 56 = .ok (.getfield 31, 3) := by decide +kernel
theorem dX0_takeFrom_59 : decode cX0_takeFrom 59 = .ok (.iconst 0, 1) := by decide +kernel
theorem dX0_takeFrom_60 : decode cX0_takeFrom 60 = .ok (.aload_n 0, 1) := by decide +kernel
theorem dX0_takeFrom_61 : decode cX0_takeFrom 61 = .ok (.getfield 31, 3) := by decide +kernel
theorem dX0_takeFrom_64 : decode cX0_takeFrom 64 = .ok (.iconst 0, 1) := by decide +kernel
theorem dX0_takeFrom_65 : decode cX0_takeFrom 65 = .ok (.bipush 30, 2) := by decide +kernel
theorem dX0_takeFrom_67 : decode cX0_takeFrom 67 = .ok (.invokestatic 37, 3) := by decide +kernel
theorem dX0_takeFrom_70 : decode cX0_takeFrom 70 = .ok (.aload_n 1, 1) := by decide +kernel
theorem dX0_takeFrom_71 : decode cX0_takeFrom 71 = .ok (.getfield 34, 3) := by decide +kernel
theorem dX0_takeFrom_74 : decode cX0_takeFrom 74 = .ok (.iconst 0, 1) := by decide +kernel
theorem dX0_takeFrom_75 : decode cX0_takeFrom 75 = .ok (.aload_n 0, 1) := by decide +kernel
theorem dX0_takeFrom_76 : decode cX0_takeFrom 76 = .ok (.getfield 34, 3) := by decide +kernel
theorem dX0_takeFrom_79 : decode cX0_takeFrom 79 = .ok (.iconst 0, 1) := by decide +kernel
theorem dX0_takeFrom_80 : decode cX0_takeFrom 80 = .ok (.bipush 30, 2) := by decide +kernel
theorem dX0_takeFrom_82 : decode cX0_takeFrom 82 = .ok (.invokestatic 37, 3) := by decide +kernel
theorem dX0_takeFrom_85 : decode cX0_takeFrom 85 = .ok (.return_, 1) := by decide +kernel
theorem dX0_clear_0 : decode cX0_clear 0 = .ok (.aload_n 0, 1) := by decide +kernel
theorem dX0_clear_1 : decode cX0_clear 1 = .ok (.iconst 0, 1) := by decide +kernel
theorem dX0_clear_2 : decode cX0_clear 2 = .ok (.putfield 9, 3) := by decide +kernel
theorem dX0_clear_5 : decode cX0_clear 5 = .ok (.aload_n 0, 1) := by decide +kernel
theorem dX0_clear_6 : decode cX0_clear 6 = .ok (.iconst 0, 1) := by decide +kernel
theorem dX0_clear_7 : decode cX0_clear 7 = .ok (.putfield 15, 3) := by decide +kernel
theorem dX0_clear_10 : decode cX0_clear 10 = .ok (.aload_n 0, 1) := by decide +kernel
theorem dX0_clear_11 : decode cX0_clear 11 = .ok (.iconst 0, 1) := by decide +kernel
theorem dX0_clear_12 : decode cX0_clear 12 = .ok (.putfield 18, 3) := by decide +kernel
theorem dX0_clear_15 : decode cX0_clear 15 = .ok (.aload_n 0, 1) := by decide +kernel
theorem dX0_clear_16 : decode cX0_clear 16 = .ok (.iconst 0, 1) := by decide +kernel
theorem dX0_clear_17 : decode cX0_clear 17 = .ok (.putfield 21, 3) := by decide +kernel
theorem dX0_clear_20 : decode cX0_clear 20 = .ok (.aload_n 0, 1) := by decide +kernel
theorem dX0_clear_21 : decode cX0_clear 21 = .ok (.iconst 0, 1) := by decide +kernel
theorem dX0_clear_22 : decode cX0_clear 22 = .ok (.putfield 24, 3) := by decide +kernel
theorem dX0_clear_25 : decode cX0_clear 25 = .ok (.return_, 1) := by decide +kernel
theorem dX0_enter_0 : decode cX0_enter 0 = .ok (.aload_n 0, 1) := by decide +kernel
theorem dX0_enter_1 : decode cX0_enter 1 = .ok (.getfield 24, 3) := by decide +kernel
theorem dX0_enter_4 : decode cX0_enter 4 = .ok (.bipush 30, 2) := by decide +kernel
theorem dX0_enter_6 : decode cX0_enter 6 = .ok (.if_icmp .lt 7, 3) := by decide +kernel
theorem dX0_enter_9 : decode cX0_enter 9 = .ok (.aload_n 0, 1) := by decide +kernel
theorem dX0_enter_10 : decode cX0_enter 10 = .ok (.invokevirtual 43, 3) := by decide +kernel
theorem dX0_enter_13 : decode cX0_enter 13 = .ok (.aload_n 0, 1) := by decide +kernel
theorem dX0_enter_14 : decode cX0_enter 14 = .ok (.getfield 27, 3) := by decide +kernel
theorem dX0_enter_17 : decode cX0_enter 17 = .ok (.aload_n 0, 1) := by decide +kernel
theorem dX0_enter_18 : decode cX0_enter 18 = .ok (.getfield 24, 3) := by decide +kernel
theorem dX0_enter_21 : decode cX0_enter 21 = .ok (.iload_n 1, 1) := by decide +kernel
theorem dX0_enter_22 : decode cX0_enter 22 = .ok (.iastore, 1) := by decide +kernel
theorem dX0_enter_23 : decode cX0_enter 23 = .ok (.aload_n 0, 1) := by decide +kernel
theorem dX0_enter_24 : decode cX0_enter 24 = .ok (.getfield 31, 3) := by decide +kernel
theorem dX0_enter_27 : decode cX0_enter 27 = .ok (.aload_n 0, 1) := by decide +kernel
theorem dX0_enter_28 : decode cX0_enter 28 = .ok (.getfield 24, 3) := by decide +kernel
theorem dX0_enter_31 : decode cX0_enter 31 = .ok (.iload_n 2, 1) := by decide +kernel
theorem dX0_enter_32 : decode cX0_enter 32 = .ok (.iastore, 1) := by decide +kernel
theorem dX0_enter_33 : decode cX0_enter 33 = .ok (.aload_n 0, 1) := by decide +kernel
theorem dX0_enter_34 : decode cX0_enter 34 = .ok (.getfield 34, 3) := by decide +kernel
theorem dX0_enter_37 : decode cX0_enter 37 = .ok (.aload_n 0, 1) := by decide +kernel
theorem dX0_enter_38 : decode cX0_enter 38 = .ok (.getfield 24, 3) := by decide +kernel
theorem dX0_enter_41 : decode cX0_enter 41 = .ok (.iload_n 3, 1) := by decide +kernel
theorem dX0_enter_42 : decode cX0_enter 42 = .ok (.iastore, 1) := by decide +kernel
theorem dX0_enter_43 : decode cX0_enter 43 = .ok (.aload_n 0, 1) := by decide +kernel
theorem dX0_enter_44 : decode cX0_enter 44 = .ok (.dup, 1) := by decide +kernel
theorem dX0_enter_45 : decode cX0_enter 45 = .ok (.getfield 24, 3) := by decide +kernel
theorem dX0_enter_48 : decode cX0_enter 48 = .ok (.iconst 1, 1) := by decide +kernel
theorem dX0_enter_49 : decode cX0_enter 49 = .ok (.iadd, 1) := by decide +kernel
theorem dX0_enter_50 : decode cX0_enter 50 = .ok (.putfield 24, 3) := by decide +kernel
theorem dX0_enter_53 : decode cX0_enter 53 = .ok (.aload_n 0, 1) := by decide +kernel
theorem dX0_enter_54 : decode cX0_enter 54 = .ok (.dup, 1) := by decide +kernel
theorem dX0_enter_55 : decode cX0_enter 55 = .ok (.getfield 18, 3) := by decide +kernel
theorem dX0_enter_58 : decode cX0_enter 58 = .ok (.iconst 1, 1) := by decide +kernel
theorem dX0_enter_59 : decode cX0_enter 59 = .ok (.iadd, 1) := by decide +kernel
theorem dX0_enter_60 : decode cX0_enter 60 = .ok (.putfield 18, 3) := by decide +kernel
theorem dX0_enter_63 : decode cX0_enter 63 = .ok (.aload_n 0, 1) := by decide +kernel
theorem dX0_enter_64 : decode cX0_enter 64 = .ok (.dup, 1) := by decide +kernel
theorem dX0_enter_65 : decode cX0_enter 65 = .ok (.getfield 15, 3) := by decide +kernel
theorem dX0_enter_68 : decode cX0_enter 68 = .ok (.iload_n 3, 1) := by decide +kernel
theorem dX0_enter_69 : decode cX0_enter 69 = .ok (.iadd, 1) := by decide +kernel
theorem dX0_enter_70 : decode cX0_enter 70 = .ok (.putfield 15, 3) := by decide +kernel
theorem dX0_enter_73 : decode cX0_enter 73 = .ok (.return_, 1) := by decide +kernel
theorem dX0_dropOldestTurn_0 : decode cX0_dropOldestTurn 0 = .ok (.aload_n 0, 1) := by decide +kernel
theorem dX0_dropOldestTurn_1 : decode cX0_dropOldestTurn 1 = .ok (.bipush 29, 2) := by decide +kernel
theorem dX0_dropOldestTurn_3 : decode cX0_dropOldestTurn 3 = .ok (.putfield 24, 3) := by decide +kernel
theorem dX0_dropOldestTurn_6 : decode cX0_dropOldestTurn 6 = .ok (.aload_n 0, 1) := by decide +kernel
theorem dX0_dropOldestTurn_7 : decode cX0_dropOldestTurn 7 = .ok (.getfield 27, 3) := by decide +kernel
theorem dX0_dropOldestTurn_10 : decode cX0_dropOldestTurn 10 = .ok (.iconst 1, 1) := by decide +kernel
theorem dX0_dropOldestTurn_11 : decode cX0_dropOldestTurn 11 = .ok (.aload_n 0, 1) := by decide +kernel
theorem dX0_dropOldestTurn_12 : decode cX0_dropOldestTurn 12 = .ok (.getfield 27, 3) := by decide +kernel
theorem dX0_dropOldestTurn_15 : decode cX0_dropOldestTurn 15 = .ok (.iconst 0, 1) := by decide +kernel
theorem dX0_dropOldestTurn_16 : decode cX0_dropOldestTurn 16 = .ok (.aload_n 0, 1) := by decide +kernel
theorem dX0_dropOldestTurn_17 : decode cX0_dropOldestTurn 17 = .ok (.getfield 24, 3) := by decide +kernel
theorem dX0_dropOldestTurn_20 : decode cX0_dropOldestTurn 20 = .ok (.invokestatic 37, 3) := by decide +kernel
theorem dX0_dropOldestTurn_23 : decode cX0_dropOldestTurn 23 = .ok (.aload_n 0, 1) := by decide +kernel
theorem dX0_dropOldestTurn_24 : decode cX0_dropOldestTurn 24 = .ok (.getfield 31, 3) := by decide +kernel
theorem dX0_dropOldestTurn_27 : decode cX0_dropOldestTurn 27 = .ok (.iconst 1, 1) := by decide +kernel
theorem dX0_dropOldestTurn_28 : decode cX0_dropOldestTurn 28 = .ok (.aload_n 0, 1) := by decide +kernel
theorem dX0_dropOldestTurn_29 : decode cX0_dropOldestTurn 29 = .ok (.getfield 31, 3) := by decide +kernel
theorem dX0_dropOldestTurn_32 : decode cX0_dropOldestTurn 32 = .ok (.iconst 0, 1) := by decide +kernel
theorem dX0_dropOldestTurn_33 : decode cX0_dropOldestTurn 33 = .ok (.aload_n 0, 1) := by decide +kernel
theorem dX0_dropOldestTurn_34 : decode cX0_dropOldestTurn 34 = .ok (.getfield 24, 3) := by decide +kernel
theorem dX0_dropOldestTurn_37 : decode cX0_dropOldestTurn 37 = .ok (.invokestatic 37, 3) := by decide +kernel
theorem dX0_dropOldestTurn_40 : decode cX0_dropOldestTurn 40 = .ok (.aload_n 0, 1) := by decide +kernel
theorem dX0_dropOldestTurn_41 : decode cX0_dropOldestTurn 41 = .ok (.getfield 34, 3) := by decide +kernel
theorem dX0_dropOldestTurn_44 : decode cX0_dropOldestTurn 44 = .ok (.iconst 1, 1) := by decide +kernel
theorem dX0_dropOldestTurn_45 : decode cX0_dropOldestTurn 45 = .ok (.aload_n 0, 1) := by decide +kernel
theorem dX0_dropOldestTurn_46 : decode cX0_dropOldestTurn 46 = .ok (.getfield 34, 3) := by decide +kernel
theorem dX0_dropOldestTurn_49 : decode cX0_dropOldestTurn 49 = .ok (.iconst 0, 1) := by decide +kernel
theorem dX0_dropOldestTurn_50 : decode cX0_dropOldestTurn 50 = .ok (.aload_n 0, 1) := by decide +kernel
theorem dX0_dropOldestTurn_51 : decode cX0_dropOldestTurn 51 = .ok (.getfield 24, 3) := by decide +kernel
theorem dX0_dropOldestTurn_54 : decode cX0_dropOldestTurn 54 = .ok (.invokestatic 37, 3) := by decide +kernel
theorem dX0_dropOldestTurn_57 : decode cX0_dropOldestTurn 57 = .ok (.return_, 1) := by decide +kernel
theorem dX1_init_0 : decode cX1_init 0 = .ok (.aload_n 0, 1) := by decide +kernel
theorem dX1_init_1 : decode cX1_init 1 = .ok (.invokespecial 3, 3) := by decide +kernel
theorem dX1_init_4 : decode cX1_init 4 = .ok (.aload_n 0, 1) := by decide +kernel
theorem dX1_init_5 : decode cX1_init 5 = .ok (.iconst 4, 1) := by decide +kernel
theorem dX1_init_6 : decode cX1_init 6 = .ok (.putfield 9, 3) := by decide +kernel
theorem dX1_init_9 : decode cX1_init 9 = .ok (.aload_n 0, 1) := by decide +kernel
theorem dX1_init_10 : decode cX1_init 10 = .ok (.bipush 10, 2) := by decide +kernel
theorem dX1_init_12 : decode cX1_init 12 = .ok (.newarray .int, 2) := by decide +kernel
theorem dX1_init_14 : decode cX1_init 14 = .ok (.putfield 15, 3) := by decide +kernel
theorem dX1_init_17 : decode cX1_init 17 = .ok (.aload_n 0, 1) := by decide +kernel
theorem dX1_init_18 : decode cX1_init 18 = .ok (.bipush 10, 2) := by decide +kernel
theorem dX1_init_20 : decode cX1_init 20 = .ok (.newarray .int, 2) := by decide +kernel
theorem dX1_init_22 : decode cX1_init 22 = .ok (.putfield 19, 3) := by decide +kernel
theorem dX1_init_25 : decode cX1_init 25 = .ok (.aload_n 0, 1) := by decide +kernel
theorem dX1_init_26 : decode cX1_init 26 = .ok (.bipush 10, 2) := by decide +kernel
theorem dX1_init_28 : decode cX1_init 28 = .ok (.newarray .int, 2) := by decide +kernel
theorem dX1_init_30 : decode cX1_init 30 = .ok (.putfield 22, 3) := by decide +kernel
theorem dX1_init_33 : decode cX1_init 33 = .ok (.aload_n 0, 1) := by decide +kernel
theorem dX1_init_34 : decode cX1_init 34 = .ok (.bipush 10, 2) := by decide +kernel
theorem dX1_init_36 : decode cX1_init 36 = .ok (.putfield 25, 3) := by decide +kernel
theorem dX1_init_39 : decode cX1_init 39 = .ok (.aload_n 0, 1) := by decide +kernel
theorem dX1_init_40 : decode cX1_init 40 = .ok (.sipush 300, 3) := by decide +kernel
theorem dX1_init_43 : decode cX1_init 43 = .ok (.putfield 28, 3) := by decide +kernel
theorem dX1_init_46 : decode cX1_init 46 = .ok (.aload_n 0, 1) := by decide +kernel
theorem dX1_init_47 : decode cX1_init 47 = .ok (.iconst 0, 1) := by decide +kernel
theorem dX1_init_48 : decode cX1_init 48 = .ok (.putfield 31, 3) := by decide +kernel
theorem dX1_init_51 : decode cX1_init 51 = .ok (.aload_n 0, 1) := by decide +kernel
theorem dX1_init_52 : decode cX1_init 52 = .ok (.iconst 0, 1) := by decide +kernel
theorem dX1_init_53 : decode cX1_init 53 = .ok (.putfield 34, 3) := by decide +kernel
theorem dX1_init_56 : decode cX1_init 56 = .ok (.aload_n 0, 1) := by decide +kernel
theorem dX1_init_57 : decode cX1_init 57 = .ok (.getfield 22, 3) := by decide +kernel
theorem dX1_init_60 : decode cX1_init 60 = .ok (.ldc 37, 2) := by decide +kernel
theorem dX1_init_62 : decode cX1_init 62 = .ok (.invokestatic 38, 3) := by decide +kernel
theorem dX1_init_65 : decode cX1_init 65 = .ok (.return_, 1) := by decide +kernel
theorem dX1_takeFrom_0 : decode cX1_takeFrom 0 = .ok (.aload_n 0, 1) := by decide +kernel
theorem dX1_takeFrom_1 : decode cX1_takeFrom 1 = .ok (.aload_n 1, 1) := by decide +kernel
theorem dX1_takeFrom_2 : decode cX1_takeFrom 2 = .ok (.invokevirtual 44, 3) := by decide +kernel
theorem dX1_takeFrom_5 : decode cX1_takeFrom 5 = .ok (.aload_n 0, 1) := by decide +kernel
theorem dX1_takeFrom_6 : decode cX1_takeFrom 6 = .ok (.aload_n 1, 1) := by decide +kernel
theorem dX1_takeFrom_7 : decode cX1_takeFrom 7 = .ok (.getfield 25, 3) := by decide +kernel
theorem dX1_takeFrom_10 : decode cX1_takeFrom 10 = .ok (.putfield 25, 3) := by decide +kernel
theorem dX1_takeFrom_13 : decode cX1_takeFrom 13 = .ok (.aload_n 0, 1) := by decide +kernel
theorem dX1_takeFrom_14 : decode cX1_takeFrom 14 = .ok (.aload_n 1, 1) := by decide +kernel
theorem dX1_takeFrom_15 : decode cX1_takeFrom 15 = .ok (.getfield 28, 3) := by decide +kernel
theorem dX1_takeFrom_18 : decode cX1_takeFrom 18 = .ok (.putfield 28, 3) := by decide +kernel
theorem dX1_takeFrom_21 : decode cX1_takeFrom 21 = .ok (.aload_n 0, 1) := by decide +kernel
theorem dX1_takeFrom_22 : decode cX1_takeFrom 22 = .ok (.aload_n 1, 1) := by decide +kernel
theorem dX1_takeFrom_23 : decode cX1_takeFrom 23 = .ok (.getfield 31, 3) := by decide +kernel
theorem dX1_takeFrom_26 : decode cX1_takeFrom 26 = .ok (.putfield 31, 3) := by decide +kernel
theorem dX1_takeFrom_29 : decode cX1_takeFrom 29 = .ok (.aload_n 0, 1) := by decide +kernel
theorem dX1_takeFrom_30 : decode cX1_takeFrom 30 = .ok (.aload_n 1, 1) := by decide +kernel
theorem dX1_takeFrom_31 : decode cX1_takeFrom 31 = .ok (.getfield 34, 3) := by decide +kernel
theorem dX1_takeFrom_34 : decode cX1_takeFrom 34 = .ok (.putfield 34, 3) := by decide +kernel
theorem dX1_takeFrom_37 : decode cX1_takeFrom 37 = .ok (.return_, 1) := by decide +kernel
theorem dX1_takeMagnets_0 : decode cX1_takeMagnets 0 = .ok (.aload_n 0, 1) := by decide +kernel
theorem dX1_takeMagnets_1 : decode cX1_takeMagnets 1 = .ok (.aload_n 1, 1) := by decide +kernel
theorem dX1_takeMagnets_2 : decode cX1_takeMagnets 2 = .ok (.getfield 9, 3) := by decide +kernel
theorem dX1_takeMagnets_5 : decode cX1_takeMagnets 5 = .ok (.putfield 9, 3) := by decide +kernel
theorem dX1_takeMagnets_8 : decode cX1_takeMagnets 8 = .ok (.aload_n 0, 1) := by decide +kernel
theorem dX1_takeMagnets_9 : decode cX1_takeMagnets 9 = .ok (.aload_n 1, 1) := by decide +kernel
theorem dX1_takeMagnets_10 : decode cX1_takeMagnets 10 = .ok (.invokevirtual 48, 3) := by decide +kernel
theorem dX1_takeMagnets_13 : decode cX1_takeMagnets 13 = .ok (.aload_n 1, 1) := by decide +kernel
theorem dX1_takeMagnets_14 : decode cX1_takeMagnets 14 = .ok (.getfield 19, 3) := by decide +kernel
theorem dX1_takeMagnets_17 : decode cX1_takeMagnets 17 = .ok (.iconst 0, 1) := by decide +kernel
theorem dX1_takeMagnets_18 : decode cX1_takeMagnets 18 = .ok (.aload_n 0, 1) := by decide +kernel
theorem dX1_takeMagnets_19 : decode cX1_takeMagnets 19 = .ok (.getfield 19, 3) := by decide +kernel
theorem dX1_takeMagnets_22 : decode cX1_takeMagnets 22 = .ok (.iconst 0, 1) := by decide +kernel
theorem dX1_takeMagnets_23 : decode cX1_takeMagnets 23 = .ok (.bipush 10, 2) := by decide +kernel
theorem dX1_takeMagnets_25 : decode cX1_takeMagnets 25 = .ok (.invokestatic 51, 3) := by decide +kernel
theorem dX1_takeMagnets_28 : decode cX1_takeMagnets 28 = .ok (.aload_n 1, 1) := by decide +kernel
theorem dX1_takeMagnets_29 : decode cX1_takeMagnets 29 = .ok (.getfield 22, 3) := by decide +kernel
theorem dX1_takeMagnets_32 : decode cX1_takeMagnets 32 = .ok (.iconst 0, 1) := by decide +kernel
theorem dX1_takeMagnets_33 : decode cX1_takeMagnets 33 = .ok (.aload_n 0, 1) := by decide +kernel
theorem dX1_takeMagnets_34 : decode cX1_takeMagnets 34 = .ok (.getfield 22, 3) := by decide +kernel
theorem dX1_takeMagnets_37 : decode cX1_takeMagnets 37 = .ok (.iconst 0, 1) := by decide +kernel
theorem dX1_takeMagnets_38 : decode cX1_takeMagnets 38 = .ok (.bipush 10, 2) := by decide +kernel
theorem dX1_takeMagnets_40 : decode cX1_takeMagnets 40 = .ok (.invokestatic 51, 3) := by decide +kernel
theorem dX1_takeMagnets_43 : decode cX1_takeMagnets 43 = .ok (.return_, 1) := by decide +kernel
theorem dX1_takeAngles_0 : decode cX1_takeAngles 0 = .ok (.aload_n 1, 1) := by decide +kernel
theorem dX1_takeAngles_1 : decode cX1_takeAngles 1 = .ok (.getfield 15, 3) := by decide +kernel
theorem dX1_takeAngles_4 : decode cX1_takeAngles 4 = .ok (.iconst 0, 1) := by decide +kernel
theorem dX1_takeAngles_5 : decode cX1_takeAngles 5 = .ok (.aload_n 0, 1) := by decide +kernel
theorem dX1_takeAngles_6 : decode cX1_takeAngles 6 = .ok (.getfield 15, 3) := by decide +kernel
theorem dX1_takeAngles_9 : decode cX1_takeAngles 9 = .ok (.iconst 0, 1) := by decide +kernel
theorem dX1_takeAngles_10 : decode cX1_takeAngles 10 = .ok (.bipush 10, 2) := by decide +kernel
theorem dX1_takeAngles_12 : decode cX1_takeAngles 12 = .ok (.invokestatic 51, 3) := by decide +kernel
theorem dX1_takeAngles_15 : decode cX1_takeAngles 15 = .ok (.return_, 1) := by decide +kernel
theorem dX1_startWith_0 : decode cX1_startWith 0 = .ok (.aload_n 0, 1) := by decide +kernel
theorem dX1_startWith_1 : decode cX1_startWith 1 = .ok (.iload_n 1, 1) := by decide +kernel
theorem dX1_startWith_2 : decode cX1_startWith 2 = .ok (.putfield 9, 3) := by decide +kernel
theorem dX1_startWith_5 : decode cX1_startWith 5 = .ok (.aload_n 0, 1) := by decide +kernel
theorem dX1_startWith_6 : decode cX1_startWith 6 = .ok (.getfield 15, 3) := by decide +kernel
theorem dX1_startWith_9 : decode cX1_startWith 9 = .ok (.iconst 0, 1) := by decide +kernel
theorem dX1_startWith_10 : decode cX1_startWith 10 = .ok (.invokestatic 38, 3) := by decide +kernel
theorem dX1_startWith_13 : decode cX1_startWith 13 = .ok (.aload_n 0, 1) := by decide +kernel
theorem dX1_startWith_14 : decode cX1_startWith 14 = .ok (.getfield 19, 3) := by decide +kernel
theorem dX1_startWith_17 : decode cX1_startWith 17 = .ok (.iconst 0, 1) := by decide +kernel
theorem dX1_startWith_18 : decode cX1_startWith 18 = .ok (.invokestatic 38, 3) := by decide +kernel
theorem dX1_startWith_21 : decode cX1_startWith 21 = .ok (.aload_n 0, 1) := by decide +kernel
theorem dX1_startWith_22 : decode cX1_startWith 22 = .ok (.getfield 22, 3) := by decide +kernel
theorem dX1_startWith_25 : decode cX1_startWith 25 = .ok (.ldc 37, 2) := by decide +kernel
theorem dX1_startWith_27 : decode cX1_startWith 27 = .ok (.invokestatic 38, 3) := by decide +kernel
theorem dX1_startWith_30 : decode cX1_startWith 30 = .ok (.return_, 1) := by decide +kernel
theorem dX1_putIn_0 : decode cX1_putIn 0 = .ok (.aload_n 0, 1) := by decide +kernel
theorem dX1_putIn_1 : decode cX1_putIn 1 = .ok (.getfield 9, 3) := by decide +kernel
theorem dX1_putIn_4 : decode cX1_putIn 4 = .ok (.istore_n 3, 1) := by decide +kernel
theorem dX1_putIn_5 : decode cX1_putIn 5 = .ok (.iload_n 3, 1) := by decide +kernel
theorem dX1_putIn_6 : decode cX1_putIn 6 = .ok (.iload_n 1, 1) := by decide +kernel
theorem dX1_putIn_7 : decode cX1_putIn 7 = .ok (.if_icmp .le 18, 3) := by decide +kernel
theorem dX1_putIn_10 : decode cX1_putIn 10 = .ok (.aload_n 0, 1) := by decide +kernel
theorem dX1_putIn_11 : decode cX1_putIn 11 = .ok (.iload_n 3, 1) := by decide +kernel
theorem dX1_putIn_12 : decode cX1_putIn 12 = .ok (.aload_n 0, 1) := by decide +kernel
theorem dX1_putIn_13 : decode cX1_putIn 13 = .ok (.iload_n 3, 1) := by decide +kernel
theorem dX1_putIn_14 : decode cX1_putIn 14 = .ok (.iconst 1, 1) := by decide +kernel
theorem dX1_putIn_15 : decode cX1_putIn 15 = .ok (.isub, 1) := by decide +kernel
theorem dX1_putIn_16 : decode cX1_putIn 16 = .ok (.invokevirtual 57, 3) := by decide +kernel
theorem dX1_putIn_19 : decode cX1_putIn 19 = .ok (.iinc 3 (-1), 3) := by decide +kernel
theorem dX1_putIn_22 : decode cX1_putIn 22 = .ok (.goto (-17), 3) := by decide +kernel
theorem dX1_putIn_25 : decode cX1_putIn 25 = .ok (.aload_n 0, 1) := by decide +kernel
theorem dX1_putIn_26 : decode cX1_putIn 26 = .ok (.getfield 15, 3) := by decide +kernel
theorem dX1_putIn_29 : decode cX1_putIn 29 = .ok (.iload_n 1, 1) := by decide +kernel
theorem dX1_putIn_30 : decode cX1_putIn 30 = .ok (.iload_n 2, 1) := by decide +kernel
theorem dX1_putIn_31 : decode cX1_putIn 31 = .ok (.iastore, 1) := by decide +kernel
theorem dX1_putIn_32 : decode cX1_putIn 32 = .ok (.aload_n 0, 1) := by decide +kernel
theorem dX1_putIn_33 : decode cX1_putIn 33 = .ok (.getfield 19, 3) := by decide +kernel
theorem dX1_putIn_36 : decode cX1_putIn 36 = .ok (.iload_n 1, 1) := by decide +kernel
theorem dX1_putIn_37 : decode cX1_putIn 37 = .ok (.iconst 0, 1) := by decide +kernel
theorem dX1_putIn_38 : decode cX1_putIn 38 = .ok (.iastore, 1) := by decide +kernel
theorem dX1_putIn_39 : decode cX1_putIn 39 = .ok (.aload_n 0, 1) := by decide +kernel
theorem dX1_putIn_40 : decode cX1_putIn 40 = .ok (.getfield 22, 3) := by decide +kernel
theorem dX1_putIn_43 : decode cX1_putIn 43 = .ok (.iload_n 1, 1) := by decide +kernel
theorem dX1_putIn_44 : decode cX1_putIn 44 = .ok (.ldc 37, 2) := by decide +kernel
theorem dX1_putIn_46 : decode cX1_putIn 46 = .ok (.iastore, 1) := by decide +kernel
theorem dX1_putIn_47 : decode cX1_putIn 47 = .ok (.aload_n 0, 1) := by decide +kernel
theorem dX1_putIn_48 : decode cX1_putIn 48 = .ok (.dup, 1) := by decide +kernel
theorem dX1_putIn_49 : decode cX1_putIn 49 = .ok (.getfield 9, 3) := by decide +kernel
theorem dX1_putIn_52 : decode cX1_putIn 52 = .ok (.iconst 1, 1) := by decide +kernel
theorem dX1_putIn_53 : decode cX1_putIn 53 = .ok (.iadd, 1) := by decide +kernel
theorem dX1_putIn_54 : decode cX1_putIn 54 = .ok (.putfield 9, 3) := by decide +kernel
theorem dX1_putIn_57 : decode cX1_putIn 57 = .ok (.return_, 1) := by decide +kernel
theorem dX1_takeOut_0 : decode cX1_takeOut 0 = .ok (.aload_n 0, 1) := by decide +kernel
theorem dX1_takeOut_1 : decode cX1_takeOut 1 = .ok (.dup, 1) := by decide +kernel
theorem dX1_takeOut_2 : decode cX1_takeOut 2 = .ok (.getfield 9, 3) := by decide +kernel
theorem dX1_takeOut_5 : decode cX1_takeOut 5 = .ok (.iconst 1, 1) := by decide +kernel
theorem dX1_takeOut_6 : decode cX1_takeOut 6 = .ok (.isub, 1) := by decide +kernel
theorem dX1_takeOut_7 : decode cX1_takeOut 7 = .ok (.putfield 9, 3) := by decide +kernel
theorem dX1_takeOut_10 : decode cX1_takeOut 10 = .ok (.iload_n 1, 1) := by decide +kernel
theorem dX1_takeOut_11 : decode cX1_takeOut 11 = .ok (.istore_n 2, 1) := by decide +kernel
theorem dX1_takeOut_12 : decode cX1_takeOut 12 = .ok (.iload_n 2, 1) := by decide +kernel
theorem dX1_takeOut_13 : decode cX1_takeOut 13 = .ok (.aload_n 0, 1) := by decide +kernel
theorem dX1_takeOut_14 : decode cX1_takeOut 14 = .ok (.getfield 9, 3) := by decide +kernel
theorem dX1_takeOut_17 : decode cX1_takeOut 17 = .ok (.if_icmp .ge 18, 3) := by decide +kernel
theorem dX1_takeOut_20 : decode cX1_takeOut 20 = .ok (.aload_n 0, 1) := by decide +kernel
theorem dX1_takeOut_21 : decode cX1_takeOut 21 = .ok (.iload_n 2, 1) := by decide +kernel
theorem dX1_takeOut_22 : decode cX1_takeOut 22 = .ok (.aload_n 0, 1) := by decide +kernel
theorem dX1_takeOut_23 : decode cX1_takeOut 23 = .ok (.iload_n 2, 1) := by decide +kernel
theorem dX1_takeOut_24 : decode cX1_takeOut 24 = .ok (.iconst 1, 1) := by decide +kernel
theorem dX1_takeOut_25 : decode cX1_takeOut 25 = .ok (.iadd, 1) := by decide +kernel
theorem dX1_takeOut_26 : decode cX1_takeOut 26 = .ok (.invokevirtual 57, 3) := by decide +kernel
theorem dX1_takeOut_29 : decode cX1_takeOut 29 = .ok (.iinc 2 1, 3) := by decide +kernel
theorem dX1_takeOut_32 : decode cX1_takeOut 32 = .ok (.goto (-20), 3) := by decide +kernel
theorem dX1_takeOut_35 : decode cX1_takeOut 35 = .ok (.return_, 1) := by decide +kernel
theorem dX1_append_0 : decode cX1_append 0 = .ok (.aload_n 0, 1) := by decide +kernel
theorem dX1_append_1 : decode cX1_append 1 = .ok (.aload_n 0, 1) := by decide +kernel
theorem dX1_append_2 : decode cX1_append 2 = .ok (.getfield 9, 3) := by decide +kernel
theorem dX1_append_5 : decode cX1_append 5 = .ok (.aload_n 1, 1) := by decide +kernel
theorem dX1_append_6 : decode cX1_append 6 = .ok (.iload_n 2, 1) := by decide +kernel
theorem dX1_append_7 : decode cX1_append 7 = .ok (.invokevirtual 57, 3) := by decide +kernel
theorem dX1_append_10 : decode cX1_append 10 = .ok (.aload_n 0, 1) := by decide +kernel
theorem dX1_append_11 : decode cX1_append 11 = .ok (.dup, 1) := by decide +kernel
theorem dX1_append_12 : decode cX1_append 12 = .ok (.getfield 9, 3) := by decide +kernel
theorem dX1_append_15 : decode cX1_append 15 = .ok (.iconst 1, 1) := by decide +kernel
theorem dX1_append_16 : decode cX1_append 16 = .ok (.iadd, 1) := by decide +kernel
theorem dX1_append_17 : decode cX1_append 17 = .ok (.putfield 9, 3) := by decide +kernel
theorem dX1_append_20 : decode cX1_append 20 = .ok (.return_, 1) := by decide +kernel
theorem dX1_copyMagnet_0 : decode cX1_copyMagnet 0 = .ok (.aload_n 0, 1) := by decide +kernel
theorem dX1_copyMagnet_1 : decode cX1_copyMagnet 1 = .ok (.getfield 15, 3) := by decide +kernel
theorem dX1_copyMagnet_4 : decode cX1_copyMagnet 4 = .ok (.iload_n 1, 1) := by decide +kernel
theorem dX1_copyMagnet_5 : decode cX1_copyMagnet 5 = .ok (.aload_n 2, 1) := by decide +kernel
theorem dX1_copyMagnet_6 : decode cX1_copyMagnet 6 = .ok (.getfield 15, 3) := by decide +kernel
theorem dX1_copyMagnet_9 : decode cX1_copyMagnet 9 = .ok (.iload_n 3, 1) := by decide +kernel
theorem dX1_copyMagnet_10 : decode cX1_copyMagnet 10 = .ok (.iaload, 1) := by decide +kernel
theorem dX1_copyMagnet_11 : decode cX1_copyMagnet 11 = .ok (.iastore, 1) := by decide +kernel
theorem dX1_copyMagnet_12 : decode cX1_copyMagnet 12 = .ok (.aload_n 0, 1) := by decide +kernel
theorem dX1_copyMagnet_13 : decode cX1_copyMagnet 13 = .ok (.getfield 19, 3) := by decide +kernel
theorem dX1_copyMagnet_16 : decode cX1_copyMagnet 16 = .ok (.iload_n 1, 1) := by decide +kernel
theorem dX1_copyMagnet_17 : decode cX1_copyMagnet 17 = .ok (.aload_n 2, 1) := by decide +kernel
theorem dX1_copyMagnet_18 : decode cX1_copyMagnet 18 = .ok (.getfield 19, 3) := by decide +kernel
theorem dX1_copyMagnet_21 : decode cX1_copyMagnet 21 = .ok (.iload_n 3, 1) := by decide +kernel
theorem dX1_copyMagnet_22 : decode cX1_copyMagnet 22 = .ok (.iaload, 1) := by decide +kernel
theorem dX1_copyMagnet_23 : decode cX1_copyMagnet 23 = .ok (.iastore, 1) := by decide +kernel
theorem dX1_copyMagnet_24 : decode cX1_copyMagnet 24 = .ok (.aload_n 0, 1) := by decide +kernel
theorem dX1_copyMagnet_25 : decode cX1_copyMagnet 25 = .ok (.getfield 22, 3) := by decide +kernel
theorem dX1_copyMagnet_28 : decode cX1_copyMagnet 28 = .ok (.iload_n 1, 1) := by decide +kernel
theorem dX1_copyMagnet_29 : decode cX1_copyMagnet 29 = .ok (.aload_n 2, 1) := by decide +kernel
theorem dX1_copyMagnet_30 : decode cX1_copyMagnet 30 = .ok (.getfield 22, 3) := by decide +kernel
theorem dX1_copyMagnet_33 : decode cX1_copyMagnet 33 = .ok (.iload_n 3, 1) := by decide +kernel
theorem dX1_copyMagnet_34 : decode cX1_copyMagnet 34 = .ok (.iaload, 1) := by decide +kernel
theorem dX1_copyMagnet_35 : decode cX1_copyMagnet 35 = .ok (.iastore, 1) := by decide +kernel
theorem dX1_copyMagnet_36 : decode cX1_copyMagnet 36 = .ok (.return_, 1) := by decide +kernel
theorem dX1_mirror_0 : decode cX1_mirror 0 = .ok (.iconst 0, 1) := by decide +kernel
theorem dX1_mirror_1 : decode cX1_mirror 1 = .ok (.istore_n 1, 1) := by decide +kernel
theorem dX1_mirror_2 : decode cX1_mirror 2 = .ok (.iload_n 1, 1) := by decide +kernel
theorem dX1_mirror_3 : decode cX1_mirror 3 = .ok (.aload_n 0, 1) := by decide +kernel
theorem dX1_mirror_4 : decode cX1_mirror 4 = .ok (.getfield 9, 3) := by decide +kernel
theorem dX1_mirror_7 : decode cX1_mirror 7 = .ok (.if_icmp .ge 54, 3) := by decide +kernel
theorem dX1_mirror_10 : decode cX1_mirror 10 = .ok (.aload_n 0, 1) := by decide +kernel
theorem dX1_mirror_11 : decode cX1_mirror 11 = .ok (.getfield 15, 3) := by decide +kernel
theorem dX1_mirror_14 : decode cX1_mirror 14 = .ok (.iload_n 1, 1) := by decide +kernel
theorem dX1_mirror_15 : decode cX1_mirror 15 = .ok (.iconst 4, 1) := by decide +kernel
theorem dX1_mirror_16 : decode cX1_mirror 16 = .ok (.aload_n 0, 1) := by decide +kernel
theorem dX1_mirror_17 : decode cX1_mirror 17 = .ok (.getfield 15, 3) := by decide +kernel
theorem dX1_mirror_20 : decode cX1_mirror 20 = .ok (.iload_n 1, 1) := by decide +kernel
theorem dX1_mirror_21 : decode cX1_mirror 21 = .ok (.iaload, 1) := by decide +kernel
theorem dX1_mirror_22 : decode cX1_mirror 22 = .ok (.isub, 1) := by decide +kernel
theorem dX1_mirror_23 : decode cX1_mirror 23 = .ok (.bipush 7, 2) := by decide +kernel
theorem dX1_mirror_25 : decode cX1_mirror 25 = .ok (.iand, 1) := by decide +kernel
theorem dX1_mirror_26 : decode cX1_mirror 26 = .ok (.iastore, 1) := by decide +kernel
theorem dX1_mirror_27 : decode cX1_mirror 27 = .ok (.aload_n 0, 1) := by decide +kernel
theorem dX1_mirror_28 : decode cX1_mirror 28 = .ok (.getfield 22, 3) := by decide +kernel
theorem dX1_mirror_31 : decode cX1_mirror 31 = .ok (.iload_n 1, 1) := by decide +kernel
theorem dX1_mirror_32 : decode cX1_mirror 32 = .ok (.iaload, 1) := by decide +kernel
theorem dX1_mirror_33 : decode cX1_mirror 33 = .ok (.ldc 37, 2) := by decide +kernel
theorem dX1_mirror_35 : decode cX1_mirror 35 = .ok (.if_icmp .eq 20, 3) := by decide +kernel
theorem dX1_mirror_38 : decode cX1_mirror 38 = .ok (.aload_n 0, 1) := by decide +kernel
theorem dX1_mirror_39 : decode cX1_mirror 39 = .ok (.getfield 22, 3) := by decide +kernel
theorem dX1_mirror_42 : decode cX1_mirror 42 = .ok (.iload_n 1, 1) := by decide +kernel
theorem dX1_mirror_43 : decode cX1_mirror 43 = .ok (.iconst 4, 1) := by decide +kernel
theorem dX1_mirror_44 : decode cX1_mirror 44 = .ok (.aload_n 0, 1) := by decide +kernel
theorem dX1_mirror_45 : decode cX1_mirror 45 = .ok (.getfield 22, 3) := by decide +kernel
theorem dX1_mirror_48 : decode cX1_mirror 48 = .ok (.iload_n 1, 1) := by decide +kernel
theorem dX1_mirror_49 : decode cX1_mirror 49 = .ok (.iaload, 1) := by decide +kernel
theorem dX1_mirror_50 : decode cX1_mirror 50 = .ok (.isub, 1) := by decide +kernel
theorem dX1_mirror_51 : decode cX1_mirror 51 = .ok (.bipush 7, 2) := by decide +kernel
theorem dX1_mirror_53 : decode cX1_mirror 53 = .ok (.iand, 1) := by decide +kernel
theorem dX1_mirror_54 : decode cX1_mirror 54 = .ok (.iastore, 1) := by decide +kernel
theorem dX1_mirror_55 : decode cX1_mirror 55 = .ok (.iinc 1 1, 3) := by decide +kernel
theorem dX1_mirror_58 : decode cX1_mirror 58 = .ok (.goto (-56), 3) := by decide +kernel
theorem dX1_mirror_61 : decode cX1_mirror 61 = .ok (.return_, 1) := by decide +kernel
theorem dX1_turn_0 : decode cX1_turn 0 = .ok (.aload_n 0, 1) := by decide +kernel
theorem dX1_turn_1 : decode cX1_turn 1 = .ok (.getfield 15, 3) := by decide +kernel
theorem dX1_turn_4 : decode cX1_turn 4 = .ok (.iload_n 1, 1) := by decide +kernel
theorem dX1_turn_5 : decode cX1_turn 5 = .ok (.aload_n 0, 1) := by decide +kernel
theorem dX1_turn_6 : decode cX1_turn 6 = .ok (.getfield 15, 3) := by decide +kernel
theorem dX1_turn_9 : decode cX1_turn 9 = .ok (.iload_n 1, 1) := by decide +kernel
theorem dX1_turn_10 : decode cX1_turn 10 = .ok (.iaload, 1) := by decide +kernel
theorem dX1_turn_11 : decode cX1_turn 11 = .ok (.iload_n 2, 1) := by decide +kernel
theorem dX1_turn_12 : decode cX1_turn 12 = .ok (.iadd, 1) := by decide +kernel
theorem dX1_turn_13 : decode cX1_turn 13 = .ok (.bipush 7, 2) := by decide +kernel
theorem dX1_turn_15 : decode cX1_turn 15 = .ok (.iand, 1) := by decide +kernel
theorem dX1_turn_16 : decode cX1_turn 16 = .ok (.iastore, 1) := by decide +kernel
theorem dX1_turn_17 : decode cX1_turn 17 = .ok (.return_, 1) := by decide +kernel
theorem dX1_energy_0 : decode cX1_energy 0 = .ok (.iconst 0, 1) := by decide +kernel
theorem dX1_energy_1 : decode cX1_energy 1 = .ok (.istore_n 1, 1) := by decide +kernel
theorem dX1_energy_2 : decode cX1_energy 2 = .ok (.iconst 0, 1) := by decide +kernel
theorem dX1_energy_3 : decode cX1_energy 3 = .ok (.istore_n 2, 1) := by decide +kernel
theorem dX1_energy_4 : decode cX1_energy 4 = .ok (.iload_n 2, 1) := by decide +kernel
theorem dX1_energy_5 : decode cX1_energy 5 = .ok (.aload_n 0, 1) := by decide +kernel
theorem dX1_energy_6 : decode cX1_energy 6 = .ok (.getfield 9, 3) := by decide +kernel
theorem dX1_energy_9 : decode cX1_energy 9 = .ok (.if_icmp .ge 55, 3) := by decide +kernel
theorem dX1_energy_12 : decode cX1_energy 12 = .ok (.aload_n 0, 1) := by decide +kernel
theorem dX1_energy_13 : decode cX1_energy 13 = .ok (.getfield 15, 3) := by decide +kernel
theorem dX1_energy_16 : decode cX1_energy 16 = .ok (.iload_n 2, 1) := by decide +kernel
theorem dX1_energy_17 : decode cX1_energy 17 = .ok (.iaload, 1) := by decide +kernel
theorem dX1_energy_18 : decode cX1_energy 18 = .ok (.istore_n 3, 1) := by decide +kernel
theorem dX1_energy_19 : decode cX1_energy 19 = .ok (.iload_n 1, 1) := by decide +kernel
theorem dX1_energy_20 : decode cX1_energy 20 = .ok (.aload_n 0, 1) := by decide +kernel
theorem dX1_energy_21 : decode cX1_energy 21 = .ok (.getfield 25, 3) := by decide +kernel
theorem dX1_energy_24 : decode cX1_energy 24 = .ok (.aload_n 0, 1) := by decide +kernel
theorem dX1_energy_25 : decode cX1_energy 25 = .ok (.iload_n 3, 1) := by decide +kernel
theorem dX1_energy_26 : decode cX1_energy 26 = .ok (.iload_n 2, 1) := by decide +kernel
theorem dX1_energy_27 : decode cX1_energy 27 = .ok (.iconst 1, 1) := by decide +kernel
theorem dX1_energy_28 : decode cX1_energy 28 = .ok (.iadd, 1) := by decide +kernel
theorem dX1_energy_29 : decode cX1_energy 29 = .ok (.invokevirtual 61, 3) := by decide +kernel
theorem dX1_energy_32 : decode cX1_energy 32 = .ok (.imul, 1) := by decide +kernel
theorem dX1_energy_33 : decode cX1_energy 33 = .ok (.aload_n 0, 1) := by decide +kernel
theorem dX1_energy_34 : decode cX1_energy 34 = .ok (.getfield 25, 3) := by decide +kernel
theorem dX1_energy_37 : decode cX1_energy 37 = .ok (.bipush 8, 2) := by decide +kernel
theorem dX1_energy_39 : decode cX1_energy 39 = .ok (.idiv, 1) := by decide +kernel
theorem dX1_energy_40 : decode cX1_energy 40 = .ok (.aload_n 0, 1) := by decide +kernel
theorem dX1_energy_41 : decode cX1_energy 41 = .ok (.iload_n 3, 1) := by decide +kernel
theorem dX1_energy_42 : decode cX1_energy 42 = .ok (.iload_n 2, 1) := by decide +kernel
theorem dX1_energy_43 : decode cX1_energy 43 = .ok (.iconst 2, 1) := by decide +kernel
theorem dX1_energy_44 : decode cX1_energy 44 = .ok (.iadd, 1) := by decide +kernel
theorem dX1_energy_45 : decode cX1_energy 45 = .ok (.invokevirtual 61, 3) := by decide +kernel
theorem dX1_energy_48 : decode cX1_energy 48 = .ok (.imul, 1) := by decide +kernel
theorem dX1_energy_49 : decode cX1_energy 49 = .ok (.iadd, 1) := by decide +kernel
theorem dX1_energy_50 : decode cX1_energy 50 = .ok (.aload_n 0, 1) := by decide +kernel
theorem dX1_energy_51 : decode cX1_energy 51 = .ok (.iload_n 3, 1) := by decide +kernel
theorem dX1_energy_52 : decode cX1_energy 52 = .ok (.invokevirtual 65, 3) := by decide +kernel
theorem dX1_energy_55 : decode cX1_energy 55 = .ok (.iadd, 1) := by decide +kernel
theorem dX1_energy_56 : decode cX1_energy 56 = .ok (.iadd, 1) := by decide +kernel
theorem dX1_energy_57 : decode cX1_energy 57 = .ok (.istore_n 1, 1) := by decide +kernel
theorem dX1_energy_58 : decode cX1_energy 58 = .ok (.iinc 2 1, 3) := by decide +kernel
theorem dX1_energy_61 : decode cX1_energy 61 = .ok (.goto (-57), 3) := by decide +kernel
theorem dX1_energy_64 : decode cX1_energy 64 = .ok (.iload_n 1, 1) := by decide +kernel
theorem dX1_energy_65 : decode cX1_energy 65 = .ok (.ireturn, 1) := by decide +kernel
theorem dX1_partOf_0 : decode cX1_partOf 0 = .ok (.aload_n 0, 1) := by decide +kernel
theorem dX1_partOf_1 : decode cX1_partOf 1 = .ok (.getfield 25, 3) := by decide +kernel
theorem dX1_partOf_4 : decode cX1_partOf 4 = .ok (.aload_n 0, 1) := by decide +kernel
theorem dX1_partOf_5 : decode cX1_partOf 5 = .ok (.iload_n 2, 1) := by decide +kernel
theorem dX1_partOf_6 : decode cX1_partOf 6 = .ok (.iload_n 1, 1) := by decide +kernel
theorem dX1_partOf_7 : decode cX1_partOf 7 = .ok (.iconst 1, 1) := by decide +kernel
theorem dX1_partOf_8 : decode cX1_partOf 8 = .ok (.isub, 1) := by decide +kernel
theorem dX1_partOf_9 : decode cX1_partOf 9 = .ok (.invokevirtual 61, 3) := by decide +kernel
theorem dX1_partOf_12 : decode cX1_partOf 12 = .ok (.aload_n 0, 1) := by decide +kernel
theorem dX1_partOf_13 : decode cX1_partOf 13 = .ok (.iload_n 2, 1) := by decide +kernel
theorem dX1_partOf_14 : decode cX1_partOf 14 = .ok (.iload_n 1, 1) := by decide +kernel
theorem dX1_partOf_15 : decode cX1_partOf 15 = .ok (.iconst 1, 1) := by decide +kernel
theorem dX1_partOf_16 : decode cX1_partOf 16 = .ok (.iadd, 1) := by decide +kernel
theorem dX1_partOf_17 : decode cX1_partOf 17 = .ok (.invokevirtual 61, 3) := by decide +kernel
theorem dX1_partOf_20 : decode cX1_partOf 20 = .ok (.iadd, 1) := by decide +kernel
theorem dX1_partOf_21 : decode cX1_partOf 21 = .ok (.imul, 1) := by decide +kernel
theorem dX1_partOf_22 : decode cX1_partOf 22 = .ok (.aload_n 0, 1) := by decide +kernel
theorem dX1_partOf_23 : decode cX1_partOf 23 = .ok (.getfield 25, 3) := by decide +kernel
theorem dX1_partOf_26 : decode cX1_partOf 26 = .ok (.bipush 8, 2) := by decide +kernel
theorem dX1_partOf_28 : decode cX1_partOf 28 = .ok (.idiv, 1) := by decide +kernel
theorem dX1_partOf_29 : decode cX1_partOf 29 = .ok (.aload_n 0, 1) := by decide +kernel
theorem dX1_partOf_30 : decode cX1_partOf 30 = .ok (.iload_n 2, 1) := by decide +kernel
theorem dX1_partOf_31 : decode cX1_partOf 31 = .ok (.iload_n 1, 1) := by decide +kernel
theorem dX1_partOf_32 : decode cX1_partOf 32 = .ok (.iconst 2, 1) := by decide +kernel
theorem dX1_partOf_33 : decode cX1_partOf 33 = .ok (.isub, 1) := by decide +kernel
theorem dX1_partOf_34 : decode cX1_partOf 34 = .ok (.invokevirtual 61, 3) := by decide +kernel
theorem dX1_partOf_37 : decode cX1_partOf 37 = .ok (.aload_n 0, 1) := by decide +kernel
theorem dX1_partOf_38 : decode cX1_partOf 38 = .ok (.iload_n 2, 1) := by decide +kernel
theorem dX1_partOf_39 : decode cX1_partOf 39 = .ok (.iload_n 1, 1) := by decide +kernel
theorem dX1_partOf_40 : decode cX1_partOf 40 = .ok (.iconst 2, 1) := by decide +kernel
theorem dX1_partOf_41 : decode cX1_partOf 41 = .ok (.iadd, 1) := by decide +kernel
theorem dX1_partOf_42 : decode cX1_partOf 42 = .ok (.invokevirtual 61, 3) := by decide +kernel
theorem dX1_partOf_45 : decode cX1_partOf 45 = .ok (.iadd, 1) := by decide +kernel
theorem dX1_partOf_46 : decode cX1_partOf 46 = .ok (.imul, 1) := by decide +kernel
theorem dX1_partOf_47 : decode cX1_partOf 47 = .ok (.iadd, 1) := by decide +kernel
theorem dX1_partOf_48 : decode cX1_partOf 48 = .ok (.aload_n 0, 1) := by decide +kernel
theorem dX1_partOf_49 : decode cX1_partOf 49 = .ok (.iload_n 2, 1) := by decide +kernel
theorem dX1_partOf_50 : decode cX1_partOf 50 = .ok (.invokevirtual 65, 3) := by decide +kernel
theorem dX1_partOf_53 : decode cX1_partOf 53 = .ok (.iadd, 1) := by decide +kernel
theorem dX1_partOf_54 : decode cX1_partOf 54 = .ok (.ireturn, 1) := by decide +kernel
theorem dX1_freedBy_0 : decode cX1_freedBy 0 = .ok (.aload_n 0, 1) := by decide +kernel
theorem dX1_freedBy_1 : decode cX1_freedBy 1 = .ok (.iload_n 1, 1) := by decide +kernel
theorem dX1_freedBy_2 : decode cX1_freedBy 2 = .ok (.aload_n 0, 1) := by decide +kernel
theorem dX1_freedBy_3 : decode cX1_freedBy 3 = .ok (.getfield 15, 3) := by decide +kernel
theorem dX1_freedBy_6 : decode cX1_freedBy 6 = .ok (.iload_n 1, 1) := by decide +kernel
theorem dX1_freedBy_7 : decode cX1_freedBy 7 = .ok (.iaload, 1) := by decide +kernel
theorem dX1_freedBy_8 : decode cX1_freedBy 8 = .ok (.invokevirtual 69, 3) := by decide +kernel
theorem dX1_freedBy_11 : decode cX1_freedBy 11 = .ok (.aload_n 0, 1) := by decide +kernel
theorem dX1_freedBy_12 : decode cX1_freedBy 12 = .ok (.iload_n 1, 1) := by decide +kernel
theorem dX1_freedBy_13 : decode cX1_freedBy 13 = .ok (.aload_n 0, 1) := by decide +kernel
theorem dX1_freedBy_14 : decode cX1_freedBy 14 = .ok (.getfield 15, 3) := by decide +kernel
theorem dX1_freedBy_17 : decode cX1_freedBy 17 = .ok (.iload_n 1, 1) := by decide +kernel
theorem dX1_freedBy_18 : decode cX1_freedBy 18 = .ok (.iaload, 1) := by decide +kernel
theorem dX1_freedBy_19 : decode cX1_freedBy 19 = .ok (.iload_n 2, 1) := by decide +kernel
theorem dX1_freedBy_20 : decode cX1_freedBy 20 = .ok (.iadd, 1) := by decide +kernel
theorem dX1_freedBy_21 : decode cX1_freedBy 21 = .ok (.invokevirtual 69, 3) := by decide +kernel
theorem dX1_freedBy_24 : decode cX1_freedBy 24 = .ok (.isub, 1) := by decide +kernel
theorem dX1_freedBy_25 : decode cX1_freedBy 25 = .ok (.ireturn, 1) := by decide +kernel
theorem dX1_pullOfNeighbors_0 : decode cX1_pullOfNeighbors 0 = .ok (.aload_n 0, 1) := by decide +kernel
theorem dX1_pullOfNeighbors_1 : decode cX1_pullOfNeighbors 1 = .ok (.getfield 25, 3) := by decide +kernel
theorem dX1_pullOfNeighbors_4 : decode cX1_pullOfNeighbors 4 = .ok (.aload_n 0, 1) := by decide +kernel
theorem dX1_pullOfNeighbors_5 : decode cX1_pullOfNeighbors 5 = .ok (.aload_n 0, 1) := by decide +kernel
theorem dX1_pullOfNeighbors_6 : decode cX1_pullOfNeighbors 6 = .ok (.getfield 15, 3) := by decide +kernel
theorem dX1_pullOfNeighbors_9 : decode cX1_pullOfNeighbors 9 = .ok (.iload_n 1, 1) := by decide +kernel
theorem dX1_pullOfNeighbors_10 : decode cX1_pullOfNeighbors 10 = .ok (.iaload, 1) := by decide +kernel
theorem dX1_pullOfNeighbors_11 : decode cX1_pullOfNeighbors 11 = .ok (.iload_n 1, 1) := by decide +kernel
theorem dX1_pullOfNeighbors_12 : decode cX1_pullOfNeighbors 12 = .ok (.iconst 1, 1) := by decide +kernel
theorem dX1_pullOfNeighbors_13 : decode cX1_pullOfNeighbors 13 = .ok (.isub, 1) := by decide +kernel
theorem dX1_pullOfNeighbors_14 : decode cX1_pullOfNeighbors 14 = .ok (.invokevirtual 61, 3) := by decide +kernel
theorem dX1_pullOfNeighbors_17 : decode cX1_pullOfNeighbors 17 = .ok (.aload_n 0, 1) := by decide +kernel
theorem dX1_pullOfNeighbors_18 : decode cX1_pullOfNeighbors 18 = .ok (.aload_n 0, 1) := by decide +kernel
theorem dX1_pullOfNeighbors_19 : decode cX1_pullOfNeighbors 19 = .ok (.getfield 15, 3) := by decide +kernel
theorem dX1_pullOfNeighbors_22 : decode cX1_pullOfNeighbors 22 = .ok (.iload_n 1, 1) := by decide +kernel
theorem dX1_pullOfNeighbors_23 : decode cX1_pullOfNeighbors 23 = .ok (.iaload, 1) := by decide +kernel
theorem dX1_pullOfNeighbors_24 : decode cX1_pullOfNeighbors 24 = .ok (.iload_n 1, 1) := by decide +kernel
theorem dX1_pullOfNeighbors_25 : decode cX1_pullOfNeighbors 25 = .ok (.iconst 1, 1) := by decide +kernel
theorem dX1_pullOfNeighbors_26 : decode cX1_pullOfNeighbors 26 = .ok (.iadd, 1) := by decide +kernel
theorem dX1_pullOfNeighbors_27 : decode cX1_pullOfNeighbors 27 = .ok (.invokevirtual 61, 3) := by decide +kernel
theorem dX1_pullOfNeighbors_30 : decode cX1_pullOfNeighbors 30 = .ok (.iadd, 1) := by decide +kernel
theorem dX1_pullOfNeighbors_31 : decode cX1_pullOfNeighbors 31 = .ok (.imul, 1) := by decide +kernel
theorem dX1_pullOfNeighbors_32 : decode cX1_pullOfNeighbors 32 = .ok (.ireturn, 1) := by decide +kernel
theorem dX1_pullOn_0 : decode cX1_pullOn 0 = .ok (.iload_n 2, 1) := by decide +kernel
theorem dX1_pullOn_1 : decode cX1_pullOn 1 = .ok (.ifCond .lt 24, 3) := by decide +kernel
theorem dX1_pullOn_4 : decode cX1_pullOn 4 = .ok (.iload_n 2, 1) := by decide +kernel
theorem dX1_pullOn_5 : decode cX1_pullOn 5 = .ok (.aload_n 0, 1) := by decide +kernel
theorem dX1_pullOn_6 : decode cX1_pullOn 6 = .ok (.getfield 9, 3) := by decide +kernel
theorem dX1_pullOn_9 : decode cX1_pullOn 9 = .ok (.if_icmp .ge 16, 3) := by decide +kernel
theorem dX1_pullOn_12 : decode cX1_pullOn 12 = .ok (.iload_n 1, 1) := by decide +kernel
theorem dX1_pullOn_13 : decode cX1_pullOn 13 = .ok (.aload_n 0, 1) := by decide +kernel
theorem dX1_pullOn_14 : decode cX1_pullOn 14 = .ok (.getfield 15, 3) := by decide +kernel
theorem dX1_pullOn_17 : decode cX1_pullOn 17 = .ok (.iload_n 2, 1) := by decide +kernel
theorem dX1_pullOn_18 : decode cX1_pullOn 18 = .ok (.iaload, 1) := by decide +kernel
theorem dX1_pullOn_19 : decode cX1_pullOn 19 = .ok (.invokestatic 72, 3) := by decide +kernel
theorem dX1_pullOn_22 : decode cX1_pullOn 22 = .ok (.goto 4, 3) := by decide +kernel
theorem dX1_pullOn_25 : decode cX1_pullOn 25 = .ok (.iconst 0, 1) := by decide +kernel
theorem dX1_pullOn_26 : decode cX1_pullOn 26 = .ok (.ireturn, 1) := by decide +kernel
theorem dX1_partOfField_0 : decode cX1_partOfField 0 = .ok (.aload_n 0, 1) := by decide +kernel
theorem dX1_partOfField_1 : decode cX1_partOfField 1 = .ok (.getfield 31, 3) := by decide +kernel
theorem dX1_partOfField_4 : decode cX1_partOfField 4 = .ok (.ineg, 1) := by decide +kernel
theorem dX1_partOfField_5 : decode cX1_partOfField 5 = .ok (.iload_n 1, 1) := by decide +kernel
theorem dX1_partOfField_6 : decode cX1_partOfField 6 = .ok (.aload_n 0, 1) := by decide +kernel
theorem dX1_partOfField_7 : decode cX1_partOfField 7 = .ok (.getfield 34, 3) := by decide +kernel
theorem dX1_partOfField_10 : decode cX1_partOfField 10 = .ok (.isub, 1) := by decide +kernel
theorem dX1_partOfField_11 : decode cX1_partOfField 11 = .ok (.invokestatic 75, 3) := by decide +kernel
theorem dX1_partOfField_14 : decode cX1_partOfField 14 = .ok (.imul, 1) := by decide +kernel
theorem dX1_partOfField_15 : decode cX1_partOfField 15 = .ok (.bipush 10, 2) := by decide +kernel
theorem dX1_partOfField_17 : decode cX1_partOfField 17 = .ok (.imul, 1) := by decide +kernel
theorem dX1_partOfField_18 : decode cX1_partOfField 18 = .ok (.ireturn, 1) := by decide +kernel
theorem dX1_settle_0 : decode cX1_settle 0 = .ok (.iconst 0, 1) := by decide +kernel
theorem dX1_settle_1 : decode cX1_settle 1 = .ok (.istore_n 2, 1) := by decide +kernel
theorem dX1_settle_2 : decode cX1_settle 2 = .ok (.iload_n 2, 1) := by decide +kernel
theorem dX1_settle_3 : decode cX1_settle 3 = .ok (.sipush 200, 3) := by decide +kernel
theorem dX1_settle_6 : decode cX1_settle 6 = .ok (.if_icmp .ge 19, 3) := by decide +kernel
theorem dX1_settle_9 : decode cX1_settle 9 = .ok (.aload_n 0, 1) := by decide +kernel
theorem dX1_settle_10 : decode cX1_settle 10 = .ok (.aload_n 1, 1) := by decide +kernel
theorem dX1_settle_11 : decode cX1_settle 11 = .ok (.invokevirtual 78, 3) := by decide +kernel
theorem dX1_settle_14 : decode cX1_settle 14 = .ok (.ifCond .ne 5, 3) := by decide +kernel
theorem dX1_settle_17 : decode cX1_settle 17 = .ok (.iload_n 2, 1) := by decide +kernel
theorem dX1_settle_18 : decode cX1_settle 18 = .ok (.ireturn, 1) := by decide +kernel
theorem dX1_settle_19 : decode cX1_settle 19 = .ok (.iinc 2 1, 3) := by decide +kernel
theorem dX1_settle_22 : decode cX1_settle 22 = .ok (.goto (-20), 3) := by decide +kernel
theorem dX1_settle_25 : decode cX1_settle 25 = .ok (.sipush 200, 3) := by decide +kernel
theorem dX1_settle_28 : decode cX1_settle 28 = .ok (.ireturn, 1) := by decide +kernel
theorem dX1_settleOnce_0 : decode cX1_settleOnce 0 = .ok (.iconst (-1), 1) := by decide +kernel
theorem dX1_settleOnce_1 : decode cX1_settleOnce 1 = .ok (.istore_n 2, 1) := by decide +kernel
theorem dX1_settleOnce_2 : decode cX1_settleOnce 2 = .ok (.iconst 0, 1) := by decide +kernel
theorem dX1_settleOnce_3 : decode cX1_settleOnce 3 = .ok (.istore_n 3, 1) := by decide +kernel
theorem dX1_settleOnce_4 : decode cX1_settleOnce 4 = .ok (.aload_n 0, 1) := by decide +kernel
theorem dX1_settleOnce_5 : decode cX1_settleOnce 5 = .ok (.getfield 28, 3) := by decide +kernel
theorem dX1_settleOnce_8 : decode cX1_settleOnce 8 = .ok (.istore 4, 2) := by decide +kernel
theorem dX1_settleOnce_10 : decode cX1_settleOnce 10 = .ok (.iconst 0, 1) := by decide +kernel
theorem dX1_settleOnce_11 : decode cX1_settleOnce 11 = .ok (.istore 5, 2) := by decide +kernel
theorem dX1_settleOnce_13 : decode cX1_settleOnce 13 = .ok (.iload 5, 2) := by decide +kernel
theorem dX1_settleOnce_15 : decode cX1_settleOnce 15 = .ok (.aload_n 0, 1) := by decide +kernel
theorem dX1_settleOnce_16 : decode cX1_settleOnce 16 = .ok (.getfield 9, 3) := by decide +kernel
theorem dX1_settleOnce_19 : decode cX1_settleOnce 19 = .ok (.if_icmp .ge 115, 3) := by decide +kernel
theorem dX1_settleOnce_22 : decode cX1_settleOnce 22 = .ok (.aload_n 0, 1) := by decide +kernel
theorem dX1_settleOnce_23 : decode cX1_settleOnce 23 = .ok (.getfield 19, 3) := by decide +kernel
theorem dX1_settleOnce_26 : decode cX1_settleOnce 26 = .ok (.iload 5, 2) := by decide +kernel
theorem dX1_settleOnce_28 : decode cX1_settleOnce 28 = .ok (.iaload, 1) := by decide +kernel
theorem dX1_settleOnce_29 : decode cX1_settleOnce 29 = .ok (.iconst 1, 1) := by decide +kernel
theorem dX1_settleOnce_30 : decode cX1_settleOnce 30 = .ok (.if_icmp .ne 6, 3) := by decide +kernel
theorem dX1_settleOnce_33 : decode cX1_settleOnce 33 = .ok (.goto 95, 3) := by decide +kernel
theorem dX1_settleOnce_36 : decode cX1_settleOnce 36 = .ok (.aload_n 0, 1) := by decide +kernel
theorem dX1_settleOnce_37 : decode cX1_settleOnce 37 = .ok (.iload 5, 2) := by decide +kernel
theorem dX1_settleOnce_39 : decode cX1_settleOnce 39 = .ok (.aload_n 0, 1) := by decide +kernel
theorem dX1_settleOnce_40 : decode cX1_settleOnce 40 = .ok (.getfield 15, 3) := by decide +kernel
theorem dX1_settleOnce_43 : decode cX1_settleOnce 43 = .ok (.iload 5, 2) := by decide +kernel
theorem dX1_settleOnce_45 : decode cX1_settleOnce 45 = .ok (.iaload, 1) := by decide +kernel
theorem dX1_settleOnce_46 : decode cX1_settleOnce 46 = .ok (.invokevirtual 69, 3) := by decide +kernel
theorem dX1_settleOnce_49 : decode cX1_settleOnce 49 = .ok (.istore 6, 2) := by decide +kernel
theorem dX1_settleOnce_51 : decode cX1_settleOnce 51 = .ok (.iload 6, 2) := by decide +kernel
theorem dX1_settleOnce_53 : decode cX1_settleOnce 53 = .ok (.aload_n 0, 1) := by decide +kernel
theorem dX1_settleOnce_54 : decode cX1_settleOnce 54 = .ok (.iload 5, 2) := by decide +kernel
theorem dX1_settleOnce_56 : decode cX1_settleOnce 56 = .ok (.aload_n 0, 1) := by decide +kernel
theorem dX1_settleOnce_57 : decode cX1_settleOnce 57 = .ok (.getfield 15, 3) := by decide +kernel
theorem dX1_settleOnce_60 : decode cX1_settleOnce 60 = .ok (.iload 5, 2) := by decide +kernel
theorem dX1_settleOnce_62 : decode cX1_settleOnce 62 = .ok (.iaload, 1) := by decide +kernel
theorem dX1_settleOnce_63 : decode cX1_settleOnce 63 = .ok (.iconst 1, 1) := by decide +kernel
theorem dX1_settleOnce_64 : decode cX1_settleOnce 64 = .ok (.iadd, 1) := by decide +kernel
theorem dX1_settleOnce_65 : decode cX1_settleOnce 65 = .ok (.invokevirtual 69, 3) := by decide +kernel
theorem dX1_settleOnce_68 : decode cX1_settleOnce 68 = .ok (.isub, 1) := by decide +kernel
theorem dX1_settleOnce_69 : decode cX1_settleOnce 69 = .ok (.istore 7, 2) := by decide +kernel
theorem dX1_settleOnce_71 : decode cX1_settleOnce 71 = .ok (.iload 6, 2) := by decide +kernel
theorem dX1_settleOnce_73 : decode cX1_settleOnce 73 = .ok (.aload_n 0, 1) := by decide +kernel
theorem dX1_settleOnce_74 : decode cX1_settleOnce 74 = .ok (.iload 5, 2) := by decide +kernel
theorem dX1_settleOnce_76 : decode cX1_settleOnce 76 = .ok (.aload_n 0, 1) := by decide +kernel
theorem dX1_settleOnce_77 : decode cX1_settleOnce 77 = .ok (.getfield 15, 3) := by decide +kernel
theorem dX1_settleOnce_80 : decode cX1_settleOnce 80 = .ok (.iload 5, 2) := by decide +kernel
theorem dX1_settleOnce_82 : decode cX1_settleOnce 82 = .ok (.iaload, 1) := by decide +kernel
theorem dX1_settleOnce_83 : decode cX1_settleOnce 83 = .ok (.iconst 1, 1) := by decide +kernel
theorem dX1_settleOnce_84 : decode cX1_settleOnce 84 = .ok (.isub, 1) := by decide +kernel
theorem dX1_settleOnce_85 : decode cX1_settleOnce 85 = .ok (.invokevirtual 69, 3) := by decide +kernel
theorem dX1_settleOnce_88 : decode cX1_settleOnce 88 = .ok (.isub, 1) := by decide +kernel
theorem dX1_settleOnce_89 : decode cX1_settleOnce 89 = .ok (.istore 8, 2) := by decide +kernel
theorem dX1_settleOnce_91 : decode cX1_settleOnce 91 = .ok (.iload 7, 2) := by decide +kernel
theorem dX1_settleOnce_93 : decode cX1_settleOnce 93 = .ok (.iload 8, 2) := by decide +kernel
theorem dX1_settleOnce_95 : decode cX1_settleOnce 95 = .ok (.invokestatic 82, 3) := by decide +kernel
theorem dX1_settleOnce_98 : decode cX1_settleOnce 98 = .ok (.iload 4, 2) := by decide +kernel
theorem dX1_settleOnce_100 : decode cX1_settleOnce 100 = .ok (.if_icmp .le 28, 3) := by decide +kernel
theorem dX1_settleOnce_103 : decode cX1_settleOnce 103 = .ok (.iload 5, 2) := by decide +kernel
theorem dX1_settleOnce_105 : decode cX1_settleOnce 105 = .ok (.istore_n 2, 1) := by decide +kernel
theorem dX1_settleOnce_106 : decode cX1_settleOnce 106 = .ok (.iload 7, 2) := by decide +kernel
theorem dX1_settleOnce_108 : decode cX1_settleOnce 108 = .ok (.iload 8, 2) := by decide +kernel
theorem dX1_settleOnce_110 : decode cX1_settleOnce 110 = .ok (.if_icmp .lt 7, 3) := by decide +kernel
theorem dX1_settleOnce_113 : decode cX1_settleOnce 113 = .ok (.iconst 1, 1) := by decide +kernel
theorem dX1_settleOnce_114 : decode cX1_settleOnce 114 = .ok (.goto 4, 3) := by decide +kernel
theorem dX1_settleOnce_117 : decode cX1_settleOnce 117 = .ok (.iconst (-1), 1) := by decide +kernel
theorem dX1_settleOnce_118 : decode cX1_settleOnce 118 = .ok (.istore_n 3, 1) := by decide +kernel
theorem dX1_settleOnce_119 : decode cX1_settleOnce 119 = .ok (.iload 7, 2) := by decide +kernel
theorem dX1_settleOnce_121 : decode cX1_settleOnce 121 = .ok (.iload 8, 2) := by decide +kernel
theorem dX1_settleOnce_123 : decode cX1_settleOnce 123 = .ok (.invokestatic 82, 3) := by decide +kernel
theorem dX1_settleOnce_126 : decode cX1_settleOnce 126 = .ok (.istore 4, 2) := by decide +kernel
theorem dX1_settleOnce_128 : decode cX1_settleOnce 128 = .ok (.iinc 5 1, 3) := by decide +kernel
theorem dX1_settleOnce_131 : decode cX1_settleOnce 131 = .ok (.goto (-118), 3) := by decide +kernel
theorem dX1_settleOnce_134 : decode cX1_settleOnce 134 = .ok (.iload_n 2, 1) := by decide +kernel
theorem dX1_settleOnce_135 : decode cX1_settleOnce 135 = .ok (.ifCond .ge 5, 3) := by decide +kernel
theorem dX1_settleOnce_138 : decode cX1_settleOnce 138 = .ok (.iconst 0, 1) := by decide +kernel
theorem dX1_settleOnce_139 : decode cX1_settleOnce 139 = .ok (.ireturn, 1) := by decide +kernel
theorem dX1_settleOnce_140 : decode cX1_settleOnce 140 = .ok (.aload_n 0, 1) := by decide +kernel
theorem dX1_settleOnce_141 : decode cX1_settleOnce 141 = .ok (.iload_n 2, 1) := by decide +kernel
theorem dX1_settleOnce_142 : decode cX1_settleOnce 142 = .ok (.iload_n 3, 1) := by decide +kernel
theorem dX1_settleOnce_143 : decode cX1_settleOnce 143 = .ok (.invokevirtual 87, 3) := by decide +kernel
theorem dX1_settleOnce_146 : decode cX1_settleOnce 146 = .ok (.aload_n 1, 1) := by decide +kernel
theorem dX1_settleOnce_147 : decode cX1_settleOnce 147 = .ok (.ifnull 11, 3) := by decide +kernel
theorem dX1_settleOnce_150 : decode cX1_settleOnce 150 = .ok (.aload_n 1, 1) := by decide +kernel
theorem dX1_settleOnce_151 : decode cX1_settleOnce 151 = .ok (.iload_n 2, 1) := by decide +kernel
theorem dX1_settleOnce_152 : decode cX1_settleOnce 152 = .ok (.iload_n 3, 1) := by decide +kernel
theorem dX1_settleOnce_153 : decode cX1_settleOnce 153 = .ok (.iload 4, 2) := by decide +kernel
theorem dX1_settleOnce_155 : decode cX1_settleOnce 155 = .ok (.invokevirtual 91, 3) := by decide +kernel
theorem dX1_settleOnce_158 : decode cX1_settleOnce 158 = .ok (.iconst 1, 1) := by decide +kernel
theorem dX1_settleOnce_159 : decode cX1_settleOnce 159 = .ok (.ireturn, 1) := by decide +kernel
theorem dX1_pointsTo_0 : decode cX1_pointsTo 0 = .ok (.iconst 0, 1) := by decide +kernel
theorem dX1_pointsTo_1 : decode cX1_pointsTo 1 = .ok (.istore_n 2, 1) := by decide +kernel
theorem dX1_pointsTo_2 : decode cX1_pointsTo 2 = .ok (.iconst 0, 1) := by decide +kernel
theorem dX1_pointsTo_3 : decode cX1_pointsTo 3 = .ok (.istore_n 3, 1) := by decide +kernel
theorem dX1_pointsTo_4 : decode cX1_pointsTo 4 = .ok (.iload_n 3, 1) := by decide +kernel
theorem dX1_pointsTo_5 : decode cX1_pointsTo 5 = .ok (.aload_n 0, 1) := by decide +kernel
theorem dX1_pointsTo_6 : decode cX1_pointsTo 6 = .ok (.getfield 9, 3) := by decide +kernel
theorem dX1_pointsTo_9 : decode cX1_pointsTo 9 = .ok (.if_icmp .ge 23, 3) := by decide +kernel
theorem dX1_pointsTo_12 : decode cX1_pointsTo 12 = .ok (.iload_n 2, 1) := by decide +kernel
theorem dX1_pointsTo_13 : decode cX1_pointsTo 13 = .ok (.aload_n 0, 1) := by decide +kernel
theorem dX1_pointsTo_14 : decode cX1_pointsTo 14 = .ok (.getfield 15, 3) := by decide +kernel
theorem dX1_pointsTo_17 : decode cX1_pointsTo 17 = .ok (.iload_n 3, 1) := by decide +kernel
theorem dX1_pointsTo_18 : decode cX1_pointsTo 18 = .ok (.iaload, 1) := by decide +kernel
theorem dX1_pointsTo_19 : decode cX1_pointsTo 19 = .ok (.iload_n 1, 1) := by decide +kernel
theorem dX1_pointsTo_20 : decode cX1_pointsTo 20 = .ok (.isub, 1) := by decide +kernel
theorem dX1_pointsTo_21 : decode cX1_pointsTo 21 = .ok (.invokestatic 75, 3) := by decide +kernel
theorem dX1_pointsTo_24 : decode cX1_pointsTo 24 = .ok (.iadd, 1) := by decide +kernel
theorem dX1_pointsTo_25 : decode cX1_pointsTo 25 = .ok (.istore_n 2, 1) := by decide +kernel
theorem dX1_pointsTo_26 : decode cX1_pointsTo 26 = .ok (.iinc 3 1, 3) := by decide +kernel
theorem dX1_pointsTo_29 : decode cX1_pointsTo 29 = .ok (.goto (-25), 3) := by decide +kernel
theorem dX1_pointsTo_32 : decode cX1_pointsTo 32 = .ok (.iload_n 2, 1) := by decide +kernel
theorem dX1_pointsTo_33 : decode cX1_pointsTo 33 = .ok (.ireturn, 1) := by decide +kernel
theorem dX1_walls_0 : decode cX1_walls 0 = .ok (.iconst 0, 1) := by decide +kernel
theorem dX1_walls_1 : decode cX1_walls 1 = .ok (.istore_n 1, 1) := by decide +kernel
theorem dX1_walls_2 : decode cX1_walls 2 = .ok (.iconst 1, 1) := by decide +kernel
theorem dX1_walls_3 : decode cX1_walls 3 = .ok (.istore_n 2, 1) := by decide +kernel
