theorem dX0_init_0 : decode cX0_init 0 = .ok (.aload_n 0, 1) := by decide +kernel
theorem dX0_init_1 : decode cX0_init 1 = .ok (.invokespecial 3, 3) := by decide +kernel
theorem dX0_init_4 : decode cX0_init 4 = .ok (.aload_n 0, 1) := by decide +kernel
theorem dX0_init_5 : decode cX0_init 5 = .ok (.bipush 16, 2) := by decide +kernel
theorem dX0_init_7 : decode cX0_init 7 = .ok (.newarray .int, 2) := by decide +kernel
theorem dX0_init_9 : decode cX0_init 9 = .ok (.putfield 9, 3) := by decide +kernel
theorem dX0_init_12 : decode cX0_init 12 = .ok (.aload_n 0, 1) := by decide +kernel
theorem dX0_init_13 : decode cX0_init 13 = .ok (.bipush 16, 2) := by decide +kernel
theorem dX0_init_15 : decode cX0_init 15 = .ok (.newarray .int, 2) := by decide +kernel
theorem dX0_init_17 : decode cX0_init 17 = .ok (.putfield 15, 3) := by decide +kernel
theorem dX0_init_20 : decode cX0_init 20 = .ok (.aload_n 0, 1) := by decide +kernel
theorem dX0_init_21 : decode cX0_init 21 = .ok (.bipush 16, 2) := by decide +kernel
theorem dX0_init_23 : decode cX0_init 23 = .ok (.newarray .int, 2) := by decide +kernel
theorem dX0_init_25 : decode cX0_init 25 = .ok (.putfield 18, 3) := by decide +kernel
theorem dX0_init_28 : decode cX0_init 28 = .ok (.aload_n 0, 1) := by decide +kernel
theorem dX0_init_29 : decode cX0_init 29 = .ok (.iconst 1, 1) := by decide +kernel
theorem dX0_init_30 : decode cX0_init 30 = .ok (.putfield 21, 3) := by decide +kernel
theorem dX0_init_33 : decode cX0_init 33 = .ok (.return_, 1) := by decide +kernel
theorem dX0_put_0 : decode cX0_put 0 = .ok (.aload_n 0, 1) := by decide +kernel
theorem dX0_put_1 : decode cX0_put 1 = .ok (.getfield 9, 3) := by decide +kernel
theorem dX0_put_4 : decode cX0_put 4 = .ok (.iload_n 1, 1) := by decide +kernel
theorem dX0_put_5 : decode cX0_put 5 = .ok (.iload_n 2, 1) := by decide +kernel
theorem dX0_put_6 : decode cX0_put 6 = .ok (.iastore, 1) := by decide +kernel
theorem dX0_put_7 : decode cX0_put 7 = .ok (.aload_n 0, 1) := by decide +kernel
theorem dX0_put_8 : decode cX0_put 8 = .ok (.getfield 15, 3) := by decide +kernel
theorem dX0_put_11 : decode cX0_put 11 = .ok (.iload_n 1, 1) := by decide +kernel
theorem dX0_put_12 : decode cX0_put 12 = .ok (.iload_n 3, 1) := by decide +kernel
theorem dX0_put_13 : decode cX0_put 13 = .ok (.iastore, 1) := by decide +kernel
theorem dX0_put_14 : decode cX0_put 14 = .ok (.aload_n 0, 1) := by decide +kernel
theorem dX0_put_15 : decode cX0_put 15 = .ok (.getfield 18, 3) := by decide +kernel
theorem dX0_put_18 : decode cX0_put 18 = .ok (.iload_n 1, 1) := by decide +kernel
theorem dX0_put_19 : decode cX0_put 19 = .ok (.iload 4, 2) := by decide +kernel
theorem dX0_put_21 : decode cX0_put 21 = .ok (.iastore, 1) := by decide +kernel
theorem dX0_put_22 : decode cX0_put 22 = .ok (.return_, 1) := by decide +kernel
theorem dX0_becomeZero_0 : decode cX0_becomeZero 0 = .ok (.aload_n 0, 1) := by decide +kernel
theorem dX0_becomeZero_1 : decode cX0_becomeZero 1 = .ok (.iload_n 1, 1) := by decide +kernel
theorem dX0_becomeZero_2 : decode cX0_becomeZero 2 = .ok (.putfield 21, 3) := by decide +kernel
theorem dX0_becomeZero_5 : decode cX0_becomeZero 5 = .ok (.iconst 0, 1) := by decide +kernel
theorem dX0_becomeZero_6 : decode cX0_becomeZero 6 = .ok (.istore_n 2, 1) := by decide +kernel
theorem dX0_becomeZero_7 : decode cX0_becomeZero 7 = .ok (.iload_n 2, 1) := by decide +kernel
theorem dX0_becomeZero_8 : decode cX0_becomeZero 8 = .ok (.aload_n 0, 1) := by decide +kernel
theorem dX0_becomeZero_9 : decode cX0_becomeZero 9 = .ok (.getfield 21, 3) := by decide +kernel
theorem dX0_becomeZero_12 : decode cX0_becomeZero 12 = .ok (.if_icmp .ge 17, 3) := by decide +kernel
theorem dX0_becomeZero_15 : decode cX0_becomeZero 15 = .ok (.aload_n 0, 1) := by decide +kernel
theorem dX0_becomeZero_16 : decode cX0_becomeZero 16 = .ok (.iload_n 2, 1) := by decide +kernel
theorem dX0_becomeZero_17 : decode cX0_becomeZero 17 = .ok (.iconst 0, 1) := by decide +kernel
theorem dX0_becomeZero_18 : decode cX0_becomeZero 18 = .ok (.iconst 0, 1) := by decide +kernel
theorem dX0_becomeZero_19 : decode cX0_becomeZero 19 = .ok (.iconst 0, 1) := by decide +kernel
theorem dX0_becomeZero_20 : decode cX0_becomeZero 20 = .ok (.invokevirtual 25, 3) := by decide +kernel
theorem dX0_becomeZero_23 : decode cX0_becomeZero 23 = .ok (.iinc 2 1, 3) := by decide +kernel
theorem dX0_becomeZero_26 : decode cX0_becomeZero 26 = .ok (.goto (-19), 3) := by decide +kernel
theorem dX0_becomeZero_29 : decode cX0_becomeZero 29 = .ok (.return_, 1) := by decide +kernel
theorem dX0_becomeCopy_0 : decode cX0_becomeCopy 0 = .ok (.aload_n 0, 1) := by decide +kernel
theorem dX0_becomeCopy_1 : decode cX0_becomeCopy 1 = .ok (.aload_n 1, 1) := by decide +kernel
theorem dX0_becomeCopy_2 : decode cX0_becomeCopy 2 = .ok (.getfield 21, 3) := by decide +kernel
theorem dX0_becomeCopy_5 : decode cX0_becomeCopy 5 = .ok (.putfield 21, 3) := by decide +kernel
theorem dX0_becomeCopy_8 : decode cX0_becomeCopy 8 = .ok (.iconst 0, 1) := by decide +kernel
theorem dX0_becomeCopy_9 : decode cX0_becomeCopy 9 = .ok (.istore_n 2, 1) := by decide +kernel
theorem dX0_becomeCopy_10 : decode cX0_becomeCopy 10 = .ok (.iload_n 2, 1) := by decide +kernel
theorem dX0_becomeCopy_11 : decode cX0_becomeCopy 11 = .ok (.aload_n 0, 1) := by decide +kernel
theorem dX0_becomeCopy_12 : decode cX0_becomeCopy 12 = .ok (.getfield 21, 3) := by decide +kernel
theorem dX0_becomeCopy_15 : decode cX0_becomeCopy 15 = .ok (.if_icmp .ge 32, 3) := by decide +kernel
theorem dX0_becomeCopy_18 : decode cX0_becomeCopy 18 = .ok (.aload_n 0, 1) := by decide +kernel
theorem dX0_becomeCopy_19 : decode cX0_becomeCopy 19 = .ok (.iload_n 2, 1) := by decide +kernel
theorem dX0_becomeCopy_20 : decode cX0_becomeCopy 20 = .ok (.aload_n 1, 1) := by decide +kernel
theorem dX0_becomeCopy_21 : decode cX0_becomeCopy 21 = .ok (.getfield 9, 3) := by decide +kernel
theorem dX0_becomeCopy_24 : decode cX0_becomeCopy 24 = .ok (.iload_n 2, 1) := by decide +kernel
theorem dX0_becomeCopy_25 : decode cX0_becomeCopy 25 = .ok (.iaload, 1) := by decide +kernel
theorem dX0_becomeCopy_26 : decode cX0_becomeCopy 26 = .ok (.aload_n 1, 1) := by decide +kernel
theorem dX0_becomeCopy_27 : decode cX0_becomeCopy 27 = .ok (.getfield 15, 3) := by decide +kernel
theorem dX0_becomeCopy_30 : decode cX0_becomeCopy 30 = .ok (.iload_n 2, 1) := by decide +kernel
theorem dX0_becomeCopy_31 : decode cX0_becomeCopy 31 = .ok (.iaload, 1) := by decide +kernel
theorem dX0_becomeCopy_32 : decode cX0_becomeCopy 32 = .ok (.aload_n 1, 1) := by decide +kernel
theorem dX0_becomeCopy_33 : decode cX0_becomeCopy 33 = .ok (.getfield 18, 3) := by decide +kernel
theorem dX0_becomeCopy_36 : decode cX0_becomeCopy 36 = .ok (.iload_n 2, 1) := by decide +kernel
theorem dX0_becomeCopy_37 : decode cX0_becomeCopy 37 = .ok (.iaload, 1) := by decide +kernel
theorem dX0_becomeCopy_38 : decode cX0_becomeCopy 38 = .ok (.invokevirtual 25, 3) := by decide +kernel
theorem dX0_becomeCopy_41 : decode cX0_becomeCopy 41 = .ok (.iinc 2 1, 3) := by decide +kernel
theorem dX0_becomeCopy_44 : decode cX0_becomeCopy 44 = .ok (.goto (-34), 3) := by decide +kernel
theorem dX0_becomeCopy_47 : decode cX0_becomeCopy 47 = .ok (.return_, 1) := by decide +kernel
theorem dX0_becomeSum_0 : decode cX0_becomeSum 0 = .ok (.aload_n 0, 1) := by decide +kernel
theorem dX0_becomeSum_1 : decode cX0_becomeSum 1 = .ok (.aload_n 1, 1) := by decide +kernel
theorem dX0_becomeSum_2 : decode cX0_becomeSum 2 = .ok (.getfield 21, 3) := by decide +kernel
theorem dX0_becomeSum_5 : decode cX0_becomeSum 5 = .ok (.aload_n 3, 1) := by decide +kernel
theorem dX0_becomeSum_6 : decode cX0_becomeSum 6 = .ok (.getfield 21, 3) := by decide +kernel
theorem dX0_becomeSum_9 : decode cX0_becomeSum 9 = .ok (.invokestatic 29, 3) := by decide +kernel
theorem dX0_becomeSum_12 : decode cX0_becomeSum 12 = .ok (.putfield 21, 3) := by decide +kernel
theorem dX0_becomeSum_15 : decode cX0_becomeSum 15 = .ok (.iconst 0, 1) := by decide +kernel
theorem dX0_becomeSum_16 : decode cX0_becomeSum 16 = .ok (.istore 5, 2) := by decide +kernel
theorem dX0_becomeSum_18 : decode cX0_becomeSum 18 = .ok (.iload 5, 2) := by decide +kernel
theorem dX0_becomeSum_20 : decode cX0_becomeSum 20 = .ok (.aload_n 0, 1) := by decide +kernel
theorem dX0_becomeSum_21 : decode cX0_becomeSum 21 = .ok (.getfield 21, 3) := by decide +kernel
theorem dX0_becomeSum_24 : decode cX0_becomeSum 24 = .ok (.if_icmp .ge 75, 3) := by decide +kernel
theorem dX0_becomeSum_27 : decode cX0_becomeSum 27 = .ok (.aload_n 0, 1) := by decide +kernel
theorem dX0_becomeSum_28 : decode cX0_becomeSum 28 = .ok (.iload 5, 2) := by decide +kernel
theorem dX0_becomeSum_30 : decode cX0_becomeSum 30 = .ok (.iload_n 2, 1) := by decide +kernel
theorem dX0_becomeSum_31 : decode cX0_becomeSum 31 = .ok (.aload_n 1, 1) := by decide +kernel
theorem dX0_becomeSum_32 : decode cX0_becomeSum 32 = .ok (.getfield 9, 3) := by decide +kernel
theorem dX0_becomeSum_35 : decode cX0_becomeSum 35 = .ok (.iload 5, 2) := by decide +kernel
theorem dX0_becomeSum_37 : decode cX0_becomeSum 37 = .ok (.iaload, 1) := by decide +kernel
theorem dX0_becomeSum_38 : decode cX0_becomeSum 38 = .ok (.imul, 1) := by decide +kernel
theorem dX0_becomeSum_39 : decode cX0_becomeSum 39 = .ok (.iload 4, 2) := by decide +kernel
theorem dX0_becomeSum_41 : decode cX0_becomeSum 41 = .ok (.aload_n 3, 1) := by decide +kernel
theorem dX0_becomeSum_42 : decode cX0_becomeSum 42 = .ok (.getfield 9, 3) := by decide +kernel
theorem dX0_becomeSum_45 : decode cX0_becomeSum 45 = .ok (.iload 5, 2) := by decide +kernel
theorem dX0_becomeSum_47 : decode cX0_becomeSum 47 = .ok (.iaload, 1) := by decide +kernel
theorem dX0_becomeSum_48 : decode cX0_becomeSum 48 = .ok (.imul, 1) := by decide +kernel
theorem dX0_becomeSum_49 : decode cX0_becomeSum 49 = .ok (.iadd, 1) := by decide +kernel
theorem dX0_becomeSum_50 : decode cX0_becomeSum 50 = .ok (.iload_n 2, 1) := by decide +kernel
theorem dX0_becomeSum_51 : decode cX0_becomeSum 51 = .ok (.aload_n 1, 1) := by decide +kernel
theorem dX0_becomeSum_52 : decode cX0_becomeSum 52 = .ok (.getfield 15, 3) := by decide +kernel
theorem dX0_becomeSum_55 : decode cX0_becomeSum 55 = .ok (.iload 5, 2) := by decide +kernel
theorem dX0_becomeSum_57 : decode cX0_becomeSum 57 = .ok (.iaload, 1) := by decide +kernel
theorem dX0_becomeSum_58 : decode cX0_becomeSum 58 = .ok (.imul, 1) := by decide +kernel
theorem dX0_becomeSum_59 : decode cX0_becomeSum 59 = .ok (.iload 4, 2) := by decide +kernel
theorem dX0_becomeSum_61 : decode cX0_becomeSum 61 = .ok (.aload_n 3, 1) := by decide +kernel
theorem dX0_becomeSum_62 : decode cX0_becomeSum 62 = .ok (.getfield 15, 3) := by decide +kernel
theorem dX0_becomeSum_65 : decode cX0_becomeSum 65 = .ok (.iload 5, 2) := by decide +kernel
theorem dX0_becomeSum_67 : decode cX0_becomeSum 67 = .ok (.iaload, 1) := by decide +kernel
theorem dX0_becomeSum_68 : decode cX0_becomeSum 68 = .ok (.imul, 1) := by decide +kernel
theorem dX0_becomeSum_69 : decode cX0_becomeSum 69 = .ok (.iadd, 1) := by decide +kernel
theorem dX0_becomeSum_70 : decode cX0_becomeSum 70 = .ok (.iload_n 2, 1) := by decide +kernel
theorem dX0_becomeSum_71 : decode cX0_becomeSum 71 = .ok (.aload_n 1, 1) := by decide +kernel
theorem dX0_becomeSum_72 : decode cX0_becomeSum 72 = .ok (.getfield 18, 3) := by decide +kernel
theorem dX0_becomeSum_75 : decode cX0_becomeSum 75 = .ok (.iload 5, 2) := by decide +kernel
theorem dX0_becomeSum_77 : decode cX0_becomeSum 77 = .ok (.iaload, 1) := by decide +kernel
theorem dX0_becomeSum_78 : decode cX0_becomeSum 78 = .ok (.imul, 1) := by decide +kernel
theorem dX0_becomeSum_79 : decode cX0_becomeSum 79 = .ok (.iload 4, 2) := by decide +kernel
theorem dX0_becomeSum_81 : decode cX0_becomeSum 81 = .ok (.aload_n 3, 1) := by decide +kernel
theorem dX0_becomeSum_82 : decode cX0_becomeSum 82 = .ok (.getfield 18, 3) := by decide +kernel
theorem dX0_becomeSum_85 : decode cX0_becomeSum 85 = .ok (.iload 5, 2) := by decide +kernel
theorem dX0_becomeSum_87 : decode cX0_becomeSum 87 = .ok (.iaload, 1) := by decide +kernel
theorem dX0_becomeSum_88 : decode cX0_becomeSum 88 = .ok (.imul, 1) := by decide +kernel
theorem dX0_becomeSum_89 : decode cX0_becomeSum 89 = .ok (.iadd, 1) := by decide +kernel
theorem dX0_becomeSum_90 : decode cX0_becomeSum 90 = .ok (.invokevirtual 25, 3) := by decide +kernel
theorem dX0_becomeSum_93 : decode cX0_becomeSum 93 = .ok (.iinc 5 1, 3) := by decide +kernel
theorem dX0_becomeSum_96 : decode cX0_becomeSum 96 = .ok (.goto (-78), 3) := by decide +kernel
theorem dX0_becomeSum_99 : decode cX0_becomeSum 99 = .ok (.return_, 1) := by decide +kernel
theorem dX0_becomeRefined_0 : decode cX0_becomeRefined 0 = .ok (.aload_n 1, 1) := by decide +kernel
theorem dX0_becomeRefined_1 : decode cX0_becomeRefined 1 = .ok (.getfield 21, 3) := by decide +kernel
theorem dX0_becomeRefined_4 : decode cX0_becomeRefined 4 = .ok (.bipush 8, 2) := by decide +kernel
theorem dX0_becomeRefined_6 : decode cX0_becomeRefined 6 = .ok (.invokestatic 29, 3) := by decide +kernel
theorem dX0_becomeRefined_9 : decode cX0_becomeRefined 9 = .ok (.istore_n 2, 1) := by decide +kernel
theorem dX0_becomeRefined_10 : decode cX0_becomeRefined 10 = .ok (.aload_n 0, 1) := by decide +kernel
theorem dX0_becomeRefined_11 : decode cX0_becomeRefined 11 = .ok (.iconst 2, 1) := by decide +kernel
theorem dX0_becomeRefined_12 : decode cX0_becomeRefined 12 = .ok (.iload_n 2, 1) := by decide +kernel
theorem dX0_becomeRefined_13 : decode cX0_becomeRefined 13 = .ok (.imul, 1) := by decide +kernel
theorem dX0_becomeRefined_14 : decode cX0_becomeRefined 14 = .ok (.putfield 21, 3) := by decide +kernel
theorem dX0_becomeRefined_17 : decode cX0_becomeRefined 17 = .ok (.iconst 0, 1) := by decide +kernel
theorem dX0_becomeRefined_18 : decode cX0_becomeRefined 18 = .ok (.istore_n 3, 1) := by decide +kernel
theorem dX0_becomeRefined_19 : decode cX0_becomeRefined 19 = .ok (.iload_n 3, 1) := by decide +kernel
theorem dX0_becomeRefined_20 : decode cX0_becomeRefined 20 = .ok (.iload_n 2, 1) := by decide +kernel
theorem dX0_becomeRefined_21 : decode cX0_becomeRefined 21 = .ok (.if_icmp .ge 82, 3) := by decide +kernel
theorem dX0_becomeRefined_24 : decode cX0_becomeRefined 24 = .ok (.aload_n 1, 1) := by decide +kernel
theorem dX0_becomeRefined_25 : decode cX0_becomeRefined 25 = .ok (.getfield 9, 3) := by decide +kernel
theorem dX0_becomeRefined_28 : decode cX0_becomeRefined 28 = .ok (.iload_n 3, 1) := by decide +kernel
theorem dX0_becomeRefined_29 : decode cX0_becomeRefined 29 = .ok (.iaload, 1) := by decide +kernel
theorem dX0_becomeRefined_30 : decode cX0_becomeRefined 30 = .ok (.istore 4, 2) := by decide +kernel
theorem dX0_becomeRefined_32 : decode cX0_becomeRefined 32 = .ok (.aload_n 1, 1) := by decide +kernel
theorem dX0_becomeRefined_33 : decode cX0_becomeRefined 33 = .ok (.getfield 15, 3) := by decide +kernel
theorem dX0_becomeRefined_36 : decode cX0_becomeRefined 36 = .ok (.iload_n 3, 1) := by decide +kernel
theorem dX0_becomeRefined_37 : decode cX0_becomeRefined 37 = .ok (.iaload, 1) := by decide +kernel
theorem dX0_becomeRefined_38 : decode cX0_becomeRefined 38 = .ok (.istore 5, 2) := by decide +kernel
theorem dX0_becomeRefined_40 : decode cX0_becomeRefined 40 = .ok (.aload_n 1, 1) := by decide +kernel
theorem dX0_becomeRefined_41 : decode cX0_becomeRefined 41 = .ok (.getfield 18, 3) := by decide +kernel
theorem dX0_becomeRefined_44 : decode cX0_becomeRefined 44 = .ok (.iload_n 3, 1) := by decide +kernel
theorem dX0_becomeRefined_45 : decode cX0_becomeRefined 45 = .ok (.iaload, 1) := by decide +kernel
theorem dX0_becomeRefined_46 : decode cX0_becomeRefined 46 = .ok (.istore 6, 2) := by decide +kernel
theorem dX0_becomeRefined_48 : decode cX0_becomeRefined 48 = .ok (.aload_n 0, 1) := by decide +kernel
theorem dX0_becomeRefined_49 : decode cX0_becomeRefined 49 = .ok (.iconst 2, 1) := by decide +kernel
theorem dX0_becomeRefined_50 : decode cX0_becomeRefined 50 = .ok (.iload_n 3, 1) := by decide +kernel
theorem dX0_becomeRefined_51 : decode cX0_becomeRefined 51 = .ok (.imul, 1) := by decide +kernel
theorem dX0_becomeRefined_52 : decode cX0_becomeRefined 52 = .ok (.iconst 4, 1) := by decide +kernel
theorem dX0_becomeRefined_53 : decode cX0_becomeRefined 53 = .ok (.iload 4, 2) := by decide +kernel
theorem dX0_becomeRefined_55 : decode cX0_becomeRefined 55 = .ok (.imul, 1) := by decide +kernel
theorem dX0_becomeRefined_56 : decode cX0_becomeRefined 56 = .ok (.iconst 2, 1) := by decide +kernel
theorem dX0_becomeRefined_57 : decode cX0_becomeRefined 57 = .ok (.iload 5, 2) := by decide +kernel
theorem dX0_becomeRefined_59 : decode cX0_becomeRefined 59 = .ok (.imul, 1) := by decide +kernel
theorem dX0_becomeRefined_60 : decode cX0_becomeRefined 60 = .ok (.iload 6, 2) := by decide +kernel
theorem dX0_becomeRefined_62 : decode cX0_becomeRefined 62 = .ok (.invokevirtual 25, 3) := by decide +kernel
theorem dX0_becomeRefined_65 : decode cX0_becomeRefined 65 = .ok (.aload_n 0, 1) := by decide +kernel
theorem dX0_becomeRefined_66 : decode cX0_becomeRefined 66 = .ok (.iconst 2, 1) := by decide +kernel
theorem dX0_becomeRefined_67 : decode cX0_becomeRefined 67 = .ok (.iload_n 3, 1) := by decide +kernel
theorem dX0_becomeRefined_68 : decode cX0_becomeRefined 68 = .ok (.imul, 1) := by decide +kernel
theorem dX0_becomeRefined_69 : decode cX0_becomeRefined 69 = .ok (.iconst 1, 1) := by decide +kernel
theorem dX0_becomeRefined_70 : decode cX0_becomeRefined 70 = .ok (.iadd, 1) := by decide +kernel
theorem dX0_becomeRefined_71 : decode cX0_becomeRefined 71 = .ok (.iconst 4, 1) := by decide +kernel
theorem dX0_becomeRefined_72 : decode cX0_becomeRefined 72 = .ok (.iload 4, 2) := by decide +kernel
theorem dX0_becomeRefined_74 : decode cX0_becomeRefined 74 = .ok (.imul, 1) := by decide +kernel
theorem dX0_becomeRefined_75 : decode cX0_becomeRefined 75 = .ok (.iconst 2, 1) := by decide +kernel
theorem dX0_becomeRefined_76 : decode cX0_becomeRefined 76 = .ok (.iload 5, 2) := by decide +kernel
theorem dX0_becomeRefined_78 : decode cX0_becomeRefined 78 = .ok (.imul, 1) := by decide +kernel
theorem dX0_becomeRefined_79 : decode cX0_becomeRefined 79 = .ok (.iadd, 1) := by decide +kernel
theorem dX0_becomeRefined_80 : decode cX0_becomeRefined 80 = .ok (.iload 6, 2) := by decide +kernel
theorem dX0_becomeRefined_82 : decode cX0_becomeRefined 82 = .ok (.iadd, 1) := by decide +kernel
theorem dX0_becomeRefined_83 : decode cX0_becomeRefined 83 = .ok (.iconst 2, 1) := by decide +kernel
theorem dX0_becomeRefined_84 : decode cX0_becomeRefined 84 = .ok (.iload 5, 2) := by decide +kernel
theorem dX0_becomeRefined_86 : decode cX0_becomeRefined 86 = .ok (.imul, 1) := by decide +kernel
theorem dX0_becomeRefined_87 : decode cX0_becomeRefined 87 = .ok (.iconst 2, 1) := by decide +kernel
theorem dX0_becomeRefined_88 : decode cX0_becomeRefined 88 = .ok (.iload 6, 2) := by decide +kernel
theorem dX0_becomeRefined_90 : decode cX0_becomeRefined 90 = .ok (.imul, 1) := by decide +kernel
theorem dX0_becomeRefined_91 : decode cX0_becomeRefined 91 = .ok (.iadd, 1) := by decide +kernel
theorem dX0_becomeRefined_92 : decode cX0_becomeRefined 92 = .ok (.iload 6, 2) := by decide +kernel
theorem dX0_becomeRefined_94 : decode cX0_becomeRefined 94 = .ok (.invokevirtual 25, 3) := by decide +kernel
theorem dX0_becomeRefined_97 : decode cX0_becomeRefined 97 = .ok (.iinc 3 1, 3) := by decide +kernel
theorem dX0_becomeRefined_100 : decode cX0_becomeRefined 100 = .ok (.goto (-81), 3) := by decide +kernel
theorem dX0_becomeRefined_103 : decode cX0_becomeRefined 103 = .ok (.return_, 1) := by decide +kernel
theorem dX0_becomeSloped_0 : decode cX0_becomeSloped 0 = .ok (.aload_n 0, 1) := by decide +kernel
theorem dX0_becomeSloped_1 : decode cX0_becomeSloped 1 = .ok (.aload_n 1, 1) := by decide +kernel
theorem dX0_becomeSloped_2 : decode cX0_becomeSloped 2 = .ok (.getfield 21, 3) := by decide +kernel
theorem dX0_becomeSloped_5 : decode cX0_becomeSloped 5 = .ok (.putfield 21, 3) := by decide +kernel
theorem dX0_becomeSloped_8 : decode cX0_becomeSloped 8 = .ok (.iconst 0, 1) := by decide +kernel
theorem dX0_becomeSloped_9 : decode cX0_becomeSloped 9 = .ok (.istore_n 2, 1) := by decide +kernel
theorem dX0_becomeSloped_10 : decode cX0_becomeSloped 10 = .ok (.iload_n 2, 1) := by decide +kernel
theorem dX0_becomeSloped_11 : decode cX0_becomeSloped 11 = .ok (.aload_n 0, 1) := by decide +kernel
theorem dX0_becomeSloped_12 : decode cX0_becomeSloped 12 = .ok (.getfield 21, 3) := by decide +kernel
theorem dX0_becomeSloped_15 : decode cX0_becomeSloped 15 = .ok (.if_icmp .ge 29, 3) := by decide +kernel
theorem dX0_becomeSloped_18 : decode cX0_becomeSloped 18 = .ok (.aload_n 0, 1) := by decide +kernel
theorem dX0_becomeSloped_19 : decode cX0_becomeSloped 19 = .ok (.iload_n 2, 1) := by decide +kernel
theorem dX0_becomeSloped_20 : decode cX0_becomeSloped 20 = .ok (.aload_n 1, 1) := by decide +kernel
theorem dX0_becomeSloped_21 : decode cX0_becomeSloped 21 = .ok (.getfield 15, 3) := by decide +kernel
theorem dX0_becomeSloped_24 : decode cX0_becomeSloped 24 = .ok (.iload_n 2, 1) := by decide +kernel
theorem dX0_becomeSloped_25 : decode cX0_becomeSloped 25 = .ok (.iaload, 1) := by decide +kernel
theorem dX0_becomeSloped_26 : decode cX0_becomeSloped 26 = .ok (.iconst 2, 1) := by decide +kernel
theorem dX0_becomeSloped_27 : decode cX0_becomeSloped 27 = .ok (.aload_n 1, 1) := by decide +kernel
theorem dX0_becomeSloped_28 : decode cX0_becomeSloped 28 = .ok (.getfield 18, 3) := by decide +kernel
theorem dX0_becomeSloped_31 : decode cX0_becomeSloped 31 = .ok (.iload_n 2, 1) := by decide +kernel
theorem dX0_becomeSloped_32 : decode cX0_becomeSloped 32 = .ok (.iaload, 1) := by decide +kernel
theorem dX0_becomeSloped_33 : decode cX0_becomeSloped 33 = .ok (.imul, 1) := by decide +kernel
theorem dX0_becomeSloped_34 : decode cX0_becomeSloped 34 = .ok (.iconst 0, 1) := by decide +kernel
theorem dX0_becomeSloped_35 : decode cX0_becomeSloped 35 = .ok (.invokevirtual 25, 3) := by decide +kernel
theorem dX0_becomeSloped_38 : decode cX0_becomeSloped 38 = .ok (.iinc 2 1, 3) := by decide +kernel
theorem dX0_becomeSloped_41 : decode cX0_becomeSloped 41 = .ok (.goto (-31), 3) := by decide +kernel
theorem dX0_becomeSloped_44 : decode cX0_becomeSloped 44 = .ok (.return_, 1) := by decide +kernel
theorem dX0_becomePushed_0 : decode cX0_becomePushed 0 = .ok (.aload_n 0, 1) := by decide +kernel
theorem dX0_becomePushed_1 : decode cX0_becomePushed 1 = .ok (.aload_n 1, 1) := by decide +kernel
theorem dX0_becomePushed_2 : decode cX0_becomePushed 2 = .ok (.getfield 21, 3) := by decide +kernel
theorem dX0_becomePushed_5 : decode cX0_becomePushed 5 = .ok (.putfield 21, 3) := by decide +kernel
theorem dX0_becomePushed_8 : decode cX0_becomePushed 8 = .ok (.iconst 0, 1) := by decide +kernel
theorem dX0_becomePushed_9 : decode cX0_becomePushed 9 = .ok (.istore_n 3, 1) := by decide +kernel
theorem dX0_becomePushed_10 : decode cX0_becomePushed 10 = .ok (.iload_n 3, 1) := by decide +kernel
theorem dX0_becomePushed_11 : decode cX0_becomePushed 11 = .ok (.aload_n 0, 1) := by decide +kernel
theorem dX0_becomePushed_12 : decode cX0_becomePushed 12 = .ok (.getfield 21, 3) := by decide +kernel
theorem dX0_becomePushed_15 : decode cX0_becomePushed 15 = .ok (.if_icmp .ge 34, 3) := by decide +kernel
theorem dX0_becomePushed_18 : decode cX0_becomePushed 18 = .ok (.aload_n 0, 1) := by decide +kernel
theorem dX0_becomePushed_19 : decode cX0_becomePushed 19 = .ok (.iload_n 3, 1) := by decide +kernel
theorem dX0_becomePushed_20 : decode cX0_becomePushed 20 = .ok (.aload_n 1, 1) := by decide +kernel
theorem dX0_becomePushed_21 : decode cX0_becomePushed 21 = .ok (.getfield 9, 3) := by decide +kernel
theorem dX0_becomePushed_24 : decode cX0_becomePushed 24 = .ok (.iload_n 3, 1) := by decide +kernel
theorem dX0_becomePushed_25 : decode cX0_becomePushed 25 = .ok (.iaload, 1) := by decide +kernel
theorem dX0_becomePushed_26 : decode cX0_becomePushed 26 = .ok (.iload_n 2, 1) := by decide +kernel
theorem dX0_becomePushed_27 : decode cX0_becomePushed 27 = .ok (.iadd, 1) := by decide +kernel
theorem dX0_becomePushed_28 : decode cX0_becomePushed 28 = .ok (.aload_n 1, 1) := by decide +kernel
theorem dX0_becomePushed_29 : decode cX0_becomePushed 29 = .ok (.getfield 15, 3) := by decide +kernel
theorem dX0_becomePushed_32 : decode cX0_becomePushed 32 = .ok (.iload_n 3, 1) := by decide +kernel
theorem dX0_becomePushed_33 : decode cX0_becomePushed 33 = .ok (.iaload, 1) := by decide +kernel
theorem dX0_becomePushed_34 : decode cX0_becomePushed 34 = .ok (.aload_n 1, 1) := by decide +kernel
theorem dX0_becomePushed_35 : decode cX0_becomePushed 35 = .ok (.getfield 18, 3) := by decide +kernel
theorem dX0_becomePushed_38 : decode cX0_becomePushed 38 = .ok (.iload_n 3, 1) := by decide +kernel
theorem dX0_becomePushed_39 : decode cX0_becomePushed 39 = .ok (.iaload, 1) := by decide +kernel
theorem dX0_becomePushed_40 : decode cX0_becomePushed 40 = .ok (.invokevirtual 25, 3) := by decide +kernel
theorem dX0_becomePushed_43 : decode cX0_becomePushed 43 = .ok (.iinc 3 1, 3) := by decide +kernel
theorem dX0_becomePushed_46 : decode cX0_becomePushed 46 = .ok (.goto (-36), 3) := by decide +kernel
theorem dX0_becomePushed_49 : decode cX0_becomePushed 49 = .ok (.return_, 1) := by decide +kernel
theorem dX0_isInBounds_0 : decode cX0_isInBounds 0 = .ok (.iconst 0, 1) := by decide +kernel
theorem dX0_isInBounds_1 : decode cX0_isInBounds 1 = .ok (.istore_n 1, 1) := by decide +kernel
theorem dX0_isInBounds_2 : decode cX0_isInBounds 2 = .ok (.iload_n 1, 1) := by decide +kernel
theorem dX0_isInBounds_3 : decode cX0_isInBounds 3 = .ok (.aload_n 0, 1) := by decide +kernel
theorem dX0_isInBounds_4 : decode cX0_isInBounds 4 = .ok (.getfield 21, 3) := by decide +kernel
theorem dX0_isInBounds_7 : decode cX0_isInBounds 7 = .ok (.if_icmp .ge 53, 3) := by decide +kernel
theorem dX0_isInBounds_10 : decode cX0_isInBounds 10 = .ok (.aload_n 0, 1) := by decide +kernel
theorem dX0_isInBounds_11 : decode cX0_isInBounds 11 = .ok (.getfield 9, 3) := by decide +kernel
theorem dX0_isInBounds_14 : decode cX0_isInBounds 14 = .ok (.iload_n 1, 1) := by decide +kernel
theorem dX0_isInBounds_15 : decode cX0_isInBounds 15 = .ok (.iaload, 1) := by decide +kernel
theorem dX0_isInBounds_16 : decode cX0_isInBounds 16 = .ok (.ldc 35, 2) := by decide +kernel
theorem dX0_isInBounds_18 : decode cX0_isInBounds 18 = .ok (.invokestatic 36, 3) := by decide +kernel
theorem dX0_isInBounds_21 : decode cX0_isInBounds 21 = .ok (.ifCond .ne 31, 3) := by decide +kernel
theorem dX0_isInBounds_24 : decode cX0_isInBounds 24 = .ok (.aload_n 0, 1) := by decide +kernel
theorem dX0_isInBounds_25 : decode cX0_isInBounds 25 = .ok (.getfield 15, 3) := by decide +kernel
theorem dX0_isInBounds_28 : decode cX0_isInBounds 28 = .ok (.iload_n 1, 1) := by decide +kernel
theorem dX0_isInBounds_29 : decode cX0_isInBounds 29 = .ok (.iaload, 1) := by decide +kernel
theorem dX0_isInBounds_30 : decode cX0_isInBounds 30 = .ok (.ldc 35, 2) := by decide +kernel
theorem dX0_isInBounds_32 : decode cX0_isInBounds 32 = .ok (.invokestatic 36, 3) := by decide +kernel
theorem dX0_isInBounds_35 : decode cX0_isInBounds 35 = .ok (.ifCond .ne 17, 3) := by decide +kernel
theorem dX0_isInBounds_38 : decode cX0_isInBounds 38 = .ok (.aload_n 0, 1) := by decide +kernel
theorem dX0_isInBounds_39 : decode cX0_isInBounds 39 = .ok (.getfield 18, 3) := by decide +kernel
theorem dX0_isInBounds_42 : decode cX0_isInBounds 42 = .ok (.iload_n 1, 1) := by decide +kernel
theorem dX0_isInBounds_43 : decode cX0_isInBounds 43 = .ok (.iaload, 1) := by decide +kernel
theorem dX0_isInBounds_44 : decode cX0_isInBounds 44 = .ok (.ldc 35, 2) := by decide +kernel
theorem dX0_isInBounds_46 : decode cX0_isInBounds 46 = .ok (.invokestatic 36, 3) := by decide +kernel
theorem dX0_isInBounds_49 : decode cX0_isInBounds 49 = .ok (.ifCond .eq 5, 3) := by decide +kernel
theorem dX0_isInBounds_52 : decode cX0_isInBounds 52 = .ok (.iconst 0, 1) := by decide +kernel
theorem dX0_isInBounds_53 : decode cX0_isInBounds 53 = .ok (.ireturn, 1) := by decide +kernel
theorem dX0_isInBounds_54 : decode cX0_isInBounds 54 = .ok (.iinc 1 1, 3) := by decide +kernel
theorem dX0_isInBounds_57 : decode cX0_isInBounds 57 = .ok (.goto (-55), 3) := by decide +kernel
theorem dX0_isInBounds_60 : decode cX0_isInBounds 60 = .ok (.iconst 1, 1) := by decide +kernel
theorem dX0_isInBounds_61 : decode cX0_isInBounds 61 = .ok (.ireturn, 1) := by decide +kernel
theorem dX0_hasZeroPiece_0 : decode cX0_hasZeroPiece 0 = .ok (.iconst 0, 1) := by decide +kernel
theorem dX0_hasZeroPiece_1 : decode cX0_hasZeroPiece 1 = .ok (.istore_n 1, 1) := by decide +kernel
theorem dX0_hasZeroPiece_2 : decode cX0_hasZeroPiece 2 = .ok (.iload_n 1, 1) := by decide +kernel
theorem dX0_hasZeroPiece_3 : decode cX0_hasZeroPiece 3 = .ok (.aload_n 0, 1) := by decide +kernel
theorem dX0_hasZeroPiece_4 : decode cX0_hasZeroPiece 4 = .ok (.getfield 21, 3) := by decide +kernel
theorem dX0_hasZeroPiece_7 : decode cX0_hasZeroPiece 7 = .ok (.if_icmp .ge 38, 3) := by decide +kernel
theorem dX0_hasZeroPiece_10 : decode cX0_hasZeroPiece 10 = .ok (.aload_n 0, 1) := by decide +kernel
theorem dX0_hasZeroPiece_11 : decode cX0_hasZeroPiece 11 = .ok (.getfield 9, 3) := by decide +kernel
theorem dX0_hasZeroPiece_14 : decode cX0_hasZeroPiece 14 = .ok (.iload_n 1, 1) := by decide +kernel
theorem dX0_hasZeroPiece_15 : decode cX0_hasZeroPiece 15 = .ok (.iaload, 1) := by decide +kernel
theorem dX0_hasZeroPiece_16 : decode cX0_hasZeroPiece 16 = .ok (.ifCond .ne 23, 3) := by decide +kernel
theorem dX0_hasZeroPiece_19 : decode cX0_hasZeroPiece 19 = .ok (.aload_n 0, 1) := by decide +kernel
theorem dX0_hasZeroPiece_20 : decode cX0_hasZeroPiece 20 = .ok (.getfield 15, 3) := by decide +kernel
theorem dX0_hasZeroPiece_23 : decode cX0_hasZeroPiece 23 = .ok (.iload_n 1, 1) := by decide +kernel
theorem dX0_hasZeroPiece_24 : decode cX0_hasZeroPiece 24 = .ok (.iaload, 1) := by decide +kernel
theorem dX0_hasZeroPiece_25 : decode cX0_hasZeroPiece 25 = .ok (.ifCond .ne 14, 3) := by decide +kernel
theorem dX0_hasZeroPiece_28 : decode cX0_hasZeroPiece 28 = .ok (.aload_n 0, 1) := by decide +kernel
theorem dX0_hasZeroPiece_29 : decode cX0_hasZeroPiece 29 = .ok (.getfield 18, 3) := by decide +kernel
theorem dX0_hasZeroPiece_32 : decode cX0_hasZeroPiece 32 = .ok (.iload_n 1, 1) := by decide +kernel
theorem dX0_hasZeroPiece_33 : decode cX0_hasZeroPiece 33 = .ok (.iaload, 1) := by decide +kernel
theorem dX0_hasZeroPiece_34 : decode cX0_hasZeroPiece 34 = .ok (.ifCond .ne 5, 3) := by decide +kernel
theorem dX0_hasZeroPiece_37 : decode cX0_hasZeroPiece 37 = .ok (.iconst 1, 1) := by decide +kernel
theorem dX0_hasZeroPiece_38 : decode cX0_hasZeroPiece 38 = .ok (.ireturn, 1) := by decide +kernel
theorem dX0_hasZeroPiece_39 : decode cX0_hasZeroPiece 39 = .ok (.iinc 1 1, 3) := by decide +kernel
theorem dX0_hasZeroPiece_42 : decode cX0_hasZeroPiece 42 = .ok (.goto (-40), 3) := by decide +kernel
theorem dX0_hasZeroPiece_45 : decode cX0_hasZeroPiece 45 = .ok (.iconst 0, 1) := by decide +kernel
theorem dX0_hasZeroPiece_46 : decode cX0_hasZeroPiece 46 = .ok (.ireturn, 1) := by decide +kernel
theorem dX0_isLike_0 : decode cX0_isLike 0 = .ok (.aload_n 0, 1) := by decide +kernel
theorem dX0_isLike_1 : decode cX0_isLike 1 = .ok (.getfield 21, 3) := by decide +kernel
theorem dX0_isLike_4 : decode cX0_isLike 4 = .ok (.aload_n 1, 1) := by decide +kernel
theorem dX0_isLike_5 : decode cX0_isLike 5 = .ok (.getfield 21, 3) := by decide +kernel
theorem dX0_isLike_8 : decode cX0_isLike 8 = .ok (.if_icmp .eq 5, 3) := by decide +kernel
theorem dX0_isLike_11 : decode cX0_isLike 11 = .ok (.iconst 0, 1) := by decide +kernel
theorem dX0_isLike_12 : decode cX0_isLike 12 = .ok (.ireturn, 1) := by decide +kernel
theorem dX0_isLike_13 : decode cX0_isLike 13 = .ok (.iconst 0, 1) := by decide +kernel
theorem dX0_isLike_14 : decode cX0_isLike 14 = .ok (.istore_n 2, 1) := by decide +kernel
theorem dX0_isLike_15 : decode cX0_isLike 15 = .ok (.iload_n 2, 1) := by decide +kernel
theorem dX0_isLike_16 : decode cX0_isLike 16 = .ok (.aload_n 0, 1) := by decide +kernel
theorem dX0_isLike_17 : decode cX0_isLike 17 = .ok (.getfield 21, 3) := by decide +kernel
theorem dX0_isLike_20 : decode cX0_isLike 20 = .ok (.if_icmp .ge 56, 3) := by decide +kernel
theorem dX0_isLike_23 : decode cX0_isLike 23 = .ok (.aload_n 0, 1) := by decide +kernel
theorem dX0_isLike_24 : decode cX0_isLike 24 = .ok (.getfield 9, 3) := by decide +kernel
theorem dX0_isLike_27 : decode cX0_isLike 27 = .ok (.iload_n 2, 1) := by decide +kernel
theorem dX0_isLike_28 : decode cX0_isLike 28 = .ok (.iaload, 1) := by decide +kernel
theorem dX0_isLike_29 : decode cX0_isLike 29 = .ok (.aload_n 1, 1) := by decide +kernel
theorem dX0_isLike_30 : decode cX0_isLike 30 = .ok (.getfield 9, 3) := by decide +kernel
theorem dX0_isLike_33 : decode cX0_isLike 33 = .ok (.iload_n 2, 1) := by decide +kernel
theorem dX0_isLike_34 : decode cX0_isLike 34 = .ok (.iaload, 1) := by decide +kernel
theorem dX0_isLike_35 : decode cX0_isLike 35 = .ok (.if_icmp .ne 33, 3) := by decide +kernel
theorem dX0_isLike_38 : decode cX0_isLike 38 = .ok (.aload_n 0, 1) := by decide +kernel
theorem dX0_isLike_39 : decode cX0_isLike 39 = .ok (.getfield 15, 3) := by decide +kernel
theorem dX0_isLike_42 : decode cX0_isLike 42 = .ok (.iload_n 2, 1) := by decide +kernel
theorem dX0_isLike_43 : decode cX0_isLike 43 = .ok (.iaload, 1) := by decide +kernel
theorem dX0_isLike_44 : decode cX0_isLike 44 = .ok (.aload_n 1, 1) := by decide +kernel
theorem dX0_isLike_45 : decode cX0_isLike 45 = .ok (.getfield 15, 3) := by decide +kernel
theorem dX0_isLike_48 : decode cX0_isLike 48 = .ok (.iload_n 2, 1) := by decide +kernel
theorem dX0_isLike_49 : decode cX0_isLike 49 = .ok (.iaload, 1) := by decide +kernel
theorem dX0_isLike_50 : decode cX0_isLike 50 = .ok (.if_icmp .ne 18, 3) := by decide +kernel
theorem dX0_isLike_53 : decode cX0_isLike 53 = .ok (.aload_n 0, 1) := by decide +kernel
theorem dX0_isLike_54 : decode cX0_isLike 54 = .ok (.getfield 18, 3) := by decide +kernel
theorem dX0_isLike_57 : decode cX0_isLike 57 = .ok (.iload_n 2, 1) := by decide +kernel
theorem dX0_isLike_58 : decode cX0_isLike 58 = .ok (.iaload, 1) := by decide +kernel
theorem dX0_isLike_59 : decode cX0_isLike 59 = .ok (.aload_n 1, 1) := by decide +kernel
theorem dX0_isLike_60 : decode cX0_isLike 60 = .ok (.getfield 18, 3) := by decide +kernel
theorem dX0_isLike_63 : decode cX0_isLike 63 = .ok (.iload_n 2, 1) := by decide +kernel
theorem dX0_isLike_64 : decode cX0_isLike 64 = .ok (.iaload, 1) := by decide +kernel
theorem dX0_isLike_65 : decode cX0_isLike 65 = .ok (.if_icmp .eq 5, 3) := by decide +kernel
theorem dX0_isLike_68 : decode cX0_isLike 68 = .ok (.iconst 0, 1) := by decide +kernel
theorem dX0_isLike_69 : decode cX0_isLike 69 = .ok (.ireturn, 1) := by decide +kernel
theorem dX0_isLike_70 : decode cX0_isLike 70 = .ok (.iinc 2 1, 3) := by decide +kernel
theorem dX0_isLike_73 : decode cX0_isLike 73 = .ok (.goto (-58), 3) := by decide +kernel
theorem dX0_isLike_76 : decode cX0_isLike 76 = .ok (.iconst 1, 1) := by decide +kernel
theorem dX0_isLike_77 : decode cX0_isLike 77 = .ok (.ireturn, 1) := by decide +kernel
theorem dX0_valueAtEnd_0 : decode cX0_valueAtEnd 0 = .ok (.aload_n 0, 1) := by decide +kernel
theorem dX0_valueAtEnd_1 : decode cX0_valueAtEnd 1 = .ok (.getfield 9, 3) := by decide +kernel
theorem dX0_valueAtEnd_4 : decode cX0_valueAtEnd 4 = .ok (.iload_n 1, 1) := by decide +kernel
theorem dX0_valueAtEnd_5 : decode cX0_valueAtEnd 5 = .ok (.iaload, 1) := by decide +kernel
theorem dX0_valueAtEnd_6 : decode cX0_valueAtEnd 6 = .ok (.aload_n 0, 1) := by decide +kernel
theorem dX0_valueAtEnd_7 : decode cX0_valueAtEnd 7 = .ok (.getfield 15, 3) := by decide +kernel
theorem dX0_valueAtEnd_10 : decode cX0_valueAtEnd 10 = .ok (.iload_n 1, 1) := by decide +kernel
theorem dX0_valueAtEnd_11 : decode cX0_valueAtEnd 11 = .ok (.iaload, 1) := by decide +kernel
theorem dX0_valueAtEnd_12 : decode cX0_valueAtEnd 12 = .ok (.iadd, 1) := by decide +kernel
theorem dX0_valueAtEnd_13 : decode cX0_valueAtEnd 13 = .ok (.aload_n 0, 1) := by decide +kernel
theorem dX0_valueAtEnd_14 : decode cX0_valueAtEnd 14 = .ok (.getfield 18, 3) := by decide +kernel
theorem dX0_valueAtEnd_17 : decode cX0_valueAtEnd 17 = .ok (.iload_n 1, 1) := by decide +kernel
theorem dX0_valueAtEnd_18 : decode cX0_valueAtEnd 18 = .ok (.iaload, 1) := by decide +kernel
theorem dX0_valueAtEnd_19 : decode cX0_valueAtEnd 19 = .ok (.iadd, 1) := by decide +kernel
theorem dX0_valueAtEnd_20 : decode cX0_valueAtEnd 20 = .ok (.ireturn, 1) := by decide +kernel
theorem dX0_slopeAtEnd_0 : decode cX0_slopeAtEnd 0 = .ok (.aload_n 0, 1) := by decide +kernel
theorem dX0_slopeAtEnd_1 : decode cX0_slopeAtEnd 1 = .ok (.getfield 15, 3) := by decide +kernel
theorem dX0_slopeAtEnd_4 : decode cX0_slopeAtEnd 4 = .ok (.iload_n 1, 1) := by decide +kernel
theorem dX0_slopeAtEnd_5 : decode cX0_slopeAtEnd 5 = .ok (.iaload, 1) := by decide +kernel
theorem dX0_slopeAtEnd_6 : decode cX0_slopeAtEnd 6 = .ok (.iconst 2, 1) := by decide +kernel
theorem dX0_slopeAtEnd_7 : decode cX0_slopeAtEnd 7 = .ok (.aload_n 0, 1) := by decide +kernel
theorem dX0_slopeAtEnd_8 : decode cX0_slopeAtEnd 8 = .ok (.getfield 18, 3) := by decide +kernel
theorem dX0_slopeAtEnd_11 : decode cX0_slopeAtEnd 11 = .ok (.iload_n 1, 1) := by decide +kernel
theorem dX0_slopeAtEnd_12 : decode cX0_slopeAtEnd 12 = .ok (.iaload, 1) := by decide +kernel
theorem dX0_slopeAtEnd_13 : decode cX0_slopeAtEnd 13 = .ok (.imul, 1) := by decide +kernel
theorem dX0_slopeAtEnd_14 : decode cX0_slopeAtEnd 14 = .ok (.iadd, 1) := by decide +kernel
theorem dX0_slopeAtEnd_15 : decode cX0_slopeAtEnd 15 = .ok (.ireturn, 1) := by decide +kernel
theorem dX0_joinAt_0 : decode cX0_joinAt 0 = .ok (.iload_n 1, 1) := by decide +kernel
theorem dX0_joinAt_1 : decode cX0_joinAt 1 = .ok (.iconst 1, 1) := by decide +kernel
theorem dX0_joinAt_2 : decode cX0_joinAt 2 = .ok (.isub, 1) := by decide +kernel
theorem dX0_joinAt_3 : decode cX0_joinAt 3 = .ok (.istore_n 2, 1) := by decide +kernel
theorem dX0_joinAt_4 : decode cX0_joinAt 4 = .ok (.aload_n 0, 1) := by decide +kernel
theorem dX0_joinAt_5 : decode cX0_joinAt 5 = .ok (.iload_n 2, 1) := by decide +kernel
theorem dX0_joinAt_6 : decode cX0_joinAt 6 = .ok (.invokevirtual 40, 3) := by decide +kernel
theorem dX0_joinAt_9 : decode cX0_joinAt 9 = .ok (.aload_n 0, 1) := by decide +kernel
theorem dX0_joinAt_10 : decode cX0_joinAt 10 = .ok (.getfield 9, 3) := by decide +kernel
theorem dX0_joinAt_13 : decode cX0_joinAt 13 = .ok (.iload_n 1, 1) := by decide +kernel
theorem dX0_joinAt_14 : decode cX0_joinAt 14 = .ok (.iaload, 1) := by decide +kernel
theorem dX0_joinAt_15 : decode cX0_joinAt 15 = .ok (.if_icmp .eq 5, 3) := by decide +kernel
theorem dX0_joinAt_18 : decode cX0_joinAt 18 = .ok (.iconst (-1), 1) := by decide +kernel
theorem dX0_joinAt_19 : decode cX0_joinAt 19 = .ok (.ireturn, 1) := by decide +kernel
theorem dX0_joinAt_20 : decode cX0_joinAt 20 = .ok (.aload_n 0, 1) := by decide +kernel
theorem dX0_joinAt_21 : decode cX0_joinAt 21 = .ok (.iload_n 2, 1) := by decide +kernel
theorem dX0_joinAt_22 : decode cX0_joinAt 22 = .ok (.invokevirtual 44, 3) := by decide +kernel
theorem dX0_joinAt_25 : decode cX0_joinAt 25 = .ok (.aload_n 0, 1) := by decide +kernel
theorem dX0_joinAt_26 : decode cX0_joinAt 26 = .ok (.getfield 15, 3) := by decide +kernel
theorem dX0_joinAt_29 : decode cX0_joinAt 29 = .ok (.iload_n 1, 1) := by decide +kernel
theorem dX0_joinAt_30 : decode cX0_joinAt 30 = .ok (.iaload, 1) := by decide +kernel
theorem dX0_joinAt_31 : decode cX0_joinAt 31 = .ok (.if_icmp .eq 5, 3) := by decide +kernel
theorem dX0_joinAt_34 : decode cX0_joinAt 34 = .ok (.iconst 0, 1) := by decide +kernel
theorem dX0_joinAt_35 : decode cX0_joinAt 35 = .ok (.ireturn, 1) := by decide +kernel
theorem dX0_joinAt_36 : decode cX0_joinAt 36 = .ok (.aload_n 0, 1) := by decide +kernel
theorem dX0_joinAt_37 : decode cX0_joinAt 37 = .ok (.getfield 18, 3) := by decide +kernel
theorem dX0_joinAt_40 : decode cX0_joinAt 40 = .ok (.iload_n 2, 1) := by decide +kernel
theorem dX0_joinAt_41 : decode cX0_joinAt 41 = .ok (.iaload, 1) := by decide +kernel
theorem dX0_joinAt_42 : decode cX0_joinAt 42 = .ok (.aload_n 0, 1) := by decide +kernel
theorem dX0_joinAt_43 : decode cX0_joinAt 43 = .ok (.getfield 18, 3) := by decide +kernel
theorem dX0_joinAt_46 : decode cX0_joinAt 46 = .ok (.iload_n 1, 1) := by decide +kernel
theorem dX0_joinAt_47 : decode cX0_joinAt 47 = .ok (.iaload, 1) := by decide +kernel
theorem dX0_joinAt_48 : decode cX0_joinAt 48 = .ok (.if_icmp .eq 7, 3) := by decide +kernel
theorem dX0_joinAt_51 : decode cX0_joinAt 51 = .ok (.iconst 1, 1) := by decide +kernel
theorem dX0_joinAt_52 : decode cX0_joinAt 52 = .ok (.goto 4, 3) := by decide +kernel
theorem dX0_joinAt_55 : decode cX0_joinAt 55 = .ok (.iconst 2, 1) := by decide +kernel
theorem dX0_joinAt_56 : decode cX0_joinAt 56 = .ok (.ireturn, 1) := by decide +kernel
theorem dX0_knotsJoined_0 : decode cX0_knotsJoined 0 = .ok (.iconst 0, 1) := by decide +kernel
theorem dX0_knotsJoined_1 : decode cX0_knotsJoined 1 = .ok (.istore_n 2, 1) := by decide +kernel
theorem dX0_knotsJoined_2 : decode cX0_knotsJoined 2 = .ok (.iconst 1, 1) := by decide +kernel
theorem dX0_knotsJoined_3 : decode cX0_knotsJoined 3 = .ok (.istore_n 3, 1) := by decide +kernel
theorem dX0_knotsJoined_4 : decode cX0_knotsJoined 4 = .ok (.iload_n 3, 1) := by decide +kernel
theorem dX0_knotsJoined_5 : decode cX0_knotsJoined 5 = .ok (.aload_n 0, 1) := by decide +kernel
theorem dX0_knotsJoined_6 : decode cX0_knotsJoined 6 = .ok (.getfield 21, 3) := by decide +kernel
theorem dX0_knotsJoined_9 : decode cX0_knotsJoined 9 = .ok (.if_icmp .ge 21, 3) := by decide +kernel
theorem dX0_knotsJoined_12 : decode cX0_knotsJoined 12 = .ok (.aload_n 0, 1) := by decide +kernel
theorem dX0_knotsJoined_13 : decode cX0_knotsJoined 13 = .ok (.iload_n 3, 1) := by decide +kernel
theorem dX0_knotsJoined_14 : decode cX0_knotsJoined 14 = .ok (.invokevirtual 47, 3) := by decide +kernel
theorem dX0_knotsJoined_17 : decode cX0_knotsJoined 17 = .ok (.iload_n 1, 1) := by decide +kernel
theorem dX0_knotsJoined_18 : decode cX0_knotsJoined 18 = .ok (.if_icmp .ne 6, 3) := by decide +kernel
theorem dX0_knotsJoined_21 : decode cX0_knotsJoined 21 = .ok (.iinc 2 1, 3) := by decide +kernel
theorem dX0_knotsJoined_24 : decode cX0_knotsJoined 24 = .ok (.iinc 3 1, 3) := by decide +kernel
theorem dX0_knotsJoined_27 : decode cX0_knotsJoined 27 = .ok (.goto (-23), 3) := by decide +kernel
theorem dX0_knotsJoined_30 : decode cX0_knotsJoined 30 = .ok (.iload_n 2, 1) := by decide +kernel
theorem dX0_knotsJoined_31 : decode cX0_knotsJoined 31 = .ok (.ireturn, 1) := by decide +kernel
theorem dX0_isRising_0 : decode cX0_isRising 0 = .ok (.iconst 0, 1) := by decide +kernel
theorem dX0_isRising_1 : decode cX0_isRising 1 = .ok (.istore_n 2, 1) := by decide +kernel
theorem dX0_isRising_2 : decode cX0_isRising 2 = .ok (.iload_n 2, 1) := by decide +kernel
theorem dX0_isRising_3 : decode cX0_isRising 3 = .ok (.aload_n 0, 1) := by decide +kernel
theorem dX0_isRising_4 : decode cX0_isRising 4 = .ok (.getfield 21, 3) := by decide +kernel
theorem dX0_isRising_7 : decode cX0_isRising 7 = .ok (.if_icmp .ge 57, 3) := by decide +kernel
theorem dX0_isRising_10 : decode cX0_isRising 10 = .ok (.iload_n 1, 1) := by decide +kernel
theorem dX0_isRising_11 : decode cX0_isRising 11 = .ok (.aload_n 0, 1) := by decide +kernel
theorem dX0_isRising_12 : decode cX0_isRising 12 = .ok (.getfield 15, 3) := by decide +kernel
theorem dX0_isRising_15 : decode cX0_isRising 15 = .ok (.iload_n 2, 1) := by decide +kernel
theorem dX0_isRising_16 : decode cX0_isRising 16 = .ok (.iaload, 1) := by decide +kernel
theorem dX0_isRising_17 : decode cX0_isRising 17 = .ok (.imul, 1) := by decide +kernel
theorem dX0_isRising_18 : decode cX0_isRising 18 = .ok (.ifCond .lt 13, 3) := by decide +kernel
theorem dX0_isRising_21 : decode cX0_isRising 21 = .ok (.iload_n 1, 1) := by decide +kernel
theorem dX0_isRising_22 : decode cX0_isRising 22 = .ok (.aload_n 0, 1) := by decide +kernel
theorem dX0_isRising_23 : decode cX0_isRising 23 = .ok (.iload_n 2, 1) := by decide +kernel
theorem dX0_isRising_24 : decode cX0_isRising 24 = .ok (.invokevirtual 44, 3) := by decide +kernel
theorem dX0_isRising_27 : decode cX0_isRising 27 = .ok (.imul, 1) := by decide +kernel
theorem dX0_isRising_28 : decode cX0_isRising 28 = .ok (.ifCond .ge 5, 3) := by decide +kernel
theorem dX0_isRising_31 : decode cX0_isRising 31 = .ok (.iconst 0, 1) := by decide +kernel
theorem dX0_isRising_32 : decode cX0_isRising 32 = .ok (.ireturn, 1) := by decide +kernel
theorem dX0_isRising_33 : decode cX0_isRising 33 = .ok (.iload_n 2, 1) := by decide +kernel
theorem dX0_isRising_34 : decode cX0_isRising 34 = .ok (.ifCond .le 24, 3) := by decide +kernel
theorem dX0_isRising_37 : decode cX0_isRising 37 = .ok (.iload_n 1, 1) := by decide +kernel
theorem dX0_isRising_38 : decode cX0_isRising 38 = .ok (.aload_n 0, 1) := by decide +kernel
theorem dX0_isRising_39 : decode cX0_isRising 39 = .ok (.getfield 9, 3) := by decide +kernel
theorem dX0_isRising_42 : decode cX0_isRising 42 = .ok (.iload_n 2, 1) := by decide +kernel
theorem dX0_isRising_43 : decode cX0_isRising 43 = .ok (.iaload, 1) := by decide +kernel
theorem dX0_isRising_44 : decode cX0_isRising 44 = .ok (.aload_n 0, 1) := by decide +kernel
theorem dX0_isRising_45 : decode cX0_isRising 45 = .ok (.iload_n 2, 1) := by decide +kernel
theorem dX0_isRising_46 : decode cX0_isRising 46 = .ok (.iconst 1, 1) := by decide +kernel
theorem dX0_isRising_47 : decode cX0_isRising 47 = .ok (.isub, 1) := by decide +kernel
theorem dX0_isRising_48 : decode cX0_isRising 48 = .ok (.invokevirtual 40, 3) := by decide +kernel
theorem dX0_isRising_51 : decode cX0_isRising 51 = .ok (.isub, 1) := by decide +kernel
theorem dX0_isRising_52 : decode cX0_isRising 52 = .ok (.imul, 1) := by decide +kernel
theorem dX0_isRising_53 : decode cX0_isRising 53 = .ok (.ifCond .ge 5, 3) := by decide +kernel
theorem dX0_isRising_56 : decode cX0_isRising 56 = .ok (.iconst 0, 1) := by decide +kernel
theorem dX0_isRising_57 : decode cX0_isRising 57 = .ok (.ireturn, 1) := by decide +kernel
theorem dX0_isRising_58 : decode cX0_isRising 58 = .ok (.iinc 2 1, 3) := by decide +kernel
theorem dX0_isRising_61 : decode cX0_isRising 61 = .ok (.goto (-59), 3) := by decide +kernel
theorem dX0_isRising_64 : decode cX0_isRising 64 = .ok (.iconst 1, 1) := by decide +kernel
theorem dX0_isRising_65 : decode cX0_isRising 65 = .ok (.ireturn, 1) := by decide +kernel
theorem dX0_isBentUp_0 : decode cX0_isBentUp 0 = .ok (.iconst 0, 1) := by decide +kernel
theorem dX0_isBentUp_1 : decode cX0_isBentUp 1 = .ok (.istore_n 2, 1) := by decide +kernel
theorem dX0_isBentUp_2 : decode cX0_isBentUp 2 = .ok (.iload_n 2, 1) := by decide +kernel
theorem dX0_isBentUp_3 : decode cX0_isBentUp 3 = .ok (.aload_n 0, 1) := by decide +kernel
theorem dX0_isBentUp_4 : decode cX0_isBentUp 4 = .ok (.getfield 21, 3) := by decide +kernel
theorem dX0_isBentUp_7 : decode cX0_isBentUp 7 = .ok (.if_icmp .ge 55, 3) := by decide +kernel
theorem dX0_isBentUp_10 : decode cX0_isBentUp 10 = .ok (.iload_n 1, 1) := by decide +kernel
theorem dX0_isBentUp_11 : decode cX0_isBentUp 11 = .ok (.aload_n 0, 1) := by decide +kernel
theorem dX0_isBentUp_12 : decode cX0_isBentUp 12 = .ok (.getfield 18, 3) := by decide +kernel
theorem dX0_isBentUp_15 : decode cX0_isBentUp 15 = .ok (.iload_n 2, 1) := by decide +kernel
theorem dX0_isBentUp_16 : decode cX0_isBentUp 16 = .ok (.iaload, 1) := by decide +kernel
theorem dX0_isBentUp_17 : decode cX0_isBentUp 17 = .ok (.imul, 1) := by decide +kernel
theorem dX0_isBentUp_18 : decode cX0_isBentUp 18 = .ok (.ifCond .ge 5, 3) := by decide +kernel
theorem dX0_isBentUp_21 : decode cX0_isBentUp 21 = .ok (.iconst 0, 1) := by decide +kernel
theorem dX0_isBentUp_22 : decode cX0_isBentUp 22 = .ok (.ireturn, 1) := by decide +kernel
theorem dX0_isBentUp_23 : decode cX0_isBentUp 23 = .ok (.iload_n 2, 1) := by decide +kernel
theorem dX0_isBentUp_24 : decode cX0_isBentUp 24 = .ok (.ifCond .le 32, 3) := by decide +kernel
theorem dX0_isBentUp_27 : decode cX0_isBentUp 27 = .ok (.aload_n 0, 1) := by decide +kernel
theorem dX0_isBentUp_28 : decode cX0_isBentUp 28 = .ok (.iload_n 2, 1) := by decide +kernel
theorem dX0_isBentUp_29 : decode cX0_isBentUp 29 = .ok (.invokevirtual 47, 3) := by decide +kernel
theorem dX0_isBentUp_32 : decode cX0_isBentUp 32 = .ok (.ifCond .lt 22, 3) := by decide +kernel
theorem dX0_isBentUp_35 : decode cX0_isBentUp 35 = .ok (.iload_n 1, 1) := by decide +kernel
theorem dX0_isBentUp_36 : decode cX0_isBentUp 36 = .ok (.aload_n 0, 1) := by decide +kernel
theorem dX0_isBentUp_37 : decode cX0_isBentUp 37 = .ok (.getfield 15, 3) := by decide +kernel
theorem dX0_isBentUp_40 : decode cX0_isBentUp 40 = .ok (.iload_n 2, 1) := by decide +kernel
theorem dX0_isBentUp_41 : decode cX0_isBentUp 41 = .ok (.iaload, 1) := by decide +kernel
theorem dX0_isBentUp_42 : decode cX0_isBentUp 42 = .ok (.aload_n 0, 1) := by decide +kernel
theorem dX0_isBentUp_43 : decode cX0_isBentUp 43 = .ok (.iload_n 2, 1) := by decide +kernel
theorem dX0_isBentUp_44 : decode cX0_isBentUp 44 = .ok (.iconst 1, 1) := by decide +kernel
theorem dX0_isBentUp_45 : decode cX0_isBentUp 45 = .ok (.isub, 1) := by decide +kernel
theorem dX0_isBentUp_46 : decode cX0_isBentUp 46 = .ok (.invokevirtual 44, 3) := by decide +kernel
theorem dX0_isBentUp_49 : decode cX0_isBentUp 49 = .ok (.isub, 1) := by decide +kernel
theorem dX0_isBentUp_50 : decode cX0_isBentUp 50 = .ok (.imul, 1) := by decide +kernel
theorem dX0_isBentUp_51 : decode cX0_isBentUp 51 = .ok (.ifCond .ge 5, 3) := by decide +kernel
theorem dX0_isBentUp_54 : decode cX0_isBentUp 54 = .ok (.iconst 0, 1) := by decide +kernel
theorem dX0_isBentUp_55 : decode cX0_isBentUp 55 = .ok (.ireturn, 1) := by decide +kernel
theorem dX0_isBentUp_56 : decode cX0_isBentUp 56 = .ok (.iinc 2 1, 3) := by decide +kernel
theorem dX0_isBentUp_59 : decode cX0_isBentUp 59 = .ok (.goto (-57), 3) := by decide +kernel
theorem dX0_isBentUp_62 : decode cX0_isBentUp 62 = .ok (.iconst 1, 1) := by decide +kernel
theorem dX0_isBentUp_63 : decode cX0_isBentUp 63 = .ok (.ireturn, 1) := by decide +kernel
theorem dX0_top_0 : decode cX0_top 0 = .ok (.iload_n 1, 1) := by decide +kernel
theorem dX0_top_1 : decode cX0_top 1 = .ok (.aload_n 0, 1) := by decide +kernel
theorem dX0_top_2 : decode cX0_top 2 = .ok (.getfield 9, 3) := by decide +kernel
theorem dX0_top_5 : decode cX0_top 5 = .ok (.iconst 0, 1) := by decide +kernel
theorem dX0_top_6 : decode cX0_top 6 = .ok (.iaload, 1) := by decide +kernel
theorem dX0_top_7 : decode cX0_top 7 = .ok (.imul, 1) := by decide +kernel
theorem dX0_top_8 : decode cX0_top 8 = .ok (.i2l, 1) := by decide +kernel
theorem dX0_top_9 : decode cX0_top 9 = .ok (.iload_n 1, 1) := by decide +kernel
theorem dX0_top_10 : decode cX0_top 10 = .ok (.aload_n 0, 1) := by decide +kernel
theorem dX0_top_11 : decode cX0_top 11 = .ok (.getfield 15, 3) := by decide +kernel
theorem dX0_top_14 : decode cX0_top 14 = .ok (.iconst 0, 1) := by decide +kernel
theorem dX0_top_15 : decode cX0_top 15 = .ok (.iaload, 1) := by decide +kernel
theorem dX0_top_16 : decode cX0_top 16 = .ok (.imul, 1) := by decide +kernel
theorem dX0_top_17 : decode cX0_top 17 = .ok (.i2l, 1) := by decide +kernel
theorem dX0_top_18 : decode cX0_top 18 = .ok (.iload_n 1, 1) := by decide +kernel
theorem dX0_top_19 : decode cX0_top 19 = .ok (.aload_n 0, 1) := by decide +kernel
theorem dX0_top_20 : decode cX0_top 20 = .ok (.getfield 18, 3) := by decide +kernel
theorem dX0_top_23 : decode cX0_top 23 = .ok (.iconst 0, 1) := by decide +kernel
theorem dX0_top_24 : decode cX0_top 24 = .ok (.iaload, 1) := by decide +kernel
theorem dX0_top_25 : decode cX0_top 25 = .ok (.imul, 1) := by decide +kernel
theorem dX0_top_26 : decode cX0_top 26 = .ok (.i2l, 1) := by decide +kernel
theorem dX0_top_27 : decode cX0_top 27 = .ok (.invokestatic 50, 3) := by decide +kernel
theorem dX0_top_30 : decode cX0_top 30 = .ok (.lstore_n 2, 1) := by decide +kernel
theorem dX0_top_31 : decode cX0_top 31 = .ok (.iconst 1, 1) := by decide +kernel
theorem dX0_top_32 : decode cX0_top 32 = .ok (.istore 4, 2) := by decide +kernel
theorem dX0_top_34 : decode cX0_top 34 = .ok (.iload 4, 2) := by decide +kernel
theorem dX0_top_36 : decode cX0_top 36 = .ok (.aload_n 0, 1) := by decide +kernel
theorem dX0_top_37 : decode cX0_top 37 = .ok (.getfield 21, 3) := by decide +kernel
theorem dX0_top_40 : decode cX0_top 40 = .ok (.if_icmp .ge 47, 3) := by decide +kernel
theorem dX0_top_43 : decode cX0_top 43 = .ok (.lload_n 2, 1) := by decide +kernel
theorem dX0_top_44 : decode cX0_top 44 = .ok (.iload_n 1, 1) := by decide +kernel
theorem dX0_top_45 : decode cX0_top 45 = .ok (.aload_n 0, 1) := by decide +kernel
theorem dX0_top_46 : decode cX0_top 46 = .ok (.getfield 9, 3) := by decide +kernel
theorem dX0_top_49 : decode cX0_top 49 = .ok (.iload 4, 2) := by decide +kernel
theorem dX0_top_51 : decode cX0_top 51 = .ok (.iaload, 1) := by decide +kernel
theorem dX0_top_52 : decode cX0_top 52 = .ok (.imul, 1) := by decide +kernel
theorem dX0_top_53 : decode cX0_top 53 = .ok (.i2l, 1) := by decide +kernel
theorem dX0_top_54 : decode cX0_top 54 = .ok (.iload_n 1, 1) := by decide +kernel
theorem dX0_top_55 : decode cX0_top 55 = .ok (.aload_n 0, 1) := by decide +kernel
theorem dX0_top_56 : decode cX0_top 56 = .ok (.getfield 15, 3) := by decide +kernel
theorem dX0_top_59 : decode cX0_top 59 = .ok (.iload 4, 2) := by decide +kernel
theorem dX0_top_61 : decode cX0_top 61 = .ok (.iaload, 1) := by decide +kernel
theorem dX0_top_62 : decode cX0_top 62 = .ok (.imul, 1) := by decide +kernel
theorem dX0_top_63 : decode cX0_top 63 = .ok (.i2l, 1) := by decide +kernel
theorem dX0_top_64 : decode cX0_top 64 = .ok (.iload_n 1, 1) := by decide +kernel
theorem dX0_top_65 : decode cX0_top 65 = .ok (.aload_n 0, 1) := by decide +kernel
theorem dX0_top_66 : decode cX0_top 66 = .ok (.getfield 18, 3) := by decide +kernel
theorem dX0_top_69 : decode cX0_top 69 = .ok (.iload 4, 2) := by decide +kernel
theorem dX0_top_71 : decode cX0_top 71 = .ok (.iaload, 1) := by decide +kernel
theorem dX0_top_72 : decode cX0_top 72 = .ok (.imul, 1) := by decide +kernel
theorem dX0_top_73 : decode cX0_top 73 = .ok (.i2l, 1) := by decide +kernel
theorem dX0_top_74 : decode cX0_top 74 = .ok (.invokestatic 50, 3) := by decide +kernel
theorem dX0_top_77 : decode cX0_top 77 = .ok (.invokestatic 54, 3) := by decide +kernel
theorem dX0_top_80 : decode cX0_top 80 = .ok (.lstore_n 2, 1) := by decide +kernel
theorem dX0_top_81 : decode cX0_top 81 = .ok (.iinc 4 1, 3) := by decide +kernel
theorem dX0_top_84 : decode cX0_top 84 = .ok (.goto (-50), 3) := by decide +kernel
theorem dX0_top_87 : decode cX0_top 87 = .ok (.lload_n 2, 1) := by decide +kernel
theorem dX0_top_88 : decode cX0_top 88 = .ok (.lreturn, 1) := by decide +kernel
theorem dX0_topOfPiece_0 : decode cX0_topOfPiece 0 = .ok (.lload_n 0, 1) := by decide +kernel
theorem dX0_topOfPiece_1 : decode cX0_topOfPiece 1 = .ok (.lload_n 0, 1) := by decide +kernel
theorem dX0_topOfPiece_2 : decode cX0_topOfPiece 2 = .ok (.lload_n 2, 1) := by decide +kernel
theorem dX0_topOfPiece_3 : decode cX0_topOfPiece 3 = .ok (.ladd, 1) := by decide +kernel
theorem dX0_topOfPiece_4 : decode cX0_topOfPiece 4 = .ok (.lload 4, 2) := by decide +kernel
theorem dX0_topOfPiece_6 : decode cX0_topOfPiece 6 = .ok (.ladd, 1) := by decide +kernel
theorem dX0_topOfPiece_7 : decode cX0_topOfPiece 7 = .ok (.invokestatic 54, 3) := by decide +kernel
theorem dX0_topOfPiece_10 : decode cX0_topOfPiece 10 = .ok (.lstore 6, 2) := by decide +kernel
theorem dX0_topOfPiece_12 : decode cX0_topOfPiece 12 = .ok (.lload 4, 2) := by decide +kernel
theorem dX0_topOfPiece_14 : decode cX0_topOfPiece 14 = .ok (.lconst 0, 1) := by decide +kernel
theorem dX0_topOfPiece_15 : decode cX0_topOfPiece 15 = .ok (.lcmp, 1) := by decide +kernel
theorem dX0_topOfPiece_16 : decode cX0_topOfPiece 16 = .ok (.ifCond .ge 38, 3) := by decide +kernel
theorem dX0_topOfPiece_19 : decode cX0_topOfPiece 19 = .ok (.lload_n 2, 1) := by decide +kernel
theorem dX0_topOfPiece_20 : decode cX0_topOfPiece 20 = .ok (.lconst 0, 1) := by decide +kernel
theorem dX0_topOfPiece_21 : decode cX0_topOfPiece 21 = .ok (.lcmp, 1) := by decide +kernel
theorem dX0_topOfPiece_22 : decode cX0_topOfPiece 22 = .ok (.ifCond .le 32, 3) := by decide +kernel
theorem dX0_topOfPiece_25 : decode cX0_topOfPiece 25 = .ok (.lload_n 2, 1) := by decide +kernel
theorem dX0_topOfPiece_26 : decode cX0_topOfPiece 26 = .ok (.ldc2_w 58, 3) := by decide +kernel
theorem dX0_topOfPiece_29 : decode cX0_topOfPiece 29 = .ok (.lload 4, 2) := by decide +kernel
theorem dX0_topOfPiece_31 : decode cX0_topOfPiece 31 = .ok (.lmul, 1) := by decide +kernel
theorem dX0_topOfPiece_32 : decode cX0_topOfPiece 32 = .ok (.ladd, 1) := by decide +kernel
theorem dX0_topOfPiece_33 : decode cX0_topOfPiece 33 = .ok (.lconst 0, 1) := by decide +kernel
theorem dX0_topOfPiece_34 : decode cX0_topOfPiece 34 = .ok (.lcmp, 1) := by decide +kernel
theorem dX0_topOfPiece_35 : decode cX0_topOfPiece 35 = .ok (.ifCond .ge 19, 3) := by decide +kernel
theorem dX0_topOfPiece_38 : decode cX0_topOfPiece 38 = .ok (.lload_n 0, 1) := by decide +kernel
theorem dX0_topOfPiece_39 : decode cX0_topOfPiece 39 = .ok (.lload_n 2, 1) := by decide +kernel
theorem dX0_topOfPiece_40 : decode cX0_topOfPiece 40 = .ok (.lload_n 2, 1) := by decide +kernel
theorem dX0_topOfPiece_41 : decode cX0_topOfPiece 41 = .ok (.lmul, 1) := by decide +kernel
theorem dX0_topOfPiece_42 : decode cX0_topOfPiece 42 = .ok (.ldc2_w 60, 3) := by decide +kernel
theorem dX0_topOfPiece_45 : decode cX0_topOfPiece 45 = .ok (.lload 4, 2) := by decide +kernel
theorem dX0_topOfPiece_47 : decode cX0_topOfPiece 47 = .ok (.lmul, 1) := by decide +kernel
theorem dX0_topOfPiece_48 : decode cX0_topOfPiece 48 = .ok (.invokestatic 62, 3) := by decide +kernel
theorem dX0_topOfPiece_51 : decode cX0_topOfPiece 51 = .ok (.lsub, 1) := by decide +kernel
theorem dX0_topOfPiece_52 : decode cX0_topOfPiece 52 = .ok (.lstore 6, 2) := by decide +kernel
theorem dX0_topOfPiece_54 : decode cX0_topOfPiece 54 = .ok (.lload 6, 2) := by decide +kernel
theorem dX0_topOfPiece_56 : decode cX0_topOfPiece 56 = .ok (.lreturn, 1) := by decide +kernel
theorem dX1_init_0 : decode cX1_init 0 = .ok (.aload_n 0, 1) := by decide +kernel
theorem dX1_init_1 : decode cX1_init 1 = .ok (.invokespecial 1, 3) := by decide +kernel
theorem dX1_init_4 : decode cX1_init 4 = .ok (.aload_n 0, 1) := by decide +kernel
theorem dX1_init_5 : decode cX1_init 5 = .ok (.iconst 0, 1) := by decide +kernel
theorem dX1_init_6 : decode cX1_init 6 = .ok (.putfield 7, 3) := by decide +kernel
theorem dX1_init_9 : decode cX1_init 9 = .ok (.aload_n 0, 1) := by decide +kernel
theorem dX1_init_10 : decode cX1_init 10 = .ok (.iconst 0, 1) := by decide +kernel
theorem dX1_init_11 : decode cX1_init 11 = .ok (.putfield 13, 3) := by decide +kernel
theorem dX1_init_14 : decode cX1_init 14 = .ok (.return_, 1) := by decide +kernel
theorem dX1_becomeAll_0 : decode cX1_becomeAll 0 = .ok (.aload_n 0, 1) := by decide +kernel
theorem dX1_becomeAll_1 : decode cX1_becomeAll 1 = .ok (.iload_n 1, 1) := by decide +kernel
theorem dX1_becomeAll_2 : decode cX1_becomeAll 2 = .ok (.ineg, 1) := by decide +kernel
theorem dX1_becomeAll_3 : decode cX1_becomeAll 3 = .ok (.putfield 7, 3) := by decide +kernel
theorem dX1_becomeAll_6 : decode cX1_becomeAll 6 = .ok (.aload_n 0, 1) := by decide +kernel
theorem dX1_becomeAll_7 : decode cX1_becomeAll 7 = .ok (.iload_n 1, 1) := by decide +kernel
theorem dX1_becomeAll_8 : decode cX1_becomeAll 8 = .ok (.putfield 13, 3) := by decide +kernel
theorem dX1_becomeAll_11 : decode cX1_becomeAll 11 = .ok (.return_, 1) := by decide +kernel
theorem dX1_require_0 : decode cX1_require 0 = .ok (.iload_n 2, 1) := by decide +kernel
theorem dX1_require_1 : decode cX1_require 1 = .ok (.ifCond .le 19, 3) := by decide +kernel
theorem dX1_require_4 : decode cX1_require 4 = .ok (.aload_n 0, 1) := by decide +kernel
theorem dX1_require_5 : decode cX1_require 5 = .ok (.aload_n 0, 1) := by decide +kernel
theorem dX1_require_6 : decode cX1_require 6 = .ok (.getfield 7, 3) := by decide +kernel
theorem dX1_require_9 : decode cX1_require 9 = .ok (.iload_n 1, 1) := by decide +kernel
theorem dX1_require_10 : decode cX1_require 10 = .ok (.ineg, 1) := by decide +kernel
theorem dX1_require_11 : decode cX1_require 11 = .ok (.invokestatic 16, 3) := by decide +kernel
theorem dX1_require_14 : decode cX1_require 14 = .ok (.putfield 7, 3) := by decide +kernel
theorem dX1_require_17 : decode cX1_require 17 = .ok (.goto 15, 3) := by decide +kernel
theorem dX1_require_20 : decode cX1_require 20 = .ok (.aload_n 0, 1) := by decide +kernel
theorem dX1_require_21 : decode cX1_require 21 = .ok (.aload_n 0, 1) := by decide +kernel
theorem dX1_require_22 : decode cX1_require 22 = .ok (.getfield 13, 3) := by decide +kernel
theorem dX1_require_25 : decode cX1_require 25 = .ok (.iload_n 1, 1) := by decide +kernel
theorem dX1_require_26 : decode cX1_require 26 = .ok (.invokestatic 22, 3) := by decide +kernel
theorem dX1_require_29 : decode cX1_require 29 = .ok (.putfield 13, 3) := by decide +kernel
theorem dX1_require_32 : decode cX1_require 32 = .ok (.return_, 1) := by decide +kernel
theorem dX1_size_0 : decode cX1_size 0 = .ok (.iconst 0, 1) := by decide +kernel
theorem dX1_size_1 : decode cX1_size 1 = .ok (.aload_n 0, 1) := by decide +kernel
theorem dX1_size_2 : decode cX1_size 2 = .ok (.getfield 13, 3) := by decide +kernel
theorem dX1_size_5 : decode cX1_size 5 = .ok (.aload_n 0, 1) := by decide +kernel
theorem dX1_size_6 : decode cX1_size 6 = .ok (.getfield 7, 3) := by decide +kernel
theorem dX1_size_9 : decode cX1_size 9 = .ok (.isub, 1) := by decide +kernel
theorem dX1_size_10 : decode cX1_size 10 = .ok (.iconst 1, 1) := by decide +kernel
theorem dX1_size_11 : decode cX1_size 11 = .ok (.iadd, 1) := by decide +kernel
theorem dX1_size_12 : decode cX1_size 12 = .ok (.invokestatic 16, 3) := by decide +kernel
theorem dX1_size_15 : decode cX1_size 15 = .ok (.ireturn, 1) := by decide +kernel
theorem dX2_init_0 : decode cX2_init 0 = .ok (.aload_n 0, 1) := by decide +kernel
theorem dX2_init_1 : decode cX2_init 1 = .ok (.invokespecial 3, 3) := by decide +kernel
theorem dX2_init_4 : decode cX2_init 4 = .ok (.aload_n 0, 1) := by decide +kernel
theorem dX2_init_5 : decode cX2_init 5 = .ok (.bipush 32, 2) := by decide +kernel
theorem dX2_init_7 : decode cX2_init 7 = .ok (.newarray .int, 2) := by decide +kernel
theorem dX2_init_9 : decode cX2_init 9 = .ok (.putfield 9, 3) := by decide +kernel
theorem dX2_init_12 : decode cX2_init 12 = .ok (.aload_n 0, 1) := by decide +kernel
theorem dX2_init_13 : decode cX2_init 13 = .ok (.iconst 0, 1) := by decide +kernel
theorem dX2_init_14 : decode cX2_init 14 = .ok (.putfield 15, 3) := by decide +kernel
theorem dX2_init_17 : decode cX2_init 17 = .ok (.aload_n 0, 1) := by decide +kernel
theorem dX2_init_18 : decode cX2_init 18 = .ok (.lconst 0, 1) := by decide +kernel
theorem dX2_init_19 : decode cX2_init 19 = .ok (.putfield 19, 3) := by decide +kernel
theorem dX2_init_22 : decode cX2_init 22 = .ok (.aload_n 0, 1) := by decide +kernel
theorem dX2_init_23 : decode cX2_init 23 = .ok (.lconst 0, 1) := by decide +kernel
theorem dX2_init_24 : decode cX2_init 24 = .ok (.putfield 23, 3) := by decide +kernel
theorem dX2_init_27 : decode cX2_init 27 = .ok (.aload_n 0, 1) := by decide +kernel
theorem dX2_init_28 : decode cX2_init 28 = .ok (.lconst 0, 1) := by decide +kernel
theorem dX2_init_29 : decode cX2_init 29 = .ok (.putfield 26, 3) := by decide +kernel
theorem dX2_init_32 : decode cX2_init 32 = .ok (.return_, 1) := by decide +kernel
theorem dX2_search_0 : decode cX2_search 0 = .ok (.aload_n 0, 1) := by decide +kernel
theorem dX2_search_1 : decode cX2_search 1 = .ok (.iconst 0, 1) := by decide +kernel
theorem dX2_search_2 : decode cX2_search 2 = .ok (.putfield 15, 3) := by decide +kernel
theorem dX2_search_5 : decode cX2_search 5 = .ok (.iconst 0, 1) := by decide +kernel
theorem dX2_search_6 : decode cX2_search 6 = .ok (.istore_n 2, 1) := by decide +kernel
theorem dX2_search_7 : decode cX2_search 7 = .ok (.iload_n 2, 1) := by decide +kernel
theorem dX2_search_8 : decode cX2_search 8 = .ok (.aload_n 1, 1) := by decide +kernel
theorem dX2_search_9 : decode cX2_search 9 = .ok (.getfield 29, 3) := by decide +kernel
theorem dX2_search_12 : decode cX2_search 12 = .ok (.if_icmp .ge 57, 3) := by decide +kernel
theorem dX2_search_15 : decode cX2_search 15 = .ok (.aload_n 0, 1) := by decide +kernel
theorem dX2_search_16 : decode cX2_search 16 = .ok (.aload_n 1, 1) := by decide +kernel
theorem dX2_search_17 : decode cX2_search 17 = .ok (.getfield 34, 3) := by decide +kernel
theorem dX2_search_20 : decode cX2_search 20 = .ok (.iload_n 2, 1) := by decide +kernel
theorem dX2_search_21 : decode cX2_search 21 = .ok (.iaload, 1) := by decide +kernel
theorem dX2_search_22 : decode cX2_search 22 = .ok (.i2l, 1) := by decide +kernel
theorem dX2_search_23 : decode cX2_search 23 = .ok (.aload_n 1, 1) := by decide +kernel
theorem dX2_search_24 : decode cX2_search 24 = .ok (.getfield 36, 3) := by decide +kernel
theorem dX2_search_27 : decode cX2_search 27 = .ok (.iload_n 2, 1) := by decide +kernel
theorem dX2_search_28 : decode cX2_search 28 = .ok (.iaload, 1) := by decide +kernel
theorem dX2_search_29 : decode cX2_search 29 = .ok (.i2l, 1) := by decide +kernel
theorem dX2_search_30 : decode cX2_search 30 = .ok (.aload_n 1, 1) := by decide +kernel
theorem dX2_search_31 : decode cX2_search 31 = .ok (.getfield 38, 3) := by decide +kernel
theorem dX2_search_34 : decode cX2_search 34 = .ok (.iload_n 2, 1) := by decide +kernel
theorem dX2_search_35 : decode cX2_search 35 = .ok (.iaload, 1) := by decide +kernel
theorem dX2_search_36 : decode cX2_search 36 = .ok (.i2l, 1) := by decide +kernel
theorem dX2_search_37 : decode cX2_search 37 = .ok (.invokevirtual 40, 3) := by decide +kernel
theorem dX2_search_40 : decode cX2_search 40 = .ok (.ifCond .eq 23, 3) := by decide +kernel
theorem dX2_search_43 : decode cX2_search 43 = .ok (.aload_n 0, 1) := by decide +kernel
theorem dX2_search_44 : decode cX2_search 44 = .ok (.iload_n 2, 1) := by decide +kernel
theorem dX2_search_45 : decode cX2_search 45 = .ok (.iload_n 2, 1) := by decide +kernel
theorem dX2_search_46 : decode cX2_search 46 = .ok (.aload_n 1, 1) := by decide +kernel
theorem dX2_search_47 : decode cX2_search 47 = .ok (.getfield 29, 3) := by decide +kernel
theorem dX2_search_50 : decode cX2_search 50 = .ok (.iconst 1, 1) := by decide +kernel
theorem dX2_search_51 : decode cX2_search 51 = .ok (.isub, 1) := by decide +kernel
theorem dX2_search_52 : decode cX2_search 52 = .ok (.if_icmp .ne 7, 3) := by decide +kernel
theorem dX2_search_55 : decode cX2_search 55 = .ok (.iconst 1, 1) := by decide +kernel
theorem dX2_search_56 : decode cX2_search 56 = .ok (.goto 4, 3) := by decide +kernel
theorem dX2_search_59 : decode cX2_search 59 = .ok (.iconst 0, 1) := by decide +kernel
theorem dX2_search_60 : decode cX2_search 60 = .ok (.invokevirtual 44, 3) := by decide +kernel
theorem dX2_search_63 : decode cX2_search 63 = .ok (.iinc 2 1, 3) := by decide +kernel
theorem dX2_search_66 : decode cX2_search 66 = .ok (.goto (-59), 3) := by decide +kernel
theorem dX2_search_69 : decode cX2_search 69 = .ok (.return_, 1) := by decide +kernel
theorem dX2_take_0 : decode cX2_take 0 = .ok (.lload 5, 2) := by decide +kernel
theorem dX2_take_2 : decode cX2_take 2 = .ok (.lconst 0, 1) := by decide +kernel
theorem dX2_take_3 : decode cX2_take 3 = .ok (.lcmp, 1) := by decide +kernel
theorem dX2_take_4 : decode cX2_take 4 = .ok (.ifCond .eq 8, 3) := by decide +kernel
theorem dX2_take_7 : decode cX2_take 7 = .ok (.lload 5, 2) := by decide +kernel
theorem dX2_take_9 : decode cX2_take 9 = .ok (.goto 4, 3) := by decide +kernel
theorem dX2_take_12 : decode cX2_take 12 = .ok (.lload_n 3, 1) := by decide +kernel
theorem dX2_take_13 : decode cX2_take 13 = .ok (.lstore 7, 2) := by decide +kernel
theorem dX2_take_15 : decode cX2_take 15 = .ok (.lload 7, 2) := by decide +kernel
theorem dX2_take_17 : decode cX2_take 17 = .ok (.lconst 0, 1) := by decide +kernel
theorem dX2_take_18 : decode cX2_take 18 = .ok (.lcmp, 1) := by decide +kernel
theorem dX2_take_19 : decode cX2_take 19 = .ok (.ifCond .ge 7, 3) := by decide +kernel
theorem dX2_take_22 : decode cX2_take 22 = .ok (.iconst (-1), 1) := by decide +kernel
theorem dX2_take_23 : decode cX2_take 23 = .ok (.goto 4, 3) := by decide +kernel
theorem dX2_take_26 : decode cX2_take 26 = .ok (.iconst 1, 1) := by decide +kernel
theorem dX2_take_27 : decode cX2_take 27 = .ok (.istore 9, 2) := by decide +kernel
theorem dX2_take_29 : decode cX2_take 29 = .ok (.aload_n 0, 1) := by decide +kernel
theorem dX2_take_30 : decode cX2_take 30 = .ok (.iload 9, 2) := by decide +kernel
theorem dX2_take_32 : decode cX2_take 32 = .ok (.i2l, 1) := by decide +kernel
theorem dX2_take_33 : decode cX2_take 33 = .ok (.lload_n 1, 1) := by decide +kernel
theorem dX2_take_34 : decode cX2_take 34 = .ok (.lmul, 1) := by decide +kernel
theorem dX2_take_35 : decode cX2_take 35 = .ok (.ldc2_w 48, 3) := by decide +kernel
theorem dX2_take_38 : decode cX2_take 38 = .ok (.lmul, 1) := by decide +kernel
theorem dX2_take_39 : decode cX2_take 39 = .ok (.ldc2_w 48, 3) := by decide +kernel
theorem dX2_take_42 : decode cX2_take 42 = .ok (.lmul, 1) := by decide +kernel
theorem dX2_take_43 : decode cX2_take 43 = .ok (.putfield 19, 3) := by decide +kernel
theorem dX2_take_46 : decode cX2_take 46 = .ok (.aload_n 0, 1) := by decide +kernel
theorem dX2_take_47 : decode cX2_take 47 = .ok (.iload 9, 2) := by decide +kernel
theorem dX2_take_49 : decode cX2_take 49 = .ok (.i2l, 1) := by decide +kernel
theorem dX2_take_50 : decode cX2_take 50 = .ok (.lload_n 3, 1) := by decide +kernel
theorem dX2_take_51 : decode cX2_take 51 = .ok (.lmul, 1) := by decide +kernel
theorem dX2_take_52 : decode cX2_take 52 = .ok (.ldc2_w 48, 3) := by decide +kernel
theorem dX2_take_55 : decode cX2_take 55 = .ok (.lmul, 1) := by decide +kernel
theorem dX2_take_56 : decode cX2_take 56 = .ok (.putfield 23, 3) := by decide +kernel
theorem dX2_take_59 : decode cX2_take 59 = .ok (.aload_n 0, 1) := by decide +kernel
theorem dX2_take_60 : decode cX2_take 60 = .ok (.iload 9, 2) := by decide +kernel
theorem dX2_take_62 : decode cX2_take 62 = .ok (.i2l, 1) := by decide +kernel
theorem dX2_take_63 : decode cX2_take 63 = .ok (.lload 5, 2) := by decide +kernel
theorem dX2_take_65 : decode cX2_take 65 = .ok (.lmul, 1) := by decide +kernel
theorem dX2_take_66 : decode cX2_take 66 = .ok (.putfield 26, 3) := by decide +kernel
theorem dX2_take_69 : decode cX2_take 69 = .ok (.lload 7, 2) := by decide +kernel
theorem dX2_take_71 : decode cX2_take 71 = .ok (.lconst 0, 1) := by decide +kernel
theorem dX2_take_72 : decode cX2_take 72 = .ok (.lcmp, 1) := by decide +kernel
theorem dX2_take_73 : decode cX2_take 73 = .ok (.ifCond .eq 16, 3) := by decide +kernel
theorem dX2_take_76 : decode cX2_take 76 = .ok (.aload_n 0, 1) := by decide +kernel
theorem dX2_take_77 : decode cX2_take 77 = .ok (.invokevirtual 50, 3) := by decide +kernel
theorem dX2_take_80 : decode cX2_take 80 = .ok (.lconst 0, 1) := by decide +kernel
theorem dX2_take_81 : decode cX2_take 81 = .ok (.lcmp, 1) := by decide +kernel
theorem dX2_take_82 : decode cX2_take 82 = .ok (.ifCond .lt 7, 3) := by decide +kernel
theorem dX2_take_85 : decode cX2_take 85 = .ok (.iconst 1, 1) := by decide +kernel
theorem dX2_take_86 : decode cX2_take 86 = .ok (.goto 4, 3) := by decide +kernel
theorem dX2_take_89 : decode cX2_take 89 = .ok (.iconst 0, 1) := by decide +kernel
theorem dX2_take_90 : decode cX2_take 90 = .ok (.ireturn, 1) := by decide +kernel
theorem dX2_discriminant_0 : decode cX2_discriminant 0 = .ok (.aload_n 0, 1) := by decide +kernel
theorem dX2_discriminant_1 : decode cX2_discriminant 1 = .ok (.getfield 23, 3) := by decide +kernel
theorem dX2_discriminant_4 : decode cX2_discriminant 4 = .ok (.aload_n 0, 1) := by decide +kernel
theorem dX2_discriminant_5 : decode cX2_discriminant 5 = .ok (.getfield 23, 3) := by decide +kernel
theorem dX2_discriminant_8 : decode cX2_discriminant 8 = .ok (.lmul, 1) := by decide +kernel
theorem dX2_discriminant_9 : decode cX2_discriminant 9 = .ok (.ldc2_w 54, 3) := by decide +kernel
theorem dX2_discriminant_12 : decode cX2_discriminant 12 = .ok (.aload_n 0, 1) := by decide +kernel
theorem dX2_discriminant_13 : decode cX2_discriminant 13 = .ok (.getfield 19, 3) := by decide +kernel
theorem dX2_discriminant_16 : decode cX2_discriminant 16 = .ok (.lmul, 1) := by decide +kernel
theorem dX2_discriminant_17 : decode cX2_discriminant 17 = .ok (.aload_n 0, 1) := by decide +kernel
theorem dX2_discriminant_18 : decode cX2_discriminant 18 = .ok (.getfield 26, 3) := by decide +kernel
theorem dX2_discriminant_21 : decode cX2_discriminant 21 = .ok (.lmul, 1) := by decide +kernel
theorem dX2_discriminant_22 : decode cX2_discriminant 22 = .ok (.lsub, 1) := by decide +kernel
theorem dX2_discriminant_23 : decode cX2_discriminant 23 = .ok (.lreturn, 1) := by decide +kernel
theorem dX2_searchPiece_0 : decode cX2_searchPiece 0 = .ok (.aload_n 0, 1) := by decide +kernel
theorem dX2_searchPiece_1 : decode cX2_searchPiece 1 = .ok (.getfield 26, 3) := by decide +kernel
theorem dX2_searchPiece_4 : decode cX2_searchPiece 4 = .ok (.lconst 0, 1) := by decide +kernel
theorem dX2_searchPiece_5 : decode cX2_searchPiece 5 = .ok (.lcmp, 1) := by decide +kernel
theorem dX2_searchPiece_6 : decode cX2_searchPiece 6 = .ok (.ifCond .le 19, 3) := by decide +kernel
theorem dX2_searchPiece_9 : decode cX2_searchPiece 9 = .ok (.aload_n 0, 1) := by decide +kernel
theorem dX2_searchPiece_10 : decode cX2_searchPiece 10 = .ok (.invokevirtual 50, 3) := by decide +kernel
theorem dX2_searchPiece_13 : decode cX2_searchPiece 13 = .ok (.lconst 0, 1) := by decide +kernel
theorem dX2_searchPiece_14 : decode cX2_searchPiece 14 = .ok (.lcmp, 1) := by decide +kernel
theorem dX2_searchPiece_15 : decode cX2_searchPiece 15 = .ok (.ifCond .le 10, 3) := by decide +kernel
theorem dX2_searchPiece_18 : decode cX2_searchPiece 18 = .ok (.aload_n 0, 1) := by decide +kernel
theorem dX2_searchPiece_19 : decode cX2_searchPiece 19 = .ok (.iload_n 1, 1) := by decide +kernel
theorem dX2_searchPiece_20 : decode cX2_searchPiece 20 = .ok (.iload_n 2, 1) := by decide +kernel
theorem dX2_searchPiece_21 : decode cX2_searchPiece 21 = .ok (.iconst 1, 1) := by decide +kernel
theorem dX2_searchPiece_22 : decode cX2_searchPiece 22 = .ok (.invokevirtual 56, 3) := by decide +kernel
theorem dX2_searchPiece_25 : decode cX2_searchPiece 25 = .ok (.aload_n 0, 1) := by decide +kernel
theorem dX2_searchPiece_26 : decode cX2_searchPiece 26 = .ok (.iload_n 1, 1) := by decide +kernel
theorem dX2_searchPiece_27 : decode cX2_searchPiece 27 = .ok (.iload_n 2, 1) := by decide +kernel
theorem dX2_searchPiece_28 : decode cX2_searchPiece 28 = .ok (.iconst 0, 1) := by decide +kernel
theorem dX2_searchPiece_29 : decode cX2_searchPiece 29 = .ok (.invokevirtual 56, 3) := by decide +kernel
theorem dX2_searchPiece_32 : decode cX2_searchPiece 32 = .ok (.return_, 1) := by decide +kernel
theorem dX2_keepRoot_0 : decode cX2_keepRoot 0 = .ok (.aload_n 0, 1) := by decide +kernel
theorem dX2_keepRoot_1 : decode cX2_keepRoot 1 = .ok (.lconst 0, 1) := by decide +kernel
theorem dX2_keepRoot_2 : decode cX2_keepRoot 2 = .ok (.iload_n 3, 1) := by decide +kernel
theorem dX2_keepRoot_3 : decode cX2_keepRoot 3 = .ok (.invokevirtual 60, 3) := by decide +kernel
theorem dX2_keepRoot_6 : decode cX2_keepRoot 6 = .ok (.ifCond .le 4, 3) := by decide +kernel
theorem dX2_keepRoot_9 : decode cX2_keepRoot 9 = .ok (.return_, 1) := by decide +kernel
theorem dX2_keepRoot_10 : decode cX2_keepRoot 10 = .ok (.aload_n 0, 1) := by decide +kernel
theorem dX2_keepRoot_11 : decode cX2_keepRoot 11 = .ok (.ldc2_w 48, 3) := by decide +kernel
theorem dX2_keepRoot_14 : decode cX2_keepRoot 14 = .ok (.iload_n 3, 1) := by decide +kernel
theorem dX2_keepRoot_15 : decode cX2_keepRoot 15 = .ok (.invokevirtual 60, 3) := by decide +kernel
theorem dX2_keepRoot_18 : decode cX2_keepRoot 18 = .ok (.istore 4, 2) := by decide +kernel
theorem dX2_keepRoot_20 : decode cX2_keepRoot 20 = .ok (.iload 4, 2) := by decide +kernel
theorem dX2_keepRoot_22 : decode cX2_keepRoot 22 = .ok (.ifCond .lt 24, 3) := by decide +kernel
theorem dX2_keepRoot_25 : decode cX2_keepRoot 25 = .ok (.iload 4, 2) := by decide +kernel
theorem dX2_keepRoot_27 : decode cX2_keepRoot 27 = .ok (.ifCond .ne 7, 3) := by decide +kernel
theorem dX2_keepRoot_30 : decode cX2_keepRoot 30 = .ok (.iload_n 2, 1) := by decide +kernel
theorem dX2_keepRoot_31 : decode cX2_keepRoot 31 = .ok (.ifCond .eq 15, 3) := by decide +kernel
theorem dX2_keepRoot_34 : decode cX2_keepRoot 34 = .ok (.aload_n 0, 1) := by decide +kernel
theorem dX2_keepRoot_35 : decode cX2_keepRoot 35 = .ok (.getfield 15, 3) := by decide +kernel
theorem dX2_keepRoot_38 : decode cX2_keepRoot 38 = .ok (.aload_n 0, 1) := by decide +kernel
theorem dX2_keepRoot_39 : decode cX2_keepRoot 39 = .ok (.getfield 9, 3) := by decide +kernel
theorem dX2_keepRoot_42 : decode cX2_keepRoot 42 = .ok (.arraylength, 1) := by decide +kernel
theorem dX2_keepRoot_43 : decode cX2_keepRoot 43 = .ok (.if_icmp .lt 4, 3) := by decide +kernel
theorem dX2_keepRoot_46 : decode cX2_keepRoot 46 = .ok (.return_, 1) := by decide +kernel
theorem dX2_keepRoot_47 : decode cX2_keepRoot 47 = .ok (.iload 4, 2) := by decide +kernel
theorem dX2_keepRoot_49 : decode cX2_keepRoot 49 = .ok (.ifCond .ne 8, 3) := by decide +kernel
theorem dX2_keepRoot_52 : decode cX2_keepRoot 52 = .ok (.bipush 64, 2) := by decide +kernel
theorem dX2_keepRoot_54 : decode cX2_keepRoot 54 = .ok (.goto 8, 3) := by decide +kernel
theorem dX2_keepRoot_57 : decode cX2_keepRoot 57 = .ok (.aload_n 0, 1) := by decide +kernel
theorem dX2_keepRoot_58 : decode cX2_keepRoot 58 = .ok (.iload_n 3, 1) := by decide +kernel
theorem dX2_keepRoot_59 : decode cX2_keepRoot 59 = .ok (.invokevirtual 64, 3) := by decide +kernel
theorem dX2_keepRoot_62 : decode cX2_keepRoot 62 = .ok (.istore 5, 2) := by decide +kernel
theorem dX2_keepRoot_64 : decode cX2_keepRoot 64 = .ok (.aload_n 0, 1) := by decide +kernel
theorem dX2_keepRoot_65 : decode cX2_keepRoot 65 = .ok (.getfield 9, 3) := by decide +kernel
theorem dX2_keepRoot_68 : decode cX2_keepRoot 68 = .ok (.aload_n 0, 1) := by decide +kernel
theorem dX2_keepRoot_69 : decode cX2_keepRoot 69 = .ok (.getfield 15, 3) := by decide +kernel
theorem dX2_keepRoot_72 : decode cX2_keepRoot 72 = .ok (.iload_n 1, 1) := by decide +kernel
theorem dX2_keepRoot_73 : decode cX2_keepRoot 73 = .ok (.bipush 64, 2) := by decide +kernel
theorem dX2_keepRoot_75 : decode cX2_keepRoot 75 = .ok (.imul, 1) := by decide +kernel
theorem dX2_keepRoot_76 : decode cX2_keepRoot 76 = .ok (.iload 5, 2) := by decide +kernel
theorem dX2_keepRoot_78 : decode cX2_keepRoot 78 = .ok (.iadd, 1) := by decide +kernel
theorem dX2_keepRoot_79 : decode cX2_keepRoot 79 = .ok (.iastore, 1) := by decide +kernel
theorem dX2_keepRoot_80 : decode cX2_keepRoot 80 = .ok (.aload_n 0, 1) := by decide +kernel
theorem dX2_keepRoot_81 : decode cX2_keepRoot 81 = .ok (.dup, 1) := by decide +kernel
theorem dX2_keepRoot_82 : decode cX2_keepRoot 82 = .ok (.getfield 15, 3) := by decide +kernel
theorem dX2_keepRoot_85 : decode cX2_keepRoot 85 = .ok (.iconst 1, 1) := by decide +kernel
theorem dX2_keepRoot_86 : decode cX2_keepRoot 86 = .ok (.iadd, 1) := by decide +kernel
theorem dX2_keepRoot_87 : decode cX2_keepRoot 87 = .ok (.putfield 15, 3) := by decide +kernel
theorem dX2_keepRoot_90 : decode cX2_keepRoot 90 = .ok (.return_, 1) := by decide +kernel
theorem dX2_boxInside_0 : decode cX2_boxInside 0 = .ok (.iconst 0, 1) := by decide +kernel
theorem dX2_boxInside_1 : decode cX2_boxInside 1 = .ok (.istore_n 2, 1) := by decide +kernel
theorem dX2_boxInside_2 : decode cX2_boxInside 2 = .ok (.bipush 32, 2) := by decide +kernel
theorem dX2_boxInside_4 : decode cX2_boxInside 4 = .ok (.istore_n 3, 1) := by decide +kernel
theorem dX2_boxInside_5 : decode cX2_boxInside 5 = .ok (.iload_n 3, 1) := by decide +kernel
theorem dX2_boxInside_6 : decode cX2_boxInside 6 = .ok (.ifCond .le 26, 3) := by decide +kernel
theorem dX2_boxInside_9 : decode cX2_boxInside 9 = .ok (.aload_n 0, 1) := by decide +kernel
theorem dX2_boxInside_10 : decode cX2_boxInside 10 = .ok (.iload_n 2, 1) := by decide +kernel
theorem dX2_boxInside_11 : decode cX2_boxInside 11 = .ok (.iload_n 3, 1) := by decide +kernel
theorem dX2_boxInside_12 : decode cX2_boxInside 12 = .ok (.iadd, 1) := by decide +kernel
theorem dX2_boxInside_13 : decode cX2_boxInside 13 = .ok (.i2l, 1) := by decide +kernel
theorem dX2_boxInside_14 : decode cX2_boxInside 14 = .ok (.iload_n 1, 1) := by decide +kernel
theorem dX2_boxInside_15 : decode cX2_boxInside 15 = .ok (.invokevirtual 60, 3) := by decide +kernel
theorem dX2_boxInside_18 : decode cX2_boxInside 18 = .ok (.ifCond .gt 7, 3) := by decide +kernel
theorem dX2_boxInside_21 : decode cX2_boxInside 21 = .ok (.iload_n 2, 1) := by decide +kernel
theorem dX2_boxInside_22 : decode cX2_boxInside 22 = .ok (.iload_n 3, 1) := by decide +kernel
theorem dX2_boxInside_23 : decode cX2_boxInside 23 = .ok (.iadd, 1) := by decide +kernel
theorem dX2_boxInside_24 : decode cX2_boxInside 24 = .ok (.istore_n 2, 1) := by decide +kernel
theorem dX2_boxInside_25 : decode cX2_boxInside 25 = .ok (.iload_n 3, 1) := by decide +kernel
theorem dX2_boxInside_26 : decode cX2_boxInside 26 = .ok (.iconst 2, 1) := by decide +kernel
theorem dX2_boxInside_27 : decode cX2_boxInside 27 = .ok (.idiv, 1) := by decide +kernel
theorem dX2_boxInside_28 : decode cX2_boxInside 28 = .ok (.istore_n 3, 1) := by decide +kernel
theorem dX2_boxInside_29 : decode cX2_boxInside 29 = .ok (.goto (-24), 3) := by decide +kernel
theorem dX2_boxInside_32 : decode cX2_boxInside 32 = .ok (.iload_n 2, 1) := by decide +kernel
theorem dX2_boxInside_33 : decode cX2_boxInside 33 = .ok (.ireturn, 1) := by decide +kernel
theorem dX2_sideOfRoot_0 : decode cX2_sideOfRoot 0 = .ok (.aload_n 0, 1) := by decide +kernel
theorem dX2_sideOfRoot_1 : decode cX2_sideOfRoot 1 = .ok (.getfield 26, 3) := by decide +kernel
theorem dX2_sideOfRoot_4 : decode cX2_sideOfRoot 4 = .ok (.lload_n 1, 1) := by decide +kernel
theorem dX2_sideOfRoot_5 : decode cX2_sideOfRoot 5 = .ok (.lmul, 1) := by decide +kernel
theorem dX2_sideOfRoot_6 : decode cX2_sideOfRoot 6 = .ok (.aload_n 0, 1) := by decide +kernel
theorem dX2_sideOfRoot_7 : decode cX2_sideOfRoot 7 = .ok (.getfield 23, 3) := by decide +kernel
theorem dX2_sideOfRoot_10 : decode cX2_sideOfRoot 10 = .ok (.ladd, 1) := by decide +kernel
theorem dX2_sideOfRoot_11 : decode cX2_sideOfRoot 11 = .ok (.lload_n 1, 1) := by decide +kernel
theorem dX2_sideOfRoot_12 : decode cX2_sideOfRoot 12 = .ok (.lmul, 1) := by decide +kernel
theorem dX2_sideOfRoot_13 : decode cX2_sideOfRoot 13 = .ok (.aload_n 0, 1) := by decide +kernel
theorem dX2_sideOfRoot_14 : decode cX2_sideOfRoot 14 = .ok (.getfield 19, 3) := by decide +kernel
theorem dX2_sideOfRoot_17 : decode cX2_sideOfRoot 17 = .ok (.ladd, 1) := by decide +kernel
theorem dX2_sideOfRoot_18 : decode cX2_sideOfRoot 18 = .ok (.lstore 4, 2) := by decide +kernel
theorem dX2_sideOfRoot_20 : decode cX2_sideOfRoot 20 = .ok (.ldc2_w 68, 3) := by decide +kernel
theorem dX2_sideOfRoot_23 : decode cX2_sideOfRoot 23 = .ok (.aload_n 0, 1) := by decide +kernel
theorem dX2_sideOfRoot_24 : decode cX2_sideOfRoot 24 = .ok (.getfield 26, 3) := by decide +kernel
theorem dX2_sideOfRoot_27 : decode cX2_sideOfRoot 27 = .ok (.lmul, 1) := by decide +kernel
theorem dX2_sideOfRoot_28 : decode cX2_sideOfRoot 28 = .ok (.lload_n 1, 1) := by decide +kernel
theorem dX2_sideOfRoot_29 : decode cX2_sideOfRoot 29 = .ok (.lmul, 1) := by decide +kernel
theorem dX2_sideOfRoot_30 : decode cX2_sideOfRoot 30 = .ok (.aload_n 0, 1) := by decide +kernel
theorem dX2_sideOfRoot_31 : decode cX2_sideOfRoot 31 = .ok (.getfield 23, 3) := by decide +kernel
theorem dX2_sideOfRoot_34 : decode cX2_sideOfRoot 34 = .ok (.ladd, 1) := by decide +kernel
theorem dX2_sideOfRoot_35 : decode cX2_sideOfRoot 35 = .ok (.lstore 6, 2) := by decide +kernel
theorem dX2_sideOfRoot_37 : decode cX2_sideOfRoot 37 = .ok (.iload_n 3, 1) := by decide +kernel
theorem dX2_sideOfRoot_38 : decode cX2_sideOfRoot 38 = .ok (.ifCond .eq 34, 3) := by decide +kernel
theorem dX2_sideOfRoot_41 : decode cX2_sideOfRoot 41 = .ok (.lload 4, 2) := by decide +kernel
theorem dX2_sideOfRoot_43 : decode cX2_sideOfRoot 43 = .ok (.lconst 0, 1) := by decide +kernel
theorem dX2_sideOfRoot_44 : decode cX2_sideOfRoot 44 = .ok (.lcmp, 1) := by decide +kernel
theorem dX2_sideOfRoot_45 : decode cX2_sideOfRoot 45 = .ok (.ifCond .lt 10, 3) := by decide +kernel
theorem dX2_sideOfRoot_48 : decode cX2_sideOfRoot 48 = .ok (.lload 6, 2) := by decide +kernel
theorem dX2_sideOfRoot_50 : decode cX2_sideOfRoot 50 = .ok (.lconst 0, 1) := by decide +kernel
theorem dX2_sideOfRoot_51 : decode cX2_sideOfRoot 51 = .ok (.lcmp, 1) := by decide +kernel
theorem dX2_sideOfRoot_52 : decode cX2_sideOfRoot 52 = .ok (.ifCond .le 7, 3) := by decide +kernel
theorem dX2_sideOfRoot_55 : decode cX2_sideOfRoot 55 = .ok (.iconst 1, 1) := by decide +kernel
theorem dX2_sideOfRoot_56 : decode cX2_sideOfRoot 56 = .ok (.goto 15, 3) := by decide +kernel
theorem dX2_sideOfRoot_59 : decode cX2_sideOfRoot 59 = .ok (.lload 4, 2) := by decide +kernel
theorem dX2_sideOfRoot_61 : decode cX2_sideOfRoot 61 = .ok (.lconst 0, 1) := by decide +kernel
theorem dX2_sideOfRoot_62 : decode cX2_sideOfRoot 62 = .ok (.lcmp, 1) := by decide +kernel
theorem dX2_sideOfRoot_63 : decode cX2_sideOfRoot 63 = .ok (.ifCond .ne 7, 3) := by decide +kernel
theorem dX2_sideOfRoot_66 : decode cX2_sideOfRoot 66 = .ok (.iconst 0, 1) := by decide +kernel
theorem dX2_sideOfRoot_67 : decode cX2_sideOfRoot 67 = .ok (.goto 4, 3) := by decide +kernel
theorem dX2_sideOfRoot_70 : decode cX2_sideOfRoot 70 = .ok (.iconst (-1), 1) := by decide +kernel
theorem dX2_sideOfRoot_71 : decode cX2_sideOfRoot 71 = .ok (.ireturn, 1) := by decide +kernel
theorem dX2_sideOfRoot_72 : decode cX2_sideOfRoot 72 = .ok (.lload 4, 2) := by decide +kernel
theorem dX2_sideOfRoot_74 : decode cX2_sideOfRoot 74 = .ok (.lconst 0, 1) := by decide +kernel
theorem dX2_sideOfRoot_75 : decode cX2_sideOfRoot 75 = .ok (.lcmp, 1) := by decide +kernel
theorem dX2_sideOfRoot_76 : decode cX2_sideOfRoot 76 = .ok (.ifCond .lt 10, 3) := by decide +kernel
theorem dX2_sideOfRoot_79 : decode cX2_sideOfRoot 79 = .ok (.lload 6, 2) := by decide +kernel
theorem dX2_sideOfRoot_81 : decode cX2_sideOfRoot 81 = .ok (.lconst 0, 1) := by decide +kernel
theorem dX2_sideOfRoot_82 : decode cX2_sideOfRoot 82 = .ok (.lcmp, 1) := by decide +kernel
theorem dX2_sideOfRoot_83 : decode cX2_sideOfRoot 83 = .ok (.ifCond .ge 7, 3) := by decide +kernel
theorem dX2_sideOfRoot_86 : decode cX2_sideOfRoot 86 = .ok (.iconst (-1), 1) := by decide +kernel
theorem dX2_sideOfRoot_87 : decode cX2_sideOfRoot 87 = .ok (.goto 15, 3) := by decide +kernel
theorem dX2_sideOfRoot_90 : decode cX2_sideOfRoot 90 = .ok (.lload 4, 2) := by decide +kernel
theorem dX2_sideOfRoot_92 : decode cX2_sideOfRoot 92 = .ok (.lconst 0, 1) := by decide +kernel
theorem dX2_sideOfRoot_93 : decode cX2_sideOfRoot 93 = .ok (.lcmp, 1) := by decide +kernel
theorem dX2_sideOfRoot_94 : decode cX2_sideOfRoot 94 = .ok (.ifCond .ne 7, 3) := by decide +kernel
theorem dX2_sideOfRoot_97 : decode cX2_sideOfRoot 97 = .ok (.iconst 0, 1) := by decide +kernel
theorem dX2_sideOfRoot_98 : decode cX2_sideOfRoot 98 = .ok (.goto 4, 3) := by decide +kernel
theorem dX2_sideOfRoot_101 : decode cX2_sideOfRoot 101 = .ok (.iconst 1, 1) := by decide +kernel
theorem dX2_sideOfRoot_102 : decode cX2_sideOfRoot 102 = .ok (.ireturn, 1) := by decide +kernel
theorem dJ9_floorDiv_7cf53_0 : decode cJ9_floorDiv_7cf53 0 = .ok (.iload_n 0, 1) := by decide +kernel
theorem dJ9_floorDiv_7cf53_1 : decode cJ9_floorDiv_7cf53 1 = .ok (.iload_n 1, 1) := by decide +kernel
theorem dJ9_floorDiv_7cf53_2 : decode cJ9_floorDiv_7cf53 2 = .ok (.idiv, 1) := by decide +kernel
theorem dJ9_floorDiv_7cf53_3 : decode cJ9_floorDiv_7cf53 3 = .ok (.istore_n 2, 1) := by decide +kernel
theorem dJ9_floorDiv_7cf53_4 : decode cJ9_floorDiv_7cf53 4 = .ok (.iload_n 0, 1) := by decide +kernel
theorem dJ9_floorDiv_7cf53_5 : decode cJ9_floorDiv_7cf53 5 = .ok (.iload_n 1, 1) := by decide +kernel
theorem dJ9_floorDiv_7cf53_6 : decode cJ9_floorDiv_7cf53 6 = .ok (.ixor, 1) := by decide +kernel
theorem dJ9_floorDiv_7cf53_7 : decode cJ9_floorDiv_7cf53 7 = .ok (.ifCond .ge 14, 3) := by decide +kernel
theorem dJ9_floorDiv_7cf53_10 : decode cJ9_floorDiv_7cf53 10 = .ok (.iload_n 2, 1) := by decide +kernel
theorem dJ9_floorDiv_7cf53_11 : decode cJ9_floorDiv_7cf53 11 = .ok (.iload_n 1, 1) := by decide +kernel
theorem dJ9_floorDiv_7cf53_12 : decode cJ9_floorDiv_7cf53 12 = .ok (.imul, 1) := by decide +kernel
theorem dJ9_floorDiv_7cf53_13 : decode cJ9_floorDiv_7cf53 13 = .ok (.iload_n 0, 1) := by decide +kernel
theorem dJ9_floorDiv_7cf53_14 : decode cJ9_floorDiv_7cf53 14 = .ok (.if_icmp .eq 7, 3) := by decide +kernel
theorem dJ9_floorDiv_7cf53_17 : decode cJ9_floorDiv_7cf53 17 = .ok (.iload_n 2, 1) := by decide +kernel
theorem dJ9_floorDiv_7cf53_18 : decode cJ9_floorDiv_7cf53 18 = .ok (.iconst 1, 1) := by decide +kernel
theorem dJ9_floorDiv_7cf53_19 : decode cJ9_floorDiv_7cf53 19 = .ok (.isub, 1) := by decide +kernel
theorem dJ9_floorDiv_7cf53_20 : decode cJ9_floorDiv_7cf53 20 = .ok (.ireturn, 1) := by decide +kernel
theorem dJ9_floorDiv_7cf53_21 : decode cJ9_floorDiv_7cf53 21 = .ok (.iload_n 2, 1) := by decide +kernel
theorem dJ9_floorDiv_7cf53_22 : decode cJ9_floorDiv_7cf53 22 = .ok (.ireturn, 1) := by decide +kernel
theorem dJ9_floorDiv_f86c9_0 : decode cJ9_floorDiv_f86c9 0 = .ok (.lload_n 0, 1) := by decide +kernel
theorem dJ9_floorDiv_f86c9_1 : decode cJ9_floorDiv_f86c9 1 = .ok (.lload_n 2, 1) := by decide +kernel
theorem dJ9_floorDiv_f86c9_2 : decode cJ9_floorDiv_f86c9 2 = .ok (.ldiv, 1) := by decide +kernel
theorem dJ9_floorDiv_f86c9_3 : decode cJ9_floorDiv_f86c9 3 = .ok (.lstore 4, 2) := by decide +kernel
theorem dJ9_floorDiv_f86c9_5 : decode cJ9_floorDiv_f86c9 5 = .ok (.lload_n 0, 1) := by decide +kernel
theorem dJ9_floorDiv_f86c9_6 : decode cJ9_floorDiv_f86c9 6 = .ok (.lload_n 2, 1) := by decide +kernel
theorem dJ9_floorDiv_f86c9_7 : decode cJ9_floorDiv_f86c9 7 = .ok (.lxor, 1) := by decide +kernel
theorem dJ9_floorDiv_f86c9_8 : decode cJ9_floorDiv_f86c9 8 = .ok (.lconst 0, 1) := by decide +kernel
theorem dJ9_floorDiv_f86c9_9 : decode cJ9_floorDiv_f86c9 9 = .ok (.lcmp, 1) := by decide +kernel
theorem dJ9_floorDiv_f86c9_10 : decode cJ9_floorDiv_f86c9 10 = .ok (.ifCond .ge 17, 3) := by decide +kernel
theorem dJ9_floorDiv_f86c9_13 : decode cJ9_floorDiv_f86c9 13 = .ok (.lload 4, 2) := by decide +kernel
theorem dJ9_floorDiv_f86c9_15 : decode cJ9_floorDiv_f86c9 15 = .ok (.lload_n 2, 1) := by decide +kernel
theorem dJ9_floorDiv_f86c9_16 : decode cJ9_floorDiv_f86c9 16 = .ok (.lmul, 1) := by decide +kernel
theorem dJ9_floorDiv_f86c9_17 : decode cJ9_floorDiv_f86c9 17 = .ok (.lload_n 0, 1) := by decide +kernel
theorem dJ9_floorDiv_f86c9_18 : decode cJ9_floorDiv_f86c9 18 = .ok (.lcmp, 1) := by decide +kernel
theorem dJ9_floorDiv_f86c9_19 : decode cJ9_floorDiv_f86c9 19 = .ok (.ifCond .eq 8, 3) := by decide +kernel
theorem dJ9_floorDiv_f86c9_22 : decode cJ9_floorDiv_f86c9 22 = .ok (.lload 4, 2) := by decide +kernel
theorem dJ9_floorDiv_f86c9_24 : decode cJ9_floorDiv_f86c9 24 = .ok (.lconst 1, 1) := by decide +kernel
theorem dJ9_floorDiv_f86c9_25 : decode cJ9_floorDiv_f86c9 25 = .ok (.lsub, 1) := by decide +kernel
theorem dJ9_floorDiv_f86c9_26 : decode cJ9_floorDiv_f86c9 26 = .ok (.lreturn, 1) := by decide +kernel
theorem dJ9_floorDiv_f86c9_27 : decode cJ9_floorDiv_f86c9 27 = .ok (.lload 4, 2) := by decide +kernel
theorem dJ9_floorDiv_f86c9_29 : decode cJ9_floorDiv_f86c9 29 = .ok (.lreturn, 1) := by decide +kernel
theorem dJ9_abs_067f4_0 : decode cJ9_abs_067f4 0 = .ok (.lload_n 0, 1) := by decide +kernel
theorem dJ9_abs_067f4_1 : decode cJ9_abs_067f4 1 = .ok (.lconst 0, 1) := by decide +kernel
theorem dJ9_abs_067f4_2 : decode cJ9_abs_067f4 2 = .ok (.lcmp, 1) := by decide +kernel
theorem dJ9_abs_067f4_3 : decode cJ9_abs_067f4 3 = .ok (.ifCond .ge 8, 3) := by decide +kernel
theorem dJ9_abs_067f4_6 : decode cJ9_abs_067f4 6 = .ok (.lload_n 0, 1) := by decide +kernel
theorem dJ9_abs_067f4_7 : decode cJ9_abs_067f4 7 = .ok (.lneg, 1) := by decide +kernel
theorem dJ9_abs_067f4_8 : decode cJ9_abs_067f4 8 = .ok (.goto 4, 3) := by decide +kernel
theorem dJ9_abs_067f4_11 : decode cJ9_abs_067f4 11 = .ok (.lload_n 0, 1) := by decide +kernel
theorem dJ9_abs_067f4_12 : decode cJ9_abs_067f4 12 = .ok (.lreturn, 1) := by decide +kernel
theorem dJ9_max_7cf53_0 : decode cJ9_max_7cf53 0 = .ok (.iload_n 0, 1) := by decide +kernel
theorem dJ9_max_7cf53_1 : decode cJ9_max_7cf53 1 = .ok (.iload_n 1, 1) := by decide +kernel
theorem dJ9_max_7cf53_2 : decode cJ9_max_7cf53 2 = .ok (.if_icmp .lt 7, 3) := by decide +kernel
theorem dJ9_max_7cf53_5 : decode cJ9_max_7cf53 5 = .ok (.iload_n 0, 1) := by decide +kernel
theorem dJ9_max_7cf53_6 : decode cJ9_max_7cf53 6 = .ok (.goto 4, 3) := by decide +kernel
theorem dJ9_max_7cf53_9 : decode cJ9_max_7cf53 9 = .ok (.iload_n 1, 1) := by decide +kernel
theorem dJ9_max_7cf53_10 : decode cJ9_max_7cf53 10 = .ok (.ireturn, 1) := by decide +kernel
theorem dJ9_max_f86c9_0 : decode cJ9_max_f86c9 0 = .ok (.lload_n 0, 1) := by decide +kernel
theorem dJ9_max_f86c9_1 : decode cJ9_max_f86c9 1 = .ok (.lload_n 2, 1) := by decide +kernel
theorem dJ9_max_f86c9_2 : decode cJ9_max_f86c9 2 = .ok (.lcmp, 1) := by decide +kernel
theorem dJ9_max_f86c9_3 : decode cJ9_max_f86c9 3 = .ok (.ifCond .lt 7, 3) := by decide +kernel
theorem dJ9_max_f86c9_6 : decode cJ9_max_f86c9 6 = .ok (.lload_n 0, 1) := by decide +kernel
theorem dJ9_max_f86c9_7 : decode cJ9_max_f86c9 7 = .ok (.goto 4, 3) := by decide +kernel
theorem dJ9_max_f86c9_10 : decode cJ9_max_f86c9 10 = .ok (.lload_n 2, 1) := by decide +kernel
theorem dJ9_max_f86c9_11 : decode cJ9_max_f86c9 11 = .ok (.lreturn, 1) := by decide +kernel
theorem dJ9_min_7cf53_0 : decode cJ9_min_7cf53 0 = .ok (.iload_n 0, 1) := by decide +kernel
theorem dJ9_min_7cf53_1 : decode cJ9_min_7cf53 1 = .ok (.iload_n 1, 1) := by decide +kernel
theorem dJ9_min_7cf53_2 : decode cJ9_min_7cf53 2 = .ok (.if_icmp .gt 7, 3) := by decide +kernel
theorem dJ9_min_7cf53_5 : decode cJ9_min_7cf53 5 = .ok (.iload_n 0, 1) := by decide +kernel
theorem dJ9_min_7cf53_6 : decode cJ9_min_7cf53 6 = .ok (.goto 4, 3) := by decide +kernel
theorem dJ9_min_7cf53_9 : decode cJ9_min_7cf53 9 = .ok (.iload_n 1, 1) := by decide +kernel
theorem dJ9_min_7cf53_10 : decode cJ9_min_7cf53 10 = .ok (.ireturn, 1) := by decide +kernel
