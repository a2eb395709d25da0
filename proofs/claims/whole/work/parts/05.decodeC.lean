theorem dX4_init_0 : decode cX4_init 0 = .ok (.aload_n 0, 1) := by decide +kernel
theorem dX4_init_1 : decode cX4_init 1 = .ok (.invokespecial 1, 3) := by decide +kernel
theorem dX4_init_4 : decode cX4_init 4 = .ok (.aload_n 0, 1) := by decide +kernel
theorem dX4_init_5 : decode cX4_init 5 = .ok (.bipush 6, 2) := by decide +kernel
theorem dX4_init_7 : decode cX4_init 7 = .ok (.newarray .int, 2) := by decide +kernel
theorem dX4_init_9 : decode cX4_init 9 = .ok (.putfield 7, 3) := by decide +kernel
theorem dX4_init_12 : decode cX4_init 12 = .ok (.aload_n 0, 1) := by decide +kernel
theorem dX4_init_13 : decode cX4_init 13 = .ok (.bipush 96, 2) := by decide +kernel
theorem dX4_init_15 : decode cX4_init 15 = .ok (.newarray .int, 2) := by decide +kernel
theorem dX4_init_17 : decode cX4_init 17 = .ok (.putfield 13, 3) := by decide +kernel
theorem dX4_init_20 : decode cX4_init 20 = .ok (.aload_n 0, 1) := by decide +kernel
theorem dX4_init_21 : decode cX4_init 21 = .ok (.bipush 96, 2) := by decide +kernel
theorem dX4_init_23 : decode cX4_init 23 = .ok (.newarray .int, 2) := by decide +kernel
theorem dX4_init_25 : decode cX4_init 25 = .ok (.putfield 16, 3) := by decide +kernel
theorem dX4_init_28 : decode cX4_init 28 = .ok (.aload_n 0, 1) := by decide +kernel
theorem dX4_init_29 : decode cX4_init 29 = .ok (.bipush 96, 2) := by decide +kernel
theorem dX4_init_31 : decode cX4_init 31 = .ok (.newarray .int, 2) := by decide +kernel
theorem dX4_init_33 : decode cX4_init 33 = .ok (.putfield 19, 3) := by decide +kernel
theorem dX4_init_36 : decode cX4_init 36 = .ok (.aload_n 0, 1) := by decide +kernel
theorem dX4_init_37 : decode cX4_init 37 = .ok (.bipush 17, 2) := by decide +kernel
theorem dX4_init_39 : decode cX4_init 39 = .ok (.newarray .int, 2) := by decide +kernel
theorem dX4_init_41 : decode cX4_init 41 = .ok (.putfield 22, 3) := by decide +kernel
theorem dX4_init_44 : decode cX4_init 44 = .ok (.aload_n 0, 1) := by decide +kernel
theorem dX4_init_45 : decode cX4_init 45 = .ok (.bipush 16, 2) := by decide +kernel
theorem dX4_init_47 : decode cX4_init 47 = .ok (.newarray .long, 2) := by decide +kernel
theorem dX4_init_49 : decode cX4_init 49 = .ok (.putfield 25, 3) := by decide +kernel
theorem dX4_init_52 : decode cX4_init 52 = .ok (.aload_n 0, 1) := by decide +kernel
theorem dX4_init_53 : decode cX4_init 53 = .ok (.bipush 16, 2) := by decide +kernel
theorem dX4_init_55 : decode cX4_init 55 = .ok (.newarray .long, 2) := by decide +kernel
theorem dX4_init_57 : decode cX4_init 57 = .ok (.putfield 29, 3) := by decide +kernel
theorem dX4_init_60 : decode cX4_init 60 = .ok (.aload_n 0, 1) := by decide +kernel
theorem dX4_init_61 : decode cX4_init 61 = .ok (.bipush 16, 2) := by decide +kernel
theorem dX4_init_63 : decode cX4_init 63 = .ok (.newarray .long, 2) := by decide +kernel
theorem dX4_init_65 : decode cX4_init 65 = .ok (.putfield 32, 3) := by decide +kernel
theorem dX4_init_68 : decode cX4_init 68 = .ok (.aload_n 0, 1) := by decide +kernel
theorem dX4_init_69 : decode cX4_init 69 = .ok (.bipush 40, 2) := by decide +kernel
theorem dX4_init_71 : decode cX4_init 71 = .ok (.newarray .int, 2) := by decide +kernel
theorem dX4_init_73 : decode cX4_init 73 = .ok (.putfield 35, 3) := by decide +kernel
theorem dX4_init_76 : decode cX4_init 76 = .ok (.aload_n 0, 1) := by decide +kernel
theorem dX4_init_77 : decode cX4_init 77 = .ok (.bipush 17, 2) := by decide +kernel
theorem dX4_init_79 : decode cX4_init 79 = .ok (.newarray .int, 2) := by decide +kernel
theorem dX4_init_81 : decode cX4_init 81 = .ok (.putfield 38, 3) := by decide +kernel
theorem dX4_init_84 : decode cX4_init 84 = .ok (.iconst 0, 1) := by decide +kernel
theorem dX4_init_85 : decode cX4_init 85 = .ok (.istore_n 1, 1) := by decide +kernel
theorem dX4_init_86 : decode cX4_init 86 = .ok (.iload_n 1, 1) := by decide +kernel
theorem dX4_init_87 : decode cX4_init 87 = .ok (.bipush 6, 2) := by decide +kernel
theorem dX4_init_89 : decode cX4_init 89 = .ok (.if_icmp .ge 16, 3) := by decide +kernel
theorem dX4_init_92 : decode cX4_init 92 = .ok (.aload_n 0, 1) := by decide +kernel
theorem dX4_init_93 : decode cX4_init 93 = .ok (.getfield 7, 3) := by decide +kernel
theorem dX4_init_96 : decode cX4_init 96 = .ok (.iload_n 1, 1) := by decide +kernel
theorem dX4_init_97 : decode cX4_init 97 = .ok (.iconst 1, 1) := by decide +kernel
theorem dX4_init_98 : decode cX4_init 98 = .ok (.iastore, 1) := by decide +kernel
theorem dX4_init_99 : decode cX4_init 99 = .ok (.iinc 1 1, 3) := by decide +kernel
theorem dX4_init_102 : decode cX4_init 102 = .ok (.goto (-16), 3) := by decide +kernel
theorem dX4_init_105 : decode cX4_init 105 = .ok (.return_, 1) := by decide +kernel
theorem dX4_in_0 : decode cX4_in 0 = .ok (.lload_n 0, 1) := by decide +kernel
theorem dX4_in_1 : decode cX4_in 1 = .ok (.lload_n 2, 1) := by decide +kernel
theorem dX4_in_2 : decode cX4_in 2 = .ok (.lcmp, 1) := by decide +kernel
theorem dX4_in_3 : decode cX4_in 3 = .ok (.ifCond .lt 14, 3) := by decide +kernel
theorem dX4_in_6 : decode cX4_in 6 = .ok (.lload_n 0, 1) := by decide +kernel
theorem dX4_in_7 : decode cX4_in 7 = .ok (.lload 4, 2) := by decide +kernel
theorem dX4_in_9 : decode cX4_in 9 = .ok (.lcmp, 1) := by decide +kernel
theorem dX4_in_10 : decode cX4_in 10 = .ok (.ifCond .gt 7, 3) := by decide +kernel
theorem dX4_in_13 : decode cX4_in 13 = .ok (.iconst 1, 1) := by decide +kernel
theorem dX4_in_14 : decode cX4_in 14 = .ok (.goto 4, 3) := by decide +kernel
theorem dX4_in_17 : decode cX4_in 17 = .ok (.iconst 0, 1) := by decide +kernel
theorem dX4_in_18 : decode cX4_in 18 = .ok (.ireturn, 1) := by decide +kernel
theorem dX4_isPlace_0 : decode cX4_isPlace 0 = .ok (.iload_n 0, 1) := by decide +kernel
theorem dX4_isPlace_1 : decode cX4_isPlace 1 = .ok (.i2l, 1) := by decide +kernel
theorem dX4_isPlace_2 : decode cX4_isPlace 2 = .ok (.lconst 0, 1) := by decide +kernel
theorem dX4_isPlace_3 : decode cX4_isPlace 3 = .ok (.ldc2_w 41, 3) := by decide +kernel
theorem dX4_isPlace_6 : decode cX4_isPlace 6 = .ok (.invokestatic 43, 3) := by decide +kernel
theorem dX4_isPlace_9 : decode cX4_isPlace 9 = .ok (.ireturn, 1) := by decide +kernel
theorem dX4_isSmall_0 : decode cX4_isSmall 0 = .ok (.lload_n 0, 1) := by decide +kernel
theorem dX4_isSmall_1 : decode cX4_isSmall 1 = .ok (.ldc2_w 47, 3) := by decide +kernel
theorem dX4_isSmall_4 : decode cX4_isSmall 4 = .ok (.ldc2_w 49, 3) := by decide +kernel
theorem dX4_isSmall_7 : decode cX4_isSmall 7 = .ok (.invokestatic 43, 3) := by decide +kernel
theorem dX4_isSmall_10 : decode cX4_isSmall 10 = .ok (.ireturn, 1) := by decide +kernel
theorem dX4_pieces_0 : decode cX4_pieces 0 = .ok (.iload_n 1, 1) := by decide +kernel
theorem dX4_pieces_1 : decode cX4_pieces 1 = .ok (.invokestatic 51, 3) := by decide +kernel
theorem dX4_pieces_4 : decode cX4_pieces 4 = .ok (.ifCond .ne 6, 3) := by decide +kernel
theorem dX4_pieces_7 : decode cX4_pieces 7 = .ok (.bipush (-2), 2) := by decide +kernel
theorem dX4_pieces_9 : decode cX4_pieces 9 = .ok (.ireturn, 1) := by decide +kernel
theorem dX4_pieces_10 : decode cX4_pieces 10 = .ok (.iload_n 2, 1) := by decide +kernel
theorem dX4_pieces_11 : decode cX4_pieces 11 = .ok (.i2l, 1) := by decide +kernel
theorem dX4_pieces_12 : decode cX4_pieces 12 = .ok (.lconst 1, 1) := by decide +kernel
theorem dX4_pieces_13 : decode cX4_pieces 13 = .ok (.ldc2_w 55, 3) := by decide +kernel
theorem dX4_pieces_16 : decode cX4_pieces 16 = .ok (.invokestatic 43, 3) := by decide +kernel
theorem dX4_pieces_19 : decode cX4_pieces 19 = .ok (.ifCond .ne 6, 3) := by decide +kernel
theorem dX4_pieces_22 : decode cX4_pieces 22 = .ok (.bipush (-3), 2) := by decide +kernel
theorem dX4_pieces_24 : decode cX4_pieces 24 = .ok (.ireturn, 1) := by decide +kernel
theorem dX4_pieces_25 : decode cX4_pieces 25 = .ok (.aload_n 0, 1) := by decide +kernel
theorem dX4_pieces_26 : decode cX4_pieces 26 = .ok (.getfield 7, 3) := by decide +kernel
theorem dX4_pieces_29 : decode cX4_pieces 29 = .ok (.iload_n 1, 1) := by decide +kernel
theorem dX4_pieces_30 : decode cX4_pieces 30 = .ok (.iload_n 2, 1) := by decide +kernel
theorem dX4_pieces_31 : decode cX4_pieces 31 = .ok (.iastore, 1) := by decide +kernel
theorem dX4_pieces_32 : decode cX4_pieces 32 = .ok (.iconst 0, 1) := by decide +kernel
theorem dX4_pieces_33 : decode cX4_pieces 33 = .ok (.istore_n 3, 1) := by decide +kernel
theorem dX4_pieces_34 : decode cX4_pieces 34 = .ok (.iload_n 3, 1) := by decide +kernel
theorem dX4_pieces_35 : decode cX4_pieces 35 = .ok (.bipush 16, 2) := by decide +kernel
theorem dX4_pieces_37 : decode cX4_pieces 37 = .ok (.if_icmp .ge 45, 3) := by decide +kernel
theorem dX4_pieces_40 : decode cX4_pieces 40 = .ok (.aload_n 0, 1) := by decide +kernel
theorem dX4_pieces_41 : decode cX4_pieces 41 = .ok (.getfield 13, 3) := by decide +kernel
theorem dX4_pieces_44 : decode cX4_pieces 44 = .ok (.bipush 16, 2) := by decide +kernel
theorem dX4_pieces_46 : decode cX4_pieces 46 = .ok (.iload_n 1, 1) := by decide +kernel
theorem dX4_pieces_47 : decode cX4_pieces 47 = .ok (.imul, 1) := by decide +kernel
theorem dX4_pieces_48 : decode cX4_pieces 48 = .ok (.iload_n 3, 1) := by decide +kernel
theorem dX4_pieces_49 : decode cX4_pieces 49 = .ok (.iadd, 1) := by decide +kernel
theorem dX4_pieces_50 : decode cX4_pieces 50 = .ok (.iconst 0, 1) := by decide +kernel
theorem dX4_pieces_51 : decode cX4_pieces 51 = .ok (.iastore, 1) := by decide +kernel
theorem dX4_pieces_52 : decode cX4_pieces 52 = .ok (.aload_n 0, 1) := by decide +kernel
theorem dX4_pieces_53 : decode cX4_pieces 53 = .ok (.getfield 16, 3) := by decide +kernel
theorem dX4_pieces_56 : decode cX4_pieces 56 = .ok (.bipush 16, 2) := by decide +kernel
theorem dX4_pieces_58 : decode cX4_pieces 58 = .ok (.iload_n 1, 1) := by decide +kernel
theorem dX4_pieces_59 : decode cX4_pieces 59 = .ok (.imul, 1) := by decide +kernel
theorem dX4_pieces_60 : decode cX4_pieces 60 = .ok (.iload_n 3, 1) := by decide +kernel
theorem dX4_pieces_61 : decode cX4_pieces 61 = .ok (.iadd, 1) := by decide +kernel
theorem dX4_pieces_62 : decode cX4_pieces 62 = .ok (.iconst 0, 1) := by decide +kernel
theorem dX4_pieces_63 : decode cX4_pieces 63 = .ok (.iastore, 1) := by decide +kernel
theorem dX4_pieces_64 : decode cX4_pieces 64 = .ok (.aload_n 0, 1) := by decide +kernel
theorem dX4_pieces_65 : decode cX4_pieces 65 = .ok (.getfield 19, 3) := by decide +kernel
theorem dX4_pieces_68 : decode cX4_pieces 68 = .ok (.bipush 16, 2) := by decide +kernel
theorem dX4_pieces_70 : decode cX4_pieces 70 = .ok (.iload_n 1, 1) := by decide +kernel
theorem dX4_pieces_71 : decode cX4_pieces 71 = .ok (.imul, 1) := by decide +kernel
theorem dX4_pieces_72 : decode cX4_pieces 72 = .ok (.iload_n 3, 1) := by decide +kernel
theorem dX4_pieces_73 : decode cX4_pieces 73 = .ok (.iadd, 1) := by decide +kernel
theorem dX4_pieces_74 : decode cX4_pieces 74 = .ok (.iconst 0, 1) := by decide +kernel
theorem dX4_pieces_75 : decode cX4_pieces 75 = .ok (.iastore, 1) := by decide +kernel
theorem dX4_pieces_76 : decode cX4_pieces 76 = .ok (.iinc 3 1, 3) := by decide +kernel
theorem dX4_pieces_79 : decode cX4_pieces 79 = .ok (.goto (-45), 3) := by decide +kernel
theorem dX4_pieces_82 : decode cX4_pieces 82 = .ok (.iconst 1, 1) := by decide +kernel
theorem dX4_pieces_83 : decode cX4_pieces 83 = .ok (.ireturn, 1) := by decide +kernel
theorem dX4_piece_0 : decode cX4_piece 0 = .ok (.iload_n 1, 1) := by decide +kernel
theorem dX4_piece_1 : decode cX4_piece 1 = .ok (.invokestatic 51, 3) := by decide +kernel
theorem dX4_piece_4 : decode cX4_piece 4 = .ok (.ifCond .eq 21, 3) := by decide +kernel
theorem dX4_piece_7 : decode cX4_piece 7 = .ok (.iload_n 2, 1) := by decide +kernel
theorem dX4_piece_8 : decode cX4_piece 8 = .ok (.i2l, 1) := by decide +kernel
theorem dX4_piece_9 : decode cX4_piece 9 = .ok (.lconst 0, 1) := by decide +kernel
theorem dX4_piece_10 : decode cX4_piece 10 = .ok (.aload_n 0, 1) := by decide +kernel
theorem dX4_piece_11 : decode cX4_piece 11 = .ok (.getfield 7, 3) := by decide +kernel
theorem dX4_piece_14 : decode cX4_piece 14 = .ok (.iload_n 1, 1) := by decide +kernel
theorem dX4_piece_15 : decode cX4_piece 15 = .ok (.iaload, 1) := by decide +kernel
theorem dX4_piece_16 : decode cX4_piece 16 = .ok (.iconst 1, 1) := by decide +kernel
theorem dX4_piece_17 : decode cX4_piece 17 = .ok (.isub, 1) := by decide +kernel
theorem dX4_piece_18 : decode cX4_piece 18 = .ok (.i2l, 1) := by decide +kernel
theorem dX4_piece_19 : decode cX4_piece 19 = .ok (.invokestatic 43, 3) := by decide +kernel
theorem dX4_piece_22 : decode cX4_piece 22 = .ok (.ifCond .ne 6, 3) := by decide +kernel
theorem dX4_piece_25 : decode cX4_piece 25 = .ok (.bipush (-2), 2) := by decide +kernel
theorem dX4_piece_27 : decode cX4_piece 27 = .ok (.ireturn, 1) := by decide +kernel
theorem dX4_piece_28 : decode cX4_piece 28 = .ok (.iload_n 3, 1) := by decide +kernel
theorem dX4_piece_29 : decode cX4_piece 29 = .ok (.i2l, 1) := by decide +kernel
theorem dX4_piece_30 : decode cX4_piece 30 = .ok (.invokestatic 57, 3) := by decide +kernel
theorem dX4_piece_33 : decode cX4_piece 33 = .ok (.ifCond .eq 21, 3) := by decide +kernel
theorem dX4_piece_36 : decode cX4_piece 36 = .ok (.iload 4, 2) := by decide +kernel
theorem dX4_piece_38 : decode cX4_piece 38 = .ok (.i2l, 1) := by decide +kernel
theorem dX4_piece_39 : decode cX4_piece 39 = .ok (.invokestatic 57, 3) := by decide +kernel
theorem dX4_piece_42 : decode cX4_piece 42 = .ok (.ifCond .eq 12, 3) := by decide +kernel
theorem dX4_piece_45 : decode cX4_piece 45 = .ok (.iload 5, 2) := by decide +kernel
theorem dX4_piece_47 : decode cX4_piece 47 = .ok (.i2l, 1) := by decide +kernel
theorem dX4_piece_48 : decode cX4_piece 48 = .ok (.invokestatic 57, 3) := by decide +kernel
theorem dX4_piece_51 : decode cX4_piece 51 = .ok (.ifCond .ne 6, 3) := by decide +kernel
theorem dX4_piece_54 : decode cX4_piece 54 = .ok (.bipush (-5), 2) := by decide +kernel
theorem dX4_piece_56 : decode cX4_piece 56 = .ok (.ireturn, 1) := by decide +kernel
theorem dX4_piece_57 : decode cX4_piece 57 = .ok (.aload_n 0, 1) := by decide +kernel
theorem dX4_piece_58 : decode cX4_piece 58 = .ok (.getfield 13, 3) := by decide +kernel
theorem dX4_piece_61 : decode cX4_piece 61 = .ok (.bipush 16, 2) := by decide +kernel
theorem dX4_piece_63 : decode cX4_piece 63 = .ok (.iload_n 1, 1) := by decide +kernel
theorem dX4_piece_64 : decode cX4_piece 64 = .ok (.imul, 1) := by decide +kernel
theorem dX4_piece_65 : decode cX4_piece 65 = .ok (.iload_n 2, 1) := by decide +kernel
theorem dX4_piece_66 : decode cX4_piece 66 = .ok (.iadd, 1) := by decide +kernel
theorem dX4_piece_67 : decode cX4_piece 67 = .ok (.iload_n 3, 1) := by decide +kernel
theorem dX4_piece_68 : decode cX4_piece 68 = .ok (.iastore, 1) := by decide +kernel
theorem dX4_piece_69 : decode cX4_piece 69 = .ok (.aload_n 0, 1) := by decide +kernel
theorem dX4_piece_70 : decode cX4_piece 70 = .ok (.getfield 16, 3) := by decide +kernel
theorem dX4_piece_73 : decode cX4_piece 73 = .ok (.bipush 16, 2) := by decide +kernel
theorem dX4_piece_75 : decode cX4_piece 75 = .ok (.iload_n 1, 1) := by decide +kernel
theorem dX4_piece_76 : decode cX4_piece 76 = .ok (.imul, 1) := by decide +kernel
theorem dX4_piece_77 : decode cX4_piece 77 = .ok (.iload_n 2, 1) := by decide +kernel
theorem dX4_piece_78 : decode cX4_piece 78 = .ok (.iadd, 1) := by decide +kernel
theorem dX4_piece_79 : decode cX4_piece 79 = .ok (.iload 4, 2) := by decide +kernel
theorem dX4_piece_81 : decode cX4_piece 81 = .ok (.iastore, 1) := by decide +kernel
theorem dX4_piece_82 : decode cX4_piece 82 = .ok (.aload_n 0, 1) := by decide +kernel
theorem dX4_piece_83 : decode cX4_piece 83 = .ok (.getfield 19, 3) := by decide +kernel
theorem dX4_piece_86 : decode cX4_piece 86 = .ok (.bipush 16, 2) := by decide +kernel
theorem dX4_piece_88 : decode cX4_piece 88 = .ok (.iload_n 1, 1) := by decide +kernel
theorem dX4_piece_89 : decode cX4_piece 89 = .ok (.imul, 1) := by decide +kernel
theorem dX4_piece_90 : decode cX4_piece 90 = .ok (.iload_n 2, 1) := by decide +kernel
theorem dX4_piece_91 : decode cX4_piece 91 = .ok (.iadd, 1) := by decide +kernel
theorem dX4_piece_92 : decode cX4_piece 92 = .ok (.iload 5, 2) := by decide +kernel
theorem dX4_piece_94 : decode cX4_piece 94 = .ok (.iastore, 1) := by decide +kernel
theorem dX4_piece_95 : decode cX4_piece 95 = .ok (.iconst 1, 1) := by decide +kernel
theorem dX4_piece_96 : decode cX4_piece 96 = .ok (.ireturn, 1) := by decide +kernel
theorem dX4_of_0 : decode cX4_of 0 = .ok (.iload_n 1, 1) := by decide +kernel
theorem dX4_of_1 : decode cX4_of 1 = .ok (.invokestatic 51, 3) := by decide +kernel
theorem dX4_of_4 : decode cX4_of 4 = .ok (.ifCond .eq 33, 3) := by decide +kernel
theorem dX4_of_7 : decode cX4_of 7 = .ok (.iload_n 2, 1) := by decide +kernel
theorem dX4_of_8 : decode cX4_of 8 = .ok (.i2l, 1) := by decide +kernel
theorem dX4_of_9 : decode cX4_of 9 = .ok (.lconst 0, 1) := by decide +kernel
theorem dX4_of_10 : decode cX4_of 10 = .ok (.aload_n 0, 1) := by decide +kernel
theorem dX4_of_11 : decode cX4_of 11 = .ok (.getfield 7, 3) := by decide +kernel
theorem dX4_of_14 : decode cX4_of 14 = .ok (.iload_n 1, 1) := by decide +kernel
theorem dX4_of_15 : decode cX4_of 15 = .ok (.iaload, 1) := by decide +kernel
theorem dX4_of_16 : decode cX4_of 16 = .ok (.iconst 1, 1) := by decide +kernel
theorem dX4_of_17 : decode cX4_of 17 = .ok (.isub, 1) := by decide +kernel
theorem dX4_of_18 : decode cX4_of 18 = .ok (.i2l, 1) := by decide +kernel
theorem dX4_of_19 : decode cX4_of 19 = .ok (.invokestatic 43, 3) := by decide +kernel
theorem dX4_of_22 : decode cX4_of 22 = .ok (.ifCond .eq 15, 3) := by decide +kernel
theorem dX4_of_25 : decode cX4_of 25 = .ok (.iload_n 3, 1) := by decide +kernel
theorem dX4_of_26 : decode cX4_of 26 = .ok (.i2l, 1) := by decide +kernel
theorem dX4_of_27 : decode cX4_of 27 = .ok (.lconst 0, 1) := by decide +kernel
theorem dX4_of_28 : decode cX4_of 28 = .ok (.ldc2_w 61, 3) := by decide +kernel
theorem dX4_of_31 : decode cX4_of 31 = .ok (.invokestatic 43, 3) := by decide +kernel
theorem dX4_of_34 : decode cX4_of 34 = .ok (.ifCond .ne 6, 3) := by decide +kernel
theorem dX4_of_37 : decode cX4_of 37 = .ok (.ldc 63, 2) := by decide +kernel
theorem dX4_of_39 : decode cX4_of 39 = .ok (.ireturn, 1) := by decide +kernel
theorem dX4_of_40 : decode cX4_of 40 = .ok (.iload_n 3, 1) := by decide +kernel
theorem dX4_of_41 : decode cX4_of 41 = .ok (.ifCond .ne 17, 3) := by decide +kernel
theorem dX4_of_44 : decode cX4_of 44 = .ok (.aload_n 0, 1) := by decide +kernel
theorem dX4_of_45 : decode cX4_of 45 = .ok (.getfield 13, 3) := by decide +kernel
theorem dX4_of_48 : decode cX4_of 48 = .ok (.bipush 16, 2) := by decide +kernel
theorem dX4_of_50 : decode cX4_of 50 = .ok (.iload_n 1, 1) := by decide +kernel
theorem dX4_of_51 : decode cX4_of 51 = .ok (.imul, 1) := by decide +kernel
theorem dX4_of_52 : decode cX4_of 52 = .ok (.iload_n 2, 1) := by decide +kernel
theorem dX4_of_53 : decode cX4_of 53 = .ok (.iadd, 1) := by decide +kernel
theorem dX4_of_54 : decode cX4_of 54 = .ok (.iaload, 1) := by decide +kernel
theorem dX4_of_55 : decode cX4_of 55 = .ok (.goto 33, 3) := by decide +kernel
theorem dX4_of_58 : decode cX4_of 58 = .ok (.iload_n 3, 1) := by decide +kernel
theorem dX4_of_59 : decode cX4_of 59 = .ok (.iconst 1, 1) := by decide +kernel
theorem dX4_of_60 : decode cX4_of 60 = .ok (.if_icmp .ne 17, 3) := by decide +kernel
theorem dX4_of_63 : decode cX4_of 63 = .ok (.aload_n 0, 1) := by decide +kernel
theorem dX4_of_64 : decode cX4_of 64 = .ok (.getfield 16, 3) := by decide +kernel
theorem dX4_of_67 : decode cX4_of 67 = .ok (.bipush 16, 2) := by decide +kernel
theorem dX4_of_69 : decode cX4_of 69 = .ok (.iload_n 1, 1) := by decide +kernel
theorem dX4_of_70 : decode cX4_of 70 = .ok (.imul, 1) := by decide +kernel
theorem dX4_of_71 : decode cX4_of 71 = .ok (.iload_n 2, 1) := by decide +kernel
theorem dX4_of_72 : decode cX4_of 72 = .ok (.iadd, 1) := by decide +kernel
theorem dX4_of_73 : decode cX4_of 73 = .ok (.iaload, 1) := by decide +kernel
theorem dX4_of_74 : decode cX4_of 74 = .ok (.goto 14, 3) := by decide +kernel
theorem dX4_of_77 : decode cX4_of 77 = .ok (.aload_n 0, 1) := by decide +kernel
theorem dX4_of_78 : decode cX4_of 78 = .ok (.getfield 19, 3) := by decide +kernel
theorem dX4_of_81 : decode cX4_of 81 = .ok (.bipush 16, 2) := by decide +kernel
theorem dX4_of_83 : decode cX4_of 83 = .ok (.iload_n 1, 1) := by decide +kernel
theorem dX4_of_84 : decode cX4_of 84 = .ok (.imul, 1) := by decide +kernel
theorem dX4_of_85 : decode cX4_of 85 = .ok (.iload_n 2, 1) := by decide +kernel
theorem dX4_of_86 : decode cX4_of 86 = .ok (.iadd, 1) := by decide +kernel
theorem dX4_of_87 : decode cX4_of 87 = .ok (.iaload, 1) := by decide +kernel
theorem dX4_of_88 : decode cX4_of 88 = .ok (.ireturn, 1) := by decide +kernel
theorem dX4_look_0 : decode cX4_look 0 = .ok (.aload_n 0, 1) := by decide +kernel
theorem dX4_look_1 : decode cX4_look 1 = .ok (.aload_n 0, 1) := by decide +kernel
theorem dX4_look_2 : decode cX4_look 2 = .ok (.getfield 7, 3) := by decide +kernel
theorem dX4_look_5 : decode cX4_look 5 = .ok (.iload_n 1, 1) := by decide +kernel
theorem dX4_look_6 : decode cX4_look 6 = .ok (.iaload, 1) := by decide +kernel
theorem dX4_look_7 : decode cX4_look 7 = .ok (.putfield 64, 3) := by decide +kernel
theorem dX4_look_10 : decode cX4_look 10 = .ok (.iconst 0, 1) := by decide +kernel
theorem dX4_look_11 : decode cX4_look 11 = .ok (.istore_n 2, 1) := by decide +kernel
theorem dX4_look_12 : decode cX4_look 12 = .ok (.iload_n 2, 1) := by decide +kernel
theorem dX4_look_13 : decode cX4_look 13 = .ok (.aload_n 0, 1) := by decide +kernel
theorem dX4_look_14 : decode cX4_look 14 = .ok (.getfield 64, 3) := by decide +kernel
theorem dX4_look_17 : decode cX4_look 17 = .ok (.if_icmp .ge 63, 3) := by decide +kernel
theorem dX4_look_20 : decode cX4_look 20 = .ok (.aload_n 0, 1) := by decide +kernel
theorem dX4_look_21 : decode cX4_look 21 = .ok (.getfield 25, 3) := by decide +kernel
theorem dX4_look_24 : decode cX4_look 24 = .ok (.iload_n 2, 1) := by decide +kernel
theorem dX4_look_25 : decode cX4_look 25 = .ok (.aload_n 0, 1) := by decide +kernel
theorem dX4_look_26 : decode cX4_look 26 = .ok (.getfield 13, 3) := by decide +kernel
theorem dX4_look_29 : decode cX4_look 29 = .ok (.bipush 16, 2) := by decide +kernel
theorem dX4_look_31 : decode cX4_look 31 = .ok (.iload_n 1, 1) := by decide +kernel
theorem dX4_look_32 : decode cX4_look 32 = .ok (.imul, 1) := by decide +kernel
theorem dX4_look_33 : decode cX4_look 33 = .ok (.iload_n 2, 1) := by decide +kernel
theorem dX4_look_34 : decode cX4_look 34 = .ok (.iadd, 1) := by decide +kernel
theorem dX4_look_35 : decode cX4_look 35 = .ok (.iaload, 1) := by decide +kernel
theorem dX4_look_36 : decode cX4_look 36 = .ok (.i2l, 1) := by decide +kernel
theorem dX4_look_37 : decode cX4_look 37 = .ok (.lastore, 1) := by decide +kernel
theorem dX4_look_38 : decode cX4_look 38 = .ok (.aload_n 0, 1) := by decide +kernel
theorem dX4_look_39 : decode cX4_look 39 = .ok (.getfield 29, 3) := by decide +kernel
theorem dX4_look_42 : decode cX4_look 42 = .ok (.iload_n 2, 1) := by decide +kernel
theorem dX4_look_43 : decode cX4_look 43 = .ok (.aload_n 0, 1) := by decide +kernel
theorem dX4_look_44 : decode cX4_look 44 = .ok (.getfield 16, 3) := by decide +kernel
theorem dX4_look_47 : decode cX4_look 47 = .ok (.bipush 16, 2) := by decide +kernel
theorem dX4_look_49 : decode cX4_look 49 = .ok (.iload_n 1, 1) := by decide +kernel
theorem dX4_look_50 : decode cX4_look 50 = .ok (.imul, 1) := by decide +kernel
theorem dX4_look_51 : decode cX4_look 51 = .ok (.iload_n 2, 1) := by decide +kernel
theorem dX4_look_52 : decode cX4_look 52 = .ok (.iadd, 1) := by decide +kernel
theorem dX4_look_53 : decode cX4_look 53 = .ok (.iaload, 1) := by decide +kernel
theorem dX4_look_54 : decode cX4_look 54 = .ok (.i2l, 1) := by decide +kernel
theorem dX4_look_55 : decode cX4_look 55 = .ok (.lastore, 1) := by decide +kernel
theorem dX4_look_56 : decode cX4_look 56 = .ok (.aload_n 0, 1) := by decide +kernel
theorem dX4_look_57 : decode cX4_look 57 = .ok (.getfield 32, 3) := by decide +kernel
theorem dX4_look_60 : decode cX4_look 60 = .ok (.iload_n 2, 1) := by decide +kernel
theorem dX4_look_61 : decode cX4_look 61 = .ok (.aload_n 0, 1) := by decide +kernel
theorem dX4_look_62 : decode cX4_look 62 = .ok (.getfield 19, 3) := by decide +kernel
theorem dX4_look_65 : decode cX4_look 65 = .ok (.bipush 16, 2) := by decide +kernel
theorem dX4_look_67 : decode cX4_look 67 = .ok (.iload_n 1, 1) := by decide +kernel
theorem dX4_look_68 : decode cX4_look 68 = .ok (.imul, 1) := by decide +kernel
theorem dX4_look_69 : decode cX4_look 69 = .ok (.iload_n 2, 1) := by decide +kernel
theorem dX4_look_70 : decode cX4_look 70 = .ok (.iadd, 1) := by decide +kernel
theorem dX4_look_71 : decode cX4_look 71 = .ok (.iaload, 1) := by decide +kernel
theorem dX4_look_72 : decode cX4_look 72 = .ok (.i2l, 1) := by decide +kernel
theorem dX4_look_73 : decode cX4_look 73 = .ok (.lastore, 1) := by decide +kernel
theorem dX4_look_74 : decode cX4_look 74 = .ok (.iinc 2 1, 3) := by decide +kernel
theorem dX4_look_77 : decode cX4_look 77 = .ok (.goto (-65), 3) := by decide +kernel
theorem dX4_look_80 : decode cX4_look 80 = .ok (.return_, 1) := by decide +kernel
theorem dX4_lay_0 : decode cX4_lay 0 = .ok (.iconst 1, 1) := by decide +kernel
theorem dX4_lay_1 : decode cX4_lay 1 = .ok (.istore_n 2, 1) := by decide +kernel
theorem dX4_lay_2 : decode cX4_lay 2 = .ok (.iconst 0, 1) := by decide +kernel
theorem dX4_lay_3 : decode cX4_lay 3 = .ok (.istore_n 3, 1) := by decide +kernel
theorem dX4_lay_4 : decode cX4_lay 4 = .ok (.iload_n 3, 1) := by decide +kernel
theorem dX4_lay_5 : decode cX4_lay 5 = .ok (.aload_n 0, 1) := by decide +kernel
theorem dX4_lay_6 : decode cX4_lay 6 = .ok (.getfield 64, 3) := by decide +kernel
theorem dX4_lay_9 : decode cX4_lay 9 = .ok (.if_icmp .ge 55, 3) := by decide +kernel
theorem dX4_lay_12 : decode cX4_lay 12 = .ok (.iload_n 2, 1) := by decide +kernel
theorem dX4_lay_13 : decode cX4_lay 13 = .ok (.ifCond .eq 43, 3) := by decide +kernel
theorem dX4_lay_16 : decode cX4_lay 16 = .ok (.aload_n 0, 1) := by decide +kernel
theorem dX4_lay_17 : decode cX4_lay 17 = .ok (.getfield 25, 3) := by decide +kernel
theorem dX4_lay_20 : decode cX4_lay 20 = .ok (.iload_n 3, 1) := by decide +kernel
theorem dX4_lay_21 : decode cX4_lay 21 = .ok (.laload, 1) := by decide +kernel
theorem dX4_lay_22 : decode cX4_lay 22 = .ok (.invokestatic 57, 3) := by decide +kernel
theorem dX4_lay_25 : decode cX4_lay 25 = .ok (.ifCond .eq 31, 3) := by decide +kernel
theorem dX4_lay_28 : decode cX4_lay 28 = .ok (.aload_n 0, 1) := by decide +kernel
theorem dX4_lay_29 : decode cX4_lay 29 = .ok (.getfield 29, 3) := by decide +kernel
theorem dX4_lay_32 : decode cX4_lay 32 = .ok (.iload_n 3, 1) := by decide +kernel
theorem dX4_lay_33 : decode cX4_lay 33 = .ok (.laload, 1) := by decide +kernel
theorem dX4_lay_34 : decode cX4_lay 34 = .ok (.invokestatic 57, 3) := by decide +kernel
theorem dX4_lay_37 : decode cX4_lay 37 = .ok (.ifCond .eq 19, 3) := by decide +kernel
theorem dX4_lay_40 : decode cX4_lay 40 = .ok (.aload_n 0, 1) := by decide +kernel
theorem dX4_lay_41 : decode cX4_lay 41 = .ok (.getfield 32, 3) := by decide +kernel
theorem dX4_lay_44 : decode cX4_lay 44 = .ok (.iload_n 3, 1) := by decide +kernel
theorem dX4_lay_45 : decode cX4_lay 45 = .ok (.laload, 1) := by decide +kernel
theorem dX4_lay_46 : decode cX4_lay 46 = .ok (.invokestatic 57, 3) := by decide +kernel
theorem dX4_lay_49 : decode cX4_lay 49 = .ok (.ifCond .eq 7, 3) := by decide +kernel
theorem dX4_lay_52 : decode cX4_lay 52 = .ok (.iconst 1, 1) := by decide +kernel
theorem dX4_lay_53 : decode cX4_lay 53 = .ok (.goto 4, 3) := by decide +kernel
theorem dX4_lay_56 : decode cX4_lay 56 = .ok (.iconst 0, 1) := by decide +kernel
theorem dX4_lay_57 : decode cX4_lay 57 = .ok (.istore_n 2, 1) := by decide +kernel
theorem dX4_lay_58 : decode cX4_lay 58 = .ok (.iinc 3 1, 3) := by decide +kernel
theorem dX4_lay_61 : decode cX4_lay 61 = .ok (.goto (-57), 3) := by decide +kernel
theorem dX4_lay_64 : decode cX4_lay 64 = .ok (.iload_n 2, 1) := by decide +kernel
theorem dX4_lay_65 : decode cX4_lay 65 = .ok (.ifCond .ne 6, 3) := by decide +kernel
theorem dX4_lay_68 : decode cX4_lay 68 = .ok (.bipush (-5), 2) := by decide +kernel
theorem dX4_lay_70 : decode cX4_lay 70 = .ok (.ireturn, 1) := by decide +kernel
theorem dX4_lay_71 : decode cX4_lay 71 = .ok (.aload_n 0, 1) := by decide +kernel
theorem dX4_lay_72 : decode cX4_lay 72 = .ok (.getfield 7, 3) := by decide +kernel
theorem dX4_lay_75 : decode cX4_lay 75 = .ok (.iload_n 1, 1) := by decide +kernel
theorem dX4_lay_76 : decode cX4_lay 76 = .ok (.aload_n 0, 1) := by decide +kernel
theorem dX4_lay_77 : decode cX4_lay 77 = .ok (.getfield 64, 3) := by decide +kernel
theorem dX4_lay_80 : decode cX4_lay 80 = .ok (.iastore, 1) := by decide +kernel
theorem dX4_lay_81 : decode cX4_lay 81 = .ok (.iconst 0, 1) := by decide +kernel
theorem dX4_lay_82 : decode cX4_lay 82 = .ok (.istore_n 3, 1) := by decide +kernel
theorem dX4_lay_83 : decode cX4_lay 83 = .ok (.iload_n 3, 1) := by decide +kernel
theorem dX4_lay_84 : decode cX4_lay 84 = .ok (.aload_n 0, 1) := by decide +kernel
theorem dX4_lay_85 : decode cX4_lay 85 = .ok (.getfield 64, 3) := by decide +kernel
theorem dX4_lay_88 : decode cX4_lay 88 = .ok (.if_icmp .ge 63, 3) := by decide +kernel
theorem dX4_lay_91 : decode cX4_lay 91 = .ok (.aload_n 0, 1) := by decide +kernel
theorem dX4_lay_92 : decode cX4_lay 92 = .ok (.getfield 13, 3) := by decide +kernel
theorem dX4_lay_95 : decode cX4_lay 95 = .ok (.bipush 16, 2) := by decide +kernel
theorem dX4_lay_97 : decode cX4_lay 97 = .ok (.iload_n 1, 1) := by decide +kernel
theorem dX4_lay_98 : decode cX4_lay 98 = .ok (.imul, 1) := by decide +kernel
theorem dX4_lay_99 : decode cX4_lay 99 = .ok (.iload_n 3, 1) := by decide +kernel
theorem dX4_lay_100 : decode cX4_lay 100 = .ok (.iadd, 1) := by decide +kernel
theorem dX4_lay_101 : decode cX4_lay 101 = .ok (.aload_n 0, 1) := by decide +kernel
theorem dX4_lay_102 : decode cX4_lay 102 = .ok (.getfield 25, 3) := by decide +kernel
theorem dX4_lay_105 : decode cX4_lay 105 = .ok (.iload_n 3, 1) := by decide +kernel
theorem dX4_lay_106 : decode cX4_lay 106 = .ok (.laload, 1) := by decide +kernel
theorem dX4_lay_107 : decode cX4_lay 107 = .ok (.l2i, 1) := by decide +kernel
theorem dX4_lay_108 : decode cX4_lay 108 = .ok (.iastore, 1) := by decide +kernel
theorem dX4_lay_109 : decode cX4_lay 109 = .ok (.aload_n 0, 1) := by decide +kernel
theorem dX4_lay_110 : decode cX4_lay 110 = .ok (.getfield 16, 3) := by decide +kernel
theorem dX4_lay_113 : decode cX4_lay 113 = .ok (.bipush 16, 2) := by decide +kernel
theorem dX4_lay_115 : decode cX4_lay 115 = .ok (.iload_n 1, 1) := by decide +kernel
theorem dX4_lay_116 : decode cX4_lay 116 = .ok (.imul, 1) := by decide +kernel
theorem dX4_lay_117 : decode cX4_lay 117 = .ok (.iload_n 3, 1) := by decide +kernel
theorem dX4_lay_118 : decode cX4_lay 118 = .ok (.iadd, 1) := by decide +kernel
theorem dX4_lay_119 : decode cX4_lay 119 = .ok (.aload_n 0, 1) := by decide +kernel
theorem dX4_lay_120 : decode cX4_lay 120 = .ok (.getfield 29, 3) := by decide +kernel
theorem dX4_lay_123 : decode cX4_lay 123 = .ok (.iload_n 3, 1) := by decide +kernel
theorem dX4_lay_124 : decode cX4_lay 124 = .ok (.laload, 1) := by decide +kernel
theorem dX4_lay_125 : decode cX4_lay 125 = .ok (.l2i, 1) := by decide +kernel
theorem dX4_lay_126 : decode cX4_lay 126 = .ok (.iastore, 1) := by decide +kernel
theorem dX4_lay_127 : decode cX4_lay 127 = .ok (.aload_n 0, 1) := by decide +kernel
theorem dX4_lay_128 : decode cX4_lay 128 = .ok (.getfield 19, 3) := by decide +kernel
theorem dX4_lay_131 : decode cX4_lay 131 = .ok (.bipush 16, 2) := by decide +kernel
theorem dX4_lay_133 : decode cX4_lay 133 = .ok (.iload_n 1, 1) := by decide +kernel
theorem dX4_lay_134 : decode cX4_lay 134 = .ok (.imul, 1) := by decide +kernel
theorem dX4_lay_135 : decode cX4_lay 135 = .ok (.iload_n 3, 1) := by decide +kernel
theorem dX4_lay_136 : decode cX4_lay 136 = .ok (.iadd, 1) := by decide +kernel
theorem dX4_lay_137 : decode cX4_lay 137 = .ok (.aload_n 0, 1) := by decide +kernel
theorem dX4_lay_138 : decode cX4_lay 138 = .ok (.getfield 32, 3) := by decide +kernel
theorem dX4_lay_141 : decode cX4_lay 141 = .ok (.iload_n 3, 1) := by decide +kernel
theorem dX4_lay_142 : decode cX4_lay 142 = .ok (.laload, 1) := by decide +kernel
theorem dX4_lay_143 : decode cX4_lay 143 = .ok (.l2i, 1) := by decide +kernel
theorem dX4_lay_144 : decode cX4_lay 144 = .ok (.iastore, 1) := by decide +kernel
theorem dX4_lay_145 : decode cX4_lay 145 = .ok (.iinc 3 1, 3) := by decide +kernel
theorem dX4_lay_148 : decode cX4_lay 148 = .ok (.goto (-65), 3) := by decide +kernel
theorem dX4_lay_151 : decode cX4_lay 151 = .ok (.iconst 1, 1) := by decide +kernel
theorem dX4_lay_152 : decode cX4_lay 152 = .ok (.ireturn, 1) := by decide +kernel
theorem dX4_common_0 : decode cX4_common 0 = .ok (.lload_n 0, 1) := by decide +kernel
theorem dX4_common_1 : decode cX4_common 1 = .ok (.lconst 0, 1) := by decide +kernel
theorem dX4_common_2 : decode cX4_common 2 = .ok (.lcmp, 1) := by decide +kernel
theorem dX4_common_3 : decode cX4_common 3 = .ok (.ifCond .ge 8, 3) := by decide +kernel
theorem dX4_common_6 : decode cX4_common 6 = .ok (.lload_n 0, 1) := by decide +kernel
theorem dX4_common_7 : decode cX4_common 7 = .ok (.lneg, 1) := by decide +kernel
theorem dX4_common_8 : decode cX4_common 8 = .ok (.goto 4, 3) := by decide +kernel
theorem dX4_common_11 : decode cX4_common 11 = .ok (.lload_n 0, 1) := by decide +kernel
theorem dX4_common_12 : decode cX4_common 12 = .ok (.lstore 4, 2) := by decide +kernel
theorem dX4_common_14 : decode cX4_common 14 = .ok (.lload_n 2, 1) := by decide +kernel
theorem dX4_common_15 : decode cX4_common 15 = .ok (.lstore 6, 2) := by decide +kernel
theorem dX4_common_17 : decode cX4_common 17 = .ok (.lload 6, 2) := by decide +kernel
theorem dX4_common_19 : decode cX4_common 19 = .ok (.lconst 0, 1) := by decide +kernel
theorem dX4_common_20 : decode cX4_common 20 = .ok (.lcmp, 1) := by decide +kernel
theorem dX4_common_21 : decode cX4_common 21 = .ok (.ifCond .eq 21, 3) := by decide +kernel
theorem dX4_common_24 : decode cX4_common 24 = .ok (.lload 4, 2) := by decide +kernel
theorem dX4_common_26 : decode cX4_common 26 = .ok (.lload 6, 2) := by decide +kernel
theorem dX4_common_28 : decode cX4_common 28 = .ok (.lrem, 1) := by decide +kernel
theorem dX4_common_29 : decode cX4_common 29 = .ok (.lstore 8, 2) := by decide +kernel
theorem dX4_common_31 : decode cX4_common 31 = .ok (.lload 6, 2) := by decide +kernel
theorem dX4_common_33 : decode cX4_common 33 = .ok (.lstore 4, 2) := by decide +kernel
theorem dX4_common_35 : decode cX4_common 35 = .ok (.lload 8, 2) := by decide +kernel
theorem dX4_common_37 : decode cX4_common 37 = .ok (.lstore 6, 2) := by decide +kernel
theorem dX4_common_39 : decode cX4_common 39 = .ok (.goto (-22), 3) := by decide +kernel
theorem dX4_common_42 : decode cX4_common 42 = .ok (.lload 4, 2) := by decide +kernel
theorem dX4_common_44 : decode cX4_common 44 = .ok (.lreturn, 1) := by decide +kernel
theorem dX4_told_0 : decode cX4_told 0 = .ok (.lload_n 0, 1) := by decide +kernel
theorem dX4_told_1 : decode cX4_told 1 = .ok (.lload_n 2, 1) := by decide +kernel
theorem dX4_told_2 : decode cX4_told 2 = .ok (.invokestatic 68, 3) := by decide +kernel
theorem dX4_told_5 : decode cX4_told 5 = .ok (.lstore 5, 2) := by decide +kernel
theorem dX4_told_7 : decode cX4_told 7 = .ok (.iload 4, 2) := by decide +kernel
theorem dX4_told_9 : decode cX4_told 9 = .ok (.ifCond .ne 10, 3) := by decide +kernel
theorem dX4_told_12 : decode cX4_told 12 = .ok (.lload_n 0, 1) := by decide +kernel
theorem dX4_told_13 : decode cX4_told 13 = .ok (.lload 5, 2) := by decide +kernel
theorem dX4_told_15 : decode cX4_told 15 = .ok (.ldiv, 1) := by decide +kernel
theorem dX4_told_16 : decode cX4_told 16 = .ok (.goto 7, 3) := by decide +kernel
theorem dX4_told_19 : decode cX4_told 19 = .ok (.lload_n 2, 1) := by decide +kernel
theorem dX4_told_20 : decode cX4_told 20 = .ok (.lload 5, 2) := by decide +kernel
theorem dX4_told_22 : decode cX4_told 22 = .ok (.ldiv, 1) := by decide +kernel
theorem dX4_told_23 : decode cX4_told 23 = .ok (.lreturn, 1) := by decide +kernel
theorem dX4_value_0 : decode cX4_value 0 = .ok (.iload_n 1, 1) := by decide +kernel
theorem dX4_value_1 : decode cX4_value 1 = .ok (.invokestatic 51, 3) := by decide +kernel
theorem dX4_value_4 : decode cX4_value 4 = .ok (.ifCond .eq 44, 3) := by decide +kernel
theorem dX4_value_7 : decode cX4_value 7 = .ok (.iload_n 3, 1) := by decide +kernel
theorem dX4_value_8 : decode cX4_value 8 = .ok (.i2l, 1) := by decide +kernel
theorem dX4_value_9 : decode cX4_value 9 = .ok (.lconst 1, 1) := by decide +kernel
theorem dX4_value_10 : decode cX4_value 10 = .ok (.ldc2_w 72, 3) := by decide +kernel
theorem dX4_value_13 : decode cX4_value 13 = .ok (.invokestatic 43, 3) := by decide +kernel
theorem dX4_value_16 : decode cX4_value 16 = .ok (.ifCond .eq 32, 3) := by decide +kernel
theorem dX4_value_19 : decode cX4_value 19 = .ok (.iload_n 2, 1) := by decide +kernel
theorem dX4_value_20 : decode cX4_value 20 = .ok (.i2l, 1) := by decide +kernel
theorem dX4_value_21 : decode cX4_value 21 = .ok (.lconst 0, 1) := by decide +kernel
theorem dX4_value_22 : decode cX4_value 22 = .ok (.aload_n 0, 1) := by decide +kernel
theorem dX4_value_23 : decode cX4_value 23 = .ok (.getfield 7, 3) := by decide +kernel
theorem dX4_value_26 : decode cX4_value 26 = .ok (.iload_n 1, 1) := by decide +kernel
theorem dX4_value_27 : decode cX4_value 27 = .ok (.iaload, 1) := by decide +kernel
theorem dX4_value_28 : decode cX4_value 28 = .ok (.iload_n 3, 1) := by decide +kernel
theorem dX4_value_29 : decode cX4_value 29 = .ok (.imul, 1) := by decide +kernel
theorem dX4_value_30 : decode cX4_value 30 = .ok (.i2l, 1) := by decide +kernel
theorem dX4_value_31 : decode cX4_value 31 = .ok (.invokestatic 43, 3) := by decide +kernel
theorem dX4_value_34 : decode cX4_value 34 = .ok (.ifCond .eq 14, 3) := by decide +kernel
theorem dX4_value_37 : decode cX4_value 37 = .ok (.iload 4, 2) := by decide +kernel
theorem dX4_value_39 : decode cX4_value 39 = .ok (.i2l, 1) := by decide +kernel
theorem dX4_value_40 : decode cX4_value 40 = .ok (.lconst 0, 1) := by decide +kernel
theorem dX4_value_41 : decode cX4_value 41 = .ok (.lconst 1, 1) := by decide +kernel
theorem dX4_value_42 : decode cX4_value 42 = .ok (.invokestatic 43, 3) := by decide +kernel
theorem dX4_value_45 : decode cX4_value 45 = .ok (.ifCond .ne 7, 3) := by decide +kernel
theorem dX4_value_48 : decode cX4_value 48 = .ok (.ldc2_w 74, 3) := by decide +kernel
theorem dX4_value_51 : decode cX4_value 51 = .ok (.lreturn, 1) := by decide +kernel
theorem dX4_value_52 : decode cX4_value 52 = .ok (.iload_n 2, 1) := by decide +kernel
theorem dX4_value_53 : decode cX4_value 53 = .ok (.iload_n 3, 1) := by decide +kernel
theorem dX4_value_54 : decode cX4_value 54 = .ok (.idiv, 1) := by decide +kernel
theorem dX4_value_55 : decode cX4_value 55 = .ok (.aload_n 0, 1) := by decide +kernel
theorem dX4_value_56 : decode cX4_value 56 = .ok (.getfield 7, 3) := by decide +kernel
theorem dX4_value_59 : decode cX4_value 59 = .ok (.iload_n 1, 1) := by decide +kernel
theorem dX4_value_60 : decode cX4_value 60 = .ok (.iaload, 1) := by decide +kernel
theorem dX4_value_61 : decode cX4_value 61 = .ok (.if_icmp .ge 9, 3) := by decide +kernel
theorem dX4_value_64 : decode cX4_value 64 = .ok (.iload_n 2, 1) := by decide +kernel
theorem dX4_value_65 : decode cX4_value 65 = .ok (.iload_n 3, 1) := by decide +kernel
theorem dX4_value_66 : decode cX4_value 66 = .ok (.idiv, 1) := by decide +kernel
theorem dX4_value_67 : decode cX4_value 67 = .ok (.goto 11, 3) := by decide +kernel
theorem dX4_value_70 : decode cX4_value 70 = .ok (.aload_n 0, 1) := by decide +kernel
theorem dX4_value_71 : decode cX4_value 71 = .ok (.getfield 7, 3) := by decide +kernel
theorem dX4_value_74 : decode cX4_value 74 = .ok (.iload_n 1, 1) := by decide +kernel
theorem dX4_value_75 : decode cX4_value 75 = .ok (.iaload, 1) := by decide +kernel
theorem dX4_value_76 : decode cX4_value 76 = .ok (.iconst 1, 1) := by decide +kernel
theorem dX4_value_77 : decode cX4_value 77 = .ok (.isub, 1) := by decide +kernel
theorem dX4_value_78 : decode cX4_value 78 = .ok (.istore 5, 2) := by decide +kernel
theorem dX4_value_80 : decode cX4_value 80 = .ok (.iload_n 2, 1) := by decide +kernel
theorem dX4_value_81 : decode cX4_value 81 = .ok (.iload 5, 2) := by decide +kernel
theorem dX4_value_83 : decode cX4_value 83 = .ok (.iload_n 3, 1) := by decide +kernel
theorem dX4_value_84 : decode cX4_value 84 = .ok (.imul, 1) := by decide +kernel
theorem dX4_value_85 : decode cX4_value 85 = .ok (.isub, 1) := by decide +kernel
theorem dX4_value_86 : decode cX4_value 86 = .ok (.i2l, 1) := by decide +kernel
theorem dX4_value_87 : decode cX4_value 87 = .ok (.lstore 6, 2) := by decide +kernel
theorem dX4_value_89 : decode cX4_value 89 = .ok (.bipush 16, 2) := by decide +kernel
theorem dX4_value_91 : decode cX4_value 91 = .ok (.iload_n 1, 1) := by decide +kernel
theorem dX4_value_92 : decode cX4_value 92 = .ok (.imul, 1) := by decide +kernel
theorem dX4_value_93 : decode cX4_value 93 = .ok (.iload 5, 2) := by decide +kernel
theorem dX4_value_95 : decode cX4_value 95 = .ok (.iadd, 1) := by decide +kernel
theorem dX4_value_96 : decode cX4_value 96 = .ok (.istore 8, 2) := by decide +kernel
theorem dX4_value_98 : decode cX4_value 98 = .ok (.aload_n 0, 1) := by decide +kernel
theorem dX4_value_99 : decode cX4_value 99 = .ok (.getfield 13, 3) := by decide +kernel
theorem dX4_value_102 : decode cX4_value 102 = .ok (.iload 8, 2) := by decide +kernel
theorem dX4_value_104 : decode cX4_value 104 = .ok (.iaload, 1) := by decide +kernel
theorem dX4_value_105 : decode cX4_value 105 = .ok (.i2l, 1) := by decide +kernel
theorem dX4_value_106 : decode cX4_value 106 = .ok (.iload_n 3, 1) := by decide +kernel
theorem dX4_value_107 : decode cX4_value 107 = .ok (.i2l, 1) := by decide +kernel
theorem dX4_value_108 : decode cX4_value 108 = .ok (.lmul, 1) := by decide +kernel
theorem dX4_value_109 : decode cX4_value 109 = .ok (.iload_n 3, 1) := by decide +kernel
theorem dX4_value_110 : decode cX4_value 110 = .ok (.i2l, 1) := by decide +kernel
theorem dX4_value_111 : decode cX4_value 111 = .ok (.lmul, 1) := by decide +kernel
theorem dX4_value_112 : decode cX4_value 112 = .ok (.aload_n 0, 1) := by decide +kernel
theorem dX4_value_113 : decode cX4_value 113 = .ok (.getfield 16, 3) := by decide +kernel
theorem dX4_value_116 : decode cX4_value 116 = .ok (.iload 8, 2) := by decide +kernel
theorem dX4_value_118 : decode cX4_value 118 = .ok (.iaload, 1) := by decide +kernel
theorem dX4_value_119 : decode cX4_value 119 = .ok (.i2l, 1) := by decide +kernel
theorem dX4_value_120 : decode cX4_value 120 = .ok (.lload 6, 2) := by decide +kernel
theorem dX4_value_122 : decode cX4_value 122 = .ok (.lmul, 1) := by decide +kernel
theorem dX4_value_123 : decode cX4_value 123 = .ok (.iload_n 3, 1) := by decide +kernel
theorem dX4_value_124 : decode cX4_value 124 = .ok (.i2l, 1) := by decide +kernel
theorem dX4_value_125 : decode cX4_value 125 = .ok (.lmul, 1) := by decide +kernel
theorem dX4_value_126 : decode cX4_value 126 = .ok (.ladd, 1) := by decide +kernel
theorem dX4_value_127 : decode cX4_value 127 = .ok (.aload_n 0, 1) := by decide +kernel
theorem dX4_value_128 : decode cX4_value 128 = .ok (.getfield 19, 3) := by decide +kernel
theorem dX4_value_131 : decode cX4_value 131 = .ok (.iload 8, 2) := by decide +kernel
theorem dX4_value_133 : decode cX4_value 133 = .ok (.iaload, 1) := by decide +kernel
theorem dX4_value_134 : decode cX4_value 134 = .ok (.i2l, 1) := by decide +kernel
theorem dX4_value_135 : decode cX4_value 135 = .ok (.lload 6, 2) := by decide +kernel
theorem dX4_value_137 : decode cX4_value 137 = .ok (.lmul, 1) := by decide +kernel
theorem dX4_value_138 : decode cX4_value 138 = .ok (.lload 6, 2) := by decide +kernel
theorem dX4_value_140 : decode cX4_value 140 = .ok (.lmul, 1) := by decide +kernel
theorem dX4_value_141 : decode cX4_value 141 = .ok (.ladd, 1) := by decide +kernel
theorem dX4_value_142 : decode cX4_value 142 = .ok (.iload_n 3, 1) := by decide +kernel
theorem dX4_value_143 : decode cX4_value 143 = .ok (.i2l, 1) := by decide +kernel
theorem dX4_value_144 : decode cX4_value 144 = .ok (.iload_n 3, 1) := by decide +kernel
theorem dX4_value_145 : decode cX4_value 145 = .ok (.i2l, 1) := by decide +kernel
theorem dX4_value_146 : decode cX4_value 146 = .ok (.lmul, 1) := by decide +kernel
theorem dX4_value_147 : decode cX4_value 147 = .ok (.iload 4, 2) := by decide +kernel
theorem dX4_value_149 : decode cX4_value 149 = .ok (.invokestatic 76, 3) := by decide +kernel
theorem dX4_value_152 : decode cX4_value 152 = .ok (.lreturn, 1) := by decide +kernel
theorem dX4_joinOf_0 : decode cX4_joinOf 0 = .ok (.aload_n 0, 1) := by decide +kernel
theorem dX4_joinOf_1 : decode cX4_joinOf 1 = .ok (.getfield 25, 3) := by decide +kernel
theorem dX4_joinOf_4 : decode cX4_joinOf 4 = .ok (.iload_n 1, 1) := by decide +kernel
theorem dX4_joinOf_5 : decode cX4_joinOf 5 = .ok (.iconst 1, 1) := by decide +kernel
theorem dX4_joinOf_6 : decode cX4_joinOf 6 = .ok (.isub, 1) := by decide +kernel
theorem dX4_joinOf_7 : decode cX4_joinOf 7 = .ok (.laload, 1) := by decide +kernel
theorem dX4_joinOf_8 : decode cX4_joinOf 8 = .ok (.aload_n 0, 1) := by decide +kernel
theorem dX4_joinOf_9 : decode cX4_joinOf 9 = .ok (.getfield 29, 3) := by decide +kernel
theorem dX4_joinOf_12 : decode cX4_joinOf 12 = .ok (.iload_n 1, 1) := by decide +kernel
theorem dX4_joinOf_13 : decode cX4_joinOf 13 = .ok (.iconst 1, 1) := by decide +kernel
theorem dX4_joinOf_14 : decode cX4_joinOf 14 = .ok (.isub, 1) := by decide +kernel
theorem dX4_joinOf_15 : decode cX4_joinOf 15 = .ok (.laload, 1) := by decide +kernel
theorem dX4_joinOf_16 : decode cX4_joinOf 16 = .ok (.ladd, 1) := by decide +kernel
theorem dX4_joinOf_17 : decode cX4_joinOf 17 = .ok (.aload_n 0, 1) := by decide +kernel
theorem dX4_joinOf_18 : decode cX4_joinOf 18 = .ok (.getfield 32, 3) := by decide +kernel
theorem dX4_joinOf_21 : decode cX4_joinOf 21 = .ok (.iload_n 1, 1) := by decide +kernel
theorem dX4_joinOf_22 : decode cX4_joinOf 22 = .ok (.iconst 1, 1) := by decide +kernel
theorem dX4_joinOf_23 : decode cX4_joinOf 23 = .ok (.isub, 1) := by decide +kernel
theorem dX4_joinOf_24 : decode cX4_joinOf 24 = .ok (.laload, 1) := by decide +kernel
theorem dX4_joinOf_25 : decode cX4_joinOf 25 = .ok (.ladd, 1) := by decide +kernel
theorem dX4_joinOf_26 : decode cX4_joinOf 26 = .ok (.aload_n 0, 1) := by decide +kernel
theorem dX4_joinOf_27 : decode cX4_joinOf 27 = .ok (.getfield 25, 3) := by decide +kernel
theorem dX4_joinOf_30 : decode cX4_joinOf 30 = .ok (.iload_n 1, 1) := by decide +kernel
theorem dX4_joinOf_31 : decode cX4_joinOf 31 = .ok (.laload, 1) := by decide +kernel
theorem dX4_joinOf_32 : decode cX4_joinOf 32 = .ok (.lcmp, 1) := by decide +kernel
theorem dX4_joinOf_33 : decode cX4_joinOf 33 = .ok (.ifCond .eq 5, 3) := by decide +kernel
theorem dX4_joinOf_36 : decode cX4_joinOf 36 = .ok (.iconst (-1), 1) := by decide +kernel
theorem dX4_joinOf_37 : decode cX4_joinOf 37 = .ok (.ireturn, 1) := by decide +kernel
theorem dX4_joinOf_38 : decode cX4_joinOf 38 = .ok (.aload_n 0, 1) := by decide +kernel
theorem dX4_joinOf_39 : decode cX4_joinOf 39 = .ok (.getfield 29, 3) := by decide +kernel
theorem dX4_joinOf_42 : decode cX4_joinOf 42 = .ok (.iload_n 1, 1) := by decide +kernel
theorem dX4_joinOf_43 : decode cX4_joinOf 43 = .ok (.iconst 1, 1) := by decide +kernel
theorem dX4_joinOf_44 : decode cX4_joinOf 44 = .ok (.isub, 1) := by decide +kernel
theorem dX4_joinOf_45 : decode cX4_joinOf 45 = .ok (.laload, 1) := by decide +kernel
theorem dX4_joinOf_46 : decode cX4_joinOf 46 = .ok (.ldc2_w 61, 3) := by decide +kernel
theorem dX4_joinOf_49 : decode cX4_joinOf 49 = .ok (.aload_n 0, 1) := by decide +kernel
theorem dX4_joinOf_50 : decode cX4_joinOf 50 = .ok (.getfield 32, 3) := by decide +kernel
theorem dX4_joinOf_53 : decode cX4_joinOf 53 = .ok (.iload_n 1, 1) := by decide +kernel
theorem dX4_joinOf_54 : decode cX4_joinOf 54 = .ok (.iconst 1, 1) := by decide +kernel
theorem dX4_joinOf_55 : decode cX4_joinOf 55 = .ok (.isub, 1) := by decide +kernel
theorem dX4_joinOf_56 : decode cX4_joinOf 56 = .ok (.laload, 1) := by decide +kernel
theorem dX4_joinOf_57 : decode cX4_joinOf 57 = .ok (.lmul, 1) := by decide +kernel
theorem dX4_joinOf_58 : decode cX4_joinOf 58 = .ok (.ladd, 1) := by decide +kernel
theorem dX4_joinOf_59 : decode cX4_joinOf 59 = .ok (.aload_n 0, 1) := by decide +kernel
theorem dX4_joinOf_60 : decode cX4_joinOf 60 = .ok (.getfield 29, 3) := by decide +kernel
theorem dX4_joinOf_63 : decode cX4_joinOf 63 = .ok (.iload_n 1, 1) := by decide +kernel
theorem dX4_joinOf_64 : decode cX4_joinOf 64 = .ok (.laload, 1) := by decide +kernel
theorem dX4_joinOf_65 : decode cX4_joinOf 65 = .ok (.lcmp, 1) := by decide +kernel
theorem dX4_joinOf_66 : decode cX4_joinOf 66 = .ok (.ifCond .eq 7, 3) := by decide +kernel
theorem dX4_joinOf_69 : decode cX4_joinOf 69 = .ok (.iconst 0, 1) := by decide +kernel
theorem dX4_joinOf_70 : decode cX4_joinOf 70 = .ok (.goto 26, 3) := by decide +kernel
theorem dX4_joinOf_73 : decode cX4_joinOf 73 = .ok (.aload_n 0, 1) := by decide +kernel
theorem dX4_joinOf_74 : decode cX4_joinOf 74 = .ok (.getfield 32, 3) := by decide +kernel
theorem dX4_joinOf_77 : decode cX4_joinOf 77 = .ok (.iload_n 1, 1) := by decide +kernel
theorem dX4_joinOf_78 : decode cX4_joinOf 78 = .ok (.iconst 1, 1) := by decide +kernel
theorem dX4_joinOf_79 : decode cX4_joinOf 79 = .ok (.isub, 1) := by decide +kernel
theorem dX4_joinOf_80 : decode cX4_joinOf 80 = .ok (.laload, 1) := by decide +kernel
theorem dX4_joinOf_81 : decode cX4_joinOf 81 = .ok (.aload_n 0, 1) := by decide +kernel
theorem dX4_joinOf_82 : decode cX4_joinOf 82 = .ok (.getfield 32, 3) := by decide +kernel
theorem dX4_joinOf_85 : decode cX4_joinOf 85 = .ok (.iload_n 1, 1) := by decide +kernel
theorem dX4_joinOf_86 : decode cX4_joinOf 86 = .ok (.laload, 1) := by decide +kernel
theorem dX4_joinOf_87 : decode cX4_joinOf 87 = .ok (.lcmp, 1) := by decide +kernel
theorem dX4_joinOf_88 : decode cX4_joinOf 88 = .ok (.ifCond .eq 7, 3) := by decide +kernel
theorem dX4_joinOf_91 : decode cX4_joinOf 91 = .ok (.iconst 1, 1) := by decide +kernel
theorem dX4_joinOf_92 : decode cX4_joinOf 92 = .ok (.goto 4, 3) := by decide +kernel
theorem dX4_joinOf_95 : decode cX4_joinOf 95 = .ok (.iconst 2, 1) := by decide +kernel
theorem dX4_joinOf_96 : decode cX4_joinOf 96 = .ok (.ireturn, 1) := by decide +kernel
theorem dX4_join_0 : decode cX4_join 0 = .ok (.iload_n 1, 1) := by decide +kernel
theorem dX4_join_1 : decode cX4_join 1 = .ok (.invokestatic 51, 3) := by decide +kernel
theorem dX4_join_4 : decode cX4_join 4 = .ok (.ifCond .eq 21, 3) := by decide +kernel
theorem dX4_join_7 : decode cX4_join 7 = .ok (.iload_n 2, 1) := by decide +kernel
theorem dX4_join_8 : decode cX4_join 8 = .ok (.i2l, 1) := by decide +kernel
theorem dX4_join_9 : decode cX4_join 9 = .ok (.lconst 1, 1) := by decide +kernel
theorem dX4_join_10 : decode cX4_join 10 = .ok (.aload_n 0, 1) := by decide +kernel
theorem dX4_join_11 : decode cX4_join 11 = .ok (.getfield 7, 3) := by decide +kernel
theorem dX4_join_14 : decode cX4_join 14 = .ok (.iload_n 1, 1) := by decide +kernel
theorem dX4_join_15 : decode cX4_join 15 = .ok (.iaload, 1) := by decide +kernel
theorem dX4_join_16 : decode cX4_join 16 = .ok (.iconst 1, 1) := by decide +kernel
theorem dX4_join_17 : decode cX4_join 17 = .ok (.isub, 1) := by decide +kernel
theorem dX4_join_18 : decode cX4_join 18 = .ok (.i2l, 1) := by decide +kernel
theorem dX4_join_19 : decode cX4_join 19 = .ok (.invokestatic 43, 3) := by decide +kernel
theorem dX4_join_22 : decode cX4_join 22 = .ok (.ifCond .ne 6, 3) := by decide +kernel
theorem dX4_join_25 : decode cX4_join 25 = .ok (.bipush (-2), 2) := by decide +kernel
theorem dX4_join_27 : decode cX4_join 27 = .ok (.ireturn, 1) := by decide +kernel
theorem dX4_join_28 : decode cX4_join 28 = .ok (.aload_n 0, 1) := by decide +kernel
theorem dX4_join_29 : decode cX4_join 29 = .ok (.iload_n 1, 1) := by decide +kernel
theorem dX4_join_30 : decode cX4_join 30 = .ok (.invokevirtual 80, 3) := by decide +kernel
theorem dX4_join_33 : decode cX4_join 33 = .ok (.aload_n 0, 1) := by decide +kernel
theorem dX4_join_34 : decode cX4_join 34 = .ok (.iload_n 2, 1) := by decide +kernel
theorem dX4_join_35 : decode cX4_join 35 = .ok (.invokevirtual 84, 3) := by decide +kernel
theorem dX4_join_38 : decode cX4_join 38 = .ok (.ireturn, 1) := by decide +kernel
theorem dX4_hasShape_0 : decode cX4_hasShape 0 = .ok (.iload_n 1, 1) := by decide +kernel
theorem dX4_hasShape_1 : decode cX4_hasShape 1 = .ok (.iconst 2, 1) := by decide +kernel
theorem dX4_hasShape_2 : decode cX4_hasShape 2 = .ok (.irem, 1) := by decide +kernel
theorem dX4_hasShape_3 : decode cX4_hasShape 3 = .ok (.iconst 1, 1) := by decide +kernel
theorem dX4_hasShape_4 : decode cX4_hasShape 4 = .ok (.if_icmp .ne 7, 3) := by decide +kernel
theorem dX4_hasShape_7 : decode cX4_hasShape 7 = .ok (.lconst 1, 1) := by decide +kernel
theorem dX4_hasShape_8 : decode cX4_hasShape 8 = .ok (.goto 6, 3) := by decide +kernel
theorem dX4_hasShape_11 : decode cX4_hasShape 11 = .ok (.ldc2_w 88, 3) := by decide +kernel
theorem dX4_hasShape_14 : decode cX4_hasShape 14 = .ok (.lstore_n 2, 1) := by decide +kernel
theorem dX4_hasShape_15 : decode cX4_hasShape 15 = .ok (.iconst 1, 1) := by decide +kernel
theorem dX4_hasShape_16 : decode cX4_hasShape 16 = .ok (.istore 4, 2) := by decide +kernel
theorem dX4_hasShape_18 : decode cX4_hasShape 18 = .ok (.iconst 0, 1) := by decide +kernel
theorem dX4_hasShape_19 : decode cX4_hasShape 19 = .ok (.istore 5, 2) := by decide +kernel
theorem dX4_hasShape_21 : decode cX4_hasShape 21 = .ok (.iload 5, 2) := by decide +kernel
theorem dX4_hasShape_23 : decode cX4_hasShape 23 = .ok (.aload_n 0, 1) := by decide +kernel
theorem dX4_hasShape_24 : decode cX4_hasShape 24 = .ok (.getfield 64, 3) := by decide +kernel
theorem dX4_hasShape_27 : decode cX4_hasShape 27 = .ok (.if_icmp .ge 191, 3) := by decide +kernel
theorem dX4_hasShape_30 : decode cX4_hasShape 30 = .ok (.lload_n 2, 1) := by decide +kernel
theorem dX4_hasShape_31 : decode cX4_hasShape 31 = .ok (.aload_n 0, 1) := by decide +kernel
theorem dX4_hasShape_32 : decode cX4_hasShape 32 = .ok (.getfield 29, 3) := by decide +kernel
theorem dX4_hasShape_35 : decode cX4_hasShape 35 = .ok (.iload 5, 2) := by decide +kernel
theorem dX4_hasShape_37 : decode cX4_hasShape 37 = .ok (.laload, 1) := by decide +kernel
theorem dX4_hasShape_38 : decode cX4_hasShape 38 = .ok (.lmul, 1) := by decide +kernel
theorem dX4_hasShape_39 : decode cX4_hasShape 39 = .ok (.lstore 6, 2) := by decide +kernel
theorem dX4_hasShape_41 : decode cX4_hasShape 41 = .ok (.lload_n 2, 1) := by decide +kernel
theorem dX4_hasShape_42 : decode cX4_hasShape 42 = .ok (.aload_n 0, 1) := by decide +kernel
theorem dX4_hasShape_43 : decode cX4_hasShape 43 = .ok (.getfield 29, 3) := by decide +kernel
theorem dX4_hasShape_46 : decode cX4_hasShape 46 = .ok (.iload 5, 2) := by decide +kernel
theorem dX4_hasShape_48 : decode cX4_hasShape 48 = .ok (.laload, 1) := by decide +kernel
theorem dX4_hasShape_49 : decode cX4_hasShape 49 = .ok (.ldc2_w 61, 3) := by decide +kernel
theorem dX4_hasShape_52 : decode cX4_hasShape 52 = .ok (.aload_n 0, 1) := by decide +kernel
theorem dX4_hasShape_53 : decode cX4_hasShape 53 = .ok (.getfield 32, 3) := by decide +kernel
theorem dX4_hasShape_56 : decode cX4_hasShape 56 = .ok (.iload 5, 2) := by decide +kernel
theorem dX4_hasShape_58 : decode cX4_hasShape 58 = .ok (.laload, 1) := by decide +kernel
theorem dX4_hasShape_59 : decode cX4_hasShape 59 = .ok (.lmul, 1) := by decide +kernel
theorem dX4_hasShape_60 : decode cX4_hasShape 60 = .ok (.ladd, 1) := by decide +kernel
theorem dX4_hasShape_61 : decode cX4_hasShape 61 = .ok (.lmul, 1) := by decide +kernel
theorem dX4_hasShape_62 : decode cX4_hasShape 62 = .ok (.lstore 8, 2) := by decide +kernel
theorem dX4_hasShape_64 : decode cX4_hasShape 64 = .ok (.iload_n 1, 1) := by decide +kernel
theorem dX4_hasShape_65 : decode cX4_hasShape 65 = .ok (.iconst 3, 1) := by decide +kernel
theorem dX4_hasShape_66 : decode cX4_hasShape 66 = .ok (.if_icmp .ge 81, 3) := by decide +kernel
theorem dX4_hasShape_69 : decode cX4_hasShape 69 = .ok (.iload 4, 2) := by decide +kernel
theorem dX4_hasShape_71 : decode cX4_hasShape 71 = .ok (.ifCond .eq 70, 3) := by decide +kernel
theorem dX4_hasShape_74 : decode cX4_hasShape 74 = .ok (.lload 6, 2) := by decide +kernel
theorem dX4_hasShape_76 : decode cX4_hasShape 76 = .ok (.lconst 0, 1) := by decide +kernel
theorem dX4_hasShape_77 : decode cX4_hasShape 77 = .ok (.lcmp, 1) := by decide +kernel
theorem dX4_hasShape_78 : decode cX4_hasShape 78 = .ok (.ifCond .lt 63, 3) := by decide +kernel
theorem dX4_hasShape_81 : decode cX4_hasShape 81 = .ok (.lload 8, 2) := by decide +kernel
theorem dX4_hasShape_83 : decode cX4_hasShape 83 = .ok (.lconst 0, 1) := by decide +kernel
theorem dX4_hasShape_84 : decode cX4_hasShape 84 = .ok (.lcmp, 1) := by decide +kernel
theorem dX4_hasShape_85 : decode cX4_hasShape 85 = .ok (.ifCond .lt 56, 3) := by decide +kernel
theorem dX4_hasShape_88 : decode cX4_hasShape 88 = .ok (.iload 5, 2) := by decide +kernel
theorem dX4_hasShape_90 : decode cX4_hasShape 90 = .ok (.ifCond .eq 47, 3) := by decide +kernel
theorem dX4_hasShape_93 : decode cX4_hasShape 93 = .ok (.lload_n 2, 1) := by decide +kernel
theorem dX4_hasShape_94 : decode cX4_hasShape 94 = .ok (.aload_n 0, 1) := by decide +kernel
theorem dX4_hasShape_95 : decode cX4_hasShape 95 = .ok (.getfield 25, 3) := by decide +kernel
theorem dX4_hasShape_98 : decode cX4_hasShape 98 = .ok (.iload 5, 2) := by decide +kernel
theorem dX4_hasShape_100 : decode cX4_hasShape 100 = .ok (.laload, 1) := by decide +kernel
theorem dX4_hasShape_101 : decode cX4_hasShape 101 = .ok (.lmul, 1) := by decide +kernel
theorem dX4_hasShape_102 : decode cX4_hasShape 102 = .ok (.lload_n 2, 1) := by decide +kernel
theorem dX4_hasShape_103 : decode cX4_hasShape 103 = .ok (.aload_n 0, 1) := by decide +kernel
theorem dX4_hasShape_104 : decode cX4_hasShape 104 = .ok (.getfield 25, 3) := by decide +kernel
theorem dX4_hasShape_107 : decode cX4_hasShape 107 = .ok (.iload 5, 2) := by decide +kernel
theorem dX4_hasShape_109 : decode cX4_hasShape 109 = .ok (.iconst 1, 1) := by decide +kernel
theorem dX4_hasShape_110 : decode cX4_hasShape 110 = .ok (.isub, 1) := by decide +kernel
theorem dX4_hasShape_111 : decode cX4_hasShape 111 = .ok (.laload, 1) := by decide +kernel
theorem dX4_hasShape_112 : decode cX4_hasShape 112 = .ok (.aload_n 0, 1) := by decide +kernel
theorem dX4_hasShape_113 : decode cX4_hasShape 113 = .ok (.getfield 29, 3) := by decide +kernel
theorem dX4_hasShape_116 : decode cX4_hasShape 116 = .ok (.iload 5, 2) := by decide +kernel
theorem dX4_hasShape_118 : decode cX4_hasShape 118 = .ok (.iconst 1, 1) := by decide +kernel
theorem dX4_hasShape_119 : decode cX4_hasShape 119 = .ok (.isub, 1) := by decide +kernel
theorem dX4_hasShape_120 : decode cX4_hasShape 120 = .ok (.laload, 1) := by decide +kernel
theorem dX4_hasShape_121 : decode cX4_hasShape 121 = .ok (.ladd, 1) := by decide +kernel
theorem dX4_hasShape_122 : decode cX4_hasShape 122 = .ok (.aload_n 0, 1) := by decide +kernel
theorem dX4_hasShape_123 : decode cX4_hasShape 123 = .ok (.getfield 32, 3) := by decide +kernel
theorem dX4_hasShape_126 : decode cX4_hasShape 126 = .ok (.iload 5, 2) := by decide +kernel
theorem dX4_hasShape_128 : decode cX4_hasShape 128 = .ok (.iconst 1, 1) := by decide +kernel
theorem dX4_hasShape_129 : decode cX4_hasShape 129 = .ok (.isub, 1) := by decide +kernel
theorem dX4_hasShape_130 : decode cX4_hasShape 130 = .ok (.laload, 1) := by decide +kernel
theorem dX4_hasShape_131 : decode cX4_hasShape 131 = .ok (.ladd, 1) := by decide +kernel
theorem dX4_hasShape_132 : decode cX4_hasShape 132 = .ok (.lmul, 1) := by decide +kernel
theorem dX4_hasShape_133 : decode cX4_hasShape 133 = .ok (.lcmp, 1) := by decide +kernel
theorem dX4_hasShape_134 : decode cX4_hasShape 134 = .ok (.ifCond .lt 7, 3) := by decide +kernel
theorem dX4_hasShape_137 : decode cX4_hasShape 137 = .ok (.iconst 1, 1) := by decide +kernel
theorem dX4_hasShape_138 : decode cX4_hasShape 138 = .ok (.goto 4, 3) := by decide +kernel
theorem dX4_hasShape_141 : decode cX4_hasShape 141 = .ok (.iconst 0, 1) := by decide +kernel
theorem dX4_hasShape_142 : decode cX4_hasShape 142 = .ok (.istore 4, 2) := by decide +kernel
theorem dX4_hasShape_144 : decode cX4_hasShape 144 = .ok (.goto 68, 3) := by decide +kernel
theorem dX4_hasShape_147 : decode cX4_hasShape 147 = .ok (.iload 4, 2) := by decide +kernel
theorem dX4_hasShape_149 : decode cX4_hasShape 149 = .ok (.ifCond .eq 60, 3) := by decide +kernel
theorem dX4_hasShape_152 : decode cX4_hasShape 152 = .ok (.lload 8, 2) := by decide +kernel
theorem dX4_hasShape_154 : decode cX4_hasShape 154 = .ok (.lload 6, 2) := by decide +kernel
theorem dX4_hasShape_156 : decode cX4_hasShape 156 = .ok (.lcmp, 1) := by decide +kernel
theorem dX4_hasShape_157 : decode cX4_hasShape 157 = .ok (.ifCond .lt 52, 3) := by decide +kernel
theorem dX4_hasShape_160 : decode cX4_hasShape 160 = .ok (.iload 5, 2) := by decide +kernel
theorem dX4_hasShape_162 : decode cX4_hasShape 162 = .ok (.ifCond .eq 43, 3) := by decide +kernel
theorem dX4_hasShape_165 : decode cX4_hasShape 165 = .ok (.aload_n 0, 1) := by decide +kernel
theorem dX4_hasShape_166 : decode cX4_hasShape 166 = .ok (.iload 5, 2) := by decide +kernel
theorem dX4_hasShape_168 : decode cX4_hasShape 168 = .ok (.invokevirtual 84, 3) := by decide +kernel
theorem dX4_hasShape_171 : decode cX4_hasShape 171 = .ok (.ifCond .lt 38, 3) := by decide +kernel
theorem dX4_hasShape_174 : decode cX4_hasShape 174 = .ok (.lload 6, 2) := by decide +kernel
theorem dX4_hasShape_176 : decode cX4_hasShape 176 = .ok (.lload_n 2, 1) := by decide +kernel
theorem dX4_hasShape_177 : decode cX4_hasShape 177 = .ok (.aload_n 0, 1) := by decide +kernel
theorem dX4_hasShape_178 : decode cX4_hasShape 178 = .ok (.getfield 29, 3) := by decide +kernel
theorem dX4_hasShape_181 : decode cX4_hasShape 181 = .ok (.iload 5, 2) := by decide +kernel
theorem dX4_hasShape_183 : decode cX4_hasShape 183 = .ok (.iconst 1, 1) := by decide +kernel
theorem dX4_hasShape_184 : decode cX4_hasShape 184 = .ok (.isub, 1) := by decide +kernel
theorem dX4_hasShape_185 : decode cX4_hasShape 185 = .ok (.laload, 1) := by decide +kernel
theorem dX4_hasShape_186 : decode cX4_hasShape 186 = .ok (.ldc2_w 61, 3) := by decide +kernel
theorem dX4_hasShape_189 : decode cX4_hasShape 189 = .ok (.aload_n 0, 1) := by decide +kernel
theorem dX4_hasShape_190 : decode cX4_hasShape 190 = .ok (.getfield 32, 3) := by decide +kernel
theorem dX4_hasShape_193 : decode cX4_hasShape 193 = .ok (.iload 5, 2) := by decide +kernel
theorem dX4_hasShape_195 : decode cX4_hasShape 195 = .ok (.iconst 1, 1) := by decide +kernel
theorem dX4_hasShape_196 : decode cX4_hasShape 196 = .ok (.isub, 1) := by decide +kernel
theorem dX4_hasShape_197 : decode cX4_hasShape 197 = .ok (.laload, 1) := by decide +kernel
theorem dX4_hasShape_198 : decode cX4_hasShape 198 = .ok (.lmul, 1) := by decide +kernel
theorem dX4_hasShape_199 : decode cX4_hasShape 199 = .ok (.ladd, 1) := by decide +kernel
theorem dX4_hasShape_200 : decode cX4_hasShape 200 = .ok (.lmul, 1) := by decide +kernel
theorem dX4_hasShape_201 : decode cX4_hasShape 201 = .ok (.lcmp, 1) := by decide +kernel
theorem dX4_hasShape_202 : decode cX4_hasShape 202 = .ok (.ifCond .lt 7, 3) := by decide +kernel
theorem dX4_hasShape_205 : decode cX4_hasShape 205 = .ok (.iconst 1, 1) := by decide +kernel
theorem dX4_hasShape_206 : decode cX4_hasShape 206 = .ok (.goto 4, 3) := by decide +kernel
theorem dX4_hasShape_209 : decode cX4_hasShape 209 = .ok (.iconst 0, 1) := by decide +kernel
theorem dX4_hasShape_210 : decode cX4_hasShape 210 = .ok (.istore 4, 2) := by decide +kernel
theorem dX4_hasShape_212 : decode cX4_hasShape 212 = .ok (.iinc 5 1, 3) := by decide +kernel
theorem dX4_hasShape_215 : decode cX4_hasShape 215 = .ok (.goto (-194), 3) := by decide +kernel
theorem dX4_hasShape_218 : decode cX4_hasShape 218 = .ok (.iload 4, 2) := by decide +kernel
theorem dX4_hasShape_220 : decode cX4_hasShape 220 = .ok (.ireturn, 1) := by decide +kernel
theorem dX4_has_0 : decode cX4_has 0 = .ok (.iload_n 1, 1) := by decide +kernel
theorem dX4_has_1 : decode cX4_has 1 = .ok (.invokestatic 51, 3) := by decide +kernel
theorem dX4_has_4 : decode cX4_has 4 = .ok (.ifCond .ne 6, 3) := by decide +kernel
theorem dX4_has_7 : decode cX4_has 7 = .ok (.bipush (-2), 2) := by decide +kernel
theorem dX4_has_9 : decode cX4_has 9 = .ok (.ireturn, 1) := by decide +kernel
theorem dX4_has_10 : decode cX4_has 10 = .ok (.iload_n 2, 1) := by decide +kernel
theorem dX4_has_11 : decode cX4_has 11 = .ok (.i2l, 1) := by decide +kernel
theorem dX4_has_12 : decode cX4_has 12 = .ok (.lconst 1, 1) := by decide +kernel
theorem dX4_has_13 : decode cX4_has 13 = .ok (.ldc2_w 90, 3) := by decide +kernel
theorem dX4_has_16 : decode cX4_has 16 = .ok (.invokestatic 43, 3) := by decide +kernel
theorem dX4_has_19 : decode cX4_has 19 = .ok (.ifCond .ne 6, 3) := by decide +kernel
theorem dX4_has_22 : decode cX4_has 22 = .ok (.bipush (-3), 2) := by decide +kernel
theorem dX4_has_24 : decode cX4_has 24 = .ok (.ireturn, 1) := by decide +kernel
theorem dX4_has_25 : decode cX4_has 25 = .ok (.aload_n 0, 1) := by decide +kernel
theorem dX4_has_26 : decode cX4_has 26 = .ok (.iload_n 1, 1) := by decide +kernel
theorem dX4_has_27 : decode cX4_has 27 = .ok (.invokevirtual 80, 3) := by decide +kernel
theorem dX4_has_30 : decode cX4_has 30 = .ok (.aload_n 0, 1) := by decide +kernel
theorem dX4_has_31 : decode cX4_has 31 = .ok (.iload_n 2, 1) := by decide +kernel
theorem dX4_has_32 : decode cX4_has 32 = .ok (.invokevirtual 92, 3) := by decide +kernel
theorem dX4_has_35 : decode cX4_has 35 = .ok (.ifCond .eq 7, 3) := by decide +kernel
theorem dX4_has_38 : decode cX4_has 38 = .ok (.iconst 1, 1) := by decide +kernel
theorem dX4_has_39 : decode cX4_has 39 = .ok (.goto 4, 3) := by decide +kernel
theorem dX4_has_42 : decode cX4_has 42 = .ok (.iconst 0, 1) := by decide +kernel
theorem dX4_has_43 : decode cX4_has 43 = .ok (.ireturn, 1) := by decide +kernel
theorem dX4_end_0 : decode cX4_end 0 = .ok (.iload_n 1, 1) := by decide +kernel
theorem dX4_end_1 : decode cX4_end 1 = .ok (.invokestatic 51, 3) := by decide +kernel
theorem dX4_end_4 : decode cX4_end 4 = .ok (.ifCond .eq 13, 3) := by decide +kernel
theorem dX4_end_7 : decode cX4_end 7 = .ok (.iload_n 2, 1) := by decide +kernel
theorem dX4_end_8 : decode cX4_end 8 = .ok (.i2l, 1) := by decide +kernel
theorem dX4_end_9 : decode cX4_end 9 = .ok (.lconst 0, 1) := by decide +kernel
theorem dX4_end_10 : decode cX4_end 10 = .ok (.lconst 1, 1) := by decide +kernel
theorem dX4_end_11 : decode cX4_end 11 = .ok (.invokestatic 43, 3) := by decide +kernel
theorem dX4_end_14 : decode cX4_end 14 = .ok (.ifCond .ne 6, 3) := by decide +kernel
theorem dX4_end_17 : decode cX4_end 17 = .ok (.ldc 63, 2) := by decide +kernel
theorem dX4_end_19 : decode cX4_end 19 = .ok (.ireturn, 1) := by decide +kernel
theorem dX4_end_20 : decode cX4_end 20 = .ok (.aload_n 0, 1) := by decide +kernel
theorem dX4_end_21 : decode cX4_end 21 = .ok (.iload_n 1, 1) := by decide +kernel
theorem dX4_end_22 : decode cX4_end 22 = .ok (.invokevirtual 80, 3) := by decide +kernel
theorem dX4_end_25 : decode cX4_end 25 = .ok (.iload_n 2, 1) := by decide +kernel
theorem dX4_end_26 : decode cX4_end 26 = .ok (.ifCond .ne 7, 3) := by decide +kernel
theorem dX4_end_29 : decode cX4_end 29 = .ok (.lconst 1, 1) := by decide +kernel
theorem dX4_end_30 : decode cX4_end 30 = .ok (.goto 6, 3) := by decide +kernel
theorem dX4_end_33 : decode cX4_end 33 = .ok (.ldc2_w 88, 3) := by decide +kernel
theorem dX4_end_36 : decode cX4_end 36 = .ok (.lstore_n 3, 1) := by decide +kernel
theorem dX4_end_37 : decode cX4_end 37 = .ok (.lload_n 3, 1) := by decide +kernel
theorem dX4_end_38 : decode cX4_end 38 = .ok (.aload_n 0, 1) := by decide +kernel
theorem dX4_end_39 : decode cX4_end 39 = .ok (.getfield 25, 3) := by decide +kernel
theorem dX4_end_42 : decode cX4_end 42 = .ok (.iconst 0, 1) := by decide +kernel
theorem dX4_end_43 : decode cX4_end 43 = .ok (.laload, 1) := by decide +kernel
theorem dX4_end_44 : decode cX4_end 44 = .ok (.lmul, 1) := by decide +kernel
theorem dX4_end_45 : decode cX4_end 45 = .ok (.lstore 5, 2) := by decide +kernel
theorem dX4_end_47 : decode cX4_end 47 = .ok (.iconst 0, 1) := by decide +kernel
theorem dX4_end_48 : decode cX4_end 48 = .ok (.istore 7, 2) := by decide +kernel
theorem dX4_end_50 : decode cX4_end 50 = .ok (.iload 7, 2) := by decide +kernel
theorem dX4_end_52 : decode cX4_end 52 = .ok (.aload_n 0, 1) := by decide +kernel
theorem dX4_end_53 : decode cX4_end 53 = .ok (.getfield 64, 3) := by decide +kernel
theorem dX4_end_56 : decode cX4_end 56 = .ok (.if_icmp .ge 160, 3) := by decide +kernel
theorem dX4_end_59 : decode cX4_end 59 = .ok (.lload_n 3, 1) := by decide +kernel
theorem dX4_end_60 : decode cX4_end 60 = .ok (.aload_n 0, 1) := by decide +kernel
theorem dX4_end_61 : decode cX4_end 61 = .ok (.getfield 25, 3) := by decide +kernel
theorem dX4_end_64 : decode cX4_end 64 = .ok (.iload 7, 2) := by decide +kernel
theorem dX4_end_66 : decode cX4_end 66 = .ok (.laload, 1) := by decide +kernel
theorem dX4_end_67 : decode cX4_end 67 = .ok (.lmul, 1) := by decide +kernel
theorem dX4_end_68 : decode cX4_end 68 = .ok (.lstore 8, 2) := by decide +kernel
theorem dX4_end_70 : decode cX4_end 70 = .ok (.lload_n 3, 1) := by decide +kernel
theorem dX4_end_71 : decode cX4_end 71 = .ok (.aload_n 0, 1) := by decide +kernel
theorem dX4_end_72 : decode cX4_end 72 = .ok (.getfield 29, 3) := by decide +kernel
theorem dX4_end_75 : decode cX4_end 75 = .ok (.iload 7, 2) := by decide +kernel
theorem dX4_end_77 : decode cX4_end 77 = .ok (.laload, 1) := by decide +kernel
theorem dX4_end_78 : decode cX4_end 78 = .ok (.lmul, 1) := by decide +kernel
theorem dX4_end_79 : decode cX4_end 79 = .ok (.lstore 10, 2) := by decide +kernel
theorem dX4_end_81 : decode cX4_end 81 = .ok (.lload_n 3, 1) := by decide +kernel
theorem dX4_end_82 : decode cX4_end 82 = .ok (.aload_n 0, 1) := by decide +kernel
theorem dX4_end_83 : decode cX4_end 83 = .ok (.getfield 32, 3) := by decide +kernel
theorem dX4_end_86 : decode cX4_end 86 = .ok (.iload 7, 2) := by decide +kernel
theorem dX4_end_88 : decode cX4_end 88 = .ok (.laload, 1) := by decide +kernel
theorem dX4_end_89 : decode cX4_end 89 = .ok (.lmul, 1) := by decide +kernel
theorem dX4_end_90 : decode cX4_end 90 = .ok (.lstore 12, 2) := by decide +kernel
theorem dX4_end_92 : decode cX4_end 92 = .ok (.lload 8, 2) := by decide +kernel
theorem dX4_end_94 : decode cX4_end 94 = .ok (.lload 5, 2) := by decide +kernel
theorem dX4_end_96 : decode cX4_end 96 = .ok (.lcmp, 1) := by decide +kernel
theorem dX4_end_97 : decode cX4_end 97 = .ok (.ifCond .le 8, 3) := by decide +kernel
theorem dX4_end_100 : decode cX4_end 100 = .ok (.lload 8, 2) := by decide +kernel
theorem dX4_end_102 : decode cX4_end 102 = .ok (.goto 5, 3) := by decide +kernel
theorem dX4_end_105 : decode cX4_end 105 = .ok (.lload 5, 2) := by decide +kernel
theorem dX4_end_107 : decode cX4_end 107 = .ok (.lstore 5, 2) := by decide +kernel
theorem dX4_end_109 : decode cX4_end 109 = .ok (.lload 8, 2) := by decide +kernel
theorem dX4_end_111 : decode cX4_end 111 = .ok (.lload 10, 2) := by decide +kernel
theorem dX4_end_113 : decode cX4_end 113 = .ok (.ladd, 1) := by decide +kernel
theorem dX4_end_114 : decode cX4_end 114 = .ok (.lload 12, 2) := by decide +kernel
theorem dX4_end_116 : decode cX4_end 116 = .ok (.ladd, 1) := by decide +kernel
theorem dX4_end_117 : decode cX4_end 117 = .ok (.lload 5, 2) := by decide +kernel
theorem dX4_end_119 : decode cX4_end 119 = .ok (.lcmp, 1) := by decide +kernel
theorem dX4_end_120 : decode cX4_end 120 = .ok (.ifCond .le 14, 3) := by decide +kernel
theorem dX4_end_123 : decode cX4_end 123 = .ok (.lload 8, 2) := by decide +kernel
theorem dX4_end_125 : decode cX4_end 125 = .ok (.lload 10, 2) := by decide +kernel
theorem dX4_end_127 : decode cX4_end 127 = .ok (.ladd, 1) := by decide +kernel
theorem dX4_end_128 : decode cX4_end 128 = .ok (.lload 12, 2) := by decide +kernel
theorem dX4_end_130 : decode cX4_end 130 = .ok (.ladd, 1) := by decide +kernel
theorem dX4_end_131 : decode cX4_end 131 = .ok (.goto 5, 3) := by decide +kernel
theorem dX4_end_134 : decode cX4_end 134 = .ok (.lload 5, 2) := by decide +kernel
theorem dX4_end_136 : decode cX4_end 136 = .ok (.lstore 5, 2) := by decide +kernel
theorem dX4_end_138 : decode cX4_end 138 = .ok (.lload 12, 2) := by decide +kernel
theorem dX4_end_140 : decode cX4_end 140 = .ok (.lconst 0, 1) := by decide +kernel
theorem dX4_end_141 : decode cX4_end 141 = .ok (.lcmp, 1) := by decide +kernel
theorem dX4_end_142 : decode cX4_end 142 = .ok (.ifCond .ge 68, 3) := by decide +kernel
theorem dX4_end_145 : decode cX4_end 145 = .ok (.lload 10, 2) := by decide +kernel
theorem dX4_end_147 : decode cX4_end 147 = .ok (.lconst 0, 1) := by decide +kernel
theorem dX4_end_148 : decode cX4_end 148 = .ok (.lcmp, 1) := by decide +kernel
theorem dX4_end_149 : decode cX4_end 149 = .ok (.ifCond .le 61, 3) := by decide +kernel
theorem dX4_end_152 : decode cX4_end 152 = .ok (.lload 10, 2) := by decide +kernel
theorem dX4_end_154 : decode cX4_end 154 = .ok (.ldc2_w 95, 3) := by decide +kernel
theorem dX4_end_157 : decode cX4_end 157 = .ok (.lload 12, 2) := by decide +kernel
theorem dX4_end_159 : decode cX4_end 159 = .ok (.lmul, 1) := by decide +kernel
theorem dX4_end_160 : decode cX4_end 160 = .ok (.lcmp, 1) := by decide +kernel
theorem dX4_end_161 : decode cX4_end 161 = .ok (.ifCond .ge 49, 3) := by decide +kernel
theorem dX4_end_164 : decode cX4_end 164 = .ok (.lload 10, 2) := by decide +kernel
theorem dX4_end_166 : decode cX4_end 166 = .ok (.lload 10, 2) := by decide +kernel
theorem dX4_end_168 : decode cX4_end 168 = .ok (.lmul, 1) := by decide +kernel
theorem dX4_end_169 : decode cX4_end 169 = .ok (.ldc2_w 97, 3) := by decide +kernel
theorem dX4_end_172 : decode cX4_end 172 = .ok (.lload 12, 2) := by decide +kernel
theorem dX4_end_174 : decode cX4_end 174 = .ok (.lmul, 1) := by decide +kernel
theorem dX4_end_175 : decode cX4_end 175 = .ok (.ladd, 1) := by decide +kernel
theorem dX4_end_176 : decode cX4_end 176 = .ok (.lconst 1, 1) := by decide +kernel
theorem dX4_end_177 : decode cX4_end 177 = .ok (.lsub, 1) := by decide +kernel
theorem dX4_end_178 : decode cX4_end 178 = .ok (.ldc2_w 97, 3) := by decide +kernel
theorem dX4_end_181 : decode cX4_end 181 = .ok (.lload 12, 2) := by decide +kernel
theorem dX4_end_183 : decode cX4_end 183 = .ok (.lmul, 1) := by decide +kernel
theorem dX4_end_184 : decode cX4_end 184 = .ok (.ldiv, 1) := by decide +kernel
theorem dX4_end_185 : decode cX4_end 185 = .ok (.lstore 14, 2) := by decide +kernel
theorem dX4_end_187 : decode cX4_end 187 = .ok (.lload 8, 2) := by decide +kernel
theorem dX4_end_189 : decode cX4_end 189 = .ok (.lload 14, 2) := by decide +kernel
theorem dX4_end_191 : decode cX4_end 191 = .ok (.ladd, 1) := by decide +kernel
theorem dX4_end_192 : decode cX4_end 192 = .ok (.lload 5, 2) := by decide +kernel
theorem dX4_end_194 : decode cX4_end 194 = .ok (.lcmp, 1) := by decide +kernel
theorem dX4_end_195 : decode cX4_end 195 = .ok (.ifCond .le 11, 3) := by decide +kernel
theorem dX4_end_198 : decode cX4_end 198 = .ok (.lload 8, 2) := by decide +kernel
theorem dX4_end_200 : decode cX4_end 200 = .ok (.lload 14, 2) := by decide +kernel
theorem dX4_end_202 : decode cX4_end 202 = .ok (.ladd, 1) := by decide +kernel
theorem dX4_end_203 : decode cX4_end 203 = .ok (.goto 5, 3) := by decide +kernel
theorem dX4_end_206 : decode cX4_end 206 = .ok (.lload 5, 2) := by decide +kernel
theorem dX4_end_208 : decode cX4_end 208 = .ok (.lstore 5, 2) := by decide +kernel
theorem dX4_end_210 : decode cX4_end 210 = .ok (.iinc 7 1, 3) := by decide +kernel
theorem dX4_end_213 : decode cX4_end 213 = .ok (.goto (-163), 3) := by decide +kernel
theorem dX4_end_216 : decode cX4_end 216 = .ok (.lload_n 3, 1) := by decide +kernel
theorem dX4_end_217 : decode cX4_end 217 = .ok (.lload 5, 2) := by decide +kernel
theorem dX4_end_219 : decode cX4_end 219 = .ok (.lmul, 1) := by decide +kernel
theorem dX4_end_220 : decode cX4_end 220 = .ok (.l2i, 1) := by decide +kernel
theorem dX4_end_221 : decode cX4_end 221 = .ok (.ireturn, 1) := by decide +kernel
theorem dX4_at_0 : decode cX4_at 0 = .ok (.ldc2_w 99, 3) := by decide +kernel
theorem dX4_at_3 : decode cX4_at 3 = .ok (.aload_n 0, 1) := by decide +kernel
theorem dX4_at_4 : decode cX4_at 4 = .ok (.getfield 25, 3) := by decide +kernel
theorem dX4_at_7 : decode cX4_at 7 = .ok (.iload_n 1, 1) := by decide +kernel
theorem dX4_at_8 : decode cX4_at 8 = .ok (.laload, 1) := by decide +kernel
theorem dX4_at_9 : decode cX4_at 9 = .ok (.lmul, 1) := by decide +kernel
theorem dX4_at_10 : decode cX4_at 10 = .ok (.ldc2_w 72, 3) := by decide +kernel
theorem dX4_at_13 : decode cX4_at 13 = .ok (.iload_n 2, 1) := by decide +kernel
theorem dX4_at_14 : decode cX4_at 14 = .ok (.i2l, 1) := by decide +kernel
theorem dX4_at_15 : decode cX4_at 15 = .ok (.lmul, 1) := by decide +kernel
theorem dX4_at_16 : decode cX4_at 16 = .ok (.aload_n 0, 1) := by decide +kernel
theorem dX4_at_17 : decode cX4_at 17 = .ok (.getfield 29, 3) := by decide +kernel
theorem dX4_at_20 : decode cX4_at 20 = .ok (.iload_n 1, 1) := by decide +kernel
theorem dX4_at_21 : decode cX4_at 21 = .ok (.laload, 1) := by decide +kernel
theorem dX4_at_22 : decode cX4_at 22 = .ok (.lmul, 1) := by decide +kernel
theorem dX4_at_23 : decode cX4_at 23 = .ok (.ladd, 1) := by decide +kernel
theorem dX4_at_24 : decode cX4_at 24 = .ok (.iload_n 2, 1) := by decide +kernel
theorem dX4_at_25 : decode cX4_at 25 = .ok (.i2l, 1) := by decide +kernel
theorem dX4_at_26 : decode cX4_at 26 = .ok (.iload_n 2, 1) := by decide +kernel
theorem dX4_at_27 : decode cX4_at 27 = .ok (.i2l, 1) := by decide +kernel
theorem dX4_at_28 : decode cX4_at 28 = .ok (.lmul, 1) := by decide +kernel
theorem dX4_at_29 : decode cX4_at 29 = .ok (.aload_n 0, 1) := by decide +kernel
theorem dX4_at_30 : decode cX4_at 30 = .ok (.getfield 32, 3) := by decide +kernel
theorem dX4_at_33 : decode cX4_at 33 = .ok (.iload_n 1, 1) := by decide +kernel
theorem dX4_at_34 : decode cX4_at 34 = .ok (.laload, 1) := by decide +kernel
theorem dX4_at_35 : decode cX4_at 35 = .ok (.lmul, 1) := by decide +kernel
theorem dX4_at_36 : decode cX4_at 36 = .ok (.ladd, 1) := by decide +kernel
theorem dX4_at_37 : decode cX4_at 37 = .ok (.lreturn, 1) := by decide +kernel
theorem dX4_slopeAt_0 : decode cX4_slopeAt 0 = .ok (.ldc2_w 72, 3) := by decide +kernel
theorem dX4_slopeAt_3 : decode cX4_slopeAt 3 = .ok (.aload_n 0, 1) := by decide +kernel
theorem dX4_slopeAt_4 : decode cX4_slopeAt 4 = .ok (.getfield 29, 3) := by decide +kernel
theorem dX4_slopeAt_7 : decode cX4_slopeAt 7 = .ok (.iload_n 1, 1) := by decide +kernel
theorem dX4_slopeAt_8 : decode cX4_slopeAt 8 = .ok (.laload, 1) := by decide +kernel
theorem dX4_slopeAt_9 : decode cX4_slopeAt 9 = .ok (.lmul, 1) := by decide +kernel
theorem dX4_slopeAt_10 : decode cX4_slopeAt 10 = .ok (.ldc2_w 61, 3) := by decide +kernel
theorem dX4_slopeAt_13 : decode cX4_slopeAt 13 = .ok (.iload_n 2, 1) := by decide +kernel
theorem dX4_slopeAt_14 : decode cX4_slopeAt 14 = .ok (.i2l, 1) := by decide +kernel
theorem dX4_slopeAt_15 : decode cX4_slopeAt 15 = .ok (.lmul, 1) := by decide +kernel
theorem dX4_slopeAt_16 : decode cX4_slopeAt 16 = .ok (.aload_n 0, 1) := by decide +kernel
theorem dX4_slopeAt_17 : decode cX4_slopeAt 17 = .ok (.getfield 32, 3) := by decide +kernel
theorem dX4_slopeAt_20 : decode cX4_slopeAt 20 = .ok (.iload_n 1, 1) := by decide +kernel
theorem dX4_slopeAt_21 : decode cX4_slopeAt 21 = .ok (.laload, 1) := by decide +kernel
theorem dX4_slopeAt_22 : decode cX4_slopeAt 22 = .ok (.lmul, 1) := by decide +kernel
theorem dX4_slopeAt_23 : decode cX4_slopeAt 23 = .ok (.ladd, 1) := by decide +kernel
theorem dX4_slopeAt_24 : decode cX4_slopeAt 24 = .ok (.lreturn, 1) := by decide +kernel
theorem dX4_sign_0 : decode cX4_sign 0 = .ok (.lload_n 0, 1) := by decide +kernel
theorem dX4_sign_1 : decode cX4_sign 1 = .ok (.lconst 0, 1) := by decide +kernel
theorem dX4_sign_2 : decode cX4_sign 2 = .ok (.lcmp, 1) := by decide +kernel
theorem dX4_sign_3 : decode cX4_sign 3 = .ok (.ifCond .le 7, 3) := by decide +kernel
theorem dX4_sign_6 : decode cX4_sign 6 = .ok (.iconst 1, 1) := by decide +kernel
theorem dX4_sign_7 : decode cX4_sign 7 = .ok (.goto 14, 3) := by decide +kernel
theorem dX4_sign_10 : decode cX4_sign 10 = .ok (.lload_n 0, 1) := by decide +kernel
theorem dX4_sign_11 : decode cX4_sign 11 = .ok (.lconst 0, 1) := by decide +kernel
theorem dX4_sign_12 : decode cX4_sign 12 = .ok (.lcmp, 1) := by decide +kernel
theorem dX4_sign_13 : decode cX4_sign 13 = .ok (.ifCond .ge 7, 3) := by decide +kernel
theorem dX4_sign_16 : decode cX4_sign 16 = .ok (.iconst (-1), 1) := by decide +kernel
theorem dX4_sign_17 : decode cX4_sign 17 = .ok (.goto 4, 3) := by decide +kernel
theorem dX4_sign_20 : decode cX4_sign 20 = .ok (.iconst 0, 1) := by decide +kernel
theorem dX4_sign_21 : decode cX4_sign 21 = .ok (.ireturn, 1) := by decide +kernel
theorem dX4_between_0 : decode cX4_between 0 = .ok (.aload_n 0, 1) := by decide +kernel
theorem dX4_between_1 : decode cX4_between 1 = .ok (.iload_n 1, 1) := by decide +kernel
theorem dX4_between_2 : decode cX4_between 2 = .ok (.iload_n 2, 1) := by decide +kernel
theorem dX4_between_3 : decode cX4_between 3 = .ok (.invokevirtual 101, 3) := by decide +kernel
theorem dX4_between_6 : decode cX4_between 6 = .ok (.invokestatic 105, 3) := by decide +kernel
theorem dX4_between_9 : decode cX4_between 9 = .ok (.istore_n 3, 1) := by decide +kernel
theorem dX4_between_10 : decode cX4_between 10 = .ok (.aload_n 0, 1) := by decide +kernel
theorem dX4_between_11 : decode cX4_between 11 = .ok (.iload_n 1, 1) := by decide +kernel
theorem dX4_between_12 : decode cX4_between 12 = .ok (.iload_n 2, 1) := by decide +kernel
theorem dX4_between_13 : decode cX4_between 13 = .ok (.iconst 1, 1) := by decide +kernel
theorem dX4_between_14 : decode cX4_between 14 = .ok (.iadd, 1) := by decide +kernel
theorem dX4_between_15 : decode cX4_between 15 = .ok (.invokevirtual 101, 3) := by decide +kernel
theorem dX4_between_18 : decode cX4_between 18 = .ok (.invokestatic 105, 3) := by decide +kernel
theorem dX4_between_21 : decode cX4_between 21 = .ok (.istore 4, 2) := by decide +kernel
theorem dX4_between_23 : decode cX4_between 23 = .ok (.iload_n 3, 1) := by decide +kernel
theorem dX4_between_24 : decode cX4_between 24 = .ok (.ifCond .ne 10, 3) := by decide +kernel
theorem dX4_between_27 : decode cX4_between 27 = .ok (.iload 4, 2) := by decide +kernel
theorem dX4_between_29 : decode cX4_between 29 = .ok (.ifCond .ne 5, 3) := by decide +kernel
theorem dX4_between_32 : decode cX4_between 32 = .ok (.iconst 0, 1) := by decide +kernel
theorem dX4_between_33 : decode cX4_between 33 = .ok (.ireturn, 1) := by decide +kernel
theorem dX4_between_34 : decode cX4_between 34 = .ok (.iload_n 3, 1) := by decide +kernel
theorem dX4_between_35 : decode cX4_between 35 = .ok (.ifCond .ne 24, 3) := by decide +kernel
theorem dX4_between_38 : decode cX4_between 38 = .ok (.aload_n 0, 1) := by decide +kernel
theorem dX4_between_39 : decode cX4_between 39 = .ok (.iload_n 1, 1) := by decide +kernel
theorem dX4_between_40 : decode cX4_between 40 = .ok (.iload_n 2, 1) := by decide +kernel
theorem dX4_between_41 : decode cX4_between 41 = .ok (.invokevirtual 109, 3) := by decide +kernel
theorem dX4_between_44 : decode cX4_between 44 = .ok (.invokestatic 105, 3) := by decide +kernel
theorem dX4_between_47 : decode cX4_between 47 = .ok (.iload 4, 2) := by decide +kernel
theorem dX4_between_49 : decode cX4_between 49 = .ok (.imul, 1) := by decide +kernel
theorem dX4_between_50 : decode cX4_between 50 = .ok (.ifCond .ge 7, 3) := by decide +kernel
theorem dX4_between_53 : decode cX4_between 53 = .ok (.iconst 1, 1) := by decide +kernel
theorem dX4_between_54 : decode cX4_between 54 = .ok (.goto 4, 3) := by decide +kernel
theorem dX4_between_57 : decode cX4_between 57 = .ok (.iconst 0, 1) := by decide +kernel
theorem dX4_between_58 : decode cX4_between 58 = .ok (.ireturn, 1) := by decide +kernel
theorem dX4_between_59 : decode cX4_between 59 = .ok (.iload 4, 2) := by decide +kernel
theorem dX4_between_61 : decode cX4_between 61 = .ok (.ifCond .ne 25, 3) := by decide +kernel
theorem dX4_between_64 : decode cX4_between 64 = .ok (.aload_n 0, 1) := by decide +kernel
theorem dX4_between_65 : decode cX4_between 65 = .ok (.iload_n 1, 1) := by decide +kernel
theorem dX4_between_66 : decode cX4_between 66 = .ok (.iload_n 2, 1) := by decide +kernel
theorem dX4_between_67 : decode cX4_between 67 = .ok (.iconst 1, 1) := by decide +kernel
theorem dX4_between_68 : decode cX4_between 68 = .ok (.iadd, 1) := by decide +kernel
theorem dX4_between_69 : decode cX4_between 69 = .ok (.invokevirtual 109, 3) := by decide +kernel
theorem dX4_between_72 : decode cX4_between 72 = .ok (.invokestatic 105, 3) := by decide +kernel
theorem dX4_between_75 : decode cX4_between 75 = .ok (.iload_n 3, 1) := by decide +kernel
theorem dX4_between_76 : decode cX4_between 76 = .ok (.imul, 1) := by decide +kernel
theorem dX4_between_77 : decode cX4_between 77 = .ok (.ifCond .le 7, 3) := by decide +kernel
theorem dX4_between_80 : decode cX4_between 80 = .ok (.iconst 1, 1) := by decide +kernel
theorem dX4_between_81 : decode cX4_between 81 = .ok (.goto 4, 3) := by decide +kernel
theorem dX4_between_84 : decode cX4_between 84 = .ok (.iconst 0, 1) := by decide +kernel
theorem dX4_between_85 : decode cX4_between 85 = .ok (.ireturn, 1) := by decide +kernel
theorem dX4_between_86 : decode cX4_between 86 = .ok (.iload_n 3, 1) := by decide +kernel
theorem dX4_between_87 : decode cX4_between 87 = .ok (.iload 4, 2) := by decide +kernel
theorem dX4_between_89 : decode cX4_between 89 = .ok (.if_icmp .eq 5, 3) := by decide +kernel
theorem dX4_between_92 : decode cX4_between 92 = .ok (.iconst 1, 1) := by decide +kernel
theorem dX4_between_93 : decode cX4_between 93 = .ok (.ireturn, 1) := by decide +kernel
theorem dX4_between_94 : decode cX4_between 94 = .ok (.aload_n 0, 1) := by decide +kernel
theorem dX4_between_95 : decode cX4_between 95 = .ok (.iload_n 1, 1) := by decide +kernel
theorem dX4_between_96 : decode cX4_between 96 = .ok (.iload_n 2, 1) := by decide +kernel
theorem dX4_between_97 : decode cX4_between 97 = .ok (.invokevirtual 109, 3) := by decide +kernel
theorem dX4_between_100 : decode cX4_between 100 = .ok (.invokestatic 105, 3) := by decide +kernel
theorem dX4_between_103 : decode cX4_between 103 = .ok (.aload_n 0, 1) := by decide +kernel
theorem dX4_between_104 : decode cX4_between 104 = .ok (.iload_n 1, 1) := by decide +kernel
theorem dX4_between_105 : decode cX4_between 105 = .ok (.iload_n 2, 1) := by decide +kernel
theorem dX4_between_106 : decode cX4_between 106 = .ok (.iconst 1, 1) := by decide +kernel
theorem dX4_between_107 : decode cX4_between 107 = .ok (.iadd, 1) := by decide +kernel
theorem dX4_between_108 : decode cX4_between 108 = .ok (.invokevirtual 109, 3) := by decide +kernel
theorem dX4_between_111 : decode cX4_between 111 = .ok (.invokestatic 105, 3) := by decide +kernel
theorem dX4_between_114 : decode cX4_between 114 = .ok (.imul, 1) := by decide +kernel
theorem dX4_between_115 : decode cX4_between 115 = .ok (.ifCond .ge 7, 3) := by decide +kernel
theorem dX4_between_118 : decode cX4_between 118 = .ok (.iconst 1, 1) := by decide +kernel
theorem dX4_between_119 : decode cX4_between 119 = .ok (.goto 4, 3) := by decide +kernel
theorem dX4_between_122 : decode cX4_between 122 = .ok (.iconst 0, 1) := by decide +kernel
theorem dX4_between_123 : decode cX4_between 123 = .ok (.istore 5, 2) := by decide +kernel
theorem dX4_between_125 : decode cX4_between 125 = .ok (.aload_n 0, 1) := by decide +kernel
theorem dX4_between_126 : decode cX4_between 126 = .ok (.getfield 29, 3) := by decide +kernel
theorem dX4_between_129 : decode cX4_between 129 = .ok (.iload_n 1, 1) := by decide +kernel
theorem dX4_between_130 : decode cX4_between 130 = .ok (.laload, 1) := by decide +kernel
theorem dX4_between_131 : decode cX4_between 131 = .ok (.aload_n 0, 1) := by decide +kernel
theorem dX4_between_132 : decode cX4_between 132 = .ok (.getfield 29, 3) := by decide +kernel
theorem dX4_between_135 : decode cX4_between 135 = .ok (.iload_n 1, 1) := by decide +kernel
theorem dX4_between_136 : decode cX4_between 136 = .ok (.laload, 1) := by decide +kernel
theorem dX4_between_137 : decode cX4_between 137 = .ok (.lmul, 1) := by decide +kernel
theorem dX4_between_138 : decode cX4_between 138 = .ok (.ldc2_w 90, 3) := by decide +kernel
theorem dX4_between_141 : decode cX4_between 141 = .ok (.aload_n 0, 1) := by decide +kernel
theorem dX4_between_142 : decode cX4_between 142 = .ok (.getfield 25, 3) := by decide +kernel
theorem dX4_between_145 : decode cX4_between 145 = .ok (.iload_n 1, 1) := by decide +kernel
theorem dX4_between_146 : decode cX4_between 146 = .ok (.laload, 1) := by decide +kernel
theorem dX4_between_147 : decode cX4_between 147 = .ok (.lmul, 1) := by decide +kernel
theorem dX4_between_148 : decode cX4_between 148 = .ok (.aload_n 0, 1) := by decide +kernel
theorem dX4_between_149 : decode cX4_between 149 = .ok (.getfield 32, 3) := by decide +kernel
theorem dX4_between_152 : decode cX4_between 152 = .ok (.iload_n 1, 1) := by decide +kernel
theorem dX4_between_153 : decode cX4_between 153 = .ok (.laload, 1) := by decide +kernel
theorem dX4_between_154 : decode cX4_between 154 = .ok (.lmul, 1) := by decide +kernel
theorem dX4_between_155 : decode cX4_between 155 = .ok (.lsub, 1) := by decide +kernel
theorem dX4_between_156 : decode cX4_between 156 = .ok (.lstore 6, 2) := by decide +kernel
theorem dX4_between_158 : decode cX4_between 158 = .ok (.iload 5, 2) := by decide +kernel
theorem dX4_between_160 : decode cX4_between 160 = .ok (.ifCond .eq 23, 3) := by decide +kernel
theorem dX4_between_163 : decode cX4_between 163 = .ok (.iload_n 3, 1) := by decide +kernel
theorem dX4_between_164 : decode cX4_between 164 = .ok (.aload_n 0, 1) := by decide +kernel
theorem dX4_between_165 : decode cX4_between 165 = .ok (.getfield 32, 3) := by decide +kernel
theorem dX4_between_168 : decode cX4_between 168 = .ok (.iload_n 1, 1) := by decide +kernel
theorem dX4_between_169 : decode cX4_between 169 = .ok (.laload, 1) := by decide +kernel
theorem dX4_between_170 : decode cX4_between 170 = .ok (.invokestatic 105, 3) := by decide +kernel
theorem dX4_between_173 : decode cX4_between 173 = .ok (.if_icmp .ne 10, 3) := by decide +kernel
theorem dX4_between_176 : decode cX4_between 176 = .ok (.lload 6, 2) := by decide +kernel
theorem dX4_between_178 : decode cX4_between 178 = .ok (.lconst 0, 1) := by decide +kernel
theorem dX4_between_179 : decode cX4_between 179 = .ok (.lcmp, 1) := by decide +kernel
theorem dX4_between_180 : decode cX4_between 180 = .ok (.ifCond .ge 7, 3) := by decide +kernel
theorem dX4_between_183 : decode cX4_between 183 = .ok (.iconst 0, 1) := by decide +kernel
theorem dX4_between_184 : decode cX4_between 184 = .ok (.goto 15, 3) := by decide +kernel
theorem dX4_between_187 : decode cX4_between 187 = .ok (.lload 6, 2) := by decide +kernel
theorem dX4_between_189 : decode cX4_between 189 = .ok (.lconst 0, 1) := by decide +kernel
theorem dX4_between_190 : decode cX4_between 190 = .ok (.lcmp, 1) := by decide +kernel
theorem dX4_between_191 : decode cX4_between 191 = .ok (.ifCond .ne 7, 3) := by decide +kernel
theorem dX4_between_194 : decode cX4_between 194 = .ok (.iconst 1, 1) := by decide +kernel
theorem dX4_between_195 : decode cX4_between 195 = .ok (.goto 4, 3) := by decide +kernel
theorem dX4_between_198 : decode cX4_between 198 = .ok (.iconst 2, 1) := by decide +kernel
theorem dX4_between_199 : decode cX4_between 199 = .ok (.ireturn, 1) := by decide +kernel
theorem dX4_findZeros_0 : decode cX4_findZeros 0 = .ok (.aload_n 0, 1) := by decide +kernel
theorem dX4_findZeros_1 : decode cX4_findZeros 1 = .ok (.iconst 0, 1) := by decide +kernel
theorem dX4_findZeros_2 : decode cX4_findZeros 2 = .ok (.putfield 112, 3) := by decide +kernel
theorem dX4_findZeros_5 : decode cX4_findZeros 5 = .ok (.iconst 0, 1) := by decide +kernel
theorem dX4_findZeros_6 : decode cX4_findZeros 6 = .ok (.istore_n 1, 1) := by decide +kernel
theorem dX4_findZeros_7 : decode cX4_findZeros 7 = .ok (.iload_n 1, 1) := by decide +kernel
theorem dX4_findZeros_8 : decode cX4_findZeros 8 = .ok (.aload_n 0, 1) := by decide +kernel
theorem dX4_findZeros_9 : decode cX4_findZeros 9 = .ok (.getfield 64, 3) := by decide +kernel
theorem dX4_findZeros_12 : decode cX4_findZeros 12 = .ok (.if_icmp .ge 122, 3) := by decide +kernel
theorem dX4_findZeros_15 : decode cX4_findZeros 15 = .ok (.aload_n 0, 1) := by decide +kernel
theorem dX4_findZeros_16 : decode cX4_findZeros 16 = .ok (.getfield 25, 3) := by decide +kernel
theorem dX4_findZeros_19 : decode cX4_findZeros 19 = .ok (.iload_n 1, 1) := by decide +kernel
theorem dX4_findZeros_20 : decode cX4_findZeros 20 = .ok (.laload, 1) := by decide +kernel
theorem dX4_findZeros_21 : decode cX4_findZeros 21 = .ok (.lconst 0, 1) := by decide +kernel
theorem dX4_findZeros_22 : decode cX4_findZeros 22 = .ok (.lcmp, 1) := by decide +kernel
theorem dX4_findZeros_23 : decode cX4_findZeros 23 = .ok (.ifCond .ne 27, 3) := by decide +kernel
theorem dX4_findZeros_26 : decode cX4_findZeros 26 = .ok (.aload_n 0, 1) := by decide +kernel
theorem dX4_findZeros_27 : decode cX4_findZeros 27 = .ok (.getfield 29, 3) := by decide +kernel
theorem dX4_findZeros_30 : decode cX4_findZeros 30 = .ok (.iload_n 1, 1) := by decide +kernel
theorem dX4_findZeros_31 : decode cX4_findZeros 31 = .ok (.laload, 1) := by decide +kernel
theorem dX4_findZeros_32 : decode cX4_findZeros 32 = .ok (.lconst 0, 1) := by decide +kernel
theorem dX4_findZeros_33 : decode cX4_findZeros 33 = .ok (.lcmp, 1) := by decide +kernel
theorem dX4_findZeros_34 : decode cX4_findZeros 34 = .ok (.ifCond .ne 16, 3) := by decide +kernel
theorem dX4_findZeros_37 : decode cX4_findZeros 37 = .ok (.aload_n 0, 1) := by decide +kernel
theorem dX4_findZeros_38 : decode cX4_findZeros 38 = .ok (.getfield 32, 3) := by decide +kernel
theorem dX4_findZeros_41 : decode cX4_findZeros 41 = .ok (.iload_n 1, 1) := by decide +kernel
theorem dX4_findZeros_42 : decode cX4_findZeros 42 = .ok (.laload, 1) := by decide +kernel
theorem dX4_findZeros_43 : decode cX4_findZeros 43 = .ok (.lconst 0, 1) := by decide +kernel
theorem dX4_findZeros_44 : decode cX4_findZeros 44 = .ok (.lcmp, 1) := by decide +kernel
theorem dX4_findZeros_45 : decode cX4_findZeros 45 = .ok (.ifCond .ne 5, 3) := by decide +kernel
theorem dX4_findZeros_48 : decode cX4_findZeros 48 = .ok (.iconst 0, 1) := by decide +kernel
theorem dX4_findZeros_49 : decode cX4_findZeros 49 = .ok (.ireturn, 1) := by decide +kernel
theorem dX4_findZeros_50 : decode cX4_findZeros 50 = .ok (.iconst 0, 1) := by decide +kernel
theorem dX4_findZeros_51 : decode cX4_findZeros 51 = .ok (.istore_n 2, 1) := by decide +kernel
theorem dX4_findZeros_52 : decode cX4_findZeros 52 = .ok (.iload_n 2, 1) := by decide +kernel
theorem dX4_findZeros_53 : decode cX4_findZeros 53 = .ok (.bipush 64, 2) := by decide +kernel
theorem dX4_findZeros_55 : decode cX4_findZeros 55 = .ok (.if_icmp .ge 73, 3) := by decide +kernel
theorem dX4_findZeros_58 : decode cX4_findZeros 58 = .ok (.aload_n 0, 1) := by decide +kernel
theorem dX4_findZeros_59 : decode cX4_findZeros 59 = .ok (.iload_n 1, 1) := by decide +kernel
theorem dX4_findZeros_60 : decode cX4_findZeros 60 = .ok (.iload_n 2, 1) := by decide +kernel
theorem dX4_findZeros_61 : decode cX4_findZeros 61 = .ok (.invokevirtual 101, 3) := by decide +kernel
theorem dX4_findZeros_64 : decode cX4_findZeros 64 = .ok (.lconst 0, 1) := by decide +kernel
theorem dX4_findZeros_65 : decode cX4_findZeros 65 = .ok (.lcmp, 1) := by decide +kernel
theorem dX4_findZeros_66 : decode cX4_findZeros 66 = .ok (.ifCond .ne 7, 3) := by decide +kernel
theorem dX4_findZeros_69 : decode cX4_findZeros 69 = .ok (.iconst 1, 1) := by decide +kernel
theorem dX4_findZeros_70 : decode cX4_findZeros 70 = .ok (.goto 4, 3) := by decide +kernel
theorem dX4_findZeros_73 : decode cX4_findZeros 73 = .ok (.iconst 0, 1) := by decide +kernel
theorem dX4_findZeros_74 : decode cX4_findZeros 74 = .ok (.aload_n 0, 1) := by decide +kernel
theorem dX4_findZeros_75 : decode cX4_findZeros 75 = .ok (.iload_n 1, 1) := by decide +kernel
theorem dX4_findZeros_76 : decode cX4_findZeros 76 = .ok (.iload_n 2, 1) := by decide +kernel
theorem dX4_findZeros_77 : decode cX4_findZeros 77 = .ok (.invokevirtual 115, 3) := by decide +kernel
theorem dX4_findZeros_80 : decode cX4_findZeros 80 = .ok (.iadd, 1) := by decide +kernel
theorem dX4_findZeros_81 : decode cX4_findZeros 81 = .ok (.istore_n 3, 1) := by decide +kernel
theorem dX4_findZeros_82 : decode cX4_findZeros 82 = .ok (.iconst 0, 1) := by decide +kernel
theorem dX4_findZeros_83 : decode cX4_findZeros 83 = .ok (.istore 4, 2) := by decide +kernel
theorem dX4_findZeros_85 : decode cX4_findZeros 85 = .ok (.iload 4, 2) := by decide +kernel
theorem dX4_findZeros_87 : decode cX4_findZeros 87 = .ok (.iload_n 3, 1) := by decide +kernel
theorem dX4_findZeros_88 : decode cX4_findZeros 88 = .ok (.if_icmp .ge 34, 3) := by decide +kernel
theorem dX4_findZeros_91 : decode cX4_findZeros 91 = .ok (.aload_n 0, 1) := by decide +kernel
theorem dX4_findZeros_92 : decode cX4_findZeros 92 = .ok (.getfield 35, 3) := by decide +kernel
theorem dX4_findZeros_95 : decode cX4_findZeros 95 = .ok (.aload_n 0, 1) := by decide +kernel
theorem dX4_findZeros_96 : decode cX4_findZeros 96 = .ok (.getfield 112, 3) := by decide +kernel
theorem dX4_findZeros_99 : decode cX4_findZeros 99 = .ok (.bipush 64, 2) := by decide +kernel
theorem dX4_findZeros_101 : decode cX4_findZeros 101 = .ok (.iload_n 1, 1) := by decide +kernel
theorem dX4_findZeros_102 : decode cX4_findZeros 102 = .ok (.imul, 1) := by decide +kernel
theorem dX4_findZeros_103 : decode cX4_findZeros 103 = .ok (.iload_n 2, 1) := by decide +kernel
theorem dX4_findZeros_104 : decode cX4_findZeros 104 = .ok (.iadd, 1) := by decide +kernel
theorem dX4_findZeros_105 : decode cX4_findZeros 105 = .ok (.iastore, 1) := by decide +kernel
theorem dX4_findZeros_106 : decode cX4_findZeros 106 = .ok (.aload_n 0, 1) := by decide +kernel
theorem dX4_findZeros_107 : decode cX4_findZeros 107 = .ok (.dup, 1) := by decide +kernel
theorem dX4_findZeros_108 : decode cX4_findZeros 108 = .ok (.getfield 112, 3) := by decide +kernel
theorem dX4_findZeros_111 : decode cX4_findZeros 111 = .ok (.iconst 1, 1) := by decide +kernel
theorem dX4_findZeros_112 : decode cX4_findZeros 112 = .ok (.iadd, 1) := by decide +kernel
theorem dX4_findZeros_113 : decode cX4_findZeros 113 = .ok (.putfield 112, 3) := by decide +kernel
theorem dX4_findZeros_116 : decode cX4_findZeros 116 = .ok (.iinc 4 1, 3) := by decide +kernel
theorem dX4_findZeros_119 : decode cX4_findZeros 119 = .ok (.goto (-34), 3) := by decide +kernel
theorem dX4_findZeros_122 : decode cX4_findZeros 122 = .ok (.iinc 2 1, 3) := by decide +kernel
theorem dX4_findZeros_125 : decode cX4_findZeros 125 = .ok (.goto (-73), 3) := by decide +kernel
theorem dX4_findZeros_128 : decode cX4_findZeros 128 = .ok (.iinc 1 1, 3) := by decide +kernel
theorem dX4_findZeros_131 : decode cX4_findZeros 131 = .ok (.goto (-124), 3) := by decide +kernel
theorem dX4_findZeros_134 : decode cX4_findZeros 134 = .ok (.aload_n 0, 1) := by decide +kernel
theorem dX4_findZeros_135 : decode cX4_findZeros 135 = .ok (.aload_n 0, 1) := by decide +kernel
theorem dX4_findZeros_136 : decode cX4_findZeros 136 = .ok (.getfield 64, 3) := by decide +kernel
theorem dX4_findZeros_139 : decode cX4_findZeros 139 = .ok (.iconst 1, 1) := by decide +kernel
theorem dX4_findZeros_140 : decode cX4_findZeros 140 = .ok (.isub, 1) := by decide +kernel
theorem dX4_findZeros_141 : decode cX4_findZeros 141 = .ok (.bipush 64, 2) := by decide +kernel
theorem dX4_findZeros_143 : decode cX4_findZeros 143 = .ok (.invokevirtual 101, 3) := by decide +kernel
theorem dX4_findZeros_146 : decode cX4_findZeros 146 = .ok (.lconst 0, 1) := by decide +kernel
theorem dX4_findZeros_147 : decode cX4_findZeros 147 = .ok (.lcmp, 1) := by decide +kernel
theorem dX4_findZeros_148 : decode cX4_findZeros 148 = .ok (.ifCond .ne 29, 3) := by decide +kernel
theorem dX4_findZeros_151 : decode cX4_findZeros 151 = .ok (.aload_n 0, 1) := by decide +kernel
theorem dX4_findZeros_152 : decode cX4_findZeros 152 = .ok (.getfield 35, 3) := by decide +kernel
theorem dX4_findZeros_155 : decode cX4_findZeros 155 = .ok (.aload_n 0, 1) := by decide +kernel
theorem dX4_findZeros_156 : decode cX4_findZeros 156 = .ok (.getfield 112, 3) := by decide +kernel
theorem dX4_findZeros_159 : decode cX4_findZeros 159 = .ok (.bipush 64, 2) := by decide +kernel
theorem dX4_findZeros_161 : decode cX4_findZeros 161 = .ok (.aload_n 0, 1) := by decide +kernel
theorem dX4_findZeros_162 : decode cX4_findZeros 162 = .ok (.getfield 64, 3) := by decide +kernel
theorem dX4_findZeros_165 : decode cX4_findZeros 165 = .ok (.imul, 1) := by decide +kernel
theorem dX4_findZeros_166 : decode cX4_findZeros 166 = .ok (.iastore, 1) := by decide +kernel
theorem dX4_findZeros_167 : decode cX4_findZeros 167 = .ok (.aload_n 0, 1) := by decide +kernel
theorem dX4_findZeros_168 : decode cX4_findZeros 168 = .ok (.dup, 1) := by decide +kernel
theorem dX4_findZeros_169 : decode cX4_findZeros 169 = .ok (.getfield 112, 3) := by decide +kernel
theorem dX4_findZeros_172 : decode cX4_findZeros 172 = .ok (.iconst 1, 1) := by decide +kernel
theorem dX4_findZeros_173 : decode cX4_findZeros 173 = .ok (.iadd, 1) := by decide +kernel
theorem dX4_findZeros_174 : decode cX4_findZeros 174 = .ok (.putfield 112, 3) := by decide +kernel
theorem dX4_findZeros_177 : decode cX4_findZeros 177 = .ok (.iconst 1, 1) := by decide +kernel
theorem dX4_findZeros_178 : decode cX4_findZeros 178 = .ok (.ireturn, 1) := by decide +kernel
theorem dX4_zeros_0 : decode cX4_zeros 0 = .ok (.iload_n 1, 1) := by decide +kernel
theorem dX4_zeros_1 : decode cX4_zeros 1 = .ok (.invokestatic 51, 3) := by decide +kernel
theorem dX4_zeros_4 : decode cX4_zeros 4 = .ok (.ifCond .ne 6, 3) := by decide +kernel
theorem dX4_zeros_7 : decode cX4_zeros 7 = .ok (.bipush (-2), 2) := by decide +kernel
theorem dX4_zeros_9 : decode cX4_zeros 9 = .ok (.ireturn, 1) := by decide +kernel
theorem dX4_zeros_10 : decode cX4_zeros 10 = .ok (.aload_n 0, 1) := by decide +kernel
theorem dX4_zeros_11 : decode cX4_zeros 11 = .ok (.iload_n 1, 1) := by decide +kernel
theorem dX4_zeros_12 : decode cX4_zeros 12 = .ok (.invokevirtual 80, 3) := by decide +kernel
theorem dX4_zeros_15 : decode cX4_zeros 15 = .ok (.aload_n 0, 1) := by decide +kernel
theorem dX4_zeros_16 : decode cX4_zeros 16 = .ok (.invokevirtual 119, 3) := by decide +kernel
theorem dX4_zeros_19 : decode cX4_zeros 19 = .ok (.ifCond .eq 10, 3) := by decide +kernel
theorem dX4_zeros_22 : decode cX4_zeros 22 = .ok (.aload_n 0, 1) := by decide +kernel
theorem dX4_zeros_23 : decode cX4_zeros 23 = .ok (.getfield 112, 3) := by decide +kernel
theorem dX4_zeros_26 : decode cX4_zeros 26 = .ok (.goto 5, 3) := by decide +kernel
theorem dX4_zeros_29 : decode cX4_zeros 29 = .ok (.bipush (-4), 2) := by decide +kernel
theorem dX4_zeros_31 : decode cX4_zeros 31 = .ok (.ireturn, 1) := by decide +kernel
theorem dX4_zero_0 : decode cX4_zero 0 = .ok (.iload_n 1, 1) := by decide +kernel
theorem dX4_zero_1 : decode cX4_zero 1 = .ok (.invokestatic 51, 3) := by decide +kernel
theorem dX4_zero_4 : decode cX4_zero 4 = .ok (.ifCond .ne 6, 3) := by decide +kernel
theorem dX4_zero_7 : decode cX4_zero 7 = .ok (.bipush (-2), 2) := by decide +kernel
theorem dX4_zero_9 : decode cX4_zero 9 = .ok (.ireturn, 1) := by decide +kernel
theorem dX4_zero_10 : decode cX4_zero 10 = .ok (.aload_n 0, 1) := by decide +kernel
theorem dX4_zero_11 : decode cX4_zero 11 = .ok (.iload_n 1, 1) := by decide +kernel
theorem dX4_zero_12 : decode cX4_zero 12 = .ok (.invokevirtual 80, 3) := by decide +kernel
theorem dX4_zero_15 : decode cX4_zero 15 = .ok (.aload_n 0, 1) := by decide +kernel
theorem dX4_zero_16 : decode cX4_zero 16 = .ok (.invokevirtual 119, 3) := by decide +kernel
theorem dX4_zero_19 : decode cX4_zero 19 = .ok (.ifCond .ne 6, 3) := by decide +kernel
theorem dX4_zero_22 : decode cX4_zero 22 = .ok (.bipush (-4), 2) := by decide +kernel
theorem dX4_zero_24 : decode cX4_zero 24 = .ok (.ireturn, 1) := by decide +kernel
theorem dX4_zero_25 : decode cX4_zero 25 = .ok (.iload_n 2, 1) := by decide +kernel
theorem dX4_zero_26 : decode cX4_zero 26 = .ok (.i2l, 1) := by decide +kernel
theorem dX4_zero_27 : decode cX4_zero 27 = .ok (.lconst 0, 1) := by decide +kernel
theorem dX4_zero_28 : decode cX4_zero 28 = .ok (.aload_n 0, 1) := by decide +kernel
theorem dX4_zero_29 : decode cX4_zero 29 = .ok (.getfield 112, 3) := by decide +kernel
theorem dX4_zero_32 : decode cX4_zero 32 = .ok (.iconst 1, 1) := by decide +kernel
theorem dX4_zero_33 : decode cX4_zero 33 = .ok (.isub, 1) := by decide +kernel
theorem dX4_zero_34 : decode cX4_zero 34 = .ok (.i2l, 1) := by decide +kernel
theorem dX4_zero_35 : decode cX4_zero 35 = .ok (.invokestatic 43, 3) := by decide +kernel
theorem dX4_zero_38 : decode cX4_zero 38 = .ok (.ifCond .eq 12, 3) := by decide +kernel
theorem dX4_zero_41 : decode cX4_zero 41 = .ok (.aload_n 0, 1) := by decide +kernel
theorem dX4_zero_42 : decode cX4_zero 42 = .ok (.getfield 35, 3) := by decide +kernel
theorem dX4_zero_45 : decode cX4_zero 45 = .ok (.iload_n 2, 1) := by decide +kernel
theorem dX4_zero_46 : decode cX4_zero 46 = .ok (.iaload, 1) := by decide +kernel
theorem dX4_zero_47 : decode cX4_zero 47 = .ok (.goto 5, 3) := by decide +kernel
theorem dX4_zero_50 : decode cX4_zero 50 = .ok (.bipush (-2), 2) := by decide +kernel
theorem dX4_zero_52 : decode cX4_zero 52 = .ok (.ireturn, 1) := by decide +kernel
theorem dX4_area_0 : decode cX4_area 0 = .ok (.iload_n 1, 1) := by decide +kernel
theorem dX4_area_1 : decode cX4_area 1 = .ok (.invokestatic 51, 3) := by decide +kernel
theorem dX4_area_4 : decode cX4_area 4 = .ok (.ifCond .eq 47, 3) := by decide +kernel
theorem dX4_area_7 : decode cX4_area 7 = .ok (.iload_n 2, 1) := by decide +kernel
theorem dX4_area_8 : decode cX4_area 8 = .ok (.i2l, 1) := by decide +kernel
theorem dX4_area_9 : decode cX4_area 9 = .ok (.lconst 0, 1) := by decide +kernel
theorem dX4_area_10 : decode cX4_area 10 = .ok (.aload_n 0, 1) := by decide +kernel
theorem dX4_area_11 : decode cX4_area 11 = .ok (.getfield 7, 3) := by decide +kernel
theorem dX4_area_14 : decode cX4_area 14 = .ok (.iload_n 1, 1) := by decide +kernel
theorem dX4_area_15 : decode cX4_area 15 = .ok (.iaload, 1) := by decide +kernel
theorem dX4_area_16 : decode cX4_area 16 = .ok (.i2l, 1) := by decide +kernel
theorem dX4_area_17 : decode cX4_area 17 = .ok (.invokestatic 43, 3) := by decide +kernel
theorem dX4_area_20 : decode cX4_area 20 = .ok (.ifCond .eq 31, 3) := by decide +kernel
theorem dX4_area_23 : decode cX4_area 23 = .ok (.iload_n 3, 1) := by decide +kernel
theorem dX4_area_24 : decode cX4_area 24 = .ok (.i2l, 1) := by decide +kernel
theorem dX4_area_25 : decode cX4_area 25 = .ok (.iload_n 2, 1) := by decide +kernel
theorem dX4_area_26 : decode cX4_area 26 = .ok (.i2l, 1) := by decide +kernel
theorem dX4_area_27 : decode cX4_area 27 = .ok (.aload_n 0, 1) := by decide +kernel
theorem dX4_area_28 : decode cX4_area 28 = .ok (.getfield 7, 3) := by decide +kernel
theorem dX4_area_31 : decode cX4_area 31 = .ok (.iload_n 1, 1) := by decide +kernel
theorem dX4_area_32 : decode cX4_area 32 = .ok (.iaload, 1) := by decide +kernel
theorem dX4_area_33 : decode cX4_area 33 = .ok (.i2l, 1) := by decide +kernel
theorem dX4_area_34 : decode cX4_area 34 = .ok (.invokestatic 43, 3) := by decide +kernel
theorem dX4_area_37 : decode cX4_area 37 = .ok (.ifCond .eq 14, 3) := by decide +kernel
theorem dX4_area_40 : decode cX4_area 40 = .ok (.iload 4, 2) := by decide +kernel
theorem dX4_area_42 : decode cX4_area 42 = .ok (.i2l, 1) := by decide +kernel
theorem dX4_area_43 : decode cX4_area 43 = .ok (.lconst 0, 1) := by decide +kernel
theorem dX4_area_44 : decode cX4_area 44 = .ok (.lconst 1, 1) := by decide +kernel
theorem dX4_area_45 : decode cX4_area 45 = .ok (.invokestatic 43, 3) := by decide +kernel
theorem dX4_area_48 : decode cX4_area 48 = .ok (.ifCond .ne 7, 3) := by decide +kernel
theorem dX4_area_51 : decode cX4_area 51 = .ok (.ldc2_w 74, 3) := by decide +kernel
theorem dX4_area_54 : decode cX4_area 54 = .ok (.lreturn, 1) := by decide +kernel
theorem dX4_area_55 : decode cX4_area 55 = .ok (.lconst 0, 1) := by decide +kernel
theorem dX4_area_56 : decode cX4_area 56 = .ok (.lstore 5, 2) := by decide +kernel
theorem dX4_area_58 : decode cX4_area 58 = .ok (.iload_n 2, 1) := by decide +kernel
theorem dX4_area_59 : decode cX4_area 59 = .ok (.istore 7, 2) := by decide +kernel
theorem dX4_area_61 : decode cX4_area 61 = .ok (.iload 7, 2) := by decide +kernel
theorem dX4_area_63 : decode cX4_area 63 = .ok (.iload_n 3, 1) := by decide +kernel
theorem dX4_area_64 : decode cX4_area 64 = .ok (.if_icmp .ge 67, 3) := by decide +kernel
theorem dX4_area_67 : decode cX4_area 67 = .ok (.lload 5, 2) := by decide +kernel
theorem dX4_area_69 : decode cX4_area 69 = .ok (.ldc2_w 123, 3) := by decide +kernel
theorem dX4_area_72 : decode cX4_area 72 = .ok (.aload_n 0, 1) := by decide +kernel
theorem dX4_area_73 : decode cX4_area 73 = .ok (.getfield 13, 3) := by decide +kernel
theorem dX4_area_76 : decode cX4_area 76 = .ok (.bipush 16, 2) := by decide +kernel
theorem dX4_area_78 : decode cX4_area 78 = .ok (.iload_n 1, 1) := by decide +kernel
theorem dX4_area_79 : decode cX4_area 79 = .ok (.imul, 1) := by decide +kernel
theorem dX4_area_80 : decode cX4_area 80 = .ok (.iload 7, 2) := by decide +kernel
theorem dX4_area_82 : decode cX4_area 82 = .ok (.iadd, 1) := by decide +kernel
theorem dX4_area_83 : decode cX4_area 83 = .ok (.iaload, 1) := by decide +kernel
theorem dX4_area_84 : decode cX4_area 84 = .ok (.i2l, 1) := by decide +kernel
theorem dX4_area_85 : decode cX4_area 85 = .ok (.lmul, 1) := by decide +kernel
theorem dX4_area_86 : decode cX4_area 86 = .ok (.ldc2_w 125, 3) := by decide +kernel
theorem dX4_area_89 : decode cX4_area 89 = .ok (.aload_n 0, 1) := by decide +kernel
theorem dX4_area_90 : decode cX4_area 90 = .ok (.getfield 16, 3) := by decide +kernel
theorem dX4_area_93 : decode cX4_area 93 = .ok (.bipush 16, 2) := by decide +kernel
theorem dX4_area_95 : decode cX4_area 95 = .ok (.iload_n 1, 1) := by decide +kernel
theorem dX4_area_96 : decode cX4_area 96 = .ok (.imul, 1) := by decide +kernel
theorem dX4_area_97 : decode cX4_area 97 = .ok (.iload 7, 2) := by decide +kernel
theorem dX4_area_99 : decode cX4_area 99 = .ok (.iadd, 1) := by decide +kernel
theorem dX4_area_100 : decode cX4_area 100 = .ok (.iaload, 1) := by decide +kernel
theorem dX4_area_101 : decode cX4_area 101 = .ok (.i2l, 1) := by decide +kernel
theorem dX4_area_102 : decode cX4_area 102 = .ok (.lmul, 1) := by decide +kernel
theorem dX4_area_103 : decode cX4_area 103 = .ok (.ladd, 1) := by decide +kernel
theorem dX4_area_104 : decode cX4_area 104 = .ok (.ldc2_w 61, 3) := by decide +kernel
theorem dX4_area_107 : decode cX4_area 107 = .ok (.aload_n 0, 1) := by decide +kernel
theorem dX4_area_108 : decode cX4_area 108 = .ok (.getfield 19, 3) := by decide +kernel
theorem dX4_area_111 : decode cX4_area 111 = .ok (.bipush 16, 2) := by decide +kernel
theorem dX4_area_113 : decode cX4_area 113 = .ok (.iload_n 1, 1) := by decide +kernel
theorem dX4_area_114 : decode cX4_area 114 = .ok (.imul, 1) := by decide +kernel
theorem dX4_area_115 : decode cX4_area 115 = .ok (.iload 7, 2) := by decide +kernel
theorem dX4_area_117 : decode cX4_area 117 = .ok (.iadd, 1) := by decide +kernel
theorem dX4_area_118 : decode cX4_area 118 = .ok (.iaload, 1) := by decide +kernel
theorem dX4_area_119 : decode cX4_area 119 = .ok (.i2l, 1) := by decide +kernel
theorem dX4_area_120 : decode cX4_area 120 = .ok (.lmul, 1) := by decide +kernel
theorem dX4_area_121 : decode cX4_area 121 = .ok (.ladd, 1) := by decide +kernel
theorem dX4_area_122 : decode cX4_area 122 = .ok (.ladd, 1) := by decide +kernel
theorem dX4_area_123 : decode cX4_area 123 = .ok (.lstore 5, 2) := by decide +kernel
theorem dX4_area_125 : decode cX4_area 125 = .ok (.iinc 7 1, 3) := by decide +kernel
theorem dX4_area_128 : decode cX4_area 128 = .ok (.goto (-67), 3) := by decide +kernel
theorem dX4_area_131 : decode cX4_area 131 = .ok (.lload 5, 2) := by decide +kernel
theorem dX4_area_133 : decode cX4_area 133 = .ok (.ldc2_w 123, 3) := by decide +kernel
theorem dX4_area_136 : decode cX4_area 136 = .ok (.iload 4, 2) := by decide +kernel
theorem dX4_area_138 : decode cX4_area 138 = .ok (.invokestatic 76, 3) := by decide +kernel
theorem dX4_area_141 : decode cX4_area 141 = .ok (.lreturn, 1) := by decide +kernel
theorem dX4_same_0 : decode cX4_same 0 = .ok (.iload_n 1, 1) := by decide +kernel
theorem dX4_same_1 : decode cX4_same 1 = .ok (.invokestatic 51, 3) := by decide +kernel
theorem dX4_same_4 : decode cX4_same 4 = .ok (.ifCond .eq 10, 3) := by decide +kernel
theorem dX4_same_7 : decode cX4_same 7 = .ok (.iload_n 2, 1) := by decide +kernel
theorem dX4_same_8 : decode cX4_same 8 = .ok (.invokestatic 51, 3) := by decide +kernel
theorem dX4_same_11 : decode cX4_same 11 = .ok (.ifCond .ne 6, 3) := by decide +kernel
theorem dX4_same_14 : decode cX4_same 14 = .ok (.bipush (-2), 2) := by decide +kernel
theorem dX4_same_16 : decode cX4_same 16 = .ok (.ireturn, 1) := by decide +kernel
theorem dX4_same_17 : decode cX4_same 17 = .ok (.aload_n 0, 1) := by decide +kernel
theorem dX4_same_18 : decode cX4_same 18 = .ok (.getfield 7, 3) := by decide +kernel
theorem dX4_same_21 : decode cX4_same 21 = .ok (.iload_n 1, 1) := by decide +kernel
theorem dX4_same_22 : decode cX4_same 22 = .ok (.iaload, 1) := by decide +kernel
theorem dX4_same_23 : decode cX4_same 23 = .ok (.aload_n 0, 1) := by decide +kernel
theorem dX4_same_24 : decode cX4_same 24 = .ok (.getfield 7, 3) := by decide +kernel
theorem dX4_same_27 : decode cX4_same 27 = .ok (.iload_n 2, 1) := by decide +kernel
theorem dX4_same_28 : decode cX4_same 28 = .ok (.iaload, 1) := by decide +kernel
theorem dX4_same_29 : decode cX4_same 29 = .ok (.if_icmp .ne 7, 3) := by decide +kernel
theorem dX4_same_32 : decode cX4_same 32 = .ok (.iconst 1, 1) := by decide +kernel
theorem dX4_same_33 : decode cX4_same 33 = .ok (.goto 4, 3) := by decide +kernel
theorem dX4_same_36 : decode cX4_same 36 = .ok (.iconst 0, 1) := by decide +kernel
theorem dX4_same_37 : decode cX4_same 37 = .ok (.istore_n 3, 1) := by decide +kernel
theorem dX4_same_38 : decode cX4_same 38 = .ok (.iconst 0, 1) := by decide +kernel
theorem dX4_same_39 : decode cX4_same 39 = .ok (.istore 4, 2) := by decide +kernel
theorem dX4_same_41 : decode cX4_same 41 = .ok (.iload 4, 2) := by decide +kernel
theorem dX4_same_43 : decode cX4_same 43 = .ok (.aload_n 0, 1) := by decide +kernel
theorem dX4_same_44 : decode cX4_same 44 = .ok (.getfield 7, 3) := by decide +kernel
theorem dX4_same_47 : decode cX4_same 47 = .ok (.iload_n 1, 1) := by decide +kernel
theorem dX4_same_48 : decode cX4_same 48 = .ok (.iaload, 1) := by decide +kernel
theorem dX4_same_49 : decode cX4_same 49 = .ok (.if_icmp .ge 100, 3) := by decide +kernel
theorem dX4_same_52 : decode cX4_same 52 = .ok (.iload_n 3, 1) := by decide +kernel
theorem dX4_same_53 : decode cX4_same 53 = .ok (.ifCond .eq 96, 3) := by decide +kernel
theorem dX4_same_56 : decode cX4_same 56 = .ok (.aload_n 0, 1) := by decide +kernel
theorem dX4_same_57 : decode cX4_same 57 = .ok (.getfield 13, 3) := by decide +kernel
theorem dX4_same_60 : decode cX4_same 60 = .ok (.bipush 16, 2) := by decide +kernel
theorem dX4_same_62 : decode cX4_same 62 = .ok (.iload_n 1, 1) := by decide +kernel
theorem dX4_same_63 : decode cX4_same 63 = .ok (.imul, 1) := by decide +kernel
theorem dX4_same_64 : decode cX4_same 64 = .ok (.iload 4, 2) := by decide +kernel
theorem dX4_same_66 : decode cX4_same 66 = .ok (.iadd, 1) := by decide +kernel
theorem dX4_same_67 : decode cX4_same 67 = .ok (.iaload, 1) := by decide +kernel
theorem dX4_same_68 : decode cX4_same 68 = .ok (.aload_n 0, 1) := by decide +kernel
theorem dX4_same_69 : decode cX4_same 69 = .ok (.getfield 13, 3) := by decide +kernel
theorem dX4_same_72 : decode cX4_same 72 = .ok (.bipush 16, 2) := by decide +kernel
theorem dX4_same_74 : decode cX4_same 74 = .ok (.iload_n 2, 1) := by decide +kernel
theorem dX4_same_75 : decode cX4_same 75 = .ok (.imul, 1) := by decide +kernel
theorem dX4_same_76 : decode cX4_same 76 = .ok (.iload 4, 2) := by decide +kernel
theorem dX4_same_78 : decode cX4_same 78 = .ok (.iadd, 1) := by decide +kernel
theorem dX4_same_79 : decode cX4_same 79 = .ok (.iaload, 1) := by decide +kernel
theorem dX4_same_80 : decode cX4_same 80 = .ok (.if_icmp .ne 61, 3) := by decide +kernel
theorem dX4_same_83 : decode cX4_same 83 = .ok (.aload_n 0, 1) := by decide +kernel
theorem dX4_same_84 : decode cX4_same 84 = .ok (.getfield 16, 3) := by decide +kernel
theorem dX4_same_87 : decode cX4_same 87 = .ok (.bipush 16, 2) := by decide +kernel
theorem dX4_same_89 : decode cX4_same 89 = .ok (.iload_n 1, 1) := by decide +kernel
theorem dX4_same_90 : decode cX4_same 90 = .ok (.imul, 1) := by decide +kernel
theorem dX4_same_91 : decode cX4_same 91 = .ok (.iload 4, 2) := by decide +kernel
theorem dX4_same_93 : decode cX4_same 93 = .ok (.iadd, 1) := by decide +kernel
theorem dX4_same_94 : decode cX4_same 94 = .ok (.iaload, 1) := by decide +kernel
theorem dX4_same_95 : decode cX4_same 95 = .ok (.aload_n 0, 1) := by decide +kernel
theorem dX4_same_96 : decode cX4_same 96 = .ok (.getfield 16, 3) := by decide +kernel
theorem dX4_same_99 : decode cX4_same 99 = .ok (.bipush 16, 2) := by decide +kernel
theorem dX4_same_101 : decode cX4_same 101 = .ok (.iload_n 2, 1) := by decide +kernel
theorem dX4_same_102 : decode cX4_same 102 = .ok (.imul, 1) := by decide +kernel
theorem dX4_same_103 : decode cX4_same 103 = .ok (.iload 4, 2) := by decide +kernel
theorem dX4_same_105 : decode cX4_same 105 = .ok (.iadd, 1) := by decide +kernel
theorem dX4_same_106 : decode cX4_same 106 = .ok (.iaload, 1) := by decide +kernel
theorem dX4_same_107 : decode cX4_same 107 = .ok (.if_icmp .ne 34, 3) := by decide +kernel
theorem dX4_same_110 : decode cX4_same 110 = .ok (.aload_n 0, 1) := by decide +kernel
theorem dX4_same_111 : decode cX4_same 111 = .ok (.getfield 19, 3) := by decide +kernel
theorem dX4_same_114 : decode cX4_same 114 = .ok (.bipush 16, 2) := by decide +kernel
theorem dX4_same_116 : decode cX4_same 116 = .ok (.iload_n 1, 1) := by decide +kernel
theorem dX4_same_117 : decode cX4_same 117 = .ok (.imul, 1) := by decide +kernel
theorem dX4_same_118 : decode cX4_same 118 = .ok (.iload 4, 2) := by decide +kernel
theorem dX4_same_120 : decode cX4_same 120 = .ok (.iadd, 1) := by decide +kernel
theorem dX4_same_121 : decode cX4_same 121 = .ok (.iaload, 1) := by decide +kernel
theorem dX4_same_122 : decode cX4_same 122 = .ok (.aload_n 0, 1) := by decide +kernel
theorem dX4_same_123 : decode cX4_same 123 = .ok (.getfield 19, 3) := by decide +kernel
theorem dX4_same_126 : decode cX4_same 126 = .ok (.bipush 16, 2) := by decide +kernel
theorem dX4_same_128 : decode cX4_same 128 = .ok (.iload_n 2, 1) := by decide +kernel
theorem dX4_same_129 : decode cX4_same 129 = .ok (.imul, 1) := by decide +kernel
theorem dX4_same_130 : decode cX4_same 130 = .ok (.iload 4, 2) := by decide +kernel
theorem dX4_same_132 : decode cX4_same 132 = .ok (.iadd, 1) := by decide +kernel
theorem dX4_same_133 : decode cX4_same 133 = .ok (.iaload, 1) := by decide +kernel
theorem dX4_same_134 : decode cX4_same 134 = .ok (.if_icmp .ne 7, 3) := by decide +kernel
theorem dX4_same_137 : decode cX4_same 137 = .ok (.iconst 1, 1) := by decide +kernel
theorem dX4_same_138 : decode cX4_same 138 = .ok (.goto 4, 3) := by decide +kernel
theorem dX4_same_141 : decode cX4_same 141 = .ok (.iconst 0, 1) := by decide +kernel
theorem dX4_same_142 : decode cX4_same 142 = .ok (.istore_n 3, 1) := by decide +kernel
theorem dX4_same_143 : decode cX4_same 143 = .ok (.iinc 4 1, 3) := by decide +kernel
theorem dX4_same_146 : decode cX4_same 146 = .ok (.goto (-105), 3) := by decide +kernel
theorem dX4_same_149 : decode cX4_same 149 = .ok (.iload_n 3, 1) := by decide +kernel
theorem dX4_same_150 : decode cX4_same 150 = .ok (.ifCond .eq 7, 3) := by decide +kernel
theorem dX4_same_153 : decode cX4_same 153 = .ok (.iconst 1, 1) := by decide +kernel
theorem dX4_same_154 : decode cX4_same 154 = .ok (.goto 4, 3) := by decide +kernel
theorem dX4_same_157 : decode cX4_same 157 = .ok (.iconst 0, 1) := by decide +kernel
theorem dX4_same_158 : decode cX4_same 158 = .ok (.ireturn, 1) := by decide +kernel
theorem dX4_make_0 : decode cX4_make 0 = .ok (.aload_n 0, 1) := by decide +kernel
theorem dX4_make_1 : decode cX4_make 1 = .ok (.aload_n 0, 1) := by decide +kernel
theorem dX4_make_2 : decode cX4_make 2 = .ok (.getfield 7, 3) := by decide +kernel
theorem dX4_make_5 : decode cX4_make 5 = .ok (.iload_n 1, 1) := by decide +kernel
theorem dX4_make_6 : decode cX4_make 6 = .ok (.iaload, 1) := by decide +kernel
theorem dX4_make_7 : decode cX4_make 7 = .ok (.putfield 64, 3) := by decide +kernel
theorem dX4_make_10 : decode cX4_make 10 = .ok (.iconst 0, 1) := by decide +kernel
theorem dX4_make_11 : decode cX4_make 11 = .ok (.istore 7, 2) := by decide +kernel
theorem dX4_make_13 : decode cX4_make 13 = .ok (.iload 7, 2) := by decide +kernel
theorem dX4_make_15 : decode cX4_make 15 = .ok (.aload_n 0, 1) := by decide +kernel
theorem dX4_make_16 : decode cX4_make 16 = .ok (.getfield 64, 3) := by decide +kernel
theorem dX4_make_19 : decode cX4_make 19 = .ok (.if_icmp .ge 129, 3) := by decide +kernel
theorem dX4_make_22 : decode cX4_make 22 = .ok (.aload_n 0, 1) := by decide +kernel
theorem dX4_make_23 : decode cX4_make 23 = .ok (.getfield 25, 3) := by decide +kernel
theorem dX4_make_26 : decode cX4_make 26 = .ok (.iload 7, 2) := by decide +kernel
theorem dX4_make_28 : decode cX4_make 28 = .ok (.lload_n 2, 1) := by decide +kernel
theorem dX4_make_29 : decode cX4_make 29 = .ok (.aload_n 0, 1) := by decide +kernel
theorem dX4_make_30 : decode cX4_make 30 = .ok (.getfield 13, 3) := by decide +kernel
theorem dX4_make_33 : decode cX4_make 33 = .ok (.bipush 16, 2) := by decide +kernel
theorem dX4_make_35 : decode cX4_make 35 = .ok (.iload_n 1, 1) := by decide +kernel
theorem dX4_make_36 : decode cX4_make 36 = .ok (.imul, 1) := by decide +kernel
theorem dX4_make_37 : decode cX4_make 37 = .ok (.iload 7, 2) := by decide +kernel
theorem dX4_make_39 : decode cX4_make 39 = .ok (.iadd, 1) := by decide +kernel
theorem dX4_make_40 : decode cX4_make 40 = .ok (.iaload, 1) := by decide +kernel
theorem dX4_make_41 : decode cX4_make 41 = .ok (.i2l, 1) := by decide +kernel
theorem dX4_make_42 : decode cX4_make 42 = .ok (.lmul, 1) := by decide +kernel
theorem dX4_make_43 : decode cX4_make 43 = .ok (.lload 5, 2) := by decide +kernel
theorem dX4_make_45 : decode cX4_make 45 = .ok (.aload_n 0, 1) := by decide +kernel
theorem dX4_make_46 : decode cX4_make 46 = .ok (.getfield 13, 3) := by decide +kernel
theorem dX4_make_49 : decode cX4_make 49 = .ok (.bipush 16, 2) := by decide +kernel
theorem dX4_make_51 : decode cX4_make 51 = .ok (.iload 4, 2) := by decide +kernel
theorem dX4_make_53 : decode cX4_make 53 = .ok (.imul, 1) := by decide +kernel
theorem dX4_make_54 : decode cX4_make 54 = .ok (.iload 7, 2) := by decide +kernel
theorem dX4_make_56 : decode cX4_make 56 = .ok (.iadd, 1) := by decide +kernel
theorem dX4_make_57 : decode cX4_make 57 = .ok (.iaload, 1) := by decide +kernel
theorem dX4_make_58 : decode cX4_make 58 = .ok (.i2l, 1) := by decide +kernel
theorem dX4_make_59 : decode cX4_make 59 = .ok (.lmul, 1) := by decide +kernel
theorem dX4_make_60 : decode cX4_make 60 = .ok (.ladd, 1) := by decide +kernel
theorem dX4_make_61 : decode cX4_make 61 = .ok (.lastore, 1) := by decide +kernel
theorem dX4_make_62 : decode cX4_make 62 = .ok (.aload_n 0, 1) := by decide +kernel
theorem dX4_make_63 : decode cX4_make 63 = .ok (.getfield 29, 3) := by decide +kernel
theorem dX4_make_66 : decode cX4_make 66 = .ok (.iload 7, 2) := by decide +kernel
theorem dX4_make_68 : decode cX4_make 68 = .ok (.lload_n 2, 1) := by decide +kernel
theorem dX4_make_69 : decode cX4_make 69 = .ok (.aload_n 0, 1) := by decide +kernel
theorem dX4_make_70 : decode cX4_make 70 = .ok (.getfield 16, 3) := by decide +kernel
theorem dX4_make_73 : decode cX4_make 73 = .ok (.bipush 16, 2) := by decide +kernel
theorem dX4_make_75 : decode cX4_make 75 = .ok (.iload_n 1, 1) := by decide +kernel
theorem dX4_make_76 : decode cX4_make 76 = .ok (.imul, 1) := by decide +kernel
theorem dX4_make_77 : decode cX4_make 77 = .ok (.iload 7, 2) := by decide +kernel
theorem dX4_make_79 : decode cX4_make 79 = .ok (.iadd, 1) := by decide +kernel
theorem dX4_make_80 : decode cX4_make 80 = .ok (.iaload, 1) := by decide +kernel
theorem dX4_make_81 : decode cX4_make 81 = .ok (.i2l, 1) := by decide +kernel
theorem dX4_make_82 : decode cX4_make 82 = .ok (.lmul, 1) := by decide +kernel
theorem dX4_make_83 : decode cX4_make 83 = .ok (.lload 5, 2) := by decide +kernel
theorem dX4_make_85 : decode cX4_make 85 = .ok (.aload_n 0, 1) := by decide +kernel
theorem dX4_make_86 : decode cX4_make 86 = .ok (.getfield 16, 3) := by decide +kernel
theorem dX4_make_89 : decode cX4_make 89 = .ok (.bipush 16, 2) := by decide +kernel
theorem dX4_make_91 : decode cX4_make 91 = .ok (.iload 4, 2) := by decide +kernel
theorem dX4_make_93 : decode cX4_make 93 = .ok (.imul, 1) := by decide +kernel
theorem dX4_make_94 : decode cX4_make 94 = .ok (.iload 7, 2) := by decide +kernel
theorem dX4_make_96 : decode cX4_make 96 = .ok (.iadd, 1) := by decide +kernel
theorem dX4_make_97 : decode cX4_make 97 = .ok (.iaload, 1) := by decide +kernel
theorem dX4_make_98 : decode cX4_make 98 = .ok (.i2l, 1) := by decide +kernel
theorem dX4_make_99 : decode cX4_make 99 = .ok (.lmul, 1) := by decide +kernel
theorem dX4_make_100 : decode cX4_make 100 = .ok (.ladd, 1) := by decide +kernel
theorem dX4_make_101 : decode cX4_make 101 = .ok (.lastore, 1) := by decide +kernel
theorem dX4_make_102 : decode cX4_make 102 = .ok (.aload_n 0, 1) := by decide +kernel
theorem dX4_make_103 : decode cX4_make 103 = .ok (.getfield 32, 3) := by decide +kernel
theorem dX4_make_106 : decode cX4_make 106 = .ok (.iload 7, 2) := by decide +kernel
theorem dX4_make_108 : decode cX4_make 108 = .ok (.lload_n 2, 1) := by decide +kernel
theorem dX4_make_109 : decode cX4_make 109 = .ok (.aload_n 0, 1) := by decide +kernel
theorem dX4_make_110 : decode cX4_make 110 = .ok (.getfield 19, 3) := by decide +kernel
theorem dX4_make_113 : decode cX4_make 113 = .ok (.bipush 16, 2) := by decide +kernel
theorem dX4_make_115 : decode cX4_make 115 = .ok (.iload_n 1, 1) := by decide +kernel
theorem dX4_make_116 : decode cX4_make 116 = .ok (.imul, 1) := by decide +kernel
theorem dX4_make_117 : decode cX4_make 117 = .ok (.iload 7, 2) := by decide +kernel
theorem dX4_make_119 : decode cX4_make 119 = .ok (.iadd, 1) := by decide +kernel
theorem dX4_make_120 : decode cX4_make 120 = .ok (.iaload, 1) := by decide +kernel
theorem dX4_make_121 : decode cX4_make 121 = .ok (.i2l, 1) := by decide +kernel
theorem dX4_make_122 : decode cX4_make 122 = .ok (.lmul, 1) := by decide +kernel
theorem dX4_make_123 : decode cX4_make 123 = .ok (.lload 5, 2) := by decide +kernel
theorem dX4_make_125 : decode cX4_make 125 = .ok (.aload_n 0, 1) := by decide +kernel
theorem dX4_make_126 : decode cX4_make 126 = .ok (.getfield 19, 3) := by decide +kernel
theorem dX4_make_129 : decode cX4_make 129 = .ok (.bipush 16, 2) := by decide +kernel
theorem dX4_make_131 : decode cX4_make 131 = .ok (.iload 4, 2) := by decide +kernel
theorem dX4_make_133 : decode cX4_make 133 = .ok (.imul, 1) := by decide +kernel
theorem dX4_make_134 : decode cX4_make 134 = .ok (.iload 7, 2) := by decide +kernel
theorem dX4_make_136 : decode cX4_make 136 = .ok (.iadd, 1) := by decide +kernel
theorem dX4_make_137 : decode cX4_make 137 = .ok (.iaload, 1) := by decide +kernel
theorem dX4_make_138 : decode cX4_make 138 = .ok (.i2l, 1) := by decide +kernel
theorem dX4_make_139 : decode cX4_make 139 = .ok (.lmul, 1) := by decide +kernel
theorem dX4_make_140 : decode cX4_make 140 = .ok (.ladd, 1) := by decide +kernel
theorem dX4_make_141 : decode cX4_make 141 = .ok (.lastore, 1) := by decide +kernel
theorem dX4_make_142 : decode cX4_make 142 = .ok (.iinc 7 1, 3) := by decide +kernel
theorem dX4_make_145 : decode cX4_make 145 = .ok (.goto (-132), 3) := by decide +kernel
theorem dX4_make_148 : decode cX4_make 148 = .ok (.return_, 1) := by decide +kernel
theorem dX4_meets_0 : decode cX4_meets 0 = .ok (.iload_n 1, 1) := by decide +kernel
theorem dX4_meets_1 : decode cX4_meets 1 = .ok (.invokestatic 51, 3) := by decide +kernel
theorem dX4_meets_4 : decode cX4_meets 4 = .ok (.ifCond .eq 10, 3) := by decide +kernel
theorem dX4_meets_7 : decode cX4_meets 7 = .ok (.iload_n 2, 1) := by decide +kernel
theorem dX4_meets_8 : decode cX4_meets 8 = .ok (.invokestatic 51, 3) := by decide +kernel
theorem dX4_meets_11 : decode cX4_meets 11 = .ok (.ifCond .ne 6, 3) := by decide +kernel
theorem dX4_meets_14 : decode cX4_meets 14 = .ok (.bipush (-2), 2) := by decide +kernel
theorem dX4_meets_16 : decode cX4_meets 16 = .ok (.ireturn, 1) := by decide +kernel
theorem dX4_meets_17 : decode cX4_meets 17 = .ok (.aload_n 0, 1) := by decide +kernel
theorem dX4_meets_18 : decode cX4_meets 18 = .ok (.getfield 7, 3) := by decide +kernel
theorem dX4_meets_21 : decode cX4_meets 21 = .ok (.iload_n 1, 1) := by decide +kernel
theorem dX4_meets_22 : decode cX4_meets 22 = .ok (.iaload, 1) := by decide +kernel
theorem dX4_meets_23 : decode cX4_meets 23 = .ok (.aload_n 0, 1) := by decide +kernel
theorem dX4_meets_24 : decode cX4_meets 24 = .ok (.getfield 7, 3) := by decide +kernel
theorem dX4_meets_27 : decode cX4_meets 27 = .ok (.iload_n 2, 1) := by decide +kernel
theorem dX4_meets_28 : decode cX4_meets 28 = .ok (.iaload, 1) := by decide +kernel
theorem dX4_meets_29 : decode cX4_meets 29 = .ok (.if_icmp .eq 6, 3) := by decide +kernel
theorem dX4_meets_32 : decode cX4_meets 32 = .ok (.bipush (-4), 2) := by decide +kernel
theorem dX4_meets_34 : decode cX4_meets 34 = .ok (.ireturn, 1) := by decide +kernel
theorem dX4_meets_35 : decode cX4_meets 35 = .ok (.aload_n 0, 1) := by decide +kernel
theorem dX4_meets_36 : decode cX4_meets 36 = .ok (.iload_n 1, 1) := by decide +kernel
theorem dX4_meets_37 : decode cX4_meets 37 = .ok (.lconst 1, 1) := by decide +kernel
theorem dX4_meets_38 : decode cX4_meets 38 = .ok (.iload_n 2, 1) := by decide +kernel
theorem dX4_meets_39 : decode cX4_meets 39 = .ok (.ldc2_w 88, 3) := by decide +kernel
theorem dX4_meets_42 : decode cX4_meets 42 = .ok (.invokevirtual 127, 3) := by decide +kernel
theorem dX4_meets_45 : decode cX4_meets 45 = .ok (.aload_n 0, 1) := by decide +kernel
theorem dX4_meets_46 : decode cX4_meets 46 = .ok (.invokevirtual 119, 3) := by decide +kernel
theorem dX4_meets_49 : decode cX4_meets 49 = .ok (.ifCond .eq 10, 3) := by decide +kernel
theorem dX4_meets_52 : decode cX4_meets 52 = .ok (.aload_n 0, 1) := by decide +kernel
theorem dX4_meets_53 : decode cX4_meets 53 = .ok (.getfield 112, 3) := by decide +kernel
theorem dX4_meets_56 : decode cX4_meets 56 = .ok (.goto 5, 3) := by decide +kernel
theorem dX4_meets_59 : decode cX4_meets 59 = .ok (.bipush (-4), 2) := by decide +kernel
theorem dX4_meets_61 : decode cX4_meets 61 = .ok (.ireturn, 1) := by decide +kernel
theorem dX4_mix_0 : decode cX4_mix 0 = .ok (.iload_n 1, 1) := by decide +kernel
theorem dX4_mix_1 : decode cX4_mix 1 = .ok (.invokestatic 51, 3) := by decide +kernel
theorem dX4_mix_4 : decode cX4_mix 4 = .ok (.ifCond .eq 18, 3) := by decide +kernel
theorem dX4_mix_7 : decode cX4_mix 7 = .ok (.iload_n 2, 1) := by decide +kernel
theorem dX4_mix_8 : decode cX4_mix 8 = .ok (.invokestatic 51, 3) := by decide +kernel
theorem dX4_mix_11 : decode cX4_mix 11 = .ok (.ifCond .eq 11, 3) := by decide +kernel
theorem dX4_mix_14 : decode cX4_mix 14 = .ok (.iload 4, 2) := by decide +kernel
theorem dX4_mix_16 : decode cX4_mix 16 = .ok (.invokestatic 51, 3) := by decide +kernel
theorem dX4_mix_19 : decode cX4_mix 19 = .ok (.ifCond .ne 6, 3) := by decide +kernel
theorem dX4_mix_22 : decode cX4_mix 22 = .ok (.bipush (-2), 2) := by decide +kernel
theorem dX4_mix_24 : decode cX4_mix 24 = .ok (.ireturn, 1) := by decide +kernel
theorem dX4_mix_25 : decode cX4_mix 25 = .ok (.iload_n 3, 1) := by decide +kernel
theorem dX4_mix_26 : decode cX4_mix 26 = .ok (.i2l, 1) := by decide +kernel
theorem dX4_mix_27 : decode cX4_mix 27 = .ok (.ldc2_w 131, 3) := by decide +kernel
theorem dX4_mix_30 : decode cX4_mix 30 = .ok (.ldc2_w 133, 3) := by decide +kernel
theorem dX4_mix_33 : decode cX4_mix 33 = .ok (.invokestatic 43, 3) := by decide +kernel
theorem dX4_mix_36 : decode cX4_mix 36 = .ok (.ifCond .eq 18, 3) := by decide +kernel
theorem dX4_mix_39 : decode cX4_mix 39 = .ok (.iload 5, 2) := by decide +kernel
theorem dX4_mix_41 : decode cX4_mix 41 = .ok (.i2l, 1) := by decide +kernel
theorem dX4_mix_42 : decode cX4_mix 42 = .ok (.ldc2_w 131, 3) := by decide +kernel
theorem dX4_mix_45 : decode cX4_mix 45 = .ok (.ldc2_w 133, 3) := by decide +kernel
theorem dX4_mix_48 : decode cX4_mix 48 = .ok (.invokestatic 43, 3) := by decide +kernel
theorem dX4_mix_51 : decode cX4_mix 51 = .ok (.ifCond .ne 6, 3) := by decide +kernel
theorem dX4_mix_54 : decode cX4_mix 54 = .ok (.bipush (-3), 2) := by decide +kernel
theorem dX4_mix_56 : decode cX4_mix 56 = .ok (.ireturn, 1) := by decide +kernel
theorem dX4_mix_57 : decode cX4_mix 57 = .ok (.aload_n 0, 1) := by decide +kernel
theorem dX4_mix_58 : decode cX4_mix 58 = .ok (.getfield 7, 3) := by decide +kernel
theorem dX4_mix_61 : decode cX4_mix 61 = .ok (.iload_n 2, 1) := by decide +kernel
theorem dX4_mix_62 : decode cX4_mix 62 = .ok (.iaload, 1) := by decide +kernel
theorem dX4_mix_63 : decode cX4_mix 63 = .ok (.aload_n 0, 1) := by decide +kernel
theorem dX4_mix_64 : decode cX4_mix 64 = .ok (.getfield 7, 3) := by decide +kernel
theorem dX4_mix_67 : decode cX4_mix 67 = .ok (.iload 4, 2) := by decide +kernel
theorem dX4_mix_69 : decode cX4_mix 69 = .ok (.iaload, 1) := by decide +kernel
theorem dX4_mix_70 : decode cX4_mix 70 = .ok (.if_icmp .eq 6, 3) := by decide +kernel
theorem dX4_mix_73 : decode cX4_mix 73 = .ok (.bipush (-4), 2) := by decide +kernel
theorem dX4_mix_75 : decode cX4_mix 75 = .ok (.ireturn, 1) := by decide +kernel
theorem dX4_mix_76 : decode cX4_mix 76 = .ok (.aload_n 0, 1) := by decide +kernel
theorem dX4_mix_77 : decode cX4_mix 77 = .ok (.iload_n 2, 1) := by decide +kernel
theorem dX4_mix_78 : decode cX4_mix 78 = .ok (.iload_n 3, 1) := by decide +kernel
theorem dX4_mix_79 : decode cX4_mix 79 = .ok (.i2l, 1) := by decide +kernel
theorem dX4_mix_80 : decode cX4_mix 80 = .ok (.iload 4, 2) := by decide +kernel
theorem dX4_mix_82 : decode cX4_mix 82 = .ok (.iload 5, 2) := by decide +kernel
theorem dX4_mix_84 : decode cX4_mix 84 = .ok (.i2l, 1) := by decide +kernel
theorem dX4_mix_85 : decode cX4_mix 85 = .ok (.invokevirtual 127, 3) := by decide +kernel
theorem dX4_mix_88 : decode cX4_mix 88 = .ok (.aload_n 0, 1) := by decide +kernel
theorem dX4_mix_89 : decode cX4_mix 89 = .ok (.iload_n 1, 1) := by decide +kernel
theorem dX4_mix_90 : decode cX4_mix 90 = .ok (.invokevirtual 135, 3) := by decide +kernel
theorem dX4_mix_93 : decode cX4_mix 93 = .ok (.ireturn, 1) := by decide +kernel
theorem dX4_refine_0 : decode cX4_refine 0 = .ok (.iload_n 1, 1) := by decide +kernel
theorem dX4_refine_1 : decode cX4_refine 1 = .ok (.invokestatic 51, 3) := by decide +kernel
theorem dX4_refine_4 : decode cX4_refine 4 = .ok (.ifCond .eq 10, 3) := by decide +kernel
theorem dX4_refine_7 : decode cX4_refine 7 = .ok (.iload_n 2, 1) := by decide +kernel
theorem dX4_refine_8 : decode cX4_refine 8 = .ok (.invokestatic 51, 3) := by decide +kernel
theorem dX4_refine_11 : decode cX4_refine 11 = .ok (.ifCond .ne 6, 3) := by decide +kernel
theorem dX4_refine_14 : decode cX4_refine 14 = .ok (.bipush (-2), 2) := by decide +kernel
theorem dX4_refine_16 : decode cX4_refine 16 = .ok (.ireturn, 1) := by decide +kernel
theorem dX4_refine_17 : decode cX4_refine 17 = .ok (.aload_n 0, 1) := by decide +kernel
theorem dX4_refine_18 : decode cX4_refine 18 = .ok (.getfield 7, 3) := by decide +kernel
theorem dX4_refine_21 : decode cX4_refine 21 = .ok (.iload_n 2, 1) := by decide +kernel
theorem dX4_refine_22 : decode cX4_refine 22 = .ok (.iaload, 1) := by decide +kernel
theorem dX4_refine_23 : decode cX4_refine 23 = .ok (.bipush 8, 2) := by decide +kernel
theorem dX4_refine_25 : decode cX4_refine 25 = .ok (.if_icmp .le 6, 3) := by decide +kernel
theorem dX4_refine_28 : decode cX4_refine 28 = .ok (.bipush (-4), 2) := by decide +kernel
theorem dX4_refine_30 : decode cX4_refine 30 = .ok (.ireturn, 1) := by decide +kernel
theorem dX4_refine_31 : decode cX4_refine 31 = .ok (.aload_n 0, 1) := by decide +kernel
theorem dX4_refine_32 : decode cX4_refine 32 = .ok (.iconst 2, 1) := by decide +kernel
theorem dX4_refine_33 : decode cX4_refine 33 = .ok (.aload_n 0, 1) := by decide +kernel
theorem dX4_refine_34 : decode cX4_refine 34 = .ok (.getfield 7, 3) := by decide +kernel
theorem dX4_refine_37 : decode cX4_refine 37 = .ok (.iload_n 2, 1) := by decide +kernel
theorem dX4_refine_38 : decode cX4_refine 38 = .ok (.iaload, 1) := by decide +kernel
theorem dX4_refine_39 : decode cX4_refine 39 = .ok (.imul, 1) := by decide +kernel
theorem dX4_refine_40 : decode cX4_refine 40 = .ok (.putfield 64, 3) := by decide +kernel
theorem dX4_refine_43 : decode cX4_refine 43 = .ok (.iconst 0, 1) := by decide +kernel
theorem dX4_refine_44 : decode cX4_refine 44 = .ok (.istore_n 3, 1) := by decide +kernel
theorem dX4_refine_45 : decode cX4_refine 45 = .ok (.iload_n 3, 1) := by decide +kernel
theorem dX4_refine_46 : decode cX4_refine 46 = .ok (.aload_n 0, 1) := by decide +kernel
theorem dX4_refine_47 : decode cX4_refine 47 = .ok (.getfield 64, 3) := by decide +kernel
theorem dX4_refine_50 : decode cX4_refine 50 = .ok (.if_icmp .ge 119, 3) := by decide +kernel
theorem dX4_refine_53 : decode cX4_refine 53 = .ok (.bipush 16, 2) := by decide +kernel
theorem dX4_refine_55 : decode cX4_refine 55 = .ok (.iload_n 2, 1) := by decide +kernel
theorem dX4_refine_56 : decode cX4_refine 56 = .ok (.imul, 1) := by decide +kernel
theorem dX4_refine_57 : decode cX4_refine 57 = .ok (.iload_n 3, 1) := by decide +kernel
theorem dX4_refine_58 : decode cX4_refine 58 = .ok (.iconst 2, 1) := by decide +kernel
theorem dX4_refine_59 : decode cX4_refine 59 = .ok (.idiv, 1) := by decide +kernel
theorem dX4_refine_60 : decode cX4_refine 60 = .ok (.iadd, 1) := by decide +kernel
theorem dX4_refine_61 : decode cX4_refine 61 = .ok (.istore 4, 2) := by decide +kernel
theorem dX4_refine_63 : decode cX4_refine 63 = .ok (.iload_n 3, 1) := by decide +kernel
theorem dX4_refine_64 : decode cX4_refine 64 = .ok (.iconst 2, 1) := by decide +kernel
theorem dX4_refine_65 : decode cX4_refine 65 = .ok (.irem, 1) := by decide +kernel
theorem dX4_refine_66 : decode cX4_refine 66 = .ok (.i2l, 1) := by decide +kernel
theorem dX4_refine_67 : decode cX4_refine 67 = .ok (.lstore 5, 2) := by decide +kernel
theorem dX4_refine_69 : decode cX4_refine 69 = .ok (.aload_n 0, 1) := by decide +kernel
theorem dX4_refine_70 : decode cX4_refine 70 = .ok (.getfield 25, 3) := by decide +kernel
theorem dX4_refine_73 : decode cX4_refine 73 = .ok (.iload_n 3, 1) := by decide +kernel
theorem dX4_refine_74 : decode cX4_refine 74 = .ok (.ldc2_w 90, 3) := by decide +kernel
theorem dX4_refine_77 : decode cX4_refine 77 = .ok (.aload_n 0, 1) := by decide +kernel
theorem dX4_refine_78 : decode cX4_refine 78 = .ok (.getfield 13, 3) := by decide +kernel
theorem dX4_refine_81 : decode cX4_refine 81 = .ok (.iload 4, 2) := by decide +kernel
theorem dX4_refine_83 : decode cX4_refine 83 = .ok (.iaload, 1) := by decide +kernel
theorem dX4_refine_84 : decode cX4_refine 84 = .ok (.i2l, 1) := by decide +kernel
theorem dX4_refine_85 : decode cX4_refine 85 = .ok (.lmul, 1) := by decide +kernel
theorem dX4_refine_86 : decode cX4_refine 86 = .ok (.ldc2_w 61, 3) := by decide +kernel
theorem dX4_refine_89 : decode cX4_refine 89 = .ok (.lload 5, 2) := by decide +kernel
theorem dX4_refine_91 : decode cX4_refine 91 = .ok (.lmul, 1) := by decide +kernel
theorem dX4_refine_92 : decode cX4_refine 92 = .ok (.aload_n 0, 1) := by decide +kernel
theorem dX4_refine_93 : decode cX4_refine 93 = .ok (.getfield 16, 3) := by decide +kernel
theorem dX4_refine_96 : decode cX4_refine 96 = .ok (.iload 4, 2) := by decide +kernel
theorem dX4_refine_98 : decode cX4_refine 98 = .ok (.iaload, 1) := by decide +kernel
theorem dX4_refine_99 : decode cX4_refine 99 = .ok (.i2l, 1) := by decide +kernel
theorem dX4_refine_100 : decode cX4_refine 100 = .ok (.lmul, 1) := by decide +kernel
theorem dX4_refine_101 : decode cX4_refine 101 = .ok (.ladd, 1) := by decide +kernel
theorem dX4_refine_102 : decode cX4_refine 102 = .ok (.lload 5, 2) := by decide +kernel
theorem dX4_refine_104 : decode cX4_refine 104 = .ok (.aload_n 0, 1) := by decide +kernel
theorem dX4_refine_105 : decode cX4_refine 105 = .ok (.getfield 19, 3) := by decide +kernel
theorem dX4_refine_108 : decode cX4_refine 108 = .ok (.iload 4, 2) := by decide +kernel
theorem dX4_refine_110 : decode cX4_refine 110 = .ok (.iaload, 1) := by decide +kernel
theorem dX4_refine_111 : decode cX4_refine 111 = .ok (.i2l, 1) := by decide +kernel
theorem dX4_refine_112 : decode cX4_refine 112 = .ok (.lmul, 1) := by decide +kernel
theorem dX4_refine_113 : decode cX4_refine 113 = .ok (.ladd, 1) := by decide +kernel
theorem dX4_refine_114 : decode cX4_refine 114 = .ok (.lastore, 1) := by decide +kernel
theorem dX4_refine_115 : decode cX4_refine 115 = .ok (.aload_n 0, 1) := by decide +kernel
theorem dX4_refine_116 : decode cX4_refine 116 = .ok (.getfield 29, 3) := by decide +kernel
theorem dX4_refine_119 : decode cX4_refine 119 = .ok (.iload_n 3, 1) := by decide +kernel
theorem dX4_refine_120 : decode cX4_refine 120 = .ok (.ldc2_w 61, 3) := by decide +kernel
theorem dX4_refine_123 : decode cX4_refine 123 = .ok (.aload_n 0, 1) := by decide +kernel
theorem dX4_refine_124 : decode cX4_refine 124 = .ok (.getfield 16, 3) := by decide +kernel
theorem dX4_refine_127 : decode cX4_refine 127 = .ok (.iload 4, 2) := by decide +kernel
theorem dX4_refine_129 : decode cX4_refine 129 = .ok (.iaload, 1) := by decide +kernel
theorem dX4_refine_130 : decode cX4_refine 130 = .ok (.i2l, 1) := by decide +kernel
theorem dX4_refine_131 : decode cX4_refine 131 = .ok (.lmul, 1) := by decide +kernel
theorem dX4_refine_132 : decode cX4_refine 132 = .ok (.ldc2_w 61, 3) := by decide +kernel
theorem dX4_refine_135 : decode cX4_refine 135 = .ok (.lload 5, 2) := by decide +kernel
theorem dX4_refine_137 : decode cX4_refine 137 = .ok (.lmul, 1) := by decide +kernel
theorem dX4_refine_138 : decode cX4_refine 138 = .ok (.aload_n 0, 1) := by decide +kernel
theorem dX4_refine_139 : decode cX4_refine 139 = .ok (.getfield 19, 3) := by decide +kernel
theorem dX4_refine_142 : decode cX4_refine 142 = .ok (.iload 4, 2) := by decide +kernel
theorem dX4_refine_144 : decode cX4_refine 144 = .ok (.iaload, 1) := by decide +kernel
theorem dX4_refine_145 : decode cX4_refine 145 = .ok (.i2l, 1) := by decide +kernel
theorem dX4_refine_146 : decode cX4_refine 146 = .ok (.lmul, 1) := by decide +kernel
theorem dX4_refine_147 : decode cX4_refine 147 = .ok (.ladd, 1) := by decide +kernel
theorem dX4_refine_148 : decode cX4_refine 148 = .ok (.lastore, 1) := by decide +kernel
theorem dX4_refine_149 : decode cX4_refine 149 = .ok (.aload_n 0, 1) := by decide +kernel
theorem dX4_refine_150 : decode cX4_refine 150 = .ok (.getfield 32, 3) := by decide +kernel
theorem dX4_refine_153 : decode cX4_refine 153 = .ok (.iload_n 3, 1) := by decide +kernel
theorem dX4_refine_154 : decode cX4_refine 154 = .ok (.aload_n 0, 1) := by decide +kernel
theorem dX4_refine_155 : decode cX4_refine 155 = .ok (.getfield 19, 3) := by decide +kernel
theorem dX4_refine_158 : decode cX4_refine 158 = .ok (.iload 4, 2) := by decide +kernel
theorem dX4_refine_160 : decode cX4_refine 160 = .ok (.iaload, 1) := by decide +kernel
theorem dX4_refine_161 : decode cX4_refine 161 = .ok (.i2l, 1) := by decide +kernel
theorem dX4_refine_162 : decode cX4_refine 162 = .ok (.lastore, 1) := by decide +kernel
theorem dX4_refine_163 : decode cX4_refine 163 = .ok (.iinc 3 1, 3) := by decide +kernel
theorem dX4_refine_166 : decode cX4_refine 166 = .ok (.goto (-121), 3) := by decide +kernel
theorem dX4_refine_169 : decode cX4_refine 169 = .ok (.aload_n 0, 1) := by decide +kernel
theorem dX4_refine_170 : decode cX4_refine 170 = .ok (.iload_n 1, 1) := by decide +kernel
theorem dX4_refine_171 : decode cX4_refine 171 = .ok (.invokevirtual 135, 3) := by decide +kernel
theorem dX4_refine_174 : decode cX4_refine 174 = .ok (.ireturn, 1) := by decide +kernel
theorem dX4_slope_0 : decode cX4_slope 0 = .ok (.iload_n 1, 1) := by decide +kernel
theorem dX4_slope_1 : decode cX4_slope 1 = .ok (.invokestatic 51, 3) := by decide +kernel
theorem dX4_slope_4 : decode cX4_slope 4 = .ok (.ifCond .eq 10, 3) := by decide +kernel
theorem dX4_slope_7 : decode cX4_slope 7 = .ok (.iload_n 2, 1) := by decide +kernel
theorem dX4_slope_8 : decode cX4_slope 8 = .ok (.invokestatic 51, 3) := by decide +kernel
theorem dX4_slope_11 : decode cX4_slope 11 = .ok (.ifCond .ne 6, 3) := by decide +kernel
theorem dX4_slope_14 : decode cX4_slope 14 = .ok (.bipush (-2), 2) := by decide +kernel
theorem dX4_slope_16 : decode cX4_slope 16 = .ok (.ireturn, 1) := by decide +kernel
theorem dX4_slope_17 : decode cX4_slope 17 = .ok (.aload_n 0, 1) := by decide +kernel
theorem dX4_slope_18 : decode cX4_slope 18 = .ok (.aload_n 0, 1) := by decide +kernel
theorem dX4_slope_19 : decode cX4_slope 19 = .ok (.getfield 7, 3) := by decide +kernel
theorem dX4_slope_22 : decode cX4_slope 22 = .ok (.iload_n 2, 1) := by decide +kernel
theorem dX4_slope_23 : decode cX4_slope 23 = .ok (.iaload, 1) := by decide +kernel
theorem dX4_slope_24 : decode cX4_slope 24 = .ok (.putfield 64, 3) := by decide +kernel
theorem dX4_slope_27 : decode cX4_slope 27 = .ok (.iconst 0, 1) := by decide +kernel
theorem dX4_slope_28 : decode cX4_slope 28 = .ok (.istore_n 3, 1) := by decide +kernel
theorem dX4_slope_29 : decode cX4_slope 29 = .ok (.iload_n 3, 1) := by decide +kernel
theorem dX4_slope_30 : decode cX4_slope 30 = .ok (.aload_n 0, 1) := by decide +kernel
theorem dX4_slope_31 : decode cX4_slope 31 = .ok (.getfield 64, 3) := by decide +kernel
theorem dX4_slope_34 : decode cX4_slope 34 = .ok (.if_icmp .ge 56, 3) := by decide +kernel
theorem dX4_slope_37 : decode cX4_slope 37 = .ok (.aload_n 0, 1) := by decide +kernel
theorem dX4_slope_38 : decode cX4_slope 38 = .ok (.getfield 25, 3) := by decide +kernel
theorem dX4_slope_41 : decode cX4_slope 41 = .ok (.iload_n 3, 1) := by decide +kernel
theorem dX4_slope_42 : decode cX4_slope 42 = .ok (.aload_n 0, 1) := by decide +kernel
theorem dX4_slope_43 : decode cX4_slope 43 = .ok (.getfield 16, 3) := by decide +kernel
theorem dX4_slope_46 : decode cX4_slope 46 = .ok (.bipush 16, 2) := by decide +kernel
theorem dX4_slope_48 : decode cX4_slope 48 = .ok (.iload_n 2, 1) := by decide +kernel
theorem dX4_slope_49 : decode cX4_slope 49 = .ok (.imul, 1) := by decide +kernel
theorem dX4_slope_50 : decode cX4_slope 50 = .ok (.iload_n 3, 1) := by decide +kernel
theorem dX4_slope_51 : decode cX4_slope 51 = .ok (.iadd, 1) := by decide +kernel
theorem dX4_slope_52 : decode cX4_slope 52 = .ok (.iaload, 1) := by decide +kernel
theorem dX4_slope_53 : decode cX4_slope 53 = .ok (.i2l, 1) := by decide +kernel
theorem dX4_slope_54 : decode cX4_slope 54 = .ok (.lastore, 1) := by decide +kernel
theorem dX4_slope_55 : decode cX4_slope 55 = .ok (.aload_n 0, 1) := by decide +kernel
theorem dX4_slope_56 : decode cX4_slope 56 = .ok (.getfield 29, 3) := by decide +kernel
theorem dX4_slope_59 : decode cX4_slope 59 = .ok (.iload_n 3, 1) := by decide +kernel
theorem dX4_slope_60 : decode cX4_slope 60 = .ok (.ldc2_w 61, 3) := by decide +kernel
theorem dX4_slope_63 : decode cX4_slope 63 = .ok (.aload_n 0, 1) := by decide +kernel
theorem dX4_slope_64 : decode cX4_slope 64 = .ok (.getfield 19, 3) := by decide +kernel
theorem dX4_slope_67 : decode cX4_slope 67 = .ok (.bipush 16, 2) := by decide +kernel
theorem dX4_slope_69 : decode cX4_slope 69 = .ok (.iload_n 2, 1) := by decide +kernel
theorem dX4_slope_70 : decode cX4_slope 70 = .ok (.imul, 1) := by decide +kernel
theorem dX4_slope_71 : decode cX4_slope 71 = .ok (.iload_n 3, 1) := by decide +kernel
theorem dX4_slope_72 : decode cX4_slope 72 = .ok (.iadd, 1) := by decide +kernel
theorem dX4_slope_73 : decode cX4_slope 73 = .ok (.iaload, 1) := by decide +kernel
theorem dX4_slope_74 : decode cX4_slope 74 = .ok (.i2l, 1) := by decide +kernel
theorem dX4_slope_75 : decode cX4_slope 75 = .ok (.lmul, 1) := by decide +kernel
theorem dX4_slope_76 : decode cX4_slope 76 = .ok (.lastore, 1) := by decide +kernel
theorem dX4_slope_77 : decode cX4_slope 77 = .ok (.aload_n 0, 1) := by decide +kernel
theorem dX4_slope_78 : decode cX4_slope 78 = .ok (.getfield 32, 3) := by decide +kernel
theorem dX4_slope_81 : decode cX4_slope 81 = .ok (.iload_n 3, 1) := by decide +kernel
theorem dX4_slope_82 : decode cX4_slope 82 = .ok (.lconst 0, 1) := by decide +kernel
theorem dX4_slope_83 : decode cX4_slope 83 = .ok (.lastore, 1) := by decide +kernel
theorem dX4_slope_84 : decode cX4_slope 84 = .ok (.iinc 3 1, 3) := by decide +kernel
theorem dX4_slope_87 : decode cX4_slope 87 = .ok (.goto (-58), 3) := by decide +kernel
theorem dX4_slope_90 : decode cX4_slope 90 = .ok (.aload_n 0, 1) := by decide +kernel
theorem dX4_slope_91 : decode cX4_slope 91 = .ok (.iload_n 1, 1) := by decide +kernel
theorem dX4_slope_92 : decode cX4_slope 92 = .ok (.invokevirtual 135, 3) := by decide +kernel
theorem dX4_slope_95 : decode cX4_slope 95 = .ok (.ireturn, 1) := by decide +kernel
theorem dX4_push_0 : decode cX4_push 0 = .ok (.iload_n 1, 1) := by decide +kernel
theorem dX4_push_1 : decode cX4_push 1 = .ok (.invokestatic 51, 3) := by decide +kernel
theorem dX4_push_4 : decode cX4_push 4 = .ok (.ifCond .ne 6, 3) := by decide +kernel
theorem dX4_push_7 : decode cX4_push 7 = .ok (.bipush (-2), 2) := by decide +kernel
theorem dX4_push_9 : decode cX4_push 9 = .ok (.ireturn, 1) := by decide +kernel
theorem dX4_push_10 : decode cX4_push 10 = .ok (.iload_n 2, 1) := by decide +kernel
theorem dX4_push_11 : decode cX4_push 11 = .ok (.i2l, 1) := by decide +kernel
theorem dX4_push_12 : decode cX4_push 12 = .ok (.invokestatic 57, 3) := by decide +kernel
theorem dX4_push_15 : decode cX4_push 15 = .ok (.ifCond .ne 6, 3) := by decide +kernel
theorem dX4_push_18 : decode cX4_push 18 = .ok (.bipush (-3), 2) := by decide +kernel
theorem dX4_push_20 : decode cX4_push 20 = .ok (.ireturn, 1) := by decide +kernel
theorem dX4_push_21 : decode cX4_push 21 = .ok (.aload_n 0, 1) := by decide +kernel
theorem dX4_push_22 : decode cX4_push 22 = .ok (.iload_n 1, 1) := by decide +kernel
theorem dX4_push_23 : decode cX4_push 23 = .ok (.invokevirtual 80, 3) := by decide +kernel
theorem dX4_push_26 : decode cX4_push 26 = .ok (.iconst 0, 1) := by decide +kernel
theorem dX4_push_27 : decode cX4_push 27 = .ok (.istore_n 3, 1) := by decide +kernel
theorem dX4_push_28 : decode cX4_push 28 = .ok (.iload_n 3, 1) := by decide +kernel
theorem dX4_push_29 : decode cX4_push 29 = .ok (.aload_n 0, 1) := by decide +kernel
theorem dX4_push_30 : decode cX4_push 30 = .ok (.getfield 64, 3) := by decide +kernel
theorem dX4_push_33 : decode cX4_push 33 = .ok (.if_icmp .ge 20, 3) := by decide +kernel
theorem dX4_push_36 : decode cX4_push 36 = .ok (.aload_n 0, 1) := by decide +kernel
theorem dX4_push_37 : decode cX4_push 37 = .ok (.getfield 25, 3) := by decide +kernel
theorem dX4_push_40 : decode cX4_push 40 = .ok (.iload_n 3, 1) := by decide +kernel
theorem dX4_push_41 : decode cX4_push 41 = .ok (.dup2, 1) := by decide +kernel
theorem dX4_push_42 : decode cX4_push 42 = .ok (.laload, 1) := by decide +kernel
theorem dX4_push_43 : decode cX4_push 43 = .ok (.iload_n 2, 1) := by decide +kernel
theorem dX4_push_44 : decode cX4_push 44 = .ok (.i2l, 1) := by decide +kernel
theorem dX4_push_45 : decode cX4_push 45 = .ok (.ladd, 1) := by decide +kernel
theorem dX4_push_46 : decode cX4_push 46 = .ok (.lastore, 1) := by decide +kernel
theorem dX4_push_47 : decode cX4_push 47 = .ok (.iinc 3 1, 3) := by decide +kernel
theorem dX4_push_50 : decode cX4_push 50 = .ok (.goto (-22), 3) := by decide +kernel
theorem dX4_push_53 : decode cX4_push 53 = .ok (.aload_n 0, 1) := by decide +kernel
theorem dX4_push_54 : decode cX4_push 54 = .ok (.iload_n 1, 1) := by decide +kernel
theorem dX4_push_55 : decode cX4_push 55 = .ok (.invokevirtual 135, 3) := by decide +kernel
theorem dX4_push_58 : decode cX4_push 58 = .ok (.ireturn, 1) := by decide +kernel
theorem dX4_point_0 : decode cX4_point 0 = .ok (.iload_n 1, 1) := by decide +kernel
theorem dX4_point_1 : decode cX4_point 1 = .ok (.i2l, 1) := by decide +kernel
theorem dX4_point_2 : decode cX4_point 2 = .ok (.ldc2_w 138, 3) := by decide +kernel
theorem dX4_point_5 : decode cX4_point 5 = .ok (.ldc2_w 140, 3) := by decide +kernel
theorem dX4_point_8 : decode cX4_point 8 = .ok (.invokestatic 43, 3) := by decide +kernel
theorem dX4_point_11 : decode cX4_point 11 = .ok (.ifCond .ne 6, 3) := by decide +kernel
theorem dX4_point_14 : decode cX4_point 14 = .ok (.bipush (-3), 2) := by decide +kernel
theorem dX4_point_16 : decode cX4_point 16 = .ok (.ireturn, 1) := by decide +kernel
theorem dX4_point_17 : decode cX4_point 17 = .ok (.aload_n 0, 1) := by decide +kernel
theorem dX4_point_18 : decode cX4_point 18 = .ok (.getfield 142, 3) := by decide +kernel
theorem dX4_point_21 : decode cX4_point 21 = .ok (.bipush 17, 2) := by decide +kernel
theorem dX4_point_23 : decode cX4_point 23 = .ok (.if_icmp .ne 6, 3) := by decide +kernel
theorem dX4_point_26 : decode cX4_point 26 = .ok (.bipush (-6), 2) := by decide +kernel
theorem dX4_point_28 : decode cX4_point 28 = .ok (.ireturn, 1) := by decide +kernel
theorem dX4_point_29 : decode cX4_point 29 = .ok (.aload_n 0, 1) := by decide +kernel
theorem dX4_point_30 : decode cX4_point 30 = .ok (.getfield 22, 3) := by decide +kernel
theorem dX4_point_33 : decode cX4_point 33 = .ok (.aload_n 0, 1) := by decide +kernel
theorem dX4_point_34 : decode cX4_point 34 = .ok (.getfield 142, 3) := by decide +kernel
theorem dX4_point_37 : decode cX4_point 37 = .ok (.iload_n 1, 1) := by decide +kernel
theorem dX4_point_38 : decode cX4_point 38 = .ok (.iastore, 1) := by decide +kernel
theorem dX4_point_39 : decode cX4_point 39 = .ok (.aload_n 0, 1) := by decide +kernel
theorem dX4_point_40 : decode cX4_point 40 = .ok (.dup, 1) := by decide +kernel
theorem dX4_point_41 : decode cX4_point 41 = .ok (.getfield 142, 3) := by decide +kernel
theorem dX4_point_44 : decode cX4_point 44 = .ok (.iconst 1, 1) := by decide +kernel
theorem dX4_point_45 : decode cX4_point 45 = .ok (.iadd, 1) := by decide +kernel
theorem dX4_point_46 : decode cX4_point 46 = .ok (.putfield 142, 3) := by decide +kernel
theorem dX4_point_49 : decode cX4_point 49 = .ok (.aload_n 0, 1) := by decide +kernel
theorem dX4_point_50 : decode cX4_point 50 = .ok (.getfield 142, 3) := by decide +kernel
theorem dX4_point_53 : decode cX4_point 53 = .ok (.ireturn, 1) := by decide +kernel
theorem dX4_clear_0 : decode cX4_clear 0 = .ok (.aload_n 0, 1) := by decide +kernel
theorem dX4_clear_1 : decode cX4_clear 1 = .ok (.getfield 142, 3) := by decide +kernel
theorem dX4_clear_4 : decode cX4_clear 4 = .ok (.istore_n 1, 1) := by decide +kernel
theorem dX4_clear_5 : decode cX4_clear 5 = .ok (.aload_n 0, 1) := by decide +kernel
theorem dX4_clear_6 : decode cX4_clear 6 = .ok (.iconst 0, 1) := by decide +kernel
theorem dX4_clear_7 : decode cX4_clear 7 = .ok (.putfield 142, 3) := by decide +kernel
theorem dX4_clear_10 : decode cX4_clear 10 = .ok (.iload_n 1, 1) := by decide +kernel
theorem dX4_clear_11 : decode cX4_clear 11 = .ok (.ireturn, 1) := by decide +kernel
theorem dX4_makeSpline_0 : decode cX4_makeSpline 0 = .ok (.aload_n 0, 1) := by decide +kernel
theorem dX4_makeSpline_1 : decode cX4_makeSpline 1 = .ok (.aload_n 0, 1) := by decide +kernel
theorem dX4_makeSpline_2 : decode cX4_makeSpline 2 = .ok (.getfield 142, 3) := by decide +kernel
theorem dX4_makeSpline_5 : decode cX4_makeSpline 5 = .ok (.iconst 1, 1) := by decide +kernel
theorem dX4_makeSpline_6 : decode cX4_makeSpline 6 = .ok (.isub, 1) := by decide +kernel
theorem dX4_makeSpline_7 : decode cX4_makeSpline 7 = .ok (.putfield 64, 3) := by decide +kernel
theorem dX4_makeSpline_10 : decode cX4_makeSpline 10 = .ok (.aload_n 0, 1) := by decide +kernel
theorem dX4_makeSpline_11 : decode cX4_makeSpline 11 = .ok (.getfield 38, 3) := by decide +kernel
theorem dX4_makeSpline_14 : decode cX4_makeSpline 14 = .ok (.iconst 0, 1) := by decide +kernel
theorem dX4_makeSpline_15 : decode cX4_makeSpline 15 = .ok (.iload_n 1, 1) := by decide +kernel
theorem dX4_makeSpline_16 : decode cX4_makeSpline 16 = .ok (.iastore, 1) := by decide +kernel
theorem dX4_makeSpline_17 : decode cX4_makeSpline 17 = .ok (.iconst 0, 1) := by decide +kernel
theorem dX4_makeSpline_18 : decode cX4_makeSpline 18 = .ok (.istore_n 2, 1) := by decide +kernel
theorem dX4_makeSpline_19 : decode cX4_makeSpline 19 = .ok (.iload_n 2, 1) := by decide +kernel
theorem dX4_makeSpline_20 : decode cX4_makeSpline 20 = .ok (.aload_n 0, 1) := by decide +kernel
theorem dX4_makeSpline_21 : decode cX4_makeSpline 21 = .ok (.getfield 64, 3) := by decide +kernel
theorem dX4_makeSpline_24 : decode cX4_makeSpline 24 = .ok (.if_icmp .ge 84, 3) := by decide +kernel
theorem dX4_makeSpline_27 : decode cX4_makeSpline 27 = .ok (.aload_n 0, 1) := by decide +kernel
theorem dX4_makeSpline_28 : decode cX4_makeSpline 28 = .ok (.getfield 22, 3) := by decide +kernel
theorem dX4_makeSpline_31 : decode cX4_makeSpline 31 = .ok (.iload_n 2, 1) := by decide +kernel
theorem dX4_makeSpline_32 : decode cX4_makeSpline 32 = .ok (.iconst 1, 1) := by decide +kernel
theorem dX4_makeSpline_33 : decode cX4_makeSpline 33 = .ok (.iadd, 1) := by decide +kernel
theorem dX4_makeSpline_34 : decode cX4_makeSpline 34 = .ok (.iaload, 1) := by decide +kernel
theorem dX4_makeSpline_35 : decode cX4_makeSpline 35 = .ok (.aload_n 0, 1) := by decide +kernel
theorem dX4_makeSpline_36 : decode cX4_makeSpline 36 = .ok (.getfield 22, 3) := by decide +kernel
theorem dX4_makeSpline_39 : decode cX4_makeSpline 39 = .ok (.iload_n 2, 1) := by decide +kernel
theorem dX4_makeSpline_40 : decode cX4_makeSpline 40 = .ok (.iaload, 1) := by decide +kernel
theorem dX4_makeSpline_41 : decode cX4_makeSpline 41 = .ok (.isub, 1) := by decide +kernel
theorem dX4_makeSpline_42 : decode cX4_makeSpline 42 = .ok (.istore_n 3, 1) := by decide +kernel
theorem dX4_makeSpline_43 : decode cX4_makeSpline 43 = .ok (.aload_n 0, 1) := by decide +kernel
theorem dX4_makeSpline_44 : decode cX4_makeSpline 44 = .ok (.getfield 25, 3) := by decide +kernel
theorem dX4_makeSpline_47 : decode cX4_makeSpline 47 = .ok (.iload_n 2, 1) := by decide +kernel
theorem dX4_makeSpline_48 : decode cX4_makeSpline 48 = .ok (.aload_n 0, 1) := by decide +kernel
theorem dX4_makeSpline_49 : decode cX4_makeSpline 49 = .ok (.getfield 22, 3) := by decide +kernel
theorem dX4_makeSpline_52 : decode cX4_makeSpline 52 = .ok (.iload_n 2, 1) := by decide +kernel
theorem dX4_makeSpline_53 : decode cX4_makeSpline 53 = .ok (.iaload, 1) := by decide +kernel
theorem dX4_makeSpline_54 : decode cX4_makeSpline 54 = .ok (.i2l, 1) := by decide +kernel
theorem dX4_makeSpline_55 : decode cX4_makeSpline 55 = .ok (.lastore, 1) := by decide +kernel
theorem dX4_makeSpline_56 : decode cX4_makeSpline 56 = .ok (.aload_n 0, 1) := by decide +kernel
theorem dX4_makeSpline_57 : decode cX4_makeSpline 57 = .ok (.getfield 29, 3) := by decide +kernel
theorem dX4_makeSpline_60 : decode cX4_makeSpline 60 = .ok (.iload_n 2, 1) := by decide +kernel
theorem dX4_makeSpline_61 : decode cX4_makeSpline 61 = .ok (.aload_n 0, 1) := by decide +kernel
theorem dX4_makeSpline_62 : decode cX4_makeSpline 62 = .ok (.getfield 38, 3) := by decide +kernel
theorem dX4_makeSpline_65 : decode cX4_makeSpline 65 = .ok (.iload_n 2, 1) := by decide +kernel
theorem dX4_makeSpline_66 : decode cX4_makeSpline 66 = .ok (.iaload, 1) := by decide +kernel
theorem dX4_makeSpline_67 : decode cX4_makeSpline 67 = .ok (.i2l, 1) := by decide +kernel
theorem dX4_makeSpline_68 : decode cX4_makeSpline 68 = .ok (.lastore, 1) := by decide +kernel
theorem dX4_makeSpline_69 : decode cX4_makeSpline 69 = .ok (.aload_n 0, 1) := by decide +kernel
theorem dX4_makeSpline_70 : decode cX4_makeSpline 70 = .ok (.getfield 32, 3) := by decide +kernel
theorem dX4_makeSpline_73 : decode cX4_makeSpline 73 = .ok (.iload_n 2, 1) := by decide +kernel
theorem dX4_makeSpline_74 : decode cX4_makeSpline 74 = .ok (.iload_n 3, 1) := by decide +kernel
theorem dX4_makeSpline_75 : decode cX4_makeSpline 75 = .ok (.aload_n 0, 1) := by decide +kernel
theorem dX4_makeSpline_76 : decode cX4_makeSpline 76 = .ok (.getfield 38, 3) := by decide +kernel
theorem dX4_makeSpline_79 : decode cX4_makeSpline 79 = .ok (.iload_n 2, 1) := by decide +kernel
theorem dX4_makeSpline_80 : decode cX4_makeSpline 80 = .ok (.iaload, 1) := by decide +kernel
theorem dX4_makeSpline_81 : decode cX4_makeSpline 81 = .ok (.isub, 1) := by decide +kernel
theorem dX4_makeSpline_82 : decode cX4_makeSpline 82 = .ok (.i2l, 1) := by decide +kernel
theorem dX4_makeSpline_83 : decode cX4_makeSpline 83 = .ok (.lastore, 1) := by decide +kernel
theorem dX4_makeSpline_84 : decode cX4_makeSpline 84 = .ok (.aload_n 0, 1) := by decide +kernel
theorem dX4_makeSpline_85 : decode cX4_makeSpline 85 = .ok (.getfield 38, 3) := by decide +kernel
theorem dX4_makeSpline_88 : decode cX4_makeSpline 88 = .ok (.iload_n 2, 1) := by decide +kernel
theorem dX4_makeSpline_89 : decode cX4_makeSpline 89 = .ok (.iconst 1, 1) := by decide +kernel
theorem dX4_makeSpline_90 : decode cX4_makeSpline 90 = .ok (.iadd, 1) := by decide +kernel
theorem dX4_makeSpline_91 : decode cX4_makeSpline 91 = .ok (.iconst 2, 1) := by decide +kernel
theorem dX4_makeSpline_92 : decode cX4_makeSpline 92 = .ok (.iload_n 3, 1) := by decide +kernel
theorem dX4_makeSpline_93 : decode cX4_makeSpline 93 = .ok (.imul, 1) := by decide +kernel
theorem dX4_makeSpline_94 : decode cX4_makeSpline 94 = .ok (.aload_n 0, 1) := by decide +kernel
theorem dX4_makeSpline_95 : decode cX4_makeSpline 95 = .ok (.getfield 38, 3) := by decide +kernel
theorem dX4_makeSpline_98 : decode cX4_makeSpline 98 = .ok (.iload_n 2, 1) := by decide +kernel
theorem dX4_makeSpline_99 : decode cX4_makeSpline 99 = .ok (.iaload, 1) := by decide +kernel
theorem dX4_makeSpline_100 : decode cX4_makeSpline 100 = .ok (.isub, 1) := by decide +kernel
theorem dX4_makeSpline_101 : decode cX4_makeSpline 101 = .ok (.iastore, 1) := by decide +kernel
theorem dX4_makeSpline_102 : decode cX4_makeSpline 102 = .ok (.iinc 2 1, 3) := by decide +kernel
theorem dX4_makeSpline_105 : decode cX4_makeSpline 105 = .ok (.goto (-86), 3) := by decide +kernel
theorem dX4_makeSpline_108 : decode cX4_makeSpline 108 = .ok (.return_, 1) := by decide +kernel
theorem dX4_isSlope_0 : decode cX4_isSlope 0 = .ok (.aload_n 0, 1) := by decide +kernel
theorem dX4_isSlope_1 : decode cX4_isSlope 1 = .ok (.iload_n 2, 1) := by decide +kernel
theorem dX4_isSlope_2 : decode cX4_isSlope 2 = .ok (.invokevirtual 145, 3) := by decide +kernel
theorem dX4_isSlope_5 : decode cX4_isSlope 5 = .ok (.iload_n 1, 1) := by decide +kernel
theorem dX4_isSlope_6 : decode cX4_isSlope 6 = .ok (.ifCond .eq 11, 3) := by decide +kernel
theorem dX4_isSlope_9 : decode cX4_isSlope 9 = .ok (.aload_n 0, 1) := by decide +kernel
theorem dX4_isSlope_10 : decode cX4_isSlope 10 = .ok (.iload_n 1, 1) := by decide +kernel
theorem dX4_isSlope_11 : decode cX4_isSlope 11 = .ok (.invokevirtual 92, 3) := by decide +kernel
theorem dX4_isSlope_14 : decode cX4_isSlope 14 = .ok (.ifCond .eq 7, 3) := by decide +kernel
theorem dX4_isSlope_17 : decode cX4_isSlope 17 = .ok (.iconst 1, 1) := by decide +kernel
theorem dX4_isSlope_18 : decode cX4_isSlope 18 = .ok (.goto 4, 3) := by decide +kernel
theorem dX4_isSlope_21 : decode cX4_isSlope 21 = .ok (.iconst 0, 1) := by decide +kernel
theorem dX4_isSlope_22 : decode cX4_isSlope 22 = .ok (.ireturn, 1) := by decide +kernel
theorem dX4_slopes_0 : decode cX4_slopes 0 = .ok (.iload_n 1, 1) := by decide +kernel
theorem dX4_slopes_1 : decode cX4_slopes 1 = .ok (.i2l, 1) := by decide +kernel
theorem dX4_slopes_2 : decode cX4_slopes 2 = .ok (.lconst 0, 1) := by decide +kernel
theorem dX4_slopes_3 : decode cX4_slopes 3 = .ok (.ldc2_w 90, 3) := by decide +kernel
theorem dX4_slopes_6 : decode cX4_slopes 6 = .ok (.invokestatic 43, 3) := by decide +kernel
theorem dX4_slopes_9 : decode cX4_slopes 9 = .ok (.ifCond .eq 23, 3) := by decide +kernel
theorem dX4_slopes_12 : decode cX4_slopes 12 = .ok (.iload_n 2, 1) := by decide +kernel
theorem dX4_slopes_13 : decode cX4_slopes 13 = .ok (.i2l, 1) := by decide +kernel
theorem dX4_slopes_14 : decode cX4_slopes 14 = .ok (.lconst 0, 1) := by decide +kernel
theorem dX4_slopes_15 : decode cX4_slopes 15 = .ok (.ldc2_w 61, 3) := by decide +kernel
theorem dX4_slopes_18 : decode cX4_slopes 18 = .ok (.invokestatic 43, 3) := by decide +kernel
theorem dX4_slopes_21 : decode cX4_slopes 21 = .ok (.ifCond .eq 11, 3) := by decide +kernel
theorem dX4_slopes_24 : decode cX4_slopes 24 = .ok (.aload_n 0, 1) := by decide +kernel
theorem dX4_slopes_25 : decode cX4_slopes 25 = .ok (.getfield 142, 3) := by decide +kernel
theorem dX4_slopes_28 : decode cX4_slopes 28 = .ok (.iconst 2, 1) := by decide +kernel
theorem dX4_slopes_29 : decode cX4_slopes 29 = .ok (.if_icmp .ge 6, 3) := by decide +kernel
theorem dX4_slopes_32 : decode cX4_slopes 32 = .ok (.ldc 63, 2) := by decide +kernel
theorem dX4_slopes_34 : decode cX4_slopes 34 = .ok (.ireturn, 1) := by decide +kernel
theorem dX4_slopes_35 : decode cX4_slopes 35 = .ok (.sipush 2000, 3) := by decide +kernel
theorem dX4_slopes_38 : decode cX4_slopes 38 = .ok (.istore_n 3, 1) := by decide +kernel
theorem dX4_slopes_39 : decode cX4_slopes 39 = .ok (.sipush 2000, 3) := by decide +kernel
theorem dX4_slopes_42 : decode cX4_slopes 42 = .ok (.istore 4, 2) := by decide +kernel
theorem dX4_slopes_44 : decode cX4_slopes 44 = .ok (.iconst 0, 1) := by decide +kernel
theorem dX4_slopes_45 : decode cX4_slopes 45 = .ok (.istore 5, 2) := by decide +kernel
theorem dX4_slopes_47 : decode cX4_slopes 47 = .ok (.sipush (-1000), 3) := by decide +kernel
theorem dX4_slopes_50 : decode cX4_slopes 50 = .ok (.istore 6, 2) := by decide +kernel
theorem dX4_slopes_52 : decode cX4_slopes 52 = .ok (.iload 6, 2) := by decide +kernel
theorem dX4_slopes_54 : decode cX4_slopes 54 = .ok (.sipush 1000, 3) := by decide +kernel
theorem dX4_slopes_57 : decode cX4_slopes 57 = .ok (.if_icmp .gt 38, 3) := by decide +kernel
theorem dX4_slopes_60 : decode cX4_slopes 60 = .ok (.aload_n 0, 1) := by decide +kernel
theorem dX4_slopes_61 : decode cX4_slopes 61 = .ok (.iload_n 1, 1) := by decide +kernel
theorem dX4_slopes_62 : decode cX4_slopes 62 = .ok (.iload 6, 2) := by decide +kernel
theorem dX4_slopes_64 : decode cX4_slopes 64 = .ok (.invokevirtual 148, 3) := by decide +kernel
theorem dX4_slopes_67 : decode cX4_slopes 67 = .ok (.ifCond .eq 22, 3) := by decide +kernel
theorem dX4_slopes_70 : decode cX4_slopes 70 = .ok (.iload 5, 2) := by decide +kernel
theorem dX4_slopes_72 : decode cX4_slopes 72 = .ok (.ifCond .ne 8, 3) := by decide +kernel
theorem dX4_slopes_75 : decode cX4_slopes 75 = .ok (.iload 6, 2) := by decide +kernel
theorem dX4_slopes_77 : decode cX4_slopes 77 = .ok (.goto 4, 3) := by decide +kernel
theorem dX4_slopes_80 : decode cX4_slopes 80 = .ok (.iload_n 3, 1) := by decide +kernel
theorem dX4_slopes_81 : decode cX4_slopes 81 = .ok (.istore_n 3, 1) := by decide +kernel
theorem dX4_slopes_82 : decode cX4_slopes 82 = .ok (.iload 6, 2) := by decide +kernel
theorem dX4_slopes_84 : decode cX4_slopes 84 = .ok (.istore 4, 2) := by decide +kernel
theorem dX4_slopes_86 : decode cX4_slopes 86 = .ok (.iinc 5 1, 3) := by decide +kernel
theorem dX4_slopes_89 : decode cX4_slopes 89 = .ok (.iinc 6 1, 3) := by decide +kernel
theorem dX4_slopes_92 : decode cX4_slopes 92 = .ok (.goto (-40), 3) := by decide +kernel
theorem dX4_slopes_95 : decode cX4_slopes 95 = .ok (.iload_n 2, 1) := by decide +kernel
theorem dX4_slopes_96 : decode cX4_slopes 96 = .ok (.ifCond .ne 7, 3) := by decide +kernel
theorem dX4_slopes_99 : decode cX4_slopes 99 = .ok (.iload_n 3, 1) := by decide +kernel
theorem dX4_slopes_100 : decode cX4_slopes 100 = .ok (.goto 15, 3) := by decide +kernel
theorem dX4_slopes_103 : decode cX4_slopes 103 = .ok (.iload_n 2, 1) := by decide +kernel
theorem dX4_slopes_104 : decode cX4_slopes 104 = .ok (.iconst 1, 1) := by decide +kernel
theorem dX4_slopes_105 : decode cX4_slopes 105 = .ok (.if_icmp .ne 8, 3) := by decide +kernel
theorem dX4_slopes_108 : decode cX4_slopes 108 = .ok (.iload 4, 2) := by decide +kernel
theorem dX4_slopes_110 : decode cX4_slopes 110 = .ok (.goto 5, 3) := by decide +kernel
theorem dX4_slopes_113 : decode cX4_slopes 113 = .ok (.iload 5, 2) := by decide +kernel
theorem dX4_slopes_115 : decode cX4_slopes 115 = .ok (.ireturn, 1) := by decide +kernel
theorem dX4_bendOf_0 : decode cX4_bendOf 0 = .ok (.lconst 0, 1) := by decide +kernel
theorem dX4_bendOf_1 : decode cX4_bendOf 1 = .ok (.lstore_n 1, 1) := by decide +kernel
theorem dX4_bendOf_2 : decode cX4_bendOf 2 = .ok (.iconst 0, 1) := by decide +kernel
theorem dX4_bendOf_3 : decode cX4_bendOf 3 = .ok (.istore_n 3, 1) := by decide +kernel
theorem dX4_bendOf_4 : decode cX4_bendOf 4 = .ok (.iload_n 3, 1) := by decide +kernel
theorem dX4_bendOf_5 : decode cX4_bendOf 5 = .ok (.aload_n 0, 1) := by decide +kernel
theorem dX4_bendOf_6 : decode cX4_bendOf 6 = .ok (.getfield 64, 3) := by decide +kernel
theorem dX4_bendOf_9 : decode cX4_bendOf 9 = .ok (.if_icmp .ge 25, 3) := by decide +kernel
theorem dX4_bendOf_12 : decode cX4_bendOf 12 = .ok (.lload_n 1, 1) := by decide +kernel
theorem dX4_bendOf_13 : decode cX4_bendOf 13 = .ok (.aload_n 0, 1) := by decide +kernel
theorem dX4_bendOf_14 : decode cX4_bendOf 14 = .ok (.getfield 32, 3) := by decide +kernel
theorem dX4_bendOf_17 : decode cX4_bendOf 17 = .ok (.iload_n 3, 1) := by decide +kernel
theorem dX4_bendOf_18 : decode cX4_bendOf 18 = .ok (.laload, 1) := by decide +kernel
theorem dX4_bendOf_19 : decode cX4_bendOf 19 = .ok (.aload_n 0, 1) := by decide +kernel
theorem dX4_bendOf_20 : decode cX4_bendOf 20 = .ok (.getfield 32, 3) := by decide +kernel
theorem dX4_bendOf_23 : decode cX4_bendOf 23 = .ok (.iload_n 3, 1) := by decide +kernel
theorem dX4_bendOf_24 : decode cX4_bendOf 24 = .ok (.laload, 1) := by decide +kernel
theorem dX4_bendOf_25 : decode cX4_bendOf 25 = .ok (.lmul, 1) := by decide +kernel
theorem dX4_bendOf_26 : decode cX4_bendOf 26 = .ok (.ladd, 1) := by decide +kernel
theorem dX4_bendOf_27 : decode cX4_bendOf 27 = .ok (.lstore_n 1, 1) := by decide +kernel
theorem dX4_bendOf_28 : decode cX4_bendOf 28 = .ok (.iinc 3 1, 3) := by decide +kernel
theorem dX4_bendOf_31 : decode cX4_bendOf 31 = .ok (.goto (-27), 3) := by decide +kernel
theorem dX4_bendOf_34 : decode cX4_bendOf 34 = .ok (.lload_n 1, 1) := by decide +kernel
theorem dX4_bendOf_35 : decode cX4_bendOf 35 = .ok (.lreturn, 1) := by decide +kernel
theorem dX4_best_0 : decode cX4_best 0 = .ok (.iload_n 1, 1) := by decide +kernel
theorem dX4_best_1 : decode cX4_best 1 = .ok (.i2l, 1) := by decide +kernel
theorem dX4_best_2 : decode cX4_best 2 = .ok (.lconst 0, 1) := by decide +kernel
theorem dX4_best_3 : decode cX4_best 3 = .ok (.ldc2_w 90, 3) := by decide +kernel
theorem dX4_best_6 : decode cX4_best 6 = .ok (.invokestatic 43, 3) := by decide +kernel
theorem dX4_best_9 : decode cX4_best 9 = .ok (.ifCond .eq 11, 3) := by decide +kernel
theorem dX4_best_12 : decode cX4_best 12 = .ok (.aload_n 0, 1) := by decide +kernel
theorem dX4_best_13 : decode cX4_best 13 = .ok (.getfield 142, 3) := by decide +kernel
theorem dX4_best_16 : decode cX4_best 16 = .ok (.iconst 2, 1) := by decide +kernel
theorem dX4_best_17 : decode cX4_best 17 = .ok (.if_icmp .ge 6, 3) := by decide +kernel
theorem dX4_best_20 : decode cX4_best 20 = .ok (.ldc 63, 2) := by decide +kernel
theorem dX4_best_22 : decode cX4_best 22 = .ok (.ireturn, 1) := by decide +kernel
theorem dX4_best_23 : decode cX4_best 23 = .ok (.sipush 2000, 3) := by decide +kernel
theorem dX4_best_26 : decode cX4_best 26 = .ok (.istore_n 2, 1) := by decide +kernel
theorem dX4_best_27 : decode cX4_best 27 = .ok (.lconst 0, 1) := by decide +kernel
theorem dX4_best_28 : decode cX4_best 28 = .ok (.lstore_n 3, 1) := by decide +kernel
theorem dX4_best_29 : decode cX4_best 29 = .ok (.sipush (-1000), 3) := by decide +kernel
theorem dX4_best_32 : decode cX4_best 32 = .ok (.istore 5, 2) := by decide +kernel
theorem dX4_best_34 : decode cX4_best 34 = .ok (.iload 5, 2) := by decide +kernel
theorem dX4_best_36 : decode cX4_best 36 = .ok (.sipush 1000, 3) := by decide +kernel
theorem dX4_best_39 : decode cX4_best 39 = .ok (.if_icmp .gt 43, 3) := by decide +kernel
theorem dX4_best_42 : decode cX4_best 42 = .ok (.aload_n 0, 1) := by decide +kernel
theorem dX4_best_43 : decode cX4_best 43 = .ok (.iload_n 1, 1) := by decide +kernel
theorem dX4_best_44 : decode cX4_best 44 = .ok (.iload 5, 2) := by decide +kernel
theorem dX4_best_46 : decode cX4_best 46 = .ok (.invokevirtual 148, 3) := by decide +kernel
theorem dX4_best_49 : decode cX4_best 49 = .ok (.ifCond .eq 27, 3) := by decide +kernel
theorem dX4_best_52 : decode cX4_best 52 = .ok (.iload_n 2, 1) := by decide +kernel
theorem dX4_best_53 : decode cX4_best 53 = .ok (.sipush 2000, 3) := by decide +kernel
theorem dX4_best_56 : decode cX4_best 56 = .ok (.if_icmp .eq 12, 3) := by decide +kernel
theorem dX4_best_59 : decode cX4_best 59 = .ok (.aload_n 0, 1) := by decide +kernel
theorem dX4_best_60 : decode cX4_best 60 = .ok (.invokevirtual 152, 3) := by decide +kernel
theorem dX4_best_63 : decode cX4_best 63 = .ok (.lload_n 3, 1) := by decide +kernel
theorem dX4_best_64 : decode cX4_best 64 = .ok (.lcmp, 1) := by decide +kernel
theorem dX4_best_65 : decode cX4_best 65 = .ok (.ifCond .ge 11, 3) := by decide +kernel
theorem dX4_best_68 : decode cX4_best 68 = .ok (.iload 5, 2) := by decide +kernel
theorem dX4_best_70 : decode cX4_best 70 = .ok (.istore_n 2, 1) := by decide +kernel
theorem dX4_best_71 : decode cX4_best 71 = .ok (.aload_n 0, 1) := by decide +kernel
theorem dX4_best_72 : decode cX4_best 72 = .ok (.invokevirtual 152, 3) := by decide +kernel
theorem dX4_best_75 : decode cX4_best 75 = .ok (.lstore_n 3, 1) := by decide +kernel
theorem dX4_best_76 : decode cX4_best 76 = .ok (.iinc 5 1, 3) := by decide +kernel
theorem dX4_best_79 : decode cX4_best 79 = .ok (.goto (-45), 3) := by decide +kernel
theorem dX4_best_82 : decode cX4_best 82 = .ok (.iload_n 2, 1) := by decide +kernel
theorem dX4_best_83 : decode cX4_best 83 = .ok (.ireturn, 1) := by decide +kernel
theorem dX4_bend_0 : decode cX4_bend 0 = .ok (.iload_n 1, 1) := by decide +kernel
theorem dX4_bend_1 : decode cX4_bend 1 = .ok (.i2l, 1) := by decide +kernel
theorem dX4_bend_2 : decode cX4_bend 2 = .ok (.ldc2_w 138, 3) := by decide +kernel
theorem dX4_bend_5 : decode cX4_bend 5 = .ok (.ldc2_w 140, 3) := by decide +kernel
theorem dX4_bend_8 : decode cX4_bend 8 = .ok (.invokestatic 43, 3) := by decide +kernel
theorem dX4_bend_11 : decode cX4_bend 11 = .ok (.ifCond .ne 7, 3) := by decide +kernel
theorem dX4_bend_14 : decode cX4_bend 14 = .ok (.ldc2_w 156, 3) := by decide +kernel
theorem dX4_bend_17 : decode cX4_bend 17 = .ok (.lreturn, 1) := by decide +kernel
theorem dX4_bend_18 : decode cX4_bend 18 = .ok (.aload_n 0, 1) := by decide +kernel
theorem dX4_bend_19 : decode cX4_bend 19 = .ok (.getfield 142, 3) := by decide +kernel
theorem dX4_bend_22 : decode cX4_bend 22 = .ok (.iconst 2, 1) := by decide +kernel
theorem dX4_bend_23 : decode cX4_bend 23 = .ok (.if_icmp .ge 7, 3) := by decide +kernel
theorem dX4_bend_26 : decode cX4_bend 26 = .ok (.ldc2_w 97, 3) := by decide +kernel
theorem dX4_bend_29 : decode cX4_bend 29 = .ok (.lreturn, 1) := by decide +kernel
theorem dX4_bend_30 : decode cX4_bend 30 = .ok (.aload_n 0, 1) := by decide +kernel
theorem dX4_bend_31 : decode cX4_bend 31 = .ok (.iload_n 1, 1) := by decide +kernel
theorem dX4_bend_32 : decode cX4_bend 32 = .ok (.invokevirtual 145, 3) := by decide +kernel
theorem dX4_bend_35 : decode cX4_bend 35 = .ok (.aload_n 0, 1) := by decide +kernel
theorem dX4_bend_36 : decode cX4_bend 36 = .ok (.invokevirtual 152, 3) := by decide +kernel
theorem dX4_bend_39 : decode cX4_bend 39 = .ok (.lreturn, 1) := by decide +kernel
theorem dX4_spline_0 : decode cX4_spline 0 = .ok (.iload_n 1, 1) := by decide +kernel
theorem dX4_spline_1 : decode cX4_spline 1 = .ok (.invokestatic 51, 3) := by decide +kernel
theorem dX4_spline_4 : decode cX4_spline 4 = .ok (.ifCond .ne 6, 3) := by decide +kernel
theorem dX4_spline_7 : decode cX4_spline 7 = .ok (.bipush (-2), 2) := by decide +kernel
theorem dX4_spline_9 : decode cX4_spline 9 = .ok (.ireturn, 1) := by decide +kernel
theorem dX4_spline_10 : decode cX4_spline 10 = .ok (.iload_n 2, 1) := by decide +kernel
theorem dX4_spline_11 : decode cX4_spline 11 = .ok (.i2l, 1) := by decide +kernel
theorem dX4_spline_12 : decode cX4_spline 12 = .ok (.ldc2_w 138, 3) := by decide +kernel
theorem dX4_spline_15 : decode cX4_spline 15 = .ok (.ldc2_w 140, 3) := by decide +kernel
theorem dX4_spline_18 : decode cX4_spline 18 = .ok (.invokestatic 43, 3) := by decide +kernel
theorem dX4_spline_21 : decode cX4_spline 21 = .ok (.ifCond .ne 6, 3) := by decide +kernel
theorem dX4_spline_24 : decode cX4_spline 24 = .ok (.bipush (-3), 2) := by decide +kernel
theorem dX4_spline_26 : decode cX4_spline 26 = .ok (.ireturn, 1) := by decide +kernel
theorem dX4_spline_27 : decode cX4_spline 27 = .ok (.aload_n 0, 1) := by decide +kernel
theorem dX4_spline_28 : decode cX4_spline 28 = .ok (.getfield 142, 3) := by decide +kernel
theorem dX4_spline_31 : decode cX4_spline 31 = .ok (.iconst 2, 1) := by decide +kernel
theorem dX4_spline_32 : decode cX4_spline 32 = .ok (.if_icmp .ge 6, 3) := by decide +kernel
theorem dX4_spline_35 : decode cX4_spline 35 = .ok (.bipush (-4), 2) := by decide +kernel
theorem dX4_spline_37 : decode cX4_spline 37 = .ok (.ireturn, 1) := by decide +kernel
theorem dX4_spline_38 : decode cX4_spline 38 = .ok (.aload_n 0, 1) := by decide +kernel
theorem dX4_spline_39 : decode cX4_spline 39 = .ok (.iload_n 2, 1) := by decide +kernel
theorem dX4_spline_40 : decode cX4_spline 40 = .ok (.invokevirtual 145, 3) := by decide +kernel
theorem dX4_spline_43 : decode cX4_spline 43 = .ok (.aload_n 0, 1) := by decide +kernel
theorem dX4_spline_44 : decode cX4_spline 44 = .ok (.iload_n 1, 1) := by decide +kernel
theorem dX4_spline_45 : decode cX4_spline 45 = .ok (.invokevirtual 135, 3) := by decide +kernel
theorem dX4_spline_48 : decode cX4_spline 48 = .ok (.ireturn, 1) := by decide +kernel
theorem dX4_count_0 : decode cX4_count 0 = .ok (.iload_n 1, 1) := by decide +kernel
theorem dX4_count_1 : decode cX4_count 1 = .ok (.invokestatic 51, 3) := by decide +kernel
theorem dX4_count_4 : decode cX4_count 4 = .ok (.ifCond .ne 6, 3) := by decide +kernel
theorem dX4_count_7 : decode cX4_count 7 = .ok (.bipush (-2), 2) := by decide +kernel
theorem dX4_count_9 : decode cX4_count 9 = .ok (.ireturn, 1) := by decide +kernel
theorem dX4_count_10 : decode cX4_count 10 = .ok (.iload_n 2, 1) := by decide +kernel
theorem dX4_count_11 : decode cX4_count 11 = .ok (.i2l, 1) := by decide +kernel
theorem dX4_count_12 : decode cX4_count 12 = .ok (.lconst 0, 1) := by decide +kernel
theorem dX4_count_13 : decode cX4_count 13 = .ok (.ldc2_w 61, 3) := by decide +kernel
theorem dX4_count_16 : decode cX4_count 16 = .ok (.invokestatic 43, 3) := by decide +kernel
theorem dX4_count_19 : decode cX4_count 19 = .ok (.ifCond .ne 6, 3) := by decide +kernel
theorem dX4_count_22 : decode cX4_count 22 = .ok (.bipush (-3), 2) := by decide +kernel
theorem dX4_count_24 : decode cX4_count 24 = .ok (.ireturn, 1) := by decide +kernel
theorem dX4_count_25 : decode cX4_count 25 = .ok (.aload_n 0, 1) := by decide +kernel
theorem dX4_count_26 : decode cX4_count 26 = .ok (.iload_n 1, 1) := by decide +kernel
theorem dX4_count_27 : decode cX4_count 27 = .ok (.invokevirtual 80, 3) := by decide +kernel
theorem dX4_count_30 : decode cX4_count 30 = .ok (.iconst 0, 1) := by decide +kernel
theorem dX4_count_31 : decode cX4_count 31 = .ok (.istore_n 3, 1) := by decide +kernel
theorem dX4_count_32 : decode cX4_count 32 = .ok (.iconst 1, 1) := by decide +kernel
theorem dX4_count_33 : decode cX4_count 33 = .ok (.istore 4, 2) := by decide +kernel
theorem dX4_count_35 : decode cX4_count 35 = .ok (.iload 4, 2) := by decide +kernel
theorem dX4_count_37 : decode cX4_count 37 = .ok (.aload_n 0, 1) := by decide +kernel
theorem dX4_count_38 : decode cX4_count 38 = .ok (.getfield 64, 3) := by decide +kernel
theorem dX4_count_41 : decode cX4_count 41 = .ok (.if_icmp .ge 36, 3) := by decide +kernel
theorem dX4_count_44 : decode cX4_count 44 = .ok (.iload_n 3, 1) := by decide +kernel
theorem dX4_count_45 : decode cX4_count 45 = .ok (.aload_n 0, 1) := by decide +kernel
theorem dX4_count_46 : decode cX4_count 46 = .ok (.iload 4, 2) := by decide +kernel
theorem dX4_count_48 : decode cX4_count 48 = .ok (.invokevirtual 84, 3) := by decide +kernel
theorem dX4_count_51 : decode cX4_count 51 = .ok (.iload_n 2, 1) := by decide +kernel
theorem dX4_count_52 : decode cX4_count 52 = .ok (.iconst 1, 1) := by decide +kernel
theorem dX4_count_53 : decode cX4_count 53 = .ok (.if_icmp .ne 7, 3) := by decide +kernel
theorem dX4_count_56 : decode cX4_count 56 = .ok (.iconst (-1), 1) := by decide +kernel
theorem dX4_count_57 : decode cX4_count 57 = .ok (.goto 4, 3) := by decide +kernel
theorem dX4_count_60 : decode cX4_count 60 = .ok (.iconst 2, 1) := by decide +kernel
theorem dX4_count_61 : decode cX4_count 61 = .ok (.if_icmp .ne 7, 3) := by decide +kernel
theorem dX4_count_64 : decode cX4_count 64 = .ok (.iconst 1, 1) := by decide +kernel
theorem dX4_count_65 : decode cX4_count 65 = .ok (.goto 4, 3) := by decide +kernel
theorem dX4_count_68 : decode cX4_count 68 = .ok (.iconst 0, 1) := by decide +kernel
theorem dX4_count_69 : decode cX4_count 69 = .ok (.iadd, 1) := by decide +kernel
theorem dX4_count_70 : decode cX4_count 70 = .ok (.istore_n 3, 1) := by decide +kernel
theorem dX4_count_71 : decode cX4_count 71 = .ok (.iinc 4 1, 3) := by decide +kernel
theorem dX4_count_74 : decode cX4_count 74 = .ok (.goto (-39), 3) := by decide +kernel
theorem dX4_count_77 : decode cX4_count 77 = .ok (.iload_n 2, 1) := by decide +kernel
theorem dX4_count_78 : decode cX4_count 78 = .ok (.ifCond .ne 10, 3) := by decide +kernel
theorem dX4_count_81 : decode cX4_count 81 = .ok (.aload_n 0, 1) := by decide +kernel
theorem dX4_count_82 : decode cX4_count 82 = .ok (.getfield 64, 3) := by decide +kernel
theorem dX4_count_85 : decode cX4_count 85 = .ok (.goto 4, 3) := by decide +kernel
theorem dX4_count_88 : decode cX4_count 88 = .ok (.iload_n 3, 1) := by decide +kernel
theorem dX4_count_89 : decode cX4_count 89 = .ok (.ireturn, 1) := by decide +kernel
