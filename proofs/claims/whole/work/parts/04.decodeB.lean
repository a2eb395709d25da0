theorem dX3_init_0 : decode cX3_init 0 = .ok (.aload_n 0, 1) := by decide +kernel
theorem dX3_init_1 : decode cX3_init 1 = .ok (.invokespecial 1, 3) := by decide +kernel
theorem dX3_init_4 : decode cX3_init 4 = .ok (.aload_n 0, 1) := by decide +kernel
theorem dX3_init_5 : decode cX3_init 5 = .ok (.bipush 6, 2) := by decide +kernel
theorem dX3_init_7 : decode cX3_init 7 = .ok (.anewarray 9, 3) := by decide +kernel
theorem dX3_init_10 : decode cX3_init 10 = .ok (.putfield 11, 3) := by decide +kernel
theorem dX3_init_13 : decode cX3_init 13 = .ok (.aload_n 0, 1) := by decide +kernel
theorem dX3_init_14 : decode cX3_init 14 = .ok (.new 9, 3) := by decide +kernel
theorem dX3_init_17 : decode cX3_init 17 = .ok (.dup, 1) := by decide +kernel
theorem dX3_init_18 : decode cX3_init 18 = .ok (.invokespecial 15, 3) := by decide +kernel
theorem dX3_init_21 : decode cX3_init 21 = .ok (.putfield 16, 3) := by decide +kernel
theorem dX3_init_24 : decode cX3_init 24 = .ok (.aload_n 0, 1) := by decide +kernel
theorem dX3_init_25 : decode cX3_init 25 = .ok (.new 20, 3) := by decide +kernel
theorem dX3_init_28 : decode cX3_init 28 = .ok (.dup, 1) := by decide +kernel
theorem dX3_init_29 : decode cX3_init 29 = .ok (.invokespecial 22, 3) := by decide +kernel
theorem dX3_init_32 : decode cX3_init 32 = .ok (.putfield 23, 3) := by decide +kernel
theorem dX3_init_35 : decode cX3_init 35 = .ok (.aload_n 0, 1) := by decide +kernel
theorem dX3_init_36 : decode cX3_init 36 = .ok (.new 27, 3) := by decide +kernel
theorem dX3_init_39 : decode cX3_init 39 = .ok (.dup, 1) := by decide +kernel
theorem dX3_init_40 : decode cX3_init 40 = .ok (.invokespecial 29, 3) := by decide +kernel
theorem dX3_init_43 : decode cX3_init 43 = .ok (.putfield 30, 3) := by decide +kernel
theorem dX3_init_46 : decode cX3_init 46 = .ok (.aload_n 0, 1) := by decide +kernel
theorem dX3_init_47 : decode cX3_init 47 = .ok (.bipush 17, 2) := by decide +kernel
theorem dX3_init_49 : decode cX3_init 49 = .ok (.newarray .int, 2) := by decide +kernel
theorem dX3_init_51 : decode cX3_init 51 = .ok (.putfield 34, 3) := by decide +kernel
theorem dX3_init_54 : decode cX3_init 54 = .ok (.aload_n 0, 1) := by decide +kernel
theorem dX3_init_55 : decode cX3_init 55 = .ok (.iconst 0, 1) := by decide +kernel
theorem dX3_init_56 : decode cX3_init 56 = .ok (.putfield 38, 3) := by decide +kernel
theorem dX3_init_59 : decode cX3_init 59 = .ok (.iconst 0, 1) := by decide +kernel
theorem dX3_init_60 : decode cX3_init 60 = .ok (.istore_n 1, 1) := by decide +kernel
theorem dX3_init_61 : decode cX3_init 61 = .ok (.iload_n 1, 1) := by decide +kernel
theorem dX3_init_62 : decode cX3_init 62 = .ok (.bipush 6, 2) := by decide +kernel
theorem dX3_init_64 : decode cX3_init 64 = .ok (.if_icmp .ge 22, 3) := by decide +kernel
theorem dX3_init_67 : decode cX3_init 67 = .ok (.aload_n 0, 1) := by decide +kernel
theorem dX3_init_68 : decode cX3_init 68 = .ok (.getfield 11, 3) := by decide +kernel
theorem dX3_init_71 : decode cX3_init 71 = .ok (.iload_n 1, 1) := by decide +kernel
theorem dX3_init_72 : decode cX3_init 72 = .ok (.new 9, 3) := by decide +kernel
theorem dX3_init_75 : decode cX3_init 75 = .ok (.dup, 1) := by decide +kernel
theorem dX3_init_76 : decode cX3_init 76 = .ok (.invokespecial 15, 3) := by decide +kernel
theorem dX3_init_79 : decode cX3_init 79 = .ok (.aastore, 1) := by decide +kernel
theorem dX3_init_80 : decode cX3_init 80 = .ok (.iinc 1 1, 3) := by decide +kernel
theorem dX3_init_83 : decode cX3_init 83 = .ok (.goto (-22), 3) := by decide +kernel
theorem dX3_init_86 : decode cX3_init 86 = .ok (.return_, 1) := by decide +kernel
theorem dX3_pieces_0 : decode cX3_pieces 0 = .ok (.iload_n 1, 1) := by decide +kernel
theorem dX3_pieces_1 : decode cX3_pieces 1 = .ok (.invokestatic 42, 3) := by decide +kernel
theorem dX3_pieces_4 : decode cX3_pieces 4 = .ok (.ifCond .eq 6, 3) := by decide +kernel
theorem dX3_pieces_7 : decode cX3_pieces 7 = .ok (.bipush (-2), 2) := by decide +kernel
theorem dX3_pieces_9 : decode cX3_pieces 9 = .ok (.ireturn, 1) := by decide +kernel
theorem dX3_pieces_10 : decode cX3_pieces 10 = .ok (.iload_n 2, 1) := by decide +kernel
theorem dX3_pieces_11 : decode cX3_pieces 11 = .ok (.iconst 1, 1) := by decide +kernel
theorem dX3_pieces_12 : decode cX3_pieces 12 = .ok (.if_icmp .lt 9, 3) := by decide +kernel
theorem dX3_pieces_15 : decode cX3_pieces 15 = .ok (.iload_n 2, 1) := by decide +kernel
theorem dX3_pieces_16 : decode cX3_pieces 16 = .ok (.bipush 16, 2) := by decide +kernel
theorem dX3_pieces_18 : decode cX3_pieces 18 = .ok (.if_icmp .le 6, 3) := by decide +kernel
theorem dX3_pieces_21 : decode cX3_pieces 21 = .ok (.bipush (-3), 2) := by decide +kernel
theorem dX3_pieces_23 : decode cX3_pieces 23 = .ok (.ireturn, 1) := by decide +kernel
theorem dX3_pieces_24 : decode cX3_pieces 24 = .ok (.aload_n 0, 1) := by decide +kernel
theorem dX3_pieces_25 : decode cX3_pieces 25 = .ok (.getfield 11, 3) := by decide +kernel
theorem dX3_pieces_28 : decode cX3_pieces 28 = .ok (.iload_n 1, 1) := by decide +kernel
theorem dX3_pieces_29 : decode cX3_pieces 29 = .ok (.aaload, 1) := by decide +kernel
theorem dX3_pieces_30 : decode cX3_pieces 30 = .ok (.iload_n 2, 1) := by decide +kernel
theorem dX3_pieces_31 : decode cX3_pieces 31 = .ok (.invokevirtual 46, 3) := by decide +kernel
theorem dX3_pieces_34 : decode cX3_pieces 34 = .ok (.iconst 1, 1) := by decide +kernel
theorem dX3_pieces_35 : decode cX3_pieces 35 = .ok (.ireturn, 1) := by decide +kernel
theorem dX3_piece_0 : decode cX3_piece 0 = .ok (.aload_n 0, 1) := by decide +kernel
theorem dX3_piece_1 : decode cX3_piece 1 = .ok (.iload_n 1, 1) := by decide +kernel
theorem dX3_piece_2 : decode cX3_piece 2 = .ok (.iload_n 2, 1) := by decide +kernel
theorem dX3_piece_3 : decode cX3_piece 3 = .ok (.invokevirtual 50, 3) := by decide +kernel
theorem dX3_piece_6 : decode cX3_piece 6 = .ok (.ifCond .eq 6, 3) := by decide +kernel
theorem dX3_piece_9 : decode cX3_piece 9 = .ok (.bipush (-2), 2) := by decide +kernel
theorem dX3_piece_11 : decode cX3_piece 11 = .ok (.ireturn, 1) := by decide +kernel
theorem dX3_piece_12 : decode cX3_piece 12 = .ok (.iload_n 3, 1) := by decide +kernel
theorem dX3_piece_13 : decode cX3_piece 13 = .ok (.ldc 54, 2) := by decide +kernel
theorem dX3_piece_15 : decode cX3_piece 15 = .ok (.invokestatic 55, 3) := by decide +kernel
theorem dX3_piece_18 : decode cX3_piece 18 = .ok (.ifCond .ne 23, 3) := by decide +kernel
theorem dX3_piece_21 : decode cX3_piece 21 = .ok (.iload 4, 2) := by decide +kernel
theorem dX3_piece_23 : decode cX3_piece 23 = .ok (.ldc 54, 2) := by decide +kernel
theorem dX3_piece_25 : decode cX3_piece 25 = .ok (.invokestatic 55, 3) := by decide +kernel
theorem dX3_piece_28 : decode cX3_piece 28 = .ok (.ifCond .ne 13, 3) := by decide +kernel
theorem dX3_piece_31 : decode cX3_piece 31 = .ok (.iload 5, 2) := by decide +kernel
theorem dX3_piece_33 : decode cX3_piece 33 = .ok (.ldc 54, 2) := by decide +kernel
theorem dX3_piece_35 : decode cX3_piece 35 = .ok (.invokestatic 55, 3) := by decide +kernel
theorem dX3_piece_38 : decode cX3_piece 38 = .ok (.ifCond .eq 6, 3) := by decide +kernel
theorem dX3_piece_41 : decode cX3_piece 41 = .ok (.bipush (-5), 2) := by decide +kernel
theorem dX3_piece_43 : decode cX3_piece 43 = .ok (.ireturn, 1) := by decide +kernel
theorem dX3_piece_44 : decode cX3_piece 44 = .ok (.aload_n 0, 1) := by decide +kernel
theorem dX3_piece_45 : decode cX3_piece 45 = .ok (.getfield 11, 3) := by decide +kernel
theorem dX3_piece_48 : decode cX3_piece 48 = .ok (.iload_n 1, 1) := by decide +kernel
theorem dX3_piece_49 : decode cX3_piece 49 = .ok (.aaload, 1) := by decide +kernel
theorem dX3_piece_50 : decode cX3_piece 50 = .ok (.iload_n 2, 1) := by decide +kernel
theorem dX3_piece_51 : decode cX3_piece 51 = .ok (.iload_n 3, 1) := by decide +kernel
theorem dX3_piece_52 : decode cX3_piece 52 = .ok (.iload 4, 2) := by decide +kernel
theorem dX3_piece_54 : decode cX3_piece 54 = .ok (.iload 5, 2) := by decide +kernel
theorem dX3_piece_56 : decode cX3_piece 56 = .ok (.invokevirtual 58, 3) := by decide +kernel
theorem dX3_piece_59 : decode cX3_piece 59 = .ok (.iconst 1, 1) := by decide +kernel
theorem dX3_piece_60 : decode cX3_piece 60 = .ok (.ireturn, 1) := by decide +kernel
theorem dX3_of_0 : decode cX3_of 0 = .ok (.aload_n 0, 1) := by decide +kernel
theorem dX3_of_1 : decode cX3_of 1 = .ok (.iload_n 1, 1) := by decide +kernel
theorem dX3_of_2 : decode cX3_of 2 = .ok (.iload_n 2, 1) := by decide +kernel
theorem dX3_of_3 : decode cX3_of 3 = .ok (.invokevirtual 50, 3) := by decide +kernel
theorem dX3_of_6 : decode cX3_of 6 = .ok (.ifCond .eq 6, 3) := by decide +kernel
theorem dX3_of_9 : decode cX3_of 9 = .ok (.ldc 62, 2) := by decide +kernel
theorem dX3_of_11 : decode cX3_of 11 = .ok (.ireturn, 1) := by decide +kernel
theorem dX3_of_12 : decode cX3_of 12 = .ok (.iload_n 3, 1) := by decide +kernel
theorem dX3_of_13 : decode cX3_of 13 = .ok (.tableswitch 63 0 2 #[27, 39, 51], 27) := by decide +kernel
theorem dX3_of_40 : decode cX3_of 40 = .ok (.aload_n 0, 1) := by decide +kernel
theorem dX3_of_41 : decode cX3_of 41 = .ok (.getfield 11, 3) := by decide +kernel
theorem dX3_of_44 : decode cX3_of 44 = .ok (.iload_n 1, 1) := by decide +kernel
theorem dX3_of_45 : decode cX3_of 45 = .ok (.aaload, 1) := by decide +kernel
theorem dX3_of_46 : decode cX3_of 46 = .ok (.getfield 63, 3) := by decide +kernel
theorem dX3_of_49 : decode cX3_of 49 = .ok (.iload_n 2, 1) := by decide +kernel
theorem dX3_of_50 : decode cX3_of 50 = .ok (.iaload, 1) := by decide +kernel
theorem dX3_of_51 : decode cX3_of 51 = .ok (.ireturn, 1) := by decide +kernel
theorem dX3_of_52 : decode cX3_of 52 = .ok (.aload_n 0, 1) := by decide +kernel
theorem dX3_of_53 : decode cX3_of 53 = .ok (.getfield 11, 3) := by decide +kernel
theorem dX3_of_56 : decode cX3_of 56 = .ok (.iload_n 1, 1) := by decide +kernel
theorem dX3_of_57 : decode cX3_of 57 = .ok (.aaload, 1) := by decide +kernel
theorem dX3_of_58 : decode cX3_of 58 = .ok (.getfield 66, 3) := by decide +kernel
theorem dX3_of_61 : decode cX3_of 61 = .ok (.iload_n 2, 1) := by decide +kernel
theorem dX3_of_62 : decode cX3_of 62 = .ok (.iaload, 1) := by decide +kernel
theorem dX3_of_63 : decode cX3_of 63 = .ok (.ireturn, 1) := by decide +kernel
theorem dX3_of_64 : decode cX3_of 64 = .ok (.aload_n 0, 1) := by decide +kernel
theorem dX3_of_65 : decode cX3_of 65 = .ok (.getfield 11, 3) := by decide +kernel
theorem dX3_of_68 : decode cX3_of 68 = .ok (.iload_n 1, 1) := by decide +kernel
theorem dX3_of_69 : decode cX3_of 69 = .ok (.aaload, 1) := by decide +kernel
theorem dX3_of_70 : decode cX3_of 70 = .ok (.getfield 69, 3) := by decide +kernel
theorem dX3_of_73 : decode cX3_of 73 = .ok (.iload_n 2, 1) := by decide +kernel
theorem dX3_of_74 : decode cX3_of 74 = .ok (.iaload, 1) := by decide +kernel
theorem dX3_of_75 : decode cX3_of 75 = .ok (.ireturn, 1) := by decide +kernel
theorem dX3_of_76 : decode cX3_of 76 = .ok (.ldc 62, 2) := by decide +kernel
theorem dX3_of_78 : decode cX3_of 78 = .ok (.ireturn, 1) := by decide +kernel
theorem dX3_value_0 : decode cX3_value 0 = .ok (.iload_n 1, 1) := by decide +kernel
theorem dX3_value_1 : decode cX3_value 1 = .ok (.invokestatic 42, 3) := by decide +kernel
theorem dX3_value_4 : decode cX3_value 4 = .ok (.ifCond .ne 22, 3) := by decide +kernel
theorem dX3_value_7 : decode cX3_value 7 = .ok (.iload 4, 2) := by decide +kernel
theorem dX3_value_9 : decode cX3_value 9 = .ok (.invokestatic 72, 3) := by decide +kernel
theorem dX3_value_12 : decode cX3_value 12 = .ok (.ifCond .ne 14, 3) := by decide +kernel
theorem dX3_value_15 : decode cX3_value 15 = .ok (.iload_n 3, 1) := by decide +kernel
theorem dX3_value_16 : decode cX3_value 16 = .ok (.iconst 1, 1) := by decide +kernel
theorem dX3_value_17 : decode cX3_value 17 = .ok (.if_icmp .lt 9, 3) := by decide +kernel
theorem dX3_value_20 : decode cX3_value 20 = .ok (.iload_n 3, 1) := by decide +kernel
theorem dX3_value_21 : decode cX3_value 21 = .ok (.bipush 64, 2) := by decide +kernel
theorem dX3_value_23 : decode cX3_value 23 = .ok (.if_icmp .le 7, 3) := by decide +kernel
theorem dX3_value_26 : decode cX3_value 26 = .ok (.ldc2_w 75, 3) := by decide +kernel
theorem dX3_value_29 : decode cX3_value 29 = .ok (.lreturn, 1) := by decide +kernel
theorem dX3_value_30 : decode cX3_value 30 = .ok (.aload_n 0, 1) := by decide +kernel
theorem dX3_value_31 : decode cX3_value 31 = .ok (.getfield 11, 3) := by decide +kernel
theorem dX3_value_34 : decode cX3_value 34 = .ok (.iload_n 1, 1) := by decide +kernel
theorem dX3_value_35 : decode cX3_value 35 = .ok (.aaload, 1) := by decide +kernel
theorem dX3_value_36 : decode cX3_value 36 = .ok (.astore 5, 2) := by decide +kernel
theorem dX3_value_38 : decode cX3_value 38 = .ok (.iload_n 2, 1) := by decide +kernel
theorem dX3_value_39 : decode cX3_value 39 = .ok (.ifCond .lt 14, 3) := by decide +kernel
theorem dX3_value_42 : decode cX3_value 42 = .ok (.iload_n 2, 1) := by decide +kernel
theorem dX3_value_43 : decode cX3_value 43 = .ok (.aload 5, 2) := by decide +kernel
theorem dX3_value_45 : decode cX3_value 45 = .ok (.getfield 77, 3) := by decide +kernel
theorem dX3_value_48 : decode cX3_value 48 = .ok (.iload_n 3, 1) := by decide +kernel
theorem dX3_value_49 : decode cX3_value 49 = .ok (.imul, 1) := by decide +kernel
theorem dX3_value_50 : decode cX3_value 50 = .ok (.if_icmp .le 7, 3) := by decide +kernel
theorem dX3_value_53 : decode cX3_value 53 = .ok (.ldc2_w 75, 3) := by decide +kernel
theorem dX3_value_56 : decode cX3_value 56 = .ok (.lreturn, 1) := by decide +kernel
theorem dX3_value_57 : decode cX3_value 57 = .ok (.iload_n 2, 1) := by decide +kernel
theorem dX3_value_58 : decode cX3_value 58 = .ok (.iload_n 3, 1) := by decide +kernel
theorem dX3_value_59 : decode cX3_value 59 = .ok (.idiv, 1) := by decide +kernel
theorem dX3_value_60 : decode cX3_value 60 = .ok (.aload 5, 2) := by decide +kernel
theorem dX3_value_62 : decode cX3_value 62 = .ok (.getfield 77, 3) := by decide +kernel
theorem dX3_value_65 : decode cX3_value 65 = .ok (.iconst 1, 1) := by decide +kernel
theorem dX3_value_66 : decode cX3_value 66 = .ok (.isub, 1) := by decide +kernel
theorem dX3_value_67 : decode cX3_value 67 = .ok (.invokestatic 80, 3) := by decide +kernel
theorem dX3_value_70 : decode cX3_value 70 = .ok (.istore 6, 2) := by decide +kernel
theorem dX3_value_72 : decode cX3_value 72 = .ok (.iload_n 2, 1) := by decide +kernel
theorem dX3_value_73 : decode cX3_value 73 = .ok (.iload 6, 2) := by decide +kernel
theorem dX3_value_75 : decode cX3_value 75 = .ok (.iload_n 3, 1) := by decide +kernel
theorem dX3_value_76 : decode cX3_value 76 = .ok (.imul, 1) := by decide +kernel
theorem dX3_value_77 : decode cX3_value 77 = .ok (.isub, 1) := by decide +kernel
theorem dX3_value_78 : decode cX3_value 78 = .ok (.i2l, 1) := by decide +kernel
theorem dX3_value_79 : decode cX3_value 79 = .ok (.lstore 7, 2) := by decide +kernel
theorem dX3_value_81 : decode cX3_value 81 = .ok (.aload 5, 2) := by decide +kernel
theorem dX3_value_83 : decode cX3_value 83 = .ok (.getfield 63, 3) := by decide +kernel
theorem dX3_value_86 : decode cX3_value 86 = .ok (.iload 6, 2) := by decide +kernel
theorem dX3_value_88 : decode cX3_value 88 = .ok (.iaload, 1) := by decide +kernel
theorem dX3_value_89 : decode cX3_value 89 = .ok (.i2l, 1) := by decide +kernel
theorem dX3_value_90 : decode cX3_value 90 = .ok (.iload_n 3, 1) := by decide +kernel
theorem dX3_value_91 : decode cX3_value 91 = .ok (.i2l, 1) := by decide +kernel
theorem dX3_value_92 : decode cX3_value 92 = .ok (.lmul, 1) := by decide +kernel
theorem dX3_value_93 : decode cX3_value 93 = .ok (.aload 5, 2) := by decide +kernel
theorem dX3_value_95 : decode cX3_value 95 = .ok (.getfield 66, 3) := by decide +kernel
theorem dX3_value_98 : decode cX3_value 98 = .ok (.iload 6, 2) := by decide +kernel
theorem dX3_value_100 : decode cX3_value 100 = .ok (.iaload, 1) := by decide +kernel
theorem dX3_value_101 : decode cX3_value 101 = .ok (.i2l, 1) := by decide +kernel
theorem dX3_value_102 : decode cX3_value 102 = .ok (.lload 7, 2) := by decide +kernel
theorem dX3_value_104 : decode cX3_value 104 = .ok (.lmul, 1) := by decide +kernel
theorem dX3_value_105 : decode cX3_value 105 = .ok (.ladd, 1) := by decide +kernel
theorem dX3_value_106 : decode cX3_value 106 = .ok (.iload_n 3, 1) := by decide +kernel
theorem dX3_value_107 : decode cX3_value 107 = .ok (.i2l, 1) := by decide +kernel
theorem dX3_value_108 : decode cX3_value 108 = .ok (.lmul, 1) := by decide +kernel
theorem dX3_value_109 : decode cX3_value 109 = .ok (.aload 5, 2) := by decide +kernel
theorem dX3_value_111 : decode cX3_value 111 = .ok (.getfield 69, 3) := by decide +kernel
theorem dX3_value_114 : decode cX3_value 114 = .ok (.iload 6, 2) := by decide +kernel
theorem dX3_value_116 : decode cX3_value 116 = .ok (.iaload, 1) := by decide +kernel
theorem dX3_value_117 : decode cX3_value 117 = .ok (.i2l, 1) := by decide +kernel
theorem dX3_value_118 : decode cX3_value 118 = .ok (.lload 7, 2) := by decide +kernel
theorem dX3_value_120 : decode cX3_value 120 = .ok (.lmul, 1) := by decide +kernel
theorem dX3_value_121 : decode cX3_value 121 = .ok (.lload 7, 2) := by decide +kernel
theorem dX3_value_123 : decode cX3_value 123 = .ok (.lmul, 1) := by decide +kernel
theorem dX3_value_124 : decode cX3_value 124 = .ok (.ladd, 1) := by decide +kernel
theorem dX3_value_125 : decode cX3_value 125 = .ok (.lstore 9, 2) := by decide +kernel
theorem dX3_value_127 : decode cX3_value 127 = .ok (.lload 9, 2) := by decide +kernel
theorem dX3_value_129 : decode cX3_value 129 = .ok (.iload_n 3, 1) := by decide +kernel
theorem dX3_value_130 : decode cX3_value 130 = .ok (.i2l, 1) := by decide +kernel
theorem dX3_value_131 : decode cX3_value 131 = .ok (.iload_n 3, 1) := by decide +kernel
theorem dX3_value_132 : decode cX3_value 132 = .ok (.i2l, 1) := by decide +kernel
theorem dX3_value_133 : decode cX3_value 133 = .ok (.lmul, 1) := by decide +kernel
theorem dX3_value_134 : decode cX3_value 134 = .ok (.iload 4, 2) := by decide +kernel
theorem dX3_value_136 : decode cX3_value 136 = .ok (.invokestatic 86, 3) := by decide +kernel
theorem dX3_value_139 : decode cX3_value 139 = .ok (.lreturn, 1) := by decide +kernel
theorem dX3_join_0 : decode cX3_join 0 = .ok (.iload_n 1, 1) := by decide +kernel
theorem dX3_join_1 : decode cX3_join 1 = .ok (.invokestatic 42, 3) := by decide +kernel
theorem dX3_join_4 : decode cX3_join 4 = .ok (.ifCond .ne 21, 3) := by decide +kernel
theorem dX3_join_7 : decode cX3_join 7 = .ok (.iload_n 2, 1) := by decide +kernel
theorem dX3_join_8 : decode cX3_join 8 = .ok (.iconst 1, 1) := by decide +kernel
theorem dX3_join_9 : decode cX3_join 9 = .ok (.if_icmp .lt 16, 3) := by decide +kernel
theorem dX3_join_12 : decode cX3_join 12 = .ok (.iload_n 2, 1) := by decide +kernel
theorem dX3_join_13 : decode cX3_join 13 = .ok (.aload_n 0, 1) := by decide +kernel
theorem dX3_join_14 : decode cX3_join 14 = .ok (.getfield 11, 3) := by decide +kernel
theorem dX3_join_17 : decode cX3_join 17 = .ok (.iload_n 1, 1) := by decide +kernel
theorem dX3_join_18 : decode cX3_join 18 = .ok (.aaload, 1) := by decide +kernel
theorem dX3_join_19 : decode cX3_join 19 = .ok (.getfield 77, 3) := by decide +kernel
theorem dX3_join_22 : decode cX3_join 22 = .ok (.if_icmp .lt 6, 3) := by decide +kernel
theorem dX3_join_25 : decode cX3_join 25 = .ok (.bipush (-2), 2) := by decide +kernel
theorem dX3_join_27 : decode cX3_join 27 = .ok (.ireturn, 1) := by decide +kernel
theorem dX3_join_28 : decode cX3_join 28 = .ok (.aload_n 0, 1) := by decide +kernel
theorem dX3_join_29 : decode cX3_join 29 = .ok (.getfield 11, 3) := by decide +kernel
theorem dX3_join_32 : decode cX3_join 32 = .ok (.iload_n 1, 1) := by decide +kernel
theorem dX3_join_33 : decode cX3_join 33 = .ok (.aaload, 1) := by decide +kernel
theorem dX3_join_34 : decode cX3_join 34 = .ok (.iload_n 2, 1) := by decide +kernel
theorem dX3_join_35 : decode cX3_join 35 = .ok (.invokevirtual 90, 3) := by decide +kernel
theorem dX3_join_38 : decode cX3_join 38 = .ok (.ireturn, 1) := by decide +kernel
theorem dX3_has_0 : decode cX3_has 0 = .ok (.iload_n 1, 1) := by decide +kernel
theorem dX3_has_1 : decode cX3_has 1 = .ok (.invokestatic 42, 3) := by decide +kernel
theorem dX3_has_4 : decode cX3_has 4 = .ok (.ifCond .eq 6, 3) := by decide +kernel
theorem dX3_has_7 : decode cX3_has 7 = .ok (.bipush (-2), 2) := by decide +kernel
theorem dX3_has_9 : decode cX3_has 9 = .ok (.ireturn, 1) := by decide +kernel
theorem dX3_has_10 : decode cX3_has 10 = .ok (.iload_n 2, 1) := by decide +kernel
theorem dX3_has_11 : decode cX3_has 11 = .ok (.iconst 1, 1) := by decide +kernel
theorem dX3_has_12 : decode cX3_has 12 = .ok (.if_icmp .lt 8, 3) := by decide +kernel
theorem dX3_has_15 : decode cX3_has 15 = .ok (.iload_n 2, 1) := by decide +kernel
theorem dX3_has_16 : decode cX3_has 16 = .ok (.iconst 4, 1) := by decide +kernel
theorem dX3_has_17 : decode cX3_has 17 = .ok (.if_icmp .le 6, 3) := by decide +kernel
theorem dX3_has_20 : decode cX3_has 20 = .ok (.bipush (-3), 2) := by decide +kernel
theorem dX3_has_22 : decode cX3_has 22 = .ok (.ireturn, 1) := by decide +kernel
theorem dX3_has_23 : decode cX3_has 23 = .ok (.iload_n 2, 1) := by decide +kernel
theorem dX3_has_24 : decode cX3_has 24 = .ok (.invokestatic 94, 3) := by decide +kernel
theorem dX3_has_27 : decode cX3_has 27 = .ok (.istore_n 3, 1) := by decide +kernel
theorem dX3_has_28 : decode cX3_has 28 = .ok (.iload_n 2, 1) := by decide +kernel
theorem dX3_has_29 : decode cX3_has 29 = .ok (.invokestatic 97, 3) := by decide +kernel
theorem dX3_has_32 : decode cX3_has 32 = .ok (.ifCond .eq 16, 3) := by decide +kernel
theorem dX3_has_35 : decode cX3_has 35 = .ok (.aload_n 0, 1) := by decide +kernel
theorem dX3_has_36 : decode cX3_has 36 = .ok (.getfield 11, 3) := by decide +kernel
theorem dX3_has_39 : decode cX3_has 39 = .ok (.iload_n 1, 1) := by decide +kernel
theorem dX3_has_40 : decode cX3_has 40 = .ok (.aaload, 1) := by decide +kernel
theorem dX3_has_41 : decode cX3_has 41 = .ok (.iload_n 3, 1) := by decide +kernel
theorem dX3_has_42 : decode cX3_has 42 = .ok (.invokevirtual 100, 3) := by decide +kernel
theorem dX3_has_45 : decode cX3_has 45 = .ok (.goto 13, 3) := by decide +kernel
theorem dX3_has_48 : decode cX3_has 48 = .ok (.aload_n 0, 1) := by decide +kernel
theorem dX3_has_49 : decode cX3_has 49 = .ok (.getfield 11, 3) := by decide +kernel
theorem dX3_has_52 : decode cX3_has 52 = .ok (.iload_n 1, 1) := by decide +kernel
theorem dX3_has_53 : decode cX3_has 53 = .ok (.aaload, 1) := by decide +kernel
theorem dX3_has_54 : decode cX3_has 54 = .ok (.iload_n 3, 1) := by decide +kernel
theorem dX3_has_55 : decode cX3_has 55 = .ok (.invokevirtual 103, 3) := by decide +kernel
theorem dX3_has_58 : decode cX3_has 58 = .ok (.istore 4, 2) := by decide +kernel
theorem dX3_has_60 : decode cX3_has 60 = .ok (.iload 4, 2) := by decide +kernel
theorem dX3_has_62 : decode cX3_has 62 = .ok (.ifCond .eq 7, 3) := by decide +kernel
theorem dX3_has_65 : decode cX3_has 65 = .ok (.iconst 1, 1) := by decide +kernel
theorem dX3_has_66 : decode cX3_has 66 = .ok (.goto 4, 3) := by decide +kernel
theorem dX3_has_69 : decode cX3_has 69 = .ok (.iconst 0, 1) := by decide +kernel
theorem dX3_has_70 : decode cX3_has 70 = .ok (.ireturn, 1) := by decide +kernel
theorem dX3_end_0 : decode cX3_end 0 = .ok (.iload_n 1, 1) := by decide +kernel
theorem dX3_end_1 : decode cX3_end 1 = .ok (.invokestatic 42, 3) := by decide +kernel
theorem dX3_end_4 : decode cX3_end 4 = .ok (.ifCond .eq 6, 3) := by decide +kernel
theorem dX3_end_7 : decode cX3_end 7 = .ok (.ldc 62, 2) := by decide +kernel
theorem dX3_end_9 : decode cX3_end 9 = .ok (.ireturn, 1) := by decide +kernel
theorem dX3_end_10 : decode cX3_end 10 = .ok (.iload_n 2, 1) := by decide +kernel
theorem dX3_end_11 : decode cX3_end 11 = .ok (.lookupswitch 50 #[(0, 25), (1, 37)], 25) := by decide +kernel
theorem dX3_end_36 : decode cX3_end 36 = .ok (.aload_n 0, 1) := by decide +kernel
theorem dX3_end_37 : decode cX3_end 37 = .ok (.getfield 11, 3) := by decide +kernel
theorem dX3_end_40 : decode cX3_end 40 = .ok (.iload_n 1, 1) := by decide +kernel
theorem dX3_end_41 : decode cX3_end 41 = .ok (.aaload, 1) := by decide +kernel
theorem dX3_end_42 : decode cX3_end 42 = .ok (.iconst 1, 1) := by decide +kernel
theorem dX3_end_43 : decode cX3_end 43 = .ok (.invokevirtual 106, 3) := by decide +kernel
theorem dX3_end_46 : decode cX3_end 46 = .ok (.l2i, 1) := by decide +kernel
theorem dX3_end_47 : decode cX3_end 47 = .ok (.ireturn, 1) := by decide +kernel
theorem dX3_end_48 : decode cX3_end 48 = .ok (.aload_n 0, 1) := by decide +kernel
theorem dX3_end_49 : decode cX3_end 49 = .ok (.getfield 11, 3) := by decide +kernel
theorem dX3_end_52 : decode cX3_end 52 = .ok (.iload_n 1, 1) := by decide +kernel
theorem dX3_end_53 : decode cX3_end 53 = .ok (.aaload, 1) := by decide +kernel
theorem dX3_end_54 : decode cX3_end 54 = .ok (.iconst (-1), 1) := by decide +kernel
theorem dX3_end_55 : decode cX3_end 55 = .ok (.invokevirtual 106, 3) := by decide +kernel
theorem dX3_end_58 : decode cX3_end 58 = .ok (.lneg, 1) := by decide +kernel
theorem dX3_end_59 : decode cX3_end 59 = .ok (.l2i, 1) := by decide +kernel
theorem dX3_end_60 : decode cX3_end 60 = .ok (.ireturn, 1) := by decide +kernel
theorem dX3_end_61 : decode cX3_end 61 = .ok (.ldc 62, 2) := by decide +kernel
theorem dX3_end_63 : decode cX3_end 63 = .ok (.ireturn, 1) := by decide +kernel
theorem dX3_zeros_0 : decode cX3_zeros 0 = .ok (.iload_n 1, 1) := by decide +kernel
theorem dX3_zeros_1 : decode cX3_zeros 1 = .ok (.invokestatic 42, 3) := by decide +kernel
theorem dX3_zeros_4 : decode cX3_zeros 4 = .ok (.ifCond .eq 6, 3) := by decide +kernel
theorem dX3_zeros_7 : decode cX3_zeros 7 = .ok (.bipush (-2), 2) := by decide +kernel
theorem dX3_zeros_9 : decode cX3_zeros 9 = .ok (.ireturn, 1) := by decide +kernel
theorem dX3_zeros_10 : decode cX3_zeros 10 = .ok (.aload_n 0, 1) := by decide +kernel
theorem dX3_zeros_11 : decode cX3_zeros 11 = .ok (.aload_n 0, 1) := by decide +kernel
theorem dX3_zeros_12 : decode cX3_zeros 12 = .ok (.getfield 11, 3) := by decide +kernel
theorem dX3_zeros_15 : decode cX3_zeros 15 = .ok (.iload_n 1, 1) := by decide +kernel
theorem dX3_zeros_16 : decode cX3_zeros 16 = .ok (.aaload, 1) := by decide +kernel
theorem dX3_zeros_17 : decode cX3_zeros 17 = .ok (.invokevirtual 110, 3) := by decide +kernel
theorem dX3_zeros_20 : decode cX3_zeros 20 = .ok (.ireturn, 1) := by decide +kernel
theorem dX3_zero_0 : decode cX3_zero 0 = .ok (.iload_n 1, 1) := by decide +kernel
theorem dX3_zero_1 : decode cX3_zero 1 = .ok (.invokestatic 42, 3) := by decide +kernel
theorem dX3_zero_4 : decode cX3_zero 4 = .ok (.ifCond .eq 6, 3) := by decide +kernel
theorem dX3_zero_7 : decode cX3_zero 7 = .ok (.bipush (-2), 2) := by decide +kernel
theorem dX3_zero_9 : decode cX3_zero 9 = .ok (.ireturn, 1) := by decide +kernel
theorem dX3_zero_10 : decode cX3_zero 10 = .ok (.aload_n 0, 1) := by decide +kernel
theorem dX3_zero_11 : decode cX3_zero 11 = .ok (.aload_n 0, 1) := by decide +kernel
theorem dX3_zero_12 : decode cX3_zero 12 = .ok (.getfield 11, 3) := by decide +kernel
theorem dX3_zero_15 : decode cX3_zero 15 = .ok (.iload_n 1, 1) := by decide +kernel
theorem dX3_zero_16 : decode cX3_zero 16 = .ok (.aaload, 1) := by decide +kernel
theorem dX3_zero_17 : decode cX3_zero 17 = .ok (.invokevirtual 110, 3) := by decide +kernel
theorem dX3_zero_20 : decode cX3_zero 20 = .ok (.istore_n 3, 1) := by decide +kernel
theorem dX3_zero_21 : decode cX3_zero 21 = .ok (.iload_n 3, 1) := by decide +kernel
theorem dX3_zero_22 : decode cX3_zero 22 = .ok (.bipush (-4), 2) := by decide +kernel
theorem dX3_zero_24 : decode cX3_zero 24 = .ok (.if_icmp .ne 6, 3) := by decide +kernel
theorem dX3_zero_27 : decode cX3_zero 27 = .ok (.bipush (-4), 2) := by decide +kernel
theorem dX3_zero_29 : decode cX3_zero 29 = .ok (.ireturn, 1) := by decide +kernel
theorem dX3_zero_30 : decode cX3_zero 30 = .ok (.iload_n 2, 1) := by decide +kernel
theorem dX3_zero_31 : decode cX3_zero 31 = .ok (.ifCond .lt 8, 3) := by decide +kernel
theorem dX3_zero_34 : decode cX3_zero 34 = .ok (.iload_n 2, 1) := by decide +kernel
theorem dX3_zero_35 : decode cX3_zero 35 = .ok (.iload_n 3, 1) := by decide +kernel
theorem dX3_zero_36 : decode cX3_zero 36 = .ok (.if_icmp .lt 6, 3) := by decide +kernel
theorem dX3_zero_39 : decode cX3_zero 39 = .ok (.bipush (-2), 2) := by decide +kernel
theorem dX3_zero_41 : decode cX3_zero 41 = .ok (.ireturn, 1) := by decide +kernel
theorem dX3_zero_42 : decode cX3_zero 42 = .ok (.aload_n 0, 1) := by decide +kernel
theorem dX3_zero_43 : decode cX3_zero 43 = .ok (.getfield 23, 3) := by decide +kernel
theorem dX3_zero_46 : decode cX3_zero 46 = .ok (.getfield 114, 3) := by decide +kernel
theorem dX3_zero_49 : decode cX3_zero 49 = .ok (.iload_n 2, 1) := by decide +kernel
theorem dX3_zero_50 : decode cX3_zero 50 = .ok (.iaload, 1) := by decide +kernel
theorem dX3_zero_51 : decode cX3_zero 51 = .ok (.ireturn, 1) := by decide +kernel
theorem dX3_area_0 : decode cX3_area 0 = .ok (.iload_n 1, 1) := by decide +kernel
theorem dX3_area_1 : decode cX3_area 1 = .ok (.invokestatic 42, 3) := by decide +kernel
theorem dX3_area_4 : decode cX3_area 4 = .ok (.ifCond .ne 11, 3) := by decide +kernel
theorem dX3_area_7 : decode cX3_area 7 = .ok (.iload 4, 2) := by decide +kernel
theorem dX3_area_9 : decode cX3_area 9 = .ok (.invokestatic 72, 3) := by decide +kernel
theorem dX3_area_12 : decode cX3_area 12 = .ok (.ifCond .eq 7, 3) := by decide +kernel
theorem dX3_area_15 : decode cX3_area 15 = .ok (.ldc2_w 75, 3) := by decide +kernel
theorem dX3_area_18 : decode cX3_area 18 = .ok (.lreturn, 1) := by decide +kernel
theorem dX3_area_19 : decode cX3_area 19 = .ok (.aload_n 0, 1) := by decide +kernel
theorem dX3_area_20 : decode cX3_area 20 = .ok (.getfield 11, 3) := by decide +kernel
theorem dX3_area_23 : decode cX3_area 23 = .ok (.iload_n 1, 1) := by decide +kernel
theorem dX3_area_24 : decode cX3_area 24 = .ok (.aaload, 1) := by decide +kernel
theorem dX3_area_25 : decode cX3_area 25 = .ok (.astore 5, 2) := by decide +kernel
theorem dX3_area_27 : decode cX3_area 27 = .ok (.iload_n 2, 1) := by decide +kernel
theorem dX3_area_28 : decode cX3_area 28 = .ok (.ifCond .lt 17, 3) := by decide +kernel
theorem dX3_area_31 : decode cX3_area 31 = .ok (.iload_n 2, 1) := by decide +kernel
theorem dX3_area_32 : decode cX3_area 32 = .ok (.iload_n 3, 1) := by decide +kernel
theorem dX3_area_33 : decode cX3_area 33 = .ok (.if_icmp .gt 12, 3) := by decide +kernel
theorem dX3_area_36 : decode cX3_area 36 = .ok (.iload_n 3, 1) := by decide +kernel
theorem dX3_area_37 : decode cX3_area 37 = .ok (.aload 5, 2) := by decide +kernel
theorem dX3_area_39 : decode cX3_area 39 = .ok (.getfield 77, 3) := by decide +kernel
theorem dX3_area_42 : decode cX3_area 42 = .ok (.if_icmp .le 7, 3) := by decide +kernel
theorem dX3_area_45 : decode cX3_area 45 = .ok (.ldc2_w 75, 3) := by decide +kernel
theorem dX3_area_48 : decode cX3_area 48 = .ok (.lreturn, 1) := by decide +kernel
theorem dX3_area_49 : decode cX3_area 49 = .ok (.lconst 0, 1) := by decide +kernel
theorem dX3_area_50 : decode cX3_area 50 = .ok (.lstore 6, 2) := by decide +kernel
theorem dX3_area_52 : decode cX3_area 52 = .ok (.iload_n 2, 1) := by decide +kernel
theorem dX3_area_53 : decode cX3_area 53 = .ok (.istore 8, 2) := by decide +kernel
theorem dX3_area_55 : decode cX3_area 55 = .ok (.iload 8, 2) := by decide +kernel
theorem dX3_area_57 : decode cX3_area 57 = .ok (.iload_n 3, 1) := by decide +kernel
theorem dX3_area_58 : decode cX3_area 58 = .ok (.if_icmp .ge 55, 3) := by decide +kernel
theorem dX3_area_61 : decode cX3_area 61 = .ok (.lload 6, 2) := by decide +kernel
theorem dX3_area_63 : decode cX3_area 63 = .ok (.ldc2_w 117, 3) := by decide +kernel
theorem dX3_area_66 : decode cX3_area 66 = .ok (.aload 5, 2) := by decide +kernel
theorem dX3_area_68 : decode cX3_area 68 = .ok (.getfield 63, 3) := by decide +kernel
theorem dX3_area_71 : decode cX3_area 71 = .ok (.iload 8, 2) := by decide +kernel
theorem dX3_area_73 : decode cX3_area 73 = .ok (.iaload, 1) := by decide +kernel
theorem dX3_area_74 : decode cX3_area 74 = .ok (.i2l, 1) := by decide +kernel
theorem dX3_area_75 : decode cX3_area 75 = .ok (.lmul, 1) := by decide +kernel
theorem dX3_area_76 : decode cX3_area 76 = .ok (.ldc2_w 119, 3) := by decide +kernel
theorem dX3_area_79 : decode cX3_area 79 = .ok (.aload 5, 2) := by decide +kernel
theorem dX3_area_81 : decode cX3_area 81 = .ok (.getfield 66, 3) := by decide +kernel
theorem dX3_area_84 : decode cX3_area 84 = .ok (.iload 8, 2) := by decide +kernel
theorem dX3_area_86 : decode cX3_area 86 = .ok (.iaload, 1) := by decide +kernel
theorem dX3_area_87 : decode cX3_area 87 = .ok (.i2l, 1) := by decide +kernel
theorem dX3_area_88 : decode cX3_area 88 = .ok (.lmul, 1) := by decide +kernel
theorem dX3_area_89 : decode cX3_area 89 = .ok (.ladd, 1) := by decide +kernel
theorem dX3_area_90 : decode cX3_area 90 = .ok (.ldc2_w 121, 3) := by decide +kernel
theorem dX3_area_93 : decode cX3_area 93 = .ok (.aload 5, 2) := by decide +kernel
theorem dX3_area_95 : decode cX3_area 95 = .ok (.getfield 69, 3) := by decide +kernel
theorem dX3_area_98 : decode cX3_area 98 = .ok (.iload 8, 2) := by decide +kernel
theorem dX3_area_100 : decode cX3_area 100 = .ok (.iaload, 1) := by decide +kernel
theorem dX3_area_101 : decode cX3_area 101 = .ok (.i2l, 1) := by decide +kernel
theorem dX3_area_102 : decode cX3_area 102 = .ok (.lmul, 1) := by decide +kernel
theorem dX3_area_103 : decode cX3_area 103 = .ok (.ladd, 1) := by decide +kernel
theorem dX3_area_104 : decode cX3_area 104 = .ok (.ladd, 1) := by decide +kernel
theorem dX3_area_105 : decode cX3_area 105 = .ok (.lstore 6, 2) := by decide +kernel
theorem dX3_area_107 : decode cX3_area 107 = .ok (.iinc 8 1, 3) := by decide +kernel
theorem dX3_area_110 : decode cX3_area 110 = .ok (.goto (-55), 3) := by decide +kernel
theorem dX3_area_113 : decode cX3_area 113 = .ok (.lload 6, 2) := by decide +kernel
theorem dX3_area_115 : decode cX3_area 115 = .ok (.ldc2_w 117, 3) := by decide +kernel
theorem dX3_area_118 : decode cX3_area 118 = .ok (.iload 4, 2) := by decide +kernel
theorem dX3_area_120 : decode cX3_area 120 = .ok (.invokestatic 86, 3) := by decide +kernel
theorem dX3_area_123 : decode cX3_area 123 = .ok (.lreturn, 1) := by decide +kernel
theorem dX3_same_0 : decode cX3_same 0 = .ok (.iload_n 1, 1) := by decide +kernel
theorem dX3_same_1 : decode cX3_same 1 = .ok (.invokestatic 42, 3) := by decide +kernel
theorem dX3_same_4 : decode cX3_same 4 = .ok (.ifCond .ne 10, 3) := by decide +kernel
theorem dX3_same_7 : decode cX3_same 7 = .ok (.iload_n 2, 1) := by decide +kernel
theorem dX3_same_8 : decode cX3_same 8 = .ok (.invokestatic 42, 3) := by decide +kernel
theorem dX3_same_11 : decode cX3_same 11 = .ok (.ifCond .eq 6, 3) := by decide +kernel
theorem dX3_same_14 : decode cX3_same 14 = .ok (.bipush (-2), 2) := by decide +kernel
theorem dX3_same_16 : decode cX3_same 16 = .ok (.ireturn, 1) := by decide +kernel
theorem dX3_same_17 : decode cX3_same 17 = .ok (.aload_n 0, 1) := by decide +kernel
theorem dX3_same_18 : decode cX3_same 18 = .ok (.getfield 11, 3) := by decide +kernel
theorem dX3_same_21 : decode cX3_same 21 = .ok (.iload_n 1, 1) := by decide +kernel
theorem dX3_same_22 : decode cX3_same 22 = .ok (.aaload, 1) := by decide +kernel
theorem dX3_same_23 : decode cX3_same 23 = .ok (.aload_n 0, 1) := by decide +kernel
theorem dX3_same_24 : decode cX3_same 24 = .ok (.getfield 11, 3) := by decide +kernel
theorem dX3_same_27 : decode cX3_same 27 = .ok (.iload_n 2, 1) := by decide +kernel
theorem dX3_same_28 : decode cX3_same 28 = .ok (.aaload, 1) := by decide +kernel
theorem dX3_same_29 : decode cX3_same 29 = .ok (.invokevirtual 123, 3) := by decide +kernel
theorem dX3_same_32 : decode cX3_same 32 = .ok (.ifCond .eq 7, 3) := by decide +kernel
theorem dX3_same_35 : decode cX3_same 35 = .ok (.iconst 1, 1) := by decide +kernel
theorem dX3_same_36 : decode cX3_same 36 = .ok (.goto 4, 3) := by decide +kernel
theorem dX3_same_39 : decode cX3_same 39 = .ok (.iconst 0, 1) := by decide +kernel
theorem dX3_same_40 : decode cX3_same 40 = .ok (.ireturn, 1) := by decide +kernel
theorem dX3_meets_0 : decode cX3_meets 0 = .ok (.iload_n 1, 1) := by decide +kernel
theorem dX3_meets_1 : decode cX3_meets 1 = .ok (.invokestatic 42, 3) := by decide +kernel
theorem dX3_meets_4 : decode cX3_meets 4 = .ok (.ifCond .ne 10, 3) := by decide +kernel
theorem dX3_meets_7 : decode cX3_meets 7 = .ok (.iload_n 2, 1) := by decide +kernel
theorem dX3_meets_8 : decode cX3_meets 8 = .ok (.invokestatic 42, 3) := by decide +kernel
theorem dX3_meets_11 : decode cX3_meets 11 = .ok (.ifCond .eq 6, 3) := by decide +kernel
theorem dX3_meets_14 : decode cX3_meets 14 = .ok (.bipush (-2), 2) := by decide +kernel
theorem dX3_meets_16 : decode cX3_meets 16 = .ok (.ireturn, 1) := by decide +kernel
theorem dX3_meets_17 : decode cX3_meets 17 = .ok (.aload_n 0, 1) := by decide +kernel
theorem dX3_meets_18 : decode cX3_meets 18 = .ok (.getfield 11, 3) := by decide +kernel
theorem dX3_meets_21 : decode cX3_meets 21 = .ok (.iload_n 1, 1) := by decide +kernel
theorem dX3_meets_22 : decode cX3_meets 22 = .ok (.aaload, 1) := by decide +kernel
theorem dX3_meets_23 : decode cX3_meets 23 = .ok (.getfield 77, 3) := by decide +kernel
theorem dX3_meets_26 : decode cX3_meets 26 = .ok (.aload_n 0, 1) := by decide +kernel
theorem dX3_meets_27 : decode cX3_meets 27 = .ok (.getfield 11, 3) := by decide +kernel
theorem dX3_meets_30 : decode cX3_meets 30 = .ok (.iload_n 2, 1) := by decide +kernel
theorem dX3_meets_31 : decode cX3_meets 31 = .ok (.aaload, 1) := by decide +kernel
theorem dX3_meets_32 : decode cX3_meets 32 = .ok (.getfield 77, 3) := by decide +kernel
theorem dX3_meets_35 : decode cX3_meets 35 = .ok (.if_icmp .eq 6, 3) := by decide +kernel
theorem dX3_meets_38 : decode cX3_meets 38 = .ok (.bipush (-4), 2) := by decide +kernel
theorem dX3_meets_40 : decode cX3_meets 40 = .ok (.ireturn, 1) := by decide +kernel
theorem dX3_meets_41 : decode cX3_meets 41 = .ok (.aload_n 0, 1) := by decide +kernel
theorem dX3_meets_42 : decode cX3_meets 42 = .ok (.getfield 16, 3) := by decide +kernel
theorem dX3_meets_45 : decode cX3_meets 45 = .ok (.aload_n 0, 1) := by decide +kernel
theorem dX3_meets_46 : decode cX3_meets 46 = .ok (.getfield 11, 3) := by decide +kernel
theorem dX3_meets_49 : decode cX3_meets 49 = .ok (.iload_n 1, 1) := by decide +kernel
theorem dX3_meets_50 : decode cX3_meets 50 = .ok (.aaload, 1) := by decide +kernel
theorem dX3_meets_51 : decode cX3_meets 51 = .ok (.iconst 1, 1) := by decide +kernel
theorem dX3_meets_52 : decode cX3_meets 52 = .ok (.aload_n 0, 1) := by decide +kernel
theorem dX3_meets_53 : decode cX3_meets 53 = .ok (.getfield 11, 3) := by decide +kernel
theorem dX3_meets_56 : decode cX3_meets 56 = .ok (.iload_n 2, 1) := by decide +kernel
theorem dX3_meets_57 : decode cX3_meets 57 = .ok (.aaload, 1) := by decide +kernel
theorem dX3_meets_58 : decode cX3_meets 58 = .ok (.iconst (-1), 1) := by decide +kernel
theorem dX3_meets_59 : decode cX3_meets 59 = .ok (.invokevirtual 127, 3) := by decide +kernel
theorem dX3_meets_62 : decode cX3_meets 62 = .ok (.aload_n 0, 1) := by decide +kernel
theorem dX3_meets_63 : decode cX3_meets 63 = .ok (.aload_n 0, 1) := by decide +kernel
theorem dX3_meets_64 : decode cX3_meets 64 = .ok (.getfield 16, 3) := by decide +kernel
theorem dX3_meets_67 : decode cX3_meets 67 = .ok (.invokevirtual 110, 3) := by decide +kernel
theorem dX3_meets_70 : decode cX3_meets 70 = .ok (.ireturn, 1) := by decide +kernel
theorem dX3_mix_0 : decode cX3_mix 0 = .ok (.iload_n 1, 1) := by decide +kernel
theorem dX3_mix_1 : decode cX3_mix 1 = .ok (.invokestatic 42, 3) := by decide +kernel
theorem dX3_mix_4 : decode cX3_mix 4 = .ok (.ifCond .ne 18, 3) := by decide +kernel
theorem dX3_mix_7 : decode cX3_mix 7 = .ok (.iload_n 2, 1) := by decide +kernel
theorem dX3_mix_8 : decode cX3_mix 8 = .ok (.invokestatic 42, 3) := by decide +kernel
theorem dX3_mix_11 : decode cX3_mix 11 = .ok (.ifCond .ne 11, 3) := by decide +kernel
theorem dX3_mix_14 : decode cX3_mix 14 = .ok (.iload 4, 2) := by decide +kernel
theorem dX3_mix_16 : decode cX3_mix 16 = .ok (.invokestatic 42, 3) := by decide +kernel
theorem dX3_mix_19 : decode cX3_mix 19 = .ok (.ifCond .eq 6, 3) := by decide +kernel
theorem dX3_mix_22 : decode cX3_mix 22 = .ok (.bipush (-2), 2) := by decide +kernel
theorem dX3_mix_24 : decode cX3_mix 24 = .ok (.ireturn, 1) := by decide +kernel
theorem dX3_mix_25 : decode cX3_mix 25 = .ok (.iload_n 3, 1) := by decide +kernel
theorem dX3_mix_26 : decode cX3_mix 26 = .ok (.bipush 100, 2) := by decide +kernel
theorem dX3_mix_28 : decode cX3_mix 28 = .ok (.invokestatic 55, 3) := by decide +kernel
theorem dX3_mix_31 : decode cX3_mix 31 = .ok (.ifCond .ne 13, 3) := by decide +kernel
theorem dX3_mix_34 : decode cX3_mix 34 = .ok (.iload 5, 2) := by decide +kernel
theorem dX3_mix_36 : decode cX3_mix 36 = .ok (.bipush 100, 2) := by decide +kernel
theorem dX3_mix_38 : decode cX3_mix 38 = .ok (.invokestatic 55, 3) := by decide +kernel
theorem dX3_mix_41 : decode cX3_mix 41 = .ok (.ifCond .eq 6, 3) := by decide +kernel
theorem dX3_mix_44 : decode cX3_mix 44 = .ok (.bipush (-3), 2) := by decide +kernel
theorem dX3_mix_46 : decode cX3_mix 46 = .ok (.ireturn, 1) := by decide +kernel
theorem dX3_mix_47 : decode cX3_mix 47 = .ok (.aload_n 0, 1) := by decide +kernel
theorem dX3_mix_48 : decode cX3_mix 48 = .ok (.getfield 11, 3) := by decide +kernel
theorem dX3_mix_51 : decode cX3_mix 51 = .ok (.iload_n 2, 1) := by decide +kernel
theorem dX3_mix_52 : decode cX3_mix 52 = .ok (.aaload, 1) := by decide +kernel
theorem dX3_mix_53 : decode cX3_mix 53 = .ok (.getfield 77, 3) := by decide +kernel
theorem dX3_mix_56 : decode cX3_mix 56 = .ok (.aload_n 0, 1) := by decide +kernel
theorem dX3_mix_57 : decode cX3_mix 57 = .ok (.getfield 11, 3) := by decide +kernel
theorem dX3_mix_60 : decode cX3_mix 60 = .ok (.iload 4, 2) := by decide +kernel
theorem dX3_mix_62 : decode cX3_mix 62 = .ok (.aaload, 1) := by decide +kernel
theorem dX3_mix_63 : decode cX3_mix 63 = .ok (.getfield 77, 3) := by decide +kernel
theorem dX3_mix_66 : decode cX3_mix 66 = .ok (.if_icmp .eq 6, 3) := by decide +kernel
theorem dX3_mix_69 : decode cX3_mix 69 = .ok (.bipush (-4), 2) := by decide +kernel
theorem dX3_mix_71 : decode cX3_mix 71 = .ok (.ireturn, 1) := by decide +kernel
theorem dX3_mix_72 : decode cX3_mix 72 = .ok (.aload_n 0, 1) := by decide +kernel
theorem dX3_mix_73 : decode cX3_mix 73 = .ok (.getfield 16, 3) := by decide +kernel
theorem dX3_mix_76 : decode cX3_mix 76 = .ok (.aload_n 0, 1) := by decide +kernel
theorem dX3_mix_77 : decode cX3_mix 77 = .ok (.getfield 11, 3) := by decide +kernel
theorem dX3_mix_80 : decode cX3_mix 80 = .ok (.iload_n 2, 1) := by decide +kernel
theorem dX3_mix_81 : decode cX3_mix 81 = .ok (.aaload, 1) := by decide +kernel
theorem dX3_mix_82 : decode cX3_mix 82 = .ok (.iload_n 3, 1) := by decide +kernel
theorem dX3_mix_83 : decode cX3_mix 83 = .ok (.aload_n 0, 1) := by decide +kernel
theorem dX3_mix_84 : decode cX3_mix 84 = .ok (.getfield 11, 3) := by decide +kernel
theorem dX3_mix_87 : decode cX3_mix 87 = .ok (.iload 4, 2) := by decide +kernel
theorem dX3_mix_89 : decode cX3_mix 89 = .ok (.aaload, 1) := by decide +kernel
theorem dX3_mix_90 : decode cX3_mix 90 = .ok (.iload 5, 2) := by decide +kernel
theorem dX3_mix_92 : decode cX3_mix 92 = .ok (.invokevirtual 127, 3) := by decide +kernel
theorem dX3_mix_95 : decode cX3_mix 95 = .ok (.aload_n 0, 1) := by decide +kernel
theorem dX3_mix_96 : decode cX3_mix 96 = .ok (.aload_n 0, 1) := by decide +kernel
theorem dX3_mix_97 : decode cX3_mix 97 = .ok (.getfield 11, 3) := by decide +kernel
theorem dX3_mix_100 : decode cX3_mix 100 = .ok (.iload_n 1, 1) := by decide +kernel
theorem dX3_mix_101 : decode cX3_mix 101 = .ok (.aaload, 1) := by decide +kernel
theorem dX3_mix_102 : decode cX3_mix 102 = .ok (.invokevirtual 131, 3) := by decide +kernel
theorem dX3_mix_105 : decode cX3_mix 105 = .ok (.ireturn, 1) := by decide +kernel
theorem dX3_refine_0 : decode cX3_refine 0 = .ok (.iload_n 1, 1) := by decide +kernel
theorem dX3_refine_1 : decode cX3_refine 1 = .ok (.invokestatic 42, 3) := by decide +kernel
theorem dX3_refine_4 : decode cX3_refine 4 = .ok (.ifCond .ne 10, 3) := by decide +kernel
theorem dX3_refine_7 : decode cX3_refine 7 = .ok (.iload_n 2, 1) := by decide +kernel
theorem dX3_refine_8 : decode cX3_refine 8 = .ok (.invokestatic 42, 3) := by decide +kernel
theorem dX3_refine_11 : decode cX3_refine 11 = .ok (.ifCond .eq 6, 3) := by decide +kernel
theorem dX3_refine_14 : decode cX3_refine 14 = .ok (.bipush (-2), 2) := by decide +kernel
theorem dX3_refine_16 : decode cX3_refine 16 = .ok (.ireturn, 1) := by decide +kernel
theorem dX3_refine_17 : decode cX3_refine 17 = .ok (.aload_n 0, 1) := by decide +kernel
theorem dX3_refine_18 : decode cX3_refine 18 = .ok (.getfield 11, 3) := by decide +kernel
theorem dX3_refine_21 : decode cX3_refine 21 = .ok (.iload_n 2, 1) := by decide +kernel
theorem dX3_refine_22 : decode cX3_refine 22 = .ok (.aaload, 1) := by decide +kernel
theorem dX3_refine_23 : decode cX3_refine 23 = .ok (.getfield 77, 3) := by decide +kernel
theorem dX3_refine_26 : decode cX3_refine 26 = .ok (.bipush 8, 2) := by decide +kernel
theorem dX3_refine_28 : decode cX3_refine 28 = .ok (.if_icmp .le 6, 3) := by decide +kernel
theorem dX3_refine_31 : decode cX3_refine 31 = .ok (.bipush (-4), 2) := by decide +kernel
theorem dX3_refine_33 : decode cX3_refine 33 = .ok (.ireturn, 1) := by decide +kernel
theorem dX3_refine_34 : decode cX3_refine 34 = .ok (.aload_n 0, 1) := by decide +kernel
theorem dX3_refine_35 : decode cX3_refine 35 = .ok (.getfield 16, 3) := by decide +kernel
theorem dX3_refine_38 : decode cX3_refine 38 = .ok (.aload_n 0, 1) := by decide +kernel
theorem dX3_refine_39 : decode cX3_refine 39 = .ok (.getfield 11, 3) := by decide +kernel
theorem dX3_refine_42 : decode cX3_refine 42 = .ok (.iload_n 2, 1) := by decide +kernel
theorem dX3_refine_43 : decode cX3_refine 43 = .ok (.aaload, 1) := by decide +kernel
theorem dX3_refine_44 : decode cX3_refine 44 = .ok (.invokevirtual 134, 3) := by decide +kernel
theorem dX3_refine_47 : decode cX3_refine 47 = .ok (.aload_n 0, 1) := by decide +kernel
theorem dX3_refine_48 : decode cX3_refine 48 = .ok (.aload_n 0, 1) := by decide +kernel
theorem dX3_refine_49 : decode cX3_refine 49 = .ok (.getfield 11, 3) := by decide +kernel
theorem dX3_refine_52 : decode cX3_refine 52 = .ok (.iload_n 1, 1) := by decide +kernel
theorem dX3_refine_53 : decode cX3_refine 53 = .ok (.aaload, 1) := by decide +kernel
theorem dX3_refine_54 : decode cX3_refine 54 = .ok (.invokevirtual 131, 3) := by decide +kernel
theorem dX3_refine_57 : decode cX3_refine 57 = .ok (.ireturn, 1) := by decide +kernel
theorem dX3_slope_0 : decode cX3_slope 0 = .ok (.iload_n 1, 1) := by decide +kernel
theorem dX3_slope_1 : decode cX3_slope 1 = .ok (.invokestatic 42, 3) := by decide +kernel
theorem dX3_slope_4 : decode cX3_slope 4 = .ok (.ifCond .ne 10, 3) := by decide +kernel
theorem dX3_slope_7 : decode cX3_slope 7 = .ok (.iload_n 2, 1) := by decide +kernel
theorem dX3_slope_8 : decode cX3_slope 8 = .ok (.invokestatic 42, 3) := by decide +kernel
theorem dX3_slope_11 : decode cX3_slope 11 = .ok (.ifCond .eq 6, 3) := by decide +kernel
theorem dX3_slope_14 : decode cX3_slope 14 = .ok (.bipush (-2), 2) := by decide +kernel
theorem dX3_slope_16 : decode cX3_slope 16 = .ok (.ireturn, 1) := by decide +kernel
theorem dX3_slope_17 : decode cX3_slope 17 = .ok (.aload_n 0, 1) := by decide +kernel
theorem dX3_slope_18 : decode cX3_slope 18 = .ok (.getfield 16, 3) := by decide +kernel
theorem dX3_slope_21 : decode cX3_slope 21 = .ok (.aload_n 0, 1) := by decide +kernel
theorem dX3_slope_22 : decode cX3_slope 22 = .ok (.getfield 11, 3) := by decide +kernel
theorem dX3_slope_25 : decode cX3_slope 25 = .ok (.iload_n 2, 1) := by decide +kernel
theorem dX3_slope_26 : decode cX3_slope 26 = .ok (.aaload, 1) := by decide +kernel
theorem dX3_slope_27 : decode cX3_slope 27 = .ok (.invokevirtual 138, 3) := by decide +kernel
theorem dX3_slope_30 : decode cX3_slope 30 = .ok (.aload_n 0, 1) := by decide +kernel
theorem dX3_slope_31 : decode cX3_slope 31 = .ok (.aload_n 0, 1) := by decide +kernel
theorem dX3_slope_32 : decode cX3_slope 32 = .ok (.getfield 11, 3) := by decide +kernel
theorem dX3_slope_35 : decode cX3_slope 35 = .ok (.iload_n 1, 1) := by decide +kernel
theorem dX3_slope_36 : decode cX3_slope 36 = .ok (.aaload, 1) := by decide +kernel
theorem dX3_slope_37 : decode cX3_slope 37 = .ok (.invokevirtual 131, 3) := by decide +kernel
theorem dX3_slope_40 : decode cX3_slope 40 = .ok (.ireturn, 1) := by decide +kernel
theorem dX3_push_0 : decode cX3_push 0 = .ok (.iload_n 1, 1) := by decide +kernel
theorem dX3_push_1 : decode cX3_push 1 = .ok (.invokestatic 42, 3) := by decide +kernel
theorem dX3_push_4 : decode cX3_push 4 = .ok (.ifCond .eq 6, 3) := by decide +kernel
theorem dX3_push_7 : decode cX3_push 7 = .ok (.bipush (-2), 2) := by decide +kernel
theorem dX3_push_9 : decode cX3_push 9 = .ok (.ireturn, 1) := by decide +kernel
theorem dX3_push_10 : decode cX3_push 10 = .ok (.iload_n 2, 1) := by decide +kernel
theorem dX3_push_11 : decode cX3_push 11 = .ok (.ldc 54, 2) := by decide +kernel
theorem dX3_push_13 : decode cX3_push 13 = .ok (.invokestatic 55, 3) := by decide +kernel
theorem dX3_push_16 : decode cX3_push 16 = .ok (.ifCond .eq 6, 3) := by decide +kernel
theorem dX3_push_19 : decode cX3_push 19 = .ok (.bipush (-3), 2) := by decide +kernel
theorem dX3_push_21 : decode cX3_push 21 = .ok (.ireturn, 1) := by decide +kernel
theorem dX3_push_22 : decode cX3_push 22 = .ok (.aload_n 0, 1) := by decide +kernel
theorem dX3_push_23 : decode cX3_push 23 = .ok (.getfield 16, 3) := by decide +kernel
theorem dX3_push_26 : decode cX3_push 26 = .ok (.aload_n 0, 1) := by decide +kernel
theorem dX3_push_27 : decode cX3_push 27 = .ok (.getfield 11, 3) := by decide +kernel
theorem dX3_push_30 : decode cX3_push 30 = .ok (.iload_n 1, 1) := by decide +kernel
theorem dX3_push_31 : decode cX3_push 31 = .ok (.aaload, 1) := by decide +kernel
theorem dX3_push_32 : decode cX3_push 32 = .ok (.iload_n 2, 1) := by decide +kernel
theorem dX3_push_33 : decode cX3_push 33 = .ok (.invokevirtual 141, 3) := by decide +kernel
theorem dX3_push_36 : decode cX3_push 36 = .ok (.aload_n 0, 1) := by decide +kernel
theorem dX3_push_37 : decode cX3_push 37 = .ok (.aload_n 0, 1) := by decide +kernel
theorem dX3_push_38 : decode cX3_push 38 = .ok (.getfield 11, 3) := by decide +kernel
theorem dX3_push_41 : decode cX3_push 41 = .ok (.iload_n 1, 1) := by decide +kernel
theorem dX3_push_42 : decode cX3_push 42 = .ok (.aaload, 1) := by decide +kernel
theorem dX3_push_43 : decode cX3_push 43 = .ok (.invokevirtual 131, 3) := by decide +kernel
theorem dX3_push_46 : decode cX3_push 46 = .ok (.ireturn, 1) := by decide +kernel
theorem dX3_point_0 : decode cX3_point 0 = .ok (.iload_n 1, 1) := by decide +kernel
theorem dX3_point_1 : decode cX3_point 1 = .ok (.sipush 1000, 3) := by decide +kernel
theorem dX3_point_4 : decode cX3_point 4 = .ok (.invokestatic 55, 3) := by decide +kernel
theorem dX3_point_7 : decode cX3_point 7 = .ok (.ifCond .eq 6, 3) := by decide +kernel
theorem dX3_point_10 : decode cX3_point 10 = .ok (.bipush (-3), 2) := by decide +kernel
theorem dX3_point_12 : decode cX3_point 12 = .ok (.ireturn, 1) := by decide +kernel
theorem dX3_point_13 : decode cX3_point 13 = .ok (.aload_n 0, 1) := by decide +kernel
theorem dX3_point_14 : decode cX3_point 14 = .ok (.getfield 38, 3) := by decide +kernel
theorem dX3_point_17 : decode cX3_point 17 = .ok (.bipush 17, 2) := by decide +kernel
theorem dX3_point_19 : decode cX3_point 19 = .ok (.if_icmp .lt 6, 3) := by decide +kernel
theorem dX3_point_22 : decode cX3_point 22 = .ok (.bipush (-6), 2) := by decide +kernel
theorem dX3_point_24 : decode cX3_point 24 = .ok (.ireturn, 1) := by decide +kernel
theorem dX3_point_25 : decode cX3_point 25 = .ok (.aload_n 0, 1) := by decide +kernel
theorem dX3_point_26 : decode cX3_point 26 = .ok (.getfield 34, 3) := by decide +kernel
theorem dX3_point_29 : decode cX3_point 29 = .ok (.aload_n 0, 1) := by decide +kernel
theorem dX3_point_30 : decode cX3_point 30 = .ok (.getfield 38, 3) := by decide +kernel
theorem dX3_point_33 : decode cX3_point 33 = .ok (.iload_n 1, 1) := by decide +kernel
theorem dX3_point_34 : decode cX3_point 34 = .ok (.iastore, 1) := by decide +kernel
theorem dX3_point_35 : decode cX3_point 35 = .ok (.aload_n 0, 1) := by decide +kernel
theorem dX3_point_36 : decode cX3_point 36 = .ok (.dup, 1) := by decide +kernel
theorem dX3_point_37 : decode cX3_point 37 = .ok (.getfield 38, 3) := by decide +kernel
theorem dX3_point_40 : decode cX3_point 40 = .ok (.iconst 1, 1) := by decide +kernel
theorem dX3_point_41 : decode cX3_point 41 = .ok (.iadd, 1) := by decide +kernel
theorem dX3_point_42 : decode cX3_point 42 = .ok (.putfield 38, 3) := by decide +kernel
theorem dX3_point_45 : decode cX3_point 45 = .ok (.aload_n 0, 1) := by decide +kernel
theorem dX3_point_46 : decode cX3_point 46 = .ok (.getfield 38, 3) := by decide +kernel
theorem dX3_point_49 : decode cX3_point 49 = .ok (.ireturn, 1) := by decide +kernel
theorem dX3_clear_0 : decode cX3_clear 0 = .ok (.aload_n 0, 1) := by decide +kernel
theorem dX3_clear_1 : decode cX3_clear 1 = .ok (.getfield 38, 3) := by decide +kernel
theorem dX3_clear_4 : decode cX3_clear 4 = .ok (.istore_n 1, 1) := by decide +kernel
theorem dX3_clear_5 : decode cX3_clear 5 = .ok (.aload_n 0, 1) := by decide +kernel
theorem dX3_clear_6 : decode cX3_clear 6 = .ok (.iconst 0, 1) := by decide +kernel
theorem dX3_clear_7 : decode cX3_clear 7 = .ok (.putfield 38, 3) := by decide +kernel
theorem dX3_clear_10 : decode cX3_clear 10 = .ok (.iload_n 1, 1) := by decide +kernel
theorem dX3_clear_11 : decode cX3_clear 11 = .ok (.ireturn, 1) := by decide +kernel
theorem dX3_slopes_0 : decode cX3_slopes 0 = .ok (.iload_n 1, 1) := by decide +kernel
theorem dX3_slopes_1 : decode cX3_slopes 1 = .ok (.invokestatic 145, 3) := by decide +kernel
theorem dX3_slopes_4 : decode cX3_slopes 4 = .ok (.ifCond .ne 19, 3) := by decide +kernel
theorem dX3_slopes_7 : decode cX3_slopes 7 = .ok (.iload_n 2, 1) := by decide +kernel
theorem dX3_slopes_8 : decode cX3_slopes 8 = .ok (.ifCond .lt 15, 3) := by decide +kernel
theorem dX3_slopes_11 : decode cX3_slopes 11 = .ok (.iload_n 2, 1) := by decide +kernel
theorem dX3_slopes_12 : decode cX3_slopes 12 = .ok (.iconst 2, 1) := by decide +kernel
theorem dX3_slopes_13 : decode cX3_slopes 13 = .ok (.if_icmp .gt 10, 3) := by decide +kernel
theorem dX3_slopes_16 : decode cX3_slopes 16 = .ok (.aload_n 0, 1) := by decide +kernel
theorem dX3_slopes_17 : decode cX3_slopes 17 = .ok (.invokevirtual 148, 3) := by decide +kernel
theorem dX3_slopes_20 : decode cX3_slopes 20 = .ok (.ifCond .eq 6, 3) := by decide +kernel
theorem dX3_slopes_23 : decode cX3_slopes 23 = .ok (.ldc 62, 2) := by decide +kernel
theorem dX3_slopes_25 : decode cX3_slopes 25 = .ok (.ireturn, 1) := by decide +kernel
theorem dX3_slopes_26 : decode cX3_slopes 26 = .ok (.aload_n 0, 1) := by decide +kernel
theorem dX3_slopes_27 : decode cX3_slopes 27 = .ok (.iload_n 1, 1) := by decide +kernel
theorem dX3_slopes_28 : decode cX3_slopes 28 = .ok (.invokevirtual 152, 3) := by decide +kernel
theorem dX3_slopes_31 : decode cX3_slopes 31 = .ok (.iload_n 2, 1) := by decide +kernel
theorem dX3_slopes_32 : decode cX3_slopes 32 = .ok (.iconst 2, 1) := by decide +kernel
theorem dX3_slopes_33 : decode cX3_slopes 33 = .ok (.if_icmp .ne 11, 3) := by decide +kernel
theorem dX3_slopes_36 : decode cX3_slopes 36 = .ok (.aload_n 0, 1) := by decide +kernel
theorem dX3_slopes_37 : decode cX3_slopes 37 = .ok (.getfield 30, 3) := by decide +kernel
theorem dX3_slopes_40 : decode cX3_slopes 40 = .ok (.invokevirtual 155, 3) := by decide +kernel
theorem dX3_slopes_43 : decode cX3_slopes 43 = .ok (.ireturn, 1) := by decide +kernel
theorem dX3_slopes_44 : decode cX3_slopes 44 = .ok (.aload_n 0, 1) := by decide +kernel
theorem dX3_slopes_45 : decode cX3_slopes 45 = .ok (.getfield 30, 3) := by decide +kernel
theorem dX3_slopes_48 : decode cX3_slopes 48 = .ok (.invokevirtual 155, 3) := by decide +kernel
theorem dX3_slopes_51 : decode cX3_slopes 51 = .ok (.ifCond .ne 7, 3) := by decide +kernel
theorem dX3_slopes_54 : decode cX3_slopes 54 = .ok (.sipush 2000, 3) := by decide +kernel
theorem dX3_slopes_57 : decode cX3_slopes 57 = .ok (.ireturn, 1) := by decide +kernel
theorem dX3_slopes_58 : decode cX3_slopes 58 = .ok (.iload_n 2, 1) := by decide +kernel
theorem dX3_slopes_59 : decode cX3_slopes 59 = .ok (.ifCond .ne 13, 3) := by decide +kernel
theorem dX3_slopes_62 : decode cX3_slopes 62 = .ok (.aload_n 0, 1) := by decide +kernel
theorem dX3_slopes_63 : decode cX3_slopes 63 = .ok (.getfield 30, 3) := by decide +kernel
theorem dX3_slopes_66 : decode cX3_slopes 66 = .ok (.getfield 158, 3) := by decide +kernel
theorem dX3_slopes_69 : decode cX3_slopes 69 = .ok (.goto 10, 3) := by decide +kernel
theorem dX3_slopes_72 : decode cX3_slopes 72 = .ok (.aload_n 0, 1) := by decide +kernel
theorem dX3_slopes_73 : decode cX3_slopes 73 = .ok (.getfield 30, 3) := by decide +kernel
theorem dX3_slopes_76 : decode cX3_slopes 76 = .ok (.getfield 161, 3) := by decide +kernel
theorem dX3_slopes_79 : decode cX3_slopes 79 = .ok (.ireturn, 1) := by decide +kernel
theorem dX3_best_0 : decode cX3_best 0 = .ok (.iload_n 1, 1) := by decide +kernel
theorem dX3_best_1 : decode cX3_best 1 = .ok (.invokestatic 145, 3) := by decide +kernel
theorem dX3_best_4 : decode cX3_best 4 = .ok (.ifCond .ne 10, 3) := by decide +kernel
theorem dX3_best_7 : decode cX3_best 7 = .ok (.aload_n 0, 1) := by decide +kernel
theorem dX3_best_8 : decode cX3_best 8 = .ok (.invokevirtual 148, 3) := by decide +kernel
theorem dX3_best_11 : decode cX3_best 11 = .ok (.ifCond .eq 6, 3) := by decide +kernel
theorem dX3_best_14 : decode cX3_best 14 = .ok (.ldc 62, 2) := by decide +kernel
theorem dX3_best_16 : decode cX3_best 16 = .ok (.ireturn, 1) := by decide +kernel
theorem dX3_best_17 : decode cX3_best 17 = .ok (.aload_n 0, 1) := by decide +kernel
theorem dX3_best_18 : decode cX3_best 18 = .ok (.iload_n 1, 1) := by decide +kernel
theorem dX3_best_19 : decode cX3_best 19 = .ok (.invokevirtual 152, 3) := by decide +kernel
theorem dX3_best_22 : decode cX3_best 22 = .ok (.aload_n 0, 1) := by decide +kernel
theorem dX3_best_23 : decode cX3_best 23 = .ok (.getfield 30, 3) := by decide +kernel
theorem dX3_best_26 : decode cX3_best 26 = .ok (.invokevirtual 155, 3) := by decide +kernel
theorem dX3_best_29 : decode cX3_best 29 = .ok (.ifCond .ne 7, 3) := by decide +kernel
theorem dX3_best_32 : decode cX3_best 32 = .ok (.sipush 2000, 3) := by decide +kernel
theorem dX3_best_35 : decode cX3_best 35 = .ok (.ireturn, 1) := by decide +kernel
theorem dX3_best_36 : decode cX3_best 36 = .ok (.aload_n 0, 1) := by decide +kernel
theorem dX3_best_37 : decode cX3_best 37 = .ok (.getfield 30, 3) := by decide +kernel
theorem dX3_best_40 : decode cX3_best 40 = .ok (.getfield 158, 3) := by decide +kernel
theorem dX3_best_43 : decode cX3_best 43 = .ok (.aload_n 0, 1) := by decide +kernel
theorem dX3_best_44 : decode cX3_best 44 = .ok (.getfield 30, 3) := by decide +kernel
theorem dX3_best_47 : decode cX3_best 47 = .ok (.getfield 161, 3) := by decide +kernel
theorem dX3_best_50 : decode cX3_best 50 = .ok (.aload_n 0, 1) := by decide +kernel
theorem dX3_best_51 : decode cX3_best 51 = .ok (.invokevirtual 164, 3) := by decide +kernel
theorem dX3_best_54 : decode cX3_best 54 = .ok (.invokestatic 80, 3) := by decide +kernel
theorem dX3_best_57 : decode cX3_best 57 = .ok (.invokestatic 167, 3) := by decide +kernel
theorem dX3_best_60 : decode cX3_best 60 = .ok (.ireturn, 1) := by decide +kernel
theorem dX3_bend_0 : decode cX3_bend 0 = .ok (.iload_n 1, 1) := by decide +kernel
theorem dX3_bend_1 : decode cX3_bend 1 = .ok (.sipush 1000, 3) := by decide +kernel
theorem dX3_bend_4 : decode cX3_bend 4 = .ok (.invokestatic 55, 3) := by decide +kernel
theorem dX3_bend_7 : decode cX3_bend 7 = .ok (.ifCond .eq 7, 3) := by decide +kernel
theorem dX3_bend_10 : decode cX3_bend 10 = .ok (.ldc2_w 170, 3) := by decide +kernel
theorem dX3_bend_13 : decode cX3_bend 13 = .ok (.lreturn, 1) := by decide +kernel
theorem dX3_bend_14 : decode cX3_bend 14 = .ok (.aload_n 0, 1) := by decide +kernel
theorem dX3_bend_15 : decode cX3_bend 15 = .ok (.invokevirtual 148, 3) := by decide +kernel
theorem dX3_bend_18 : decode cX3_bend 18 = .ok (.ifCond .eq 7, 3) := by decide +kernel
theorem dX3_bend_21 : decode cX3_bend 21 = .ok (.ldc2_w 172, 3) := by decide +kernel
theorem dX3_bend_24 : decode cX3_bend 24 = .ok (.lreturn, 1) := by decide +kernel
theorem dX3_bend_25 : decode cX3_bend 25 = .ok (.aload_n 0, 1) := by decide +kernel
theorem dX3_bend_26 : decode cX3_bend 26 = .ok (.iload_n 1, 1) := by decide +kernel
theorem dX3_bend_27 : decode cX3_bend 27 = .ok (.invokevirtual 174, 3) := by decide +kernel
theorem dX3_bend_30 : decode cX3_bend 30 = .ok (.lconst 0, 1) := by decide +kernel
theorem dX3_bend_31 : decode cX3_bend 31 = .ok (.lstore_n 2, 1) := by decide +kernel
theorem dX3_bend_32 : decode cX3_bend 32 = .ok (.iconst 0, 1) := by decide +kernel
theorem dX3_bend_33 : decode cX3_bend 33 = .ok (.istore 4, 2) := by decide +kernel
theorem dX3_bend_35 : decode cX3_bend 35 = .ok (.iload 4, 2) := by decide +kernel
theorem dX3_bend_37 : decode cX3_bend 37 = .ok (.aload_n 0, 1) := by decide +kernel
theorem dX3_bend_38 : decode cX3_bend 38 = .ok (.getfield 16, 3) := by decide +kernel
theorem dX3_bend_41 : decode cX3_bend 41 = .ok (.getfield 77, 3) := by decide +kernel
theorem dX3_bend_44 : decode cX3_bend 44 = .ok (.if_icmp .ge 35, 3) := by decide +kernel
theorem dX3_bend_47 : decode cX3_bend 47 = .ok (.lload_n 2, 1) := by decide +kernel
theorem dX3_bend_48 : decode cX3_bend 48 = .ok (.aload_n 0, 1) := by decide +kernel
theorem dX3_bend_49 : decode cX3_bend 49 = .ok (.getfield 16, 3) := by decide +kernel
theorem dX3_bend_52 : decode cX3_bend 52 = .ok (.getfield 69, 3) := by decide +kernel
theorem dX3_bend_55 : decode cX3_bend 55 = .ok (.iload 4, 2) := by decide +kernel
theorem dX3_bend_57 : decode cX3_bend 57 = .ok (.iaload, 1) := by decide +kernel
theorem dX3_bend_58 : decode cX3_bend 58 = .ok (.i2l, 1) := by decide +kernel
theorem dX3_bend_59 : decode cX3_bend 59 = .ok (.aload_n 0, 1) := by decide +kernel
theorem dX3_bend_60 : decode cX3_bend 60 = .ok (.getfield 16, 3) := by decide +kernel
theorem dX3_bend_63 : decode cX3_bend 63 = .ok (.getfield 69, 3) := by decide +kernel
theorem dX3_bend_66 : decode cX3_bend 66 = .ok (.iload 4, 2) := by decide +kernel
theorem dX3_bend_68 : decode cX3_bend 68 = .ok (.iaload, 1) := by decide +kernel
theorem dX3_bend_69 : decode cX3_bend 69 = .ok (.i2l, 1) := by decide +kernel
theorem dX3_bend_70 : decode cX3_bend 70 = .ok (.lmul, 1) := by decide +kernel
theorem dX3_bend_71 : decode cX3_bend 71 = .ok (.ladd, 1) := by decide +kernel
theorem dX3_bend_72 : decode cX3_bend 72 = .ok (.lstore_n 2, 1) := by decide +kernel
theorem dX3_bend_73 : decode cX3_bend 73 = .ok (.iinc 4 1, 3) := by decide +kernel
theorem dX3_bend_76 : decode cX3_bend 76 = .ok (.goto (-41), 3) := by decide +kernel
theorem dX3_bend_79 : decode cX3_bend 79 = .ok (.lload_n 2, 1) := by decide +kernel
theorem dX3_bend_80 : decode cX3_bend 80 = .ok (.lreturn, 1) := by decide +kernel
theorem dX3_spline_0 : decode cX3_spline 0 = .ok (.iload_n 1, 1) := by decide +kernel
theorem dX3_spline_1 : decode cX3_spline 1 = .ok (.invokestatic 42, 3) := by decide +kernel
theorem dX3_spline_4 : decode cX3_spline 4 = .ok (.ifCond .eq 6, 3) := by decide +kernel
theorem dX3_spline_7 : decode cX3_spline 7 = .ok (.bipush (-2), 2) := by decide +kernel
theorem dX3_spline_9 : decode cX3_spline 9 = .ok (.ireturn, 1) := by decide +kernel
theorem dX3_spline_10 : decode cX3_spline 10 = .ok (.iload_n 2, 1) := by decide +kernel
theorem dX3_spline_11 : decode cX3_spline 11 = .ok (.sipush 1000, 3) := by decide +kernel
theorem dX3_spline_14 : decode cX3_spline 14 = .ok (.invokestatic 55, 3) := by decide +kernel
theorem dX3_spline_17 : decode cX3_spline 17 = .ok (.ifCond .eq 6, 3) := by decide +kernel
theorem dX3_spline_20 : decode cX3_spline 20 = .ok (.bipush (-3), 2) := by decide +kernel
theorem dX3_spline_22 : decode cX3_spline 22 = .ok (.ireturn, 1) := by decide +kernel
theorem dX3_spline_23 : decode cX3_spline 23 = .ok (.aload_n 0, 1) := by decide +kernel
theorem dX3_spline_24 : decode cX3_spline 24 = .ok (.invokevirtual 148, 3) := by decide +kernel
theorem dX3_spline_27 : decode cX3_spline 27 = .ok (.ifCond .eq 6, 3) := by decide +kernel
theorem dX3_spline_30 : decode cX3_spline 30 = .ok (.bipush (-4), 2) := by decide +kernel
theorem dX3_spline_32 : decode cX3_spline 32 = .ok (.ireturn, 1) := by decide +kernel
theorem dX3_spline_33 : decode cX3_spline 33 = .ok (.aload_n 0, 1) := by decide +kernel
theorem dX3_spline_34 : decode cX3_spline 34 = .ok (.iload_n 2, 1) := by decide +kernel
theorem dX3_spline_35 : decode cX3_spline 35 = .ok (.invokevirtual 174, 3) := by decide +kernel
theorem dX3_spline_38 : decode cX3_spline 38 = .ok (.aload_n 0, 1) := by decide +kernel
theorem dX3_spline_39 : decode cX3_spline 39 = .ok (.aload_n 0, 1) := by decide +kernel
theorem dX3_spline_40 : decode cX3_spline 40 = .ok (.getfield 11, 3) := by decide +kernel
theorem dX3_spline_43 : decode cX3_spline 43 = .ok (.iload_n 1, 1) := by decide +kernel
theorem dX3_spline_44 : decode cX3_spline 44 = .ok (.aaload, 1) := by decide +kernel
theorem dX3_spline_45 : decode cX3_spline 45 = .ok (.invokevirtual 131, 3) := by decide +kernel
theorem dX3_spline_48 : decode cX3_spline 48 = .ok (.ireturn, 1) := by decide +kernel
theorem dX3_count_0 : decode cX3_count 0 = .ok (.iload_n 1, 1) := by decide +kernel
theorem dX3_count_1 : decode cX3_count 1 = .ok (.invokestatic 42, 3) := by decide +kernel
theorem dX3_count_4 : decode cX3_count 4 = .ok (.ifCond .eq 6, 3) := by decide +kernel
theorem dX3_count_7 : decode cX3_count 7 = .ok (.bipush (-2), 2) := by decide +kernel
theorem dX3_count_9 : decode cX3_count 9 = .ok (.ireturn, 1) := by decide +kernel
theorem dX3_count_10 : decode cX3_count 10 = .ok (.iload_n 2, 1) := by decide +kernel
theorem dX3_count_11 : decode cX3_count 11 = .ok (.tableswitch 57 0 2 #[25, 35, 46], 25) := by decide +kernel
theorem dX3_count_36 : decode cX3_count 36 = .ok (.aload_n 0, 1) := by decide +kernel
theorem dX3_count_37 : decode cX3_count 37 = .ok (.getfield 11, 3) := by decide +kernel
theorem dX3_count_40 : decode cX3_count 40 = .ok (.iload_n 1, 1) := by decide +kernel
theorem dX3_count_41 : decode cX3_count 41 = .ok (.aaload, 1) := by decide +kernel
theorem dX3_count_42 : decode cX3_count 42 = .ok (.getfield 77, 3) := by decide +kernel
theorem dX3_count_45 : decode cX3_count 45 = .ok (.ireturn, 1) := by decide +kernel
theorem dX3_count_46 : decode cX3_count 46 = .ok (.aload_n 0, 1) := by decide +kernel
theorem dX3_count_47 : decode cX3_count 47 = .ok (.getfield 11, 3) := by decide +kernel
theorem dX3_count_50 : decode cX3_count 50 = .ok (.iload_n 1, 1) := by decide +kernel
theorem dX3_count_51 : decode cX3_count 51 = .ok (.aaload, 1) := by decide +kernel
theorem dX3_count_52 : decode cX3_count 52 = .ok (.iconst (-1), 1) := by decide +kernel
theorem dX3_count_53 : decode cX3_count 53 = .ok (.invokevirtual 177, 3) := by decide +kernel
theorem dX3_count_56 : decode cX3_count 56 = .ok (.ireturn, 1) := by decide +kernel
theorem dX3_count_57 : decode cX3_count 57 = .ok (.aload_n 0, 1) := by decide +kernel
theorem dX3_count_58 : decode cX3_count 58 = .ok (.getfield 11, 3) := by decide +kernel
theorem dX3_count_61 : decode cX3_count 61 = .ok (.iload_n 1, 1) := by decide +kernel
theorem dX3_count_62 : decode cX3_count 62 = .ok (.aaload, 1) := by decide +kernel
theorem dX3_count_63 : decode cX3_count 63 = .ok (.iconst 2, 1) := by decide +kernel
theorem dX3_count_64 : decode cX3_count 64 = .ok (.invokevirtual 177, 3) := by decide +kernel
theorem dX3_count_67 : decode cX3_count 67 = .ok (.ireturn, 1) := by decide +kernel
theorem dX3_count_68 : decode cX3_count 68 = .ok (.bipush (-3), 2) := by decide +kernel
theorem dX3_count_70 : decode cX3_count 70 = .ok (.ireturn, 1) := by decide +kernel
theorem dX3_isNoPlace_0 : decode cX3_isNoPlace 0 = .ok (.iload_n 0, 1) := by decide +kernel
theorem dX3_isNoPlace_1 : decode cX3_isNoPlace 1 = .ok (.ifCond .lt 9, 3) := by decide +kernel
theorem dX3_isNoPlace_4 : decode cX3_isNoPlace 4 = .ok (.iload_n 0, 1) := by decide +kernel
theorem dX3_isNoPlace_5 : decode cX3_isNoPlace 5 = .ok (.bipush 6, 2) := by decide +kernel
theorem dX3_isNoPlace_7 : decode cX3_isNoPlace 7 = .ok (.if_icmp .lt 7, 3) := by decide +kernel
theorem dX3_isNoPlace_10 : decode cX3_isNoPlace 10 = .ok (.iconst 1, 1) := by decide +kernel
theorem dX3_isNoPlace_11 : decode cX3_isNoPlace 11 = .ok (.goto 4, 3) := by decide +kernel
theorem dX3_isNoPlace_14 : decode cX3_isNoPlace 14 = .ok (.iconst 0, 1) := by decide +kernel
theorem dX3_isNoPlace_15 : decode cX3_isNoPlace 15 = .ok (.ireturn, 1) := by decide +kernel
theorem dX3_isNoPiece_0 : decode cX3_isNoPiece 0 = .ok (.iload_n 1, 1) := by decide +kernel
theorem dX3_isNoPiece_1 : decode cX3_isNoPiece 1 = .ok (.invokestatic 42, 3) := by decide +kernel
theorem dX3_isNoPiece_4 : decode cX3_isNoPiece 4 = .ok (.ifCond .ne 20, 3) := by decide +kernel
theorem dX3_isNoPiece_7 : decode cX3_isNoPiece 7 = .ok (.iload_n 2, 1) := by decide +kernel
theorem dX3_isNoPiece_8 : decode cX3_isNoPiece 8 = .ok (.ifCond .lt 16, 3) := by decide +kernel
theorem dX3_isNoPiece_11 : decode cX3_isNoPiece 11 = .ok (.iload_n 2, 1) := by decide +kernel
theorem dX3_isNoPiece_12 : decode cX3_isNoPiece 12 = .ok (.aload_n 0, 1) := by decide +kernel
theorem dX3_isNoPiece_13 : decode cX3_isNoPiece 13 = .ok (.getfield 11, 3) := by decide +kernel
theorem dX3_isNoPiece_16 : decode cX3_isNoPiece 16 = .ok (.iload_n 1, 1) := by decide +kernel
theorem dX3_isNoPiece_17 : decode cX3_isNoPiece 17 = .ok (.aaload, 1) := by decide +kernel
theorem dX3_isNoPiece_18 : decode cX3_isNoPiece 18 = .ok (.getfield 77, 3) := by decide +kernel
theorem dX3_isNoPiece_21 : decode cX3_isNoPiece 21 = .ok (.if_icmp .lt 7, 3) := by decide +kernel
theorem dX3_isNoPiece_24 : decode cX3_isNoPiece 24 = .ok (.iconst 1, 1) := by decide +kernel
theorem dX3_isNoPiece_25 : decode cX3_isNoPiece 25 = .ok (.goto 4, 3) := by decide +kernel
theorem dX3_isNoPiece_28 : decode cX3_isNoPiece 28 = .ok (.iconst 0, 1) := by decide +kernel
theorem dX3_isNoPiece_29 : decode cX3_isNoPiece 29 = .ok (.ireturn, 1) := by decide +kernel
theorem dX3_isNoPart_0 : decode cX3_isNoPart 0 = .ok (.iload_n 0, 1) := by decide +kernel
theorem dX3_isNoPart_1 : decode cX3_isNoPart 1 = .ok (.ifCond .eq 12, 3) := by decide +kernel
theorem dX3_isNoPart_4 : decode cX3_isNoPart 4 = .ok (.iload_n 0, 1) := by decide +kernel
theorem dX3_isNoPart_5 : decode cX3_isNoPart 5 = .ok (.iconst 1, 1) := by decide +kernel
theorem dX3_isNoPart_6 : decode cX3_isNoPart 6 = .ok (.if_icmp .eq 7, 3) := by decide +kernel
theorem dX3_isNoPart_9 : decode cX3_isNoPart 9 = .ok (.iconst 1, 1) := by decide +kernel
theorem dX3_isNoPart_10 : decode cX3_isNoPart 10 = .ok (.goto 4, 3) := by decide +kernel
theorem dX3_isNoPart_13 : decode cX3_isNoPart 13 = .ok (.iconst 0, 1) := by decide +kernel
theorem dX3_isNoPart_14 : decode cX3_isNoPart 14 = .ok (.ireturn, 1) := by decide +kernel
theorem dX3_isNoShape_0 : decode cX3_isNoShape 0 = .ok (.iload_n 0, 1) := by decide +kernel
theorem dX3_isNoShape_1 : decode cX3_isNoShape 1 = .ok (.ifCond .lt 8, 3) := by decide +kernel
theorem dX3_isNoShape_4 : decode cX3_isNoShape 4 = .ok (.iload_n 0, 1) := by decide +kernel
theorem dX3_isNoShape_5 : decode cX3_isNoShape 5 = .ok (.iconst 4, 1) := by decide +kernel
theorem dX3_isNoShape_6 : decode cX3_isNoShape 6 = .ok (.if_icmp .le 7, 3) := by decide +kernel
theorem dX3_isNoShape_9 : decode cX3_isNoShape 9 = .ok (.iconst 1, 1) := by decide +kernel
theorem dX3_isNoShape_10 : decode cX3_isNoShape 10 = .ok (.goto 4, 3) := by decide +kernel
theorem dX3_isNoShape_13 : decode cX3_isNoShape 13 = .ok (.iconst 0, 1) := by decide +kernel
theorem dX3_isNoShape_14 : decode cX3_isNoShape 14 = .ok (.ireturn, 1) := by decide +kernel
theorem dX3_isBeyond_0 : decode cX3_isBeyond 0 = .ok (.iload_n 0, 1) := by decide +kernel
theorem dX3_isBeyond_1 : decode cX3_isBeyond 1 = .ok (.iload_n 1, 1) := by decide +kernel
theorem dX3_isBeyond_2 : decode cX3_isBeyond 2 = .ok (.ineg, 1) := by decide +kernel
theorem dX3_isBeyond_3 : decode cX3_isBeyond 3 = .ok (.if_icmp .lt 8, 3) := by decide +kernel
theorem dX3_isBeyond_6 : decode cX3_isBeyond 6 = .ok (.iload_n 0, 1) := by decide +kernel
theorem dX3_isBeyond_7 : decode cX3_isBeyond 7 = .ok (.iload_n 1, 1) := by decide +kernel
theorem dX3_isBeyond_8 : decode cX3_isBeyond 8 = .ok (.if_icmp .le 7, 3) := by decide +kernel
theorem dX3_isBeyond_11 : decode cX3_isBeyond 11 = .ok (.iconst 1, 1) := by decide +kernel
theorem dX3_isBeyond_12 : decode cX3_isBeyond 12 = .ok (.goto 4, 3) := by decide +kernel
theorem dX3_isBeyond_15 : decode cX3_isBeyond 15 = .ok (.iconst 0, 1) := by decide +kernel
theorem dX3_isBeyond_16 : decode cX3_isBeyond 16 = .ok (.ireturn, 1) := by decide +kernel
theorem dX3_hasTooFewPoints_0 : decode cX3_hasTooFewPoints 0 = .ok (.aload_n 0, 1) := by decide +kernel
theorem dX3_hasTooFewPoints_1 : decode cX3_hasTooFewPoints 1 = .ok (.getfield 38, 3) := by decide +kernel
theorem dX3_hasTooFewPoints_4 : decode cX3_hasTooFewPoints 4 = .ok (.iconst 2, 1) := by decide +kernel
theorem dX3_hasTooFewPoints_5 : decode cX3_hasTooFewPoints 5 = .ok (.if_icmp .ge 7, 3) := by decide +kernel
theorem dX3_hasTooFewPoints_8 : decode cX3_hasTooFewPoints 8 = .ok (.iconst 1, 1) := by decide +kernel
theorem dX3_hasTooFewPoints_9 : decode cX3_hasTooFewPoints 9 = .ok (.goto 4, 3) := by decide +kernel
theorem dX3_hasTooFewPoints_12 : decode cX3_hasTooFewPoints 12 = .ok (.iconst 0, 1) := by decide +kernel
theorem dX3_hasTooFewPoints_13 : decode cX3_hasTooFewPoints 13 = .ok (.ireturn, 1) := by decide +kernel
theorem dX3_signOfShape_0 : decode cX3_signOfShape 0 = .ok (.iload_n 0, 1) := by decide +kernel
theorem dX3_signOfShape_1 : decode cX3_signOfShape 1 = .ok (.iconst 2, 1) := by decide +kernel
theorem dX3_signOfShape_2 : decode cX3_signOfShape 2 = .ok (.if_icmp .eq 8, 3) := by decide +kernel
theorem dX3_signOfShape_5 : decode cX3_signOfShape 5 = .ok (.iload_n 0, 1) := by decide +kernel
theorem dX3_signOfShape_6 : decode cX3_signOfShape 6 = .ok (.iconst 4, 1) := by decide +kernel
theorem dX3_signOfShape_7 : decode cX3_signOfShape 7 = .ok (.if_icmp .ne 7, 3) := by decide +kernel
theorem dX3_signOfShape_10 : decode cX3_signOfShape 10 = .ok (.iconst (-1), 1) := by decide +kernel
theorem dX3_signOfShape_11 : decode cX3_signOfShape 11 = .ok (.goto 4, 3) := by decide +kernel
theorem dX3_signOfShape_14 : decode cX3_signOfShape 14 = .ok (.iconst 1, 1) := by decide +kernel
theorem dX3_signOfShape_15 : decode cX3_signOfShape 15 = .ok (.ireturn, 1) := by decide +kernel
theorem dX3_isBent_0 : decode cX3_isBent 0 = .ok (.iload_n 0, 1) := by decide +kernel
theorem dX3_isBent_1 : decode cX3_isBent 1 = .ok (.iconst 3, 1) := by decide +kernel
theorem dX3_isBent_2 : decode cX3_isBent 2 = .ok (.if_icmp .eq 8, 3) := by decide +kernel
theorem dX3_isBent_5 : decode cX3_isBent 5 = .ok (.iload_n 0, 1) := by decide +kernel
theorem dX3_isBent_6 : decode cX3_isBent 6 = .ok (.iconst 4, 1) := by decide +kernel
theorem dX3_isBent_7 : decode cX3_isBent 7 = .ok (.if_icmp .ne 7, 3) := by decide +kernel
theorem dX3_isBent_10 : decode cX3_isBent 10 = .ok (.iconst 1, 1) := by decide +kernel
theorem dX3_isBent_11 : decode cX3_isBent 11 = .ok (.goto 4, 3) := by decide +kernel
theorem dX3_isBent_14 : decode cX3_isBent 14 = .ok (.iconst 0, 1) := by decide +kernel
theorem dX3_isBent_15 : decode cX3_isBent 15 = .ok (.ireturn, 1) := by decide +kernel
theorem dX3_keepDraft_0 : decode cX3_keepDraft 0 = .ok (.aload_n 0, 1) := by decide +kernel
theorem dX3_keepDraft_1 : decode cX3_keepDraft 1 = .ok (.getfield 16, 3) := by decide +kernel
theorem dX3_keepDraft_4 : decode cX3_keepDraft 4 = .ok (.invokevirtual 180, 3) := by decide +kernel
theorem dX3_keepDraft_7 : decode cX3_keepDraft 7 = .ok (.ifCond .ne 6, 3) := by decide +kernel
theorem dX3_keepDraft_10 : decode cX3_keepDraft 10 = .ok (.bipush (-5), 2) := by decide +kernel
theorem dX3_keepDraft_12 : decode cX3_keepDraft 12 = .ok (.ireturn, 1) := by decide +kernel
theorem dX3_keepDraft_13 : decode cX3_keepDraft 13 = .ok (.aload_n 1, 1) := by decide +kernel
theorem dX3_keepDraft_14 : decode cX3_keepDraft 14 = .ok (.aload_n 0, 1) := by decide +kernel
theorem dX3_keepDraft_15 : decode cX3_keepDraft 15 = .ok (.getfield 16, 3) := by decide +kernel
theorem dX3_keepDraft_18 : decode cX3_keepDraft 18 = .ok (.invokevirtual 183, 3) := by decide +kernel
theorem dX3_keepDraft_21 : decode cX3_keepDraft 21 = .ok (.iconst 1, 1) := by decide +kernel
theorem dX3_keepDraft_22 : decode cX3_keepDraft 22 = .ok (.ireturn, 1) := by decide +kernel
theorem dX3_countZeros_0 : decode cX3_countZeros 0 = .ok (.aload_n 1, 1) := by decide +kernel
theorem dX3_countZeros_1 : decode cX3_countZeros 1 = .ok (.invokevirtual 186, 3) := by decide +kernel
theorem dX3_countZeros_4 : decode cX3_countZeros 4 = .ok (.ifCond .eq 6, 3) := by decide +kernel
theorem dX3_countZeros_7 : decode cX3_countZeros 7 = .ok (.bipush (-4), 2) := by decide +kernel
theorem dX3_countZeros_9 : decode cX3_countZeros 9 = .ok (.ireturn, 1) := by decide +kernel
theorem dX3_countZeros_10 : decode cX3_countZeros 10 = .ok (.aload_n 0, 1) := by decide +kernel
theorem dX3_countZeros_11 : decode cX3_countZeros 11 = .ok (.getfield 23, 3) := by decide +kernel
theorem dX3_countZeros_14 : decode cX3_countZeros 14 = .ok (.aload_n 1, 1) := by decide +kernel
theorem dX3_countZeros_15 : decode cX3_countZeros 15 = .ok (.invokevirtual 189, 3) := by decide +kernel
theorem dX3_countZeros_18 : decode cX3_countZeros 18 = .ok (.aload_n 0, 1) := by decide +kernel
theorem dX3_countZeros_19 : decode cX3_countZeros 19 = .ok (.getfield 23, 3) := by decide +kernel
theorem dX3_countZeros_22 : decode cX3_countZeros 22 = .ok (.getfield 192, 3) := by decide +kernel
theorem dX3_countZeros_25 : decode cX3_countZeros 25 = .ok (.ireturn, 1) := by decide +kernel
theorem dX3_partInLowestTerms_0 : decode cX3_partInLowestTerms 0 = .ok (.lload_n 0, 1) := by decide +kernel
theorem dX3_partInLowestTerms_1 : decode cX3_partInLowestTerms 1 = .ok (.invokestatic 195, 3) := by decide +kernel
theorem dX3_partInLowestTerms_4 : decode cX3_partInLowestTerms 4 = .ok (.lload_n 2, 1) := by decide +kernel
theorem dX3_partInLowestTerms_5 : decode cX3_partInLowestTerms 5 = .ok (.invokestatic 199, 3) := by decide +kernel
theorem dX3_partInLowestTerms_8 : decode cX3_partInLowestTerms 8 = .ok (.lstore 5, 2) := by decide +kernel
theorem dX3_partInLowestTerms_10 : decode cX3_partInLowestTerms 10 = .ok (.iload 4, 2) := by decide +kernel
theorem dX3_partInLowestTerms_12 : decode cX3_partInLowestTerms 12 = .ok (.ifCond .ne 7, 3) := by decide +kernel
theorem dX3_partInLowestTerms_15 : decode cX3_partInLowestTerms 15 = .ok (.lload_n 0, 1) := by decide +kernel
theorem dX3_partInLowestTerms_16 : decode cX3_partInLowestTerms 16 = .ok (.goto 4, 3) := by decide +kernel
theorem dX3_partInLowestTerms_19 : decode cX3_partInLowestTerms 19 = .ok (.lload_n 2, 1) := by decide +kernel
theorem dX3_partInLowestTerms_20 : decode cX3_partInLowestTerms 20 = .ok (.lload 5, 2) := by decide +kernel
theorem dX3_partInLowestTerms_22 : decode cX3_partInLowestTerms 22 = .ok (.ldiv, 1) := by decide +kernel
theorem dX3_partInLowestTerms_23 : decode cX3_partInLowestTerms 23 = .ok (.lreturn, 1) := by decide +kernel
theorem dX3_commonDivisor_0 : decode cX3_commonDivisor 0 = .ok (.iconst 0, 1) := by decide +kernel
theorem dX3_commonDivisor_1 : decode cX3_commonDivisor 1 = .ok (.istore 4, 2) := by decide +kernel
theorem dX3_commonDivisor_3 : decode cX3_commonDivisor 3 = .ok (.iload 4, 2) := by decide +kernel
theorem dX3_commonDivisor_5 : decode cX3_commonDivisor 5 = .ok (.bipush 100, 2) := by decide +kernel
theorem dX3_commonDivisor_7 : decode cX3_commonDivisor 7 = .ok (.if_icmp .ge 25, 3) := by decide +kernel
theorem dX3_commonDivisor_10 : decode cX3_commonDivisor 10 = .ok (.lload_n 2, 1) := by decide +kernel
theorem dX3_commonDivisor_11 : decode cX3_commonDivisor 11 = .ok (.lconst 0, 1) := by decide +kernel
theorem dX3_commonDivisor_12 : decode cX3_commonDivisor 12 = .ok (.lcmp, 1) := by decide +kernel
theorem dX3_commonDivisor_13 : decode cX3_commonDivisor 13 = .ok (.ifCond .eq 19, 3) := by decide +kernel
theorem dX3_commonDivisor_16 : decode cX3_commonDivisor 16 = .ok (.lload_n 0, 1) := by decide +kernel
theorem dX3_commonDivisor_17 : decode cX3_commonDivisor 17 = .ok (.lload_n 2, 1) := by decide +kernel
theorem dX3_commonDivisor_18 : decode cX3_commonDivisor 18 = .ok (.lrem, 1) := by decide +kernel
theorem dX3_commonDivisor_19 : decode cX3_commonDivisor 19 = .ok (.lstore 5, 2) := by decide +kernel
theorem dX3_commonDivisor_21 : decode cX3_commonDivisor 21 = .ok (.lload_n 2, 1) := by decide +kernel
theorem dX3_commonDivisor_22 : decode cX3_commonDivisor 22 = .ok (.lstore_n 0, 1) := by decide +kernel
theorem dX3_commonDivisor_23 : decode cX3_commonDivisor 23 = .ok (.lload 5, 2) := by decide +kernel
theorem dX3_commonDivisor_25 : decode cX3_commonDivisor 25 = .ok (.lstore_n 2, 1) := by decide +kernel
theorem dX3_commonDivisor_26 : decode cX3_commonDivisor 26 = .ok (.iinc 4 1, 3) := by decide +kernel
theorem dX3_commonDivisor_29 : decode cX3_commonDivisor 29 = .ok (.goto (-26), 3) := by decide +kernel
theorem dX3_commonDivisor_32 : decode cX3_commonDivisor 32 = .ok (.lconst 1, 1) := by decide +kernel
theorem dX3_commonDivisor_33 : decode cX3_commonDivisor 33 = .ok (.lload_n 0, 1) := by decide +kernel
theorem dX3_commonDivisor_34 : decode cX3_commonDivisor 34 = .ok (.invokestatic 203, 3) := by decide +kernel
theorem dX3_commonDivisor_37 : decode cX3_commonDivisor 37 = .ok (.lreturn, 1) := by decide +kernel
theorem dX3_draftSpline_0 : decode cX3_draftSpline 0 = .ok (.iload_n 1, 1) := by decide +kernel
theorem dX3_draftSpline_1 : decode cX3_draftSpline 1 = .ok (.istore_n 2, 1) := by decide +kernel
theorem dX3_draftSpline_2 : decode cX3_draftSpline 2 = .ok (.aload_n 0, 1) := by decide +kernel
theorem dX3_draftSpline_3 : decode cX3_draftSpline 3 = .ok (.getfield 16, 3) := by decide +kernel
theorem dX3_draftSpline_6 : decode cX3_draftSpline 6 = .ok (.aload_n 0, 1) := by decide +kernel
theorem dX3_draftSpline_7 : decode cX3_draftSpline 7 = .ok (.getfield 38, 3) := by decide +kernel
theorem dX3_draftSpline_10 : decode cX3_draftSpline 10 = .ok (.iconst 1, 1) := by decide +kernel
theorem dX3_draftSpline_11 : decode cX3_draftSpline 11 = .ok (.isub, 1) := by decide +kernel
theorem dX3_draftSpline_12 : decode cX3_draftSpline 12 = .ok (.invokevirtual 46, 3) := by decide +kernel
theorem dX3_draftSpline_15 : decode cX3_draftSpline 15 = .ok (.iconst 0, 1) := by decide +kernel
theorem dX3_draftSpline_16 : decode cX3_draftSpline 16 = .ok (.istore_n 3, 1) := by decide +kernel
theorem dX3_draftSpline_17 : decode cX3_draftSpline 17 = .ok (.iload_n 3, 1) := by decide +kernel
theorem dX3_draftSpline_18 : decode cX3_draftSpline 18 = .ok (.aload_n 0, 1) := by decide +kernel
theorem dX3_draftSpline_19 : decode cX3_draftSpline 19 = .ok (.getfield 16, 3) := by decide +kernel
theorem dX3_draftSpline_22 : decode cX3_draftSpline 22 = .ok (.getfield 77, 3) := by decide +kernel
theorem dX3_draftSpline_25 : decode cX3_draftSpline 25 = .ok (.if_icmp .ge 52, 3) := by decide +kernel
theorem dX3_draftSpline_28 : decode cX3_draftSpline 28 = .ok (.aload_n 0, 1) := by decide +kernel
theorem dX3_draftSpline_29 : decode cX3_draftSpline 29 = .ok (.getfield 34, 3) := by decide +kernel
theorem dX3_draftSpline_32 : decode cX3_draftSpline 32 = .ok (.iload_n 3, 1) := by decide +kernel
theorem dX3_draftSpline_33 : decode cX3_draftSpline 33 = .ok (.iconst 1, 1) := by decide +kernel
theorem dX3_draftSpline_34 : decode cX3_draftSpline 34 = .ok (.iadd, 1) := by decide +kernel
theorem dX3_draftSpline_35 : decode cX3_draftSpline 35 = .ok (.iaload, 1) := by decide +kernel
theorem dX3_draftSpline_36 : decode cX3_draftSpline 36 = .ok (.aload_n 0, 1) := by decide +kernel
theorem dX3_draftSpline_37 : decode cX3_draftSpline 37 = .ok (.getfield 34, 3) := by decide +kernel
theorem dX3_draftSpline_40 : decode cX3_draftSpline 40 = .ok (.iload_n 3, 1) := by decide +kernel
theorem dX3_draftSpline_41 : decode cX3_draftSpline 41 = .ok (.iaload, 1) := by decide +kernel
theorem dX3_draftSpline_42 : decode cX3_draftSpline 42 = .ok (.isub, 1) := by decide +kernel
theorem dX3_draftSpline_43 : decode cX3_draftSpline 43 = .ok (.istore 4, 2) := by decide +kernel
theorem dX3_draftSpline_45 : decode cX3_draftSpline 45 = .ok (.aload_n 0, 1) := by decide +kernel
theorem dX3_draftSpline_46 : decode cX3_draftSpline 46 = .ok (.getfield 16, 3) := by decide +kernel
theorem dX3_draftSpline_49 : decode cX3_draftSpline 49 = .ok (.iload_n 3, 1) := by decide +kernel
theorem dX3_draftSpline_50 : decode cX3_draftSpline 50 = .ok (.aload_n 0, 1) := by decide +kernel
theorem dX3_draftSpline_51 : decode cX3_draftSpline 51 = .ok (.getfield 34, 3) := by decide +kernel
theorem dX3_draftSpline_54 : decode cX3_draftSpline 54 = .ok (.iload_n 3, 1) := by decide +kernel
theorem dX3_draftSpline_55 : decode cX3_draftSpline 55 = .ok (.iaload, 1) := by decide +kernel
theorem dX3_draftSpline_56 : decode cX3_draftSpline 56 = .ok (.iload_n 2, 1) := by decide +kernel
theorem dX3_draftSpline_57 : decode cX3_draftSpline 57 = .ok (.iload 4, 2) := by decide +kernel
theorem dX3_draftSpline_59 : decode cX3_draftSpline 59 = .ok (.iload_n 2, 1) := by decide +kernel
theorem dX3_draftSpline_60 : decode cX3_draftSpline 60 = .ok (.isub, 1) := by decide +kernel
theorem dX3_draftSpline_61 : decode cX3_draftSpline 61 = .ok (.invokevirtual 58, 3) := by decide +kernel
theorem dX3_draftSpline_64 : decode cX3_draftSpline 64 = .ok (.iconst 2, 1) := by decide +kernel
theorem dX3_draftSpline_65 : decode cX3_draftSpline 65 = .ok (.iload 4, 2) := by decide +kernel
theorem dX3_draftSpline_67 : decode cX3_draftSpline 67 = .ok (.imul, 1) := by decide +kernel
theorem dX3_draftSpline_68 : decode cX3_draftSpline 68 = .ok (.iload_n 2, 1) := by decide +kernel
theorem dX3_draftSpline_69 : decode cX3_draftSpline 69 = .ok (.isub, 1) := by decide +kernel
theorem dX3_draftSpline_70 : decode cX3_draftSpline 70 = .ok (.istore_n 2, 1) := by decide +kernel
theorem dX3_draftSpline_71 : decode cX3_draftSpline 71 = .ok (.iinc 3 1, 3) := by decide +kernel
theorem dX3_draftSpline_74 : decode cX3_draftSpline 74 = .ok (.goto (-57), 3) := by decide +kernel
theorem dX3_draftSpline_77 : decode cX3_draftSpline 77 = .ok (.return_, 1) := by decide +kernel
theorem dX3_findSlopes_0 : decode cX3_findSlopes 0 = .ok (.aload_n 0, 1) := by decide +kernel
theorem dX3_findSlopes_1 : decode cX3_findSlopes 1 = .ok (.iconst 0, 1) := by decide +kernel
theorem dX3_findSlopes_2 : decode cX3_findSlopes 2 = .ok (.invokevirtual 174, 3) := by decide +kernel
theorem dX3_findSlopes_5 : decode cX3_findSlopes 5 = .ok (.aload_n 0, 1) := by decide +kernel
theorem dX3_findSlopes_6 : decode cX3_findSlopes 6 = .ok (.getfield 30, 3) := by decide +kernel
theorem dX3_findSlopes_9 : decode cX3_findSlopes 9 = .ok (.sipush 1000, 3) := by decide +kernel
theorem dX3_findSlopes_12 : decode cX3_findSlopes 12 = .ok (.invokevirtual 205, 3) := by decide +kernel
theorem dX3_findSlopes_15 : decode cX3_findSlopes 15 = .ok (.iload_n 1, 1) := by decide +kernel
theorem dX3_findSlopes_16 : decode cX3_findSlopes 16 = .ok (.ifCond .ne 4, 3) := by decide +kernel
theorem dX3_findSlopes_19 : decode cX3_findSlopes 19 = .ok (.return_, 1) := by decide +kernel
theorem dX3_findSlopes_20 : decode cX3_findSlopes 20 = .ok (.iload_n 1, 1) := by decide +kernel
theorem dX3_findSlopes_21 : decode cX3_findSlopes 21 = .ok (.invokestatic 94, 3) := by decide +kernel
theorem dX3_findSlopes_24 : decode cX3_findSlopes 24 = .ok (.istore_n 2, 1) := by decide +kernel
theorem dX3_findSlopes_25 : decode cX3_findSlopes 25 = .ok (.iload_n 2, 1) := by decide +kernel
theorem dX3_findSlopes_26 : decode cX3_findSlopes 26 = .ok (.istore_n 3, 1) := by decide +kernel
theorem dX3_findSlopes_27 : decode cX3_findSlopes 27 = .ok (.iconst 0, 1) := by decide +kernel
theorem dX3_findSlopes_28 : decode cX3_findSlopes 28 = .ok (.istore 4, 2) := by decide +kernel
theorem dX3_findSlopes_30 : decode cX3_findSlopes 30 = .ok (.iload 4, 2) := by decide +kernel
theorem dX3_findSlopes_32 : decode cX3_findSlopes 32 = .ok (.aload_n 0, 1) := by decide +kernel
theorem dX3_findSlopes_33 : decode cX3_findSlopes 33 = .ok (.getfield 16, 3) := by decide +kernel
theorem dX3_findSlopes_36 : decode cX3_findSlopes 36 = .ok (.getfield 77, 3) := by decide +kernel
theorem dX3_findSlopes_39 : decode cX3_findSlopes 39 = .ok (.if_icmp .ge 83, 3) := by decide +kernel
theorem dX3_findSlopes_42 : decode cX3_findSlopes 42 = .ok (.iload_n 1, 1) := by decide +kernel
theorem dX3_findSlopes_43 : decode cX3_findSlopes 43 = .ok (.invokestatic 97, 3) := by decide +kernel
theorem dX3_findSlopes_46 : decode cX3_findSlopes 46 = .ok (.ifCond .eq 27, 3) := by decide +kernel
theorem dX3_findSlopes_49 : decode cX3_findSlopes 49 = .ok (.aload_n 0, 1) := by decide +kernel
theorem dX3_findSlopes_50 : decode cX3_findSlopes 50 = .ok (.getfield 30, 3) := by decide +kernel
theorem dX3_findSlopes_53 : decode cX3_findSlopes 53 = .ok (.iload_n 2, 1) := by decide +kernel
theorem dX3_findSlopes_54 : decode cX3_findSlopes 54 = .ok (.aload_n 0, 1) := by decide +kernel
theorem dX3_findSlopes_55 : decode cX3_findSlopes 55 = .ok (.getfield 16, 3) := by decide +kernel
theorem dX3_findSlopes_58 : decode cX3_findSlopes 58 = .ok (.getfield 69, 3) := by decide +kernel
theorem dX3_findSlopes_61 : decode cX3_findSlopes 61 = .ok (.iload 4, 2) := by decide +kernel
theorem dX3_findSlopes_63 : decode cX3_findSlopes 63 = .ok (.iaload, 1) := by decide +kernel
theorem dX3_findSlopes_64 : decode cX3_findSlopes 64 = .ok (.imul, 1) := by decide +kernel
theorem dX3_findSlopes_65 : decode cX3_findSlopes 65 = .ok (.iload_n 3, 1) := by decide +kernel
theorem dX3_findSlopes_66 : decode cX3_findSlopes 66 = .ok (.ineg, 1) := by decide +kernel
theorem dX3_findSlopes_67 : decode cX3_findSlopes 67 = .ok (.invokevirtual 208, 3) := by decide +kernel
theorem dX3_findSlopes_70 : decode cX3_findSlopes 70 = .ok (.goto 43, 3) := by decide +kernel
theorem dX3_findSlopes_73 : decode cX3_findSlopes 73 = .ok (.aload_n 0, 1) := by decide +kernel
theorem dX3_findSlopes_74 : decode cX3_findSlopes 74 = .ok (.getfield 30, 3) := by decide +kernel
theorem dX3_findSlopes_77 : decode cX3_findSlopes 77 = .ok (.iload_n 2, 1) := by decide +kernel
theorem dX3_findSlopes_78 : decode cX3_findSlopes 78 = .ok (.aload_n 0, 1) := by decide +kernel
theorem dX3_findSlopes_79 : decode cX3_findSlopes 79 = .ok (.getfield 16, 3) := by decide +kernel
theorem dX3_findSlopes_82 : decode cX3_findSlopes 82 = .ok (.getfield 66, 3) := by decide +kernel
theorem dX3_findSlopes_85 : decode cX3_findSlopes 85 = .ok (.iload 4, 2) := by decide +kernel
theorem dX3_findSlopes_87 : decode cX3_findSlopes 87 = .ok (.iaload, 1) := by decide +kernel
theorem dX3_findSlopes_88 : decode cX3_findSlopes 88 = .ok (.imul, 1) := by decide +kernel
theorem dX3_findSlopes_89 : decode cX3_findSlopes 89 = .ok (.iload_n 3, 1) := by decide +kernel
theorem dX3_findSlopes_90 : decode cX3_findSlopes 90 = .ok (.invokevirtual 208, 3) := by decide +kernel
theorem dX3_findSlopes_93 : decode cX3_findSlopes 93 = .ok (.aload_n 0, 1) := by decide +kernel
theorem dX3_findSlopes_94 : decode cX3_findSlopes 94 = .ok (.getfield 30, 3) := by decide +kernel
theorem dX3_findSlopes_97 : decode cX3_findSlopes 97 = .ok (.iload_n 2, 1) := by decide +kernel
theorem dX3_findSlopes_98 : decode cX3_findSlopes 98 = .ok (.aload_n 0, 1) := by decide +kernel
theorem dX3_findSlopes_99 : decode cX3_findSlopes 99 = .ok (.getfield 16, 3) := by decide +kernel
theorem dX3_findSlopes_102 : decode cX3_findSlopes 102 = .ok (.iload 4, 2) := by decide +kernel
theorem dX3_findSlopes_104 : decode cX3_findSlopes 104 = .ok (.invokevirtual 212, 3) := by decide +kernel
theorem dX3_findSlopes_107 : decode cX3_findSlopes 107 = .ok (.imul, 1) := by decide +kernel
theorem dX3_findSlopes_108 : decode cX3_findSlopes 108 = .ok (.iload_n 3, 1) := by decide +kernel
theorem dX3_findSlopes_109 : decode cX3_findSlopes 109 = .ok (.ineg, 1) := by decide +kernel
theorem dX3_findSlopes_110 : decode cX3_findSlopes 110 = .ok (.invokevirtual 208, 3) := by decide +kernel
theorem dX3_findSlopes_113 : decode cX3_findSlopes 113 = .ok (.iload_n 3, 1) := by decide +kernel
theorem dX3_findSlopes_114 : decode cX3_findSlopes 114 = .ok (.ineg, 1) := by decide +kernel
theorem dX3_findSlopes_115 : decode cX3_findSlopes 115 = .ok (.istore_n 3, 1) := by decide +kernel
theorem dX3_findSlopes_116 : decode cX3_findSlopes 116 = .ok (.iinc 4 1, 3) := by decide +kernel
theorem dX3_findSlopes_119 : decode cX3_findSlopes 119 = .ok (.goto (-89), 3) := by decide +kernel
theorem dX3_findSlopes_122 : decode cX3_findSlopes 122 = .ok (.return_, 1) := by decide +kernel
theorem dX3_leastBentOfAll_0 : decode cX3_leastBentOfAll 0 = .ok (.iconst 0, 1) := by decide +kernel
theorem dX3_leastBentOfAll_1 : decode cX3_leastBentOfAll 1 = .ok (.istore_n 1, 1) := by decide +kernel
theorem dX3_leastBentOfAll_2 : decode cX3_leastBentOfAll 2 = .ok (.iconst 1, 1) := by decide +kernel
theorem dX3_leastBentOfAll_3 : decode cX3_leastBentOfAll 3 = .ok (.istore_n 2, 1) := by decide +kernel
theorem dX3_leastBentOfAll_4 : decode cX3_leastBentOfAll 4 = .ok (.iconst 0, 1) := by decide +kernel
theorem dX3_leastBentOfAll_5 : decode cX3_leastBentOfAll 5 = .ok (.istore_n 3, 1) := by decide +kernel
theorem dX3_leastBentOfAll_6 : decode cX3_leastBentOfAll 6 = .ok (.iload_n 3, 1) := by decide +kernel
theorem dX3_leastBentOfAll_7 : decode cX3_leastBentOfAll 7 = .ok (.aload_n 0, 1) := by decide +kernel
theorem dX3_leastBentOfAll_8 : decode cX3_leastBentOfAll 8 = .ok (.getfield 16, 3) := by decide +kernel
theorem dX3_leastBentOfAll_11 : decode cX3_leastBentOfAll 11 = .ok (.getfield 77, 3) := by decide +kernel
theorem dX3_leastBentOfAll_14 : decode cX3_leastBentOfAll 14 = .ok (.if_icmp .ge 26, 3) := by decide +kernel
theorem dX3_leastBentOfAll_17 : decode cX3_leastBentOfAll 17 = .ok (.iload_n 1, 1) := by decide +kernel
theorem dX3_leastBentOfAll_18 : decode cX3_leastBentOfAll 18 = .ok (.iload_n 2, 1) := by decide +kernel
theorem dX3_leastBentOfAll_19 : decode cX3_leastBentOfAll 19 = .ok (.aload_n 0, 1) := by decide +kernel
theorem dX3_leastBentOfAll_20 : decode cX3_leastBentOfAll 20 = .ok (.getfield 16, 3) := by decide +kernel
theorem dX3_leastBentOfAll_23 : decode cX3_leastBentOfAll 23 = .ok (.getfield 69, 3) := by decide +kernel
theorem dX3_leastBentOfAll_26 : decode cX3_leastBentOfAll 26 = .ok (.iload_n 3, 1) := by decide +kernel
theorem dX3_leastBentOfAll_27 : decode cX3_leastBentOfAll 27 = .ok (.iaload, 1) := by decide +kernel
theorem dX3_leastBentOfAll_28 : decode cX3_leastBentOfAll 28 = .ok (.imul, 1) := by decide +kernel
theorem dX3_leastBentOfAll_29 : decode cX3_leastBentOfAll 29 = .ok (.iadd, 1) := by decide +kernel
theorem dX3_leastBentOfAll_30 : decode cX3_leastBentOfAll 30 = .ok (.istore_n 1, 1) := by decide +kernel
theorem dX3_leastBentOfAll_31 : decode cX3_leastBentOfAll 31 = .ok (.iload_n 2, 1) := by decide +kernel
theorem dX3_leastBentOfAll_32 : decode cX3_leastBentOfAll 32 = .ok (.ineg, 1) := by decide +kernel
theorem dX3_leastBentOfAll_33 : decode cX3_leastBentOfAll 33 = .ok (.istore_n 2, 1) := by decide +kernel
theorem dX3_leastBentOfAll_34 : decode cX3_leastBentOfAll 34 = .ok (.iinc 3 1, 3) := by decide +kernel
theorem dX3_leastBentOfAll_37 : decode cX3_leastBentOfAll 37 = .ok (.goto (-31), 3) := by decide +kernel
theorem dX3_leastBentOfAll_40 : decode cX3_leastBentOfAll 40 = .ok (.iconst 1, 1) := by decide +kernel
theorem dX3_leastBentOfAll_41 : decode cX3_leastBentOfAll 41 = .ok (.aload_n 0, 1) := by decide +kernel
theorem dX3_leastBentOfAll_42 : decode cX3_leastBentOfAll 42 = .ok (.getfield 16, 3) := by decide +kernel
theorem dX3_leastBentOfAll_45 : decode cX3_leastBentOfAll 45 = .ok (.getfield 77, 3) := by decide +kernel
theorem dX3_leastBentOfAll_48 : decode cX3_leastBentOfAll 48 = .ok (.invokestatic 167, 3) := by decide +kernel
theorem dX3_leastBentOfAll_51 : decode cX3_leastBentOfAll 51 = .ok (.istore_n 3, 1) := by decide +kernel
theorem dX3_leastBentOfAll_52 : decode cX3_leastBentOfAll 52 = .ok (.iload_n 3, 1) := by decide +kernel
theorem dX3_leastBentOfAll_53 : decode cX3_leastBentOfAll 53 = .ok (.iconst 2, 1) := by decide +kernel
theorem dX3_leastBentOfAll_54 : decode cX3_leastBentOfAll 54 = .ok (.iload_n 1, 1) := by decide +kernel
theorem dX3_leastBentOfAll_55 : decode cX3_leastBentOfAll 55 = .ok (.imul, 1) := by decide +kernel
theorem dX3_leastBentOfAll_56 : decode cX3_leastBentOfAll 56 = .ok (.isub, 1) := by decide +kernel
theorem dX3_leastBentOfAll_57 : decode cX3_leastBentOfAll 57 = .ok (.iconst 2, 1) := by decide +kernel
theorem dX3_leastBentOfAll_58 : decode cX3_leastBentOfAll 58 = .ok (.iload_n 3, 1) := by decide +kernel
theorem dX3_leastBentOfAll_59 : decode cX3_leastBentOfAll 59 = .ok (.imul, 1) := by decide +kernel
theorem dX3_leastBentOfAll_60 : decode cX3_leastBentOfAll 60 = .ok (.invokestatic 215, 3) := by decide +kernel
theorem dX3_leastBentOfAll_63 : decode cX3_leastBentOfAll 63 = .ok (.ineg, 1) := by decide +kernel
theorem dX3_leastBentOfAll_64 : decode cX3_leastBentOfAll 64 = .ok (.ireturn, 1) := by decide +kernel
