theorem dX5_init_0 : decode cX5_init 0 = .ok (.aload_n 0, 1) := by decide +kernel
theorem dX5_init_1 : decode cX5_init 1 = .ok (.invokespecial 1, 3) := by decide +kernel
theorem dX5_init_4 : decode cX5_init 4 = .ok (.aload_n 0, 1) := by decide +kernel
theorem dX5_init_5 : decode cX5_init 5 = .ok (.bipush 8, 2) := by decide +kernel
theorem dX5_init_7 : decode cX5_init 7 = .ok (.newarray .int, 2) := by decide +kernel
theorem dX5_init_9 : decode cX5_init 9 = .ok (.putfield 7, 3) := by decide +kernel
theorem dX5_init_12 : decode cX5_init 12 = .ok (.aload_n 0, 1) := by decide +kernel
theorem dX5_init_13 : decode cX5_init 13 = .ok (.bipush 8, 2) := by decide +kernel
theorem dX5_init_15 : decode cX5_init 15 = .ok (.newarray .int, 2) := by decide +kernel
theorem dX5_init_17 : decode cX5_init 17 = .ok (.putfield 13, 3) := by decide +kernel
theorem dX5_init_20 : decode cX5_init 20 = .ok (.aload_n 0, 1) := by decide +kernel
theorem dX5_init_21 : decode cX5_init 21 = .ok (.bipush 8, 2) := by decide +kernel
theorem dX5_init_23 : decode cX5_init 23 = .ok (.newarray .int, 2) := by decide +kernel
theorem dX5_init_25 : decode cX5_init 25 = .ok (.putfield 16, 3) := by decide +kernel
theorem dX5_init_28 : decode cX5_init 28 = .ok (.aload_n 0, 1) := by decide +kernel
theorem dX5_init_29 : decode cX5_init 29 = .ok (.bipush 8, 2) := by decide +kernel
theorem dX5_init_31 : decode cX5_init 31 = .ok (.bipush 40, 2) := by decide +kernel
theorem dX5_init_33 : decode cX5_init 33 = .ok (.multianewarray 19 2, 4) := by decide +kernel
theorem dX5_init_37 : decode cX5_init 37 = .ok (.putfield 21, 3) := by decide +kernel
theorem dX5_init_40 : decode cX5_init 40 = .ok (.aload_n 0, 1) := by decide +kernel
theorem dX5_init_41 : decode cX5_init 41 = .ok (.bipush 40, 2) := by decide +kernel
theorem dX5_init_43 : decode cX5_init 43 = .ok (.newarray .long, 2) := by decide +kernel
theorem dX5_init_45 : decode cX5_init 45 = .ok (.putfield 24, 3) := by decide +kernel
theorem dX5_init_48 : decode cX5_init 48 = .ok (.aload_n 0, 1) := by decide +kernel
theorem dX5_init_49 : decode cX5_init 49 = .ok (.bipush 8, 2) := by decide +kernel
theorem dX5_init_51 : decode cX5_init 51 = .ok (.newarray .int, 2) := by decide +kernel
theorem dX5_init_53 : decode cX5_init 53 = .ok (.putfield 28, 3) := by decide +kernel
theorem dX5_init_56 : decode cX5_init 56 = .ok (.aload_n 0, 1) := by decide +kernel
theorem dX5_init_57 : decode cX5_init 57 = .ok (.sipush 250, 3) := by decide +kernel
theorem dX5_init_60 : decode cX5_init 60 = .ok (.newarray .int, 2) := by decide +kernel
theorem dX5_init_62 : decode cX5_init 62 = .ok (.putfield 31, 3) := by decide +kernel
theorem dX5_init_65 : decode cX5_init 65 = .ok (.aload_n 0, 1) := by decide +kernel
theorem dX5_init_66 : decode cX5_init 66 = .ok (.bipush 8, 2) := by decide +kernel
theorem dX5_init_68 : decode cX5_init 68 = .ok (.newarray .int, 2) := by decide +kernel
theorem dX5_init_70 : decode cX5_init 70 = .ok (.putfield 34, 3) := by decide +kernel
theorem dX5_init_73 : decode cX5_init 73 = .ok (.aload_n 0, 1) := by decide +kernel
theorem dX5_init_74 : decode cX5_init 74 = .ok (.bipush 10, 2) := by decide +kernel
theorem dX5_init_76 : decode cX5_init 76 = .ok (.newarray .int, 2) := by decide +kernel
theorem dX5_init_78 : decode cX5_init 78 = .ok (.putfield 37, 3) := by decide +kernel
theorem dX5_init_81 : decode cX5_init 81 = .ok (.aload_n 0, 1) := by decide +kernel
theorem dX5_init_82 : decode cX5_init 82 = .ok (.bipush 10, 2) := by decide +kernel
theorem dX5_init_84 : decode cX5_init 84 = .ok (.newarray .int, 2) := by decide +kernel
theorem dX5_init_86 : decode cX5_init 86 = .ok (.putfield 40, 3) := by decide +kernel
theorem dX5_init_89 : decode cX5_init 89 = .ok (.aload_n 0, 1) := by decide +kernel
theorem dX5_init_90 : decode cX5_init 90 = .ok (.bipush 10, 2) := by decide +kernel
theorem dX5_init_92 : decode cX5_init 92 = .ok (.newarray .int, 2) := by decide +kernel
theorem dX5_init_94 : decode cX5_init 94 = .ok (.putfield 43, 3) := by decide +kernel
theorem dX5_init_97 : decode cX5_init 97 = .ok (.aload_n 0, 1) := by decide +kernel
theorem dX5_init_98 : decode cX5_init 98 = .ok (.bipush 10, 2) := by decide +kernel
theorem dX5_init_100 : decode cX5_init 100 = .ok (.newarray .int, 2) := by decide +kernel
theorem dX5_init_102 : decode cX5_init 102 = .ok (.putfield 46, 3) := by decide +kernel
theorem dX5_init_105 : decode cX5_init 105 = .ok (.aload_n 0, 1) := by decide +kernel
theorem dX5_init_106 : decode cX5_init 106 = .ok (.iconst 4, 1) := by decide +kernel
theorem dX5_init_107 : decode cX5_init 107 = .ok (.newarray .int, 2) := by decide +kernel
theorem dX5_init_109 : decode cX5_init 109 = .ok (.putfield 49, 3) := by decide +kernel
theorem dX5_init_112 : decode cX5_init 112 = .ok (.aload_n 0, 1) := by decide +kernel
theorem dX5_init_113 : decode cX5_init 113 = .ok (.iconst 1, 1) := by decide +kernel
theorem dX5_init_114 : decode cX5_init 114 = .ok (.putfield 52, 3) := by decide +kernel
theorem dX5_init_117 : decode cX5_init 117 = .ok (.aload_n 0, 1) := by decide +kernel
theorem dX5_init_118 : decode cX5_init 118 = .ok (.sipush 150, 3) := by decide +kernel
theorem dX5_init_121 : decode cX5_init 121 = .ok (.putfield 56, 3) := by decide +kernel
theorem dX5_init_124 : decode cX5_init 124 = .ok (.aload_n 0, 1) := by decide +kernel
theorem dX5_init_125 : decode cX5_init 125 = .ok (.iconst 1, 1) := by decide +kernel
theorem dX5_init_126 : decode cX5_init 126 = .ok (.putfield 59, 3) := by decide +kernel
theorem dX5_init_129 : decode cX5_init 129 = .ok (.aload_n 0, 1) := by decide +kernel
theorem dX5_init_130 : decode cX5_init 130 = .ok (.iconst 1, 1) := by decide +kernel
theorem dX5_init_131 : decode cX5_init 131 = .ok (.putfield 62, 3) := by decide +kernel
theorem dX5_init_134 : decode cX5_init 134 = .ok (.aload_n 0, 1) := by decide +kernel
theorem dX5_init_135 : decode cX5_init 135 = .ok (.iconst 3, 1) := by decide +kernel
theorem dX5_init_136 : decode cX5_init 136 = .ok (.newarray .int, 2) := by decide +kernel
theorem dX5_init_138 : decode cX5_init 138 = .ok (.putfield 65, 3) := by decide +kernel
theorem dX5_init_141 : decode cX5_init 141 = .ok (.aload_n 0, 1) := by decide +kernel
theorem dX5_init_142 : decode cX5_init 142 = .ok (.iconst 4, 1) := by decide +kernel
theorem dX5_init_143 : decode cX5_init 143 = .ok (.newarray .int, 2) := by decide +kernel
theorem dX5_init_145 : decode cX5_init 145 = .ok (.putfield 68, 3) := by decide +kernel
theorem dX5_init_148 : decode cX5_init 148 = .ok (.aload_n 0, 1) := by decide +kernel
theorem dX5_init_149 : decode cX5_init 149 = .ok (.iconst 4, 1) := by decide +kernel
theorem dX5_init_150 : decode cX5_init 150 = .ok (.newarray .int, 2) := by decide +kernel
theorem dX5_init_152 : decode cX5_init 152 = .ok (.putfield 71, 3) := by decide +kernel
theorem dX5_init_155 : decode cX5_init 155 = .ok (.return_, 1) := by decide +kernel
theorem dX5_refuse_0 : decode cX5_refuse 0 = .ok (.aload_n 0, 1) := by decide +kernel
theorem dX5_refuse_1 : decode cX5_refuse 1 = .ok (.getfield 34, 3) := by decide +kernel
theorem dX5_refuse_4 : decode cX5_refuse 4 = .ok (.iload_n 1, 1) := by decide +kernel
theorem dX5_refuse_5 : decode cX5_refuse 5 = .ok (.ineg, 1) := by decide +kernel
theorem dX5_refuse_6 : decode cX5_refuse 6 = .ok (.dup2, 1) := by decide +kernel
theorem dX5_refuse_7 : decode cX5_refuse 7 = .ok (.iaload, 1) := by decide +kernel
theorem dX5_refuse_8 : decode cX5_refuse 8 = .ok (.iconst 1, 1) := by decide +kernel
theorem dX5_refuse_9 : decode cX5_refuse 9 = .ok (.iadd, 1) := by decide +kernel
theorem dX5_refuse_10 : decode cX5_refuse 10 = .ok (.iastore, 1) := by decide +kernel
theorem dX5_refuse_11 : decode cX5_refuse 11 = .ok (.iload_n 1, 1) := by decide +kernel
theorem dX5_refuse_12 : decode cX5_refuse 12 = .ok (.ireturn, 1) := by decide +kernel
theorem dX5_in_0 : decode cX5_in 0 = .ok (.lload_n 0, 1) := by decide +kernel
theorem dX5_in_1 : decode cX5_in 1 = .ok (.lload_n 2, 1) := by decide +kernel
theorem dX5_in_2 : decode cX5_in 2 = .ok (.lcmp, 1) := by decide +kernel
theorem dX5_in_3 : decode cX5_in 3 = .ok (.ifCond .lt 14, 3) := by decide +kernel
theorem dX5_in_6 : decode cX5_in 6 = .ok (.lload_n 0, 1) := by decide +kernel
theorem dX5_in_7 : decode cX5_in 7 = .ok (.lload 4, 2) := by decide +kernel
theorem dX5_in_9 : decode cX5_in 9 = .ok (.lcmp, 1) := by decide +kernel
theorem dX5_in_10 : decode cX5_in 10 = .ok (.ifCond .gt 7, 3) := by decide +kernel
theorem dX5_in_13 : decode cX5_in 13 = .ok (.iconst 1, 1) := by decide +kernel
theorem dX5_in_14 : decode cX5_in 14 = .ok (.goto 4, 3) := by decide +kernel
theorem dX5_in_17 : decode cX5_in 17 = .ok (.iconst 0, 1) := by decide +kernel
theorem dX5_in_18 : decode cX5_in 18 = .ok (.ireturn, 1) := by decide +kernel
theorem dX5_isPlayer_0 : decode cX5_isPlayer 0 = .ok (.iload_n 1, 1) := by decide +kernel
theorem dX5_isPlayer_1 : decode cX5_isPlayer 1 = .ok (.i2l, 1) := by decide +kernel
theorem dX5_isPlayer_2 : decode cX5_isPlayer 2 = .ok (.lconst 0, 1) := by decide +kernel
theorem dX5_isPlayer_3 : decode cX5_isPlayer 3 = .ok (.aload_n 0, 1) := by decide +kernel
theorem dX5_isPlayer_4 : decode cX5_isPlayer 4 = .ok (.getfield 74, 3) := by decide +kernel
theorem dX5_isPlayer_7 : decode cX5_isPlayer 7 = .ok (.iconst 1, 1) := by decide +kernel
theorem dX5_isPlayer_8 : decode cX5_isPlayer 8 = .ok (.isub, 1) := by decide +kernel
theorem dX5_isPlayer_9 : decode cX5_isPlayer 9 = .ok (.i2l, 1) := by decide +kernel
theorem dX5_isPlayer_10 : decode cX5_isPlayer 10 = .ok (.invokestatic 77, 3) := by decide +kernel
theorem dX5_isPlayer_13 : decode cX5_isPlayer 13 = .ok (.ireturn, 1) := by decide +kernel
theorem dX5_isLine_0 : decode cX5_isLine 0 = .ok (.lload_n 0, 1) := by decide +kernel
theorem dX5_isLine_1 : decode cX5_isLine 1 = .ok (.lconst 0, 1) := by decide +kernel
theorem dX5_isLine_2 : decode cX5_isLine 2 = .ok (.ldc2_w 81, 3) := by decide +kernel
theorem dX5_isLine_5 : decode cX5_isLine 5 = .ok (.invokestatic 77, 3) := by decide +kernel
theorem dX5_isLine_8 : decode cX5_isLine 8 = .ok (.ireturn, 1) := by decide +kernel
theorem dX5_has_0 : decode cX5_has 0 = .ok (.iload_n 0, 1) := by decide +kernel
theorem dX5_has_1 : decode cX5_has 1 = .ok (.iload_n 1, 1) := by decide +kernel
theorem dX5_has_2 : decode cX5_has 2 = .ok (.ishr, 1) := by decide +kernel
theorem dX5_has_3 : decode cX5_has 3 = .ok (.iconst 1, 1) := by decide +kernel
theorem dX5_has_4 : decode cX5_has 4 = .ok (.iand, 1) := by decide +kernel
theorem dX5_has_5 : decode cX5_has 5 = .ok (.ifCond .eq 7, 3) := by decide +kernel
theorem dX5_has_8 : decode cX5_has 8 = .ok (.iconst 1, 1) := by decide +kernel
theorem dX5_has_9 : decode cX5_has 9 = .ok (.goto 4, 3) := by decide +kernel
theorem dX5_has_12 : decode cX5_has 12 = .ok (.iconst 0, 1) := by decide +kernel
theorem dX5_has_13 : decode cX5_has 13 = .ok (.ireturn, 1) := by decide +kernel
theorem dX5_bits_0 : decode cX5_bits 0 = .ok (.iconst 0, 1) := by decide +kernel
theorem dX5_bits_1 : decode cX5_bits 1 = .ok (.istore_n 1, 1) := by decide +kernel
theorem dX5_bits_2 : decode cX5_bits 2 = .ok (.iload_n 0, 1) := by decide +kernel
theorem dX5_bits_3 : decode cX5_bits 3 = .ok (.istore_n 2, 1) := by decide +kernel
theorem dX5_bits_4 : decode cX5_bits 4 = .ok (.iload_n 2, 1) := by decide +kernel
theorem dX5_bits_5 : decode cX5_bits 5 = .ok (.ifCond .eq 15, 3) := by decide +kernel
theorem dX5_bits_8 : decode cX5_bits 8 = .ok (.iinc 1 1, 3) := by decide +kernel
theorem dX5_bits_11 : decode cX5_bits 11 = .ok (.iload_n 2, 1) := by decide +kernel
theorem dX5_bits_12 : decode cX5_bits 12 = .ok (.iload_n 2, 1) := by decide +kernel
theorem dX5_bits_13 : decode cX5_bits 13 = .ok (.iconst 1, 1) := by decide +kernel
theorem dX5_bits_14 : decode cX5_bits 14 = .ok (.isub, 1) := by decide +kernel
theorem dX5_bits_15 : decode cX5_bits 15 = .ok (.iand, 1) := by decide +kernel
theorem dX5_bits_16 : decode cX5_bits 16 = .ok (.istore_n 2, 1) := by decide +kernel
theorem dX5_bits_17 : decode cX5_bits 17 = .ok (.goto (-13), 3) := by decide +kernel
theorem dX5_bits_20 : decode cX5_bits 20 = .ok (.iload_n 1, 1) := by decide +kernel
theorem dX5_bits_21 : decode cX5_bits 21 = .ok (.ireturn, 1) := by decide +kernel
theorem dX5_row_0 : decode cX5_row 0 = .ok (.iload_n 1, 1) := by decide +kernel
theorem dX5_row_1 : decode cX5_row 1 = .ok (.i2l, 1) := by decide +kernel
theorem dX5_row_2 : decode cX5_row 2 = .ok (.lconst 0, 1) := by decide +kernel
theorem dX5_row_3 : decode cX5_row 3 = .ok (.ldc2_w 83, 3) := by decide +kernel
theorem dX5_row_6 : decode cX5_row 6 = .ok (.invokestatic 77, 3) := by decide +kernel
theorem dX5_row_9 : decode cX5_row 9 = .ok (.ifCond .eq 27, 3) := by decide +kernel
theorem dX5_row_12 : decode cX5_row 12 = .ok (.iload_n 2, 1) := by decide +kernel
theorem dX5_row_13 : decode cX5_row 13 = .ok (.i2l, 1) := by decide +kernel
theorem dX5_row_14 : decode cX5_row 14 = .ok (.lconst 0, 1) := by decide +kernel
theorem dX5_row_15 : decode cX5_row 15 = .ok (.ldc2_w 85, 3) := by decide +kernel
theorem dX5_row_18 : decode cX5_row 18 = .ok (.invokestatic 77, 3) := by decide +kernel
theorem dX5_row_21 : decode cX5_row 21 = .ok (.ifCond .eq 15, 3) := by decide +kernel
theorem dX5_row_24 : decode cX5_row 24 = .ok (.iload_n 3, 1) := by decide +kernel
theorem dX5_row_25 : decode cX5_row 25 = .ok (.i2l, 1) := by decide +kernel
theorem dX5_row_26 : decode cX5_row 26 = .ok (.lconst 0, 1) := by decide +kernel
theorem dX5_row_27 : decode cX5_row 27 = .ok (.ldc2_w 87, 3) := by decide +kernel
theorem dX5_row_30 : decode cX5_row 30 = .ok (.invokestatic 77, 3) := by decide +kernel
theorem dX5_row_33 : decode cX5_row 33 = .ok (.ifCond .ne 10, 3) := by decide +kernel
theorem dX5_row_36 : decode cX5_row 36 = .ok (.aload_n 0, 1) := by decide +kernel
theorem dX5_row_37 : decode cX5_row 37 = .ok (.bipush (-2), 2) := by decide +kernel
theorem dX5_row_39 : decode cX5_row 39 = .ok (.invokevirtual 89, 3) := by decide +kernel
theorem dX5_row_42 : decode cX5_row 42 = .ok (.ireturn, 1) := by decide +kernel
theorem dX5_row_43 : decode cX5_row 43 = .ok (.aload_n 0, 1) := by decide +kernel
theorem dX5_row_44 : decode cX5_row 44 = .ok (.getfield 7, 3) := by decide +kernel
theorem dX5_row_47 : decode cX5_row 47 = .ok (.iload_n 1, 1) := by decide +kernel
theorem dX5_row_48 : decode cX5_row 48 = .ok (.iconst 1, 1) := by decide +kernel
theorem dX5_row_49 : decode cX5_row 49 = .ok (.iastore, 1) := by decide +kernel
theorem dX5_row_50 : decode cX5_row 50 = .ok (.aload_n 0, 1) := by decide +kernel
theorem dX5_row_51 : decode cX5_row 51 = .ok (.getfield 13, 3) := by decide +kernel
theorem dX5_row_54 : decode cX5_row 54 = .ok (.iload_n 1, 1) := by decide +kernel
theorem dX5_row_55 : decode cX5_row 55 = .ok (.iload_n 2, 1) := by decide +kernel
theorem dX5_row_56 : decode cX5_row 56 = .ok (.iastore, 1) := by decide +kernel
theorem dX5_row_57 : decode cX5_row 57 = .ok (.aload_n 0, 1) := by decide +kernel
theorem dX5_row_58 : decode cX5_row 58 = .ok (.getfield 16, 3) := by decide +kernel
theorem dX5_row_61 : decode cX5_row 61 = .ok (.iload_n 1, 1) := by decide +kernel
theorem dX5_row_62 : decode cX5_row 62 = .ok (.iload_n 3, 1) := by decide +kernel
theorem dX5_row_63 : decode cX5_row 63 = .ok (.iastore, 1) := by decide +kernel
theorem dX5_row_64 : decode cX5_row 64 = .ok (.iconst 0, 1) := by decide +kernel
theorem dX5_row_65 : decode cX5_row 65 = .ok (.istore 4, 2) := by decide +kernel
theorem dX5_row_67 : decode cX5_row 67 = .ok (.iload 4, 2) := by decide +kernel
theorem dX5_row_69 : decode cX5_row 69 = .ok (.bipush 40, 2) := by decide +kernel
theorem dX5_row_71 : decode cX5_row 71 = .ok (.if_icmp .ge 19, 3) := by decide +kernel
theorem dX5_row_74 : decode cX5_row 74 = .ok (.aload_n 0, 1) := by decide +kernel
theorem dX5_row_75 : decode cX5_row 75 = .ok (.getfield 21, 3) := by decide +kernel
theorem dX5_row_78 : decode cX5_row 78 = .ok (.iload_n 1, 1) := by decide +kernel
theorem dX5_row_79 : decode cX5_row 79 = .ok (.aaload, 1) := by decide +kernel
theorem dX5_row_80 : decode cX5_row 80 = .ok (.iload 4, 2) := by decide +kernel
theorem dX5_row_82 : decode cX5_row 82 = .ok (.lconst 0, 1) := by decide +kernel
theorem dX5_row_83 : decode cX5_row 83 = .ok (.lastore, 1) := by decide +kernel
theorem dX5_row_84 : decode cX5_row 84 = .ok (.iinc 4 1, 3) := by decide +kernel
theorem dX5_row_87 : decode cX5_row 87 = .ok (.goto (-20), 3) := by decide +kernel
theorem dX5_row_90 : decode cX5_row 90 = .ok (.iconst 1, 1) := by decide +kernel
theorem dX5_row_91 : decode cX5_row 91 = .ok (.ireturn, 1) := by decide +kernel
theorem dX5_fit_0 : decode cX5_fit 0 = .ok (.iload_n 0, 1) := by decide +kernel
theorem dX5_fit_1 : decode cX5_fit 1 = .ok (.tableswitch 47 0 3 #[31, 36, 41, 45], 31) := by decide +kernel
theorem dX5_fit_32 : decode cX5_fit 32 = .ok (.lload_n 1, 1) := by decide +kernel
theorem dX5_fit_33 : decode cX5_fit 33 = .ok (.l2i, 1) := by decide +kernel
theorem dX5_fit_34 : decode cX5_fit 34 = .ok (.i2b, 1) := by decide +kernel
theorem dX5_fit_35 : decode cX5_fit 35 = .ok (.i2l, 1) := by decide +kernel
theorem dX5_fit_36 : decode cX5_fit 36 = .ok (.lreturn, 1) := by decide +kernel
theorem dX5_fit_37 : decode cX5_fit 37 = .ok (.lload_n 1, 1) := by decide +kernel
theorem dX5_fit_38 : decode cX5_fit 38 = .ok (.l2i, 1) := by decide +kernel
theorem dX5_fit_39 : decode cX5_fit 39 = .ok (.i2s, 1) := by decide +kernel
theorem dX5_fit_40 : decode cX5_fit 40 = .ok (.i2l, 1) := by decide +kernel
theorem dX5_fit_41 : decode cX5_fit 41 = .ok (.lreturn, 1) := by decide +kernel
theorem dX5_fit_42 : decode cX5_fit 42 = .ok (.lload_n 1, 1) := by decide +kernel
theorem dX5_fit_43 : decode cX5_fit 43 = .ok (.l2i, 1) := by decide +kernel
theorem dX5_fit_44 : decode cX5_fit 44 = .ok (.i2l, 1) := by decide +kernel
theorem dX5_fit_45 : decode cX5_fit 45 = .ok (.lreturn, 1) := by decide +kernel
theorem dX5_fit_46 : decode cX5_fit 46 = .ok (.lload_n 1, 1) := by decide +kernel
theorem dX5_fit_47 : decode cX5_fit 47 = .ok (.lreturn, 1) := by decide +kernel
theorem dX5_fit_48 : decode cX5_fit 48 = .ok (.lload_n 1, 1) := by decide +kernel
theorem dX5_fit_49 : decode cX5_fit 49 = .ok (.lconst 0, 1) := by decide +kernel
theorem dX5_fit_50 : decode cX5_fit 50 = .ok (.lcmp, 1) := by decide +kernel
theorem dX5_fit_51 : decode cX5_fit 51 = .ok (.ifCond .eq 7, 3) := by decide +kernel
theorem dX5_fit_54 : decode cX5_fit 54 = .ok (.lconst 1, 1) := by decide +kernel
theorem dX5_fit_55 : decode cX5_fit 55 = .ok (.goto 4, 3) := by decide +kernel
theorem dX5_fit_58 : decode cX5_fit 58 = .ok (.lconst 0, 1) := by decide +kernel
theorem dX5_fit_59 : decode cX5_fit 59 = .ok (.lreturn, 1) := by decide +kernel
theorem dX5_noRow_0 : decode cX5_noRow 0 = .ok (.iload_n 1, 1) := by decide +kernel
theorem dX5_noRow_1 : decode cX5_noRow 1 = .ok (.i2l, 1) := by decide +kernel
theorem dX5_noRow_2 : decode cX5_noRow 2 = .ok (.lconst 0, 1) := by decide +kernel
theorem dX5_noRow_3 : decode cX5_noRow 3 = .ok (.ldc2_w 83, 3) := by decide +kernel
theorem dX5_noRow_6 : decode cX5_noRow 6 = .ok (.invokestatic 77, 3) := by decide +kernel
theorem dX5_noRow_9 : decode cX5_noRow 9 = .ok (.ifCond .ne 10, 3) := by decide +kernel
theorem dX5_noRow_12 : decode cX5_noRow 12 = .ok (.aload_n 0, 1) := by decide +kernel
theorem dX5_noRow_13 : decode cX5_noRow 13 = .ok (.bipush (-2), 2) := by decide +kernel
theorem dX5_noRow_15 : decode cX5_noRow 15 = .ok (.invokevirtual 89, 3) := by decide +kernel
theorem dX5_noRow_18 : decode cX5_noRow 18 = .ok (.ireturn, 1) := by decide +kernel
theorem dX5_noRow_19 : decode cX5_noRow 19 = .ok (.aload_n 0, 1) := by decide +kernel
theorem dX5_noRow_20 : decode cX5_noRow 20 = .ok (.getfield 7, 3) := by decide +kernel
theorem dX5_noRow_23 : decode cX5_noRow 23 = .ok (.iload_n 1, 1) := by decide +kernel
theorem dX5_noRow_24 : decode cX5_noRow 24 = .ok (.iaload, 1) := by decide +kernel
theorem dX5_noRow_25 : decode cX5_noRow 25 = .ok (.iconst 2, 1) := by decide +kernel
theorem dX5_noRow_26 : decode cX5_noRow 26 = .ok (.if_icmp .ne 10, 3) := by decide +kernel
theorem dX5_noRow_29 : decode cX5_noRow 29 = .ok (.aload_n 0, 1) := by decide +kernel
theorem dX5_noRow_30 : decode cX5_noRow 30 = .ok (.bipush (-3), 2) := by decide +kernel
theorem dX5_noRow_32 : decode cX5_noRow 32 = .ok (.invokevirtual 89, 3) := by decide +kernel
theorem dX5_noRow_35 : decode cX5_noRow 35 = .ok (.ireturn, 1) := by decide +kernel
theorem dX5_noRow_36 : decode cX5_noRow 36 = .ok (.aload_n 0, 1) := by decide +kernel
theorem dX5_noRow_37 : decode cX5_noRow 37 = .ok (.getfield 7, 3) := by decide +kernel
theorem dX5_noRow_40 : decode cX5_noRow 40 = .ok (.iload_n 1, 1) := by decide +kernel
theorem dX5_noRow_41 : decode cX5_noRow 41 = .ok (.iaload, 1) := by decide +kernel
theorem dX5_noRow_42 : decode cX5_noRow 42 = .ok (.ifCond .ne 12, 3) := by decide +kernel
theorem dX5_noRow_45 : decode cX5_noRow 45 = .ok (.aload_n 0, 1) := by decide +kernel
theorem dX5_noRow_46 : decode cX5_noRow 46 = .ok (.bipush (-4), 2) := by decide +kernel
theorem dX5_noRow_48 : decode cX5_noRow 48 = .ok (.invokevirtual 89, 3) := by decide +kernel
theorem dX5_noRow_51 : decode cX5_noRow 51 = .ok (.goto 4, 3) := by decide +kernel
theorem dX5_noRow_54 : decode cX5_noRow 54 = .ok (.iconst 0, 1) := by decide +kernel
theorem dX5_noRow_55 : decode cX5_noRow 55 = .ok (.ireturn, 1) := by decide +kernel
theorem dX5_set_0 : decode cX5_set 0 = .ok (.aload_n 0, 1) := by decide +kernel
theorem dX5_set_1 : decode cX5_set 1 = .ok (.iload_n 1, 1) := by decide +kernel
theorem dX5_set_2 : decode cX5_set 2 = .ok (.invokevirtual 93, 3) := by decide +kernel
theorem dX5_set_5 : decode cX5_set 5 = .ok (.istore 5, 2) := by decide +kernel
theorem dX5_set_7 : decode cX5_set 7 = .ok (.iload 5, 2) := by decide +kernel
theorem dX5_set_9 : decode cX5_set 9 = .ok (.ifCond .eq 6, 3) := by decide +kernel
theorem dX5_set_12 : decode cX5_set 12 = .ok (.iload 5, 2) := by decide +kernel
theorem dX5_set_14 : decode cX5_set 14 = .ok (.ireturn, 1) := by decide +kernel
theorem dX5_set_15 : decode cX5_set 15 = .ok (.iload_n 2, 1) := by decide +kernel
theorem dX5_set_16 : decode cX5_set 16 = .ok (.i2l, 1) := by decide +kernel
theorem dX5_set_17 : decode cX5_set 17 = .ok (.lconst 0, 1) := by decide +kernel
theorem dX5_set_18 : decode cX5_set 18 = .ok (.aload_n 0, 1) := by decide +kernel
theorem dX5_set_19 : decode cX5_set 19 = .ok (.getfield 16, 3) := by decide +kernel
theorem dX5_set_22 : decode cX5_set 22 = .ok (.iload_n 1, 1) := by decide +kernel
theorem dX5_set_23 : decode cX5_set 23 = .ok (.iaload, 1) := by decide +kernel
theorem dX5_set_24 : decode cX5_set 24 = .ok (.iconst 1, 1) := by decide +kernel
theorem dX5_set_25 : decode cX5_set 25 = .ok (.isub, 1) := by decide +kernel
theorem dX5_set_26 : decode cX5_set 26 = .ok (.i2l, 1) := by decide +kernel
theorem dX5_set_27 : decode cX5_set 27 = .ok (.invokestatic 77, 3) := by decide +kernel
theorem dX5_set_30 : decode cX5_set 30 = .ok (.ifCond .ne 10, 3) := by decide +kernel
theorem dX5_set_33 : decode cX5_set 33 = .ok (.aload_n 0, 1) := by decide +kernel
theorem dX5_set_34 : decode cX5_set 34 = .ok (.bipush (-2), 2) := by decide +kernel
theorem dX5_set_36 : decode cX5_set 36 = .ok (.invokevirtual 89, 3) := by decide +kernel
theorem dX5_set_39 : decode cX5_set 39 = .ok (.ireturn, 1) := by decide +kernel
theorem dX5_set_40 : decode cX5_set 40 = .ok (.aload_n 0, 1) := by decide +kernel
theorem dX5_set_41 : decode cX5_set 41 = .ok (.getfield 21, 3) := by decide +kernel
theorem dX5_set_44 : decode cX5_set 44 = .ok (.iload_n 1, 1) := by decide +kernel
theorem dX5_set_45 : decode cX5_set 45 = .ok (.aaload, 1) := by decide +kernel
theorem dX5_set_46 : decode cX5_set 46 = .ok (.iload_n 2, 1) := by decide +kernel
theorem dX5_set_47 : decode cX5_set 47 = .ok (.aload_n 0, 1) := by decide +kernel
theorem dX5_set_48 : decode cX5_set 48 = .ok (.getfield 13, 3) := by decide +kernel
theorem dX5_set_51 : decode cX5_set 51 = .ok (.iload_n 1, 1) := by decide +kernel
theorem dX5_set_52 : decode cX5_set 52 = .ok (.iaload, 1) := by decide +kernel
theorem dX5_set_53 : decode cX5_set 53 = .ok (.lload_n 3, 1) := by decide +kernel
theorem dX5_set_54 : decode cX5_set 54 = .ok (.invokestatic 96, 3) := by decide +kernel
theorem dX5_set_57 : decode cX5_set 57 = .ok (.lastore, 1) := by decide +kernel
theorem dX5_set_58 : decode cX5_set 58 = .ok (.iconst 1, 1) := by decide +kernel
theorem dX5_set_59 : decode cX5_set 59 = .ok (.ireturn, 1) := by decide +kernel
theorem dX5_copy_0 : decode cX5_copy 0 = .ok (.iload_n 1, 1) := by decide +kernel
theorem dX5_copy_1 : decode cX5_copy 1 = .ok (.i2l, 1) := by decide +kernel
theorem dX5_copy_2 : decode cX5_copy 2 = .ok (.lconst 0, 1) := by decide +kernel
theorem dX5_copy_3 : decode cX5_copy 3 = .ok (.ldc2_w 83, 3) := by decide +kernel
theorem dX5_copy_6 : decode cX5_copy 6 = .ok (.invokestatic 77, 3) := by decide +kernel
theorem dX5_copy_9 : decode cX5_copy 9 = .ok (.ifCond .eq 15, 3) := by decide +kernel
theorem dX5_copy_12 : decode cX5_copy 12 = .ok (.iload_n 2, 1) := by decide +kernel
theorem dX5_copy_13 : decode cX5_copy 13 = .ok (.i2l, 1) := by decide +kernel
theorem dX5_copy_14 : decode cX5_copy 14 = .ok (.lconst 0, 1) := by decide +kernel
theorem dX5_copy_15 : decode cX5_copy 15 = .ok (.ldc2_w 83, 3) := by decide +kernel
theorem dX5_copy_18 : decode cX5_copy 18 = .ok (.invokestatic 77, 3) := by decide +kernel
theorem dX5_copy_21 : decode cX5_copy 21 = .ok (.ifCond .ne 10, 3) := by decide +kernel
theorem dX5_copy_24 : decode cX5_copy 24 = .ok (.aload_n 0, 1) := by decide +kernel
theorem dX5_copy_25 : decode cX5_copy 25 = .ok (.bipush (-2), 2) := by decide +kernel
theorem dX5_copy_27 : decode cX5_copy 27 = .ok (.invokevirtual 89, 3) := by decide +kernel
theorem dX5_copy_30 : decode cX5_copy 30 = .ok (.ireturn, 1) := by decide +kernel
theorem dX5_copy_31 : decode cX5_copy 31 = .ok (.aload_n 0, 1) := by decide +kernel
theorem dX5_copy_32 : decode cX5_copy 32 = .ok (.getfield 7, 3) := by decide +kernel
theorem dX5_copy_35 : decode cX5_copy 35 = .ok (.iload_n 1, 1) := by decide +kernel
theorem dX5_copy_36 : decode cX5_copy 36 = .ok (.iaload, 1) := by decide +kernel
theorem dX5_copy_37 : decode cX5_copy 37 = .ok (.iconst 2, 1) := by decide +kernel
theorem dX5_copy_38 : decode cX5_copy 38 = .ok (.if_icmp .eq 48, 3) := by decide +kernel
theorem dX5_copy_41 : decode cX5_copy 41 = .ok (.aload_n 0, 1) := by decide +kernel
theorem dX5_copy_42 : decode cX5_copy 42 = .ok (.getfield 7, 3) := by decide +kernel
theorem dX5_copy_45 : decode cX5_copy 45 = .ok (.iload_n 2, 1) := by decide +kernel
theorem dX5_copy_46 : decode cX5_copy 46 = .ok (.iaload, 1) := by decide +kernel
theorem dX5_copy_47 : decode cX5_copy 47 = .ok (.iconst 2, 1) := by decide +kernel
theorem dX5_copy_48 : decode cX5_copy 48 = .ok (.if_icmp .eq 38, 3) := by decide +kernel
theorem dX5_copy_51 : decode cX5_copy 51 = .ok (.aload_n 0, 1) := by decide +kernel
theorem dX5_copy_52 : decode cX5_copy 52 = .ok (.getfield 7, 3) := by decide +kernel
theorem dX5_copy_55 : decode cX5_copy 55 = .ok (.iload_n 1, 1) := by decide +kernel
theorem dX5_copy_56 : decode cX5_copy 56 = .ok (.iaload, 1) := by decide +kernel
theorem dX5_copy_57 : decode cX5_copy 57 = .ok (.iconst 1, 1) := by decide +kernel
theorem dX5_copy_58 : decode cX5_copy 58 = .ok (.if_icmp .ne 35, 3) := by decide +kernel
theorem dX5_copy_61 : decode cX5_copy 61 = .ok (.aload_n 0, 1) := by decide +kernel
theorem dX5_copy_62 : decode cX5_copy 62 = .ok (.getfield 7, 3) := by decide +kernel
theorem dX5_copy_65 : decode cX5_copy 65 = .ok (.iload_n 2, 1) := by decide +kernel
theorem dX5_copy_66 : decode cX5_copy 66 = .ok (.iaload, 1) := by decide +kernel
theorem dX5_copy_67 : decode cX5_copy 67 = .ok (.iconst 1, 1) := by decide +kernel
theorem dX5_copy_68 : decode cX5_copy 68 = .ok (.if_icmp .ne 25, 3) := by decide +kernel
theorem dX5_copy_71 : decode cX5_copy 71 = .ok (.aload_n 0, 1) := by decide +kernel
theorem dX5_copy_72 : decode cX5_copy 72 = .ok (.getfield 13, 3) := by decide +kernel
theorem dX5_copy_75 : decode cX5_copy 75 = .ok (.iload_n 1, 1) := by decide +kernel
theorem dX5_copy_76 : decode cX5_copy 76 = .ok (.iaload, 1) := by decide +kernel
theorem dX5_copy_77 : decode cX5_copy 77 = .ok (.aload_n 0, 1) := by decide +kernel
theorem dX5_copy_78 : decode cX5_copy 78 = .ok (.getfield 13, 3) := by decide +kernel
theorem dX5_copy_81 : decode cX5_copy 81 = .ok (.iload_n 2, 1) := by decide +kernel
theorem dX5_copy_82 : decode cX5_copy 82 = .ok (.iaload, 1) := by decide +kernel
theorem dX5_copy_83 : decode cX5_copy 83 = .ok (.if_icmp .eq 10, 3) := by decide +kernel
theorem dX5_copy_86 : decode cX5_copy 86 = .ok (.aload_n 0, 1) := by decide +kernel
theorem dX5_copy_87 : decode cX5_copy 87 = .ok (.bipush (-3), 2) := by decide +kernel
theorem dX5_copy_89 : decode cX5_copy 89 = .ok (.invokevirtual 89, 3) := by decide +kernel
theorem dX5_copy_92 : decode cX5_copy 92 = .ok (.ireturn, 1) := by decide +kernel
theorem dX5_copy_93 : decode cX5_copy 93 = .ok (.aload_n 0, 1) := by decide +kernel
theorem dX5_copy_94 : decode cX5_copy 94 = .ok (.getfield 7, 3) := by decide +kernel
theorem dX5_copy_97 : decode cX5_copy 97 = .ok (.iload_n 1, 1) := by decide +kernel
theorem dX5_copy_98 : decode cX5_copy 98 = .ok (.iaload, 1) := by decide +kernel
theorem dX5_copy_99 : decode cX5_copy 99 = .ok (.ifCond .eq 12, 3) := by decide +kernel
theorem dX5_copy_102 : decode cX5_copy 102 = .ok (.aload_n 0, 1) := by decide +kernel
theorem dX5_copy_103 : decode cX5_copy 103 = .ok (.getfield 7, 3) := by decide +kernel
theorem dX5_copy_106 : decode cX5_copy 106 = .ok (.iload_n 2, 1) := by decide +kernel
theorem dX5_copy_107 : decode cX5_copy 107 = .ok (.iaload, 1) := by decide +kernel
theorem dX5_copy_108 : decode cX5_copy 108 = .ok (.ifCond .ne 10, 3) := by decide +kernel
theorem dX5_copy_111 : decode cX5_copy 111 = .ok (.aload_n 0, 1) := by decide +kernel
theorem dX5_copy_112 : decode cX5_copy 112 = .ok (.bipush (-4), 2) := by decide +kernel
theorem dX5_copy_114 : decode cX5_copy 114 = .ok (.invokevirtual 89, 3) := by decide +kernel
theorem dX5_copy_117 : decode cX5_copy 117 = .ok (.ireturn, 1) := by decide +kernel
theorem dX5_copy_118 : decode cX5_copy 118 = .ok (.iload 5, 2) := by decide +kernel
theorem dX5_copy_120 : decode cX5_copy 120 = .ok (.ifCond .lt 61, 3) := by decide +kernel
theorem dX5_copy_123 : decode cX5_copy 123 = .ok (.iload_n 3, 1) := by decide +kernel
theorem dX5_copy_124 : decode cX5_copy 124 = .ok (.ifCond .lt 57, 3) := by decide +kernel
theorem dX5_copy_127 : decode cX5_copy 127 = .ok (.iload 4, 2) := by decide +kernel
theorem dX5_copy_129 : decode cX5_copy 129 = .ok (.ifCond .lt 52, 3) := by decide +kernel
theorem dX5_copy_132 : decode cX5_copy 132 = .ok (.iload 5, 2) := by decide +kernel
theorem dX5_copy_134 : decode cX5_copy 134 = .ok (.aload_n 0, 1) := by decide +kernel
theorem dX5_copy_135 : decode cX5_copy 135 = .ok (.getfield 16, 3) := by decide +kernel
theorem dX5_copy_138 : decode cX5_copy 138 = .ok (.iload_n 1, 1) := by decide +kernel
theorem dX5_copy_139 : decode cX5_copy 139 = .ok (.iaload, 1) := by decide +kernel
theorem dX5_copy_140 : decode cX5_copy 140 = .ok (.if_icmp .gt 41, 3) := by decide +kernel
theorem dX5_copy_143 : decode cX5_copy 143 = .ok (.iload 5, 2) := by decide +kernel
theorem dX5_copy_145 : decode cX5_copy 145 = .ok (.aload_n 0, 1) := by decide +kernel
theorem dX5_copy_146 : decode cX5_copy 146 = .ok (.getfield 16, 3) := by decide +kernel
theorem dX5_copy_149 : decode cX5_copy 149 = .ok (.iload_n 2, 1) := by decide +kernel
theorem dX5_copy_150 : decode cX5_copy 150 = .ok (.iaload, 1) := by decide +kernel
theorem dX5_copy_151 : decode cX5_copy 151 = .ok (.if_icmp .gt 30, 3) := by decide +kernel
theorem dX5_copy_154 : decode cX5_copy 154 = .ok (.iload_n 3, 1) := by decide +kernel
theorem dX5_copy_155 : decode cX5_copy 155 = .ok (.aload_n 0, 1) := by decide +kernel
theorem dX5_copy_156 : decode cX5_copy 156 = .ok (.getfield 16, 3) := by decide +kernel
theorem dX5_copy_159 : decode cX5_copy 159 = .ok (.iload_n 1, 1) := by decide +kernel
theorem dX5_copy_160 : decode cX5_copy 160 = .ok (.iaload, 1) := by decide +kernel
theorem dX5_copy_161 : decode cX5_copy 161 = .ok (.iload 5, 2) := by decide +kernel
theorem dX5_copy_163 : decode cX5_copy 163 = .ok (.isub, 1) := by decide +kernel
theorem dX5_copy_164 : decode cX5_copy 164 = .ok (.if_icmp .gt 17, 3) := by decide +kernel
theorem dX5_copy_167 : decode cX5_copy 167 = .ok (.iload 4, 2) := by decide +kernel
theorem dX5_copy_169 : decode cX5_copy 169 = .ok (.aload_n 0, 1) := by decide +kernel
theorem dX5_copy_170 : decode cX5_copy 170 = .ok (.getfield 16, 3) := by decide +kernel
theorem dX5_copy_173 : decode cX5_copy 173 = .ok (.iload_n 2, 1) := by decide +kernel
theorem dX5_copy_174 : decode cX5_copy 174 = .ok (.iaload, 1) := by decide +kernel
theorem dX5_copy_175 : decode cX5_copy 175 = .ok (.iload 5, 2) := by decide +kernel
theorem dX5_copy_177 : decode cX5_copy 177 = .ok (.isub, 1) := by decide +kernel
theorem dX5_copy_178 : decode cX5_copy 178 = .ok (.if_icmp .le 10, 3) := by decide +kernel
theorem dX5_copy_181 : decode cX5_copy 181 = .ok (.aload_n 0, 1) := by decide +kernel
theorem dX5_copy_182 : decode cX5_copy 182 = .ok (.bipush (-2), 2) := by decide +kernel
theorem dX5_copy_184 : decode cX5_copy 184 = .ok (.invokevirtual 89, 3) := by decide +kernel
theorem dX5_copy_187 : decode cX5_copy 187 = .ok (.ireturn, 1) := by decide +kernel
theorem dX5_copy_188 : decode cX5_copy 188 = .ok (.iconst 0, 1) := by decide +kernel
theorem dX5_copy_189 : decode cX5_copy 189 = .ok (.istore 6, 2) := by decide +kernel
theorem dX5_copy_191 : decode cX5_copy 191 = .ok (.iload 6, 2) := by decide +kernel
theorem dX5_copy_193 : decode cX5_copy 193 = .ok (.iload 5, 2) := by decide +kernel
theorem dX5_copy_195 : decode cX5_copy 195 = .ok (.if_icmp .ge 27, 3) := by decide +kernel
theorem dX5_copy_198 : decode cX5_copy 198 = .ok (.aload_n 0, 1) := by decide +kernel
theorem dX5_copy_199 : decode cX5_copy 199 = .ok (.getfield 24, 3) := by decide +kernel
theorem dX5_copy_202 : decode cX5_copy 202 = .ok (.iload 6, 2) := by decide +kernel
theorem dX5_copy_204 : decode cX5_copy 204 = .ok (.aload_n 0, 1) := by decide +kernel
theorem dX5_copy_205 : decode cX5_copy 205 = .ok (.getfield 21, 3) := by decide +kernel
theorem dX5_copy_208 : decode cX5_copy 208 = .ok (.iload_n 1, 1) := by decide +kernel
theorem dX5_copy_209 : decode cX5_copy 209 = .ok (.aaload, 1) := by decide +kernel
theorem dX5_copy_210 : decode cX5_copy 210 = .ok (.iload_n 3, 1) := by decide +kernel
theorem dX5_copy_211 : decode cX5_copy 211 = .ok (.iload 6, 2) := by decide +kernel
theorem dX5_copy_213 : decode cX5_copy 213 = .ok (.iadd, 1) := by decide +kernel
theorem dX5_copy_214 : decode cX5_copy 214 = .ok (.laload, 1) := by decide +kernel
theorem dX5_copy_215 : decode cX5_copy 215 = .ok (.lastore, 1) := by decide +kernel
theorem dX5_copy_216 : decode cX5_copy 216 = .ok (.iinc 6 1, 3) := by decide +kernel
theorem dX5_copy_219 : decode cX5_copy 219 = .ok (.goto (-28), 3) := by decide +kernel
theorem dX5_copy_222 : decode cX5_copy 222 = .ok (.iconst 0, 1) := by decide +kernel
theorem dX5_copy_223 : decode cX5_copy 223 = .ok (.istore 6, 2) := by decide +kernel
theorem dX5_copy_225 : decode cX5_copy 225 = .ok (.iload 6, 2) := by decide +kernel
theorem dX5_copy_227 : decode cX5_copy 227 = .ok (.iload 5, 2) := by decide +kernel
theorem dX5_copy_229 : decode cX5_copy 229 = .ok (.if_icmp .ge 28, 3) := by decide +kernel
theorem dX5_copy_232 : decode cX5_copy 232 = .ok (.aload_n 0, 1) := by decide +kernel
theorem dX5_copy_233 : decode cX5_copy 233 = .ok (.getfield 21, 3) := by decide +kernel
theorem dX5_copy_236 : decode cX5_copy 236 = .ok (.iload_n 2, 1) := by decide +kernel
theorem dX5_copy_237 : decode cX5_copy 237 = .ok (.aaload, 1) := by decide +kernel
theorem dX5_copy_238 : decode cX5_copy 238 = .ok (.iload 4, 2) := by decide +kernel
theorem dX5_copy_240 : decode cX5_copy 240 = .ok (.iload 6, 2) := by decide +kernel
theorem dX5_copy_242 : decode cX5_copy 242 = .ok (.iadd, 1) := by decide +kernel
theorem dX5_copy_243 : decode cX5_copy 243 = .ok (.aload_n 0, 1) := by decide +kernel
theorem dX5_copy_244 : decode cX5_copy 244 = .ok (.getfield 24, 3) := by decide +kernel
theorem dX5_copy_247 : decode cX5_copy 247 = .ok (.iload 6, 2) := by decide +kernel
theorem dX5_copy_249 : decode cX5_copy 249 = .ok (.laload, 1) := by decide +kernel
theorem dX5_copy_250 : decode cX5_copy 250 = .ok (.lastore, 1) := by decide +kernel
theorem dX5_copy_251 : decode cX5_copy 251 = .ok (.iinc 6 1, 3) := by decide +kernel
theorem dX5_copy_254 : decode cX5_copy 254 = .ok (.goto (-29), 3) := by decide +kernel
theorem dX5_copy_257 : decode cX5_copy 257 = .ok (.iload 5, 2) := by decide +kernel
theorem dX5_copy_259 : decode cX5_copy 259 = .ok (.ireturn, 1) := by decide +kernel
theorem dX5_element_0 : decode cX5_element 0 = .ok (.iload_n 1, 1) := by decide +kernel
theorem dX5_element_1 : decode cX5_element 1 = .ok (.i2l, 1) := by decide +kernel
theorem dX5_element_2 : decode cX5_element 2 = .ok (.lconst 0, 1) := by decide +kernel
theorem dX5_element_3 : decode cX5_element 3 = .ok (.ldc2_w 83, 3) := by decide +kernel
theorem dX5_element_6 : decode cX5_element 6 = .ok (.invokestatic 77, 3) := by decide +kernel
theorem dX5_element_9 : decode cX5_element 9 = .ok (.ifCond .eq 42, 3) := by decide +kernel
theorem dX5_element_12 : decode cX5_element 12 = .ok (.aload_n 0, 1) := by decide +kernel
theorem dX5_element_13 : decode cX5_element 13 = .ok (.getfield 7, 3) := by decide +kernel
theorem dX5_element_16 : decode cX5_element 16 = .ok (.iload_n 1, 1) := by decide +kernel
theorem dX5_element_17 : decode cX5_element 17 = .ok (.iaload, 1) := by decide +kernel
theorem dX5_element_18 : decode cX5_element 18 = .ok (.iconst 1, 1) := by decide +kernel
theorem dX5_element_19 : decode cX5_element 19 = .ok (.if_icmp .ne 32, 3) := by decide +kernel
theorem dX5_element_22 : decode cX5_element 22 = .ok (.iload_n 2, 1) := by decide +kernel
theorem dX5_element_23 : decode cX5_element 23 = .ok (.i2l, 1) := by decide +kernel
theorem dX5_element_24 : decode cX5_element 24 = .ok (.lconst 0, 1) := by decide +kernel
theorem dX5_element_25 : decode cX5_element 25 = .ok (.aload_n 0, 1) := by decide +kernel
theorem dX5_element_26 : decode cX5_element 26 = .ok (.getfield 16, 3) := by decide +kernel
theorem dX5_element_29 : decode cX5_element 29 = .ok (.iload_n 1, 1) := by decide +kernel
theorem dX5_element_30 : decode cX5_element 30 = .ok (.iaload, 1) := by decide +kernel
theorem dX5_element_31 : decode cX5_element 31 = .ok (.iconst 1, 1) := by decide +kernel
theorem dX5_element_32 : decode cX5_element 32 = .ok (.isub, 1) := by decide +kernel
theorem dX5_element_33 : decode cX5_element 33 = .ok (.i2l, 1) := by decide +kernel
theorem dX5_element_34 : decode cX5_element 34 = .ok (.invokestatic 77, 3) := by decide +kernel
theorem dX5_element_37 : decode cX5_element 37 = .ok (.ifCond .eq 14, 3) := by decide +kernel
theorem dX5_element_40 : decode cX5_element 40 = .ok (.aload_n 0, 1) := by decide +kernel
theorem dX5_element_41 : decode cX5_element 41 = .ok (.getfield 21, 3) := by decide +kernel
theorem dX5_element_44 : decode cX5_element 44 = .ok (.iload_n 1, 1) := by decide +kernel
theorem dX5_element_45 : decode cX5_element 45 = .ok (.aaload, 1) := by decide +kernel
theorem dX5_element_46 : decode cX5_element 46 = .ok (.iload_n 2, 1) := by decide +kernel
theorem dX5_element_47 : decode cX5_element 47 = .ok (.laload, 1) := by decide +kernel
theorem dX5_element_48 : decode cX5_element 48 = .ok (.goto 4, 3) := by decide +kernel
theorem dX5_element_51 : decode cX5_element 51 = .ok (.lconst 0, 1) := by decide +kernel
theorem dX5_element_52 : decode cX5_element 52 = .ok (.lreturn, 1) := by decide +kernel
theorem dX5_holds_0 : decode cX5_holds 0 = .ok (.iload_n 1, 1) := by decide +kernel
theorem dX5_holds_1 : decode cX5_holds 1 = .ok (.i2l, 1) := by decide +kernel
theorem dX5_holds_2 : decode cX5_holds 2 = .ok (.lconst 0, 1) := by decide +kernel
theorem dX5_holds_3 : decode cX5_holds 3 = .ok (.ldc2_w 83, 3) := by decide +kernel
theorem dX5_holds_6 : decode cX5_holds 6 = .ok (.invokestatic 77, 3) := by decide +kernel
theorem dX5_holds_9 : decode cX5_holds 9 = .ok (.ifCond .eq 12, 3) := by decide +kernel
theorem dX5_holds_12 : decode cX5_holds 12 = .ok (.aload_n 0, 1) := by decide +kernel
theorem dX5_holds_13 : decode cX5_holds 13 = .ok (.getfield 7, 3) := by decide +kernel
theorem dX5_holds_16 : decode cX5_holds 16 = .ok (.iload_n 1, 1) := by decide +kernel
theorem dX5_holds_17 : decode cX5_holds 17 = .ok (.iaload, 1) := by decide +kernel
theorem dX5_holds_18 : decode cX5_holds 18 = .ok (.ifCond .ne 5, 3) := by decide +kernel
theorem dX5_holds_21 : decode cX5_holds 21 = .ok (.iconst (-1), 1) := by decide +kernel
theorem dX5_holds_22 : decode cX5_holds 22 = .ok (.ireturn, 1) := by decide +kernel
theorem dX5_holds_23 : decode cX5_holds 23 = .ok (.aload_n 0, 1) := by decide +kernel
theorem dX5_holds_24 : decode cX5_holds 24 = .ok (.getfield 7, 3) := by decide +kernel
theorem dX5_holds_27 : decode cX5_holds 27 = .ok (.iload_n 1, 1) := by decide +kernel
theorem dX5_holds_28 : decode cX5_holds 28 = .ok (.iaload, 1) := by decide +kernel
theorem dX5_holds_29 : decode cX5_holds 29 = .ok (.iconst 1, 1) := by decide +kernel
theorem dX5_holds_30 : decode cX5_holds 30 = .ok (.if_icmp .ne 12, 3) := by decide +kernel
theorem dX5_holds_33 : decode cX5_holds 33 = .ok (.aload_n 0, 1) := by decide +kernel
theorem dX5_holds_34 : decode cX5_holds 34 = .ok (.getfield 13, 3) := by decide +kernel
theorem dX5_holds_37 : decode cX5_holds 37 = .ok (.iload_n 1, 1) := by decide +kernel
theorem dX5_holds_38 : decode cX5_holds 38 = .ok (.iaload, 1) := by decide +kernel
theorem dX5_holds_39 : decode cX5_holds 39 = .ok (.goto 12, 3) := by decide +kernel
theorem dX5_holds_42 : decode cX5_holds 42 = .ok (.bipush 10, 2) := by decide +kernel
theorem dX5_holds_44 : decode cX5_holds 44 = .ok (.aload_n 0, 1) := by decide +kernel
theorem dX5_holds_45 : decode cX5_holds 45 = .ok (.getfield 28, 3) := by decide +kernel
theorem dX5_holds_48 : decode cX5_holds 48 = .ok (.iload_n 1, 1) := by decide +kernel
theorem dX5_holds_49 : decode cX5_holds 49 = .ok (.iaload, 1) := by decide +kernel
theorem dX5_holds_50 : decode cX5_holds 50 = .ok (.iadd, 1) := by decide +kernel
theorem dX5_holds_51 : decode cX5_holds 51 = .ok (.ireturn, 1) := by decide +kernel
theorem dX5_show_0 : decode cX5_show 0 = .ok (.iload_n 1, 1) := by decide +kernel
theorem dX5_show_1 : decode cX5_show 1 = .ok (.i2l, 1) := by decide +kernel
theorem dX5_show_2 : decode cX5_show 2 = .ok (.lconst 0, 1) := by decide +kernel
theorem dX5_show_3 : decode cX5_show 3 = .ok (.ldc2_w 83, 3) := by decide +kernel
theorem dX5_show_6 : decode cX5_show 6 = .ok (.invokestatic 77, 3) := by decide +kernel
theorem dX5_show_9 : decode cX5_show 9 = .ok (.ifCond .eq 16, 3) := by decide +kernel
theorem dX5_show_12 : decode cX5_show 12 = .ok (.iload_n 2, 1) := by decide +kernel
theorem dX5_show_13 : decode cX5_show 13 = .ok (.iconst (-1), 1) := by decide +kernel
theorem dX5_show_14 : decode cX5_show 14 = .ok (.if_icmp .eq 18, 3) := by decide +kernel
theorem dX5_show_17 : decode cX5_show 17 = .ok (.aload_n 0, 1) := by decide +kernel
theorem dX5_show_18 : decode cX5_show 18 = .ok (.iload_n 2, 1) := by decide +kernel
theorem dX5_show_19 : decode cX5_show 19 = .ok (.invokevirtual 100, 3) := by decide +kernel
theorem dX5_show_22 : decode cX5_show 22 = .ok (.ifCond .ne 10, 3) := by decide +kernel
theorem dX5_show_25 : decode cX5_show 25 = .ok (.aload_n 0, 1) := by decide +kernel
theorem dX5_show_26 : decode cX5_show 26 = .ok (.bipush (-2), 2) := by decide +kernel
theorem dX5_show_28 : decode cX5_show 28 = .ok (.invokevirtual 89, 3) := by decide +kernel
theorem dX5_show_31 : decode cX5_show 31 = .ok (.ireturn, 1) := by decide +kernel
theorem dX5_show_32 : decode cX5_show 32 = .ok (.aload_n 0, 1) := by decide +kernel
theorem dX5_show_33 : decode cX5_show 33 = .ok (.getfield 7, 3) := by decide +kernel
theorem dX5_show_36 : decode cX5_show 36 = .ok (.iload_n 1, 1) := by decide +kernel
theorem dX5_show_37 : decode cX5_show 37 = .ok (.iload_n 2, 1) := by decide +kernel
theorem dX5_show_38 : decode cX5_show 38 = .ok (.iconst (-1), 1) := by decide +kernel
theorem dX5_show_39 : decode cX5_show 39 = .ok (.if_icmp .ne 7, 3) := by decide +kernel
theorem dX5_show_42 : decode cX5_show 42 = .ok (.iconst 0, 1) := by decide +kernel
theorem dX5_show_43 : decode cX5_show 43 = .ok (.goto 4, 3) := by decide +kernel
theorem dX5_show_46 : decode cX5_show 46 = .ok (.iconst 2, 1) := by decide +kernel
theorem dX5_show_47 : decode cX5_show 47 = .ok (.iastore, 1) := by decide +kernel
theorem dX5_show_48 : decode cX5_show 48 = .ok (.aload_n 0, 1) := by decide +kernel
theorem dX5_show_49 : decode cX5_show 49 = .ok (.getfield 28, 3) := by decide +kernel
theorem dX5_show_52 : decode cX5_show 52 = .ok (.iload_n 1, 1) := by decide +kernel
theorem dX5_show_53 : decode cX5_show 53 = .ok (.iload_n 2, 1) := by decide +kernel
theorem dX5_show_54 : decode cX5_show 54 = .ok (.iastore, 1) := by decide +kernel
theorem dX5_show_55 : decode cX5_show 55 = .ok (.iconst 1, 1) := by decide +kernel
theorem dX5_show_56 : decode cX5_show 56 = .ok (.ireturn, 1) := by decide +kernel
theorem dX5_isUnder_0 : decode cX5_isUnder 0 = .ok (.iload_n 1, 1) := by decide +kernel
theorem dX5_isUnder_1 : decode cX5_isUnder 1 = .ok (.ifCond .eq 28, 3) := by decide +kernel
theorem dX5_isUnder_4 : decode cX5_isUnder 4 = .ok (.iload_n 0, 1) := by decide +kernel
theorem dX5_isUnder_5 : decode cX5_isUnder 5 = .ok (.iload_n 1, 1) := by decide +kernel
theorem dX5_isUnder_6 : decode cX5_isUnder 6 = .ok (.if_icmp .eq 23, 3) := by decide +kernel
theorem dX5_isUnder_9 : decode cX5_isUnder 9 = .ok (.iload_n 1, 1) := by decide +kernel
theorem dX5_isUnder_10 : decode cX5_isUnder 10 = .ok (.iconst 1, 1) := by decide +kernel
theorem dX5_isUnder_11 : decode cX5_isUnder 11 = .ok (.if_icmp .ne 8, 3) := by decide +kernel
theorem dX5_isUnder_14 : decode cX5_isUnder 14 = .ok (.iload_n 0, 1) := by decide +kernel
theorem dX5_isUnder_15 : decode cX5_isUnder 15 = .ok (.iconst 3, 1) := by decide +kernel
theorem dX5_isUnder_16 : decode cX5_isUnder 16 = .ok (.if_icmp .eq 13, 3) := by decide +kernel
theorem dX5_isUnder_19 : decode cX5_isUnder 19 = .ok (.iload_n 1, 1) := by decide +kernel
theorem dX5_isUnder_20 : decode cX5_isUnder 20 = .ok (.iconst 4, 1) := by decide +kernel
theorem dX5_isUnder_21 : decode cX5_isUnder 21 = .ok (.if_icmp .ne 12, 3) := by decide +kernel
theorem dX5_isUnder_24 : decode cX5_isUnder 24 = .ok (.iload_n 0, 1) := by decide +kernel
theorem dX5_isUnder_25 : decode cX5_isUnder 25 = .ok (.iconst 5, 1) := by decide +kernel
theorem dX5_isUnder_26 : decode cX5_isUnder 26 = .ok (.if_icmp .ne 7, 3) := by decide +kernel
theorem dX5_isUnder_29 : decode cX5_isUnder 29 = .ok (.iconst 1, 1) := by decide +kernel
theorem dX5_isUnder_30 : decode cX5_isUnder 30 = .ok (.goto 4, 3) := by decide +kernel
theorem dX5_isUnder_33 : decode cX5_isUnder 33 = .ok (.iconst 0, 1) := by decide +kernel
theorem dX5_isUnder_34 : decode cX5_isUnder 34 = .ok (.ireturn, 1) := by decide +kernel
theorem dX5_says_0 : decode cX5_says 0 = .ok (.iload_n 1, 1) := by decide +kernel
theorem dX5_says_1 : decode cX5_says 1 = .ok (.i2l, 1) := by decide +kernel
theorem dX5_says_2 : decode cX5_says 2 = .ok (.lconst 0, 1) := by decide +kernel
theorem dX5_says_3 : decode cX5_says 3 = .ok (.ldc2_w 83, 3) := by decide +kernel
theorem dX5_says_6 : decode cX5_says 6 = .ok (.invokestatic 77, 3) := by decide +kernel
theorem dX5_says_9 : decode cX5_says 9 = .ok (.ifCond .eq 15, 3) := by decide +kernel
theorem dX5_says_12 : decode cX5_says 12 = .ok (.iload_n 2, 1) := by decide +kernel
theorem dX5_says_13 : decode cX5_says 13 = .ok (.i2l, 1) := by decide +kernel
theorem dX5_says_14 : decode cX5_says 14 = .ok (.lconst 0, 1) := by decide +kernel
theorem dX5_says_15 : decode cX5_says 15 = .ok (.ldc2_w 104, 3) := by decide +kernel
theorem dX5_says_18 : decode cX5_says 18 = .ok (.invokestatic 77, 3) := by decide +kernel
theorem dX5_says_21 : decode cX5_says 21 = .ok (.ifCond .ne 10, 3) := by decide +kernel
theorem dX5_says_24 : decode cX5_says 24 = .ok (.aload_n 0, 1) := by decide +kernel
theorem dX5_says_25 : decode cX5_says 25 = .ok (.bipush (-2), 2) := by decide +kernel
theorem dX5_says_27 : decode cX5_says 27 = .ok (.invokevirtual 89, 3) := by decide +kernel
theorem dX5_says_30 : decode cX5_says 30 = .ok (.ireturn, 1) := by decide +kernel
theorem dX5_says_31 : decode cX5_says 31 = .ok (.aload_n 0, 1) := by decide +kernel
theorem dX5_says_32 : decode cX5_says 32 = .ok (.getfield 7, 3) := by decide +kernel
theorem dX5_says_35 : decode cX5_says 35 = .ok (.iload_n 1, 1) := by decide +kernel
theorem dX5_says_36 : decode cX5_says 36 = .ok (.iaload, 1) := by decide +kernel
theorem dX5_says_37 : decode cX5_says 37 = .ok (.iconst 1, 1) := by decide +kernel
theorem dX5_says_38 : decode cX5_says 38 = .ok (.if_icmp .eq 31, 3) := by decide +kernel
theorem dX5_says_41 : decode cX5_says 41 = .ok (.aload_n 0, 1) := by decide +kernel
theorem dX5_says_42 : decode cX5_says 42 = .ok (.getfield 7, 3) := by decide +kernel
theorem dX5_says_45 : decode cX5_says 45 = .ok (.iload_n 1, 1) := by decide +kernel
theorem dX5_says_46 : decode cX5_says 46 = .ok (.iaload, 1) := by decide +kernel
theorem dX5_says_47 : decode cX5_says 47 = .ok (.iconst 2, 1) := by decide +kernel
theorem dX5_says_48 : decode cX5_says 48 = .ok (.if_icmp .ne 28, 3) := by decide +kernel
theorem dX5_says_51 : decode cX5_says 51 = .ok (.aload_n 0, 1) := by decide +kernel
theorem dX5_says_52 : decode cX5_says 52 = .ok (.getfield 37, 3) := by decide +kernel
theorem dX5_says_55 : decode cX5_says 55 = .ok (.aload_n 0, 1) := by decide +kernel
theorem dX5_says_56 : decode cX5_says 56 = .ok (.getfield 28, 3) := by decide +kernel
theorem dX5_says_59 : decode cX5_says 59 = .ok (.iload_n 1, 1) := by decide +kernel
theorem dX5_says_60 : decode cX5_says 60 = .ok (.iaload, 1) := by decide +kernel
theorem dX5_says_61 : decode cX5_says 61 = .ok (.iaload, 1) := by decide +kernel
theorem dX5_says_62 : decode cX5_says 62 = .ok (.iload_n 2, 1) := by decide +kernel
theorem dX5_says_63 : decode cX5_says 63 = .ok (.invokestatic 106, 3) := by decide +kernel
theorem dX5_says_66 : decode cX5_says 66 = .ok (.ifCond .ne 10, 3) := by decide +kernel
theorem dX5_says_69 : decode cX5_says 69 = .ok (.aload_n 0, 1) := by decide +kernel
theorem dX5_says_70 : decode cX5_says 70 = .ok (.bipush (-3), 2) := by decide +kernel
theorem dX5_says_72 : decode cX5_says 72 = .ok (.invokevirtual 89, 3) := by decide +kernel
theorem dX5_says_75 : decode cX5_says 75 = .ok (.ireturn, 1) := by decide +kernel
theorem dX5_says_76 : decode cX5_says 76 = .ok (.aload_n 0, 1) := by decide +kernel
theorem dX5_says_77 : decode cX5_says 77 = .ok (.getfield 7, 3) := by decide +kernel
theorem dX5_says_80 : decode cX5_says 80 = .ok (.iload_n 1, 1) := by decide +kernel
theorem dX5_says_81 : decode cX5_says 81 = .ok (.iaload, 1) := by decide +kernel
theorem dX5_says_82 : decode cX5_says 82 = .ok (.ifCond .ne 10, 3) := by decide +kernel
theorem dX5_says_85 : decode cX5_says 85 = .ok (.aload_n 0, 1) := by decide +kernel
theorem dX5_says_86 : decode cX5_says 86 = .ok (.bipush (-4), 2) := by decide +kernel
theorem dX5_says_88 : decode cX5_says 88 = .ok (.invokevirtual 89, 3) := by decide +kernel
theorem dX5_says_91 : decode cX5_says 91 = .ok (.ireturn, 1) := by decide +kernel
theorem dX5_says_92 : decode cX5_says 92 = .ok (.aload_n 0, 1) := by decide +kernel
theorem dX5_says_93 : decode cX5_says 93 = .ok (.getfield 28, 3) := by decide +kernel
theorem dX5_says_96 : decode cX5_says 96 = .ok (.iload_n 1, 1) := by decide +kernel
theorem dX5_says_97 : decode cX5_says 97 = .ok (.iaload, 1) := by decide +kernel
theorem dX5_says_98 : decode cX5_says 98 = .ok (.istore_n 3, 1) := by decide +kernel
theorem dX5_says_99 : decode cX5_says 99 = .ok (.iload_n 2, 1) := by decide +kernel
theorem dX5_says_100 : decode cX5_says 100 = .ok (.tableswitch 83 0 5 #[40, 83, 46, 83, 52, 69], 40) := by decide +kernel
theorem dX5_says_140 : decode cX5_says 140 = .ok (.aload_n 0, 1) := by decide +kernel
theorem dX5_says_141 : decode cX5_says 141 = .ok (.iload_n 3, 1) := by decide +kernel
theorem dX5_says_142 : decode cX5_says 142 = .ok (.invokevirtual 110, 3) := by decide +kernel
theorem dX5_says_145 : decode cX5_says 145 = .ok (.ireturn, 1) := by decide +kernel
theorem dX5_says_146 : decode cX5_says 146 = .ok (.aload_n 0, 1) := by decide +kernel
theorem dX5_says_147 : decode cX5_says 147 = .ok (.iload_n 3, 1) := by decide +kernel
theorem dX5_says_148 : decode cX5_says 148 = .ok (.invokevirtual 113, 3) := by decide +kernel
theorem dX5_says_151 : decode cX5_says 151 = .ok (.ireturn, 1) := by decide +kernel
theorem dX5_says_152 : decode cX5_says 152 = .ok (.aload_n 0, 1) := by decide +kernel
theorem dX5_says_153 : decode cX5_says 153 = .ok (.getfield 116, 3) := by decide +kernel
theorem dX5_says_156 : decode cX5_says 156 = .ok (.iload_n 3, 1) := by decide +kernel
theorem dX5_says_157 : decode cX5_says 157 = .ok (.invokestatic 119, 3) := by decide +kernel
theorem dX5_says_160 : decode cX5_says 160 = .ok (.ifCond .eq 7, 3) := by decide +kernel
theorem dX5_says_163 : decode cX5_says 163 = .ok (.iconst 1, 1) := by decide +kernel
theorem dX5_says_164 : decode cX5_says 164 = .ok (.goto 4, 3) := by decide +kernel
theorem dX5_says_167 : decode cX5_says 167 = .ok (.iconst 0, 1) := by decide +kernel
theorem dX5_says_168 : decode cX5_says 168 = .ok (.ireturn, 1) := by decide +kernel
theorem dX5_says_169 : decode cX5_says 169 = .ok (.aload_n 0, 1) := by decide +kernel
theorem dX5_says_170 : decode cX5_says 170 = .ok (.getfield 116, 3) := by decide +kernel
theorem dX5_says_173 : decode cX5_says 173 = .ok (.iconst 1, 1) := by decide +kernel
theorem dX5_says_174 : decode cX5_says 174 = .ok (.iload_n 3, 1) := by decide +kernel
theorem dX5_says_175 : decode cX5_says 175 = .ok (.ishl, 1) := by decide +kernel
theorem dX5_says_176 : decode cX5_says 176 = .ok (.iconst (-1), 1) := by decide +kernel
theorem dX5_says_177 : decode cX5_says 177 = .ok (.ixor, 1) := by decide +kernel
theorem dX5_says_178 : decode cX5_says 178 = .ok (.iand, 1) := by decide +kernel
theorem dX5_says_179 : decode cX5_says 179 = .ok (.invokestatic 122, 3) := by decide +kernel
theorem dX5_says_182 : decode cX5_says 182 = .ok (.ireturn, 1) := by decide +kernel
theorem dX5_says_183 : decode cX5_says 183 = .ok (.aload_n 0, 1) := by decide +kernel
theorem dX5_says_184 : decode cX5_says 184 = .ok (.iload_n 3, 1) := by decide +kernel
theorem dX5_says_185 : decode cX5_says 185 = .ok (.invokevirtual 125, 3) := by decide +kernel
theorem dX5_says_188 : decode cX5_says 188 = .ok (.ireturn, 1) := by decide +kernel
theorem dX5_addPlayer_0 : decode cX5_addPlayer 0 = .ok (.aload_n 0, 1) := by decide +kernel
theorem dX5_addPlayer_1 : decode cX5_addPlayer 1 = .ok (.getfield 37, 3) := by decide +kernel
theorem dX5_addPlayer_4 : decode cX5_addPlayer 4 = .ok (.aload_n 0, 1) := by decide +kernel
theorem dX5_addPlayer_5 : decode cX5_addPlayer 5 = .ok (.getfield 74, 3) := by decide +kernel
theorem dX5_addPlayer_8 : decode cX5_addPlayer 8 = .ok (.iload_n 1, 1) := by decide +kernel
theorem dX5_addPlayer_9 : decode cX5_addPlayer 9 = .ok (.iastore, 1) := by decide +kernel
theorem dX5_addPlayer_10 : decode cX5_addPlayer 10 = .ok (.aload_n 0, 1) := by decide +kernel
theorem dX5_addPlayer_11 : decode cX5_addPlayer 11 = .ok (.getfield 40, 3) := by decide +kernel
theorem dX5_addPlayer_14 : decode cX5_addPlayer 14 = .ok (.aload_n 0, 1) := by decide +kernel
theorem dX5_addPlayer_15 : decode cX5_addPlayer 15 = .ok (.getfield 74, 3) := by decide +kernel
theorem dX5_addPlayer_18 : decode cX5_addPlayer 18 = .ok (.iload_n 2, 1) := by decide +kernel
theorem dX5_addPlayer_19 : decode cX5_addPlayer 19 = .ok (.iastore, 1) := by decide +kernel
theorem dX5_addPlayer_20 : decode cX5_addPlayer 20 = .ok (.aload_n 0, 1) := by decide +kernel
theorem dX5_addPlayer_21 : decode cX5_addPlayer 21 = .ok (.getfield 43, 3) := by decide +kernel
theorem dX5_addPlayer_24 : decode cX5_addPlayer 24 = .ok (.aload_n 0, 1) := by decide +kernel
theorem dX5_addPlayer_25 : decode cX5_addPlayer 25 = .ok (.getfield 74, 3) := by decide +kernel
theorem dX5_addPlayer_28 : decode cX5_addPlayer 28 = .ok (.iload_n 3, 1) := by decide +kernel
theorem dX5_addPlayer_29 : decode cX5_addPlayer 29 = .ok (.iastore, 1) := by decide +kernel
theorem dX5_addPlayer_30 : decode cX5_addPlayer 30 = .ok (.aload_n 0, 1) := by decide +kernel
theorem dX5_addPlayer_31 : decode cX5_addPlayer 31 = .ok (.getfield 46, 3) := by decide +kernel
theorem dX5_addPlayer_34 : decode cX5_addPlayer 34 = .ok (.aload_n 0, 1) := by decide +kernel
theorem dX5_addPlayer_35 : decode cX5_addPlayer 35 = .ok (.getfield 74, 3) := by decide +kernel
theorem dX5_addPlayer_38 : decode cX5_addPlayer 38 = .ok (.iconst 0, 1) := by decide +kernel
theorem dX5_addPlayer_39 : decode cX5_addPlayer 39 = .ok (.iastore, 1) := by decide +kernel
theorem dX5_addPlayer_40 : decode cX5_addPlayer 40 = .ok (.aload_n 0, 1) := by decide +kernel
theorem dX5_addPlayer_41 : decode cX5_addPlayer 41 = .ok (.dup, 1) := by decide +kernel
theorem dX5_addPlayer_42 : decode cX5_addPlayer 42 = .ok (.getfield 74, 3) := by decide +kernel
theorem dX5_addPlayer_45 : decode cX5_addPlayer 45 = .ok (.iconst 1, 1) := by decide +kernel
theorem dX5_addPlayer_46 : decode cX5_addPlayer 46 = .ok (.iadd, 1) := by decide +kernel
theorem dX5_addPlayer_47 : decode cX5_addPlayer 47 = .ok (.putfield 74, 3) := by decide +kernel
theorem dX5_addPlayer_50 : decode cX5_addPlayer 50 = .ok (.return_, 1) := by decide +kernel
theorem dX5_player_0 : decode cX5_player 0 = .ok (.iload_n 1, 1) := by decide +kernel
theorem dX5_player_1 : decode cX5_player 1 = .ok (.i2l, 1) := by decide +kernel
theorem dX5_player_2 : decode cX5_player 2 = .ok (.lconst 0, 1) := by decide +kernel
theorem dX5_player_3 : decode cX5_player 3 = .ok (.ldc2_w 104, 3) := by decide +kernel
theorem dX5_player_6 : decode cX5_player 6 = .ok (.invokestatic 77, 3) := by decide +kernel
theorem dX5_player_9 : decode cX5_player 9 = .ok (.ifCond .eq 27, 3) := by decide +kernel
theorem dX5_player_12 : decode cX5_player 12 = .ok (.iload_n 2, 1) := by decide +kernel
theorem dX5_player_13 : decode cX5_player 13 = .ok (.i2l, 1) := by decide +kernel
theorem dX5_player_14 : decode cX5_player 14 = .ok (.lconst 1, 1) := by decide +kernel
theorem dX5_player_15 : decode cX5_player 15 = .ok (.ldc2_w 128, 3) := by decide +kernel
theorem dX5_player_18 : decode cX5_player 18 = .ok (.invokestatic 77, 3) := by decide +kernel
theorem dX5_player_21 : decode cX5_player 21 = .ok (.ifCond .eq 15, 3) := by decide +kernel
theorem dX5_player_24 : decode cX5_player 24 = .ok (.iload_n 3, 1) := by decide +kernel
theorem dX5_player_25 : decode cX5_player 25 = .ok (.i2l, 1) := by decide +kernel
theorem dX5_player_26 : decode cX5_player 26 = .ok (.lconst 0, 1) := by decide +kernel
theorem dX5_player_27 : decode cX5_player 27 = .ok (.ldc2_w 130, 3) := by decide +kernel
theorem dX5_player_30 : decode cX5_player 30 = .ok (.invokestatic 77, 3) := by decide +kernel
theorem dX5_player_33 : decode cX5_player 33 = .ok (.ifCond .ne 10, 3) := by decide +kernel
theorem dX5_player_36 : decode cX5_player 36 = .ok (.aload_n 0, 1) := by decide +kernel
theorem dX5_player_37 : decode cX5_player 37 = .ok (.bipush (-2), 2) := by decide +kernel
theorem dX5_player_39 : decode cX5_player 39 = .ok (.invokevirtual 89, 3) := by decide +kernel
theorem dX5_player_42 : decode cX5_player 42 = .ok (.ireturn, 1) := by decide +kernel
theorem dX5_player_43 : decode cX5_player 43 = .ok (.aload_n 0, 1) := by decide +kernel
theorem dX5_player_44 : decode cX5_player 44 = .ok (.getfield 74, 3) := by decide +kernel
theorem dX5_player_47 : decode cX5_player 47 = .ok (.bipush 10, 2) := by decide +kernel
theorem dX5_player_49 : decode cX5_player 49 = .ok (.if_icmp .ne 10, 3) := by decide +kernel
theorem dX5_player_52 : decode cX5_player 52 = .ok (.aload_n 0, 1) := by decide +kernel
theorem dX5_player_53 : decode cX5_player 53 = .ok (.bipush (-6), 2) := by decide +kernel
theorem dX5_player_55 : decode cX5_player 55 = .ok (.invokevirtual 89, 3) := by decide +kernel
theorem dX5_player_58 : decode cX5_player 58 = .ok (.ireturn, 1) := by decide +kernel
theorem dX5_player_59 : decode cX5_player 59 = .ok (.aload_n 0, 1) := by decide +kernel
theorem dX5_player_60 : decode cX5_player 60 = .ok (.iload_n 1, 1) := by decide +kernel
theorem dX5_player_61 : decode cX5_player 61 = .ok (.iload_n 2, 1) := by decide +kernel
theorem dX5_player_62 : decode cX5_player 62 = .ok (.iload_n 3, 1) := by decide +kernel
theorem dX5_player_63 : decode cX5_player 63 = .ok (.invokevirtual 132, 3) := by decide +kernel
theorem dX5_player_66 : decode cX5_player 66 = .ok (.aload_n 0, 1) := by decide +kernel
theorem dX5_player_67 : decode cX5_player 67 = .ok (.getfield 74, 3) := by decide +kernel
theorem dX5_player_70 : decode cX5_player 70 = .ok (.iconst 1, 1) := by decide +kernel
theorem dX5_player_71 : decode cX5_player 71 = .ok (.isub, 1) := by decide +kernel
theorem dX5_player_72 : decode cX5_player 72 = .ok (.ireturn, 1) := by decide +kernel
theorem dX5_tell_0 : decode cX5_tell 0 = .ok (.aload_n 0, 1) := by decide +kernel
theorem dX5_tell_1 : decode cX5_tell 1 = .ok (.iload_n 1, 1) := by decide +kernel
theorem dX5_tell_2 : decode cX5_tell 2 = .ok (.invokevirtual 100, 3) := by decide +kernel
theorem dX5_tell_5 : decode cX5_tell 5 = .ok (.ifCond .eq 36, 3) := by decide +kernel
theorem dX5_tell_8 : decode cX5_tell 8 = .ok (.iload_n 2, 1) := by decide +kernel
theorem dX5_tell_9 : decode cX5_tell 9 = .ok (.ifCond .ne 15, 3) := by decide +kernel
theorem dX5_tell_12 : decode cX5_tell 12 = .ok (.iload_n 3, 1) := by decide +kernel
theorem dX5_tell_13 : decode cX5_tell 13 = .ok (.i2l, 1) := by decide +kernel
theorem dX5_tell_14 : decode cX5_tell 14 = .ok (.lconst 1, 1) := by decide +kernel
theorem dX5_tell_15 : decode cX5_tell 15 = .ok (.ldc2_w 128, 3) := by decide +kernel
theorem dX5_tell_18 : decode cX5_tell 18 = .ok (.invokestatic 77, 3) := by decide +kernel
theorem dX5_tell_21 : decode cX5_tell 21 = .ok (.ifCond .ne 27, 3) := by decide +kernel
theorem dX5_tell_24 : decode cX5_tell 24 = .ok (.iload_n 2, 1) := by decide +kernel
theorem dX5_tell_25 : decode cX5_tell 25 = .ok (.iconst 1, 1) := by decide +kernel
theorem dX5_tell_26 : decode cX5_tell 26 = .ok (.if_icmp .ne 15, 3) := by decide +kernel
theorem dX5_tell_29 : decode cX5_tell 29 = .ok (.iload_n 3, 1) := by decide +kernel
theorem dX5_tell_30 : decode cX5_tell 30 = .ok (.i2l, 1) := by decide +kernel
theorem dX5_tell_31 : decode cX5_tell 31 = .ok (.lconst 0, 1) := by decide +kernel
theorem dX5_tell_32 : decode cX5_tell 32 = .ok (.ldc2_w 136, 3) := by decide +kernel
theorem dX5_tell_35 : decode cX5_tell 35 = .ok (.invokestatic 77, 3) := by decide +kernel
theorem dX5_tell_38 : decode cX5_tell 38 = .ok (.ifCond .ne 10, 3) := by decide +kernel
theorem dX5_tell_41 : decode cX5_tell 41 = .ok (.aload_n 0, 1) := by decide +kernel
theorem dX5_tell_42 : decode cX5_tell 42 = .ok (.bipush (-2), 2) := by decide +kernel
theorem dX5_tell_44 : decode cX5_tell 44 = .ok (.invokevirtual 89, 3) := by decide +kernel
theorem dX5_tell_47 : decode cX5_tell 47 = .ok (.ireturn, 1) := by decide +kernel
theorem dX5_tell_48 : decode cX5_tell 48 = .ok (.iload_n 2, 1) := by decide +kernel
theorem dX5_tell_49 : decode cX5_tell 49 = .ok (.ifCond .ne 10, 3) := by decide +kernel
theorem dX5_tell_52 : decode cX5_tell 52 = .ok (.aload_n 0, 1) := by decide +kernel
theorem dX5_tell_53 : decode cX5_tell 53 = .ok (.getfield 40, 3) := by decide +kernel
theorem dX5_tell_56 : decode cX5_tell 56 = .ok (.goto 7, 3) := by decide +kernel
theorem dX5_tell_59 : decode cX5_tell 59 = .ok (.aload_n 0, 1) := by decide +kernel
theorem dX5_tell_60 : decode cX5_tell 60 = .ok (.getfield 46, 3) := by decide +kernel
theorem dX5_tell_63 : decode cX5_tell 63 = .ok (.astore 4, 2) := by decide +kernel
theorem dX5_tell_65 : decode cX5_tell 65 = .ok (.aload 4, 2) := by decide +kernel
theorem dX5_tell_67 : decode cX5_tell 67 = .ok (.iload_n 1, 1) := by decide +kernel
theorem dX5_tell_68 : decode cX5_tell 68 = .ok (.iaload, 1) := by decide +kernel
theorem dX5_tell_69 : decode cX5_tell 69 = .ok (.istore 5, 2) := by decide +kernel
theorem dX5_tell_71 : decode cX5_tell 71 = .ok (.aload 4, 2) := by decide +kernel
theorem dX5_tell_73 : decode cX5_tell 73 = .ok (.iload_n 1, 1) := by decide +kernel
theorem dX5_tell_74 : decode cX5_tell 74 = .ok (.iload_n 3, 1) := by decide +kernel
theorem dX5_tell_75 : decode cX5_tell 75 = .ok (.iastore, 1) := by decide +kernel
theorem dX5_tell_76 : decode cX5_tell 76 = .ok (.iload 5, 2) := by decide +kernel
theorem dX5_tell_78 : decode cX5_tell 78 = .ok (.ireturn, 1) := by decide +kernel
theorem dX5_line_0 : decode cX5_line 0 = .ok (.iload_n 1, 1) := by decide +kernel
theorem dX5_line_1 : decode cX5_line 1 = .ok (.i2l, 1) := by decide +kernel
theorem dX5_line_2 : decode cX5_line 2 = .ok (.invokestatic 138, 3) := by decide +kernel
theorem dX5_line_5 : decode cX5_line 5 = .ok (.ifCond .eq 24, 3) := by decide +kernel
theorem dX5_line_8 : decode cX5_line 8 = .ok (.iload_n 2, 1) := by decide +kernel
theorem dX5_line_9 : decode cX5_line 9 = .ok (.ifCond .lt 20, 3) := by decide +kernel
theorem dX5_line_12 : decode cX5_line 12 = .ok (.iload_n 2, 1) := by decide +kernel
theorem dX5_line_13 : decode cX5_line 13 = .ok (.aload_n 0, 1) := by decide +kernel
theorem dX5_line_14 : decode cX5_line 14 = .ok (.getfield 74, 3) := by decide +kernel
theorem dX5_line_17 : decode cX5_line 17 = .ok (.ishr, 1) := by decide +kernel
theorem dX5_line_18 : decode cX5_line 18 = .ok (.ifCond .ne 11, 3) := by decide +kernel
theorem dX5_line_21 : decode cX5_line 21 = .ok (.iload_n 2, 1) := by decide +kernel
theorem dX5_line_22 : decode cX5_line 22 = .ok (.invokestatic 122, 3) := by decide +kernel
theorem dX5_line_25 : decode cX5_line 25 = .ok (.iconst 5, 1) := by decide +kernel
theorem dX5_line_26 : decode cX5_line 26 = .ok (.if_icmp .le 10, 3) := by decide +kernel
theorem dX5_line_29 : decode cX5_line 29 = .ok (.aload_n 0, 1) := by decide +kernel
theorem dX5_line_30 : decode cX5_line 30 = .ok (.bipush (-2), 2) := by decide +kernel
theorem dX5_line_32 : decode cX5_line 32 = .ok (.invokevirtual 89, 3) := by decide +kernel
theorem dX5_line_35 : decode cX5_line 35 = .ok (.ireturn, 1) := by decide +kernel
theorem dX5_line_36 : decode cX5_line 36 = .ok (.aload_n 0, 1) := by decide +kernel
theorem dX5_line_37 : decode cX5_line 37 = .ok (.getfield 49, 3) := by decide +kernel
theorem dX5_line_40 : decode cX5_line 40 = .ok (.iload_n 1, 1) := by decide +kernel
theorem dX5_line_41 : decode cX5_line 41 = .ok (.iaload, 1) := by decide +kernel
theorem dX5_line_42 : decode cX5_line 42 = .ok (.istore_n 3, 1) := by decide +kernel
theorem dX5_line_43 : decode cX5_line 43 = .ok (.aload_n 0, 1) := by decide +kernel
theorem dX5_line_44 : decode cX5_line 44 = .ok (.getfield 49, 3) := by decide +kernel
theorem dX5_line_47 : decode cX5_line 47 = .ok (.iload_n 1, 1) := by decide +kernel
theorem dX5_line_48 : decode cX5_line 48 = .ok (.iload_n 2, 1) := by decide +kernel
theorem dX5_line_49 : decode cX5_line 49 = .ok (.iastore, 1) := by decide +kernel
theorem dX5_line_50 : decode cX5_line 50 = .ok (.iload_n 3, 1) := by decide +kernel
theorem dX5_line_51 : decode cX5_line 51 = .ok (.ireturn, 1) := by decide +kernel
theorem dX5_mayAsk_0 : decode cX5_mayAsk 0 = .ok (.iload_n 0, 1) := by decide +kernel
theorem dX5_mayAsk_1 : decode cX5_mayAsk 1 = .ok (.tableswitch 49 0 3 #[31, 41, 49, 41], 31) := by decide +kernel
theorem dX5_mayAsk_32 : decode cX5_mayAsk 32 = .ok (.iload_n 1, 1) := by decide +kernel
theorem dX5_mayAsk_33 : decode cX5_mayAsk 33 = .ok (.i2l, 1) := by decide +kernel
theorem dX5_mayAsk_34 : decode cX5_mayAsk 34 = .ok (.lconst 0, 1) := by decide +kernel
theorem dX5_mayAsk_35 : decode cX5_mayAsk 35 = .ok (.ldc2_w 142, 3) := by decide +kernel
theorem dX5_mayAsk_38 : decode cX5_mayAsk 38 = .ok (.invokestatic 77, 3) := by decide +kernel
theorem dX5_mayAsk_41 : decode cX5_mayAsk 41 = .ok (.ireturn, 1) := by decide +kernel
theorem dX5_mayAsk_42 : decode cX5_mayAsk 42 = .ok (.iload_n 1, 1) := by decide +kernel
theorem dX5_mayAsk_43 : decode cX5_mayAsk 43 = .ok (.i2l, 1) := by decide +kernel
theorem dX5_mayAsk_44 : decode cX5_mayAsk 44 = .ok (.lconst 0, 1) := by decide +kernel
theorem dX5_mayAsk_45 : decode cX5_mayAsk 45 = .ok (.lconst 1, 1) := by decide +kernel
theorem dX5_mayAsk_46 : decode cX5_mayAsk 46 = .ok (.invokestatic 77, 3) := by decide +kernel
theorem dX5_mayAsk_49 : decode cX5_mayAsk 49 = .ok (.ireturn, 1) := by decide +kernel
theorem dX5_mayAsk_50 : decode cX5_mayAsk 50 = .ok (.iload_n 0, 1) := by decide +kernel
theorem dX5_mayAsk_51 : decode cX5_mayAsk 51 = .ok (.iconst 2, 1) := by decide +kernel
theorem dX5_mayAsk_52 : decode cX5_mayAsk 52 = .ok (.if_icmp .ne 19, 3) := by decide +kernel
theorem dX5_mayAsk_55 : decode cX5_mayAsk 55 = .ok (.iload_n 1, 1) := by decide +kernel
theorem dX5_mayAsk_56 : decode cX5_mayAsk 56 = .ok (.i2l, 1) := by decide +kernel
theorem dX5_mayAsk_57 : decode cX5_mayAsk 57 = .ok (.lconst 1, 1) := by decide +kernel
theorem dX5_mayAsk_58 : decode cX5_mayAsk 58 = .ok (.ldc2_w 144, 3) := by decide +kernel
theorem dX5_mayAsk_61 : decode cX5_mayAsk 61 = .ok (.invokestatic 77, 3) := by decide +kernel
theorem dX5_mayAsk_64 : decode cX5_mayAsk 64 = .ok (.ifCond .eq 7, 3) := by decide +kernel
theorem dX5_mayAsk_67 : decode cX5_mayAsk 67 = .ok (.iconst 1, 1) := by decide +kernel
theorem dX5_mayAsk_68 : decode cX5_mayAsk 68 = .ok (.goto 4, 3) := by decide +kernel
theorem dX5_mayAsk_71 : decode cX5_mayAsk 71 = .ok (.iconst 0, 1) := by decide +kernel
theorem dX5_mayAsk_72 : decode cX5_mayAsk 72 = .ok (.ireturn, 1) := by decide +kernel
theorem dX5_becomes_0 : decode cX5_becomes 0 = .ok (.aload_n 0, 1) := by decide +kernel
theorem dX5_becomes_1 : decode cX5_becomes 1 = .ok (.iload_n 1, 1) := by decide +kernel
theorem dX5_becomes_2 : decode cX5_becomes 2 = .ok (.ifCond .ne 7, 3) := by decide +kernel
theorem dX5_becomes_5 : decode cX5_becomes 5 = .ok (.iload_n 2, 1) := by decide +kernel
theorem dX5_becomes_6 : decode cX5_becomes 6 = .ok (.goto 7, 3) := by decide +kernel
theorem dX5_becomes_9 : decode cX5_becomes 9 = .ok (.aload_n 0, 1) := by decide +kernel
theorem dX5_becomes_10 : decode cX5_becomes 10 = .ok (.getfield 52, 3) := by decide +kernel
theorem dX5_becomes_13 : decode cX5_becomes 13 = .ok (.putfield 52, 3) := by decide +kernel
theorem dX5_becomes_16 : decode cX5_becomes 16 = .ok (.aload_n 0, 1) := by decide +kernel
theorem dX5_becomes_17 : decode cX5_becomes 17 = .ok (.iload_n 1, 1) := by decide +kernel
theorem dX5_becomes_18 : decode cX5_becomes 18 = .ok (.iconst 1, 1) := by decide +kernel
theorem dX5_becomes_19 : decode cX5_becomes 19 = .ok (.if_icmp .ne 7, 3) := by decide +kernel
theorem dX5_becomes_22 : decode cX5_becomes 22 = .ok (.iload_n 2, 1) := by decide +kernel
theorem dX5_becomes_23 : decode cX5_becomes 23 = .ok (.goto 7, 3) := by decide +kernel
theorem dX5_becomes_26 : decode cX5_becomes 26 = .ok (.aload_n 0, 1) := by decide +kernel
theorem dX5_becomes_27 : decode cX5_becomes 27 = .ok (.getfield 146, 3) := by decide +kernel
theorem dX5_becomes_30 : decode cX5_becomes 30 = .ok (.putfield 146, 3) := by decide +kernel
theorem dX5_becomes_33 : decode cX5_becomes 33 = .ok (.aload_n 0, 1) := by decide +kernel
theorem dX5_becomes_34 : decode cX5_becomes 34 = .ok (.iload_n 1, 1) := by decide +kernel
theorem dX5_becomes_35 : decode cX5_becomes 35 = .ok (.iconst 2, 1) := by decide +kernel
theorem dX5_becomes_36 : decode cX5_becomes 36 = .ok (.if_icmp .ne 7, 3) := by decide +kernel
theorem dX5_becomes_39 : decode cX5_becomes 39 = .ok (.iload_n 2, 1) := by decide +kernel
theorem dX5_becomes_40 : decode cX5_becomes 40 = .ok (.goto 7, 3) := by decide +kernel
theorem dX5_becomes_43 : decode cX5_becomes 43 = .ok (.aload_n 0, 1) := by decide +kernel
theorem dX5_becomes_44 : decode cX5_becomes 44 = .ok (.getfield 56, 3) := by decide +kernel
theorem dX5_becomes_47 : decode cX5_becomes 47 = .ok (.putfield 56, 3) := by decide +kernel
theorem dX5_becomes_50 : decode cX5_becomes 50 = .ok (.aload_n 0, 1) := by decide +kernel
theorem dX5_becomes_51 : decode cX5_becomes 51 = .ok (.iload_n 1, 1) := by decide +kernel
theorem dX5_becomes_52 : decode cX5_becomes 52 = .ok (.iconst 3, 1) := by decide +kernel
theorem dX5_becomes_53 : decode cX5_becomes 53 = .ok (.if_icmp .ne 7, 3) := by decide +kernel
theorem dX5_becomes_56 : decode cX5_becomes 56 = .ok (.iload_n 2, 1) := by decide +kernel
theorem dX5_becomes_57 : decode cX5_becomes 57 = .ok (.goto 7, 3) := by decide +kernel
theorem dX5_becomes_60 : decode cX5_becomes 60 = .ok (.aload_n 0, 1) := by decide +kernel
theorem dX5_becomes_61 : decode cX5_becomes 61 = .ok (.getfield 59, 3) := by decide +kernel
theorem dX5_becomes_64 : decode cX5_becomes 64 = .ok (.putfield 59, 3) := by decide +kernel
theorem dX5_becomes_67 : decode cX5_becomes 67 = .ok (.return_, 1) := by decide +kernel
theorem dX5_ask_0 : decode cX5_ask 0 = .ok (.iload_n 1, 1) := by decide +kernel
theorem dX5_ask_1 : decode cX5_ask 1 = .ok (.iload_n 2, 1) := by decide +kernel
theorem dX5_ask_2 : decode cX5_ask 2 = .ok (.invokestatic 149, 3) := by decide +kernel
theorem dX5_ask_5 : decode cX5_ask 5 = .ok (.ifCond .ne 10, 3) := by decide +kernel
theorem dX5_ask_8 : decode cX5_ask 8 = .ok (.aload_n 0, 1) := by decide +kernel
theorem dX5_ask_9 : decode cX5_ask 9 = .ok (.bipush (-2), 2) := by decide +kernel
theorem dX5_ask_11 : decode cX5_ask 11 = .ok (.invokevirtual 89, 3) := by decide +kernel
theorem dX5_ask_14 : decode cX5_ask 14 = .ok (.ireturn, 1) := by decide +kernel
theorem dX5_ask_15 : decode cX5_ask 15 = .ok (.iload_n 1, 1) := by decide +kernel
theorem dX5_ask_16 : decode cX5_ask 16 = .ok (.ifCond .ne 10, 3) := by decide +kernel
theorem dX5_ask_19 : decode cX5_ask 19 = .ok (.aload_n 0, 1) := by decide +kernel
theorem dX5_ask_20 : decode cX5_ask 20 = .ok (.getfield 52, 3) := by decide +kernel
theorem dX5_ask_23 : decode cX5_ask 23 = .ok (.goto 31, 3) := by decide +kernel
theorem dX5_ask_26 : decode cX5_ask 26 = .ok (.iload_n 1, 1) := by decide +kernel
theorem dX5_ask_27 : decode cX5_ask 27 = .ok (.iconst 1, 1) := by decide +kernel
theorem dX5_ask_28 : decode cX5_ask 28 = .ok (.if_icmp .ne 10, 3) := by decide +kernel
theorem dX5_ask_31 : decode cX5_ask 31 = .ok (.aload_n 0, 1) := by decide +kernel
theorem dX5_ask_32 : decode cX5_ask 32 = .ok (.getfield 146, 3) := by decide +kernel
theorem dX5_ask_35 : decode cX5_ask 35 = .ok (.goto 19, 3) := by decide +kernel
theorem dX5_ask_38 : decode cX5_ask 38 = .ok (.iload_n 1, 1) := by decide +kernel
theorem dX5_ask_39 : decode cX5_ask 39 = .ok (.iconst 2, 1) := by decide +kernel
theorem dX5_ask_40 : decode cX5_ask 40 = .ok (.if_icmp .ne 10, 3) := by decide +kernel
theorem dX5_ask_43 : decode cX5_ask 43 = .ok (.aload_n 0, 1) := by decide +kernel
theorem dX5_ask_44 : decode cX5_ask 44 = .ok (.getfield 56, 3) := by decide +kernel
theorem dX5_ask_47 : decode cX5_ask 47 = .ok (.goto 7, 3) := by decide +kernel
theorem dX5_ask_50 : decode cX5_ask 50 = .ok (.aload_n 0, 1) := by decide +kernel
theorem dX5_ask_51 : decode cX5_ask 51 = .ok (.getfield 59, 3) := by decide +kernel
theorem dX5_ask_54 : decode cX5_ask 54 = .ok (.istore_n 3, 1) := by decide +kernel
theorem dX5_ask_55 : decode cX5_ask 55 = .ok (.aload_n 0, 1) := by decide +kernel
theorem dX5_ask_56 : decode cX5_ask 56 = .ok (.iload_n 1, 1) := by decide +kernel
theorem dX5_ask_57 : decode cX5_ask 57 = .ok (.iload_n 2, 1) := by decide +kernel
theorem dX5_ask_58 : decode cX5_ask 58 = .ok (.invokevirtual 152, 3) := by decide +kernel
theorem dX5_ask_61 : decode cX5_ask 61 = .ok (.iload_n 3, 1) := by decide +kernel
theorem dX5_ask_62 : decode cX5_ask 62 = .ok (.ireturn, 1) := by decide +kernel
theorem dX5_feed_0 : decode cX5_feed 0 = .ok (.iload_n 1, 1) := by decide +kernel
theorem dX5_feed_1 : decode cX5_feed 1 = .ok (.i2l, 1) := by decide +kernel
theorem dX5_feed_2 : decode cX5_feed 2 = .ok (.lconst 0, 1) := by decide +kernel
theorem dX5_feed_3 : decode cX5_feed 3 = .ok (.ldc2_w 156, 3) := by decide +kernel
theorem dX5_feed_6 : decode cX5_feed 6 = .ok (.invokestatic 77, 3) := by decide +kernel
theorem dX5_feed_9 : decode cX5_feed 9 = .ok (.ifCond .ne 10, 3) := by decide +kernel
theorem dX5_feed_12 : decode cX5_feed 12 = .ok (.aload_n 0, 1) := by decide +kernel
theorem dX5_feed_13 : decode cX5_feed 13 = .ok (.bipush (-2), 2) := by decide +kernel
theorem dX5_feed_15 : decode cX5_feed 15 = .ok (.invokevirtual 89, 3) := by decide +kernel
theorem dX5_feed_18 : decode cX5_feed 18 = .ok (.ireturn, 1) := by decide +kernel
theorem dX5_feed_19 : decode cX5_feed 19 = .ok (.aload_n 0, 1) := by decide +kernel
theorem dX5_feed_20 : decode cX5_feed 20 = .ok (.getfield 158, 3) := by decide +kernel
theorem dX5_feed_23 : decode cX5_feed 23 = .ok (.sipush 250, 3) := by decide +kernel
theorem dX5_feed_26 : decode cX5_feed 26 = .ok (.if_icmp .ne 10, 3) := by decide +kernel
theorem dX5_feed_29 : decode cX5_feed 29 = .ok (.aload_n 0, 1) := by decide +kernel
theorem dX5_feed_30 : decode cX5_feed 30 = .ok (.bipush (-6), 2) := by decide +kernel
theorem dX5_feed_32 : decode cX5_feed 32 = .ok (.invokevirtual 89, 3) := by decide +kernel
theorem dX5_feed_35 : decode cX5_feed 35 = .ok (.ireturn, 1) := by decide +kernel
theorem dX5_feed_36 : decode cX5_feed 36 = .ok (.aload_n 0, 1) := by decide +kernel
theorem dX5_feed_37 : decode cX5_feed 37 = .ok (.getfield 31, 3) := by decide +kernel
theorem dX5_feed_40 : decode cX5_feed 40 = .ok (.aload_n 0, 1) := by decide +kernel
theorem dX5_feed_41 : decode cX5_feed 41 = .ok (.dup, 1) := by decide +kernel
theorem dX5_feed_42 : decode cX5_feed 42 = .ok (.getfield 158, 3) := by decide +kernel
theorem dX5_feed_45 : decode cX5_feed 45 = .ok (.dup_x1, 1) := by decide +kernel
theorem dX5_feed_46 : decode cX5_feed 46 = .ok (.iconst 1, 1) := by decide +kernel
theorem dX5_feed_47 : decode cX5_feed 47 = .ok (.iadd, 1) := by decide +kernel
theorem dX5_feed_48 : decode cX5_feed 48 = .ok (.putfield 158, 3) := by decide +kernel
theorem dX5_feed_51 : decode cX5_feed 51 = .ok (.iload_n 1, 1) := by decide +kernel
theorem dX5_feed_52 : decode cX5_feed 52 = .ok (.iastore, 1) := by decide +kernel
theorem dX5_feed_53 : decode cX5_feed 53 = .ok (.aload_n 0, 1) := by decide +kernel
theorem dX5_feed_54 : decode cX5_feed 54 = .ok (.getfield 158, 3) := by decide +kernel
theorem dX5_feed_57 : decode cX5_feed 57 = .ok (.ireturn, 1) := by decide +kernel
theorem dX5_wipe_0 : decode cX5_wipe 0 = .ok (.aload_n 0, 1) := by decide +kernel
theorem dX5_wipe_1 : decode cX5_wipe 1 = .ok (.getfield 158, 3) := by decide +kernel
theorem dX5_wipe_4 : decode cX5_wipe 4 = .ok (.istore_n 1, 1) := by decide +kernel
theorem dX5_wipe_5 : decode cX5_wipe 5 = .ok (.aload_n 0, 1) := by decide +kernel
theorem dX5_wipe_6 : decode cX5_wipe 6 = .ok (.iconst 0, 1) := by decide +kernel
theorem dX5_wipe_7 : decode cX5_wipe 7 = .ok (.putfield 158, 3) := by decide +kernel
theorem dX5_wipe_10 : decode cX5_wipe 10 = .ok (.iload_n 1, 1) := by decide +kernel
theorem dX5_wipe_11 : decode cX5_wipe 11 = .ok (.ireturn, 1) := by decide +kernel
theorem dX5_isLetter_0 : decode cX5_isLetter 0 = .ok (.iload_n 0, 1) := by decide +kernel
theorem dX5_isLetter_1 : decode cX5_isLetter 1 = .ok (.bipush 97, 2) := by decide +kernel
theorem dX5_isLetter_3 : decode cX5_isLetter 3 = .ok (.if_icmp .lt 13, 3) := by decide +kernel
theorem dX5_isLetter_6 : decode cX5_isLetter 6 = .ok (.iload_n 0, 1) := by decide +kernel
theorem dX5_isLetter_7 : decode cX5_isLetter 7 = .ok (.bipush 122, 2) := by decide +kernel
theorem dX5_isLetter_9 : decode cX5_isLetter 9 = .ok (.if_icmp .gt 7, 3) := by decide +kernel
theorem dX5_isLetter_12 : decode cX5_isLetter 12 = .ok (.iconst 1, 1) := by decide +kernel
theorem dX5_isLetter_13 : decode cX5_isLetter 13 = .ok (.goto 4, 3) := by decide +kernel
theorem dX5_isLetter_16 : decode cX5_isLetter 16 = .ok (.iconst 0, 1) := by decide +kernel
theorem dX5_isLetter_17 : decode cX5_isLetter 17 = .ok (.ireturn, 1) := by decide +kernel
theorem dX5_isDigit_0 : decode cX5_isDigit 0 = .ok (.iload_n 0, 1) := by decide +kernel
theorem dX5_isDigit_1 : decode cX5_isDigit 1 = .ok (.bipush 48, 2) := by decide +kernel
theorem dX5_isDigit_3 : decode cX5_isDigit 3 = .ok (.if_icmp .lt 13, 3) := by decide +kernel
theorem dX5_isDigit_6 : decode cX5_isDigit 6 = .ok (.iload_n 0, 1) := by decide +kernel
theorem dX5_isDigit_7 : decode cX5_isDigit 7 = .ok (.bipush 57, 2) := by decide +kernel
theorem dX5_isDigit_9 : decode cX5_isDigit 9 = .ok (.if_icmp .gt 7, 3) := by decide +kernel
theorem dX5_isDigit_12 : decode cX5_isDigit 12 = .ok (.iconst 1, 1) := by decide +kernel
theorem dX5_isDigit_13 : decode cX5_isDigit 13 = .ok (.goto 4, 3) := by decide +kernel
theorem dX5_isDigit_16 : decode cX5_isDigit 16 = .ok (.iconst 0, 1) := by decide +kernel
theorem dX5_isDigit_17 : decode cX5_isDigit 17 = .ok (.ireturn, 1) := by decide +kernel
theorem dX5_look_0 : decode cX5_look 0 = .ok (.aload_n 0, 1) := by decide +kernel
theorem dX5_look_1 : decode cX5_look 1 = .ok (.getfield 161, 3) := by decide +kernel
theorem dX5_look_4 : decode cX5_look 4 = .ok (.aload_n 0, 1) := by decide +kernel
theorem dX5_look_5 : decode cX5_look 5 = .ok (.getfield 158, 3) := by decide +kernel
theorem dX5_look_8 : decode cX5_look 8 = .ok (.if_icmp .ge 30, 3) := by decide +kernel
theorem dX5_look_11 : decode cX5_look 11 = .ok (.aload_n 0, 1) := by decide +kernel
theorem dX5_look_12 : decode cX5_look 12 = .ok (.getfield 31, 3) := by decide +kernel
theorem dX5_look_15 : decode cX5_look 15 = .ok (.aload_n 0, 1) := by decide +kernel
theorem dX5_look_16 : decode cX5_look 16 = .ok (.getfield 161, 3) := by decide +kernel
theorem dX5_look_19 : decode cX5_look 19 = .ok (.iaload, 1) := by decide +kernel
theorem dX5_look_20 : decode cX5_look 20 = .ok (.bipush 32, 2) := by decide +kernel
theorem dX5_look_22 : decode cX5_look 22 = .ok (.if_icmp .ne 16, 3) := by decide +kernel
theorem dX5_look_25 : decode cX5_look 25 = .ok (.aload_n 0, 1) := by decide +kernel
theorem dX5_look_26 : decode cX5_look 26 = .ok (.dup, 1) := by decide +kernel
theorem dX5_look_27 : decode cX5_look 27 = .ok (.getfield 161, 3) := by decide +kernel
theorem dX5_look_30 : decode cX5_look 30 = .ok (.iconst 1, 1) := by decide +kernel
theorem dX5_look_31 : decode cX5_look 31 = .ok (.iadd, 1) := by decide +kernel
theorem dX5_look_32 : decode cX5_look 32 = .ok (.putfield 161, 3) := by decide +kernel
theorem dX5_look_35 : decode cX5_look 35 = .ok (.goto (-35), 3) := by decide +kernel
theorem dX5_look_38 : decode cX5_look 38 = .ok (.aload_n 0, 1) := by decide +kernel
theorem dX5_look_39 : decode cX5_look 39 = .ok (.aload_n 0, 1) := by decide +kernel
theorem dX5_look_40 : decode cX5_look 40 = .ok (.getfield 161, 3) := by decide +kernel
theorem dX5_look_43 : decode cX5_look 43 = .ok (.putfield 164, 3) := by decide +kernel
theorem dX5_look_46 : decode cX5_look 46 = .ok (.aload_n 0, 1) := by decide +kernel
theorem dX5_look_47 : decode cX5_look 47 = .ok (.iconst 0, 1) := by decide +kernel
theorem dX5_look_48 : decode cX5_look 48 = .ok (.putfield 167, 3) := by decide +kernel
theorem dX5_look_51 : decode cX5_look 51 = .ok (.aload_n 0, 1) := by decide +kernel
theorem dX5_look_52 : decode cX5_look 52 = .ok (.getfield 161, 3) := by decide +kernel
theorem dX5_look_55 : decode cX5_look 55 = .ok (.aload_n 0, 1) := by decide +kernel
theorem dX5_look_56 : decode cX5_look 56 = .ok (.getfield 158, 3) := by decide +kernel
theorem dX5_look_59 : decode cX5_look 59 = .ok (.if_icmp .ne 11, 3) := by decide +kernel
theorem dX5_look_62 : decode cX5_look 62 = .ok (.aload_n 0, 1) := by decide +kernel
theorem dX5_look_63 : decode cX5_look 63 = .ok (.iconst 0, 1) := by decide +kernel
theorem dX5_look_64 : decode cX5_look 64 = .ok (.putfield 170, 3) := by decide +kernel
theorem dX5_look_67 : decode cX5_look 67 = .ok (.goto 197, 3) := by decide +kernel
theorem dX5_look_70 : decode cX5_look 70 = .ok (.aload_n 0, 1) := by decide +kernel
theorem dX5_look_71 : decode cX5_look 71 = .ok (.getfield 31, 3) := by decide +kernel
theorem dX5_look_74 : decode cX5_look 74 = .ok (.aload_n 0, 1) := by decide +kernel
theorem dX5_look_75 : decode cX5_look 75 = .ok (.getfield 161, 3) := by decide +kernel
theorem dX5_look_78 : decode cX5_look 78 = .ok (.iaload, 1) := by decide +kernel
theorem dX5_look_79 : decode cX5_look 79 = .ok (.invokestatic 173, 3) := by decide +kernel
theorem dX5_look_82 : decode cX5_look 82 = .ok (.ifCond .eq 47, 3) := by decide +kernel
theorem dX5_look_85 : decode cX5_look 85 = .ok (.aload_n 0, 1) := by decide +kernel
theorem dX5_look_86 : decode cX5_look 86 = .ok (.iconst 1, 1) := by decide +kernel
theorem dX5_look_87 : decode cX5_look 87 = .ok (.putfield 170, 3) := by decide +kernel
theorem dX5_look_90 : decode cX5_look 90 = .ok (.aload_n 0, 1) := by decide +kernel
theorem dX5_look_91 : decode cX5_look 91 = .ok (.getfield 161, 3) := by decide +kernel
theorem dX5_look_94 : decode cX5_look 94 = .ok (.aload_n 0, 1) := by decide +kernel
theorem dX5_look_95 : decode cX5_look 95 = .ok (.getfield 158, 3) := by decide +kernel
theorem dX5_look_98 : decode cX5_look 98 = .ok (.if_icmp .ge 166, 3) := by decide +kernel
theorem dX5_look_101 : decode cX5_look 101 = .ok (.aload_n 0, 1) := by decide +kernel
theorem dX5_look_102 : decode cX5_look 102 = .ok (.getfield 31, 3) := by decide +kernel
theorem dX5_look_105 : decode cX5_look 105 = .ok (.aload_n 0, 1) := by decide +kernel
theorem dX5_look_106 : decode cX5_look 106 = .ok (.getfield 161, 3) := by decide +kernel
theorem dX5_look_109 : decode cX5_look 109 = .ok (.iaload, 1) := by decide +kernel
theorem dX5_look_110 : decode cX5_look 110 = .ok (.invokestatic 173, 3) := by decide +kernel
theorem dX5_look_113 : decode cX5_look 113 = .ok (.ifCond .eq 151, 3) := by decide +kernel
theorem dX5_look_116 : decode cX5_look 116 = .ok (.aload_n 0, 1) := by decide +kernel
theorem dX5_look_117 : decode cX5_look 117 = .ok (.dup, 1) := by decide +kernel
theorem dX5_look_118 : decode cX5_look 118 = .ok (.getfield 161, 3) := by decide +kernel
theorem dX5_look_121 : decode cX5_look 121 = .ok (.iconst 1, 1) := by decide +kernel
theorem dX5_look_122 : decode cX5_look 122 = .ok (.iadd, 1) := by decide +kernel
theorem dX5_look_123 : decode cX5_look 123 = .ok (.putfield 161, 3) := by decide +kernel
theorem dX5_look_126 : decode cX5_look 126 = .ok (.goto (-36), 3) := by decide +kernel
theorem dX5_look_129 : decode cX5_look 129 = .ok (.aload_n 0, 1) := by decide +kernel
theorem dX5_look_130 : decode cX5_look 130 = .ok (.getfield 31, 3) := by decide +kernel
theorem dX5_look_133 : decode cX5_look 133 = .ok (.aload_n 0, 1) := by decide +kernel
theorem dX5_look_134 : decode cX5_look 134 = .ok (.getfield 161, 3) := by decide +kernel
theorem dX5_look_137 : decode cX5_look 137 = .ok (.iaload, 1) := by decide +kernel
theorem dX5_look_138 : decode cX5_look 138 = .ok (.invokestatic 176, 3) := by decide +kernel
theorem dX5_look_141 : decode cX5_look 141 = .ok (.ifCond .eq 90, 3) := by decide +kernel
theorem dX5_look_144 : decode cX5_look 144 = .ok (.aload_n 0, 1) := by decide +kernel
theorem dX5_look_145 : decode cX5_look 145 = .ok (.iconst 2, 1) := by decide +kernel
theorem dX5_look_146 : decode cX5_look 146 = .ok (.putfield 170, 3) := by decide +kernel
theorem dX5_look_149 : decode cX5_look 149 = .ok (.aload_n 0, 1) := by decide +kernel
theorem dX5_look_150 : decode cX5_look 150 = .ok (.getfield 161, 3) := by decide +kernel
theorem dX5_look_153 : decode cX5_look 153 = .ok (.aload_n 0, 1) := by decide +kernel
theorem dX5_look_154 : decode cX5_look 154 = .ok (.getfield 158, 3) := by decide +kernel
theorem dX5_look_157 : decode cX5_look 157 = .ok (.if_icmp .ge 107, 3) := by decide +kernel
theorem dX5_look_160 : decode cX5_look 160 = .ok (.aload_n 0, 1) := by decide +kernel
theorem dX5_look_161 : decode cX5_look 161 = .ok (.getfield 31, 3) := by decide +kernel
theorem dX5_look_164 : decode cX5_look 164 = .ok (.aload_n 0, 1) := by decide +kernel
theorem dX5_look_165 : decode cX5_look 165 = .ok (.getfield 161, 3) := by decide +kernel
theorem dX5_look_168 : decode cX5_look 168 = .ok (.iaload, 1) := by decide +kernel
theorem dX5_look_169 : decode cX5_look 169 = .ok (.invokestatic 176, 3) := by decide +kernel
theorem dX5_look_172 : decode cX5_look 172 = .ok (.ifCond .eq 92, 3) := by decide +kernel
theorem dX5_look_175 : decode cX5_look 175 = .ok (.aload_n 0, 1) := by decide +kernel
theorem dX5_look_176 : decode cX5_look 176 = .ok (.aload_n 0, 1) := by decide +kernel
theorem dX5_look_177 : decode cX5_look 177 = .ok (.getfield 161, 3) := by decide +kernel
theorem dX5_look_180 : decode cX5_look 180 = .ok (.aload_n 0, 1) := by decide +kernel
theorem dX5_look_181 : decode cX5_look 181 = .ok (.getfield 164, 3) := by decide +kernel
theorem dX5_look_184 : decode cX5_look 184 = .ok (.isub, 1) := by decide +kernel
theorem dX5_look_185 : decode cX5_look 185 = .ok (.iconst 3, 1) := by decide +kernel
theorem dX5_look_186 : decode cX5_look 186 = .ok (.if_icmp .ge 26, 3) := by decide +kernel
theorem dX5_look_189 : decode cX5_look 189 = .ok (.aload_n 0, 1) := by decide +kernel
theorem dX5_look_190 : decode cX5_look 190 = .ok (.getfield 167, 3) := by decide +kernel
theorem dX5_look_193 : decode cX5_look 193 = .ok (.bipush 10, 2) := by decide +kernel
theorem dX5_look_195 : decode cX5_look 195 = .ok (.imul, 1) := by decide +kernel
theorem dX5_look_196 : decode cX5_look 196 = .ok (.aload_n 0, 1) := by decide +kernel
theorem dX5_look_197 : decode cX5_look 197 = .ok (.getfield 31, 3) := by decide +kernel
theorem dX5_look_200 : decode cX5_look 200 = .ok (.aload_n 0, 1) := by decide +kernel
theorem dX5_look_201 : decode cX5_look 201 = .ok (.getfield 161, 3) := by decide +kernel
theorem dX5_look_204 : decode cX5_look 204 = .ok (.iaload, 1) := by decide +kernel
theorem dX5_look_205 : decode cX5_look 205 = .ok (.iadd, 1) := by decide +kernel
theorem dX5_look_206 : decode cX5_look 206 = .ok (.bipush 48, 2) := by decide +kernel
theorem dX5_look_208 : decode cX5_look 208 = .ok (.isub, 1) := by decide +kernel
theorem dX5_look_209 : decode cX5_look 209 = .ok (.goto 6, 3) := by decide +kernel
theorem dX5_look_212 : decode cX5_look 212 = .ok (.sipush 10000, 3) := by decide +kernel
theorem dX5_look_215 : decode cX5_look 215 = .ok (.putfield 167, 3) := by decide +kernel
theorem dX5_look_218 : decode cX5_look 218 = .ok (.aload_n 0, 1) := by decide +kernel
theorem dX5_look_219 : decode cX5_look 219 = .ok (.dup, 1) := by decide +kernel
theorem dX5_look_220 : decode cX5_look 220 = .ok (.getfield 161, 3) := by decide +kernel
theorem dX5_look_223 : decode cX5_look 223 = .ok (.iconst 1, 1) := by decide +kernel
theorem dX5_look_224 : decode cX5_look 224 = .ok (.iadd, 1) := by decide +kernel
theorem dX5_look_225 : decode cX5_look 225 = .ok (.putfield 161, 3) := by decide +kernel
theorem dX5_look_228 : decode cX5_look 228 = .ok (.goto (-79), 3) := by decide +kernel
theorem dX5_look_231 : decode cX5_look 231 = .ok (.aload_n 0, 1) := by decide +kernel
theorem dX5_look_232 : decode cX5_look 232 = .ok (.aload_n 0, 1) := by decide +kernel
theorem dX5_look_233 : decode cX5_look 233 = .ok (.getfield 31, 3) := by decide +kernel
theorem dX5_look_236 : decode cX5_look 236 = .ok (.aload_n 0, 1) := by decide +kernel
theorem dX5_look_237 : decode cX5_look 237 = .ok (.getfield 161, 3) := by decide +kernel
theorem dX5_look_240 : decode cX5_look 240 = .ok (.iaload, 1) := by decide +kernel
theorem dX5_look_241 : decode cX5_look 241 = .ok (.bipush 59, 2) := by decide +kernel
theorem dX5_look_243 : decode cX5_look 243 = .ok (.if_icmp .ne 7, 3) := by decide +kernel
theorem dX5_look_246 : decode cX5_look 246 = .ok (.iconst 3, 1) := by decide +kernel
theorem dX5_look_247 : decode cX5_look 247 = .ok (.goto 4, 3) := by decide +kernel
theorem dX5_look_250 : decode cX5_look 250 = .ok (.iconst 4, 1) := by decide +kernel
theorem dX5_look_251 : decode cX5_look 251 = .ok (.putfield 170, 3) := by decide +kernel
theorem dX5_look_254 : decode cX5_look 254 = .ok (.aload_n 0, 1) := by decide +kernel
theorem dX5_look_255 : decode cX5_look 255 = .ok (.dup, 1) := by decide +kernel
theorem dX5_look_256 : decode cX5_look 256 = .ok (.getfield 161, 3) := by decide +kernel
theorem dX5_look_259 : decode cX5_look 259 = .ok (.iconst 1, 1) := by decide +kernel
theorem dX5_look_260 : decode cX5_look 260 = .ok (.iadd, 1) := by decide +kernel
theorem dX5_look_261 : decode cX5_look 261 = .ok (.putfield 161, 3) := by decide +kernel
theorem dX5_look_264 : decode cX5_look 264 = .ok (.return_, 1) := by decide +kernel
theorem dX5_wrong_0 : decode cX5_wrong 0 = .ok (.aload_n 0, 1) := by decide +kernel
theorem dX5_wrong_1 : decode cX5_wrong 1 = .ok (.aload_n 0, 1) := by decide +kernel
theorem dX5_wrong_2 : decode cX5_wrong 2 = .ok (.getfield 164, 3) := by decide +kernel
theorem dX5_wrong_5 : decode cX5_wrong 5 = .ok (.putfield 179, 3) := by decide +kernel
theorem dX5_wrong_8 : decode cX5_wrong 8 = .ok (.iconst 0, 1) := by decide +kernel
theorem dX5_wrong_9 : decode cX5_wrong 9 = .ok (.ireturn, 1) := by decide +kernel
theorem dX5_isWord_0 : decode cX5_isWord 0 = .ok (.aload_n 0, 1) := by decide +kernel
theorem dX5_isWord_1 : decode cX5_isWord 1 = .ok (.getfield 170, 3) := by decide +kernel
theorem dX5_isWord_4 : decode cX5_isWord 4 = .ok (.iconst 1, 1) := by decide +kernel
theorem dX5_isWord_5 : decode cX5_isWord 5 = .ok (.if_icmp .ne 19, 3) := by decide +kernel
theorem dX5_isWord_8 : decode cX5_isWord 8 = .ok (.aload_n 0, 1) := by decide +kernel
theorem dX5_isWord_9 : decode cX5_isWord 9 = .ok (.getfield 161, 3) := by decide +kernel
theorem dX5_isWord_12 : decode cX5_isWord 12 = .ok (.aload_n 0, 1) := by decide +kernel
theorem dX5_isWord_13 : decode cX5_isWord 13 = .ok (.getfield 164, 3) := by decide +kernel
theorem dX5_isWord_16 : decode cX5_isWord 16 = .ok (.isub, 1) := by decide +kernel
theorem dX5_isWord_17 : decode cX5_isWord 17 = .ok (.aload_n 1, 1) := by decide +kernel
theorem dX5_isWord_18 : decode cX5_isWord 18 = .ok (.invokevirtual 182, 3) := by decide +kernel
theorem dX5_isWord_21 : decode cX5_isWord 21 = .ok (.if_icmp .eq 5, 3) := by decide +kernel
theorem dX5_isWord_24 : decode cX5_isWord 24 = .ok (.iconst 0, 1) := by decide +kernel
theorem dX5_isWord_25 : decode cX5_isWord 25 = .ok (.ireturn, 1) := by decide +kernel
theorem dX5_isWord_26 : decode cX5_isWord 26 = .ok (.iconst 0, 1) := by decide +kernel
theorem dX5_isWord_27 : decode cX5_isWord 27 = .ok (.istore_n 2, 1) := by decide +kernel
theorem dX5_isWord_28 : decode cX5_isWord 28 = .ok (.iload_n 2, 1) := by decide +kernel
theorem dX5_isWord_29 : decode cX5_isWord 29 = .ok (.aload_n 1, 1) := by decide +kernel
theorem dX5_isWord_30 : decode cX5_isWord 30 = .ok (.invokevirtual 182, 3) := by decide +kernel
theorem dX5_isWord_33 : decode cX5_isWord 33 = .ok (.if_icmp .ge 30, 3) := by decide +kernel
theorem dX5_isWord_36 : decode cX5_isWord 36 = .ok (.aload_n 0, 1) := by decide +kernel
theorem dX5_isWord_37 : decode cX5_isWord 37 = .ok (.getfield 31, 3) := by decide +kernel
theorem dX5_isWord_40 : decode cX5_isWord 40 = .ok (.aload_n 0, 1) := by decide +kernel
theorem dX5_isWord_41 : decode cX5_isWord 41 = .ok (.getfield 164, 3) := by decide +kernel
theorem dX5_isWord_44 : decode cX5_isWord 44 = .ok (.iload_n 2, 1) := by decide +kernel
theorem dX5_isWord_45 : decode cX5_isWord 45 = .ok (.iadd, 1) := by decide +kernel
theorem dX5_isWord_46 : decode cX5_isWord 46 = .ok (.iaload, 1) := by decide +kernel
theorem dX5_isWord_47 : decode cX5_isWord 47 = .ok (.aload_n 1, 1) := by decide +kernel
theorem dX5_isWord_48 : decode cX5_isWord 48 = .ok (.iload_n 2, 1) := by decide +kernel
theorem dX5_isWord_49 : decode cX5_isWord 49 = .ok (.invokevirtual 188, 3) := by decide +kernel
theorem dX5_isWord_52 : decode cX5_isWord 52 = .ok (.if_icmp .eq 5, 3) := by decide +kernel
theorem dX5_isWord_55 : decode cX5_isWord 55 = .ok (.iconst 0, 1) := by decide +kernel
theorem dX5_isWord_56 : decode cX5_isWord 56 = .ok (.ireturn, 1) := by decide +kernel
theorem dX5_isWord_57 : decode cX5_isWord 57 = .ok (.iinc 2 1, 3) := by decide +kernel
theorem dX5_isWord_60 : decode cX5_isWord 60 = .ok (.goto (-32), 3) := by decide +kernel
theorem dX5_isWord_63 : decode cX5_isWord 63 = .ok (.iconst 1, 1) := by decide +kernel
theorem dX5_isWord_64 : decode cX5_isWord 64 = .ok (.ireturn, 1) := by decide +kernel
theorem dX5_number_0 : decode cX5_number 0 = .ok (.aload_n 0, 1) := by decide +kernel
theorem dX5_number_1 : decode cX5_number 1 = .ok (.getfield 170, 3) := by decide +kernel
theorem dX5_number_4 : decode cX5_number 4 = .ok (.iconst 2, 1) := by decide +kernel
theorem dX5_number_5 : decode cX5_number 5 = .ok (.if_icmp .ne 18, 3) := by decide +kernel
theorem dX5_number_8 : decode cX5_number 8 = .ok (.aload_n 0, 1) := by decide +kernel
theorem dX5_number_9 : decode cX5_number 9 = .ok (.getfield 167, 3) := by decide +kernel
theorem dX5_number_12 : decode cX5_number 12 = .ok (.i2l, 1) := by decide +kernel
theorem dX5_number_13 : decode cX5_number 13 = .ok (.iload_n 2, 1) := by decide +kernel
theorem dX5_number_14 : decode cX5_number 14 = .ok (.i2l, 1) := by decide +kernel
theorem dX5_number_15 : decode cX5_number 15 = .ok (.iload_n 3, 1) := by decide +kernel
theorem dX5_number_16 : decode cX5_number 16 = .ok (.i2l, 1) := by decide +kernel
theorem dX5_number_17 : decode cX5_number 17 = .ok (.invokestatic 77, 3) := by decide +kernel
theorem dX5_number_20 : decode cX5_number 20 = .ok (.ifCond .ne 8, 3) := by decide +kernel
theorem dX5_number_23 : decode cX5_number 23 = .ok (.aload_n 0, 1) := by decide +kernel
theorem dX5_number_24 : decode cX5_number 24 = .ok (.invokevirtual 192, 3) := by decide +kernel
theorem dX5_number_27 : decode cX5_number 27 = .ok (.ireturn, 1) := by decide +kernel
theorem dX5_number_28 : decode cX5_number 28 = .ok (.aload_n 0, 1) := by decide +kernel
theorem dX5_number_29 : decode cX5_number 29 = .ok (.getfield 65, 3) := by decide +kernel
theorem dX5_number_32 : decode cX5_number 32 = .ok (.iload_n 1, 1) := by decide +kernel
theorem dX5_number_33 : decode cX5_number 33 = .ok (.aload_n 0, 1) := by decide +kernel
theorem dX5_number_34 : decode cX5_number 34 = .ok (.getfield 167, 3) := by decide +kernel
theorem dX5_number_37 : decode cX5_number 37 = .ok (.iastore, 1) := by decide +kernel
theorem dX5_number_38 : decode cX5_number 38 = .ok (.aload_n 0, 1) := by decide +kernel
theorem dX5_number_39 : decode cX5_number 39 = .ok (.invokevirtual 196, 3) := by decide +kernel
theorem dX5_number_42 : decode cX5_number 42 = .ok (.iconst 1, 1) := by decide +kernel
theorem dX5_number_43 : decode cX5_number 43 = .ok (.ireturn, 1) := by decide +kernel
theorem dX5_tells_0 : decode cX5_tells 0 = .ok (.aload_n 0, 1) := by decide +kernel
theorem dX5_tells_1 : decode cX5_tells 1 = .ok (.invokevirtual 196, 3) := by decide +kernel
theorem dX5_tells_4 : decode cX5_tells 4 = .ok (.aload_n 0, 1) := by decide +kernel
theorem dX5_tells_5 : decode cX5_tells 5 = .ok (.iconst 0, 1) := by decide +kernel
theorem dX5_tells_6 : decode cX5_tells 6 = .ok (.iload_n 1, 1) := by decide +kernel
theorem dX5_tells_7 : decode cX5_tells 7 = .ok (.iload_n 2, 1) := by decide +kernel
theorem dX5_tells_8 : decode cX5_tells 8 = .ok (.invokevirtual 199, 3) := by decide +kernel
theorem dX5_tells_11 : decode cX5_tells 11 = .ok (.ireturn, 1) := by decide +kernel
theorem dX5_asks_0 : decode cX5_asks 0 = .ok (.aload_n 0, 1) := by decide +kernel
theorem dX5_asks_1 : decode cX5_asks 1 = .ok (.invokevirtual 196, 3) := by decide +kernel
theorem dX5_asks_4 : decode cX5_asks 4 = .ok (.aload_n 0, 1) := by decide +kernel
theorem dX5_asks_5 : decode cX5_asks 5 = .ok (.getfield 170, 3) := by decide +kernel
theorem dX5_asks_8 : decode cX5_asks 8 = .ok (.iconst 2, 1) := by decide +kernel
theorem dX5_asks_9 : decode cX5_asks 9 = .ok (.if_icmp .ne 14, 3) := by decide +kernel
theorem dX5_asks_12 : decode cX5_asks 12 = .ok (.iload_n 1, 1) := by decide +kernel
theorem dX5_asks_13 : decode cX5_asks 13 = .ok (.aload_n 0, 1) := by decide +kernel
theorem dX5_asks_14 : decode cX5_asks 14 = .ok (.getfield 167, 3) := by decide +kernel
theorem dX5_asks_17 : decode cX5_asks 17 = .ok (.invokestatic 149, 3) := by decide +kernel
theorem dX5_asks_20 : decode cX5_asks 20 = .ok (.ifCond .ne 8, 3) := by decide +kernel
theorem dX5_asks_23 : decode cX5_asks 23 = .ok (.aload_n 0, 1) := by decide +kernel
theorem dX5_asks_24 : decode cX5_asks 24 = .ok (.invokevirtual 192, 3) := by decide +kernel
theorem dX5_asks_27 : decode cX5_asks 27 = .ok (.ireturn, 1) := by decide +kernel
theorem dX5_asks_28 : decode cX5_asks 28 = .ok (.aload_n 0, 1) := by decide +kernel
theorem dX5_asks_29 : decode cX5_asks 29 = .ok (.iload_n 1, 1) := by decide +kernel
theorem dX5_asks_30 : decode cX5_asks 30 = .ok (.aload_n 0, 1) := by decide +kernel
theorem dX5_asks_31 : decode cX5_asks 31 = .ok (.getfield 167, 3) := by decide +kernel
theorem dX5_asks_34 : decode cX5_asks 34 = .ok (.invokevirtual 152, 3) := by decide +kernel
theorem dX5_asks_37 : decode cX5_asks 37 = .ok (.aload_n 0, 1) := by decide +kernel
theorem dX5_asks_38 : decode cX5_asks 38 = .ok (.invokevirtual 196, 3) := by decide +kernel
theorem dX5_asks_41 : decode cX5_asks 41 = .ok (.iconst 1, 1) := by decide +kernel
theorem dX5_asks_42 : decode cX5_asks 42 = .ok (.ireturn, 1) := by decide +kernel
theorem dX5_lineTold_0 : decode cX5_lineTold 0 = .ok (.aload_n 0, 1) := by decide +kernel
theorem dX5_lineTold_1 : decode cX5_lineTold 1 = .ok (.iconst 0, 1) := by decide +kernel
theorem dX5_lineTold_2 : decode cX5_lineTold 2 = .ok (.iconst 3, 1) := by decide +kernel
theorem dX5_lineTold_3 : decode cX5_lineTold 3 = .ok (.invokevirtual 203, 3) := by decide +kernel
theorem dX5_lineTold_6 : decode cX5_lineTold 6 = .ok (.ifCond .ne 5, 3) := by decide +kernel
theorem dX5_lineTold_9 : decode cX5_lineTold 9 = .ok (.iconst 0, 1) := by decide +kernel
theorem dX5_lineTold_10 : decode cX5_lineTold 10 = .ok (.ireturn, 1) := by decide +kernel
theorem dX5_lineTold_11 : decode cX5_lineTold 11 = .ok (.iconst 0, 1) := by decide +kernel
theorem dX5_lineTold_12 : decode cX5_lineTold 12 = .ok (.istore_n 1, 1) := by decide +kernel
theorem dX5_lineTold_13 : decode cX5_lineTold 13 = .ok (.aload_n 0, 1) := by decide +kernel
theorem dX5_lineTold_14 : decode cX5_lineTold 14 = .ok (.getfield 170, 3) := by decide +kernel
theorem dX5_lineTold_17 : decode cX5_lineTold 17 = .ok (.iconst 2, 1) := by decide +kernel
theorem dX5_lineTold_18 : decode cX5_lineTold 18 = .ok (.if_icmp .ne 33, 3) := by decide +kernel
theorem dX5_lineTold_21 : decode cX5_lineTold 21 = .ok (.aload_n 0, 1) := by decide +kernel
theorem dX5_lineTold_22 : decode cX5_lineTold 22 = .ok (.aload_n 0, 1) := by decide +kernel
theorem dX5_lineTold_23 : decode cX5_lineTold 23 = .ok (.getfield 167, 3) := by decide +kernel
theorem dX5_lineTold_26 : decode cX5_lineTold 26 = .ok (.invokevirtual 100, 3) := by decide +kernel
theorem dX5_lineTold_29 : decode cX5_lineTold 29 = .ok (.ifCond .eq 22, 3) := by decide +kernel
theorem dX5_lineTold_32 : decode cX5_lineTold 32 = .ok (.iload_n 1, 1) := by decide +kernel
theorem dX5_lineTold_33 : decode cX5_lineTold 33 = .ok (.aload_n 0, 1) := by decide +kernel
theorem dX5_lineTold_34 : decode cX5_lineTold 34 = .ok (.getfield 167, 3) := by decide +kernel
theorem dX5_lineTold_37 : decode cX5_lineTold 37 = .ok (.invokestatic 119, 3) := by decide +kernel
theorem dX5_lineTold_40 : decode cX5_lineTold 40 = .ok (.ifCond .ne 11, 3) := by decide +kernel
theorem dX5_lineTold_43 : decode cX5_lineTold 43 = .ok (.iload_n 1, 1) := by decide +kernel
theorem dX5_lineTold_44 : decode cX5_lineTold 44 = .ok (.invokestatic 122, 3) := by decide +kernel
theorem dX5_lineTold_47 : decode cX5_lineTold 47 = .ok (.iconst 5, 1) := by decide +kernel
theorem dX5_lineTold_48 : decode cX5_lineTold 48 = .ok (.if_icmp .ne 8, 3) := by decide +kernel
theorem dX5_lineTold_51 : decode cX5_lineTold 51 = .ok (.aload_n 0, 1) := by decide +kernel
theorem dX5_lineTold_52 : decode cX5_lineTold 52 = .ok (.invokevirtual 192, 3) := by decide +kernel
theorem dX5_lineTold_55 : decode cX5_lineTold 55 = .ok (.ireturn, 1) := by decide +kernel
theorem dX5_lineTold_56 : decode cX5_lineTold 56 = .ok (.iload_n 1, 1) := by decide +kernel
theorem dX5_lineTold_57 : decode cX5_lineTold 57 = .ok (.iconst 1, 1) := by decide +kernel
theorem dX5_lineTold_58 : decode cX5_lineTold 58 = .ok (.aload_n 0, 1) := by decide +kernel
theorem dX5_lineTold_59 : decode cX5_lineTold 59 = .ok (.getfield 167, 3) := by decide +kernel
theorem dX5_lineTold_62 : decode cX5_lineTold 62 = .ok (.ishl, 1) := by decide +kernel
theorem dX5_lineTold_63 : decode cX5_lineTold 63 = .ok (.ior, 1) := by decide +kernel
theorem dX5_lineTold_64 : decode cX5_lineTold 64 = .ok (.istore_n 1, 1) := by decide +kernel
theorem dX5_lineTold_65 : decode cX5_lineTold 65 = .ok (.aload_n 0, 1) := by decide +kernel
theorem dX5_lineTold_66 : decode cX5_lineTold 66 = .ok (.invokevirtual 196, 3) := by decide +kernel
theorem dX5_lineTold_69 : decode cX5_lineTold 69 = .ok (.aload_n 0, 1) := by decide +kernel
theorem dX5_lineTold_70 : decode cX5_lineTold 70 = .ok (.getfield 170, 3) := by decide +kernel
theorem dX5_lineTold_73 : decode cX5_lineTold 73 = .ok (.iconst 2, 1) := by decide +kernel
theorem dX5_lineTold_74 : decode cX5_lineTold 74 = .ok (.if_icmp .eq (-61), 3) := by decide +kernel
theorem dX5_lineTold_77 : decode cX5_lineTold 77 = .ok (.aload_n 0, 1) := by decide +kernel
theorem dX5_lineTold_78 : decode cX5_lineTold 78 = .ok (.getfield 49, 3) := by decide +kernel
theorem dX5_lineTold_81 : decode cX5_lineTold 81 = .ok (.aload_n 0, 1) := by decide +kernel
theorem dX5_lineTold_82 : decode cX5_lineTold 82 = .ok (.getfield 65, 3) := by decide +kernel
theorem dX5_lineTold_85 : decode cX5_lineTold 85 = .ok (.iconst 0, 1) := by decide +kernel
theorem dX5_lineTold_86 : decode cX5_lineTold 86 = .ok (.iaload, 1) := by decide +kernel
theorem dX5_lineTold_87 : decode cX5_lineTold 87 = .ok (.iload_n 1, 1) := by decide +kernel
theorem dX5_lineTold_88 : decode cX5_lineTold 88 = .ok (.iastore, 1) := by decide +kernel
theorem dX5_lineTold_89 : decode cX5_lineTold 89 = .ok (.iconst 1, 1) := by decide +kernel
theorem dX5_lineTold_90 : decode cX5_lineTold 90 = .ok (.ireturn, 1) := by decide +kernel
theorem dX5_statement_0 : decode cX5_statement 0 = .ok (.aload_n 0, 1) := by decide +kernel
theorem dX5_statement_1 : decode cX5_statement 1 = .ok (.ldc 206, 2) := by decide +kernel
theorem dX5_statement_3 : decode cX5_statement 3 = .ok (.invokevirtual 208, 3) := by decide +kernel
theorem dX5_statement_6 : decode cX5_statement 6 = .ok (.ifCond .eq 69, 3) := by decide +kernel
theorem dX5_statement_9 : decode cX5_statement 9 = .ok (.aload_n 0, 1) := by decide +kernel
theorem dX5_statement_10 : decode cX5_statement 10 = .ok (.getfield 74, 3) := by decide +kernel
theorem dX5_statement_13 : decode cX5_statement 13 = .ok (.bipush 10, 2) := by decide +kernel
theorem dX5_statement_15 : decode cX5_statement 15 = .ok (.if_icmp .ge 60, 3) := by decide +kernel
theorem dX5_statement_18 : decode cX5_statement 18 = .ok (.aload_n 0, 1) := by decide +kernel
theorem dX5_statement_19 : decode cX5_statement 19 = .ok (.iconst 0, 1) := by decide +kernel
theorem dX5_statement_20 : decode cX5_statement 20 = .ok (.iconst 5, 1) := by decide +kernel
theorem dX5_statement_21 : decode cX5_statement 21 = .ok (.invokevirtual 203, 3) := by decide +kernel
theorem dX5_statement_24 : decode cX5_statement 24 = .ok (.ifCond .eq 25, 3) := by decide +kernel
theorem dX5_statement_27 : decode cX5_statement 27 = .ok (.aload_n 0, 1) := by decide +kernel
theorem dX5_statement_28 : decode cX5_statement 28 = .ok (.iconst 1, 1) := by decide +kernel
theorem dX5_statement_29 : decode cX5_statement 29 = .ok (.iconst 1, 1) := by decide +kernel
theorem dX5_statement_30 : decode cX5_statement 30 = .ok (.bipush 99, 2) := by decide +kernel
theorem dX5_statement_32 : decode cX5_statement 32 = .ok (.invokevirtual 199, 3) := by decide +kernel
theorem dX5_statement_35 : decode cX5_statement 35 = .ok (.ifCond .eq 14, 3) := by decide +kernel
theorem dX5_statement_38 : decode cX5_statement 38 = .ok (.aload_n 0, 1) := by decide +kernel
theorem dX5_statement_39 : decode cX5_statement 39 = .ok (.iconst 2, 1) := by decide +kernel
theorem dX5_statement_40 : decode cX5_statement 40 = .ok (.iconst 0, 1) := by decide +kernel
theorem dX5_statement_41 : decode cX5_statement 41 = .ok (.bipush 9, 2) := by decide +kernel
theorem dX5_statement_43 : decode cX5_statement 43 = .ok (.invokevirtual 199, 3) := by decide +kernel
theorem dX5_statement_46 : decode cX5_statement 46 = .ok (.ifCond .ne 5, 3) := by decide +kernel
theorem dX5_statement_49 : decode cX5_statement 49 = .ok (.iconst 0, 1) := by decide +kernel
theorem dX5_statement_50 : decode cX5_statement 50 = .ok (.ireturn, 1) := by decide +kernel
theorem dX5_statement_51 : decode cX5_statement 51 = .ok (.aload_n 0, 1) := by decide +kernel
theorem dX5_statement_52 : decode cX5_statement 52 = .ok (.aload_n 0, 1) := by decide +kernel
theorem dX5_statement_53 : decode cX5_statement 53 = .ok (.getfield 65, 3) := by decide +kernel
theorem dX5_statement_56 : decode cX5_statement 56 = .ok (.iconst 0, 1) := by decide +kernel
theorem dX5_statement_57 : decode cX5_statement 57 = .ok (.iaload, 1) := by decide +kernel
theorem dX5_statement_58 : decode cX5_statement 58 = .ok (.aload_n 0, 1) := by decide +kernel
theorem dX5_statement_59 : decode cX5_statement 59 = .ok (.getfield 65, 3) := by decide +kernel
theorem dX5_statement_62 : decode cX5_statement 62 = .ok (.iconst 1, 1) := by decide +kernel
theorem dX5_statement_63 : decode cX5_statement 63 = .ok (.iaload, 1) := by decide +kernel
theorem dX5_statement_64 : decode cX5_statement 64 = .ok (.aload_n 0, 1) := by decide +kernel
theorem dX5_statement_65 : decode cX5_statement 65 = .ok (.getfield 65, 3) := by decide +kernel
theorem dX5_statement_68 : decode cX5_statement 68 = .ok (.iconst 2, 1) := by decide +kernel
theorem dX5_statement_69 : decode cX5_statement 69 = .ok (.iaload, 1) := by decide +kernel
theorem dX5_statement_70 : decode cX5_statement 70 = .ok (.invokevirtual 132, 3) := by decide +kernel
theorem dX5_statement_73 : decode cX5_statement 73 = .ok (.iconst 1, 1) := by decide +kernel
theorem dX5_statement_74 : decode cX5_statement 74 = .ok (.ireturn, 1) := by decide +kernel
theorem dX5_statement_75 : decode cX5_statement 75 = .ok (.aload_n 0, 1) := by decide +kernel
theorem dX5_statement_76 : decode cX5_statement 76 = .ok (.ldc 212, 2) := by decide +kernel
theorem dX5_statement_78 : decode cX5_statement 78 = .ok (.invokevirtual 208, 3) := by decide +kernel
theorem dX5_statement_81 : decode cX5_statement 81 = .ok (.ifCond .eq 8, 3) := by decide +kernel
theorem dX5_statement_84 : decode cX5_statement 84 = .ok (.aload_n 0, 1) := by decide +kernel
theorem dX5_statement_85 : decode cX5_statement 85 = .ok (.invokevirtual 213, 3) := by decide +kernel
theorem dX5_statement_88 : decode cX5_statement 88 = .ok (.ireturn, 1) := by decide +kernel
theorem dX5_statement_89 : decode cX5_statement 89 = .ok (.aload_n 0, 1) := by decide +kernel
theorem dX5_statement_90 : decode cX5_statement 90 = .ok (.ldc 216, 2) := by decide +kernel
theorem dX5_statement_92 : decode cX5_statement 92 = .ok (.invokevirtual 208, 3) := by decide +kernel
theorem dX5_statement_95 : decode cX5_statement 95 = .ok (.ifCond .eq 57, 3) := by decide +kernel
theorem dX5_statement_98 : decode cX5_statement 98 = .ok (.aload_n 0, 1) := by decide +kernel
theorem dX5_statement_99 : decode cX5_statement 99 = .ok (.invokevirtual 196, 3) := by decide +kernel
theorem dX5_statement_102 : decode cX5_statement 102 = .ok (.aload_n 0, 1) := by decide +kernel
theorem dX5_statement_103 : decode cX5_statement 103 = .ok (.getfield 170, 3) := by decide +kernel
theorem dX5_statement_106 : decode cX5_statement 106 = .ok (.iconst 2, 1) := by decide +kernel
theorem dX5_statement_107 : decode cX5_statement 107 = .ok (.if_icmp .ne 26, 3) := by decide +kernel
theorem dX5_statement_110 : decode cX5_statement 110 = .ok (.aload_n 0, 1) := by decide +kernel
theorem dX5_statement_111 : decode cX5_statement 111 = .ok (.getfield 167, 3) := by decide +kernel
theorem dX5_statement_114 : decode cX5_statement 114 = .ok (.i2l, 1) := by decide +kernel
theorem dX5_statement_115 : decode cX5_statement 115 = .ok (.invokestatic 138, 3) := by decide +kernel
theorem dX5_statement_118 : decode cX5_statement 118 = .ok (.ifCond .eq 15, 3) := by decide +kernel
theorem dX5_statement_121 : decode cX5_statement 121 = .ok (.aload_n 0, 1) := by decide +kernel
theorem dX5_statement_122 : decode cX5_statement 122 = .ok (.getfield 49, 3) := by decide +kernel
theorem dX5_statement_125 : decode cX5_statement 125 = .ok (.aload_n 0, 1) := by decide +kernel
theorem dX5_statement_126 : decode cX5_statement 126 = .ok (.getfield 167, 3) := by decide +kernel
theorem dX5_statement_129 : decode cX5_statement 129 = .ok (.iaload, 1) := by decide +kernel
theorem dX5_statement_130 : decode cX5_statement 130 = .ok (.ifCond .ne 8, 3) := by decide +kernel
theorem dX5_statement_133 : decode cX5_statement 133 = .ok (.aload_n 0, 1) := by decide +kernel
theorem dX5_statement_134 : decode cX5_statement 134 = .ok (.invokevirtual 192, 3) := by decide +kernel
theorem dX5_statement_137 : decode cX5_statement 137 = .ok (.ireturn, 1) := by decide +kernel
theorem dX5_statement_138 : decode cX5_statement 138 = .ok (.aload_n 0, 1) := by decide +kernel
theorem dX5_statement_139 : decode cX5_statement 139 = .ok (.aload_n 0, 1) := by decide +kernel
theorem dX5_statement_140 : decode cX5_statement 140 = .ok (.getfield 167, 3) := by decide +kernel
theorem dX5_statement_143 : decode cX5_statement 143 = .ok (.invokevirtual 218, 3) := by decide +kernel
theorem dX5_statement_146 : decode cX5_statement 146 = .ok (.aload_n 0, 1) := by decide +kernel
theorem dX5_statement_147 : decode cX5_statement 147 = .ok (.invokevirtual 196, 3) := by decide +kernel
theorem dX5_statement_150 : decode cX5_statement 150 = .ok (.iconst 1, 1) := by decide +kernel
theorem dX5_statement_151 : decode cX5_statement 151 = .ok (.ireturn, 1) := by decide +kernel
theorem dX5_statement_152 : decode cX5_statement 152 = .ok (.aload_n 0, 1) := by decide +kernel
theorem dX5_statement_153 : decode cX5_statement 153 = .ok (.ldc 222, 2) := by decide +kernel
theorem dX5_statement_155 : decode cX5_statement 155 = .ok (.invokevirtual 208, 3) := by decide +kernel
theorem dX5_statement_158 : decode cX5_statement 158 = .ok (.ifCond .eq 9, 3) := by decide +kernel
theorem dX5_statement_161 : decode cX5_statement 161 = .ok (.aload_n 0, 1) := by decide +kernel
theorem dX5_statement_162 : decode cX5_statement 162 = .ok (.iconst 0, 1) := by decide +kernel
theorem dX5_statement_163 : decode cX5_statement 163 = .ok (.invokevirtual 223, 3) := by decide +kernel
theorem dX5_statement_166 : decode cX5_statement 166 = .ok (.ireturn, 1) := by decide +kernel
theorem dX5_statement_167 : decode cX5_statement 167 = .ok (.aload_n 0, 1) := by decide +kernel
theorem dX5_statement_168 : decode cX5_statement 168 = .ok (.ldc 226, 2) := by decide +kernel
theorem dX5_statement_170 : decode cX5_statement 170 = .ok (.invokevirtual 208, 3) := by decide +kernel
theorem dX5_statement_173 : decode cX5_statement 173 = .ok (.ifCond .eq 9, 3) := by decide +kernel
theorem dX5_statement_176 : decode cX5_statement 176 = .ok (.aload_n 0, 1) := by decide +kernel
theorem dX5_statement_177 : decode cX5_statement 177 = .ok (.iconst 1, 1) := by decide +kernel
theorem dX5_statement_178 : decode cX5_statement 178 = .ok (.invokevirtual 223, 3) := by decide +kernel
theorem dX5_statement_181 : decode cX5_statement 181 = .ok (.ireturn, 1) := by decide +kernel
theorem dX5_statement_182 : decode cX5_statement 182 = .ok (.aload_n 0, 1) := by decide +kernel
theorem dX5_statement_183 : decode cX5_statement 183 = .ok (.ldc 227, 2) := by decide +kernel
theorem dX5_statement_185 : decode cX5_statement 185 = .ok (.invokevirtual 208, 3) := by decide +kernel
theorem dX5_statement_188 : decode cX5_statement 188 = .ok (.ifCond .eq 9, 3) := by decide +kernel
theorem dX5_statement_191 : decode cX5_statement 191 = .ok (.aload_n 0, 1) := by decide +kernel
theorem dX5_statement_192 : decode cX5_statement 192 = .ok (.iconst 2, 1) := by decide +kernel
theorem dX5_statement_193 : decode cX5_statement 193 = .ok (.invokevirtual 223, 3) := by decide +kernel
theorem dX5_statement_196 : decode cX5_statement 196 = .ok (.ireturn, 1) := by decide +kernel
theorem dX5_statement_197 : decode cX5_statement 197 = .ok (.aload_n 0, 1) := by decide +kernel
theorem dX5_statement_198 : decode cX5_statement 198 = .ok (.ldc 228, 2) := by decide +kernel
theorem dX5_statement_200 : decode cX5_statement 200 = .ok (.invokevirtual 208, 3) := by decide +kernel
theorem dX5_statement_203 : decode cX5_statement 203 = .ok (.ifCond .eq 40, 3) := by decide +kernel
theorem dX5_statement_206 : decode cX5_statement 206 = .ok (.aload_n 0, 1) := by decide +kernel
theorem dX5_statement_207 : decode cX5_statement 207 = .ok (.iconst 1, 1) := by decide +kernel
theorem dX5_statement_208 : decode cX5_statement 208 = .ok (.bipush 99, 2) := by decide +kernel
theorem dX5_statement_210 : decode cX5_statement 210 = .ok (.invokevirtual 203, 3) := by decide +kernel
theorem dX5_statement_213 : decode cX5_statement 213 = .ok (.istore_n 1, 1) := by decide +kernel
theorem dX5_statement_214 : decode cX5_statement 214 = .ok (.iconst 0, 1) := by decide +kernel
theorem dX5_statement_215 : decode cX5_statement 215 = .ok (.istore_n 2, 1) := by decide +kernel
theorem dX5_statement_216 : decode cX5_statement 216 = .ok (.iload_n 1, 1) := by decide +kernel
theorem dX5_statement_217 : decode cX5_statement 217 = .ok (.ifCond .eq 24, 3) := by decide +kernel
theorem dX5_statement_220 : decode cX5_statement 220 = .ok (.iload_n 2, 1) := by decide +kernel
theorem dX5_statement_221 : decode cX5_statement 221 = .ok (.aload_n 0, 1) := by decide +kernel
theorem dX5_statement_222 : decode cX5_statement 222 = .ok (.getfield 65, 3) := by decide +kernel
theorem dX5_statement_225 : decode cX5_statement 225 = .ok (.iconst 0, 1) := by decide +kernel
theorem dX5_statement_226 : decode cX5_statement 226 = .ok (.iaload, 1) := by decide +kernel
theorem dX5_statement_227 : decode cX5_statement 227 = .ok (.if_icmp .ge 14, 3) := by decide +kernel
theorem dX5_statement_230 : decode cX5_statement 230 = .ok (.aload_n 0, 1) := by decide +kernel
theorem dX5_statement_231 : decode cX5_statement 231 = .ok (.invokevirtual 230, 3) := by decide +kernel
theorem dX5_statement_234 : decode cX5_statement 234 = .ok (.pop, 1) := by decide +kernel
theorem dX5_statement_235 : decode cX5_statement 235 = .ok (.iinc 2 1, 3) := by decide +kernel
theorem dX5_statement_238 : decode cX5_statement 238 = .ok (.goto (-22), 3) := by decide +kernel
theorem dX5_statement_241 : decode cX5_statement 241 = .ok (.iload_n 1, 1) := by decide +kernel
theorem dX5_statement_242 : decode cX5_statement 242 = .ok (.ireturn, 1) := by decide +kernel
theorem dX5_statement_243 : decode cX5_statement 243 = .ok (.aload_n 0, 1) := by decide +kernel
theorem dX5_statement_244 : decode cX5_statement 244 = .ok (.invokevirtual 192, 3) := by decide +kernel
theorem dX5_statement_247 : decode cX5_statement 247 = .ok (.ireturn, 1) := by decide +kernel
theorem dX5_readAll_0 : decode cX5_readAll 0 = .ok (.aload_n 0, 1) := by decide +kernel
theorem dX5_readAll_1 : decode cX5_readAll 1 = .ok (.iconst 1, 1) := by decide +kernel
theorem dX5_readAll_2 : decode cX5_readAll 2 = .ok (.putfield 233, 3) := by decide +kernel
theorem dX5_readAll_5 : decode cX5_readAll 5 = .ok (.aload_n 0, 1) := by decide +kernel
theorem dX5_readAll_6 : decode cX5_readAll 6 = .ok (.iconst 0, 1) := by decide +kernel
theorem dX5_readAll_7 : decode cX5_readAll 7 = .ok (.putfield 161, 3) := by decide +kernel
theorem dX5_readAll_10 : decode cX5_readAll 10 = .ok (.aload_n 0, 1) := by decide +kernel
theorem dX5_readAll_11 : decode cX5_readAll 11 = .ok (.invokevirtual 196, 3) := by decide +kernel
theorem dX5_readAll_14 : decode cX5_readAll 14 = .ok (.aload_n 0, 1) := by decide +kernel
theorem dX5_readAll_15 : decode cX5_readAll 15 = .ok (.invokevirtual 236, 3) := by decide +kernel
theorem dX5_readAll_18 : decode cX5_readAll 18 = .ok (.ifCond .ne 5, 3) := by decide +kernel
theorem dX5_readAll_21 : decode cX5_readAll 21 = .ok (.iconst 0, 1) := by decide +kernel
theorem dX5_readAll_22 : decode cX5_readAll 22 = .ok (.ireturn, 1) := by decide +kernel
theorem dX5_readAll_23 : decode cX5_readAll 23 = .ok (.aload_n 0, 1) := by decide +kernel
theorem dX5_readAll_24 : decode cX5_readAll 24 = .ok (.getfield 170, 3) := by decide +kernel
theorem dX5_readAll_27 : decode cX5_readAll 27 = .ok (.ifCond .eq 42, 3) := by decide +kernel
theorem dX5_readAll_30 : decode cX5_readAll 30 = .ok (.aload_n 0, 1) := by decide +kernel
theorem dX5_readAll_31 : decode cX5_readAll 31 = .ok (.getfield 170, 3) := by decide +kernel
theorem dX5_readAll_34 : decode cX5_readAll 34 = .ok (.iconst 3, 1) := by decide +kernel
theorem dX5_readAll_35 : decode cX5_readAll 35 = .ok (.if_icmp .eq 8, 3) := by decide +kernel
theorem dX5_readAll_38 : decode cX5_readAll 38 = .ok (.aload_n 0, 1) := by decide +kernel
theorem dX5_readAll_39 : decode cX5_readAll 39 = .ok (.invokevirtual 192, 3) := by decide +kernel
theorem dX5_readAll_42 : decode cX5_readAll 42 = .ok (.ireturn, 1) := by decide +kernel
theorem dX5_readAll_43 : decode cX5_readAll 43 = .ok (.aload_n 0, 1) := by decide +kernel
theorem dX5_readAll_44 : decode cX5_readAll 44 = .ok (.invokevirtual 196, 3) := by decide +kernel
theorem dX5_readAll_47 : decode cX5_readAll 47 = .ok (.aload_n 0, 1) := by decide +kernel
theorem dX5_readAll_48 : decode cX5_readAll 48 = .ok (.invokevirtual 236, 3) := by decide +kernel
theorem dX5_readAll_51 : decode cX5_readAll 51 = .ok (.ifCond .ne 5, 3) := by decide +kernel
theorem dX5_readAll_54 : decode cX5_readAll 54 = .ok (.iconst 0, 1) := by decide +kernel
theorem dX5_readAll_55 : decode cX5_readAll 55 = .ok (.ireturn, 1) := by decide +kernel
theorem dX5_readAll_56 : decode cX5_readAll 56 = .ok (.aload_n 0, 1) := by decide +kernel
theorem dX5_readAll_57 : decode cX5_readAll 57 = .ok (.dup, 1) := by decide +kernel
theorem dX5_readAll_58 : decode cX5_readAll 58 = .ok (.getfield 233, 3) := by decide +kernel
theorem dX5_readAll_61 : decode cX5_readAll 61 = .ok (.iconst 1, 1) := by decide +kernel
theorem dX5_readAll_62 : decode cX5_readAll 62 = .ok (.iadd, 1) := by decide +kernel
theorem dX5_readAll_63 : decode cX5_readAll 63 = .ok (.putfield 233, 3) := by decide +kernel
theorem dX5_readAll_66 : decode cX5_readAll 66 = .ok (.goto (-43), 3) := by decide +kernel
theorem dX5_readAll_69 : decode cX5_readAll 69 = .ok (.iconst 1, 1) := by decide +kernel
theorem dX5_readAll_70 : decode cX5_readAll 70 = .ok (.ireturn, 1) := by decide +kernel
theorem dX5_fresh_0 : decode cX5_fresh 0 = .ok (.aload_n 0, 1) := by decide +kernel
theorem dX5_fresh_1 : decode cX5_fresh 1 = .ok (.getfield 239, 3) := by decide +kernel
theorem dX5_fresh_4 : decode cX5_fresh 4 = .ok (.ifnonnull 14, 3) := by decide +kernel
theorem dX5_fresh_7 : decode cX5_fresh 7 = .ok (.aload_n 0, 1) := by decide +kernel
theorem dX5_fresh_8 : decode cX5_fresh 8 = .ok (.new 8, 3) := by decide +kernel
theorem dX5_fresh_11 : decode cX5_fresh 11 = .ok (.dup, 1) := by decide +kernel
theorem dX5_fresh_12 : decode cX5_fresh 12 = .ok (.invokespecial 243, 3) := by decide +kernel
theorem dX5_fresh_15 : decode cX5_fresh 15 = .ok (.putfield 239, 3) := by decide +kernel
theorem dX5_fresh_18 : decode cX5_fresh 18 = .ok (.aload_n 0, 1) := by decide +kernel
theorem dX5_fresh_19 : decode cX5_fresh 19 = .ok (.getfield 239, 3) := by decide +kernel
theorem dX5_fresh_22 : decode cX5_fresh 22 = .ok (.aload_n 0, 1) := by decide +kernel
theorem dX5_fresh_23 : decode cX5_fresh 23 = .ok (.invokevirtual 244, 3) := by decide +kernel
theorem dX5_fresh_26 : decode cX5_fresh 26 = .ok (.aload_n 0, 1) := by decide +kernel
theorem dX5_fresh_27 : decode cX5_fresh 27 = .ok (.getfield 239, 3) := by decide +kernel
theorem dX5_fresh_30 : decode cX5_fresh 30 = .ok (.areturn, 1) := by decide +kernel
theorem dX5_rink_0 : decode cX5_rink 0 = .ok (.aload_n 0, 1) := by decide +kernel
theorem dX5_rink_1 : decode cX5_rink 1 = .ok (.invokevirtual 248, 3) := by decide +kernel
theorem dX5_rink_4 : decode cX5_rink 4 = .ok (.astore_n 1, 1) := by decide +kernel
theorem dX5_rink_5 : decode cX5_rink 5 = .ok (.aload_n 0, 1) := by decide +kernel
theorem dX5_rink_6 : decode cX5_rink 6 = .ok (.invokevirtual 252, 3) := by decide +kernel
theorem dX5_rink_9 : decode cX5_rink 9 = .ok (.istore_n 2, 1) := by decide +kernel
theorem dX5_rink_10 : decode cX5_rink 10 = .ok (.aload_n 0, 1) := by decide +kernel
theorem dX5_rink_11 : decode cX5_rink 11 = .ok (.iconst 0, 1) := by decide +kernel
theorem dX5_rink_12 : decode cX5_rink 12 = .ok (.putfield 158, 3) := by decide +kernel
theorem dX5_rink_15 : decode cX5_rink 15 = .ok (.iload_n 2, 1) := by decide +kernel
theorem dX5_rink_16 : decode cX5_rink 16 = .ok (.ifCond .ne 23, 3) := by decide +kernel
theorem dX5_rink_19 : decode cX5_rink 19 = .ok (.aload_n 0, 1) := by decide +kernel
theorem dX5_rink_20 : decode cX5_rink 20 = .ok (.aload_n 1, 1) := by decide +kernel
theorem dX5_rink_21 : decode cX5_rink 21 = .ok (.invokevirtual 244, 3) := by decide +kernel
theorem dX5_rink_24 : decode cX5_rink 24 = .ok (.aload_n 0, 1) := by decide +kernel
theorem dX5_rink_25 : decode cX5_rink 25 = .ok (.bipush (-2), 2) := by decide +kernel
theorem dX5_rink_27 : decode cX5_rink 27 = .ok (.invokevirtual 89, 3) := by decide +kernel
theorem dX5_rink_30 : decode cX5_rink 30 = .ok (.pop, 1) := by decide +kernel
theorem dX5_rink_31 : decode cX5_rink 31 = .ok (.bipush (-20), 2) := by decide +kernel
theorem dX5_rink_33 : decode cX5_rink 33 = .ok (.aload_n 0, 1) := by decide +kernel
theorem dX5_rink_34 : decode cX5_rink 34 = .ok (.getfield 179, 3) := by decide +kernel
theorem dX5_rink_37 : decode cX5_rink 37 = .ok (.isub, 1) := by decide +kernel
theorem dX5_rink_38 : decode cX5_rink 38 = .ok (.ireturn, 1) := by decide +kernel
theorem dX5_rink_39 : decode cX5_rink 39 = .ok (.aload_n 0, 1) := by decide +kernel
theorem dX5_rink_40 : decode cX5_rink 40 = .ok (.getfield 233, 3) := by decide +kernel
theorem dX5_rink_43 : decode cX5_rink 43 = .ok (.ireturn, 1) := by decide +kernel
theorem dX5_legs_0 : decode cX5_legs 0 = .ok (.aload_n 0, 1) := by decide +kernel
theorem dX5_legs_1 : decode cX5_legs 1 = .ok (.getfield 40, 3) := by decide +kernel
theorem dX5_legs_4 : decode cX5_legs 4 = .ok (.iload_n 1, 1) := by decide +kernel
theorem dX5_legs_5 : decode cX5_legs 5 = .ok (.iaload, 1) := by decide +kernel
theorem dX5_legs_6 : decode cX5_legs 6 = .ok (.bipush 100, 2) := by decide +kernel
theorem dX5_legs_8 : decode cX5_legs 8 = .ok (.aload_n 0, 1) := by decide +kernel
theorem dX5_legs_9 : decode cX5_legs 9 = .ok (.getfield 46, 3) := by decide +kernel
theorem dX5_legs_12 : decode cX5_legs 12 = .ok (.iload_n 1, 1) := by decide +kernel
theorem dX5_legs_13 : decode cX5_legs 13 = .ok (.iaload, 1) := by decide +kernel
theorem dX5_legs_14 : decode cX5_legs 14 = .ok (.isub, 1) := by decide +kernel
theorem dX5_legs_15 : decode cX5_legs 15 = .ok (.imul, 1) := by decide +kernel
theorem dX5_legs_16 : decode cX5_legs 16 = .ok (.bipush 100, 2) := by decide +kernel
theorem dX5_legs_18 : decode cX5_legs 18 = .ok (.idiv, 1) := by decide +kernel
theorem dX5_legs_19 : decode cX5_legs 19 = .ok (.ireturn, 1) := by decide +kernel
theorem dX5_powerOf_0 : decode cX5_powerOf 0 = .ok (.aload_n 0, 1) := by decide +kernel
theorem dX5_powerOf_1 : decode cX5_powerOf 1 = .ok (.iload_n 1, 1) := by decide +kernel
theorem dX5_powerOf_2 : decode cX5_powerOf 2 = .ok (.invokevirtual 110, 3) := by decide +kernel
theorem dX5_powerOf_5 : decode cX5_powerOf 5 = .ok (.istore_n 2, 1) := by decide +kernel
theorem dX5_powerOf_6 : decode cX5_powerOf 6 = .ok (.aload_n 0, 1) := by decide +kernel
theorem dX5_powerOf_7 : decode cX5_powerOf 7 = .ok (.getfield 37, 3) := by decide +kernel
theorem dX5_powerOf_10 : decode cX5_powerOf 10 = .ok (.iload_n 1, 1) := by decide +kernel
theorem dX5_powerOf_11 : decode cX5_powerOf 11 = .ok (.iaload, 1) := by decide +kernel
theorem dX5_powerOf_12 : decode cX5_powerOf 12 = .ok (.iconst 2, 1) := by decide +kernel
theorem dX5_powerOf_13 : decode cX5_powerOf 13 = .ok (.if_icmp .ne 23, 3) := by decide +kernel
theorem dX5_powerOf_16 : decode cX5_powerOf 16 = .ok (.aload_n 0, 1) := by decide +kernel
theorem dX5_powerOf_17 : decode cX5_powerOf 17 = .ok (.getfield 46, 3) := by decide +kernel
theorem dX5_powerOf_20 : decode cX5_powerOf 20 = .ok (.iload_n 1, 1) := by decide +kernel
theorem dX5_powerOf_21 : decode cX5_powerOf 21 = .ok (.iaload, 1) := by decide +kernel
theorem dX5_powerOf_22 : decode cX5_powerOf 22 = .ok (.bipush 10, 2) := by decide +kernel
theorem dX5_powerOf_24 : decode cX5_powerOf 24 = .ok (.if_icmp .ge 12, 3) := by decide +kernel
theorem dX5_powerOf_27 : decode cX5_powerOf 27 = .ok (.iload_n 2, 1) := by decide +kernel
theorem dX5_powerOf_28 : decode cX5_powerOf 28 = .ok (.aload_n 0, 1) := by decide +kernel
theorem dX5_powerOf_29 : decode cX5_powerOf 29 = .ok (.getfield 43, 3) := by decide +kernel
theorem dX5_powerOf_32 : decode cX5_powerOf 32 = .ok (.iload_n 1, 1) := by decide +kernel
theorem dX5_powerOf_33 : decode cX5_powerOf 33 = .ok (.iaload, 1) := by decide +kernel
theorem dX5_powerOf_34 : decode cX5_powerOf 34 = .ok (.iadd, 1) := by decide +kernel
theorem dX5_powerOf_35 : decode cX5_powerOf 35 = .ok (.istore_n 2, 1) := by decide +kernel
theorem dX5_powerOf_36 : decode cX5_powerOf 36 = .ok (.aload_n 0, 1) := by decide +kernel
theorem dX5_powerOf_37 : decode cX5_powerOf 37 = .ok (.getfield 37, 3) := by decide +kernel
theorem dX5_powerOf_40 : decode cX5_powerOf 40 = .ok (.iload_n 1, 1) := by decide +kernel
theorem dX5_powerOf_41 : decode cX5_powerOf 41 = .ok (.iaload, 1) := by decide +kernel
theorem dX5_powerOf_42 : decode cX5_powerOf 42 = .ok (.iconst 5, 1) := by decide +kernel
theorem dX5_powerOf_43 : decode cX5_powerOf 43 = .ok (.if_icmp .ne 23, 3) := by decide +kernel
theorem dX5_powerOf_46 : decode cX5_powerOf 46 = .ok (.iload_n 2, 1) := by decide +kernel
theorem dX5_powerOf_47 : decode cX5_powerOf 47 = .ok (.iconst 2, 1) := by decide +kernel
theorem dX5_powerOf_48 : decode cX5_powerOf 48 = .ok (.aload_n 0, 1) := by decide +kernel
theorem dX5_powerOf_49 : decode cX5_powerOf 49 = .ok (.getfield 116, 3) := by decide +kernel
theorem dX5_powerOf_52 : decode cX5_powerOf 52 = .ok (.iconst 1, 1) := by decide +kernel
theorem dX5_powerOf_53 : decode cX5_powerOf 53 = .ok (.iload_n 1, 1) := by decide +kernel
theorem dX5_powerOf_54 : decode cX5_powerOf 54 = .ok (.ishl, 1) := by decide +kernel
theorem dX5_powerOf_55 : decode cX5_powerOf 55 = .ok (.iconst (-1), 1) := by decide +kernel
theorem dX5_powerOf_56 : decode cX5_powerOf 56 = .ok (.ixor, 1) := by decide +kernel
theorem dX5_powerOf_57 : decode cX5_powerOf 57 = .ok (.iand, 1) := by decide +kernel
theorem dX5_powerOf_58 : decode cX5_powerOf 58 = .ok (.invokestatic 122, 3) := by decide +kernel
theorem dX5_powerOf_61 : decode cX5_powerOf 61 = .ok (.imul, 1) := by decide +kernel
theorem dX5_powerOf_62 : decode cX5_powerOf 62 = .ok (.iadd, 1) := by decide +kernel
theorem dX5_powerOf_63 : decode cX5_powerOf 63 = .ok (.goto 4, 3) := by decide +kernel
theorem dX5_powerOf_66 : decode cX5_powerOf 66 = .ok (.iload_n 2, 1) := by decide +kernel
theorem dX5_powerOf_67 : decode cX5_powerOf 67 = .ok (.ireturn, 1) := by decide +kernel
theorem dX5_powerNow_0 : decode cX5_powerNow 0 = .ok (.iconst 0, 1) := by decide +kernel
theorem dX5_powerNow_1 : decode cX5_powerNow 1 = .ok (.istore_n 1, 1) := by decide +kernel
theorem dX5_powerNow_2 : decode cX5_powerNow 2 = .ok (.iconst 0, 1) := by decide +kernel
theorem dX5_powerNow_3 : decode cX5_powerNow 3 = .ok (.istore_n 2, 1) := by decide +kernel
theorem dX5_powerNow_4 : decode cX5_powerNow 4 = .ok (.iconst 0, 1) := by decide +kernel
theorem dX5_powerNow_5 : decode cX5_powerNow 5 = .ok (.istore_n 3, 1) := by decide +kernel
theorem dX5_powerNow_6 : decode cX5_powerNow 6 = .ok (.iload_n 3, 1) := by decide +kernel
theorem dX5_powerNow_7 : decode cX5_powerNow 7 = .ok (.aload_n 0, 1) := by decide +kernel
theorem dX5_powerNow_8 : decode cX5_powerNow 8 = .ok (.getfield 74, 3) := by decide +kernel
theorem dX5_powerNow_11 : decode cX5_powerNow 11 = .ok (.if_icmp .ge 50, 3) := by decide +kernel
theorem dX5_powerNow_14 : decode cX5_powerNow 14 = .ok (.aload_n 0, 1) := by decide +kernel
theorem dX5_powerNow_15 : decode cX5_powerNow 15 = .ok (.getfield 255, 3) := by decide +kernel
theorem dX5_powerNow_18 : decode cX5_powerNow 18 = .ok (.iload_n 3, 1) := by decide +kernel
theorem dX5_powerNow_19 : decode cX5_powerNow 19 = .ok (.invokestatic 119, 3) := by decide +kernel
theorem dX5_powerNow_22 : decode cX5_powerNow 22 = .ok (.ifCond .eq 14, 3) := by decide +kernel
theorem dX5_powerNow_25 : decode cX5_powerNow 25 = .ok (.iload_n 2, 1) := by decide +kernel
theorem dX5_powerNow_26 : decode cX5_powerNow 26 = .ok (.aload_n 0, 1) := by decide +kernel
theorem dX5_powerNow_27 : decode cX5_powerNow 27 = .ok (.iload_n 3, 1) := by decide +kernel
theorem dX5_powerNow_28 : decode cX5_powerNow 28 = .ok (.invokevirtual 113, 3) := by decide +kernel
theorem dX5_powerNow_31 : decode cX5_powerNow 31 = .ok (.iadd, 1) := by decide +kernel
theorem dX5_powerNow_32 : decode cX5_powerNow 32 = .ok (.istore_n 2, 1) := by decide +kernel
theorem dX5_powerNow_33 : decode cX5_powerNow 33 = .ok (.goto 22, 3) := by decide +kernel
theorem dX5_powerNow_36 : decode cX5_powerNow 36 = .ok (.aload_n 0, 1) := by decide +kernel
theorem dX5_powerNow_37 : decode cX5_powerNow 37 = .ok (.getfield 116, 3) := by decide +kernel
theorem dX5_powerNow_40 : decode cX5_powerNow 40 = .ok (.iload_n 3, 1) := by decide +kernel
theorem dX5_powerNow_41 : decode cX5_powerNow 41 = .ok (.invokestatic 119, 3) := by decide +kernel
theorem dX5_powerNow_44 : decode cX5_powerNow 44 = .ok (.ifCond .eq 11, 3) := by decide +kernel
theorem dX5_powerNow_47 : decode cX5_powerNow 47 = .ok (.iload_n 1, 1) := by decide +kernel
theorem dX5_powerNow_48 : decode cX5_powerNow 48 = .ok (.aload_n 0, 1) := by decide +kernel
theorem dX5_powerNow_49 : decode cX5_powerNow 49 = .ok (.iload_n 3, 1) := by decide +kernel
theorem dX5_powerNow_50 : decode cX5_powerNow 50 = .ok (.invokevirtual 113, 3) := by decide +kernel
theorem dX5_powerNow_53 : decode cX5_powerNow 53 = .ok (.iadd, 1) := by decide +kernel
theorem dX5_powerNow_54 : decode cX5_powerNow 54 = .ok (.istore_n 1, 1) := by decide +kernel
theorem dX5_powerNow_55 : decode cX5_powerNow 55 = .ok (.iinc 3 1, 3) := by decide +kernel
theorem dX5_powerNow_58 : decode cX5_powerNow 58 = .ok (.goto (-52), 3) := by decide +kernel
theorem dX5_powerNow_61 : decode cX5_powerNow 61 = .ok (.iload_n 1, 1) := by decide +kernel
theorem dX5_powerNow_62 : decode cX5_powerNow 62 = .ok (.iload_n 2, 1) := by decide +kernel
theorem dX5_powerNow_63 : decode cX5_powerNow 63 = .ok (.iconst 2, 1) := by decide +kernel
theorem dX5_powerNow_64 : decode cX5_powerNow 64 = .ok (.idiv, 1) := by decide +kernel
theorem dX5_powerNow_65 : decode cX5_powerNow 65 = .ok (.iadd, 1) := by decide +kernel
theorem dX5_powerNow_66 : decode cX5_powerNow 66 = .ok (.aload_n 0, 1) := by decide +kernel
theorem dX5_powerNow_67 : decode cX5_powerNow 67 = .ok (.getfield 59, 3) := by decide +kernel
theorem dX5_powerNow_70 : decode cX5_powerNow 70 = .ok (.ifCond .ne 8, 3) := by decide +kernel
theorem dX5_powerNow_73 : decode cX5_powerNow 73 = .ok (.bipush 30, 2) := by decide +kernel
theorem dX5_powerNow_75 : decode cX5_powerNow 75 = .ok (.goto 4, 3) := by decide +kernel
theorem dX5_powerNow_78 : decode cX5_powerNow 78 = .ok (.iconst 0, 1) := by decide +kernel
theorem dX5_powerNow_79 : decode cX5_powerNow 79 = .ok (.iadd, 1) := by decide +kernel
theorem dX5_powerNow_80 : decode cX5_powerNow 80 = .ok (.ireturn, 1) := by decide +kernel
theorem dX5_oddsOurs_0 : decode cX5_oddsOurs 0 = .ok (.iconst 2, 1) := by decide +kernel
theorem dX5_oddsOurs_1 : decode cX5_oddsOurs 1 = .ok (.aload_n 0, 1) := by decide +kernel
theorem dX5_oddsOurs_2 : decode cX5_oddsOurs 2 = .ok (.invokevirtual 258, 3) := by decide +kernel
theorem dX5_oddsOurs_5 : decode cX5_oddsOurs 5 = .ok (.imul, 1) := by decide +kernel
theorem dX5_oddsOurs_6 : decode cX5_oddsOurs 6 = .ok (.aload_n 0, 1) := by decide +kernel
theorem dX5_oddsOurs_7 : decode cX5_oddsOurs 7 = .ok (.getfield 52, 3) := by decide +kernel
theorem dX5_oddsOurs_10 : decode cX5_oddsOurs 10 = .ok (.iconst 1, 1) := by decide +kernel
theorem dX5_oddsOurs_11 : decode cX5_oddsOurs 11 = .ok (.iadd, 1) := by decide +kernel
theorem dX5_oddsOurs_12 : decode cX5_oddsOurs 12 = .ok (.imul, 1) := by decide +kernel
theorem dX5_oddsOurs_13 : decode cX5_oddsOurs 13 = .ok (.iconst 3, 1) := by decide +kernel
theorem dX5_oddsOurs_14 : decode cX5_oddsOurs 14 = .ok (.idiv, 1) := by decide +kernel
theorem dX5_oddsOurs_15 : decode cX5_oddsOurs 15 = .ok (.ireturn, 1) := by decide +kernel
theorem dX5_oddsAgainst_0 : decode cX5_oddsAgainst 0 = .ok (.iconst 2, 1) := by decide +kernel
theorem dX5_oddsAgainst_1 : decode cX5_oddsAgainst 1 = .ok (.aload_n 0, 1) := by decide +kernel
theorem dX5_oddsAgainst_2 : decode cX5_oddsAgainst 2 = .ok (.getfield 56, 3) := by decide +kernel
theorem dX5_oddsAgainst_5 : decode cX5_oddsAgainst 5 = .ok (.imul, 1) := by decide +kernel
theorem dX5_oddsAgainst_6 : decode cX5_oddsAgainst 6 = .ok (.iconst 3, 1) := by decide +kernel
theorem dX5_oddsAgainst_7 : decode cX5_oddsAgainst 7 = .ok (.aload_n 0, 1) := by decide +kernel
theorem dX5_oddsAgainst_8 : decode cX5_oddsAgainst 8 = .ok (.getfield 52, 3) := by decide +kernel
theorem dX5_oddsAgainst_11 : decode cX5_oddsAgainst 11 = .ok (.isub, 1) := by decide +kernel
theorem dX5_oddsAgainst_12 : decode cX5_oddsAgainst 12 = .ok (.imul, 1) := by decide +kernel
theorem dX5_oddsAgainst_13 : decode cX5_oddsAgainst 13 = .ok (.iconst 3, 1) := by decide +kernel
theorem dX5_oddsAgainst_14 : decode cX5_oddsAgainst 14 = .ok (.idiv, 1) := by decide +kernel
theorem dX5_oddsAgainst_15 : decode cX5_oddsAgainst 15 = .ok (.istore_n 1, 1) := by decide +kernel
theorem dX5_oddsAgainst_16 : decode cX5_oddsAgainst 16 = .ok (.aload_n 0, 1) := by decide +kernel
theorem dX5_oddsAgainst_17 : decode cX5_oddsAgainst 17 = .ok (.getfield 59, 3) := by decide +kernel
theorem dX5_oddsAgainst_20 : decode cX5_oddsAgainst 20 = .ok (.ifCond .ne 9, 3) := by decide +kernel
theorem dX5_oddsAgainst_23 : decode cX5_oddsAgainst 23 = .ok (.iconst 5, 1) := by decide +kernel
theorem dX5_oddsAgainst_24 : decode cX5_oddsAgainst 24 = .ok (.iload_n 1, 1) := by decide +kernel
theorem dX5_oddsAgainst_25 : decode cX5_oddsAgainst 25 = .ok (.imul, 1) := by decide +kernel
theorem dX5_oddsAgainst_26 : decode cX5_oddsAgainst 26 = .ok (.goto 4, 3) := by decide +kernel
theorem dX5_oddsAgainst_29 : decode cX5_oddsAgainst 29 = .ok (.iload_n 1, 1) := by decide +kernel
theorem dX5_oddsAgainst_30 : decode cX5_oddsAgainst 30 = .ok (.ireturn, 1) := by decide +kernel
theorem dX5_tires_0 : decode cX5_tires 0 = .ok (.aload_n 0, 1) := by decide +kernel
theorem dX5_tires_1 : decode cX5_tires 1 = .ok (.getfield 37, 3) := by decide +kernel
theorem dX5_tires_4 : decode cX5_tires 4 = .ok (.iload_n 1, 1) := by decide +kernel
theorem dX5_tires_5 : decode cX5_tires 5 = .ok (.iaload, 1) := by decide +kernel
theorem dX5_tires_6 : decode cX5_tires 6 = .ok (.iconst 1, 1) := by decide +kernel
theorem dX5_tires_7 : decode cX5_tires 7 = .ok (.if_icmp .eq 13, 3) := by decide +kernel
theorem dX5_tires_10 : decode cX5_tires 10 = .ok (.aload_n 0, 1) := by decide +kernel
theorem dX5_tires_11 : decode cX5_tires 11 = .ok (.getfield 37, 3) := by decide +kernel
theorem dX5_tires_14 : decode cX5_tires 14 = .ok (.iload_n 1, 1) := by decide +kernel
theorem dX5_tires_15 : decode cX5_tires 15 = .ok (.iaload, 1) := by decide +kernel
theorem dX5_tires_16 : decode cX5_tires 16 = .ok (.iconst 3, 1) := by decide +kernel
theorem dX5_tires_17 : decode cX5_tires 17 = .ok (.if_icmp .ne 7, 3) := by decide +kernel
theorem dX5_tires_20 : decode cX5_tires 20 = .ok (.iconst 3, 1) := by decide +kernel
theorem dX5_tires_21 : decode cX5_tires 21 = .ok (.goto 4, 3) := by decide +kernel
theorem dX5_tires_24 : decode cX5_tires 24 = .ok (.iconst 2, 1) := by decide +kernel
theorem dX5_tires_25 : decode cX5_tires 25 = .ok (.ireturn, 1) := by decide +kernel
theorem dX5_rested_0 : decode cX5_rested 0 = .ok (.iload_n 2, 1) := by decide +kernel
theorem dX5_rested_1 : decode cX5_rested 1 = .ok (.aload_n 0, 1) := by decide +kernel
theorem dX5_rested_2 : decode cX5_rested 2 = .ok (.getfield 37, 3) := by decide +kernel
theorem dX5_rested_5 : decode cX5_rested 5 = .ok (.iload_n 1, 1) := by decide +kernel
theorem dX5_rested_6 : decode cX5_rested 6 = .ok (.iaload, 1) := by decide +kernel
theorem dX5_rested_7 : decode cX5_rested 7 = .ok (.iconst 3, 1) := by decide +kernel
theorem dX5_rested_8 : decode cX5_rested 8 = .ok (.if_icmp .ne 7, 3) := by decide +kernel
theorem dX5_rested_11 : decode cX5_rested 11 = .ok (.iconst 2, 1) := by decide +kernel
theorem dX5_rested_12 : decode cX5_rested 12 = .ok (.goto 4, 3) := by decide +kernel
theorem dX5_rested_15 : decode cX5_rested 15 = .ok (.iconst 1, 1) := by decide +kernel
theorem dX5_rested_16 : decode cX5_rested 16 = .ok (.isub, 1) := by decide +kernel
theorem dX5_rested_17 : decode cX5_rested 17 = .ok (.istore_n 3, 1) := by decide +kernel
theorem dX5_rested_18 : decode cX5_rested 18 = .ok (.iload_n 3, 1) := by decide +kernel
theorem dX5_rested_19 : decode cX5_rested 19 = .ok (.ifCond .le 7, 3) := by decide +kernel
theorem dX5_rested_22 : decode cX5_rested 22 = .ok (.iload_n 3, 1) := by decide +kernel
theorem dX5_rested_23 : decode cX5_rested 23 = .ok (.goto 4, 3) := by decide +kernel
theorem dX5_rested_26 : decode cX5_rested 26 = .ok (.iconst 0, 1) := by decide +kernel
theorem dX5_rested_27 : decode cX5_rested 27 = .ok (.ireturn, 1) := by decide +kernel
theorem dX5_tire_0 : decode cX5_tire 0 = .ok (.iconst 0, 1) := by decide +kernel
theorem dX5_tire_1 : decode cX5_tire 1 = .ok (.istore_n 1, 1) := by decide +kernel
theorem dX5_tire_2 : decode cX5_tire 2 = .ok (.iload_n 1, 1) := by decide +kernel
theorem dX5_tire_3 : decode cX5_tire 3 = .ok (.aload_n 0, 1) := by decide +kernel
theorem dX5_tire_4 : decode cX5_tire 4 = .ok (.getfield 74, 3) := by decide +kernel
theorem dX5_tire_7 : decode cX5_tire 7 = .ok (.if_icmp .ge 71, 3) := by decide +kernel
theorem dX5_tire_10 : decode cX5_tire 10 = .ok (.aload_n 0, 1) := by decide +kernel
theorem dX5_tire_11 : decode cX5_tire 11 = .ok (.getfield 116, 3) := by decide +kernel
theorem dX5_tire_14 : decode cX5_tire 14 = .ok (.iload_n 1, 1) := by decide +kernel
theorem dX5_tire_15 : decode cX5_tire 15 = .ok (.invokestatic 119, 3) := by decide +kernel
theorem dX5_tire_18 : decode cX5_tire 18 = .ok (.ifCond .eq 37, 3) := by decide +kernel
theorem dX5_tire_21 : decode cX5_tire 21 = .ok (.aload_n 0, 1) := by decide +kernel
theorem dX5_tire_22 : decode cX5_tire 22 = .ok (.getfield 46, 3) := by decide +kernel
theorem dX5_tire_25 : decode cX5_tire 25 = .ok (.iload_n 1, 1) := by decide +kernel
theorem dX5_tire_26 : decode cX5_tire 26 = .ok (.iaload, 1) := by decide +kernel
theorem dX5_tire_27 : decode cX5_tire 27 = .ok (.aload_n 0, 1) := by decide +kernel
theorem dX5_tire_28 : decode cX5_tire 28 = .ok (.iload_n 1, 1) := by decide +kernel
theorem dX5_tire_29 : decode cX5_tire 29 = .ok (.invokevirtual 125, 3) := by decide +kernel
theorem dX5_tire_32 : decode cX5_tire 32 = .ok (.iadd, 1) := by decide +kernel
theorem dX5_tire_33 : decode cX5_tire 33 = .ok (.istore_n 2, 1) := by decide +kernel
theorem dX5_tire_34 : decode cX5_tire 34 = .ok (.aload_n 0, 1) := by decide +kernel
theorem dX5_tire_35 : decode cX5_tire 35 = .ok (.getfield 46, 3) := by decide +kernel
theorem dX5_tire_38 : decode cX5_tire 38 = .ok (.iload_n 1, 1) := by decide +kernel
theorem dX5_tire_39 : decode cX5_tire 39 = .ok (.iload_n 2, 1) := by decide +kernel
theorem dX5_tire_40 : decode cX5_tire 40 = .ok (.bipush 100, 2) := by decide +kernel
theorem dX5_tire_42 : decode cX5_tire 42 = .ok (.if_icmp .ge 7, 3) := by decide +kernel
theorem dX5_tire_45 : decode cX5_tire 45 = .ok (.iload_n 2, 1) := by decide +kernel
theorem dX5_tire_46 : decode cX5_tire 46 = .ok (.goto 5, 3) := by decide +kernel
theorem dX5_tire_49 : decode cX5_tire 49 = .ok (.bipush 100, 2) := by decide +kernel
theorem dX5_tire_51 : decode cX5_tire 51 = .ok (.iastore, 1) := by decide +kernel
theorem dX5_tire_52 : decode cX5_tire 52 = .ok (.goto 20, 3) := by decide +kernel
theorem dX5_tire_55 : decode cX5_tire 55 = .ok (.aload_n 0, 1) := by decide +kernel
theorem dX5_tire_56 : decode cX5_tire 56 = .ok (.getfield 46, 3) := by decide +kernel
theorem dX5_tire_59 : decode cX5_tire 59 = .ok (.iload_n 1, 1) := by decide +kernel
theorem dX5_tire_60 : decode cX5_tire 60 = .ok (.aload_n 0, 1) := by decide +kernel
theorem dX5_tire_61 : decode cX5_tire 61 = .ok (.iload_n 1, 1) := by decide +kernel
theorem dX5_tire_62 : decode cX5_tire 62 = .ok (.aload_n 0, 1) := by decide +kernel
theorem dX5_tire_63 : decode cX5_tire 63 = .ok (.getfield 46, 3) := by decide +kernel
theorem dX5_tire_66 : decode cX5_tire 66 = .ok (.iload_n 1, 1) := by decide +kernel
theorem dX5_tire_67 : decode cX5_tire 67 = .ok (.iaload, 1) := by decide +kernel
theorem dX5_tire_68 : decode cX5_tire 68 = .ok (.invokevirtual 261, 3) := by decide +kernel
theorem dX5_tire_71 : decode cX5_tire 71 = .ok (.iastore, 1) := by decide +kernel
theorem dX5_tire_72 : decode cX5_tire 72 = .ok (.iinc 1 1, 3) := by decide +kernel
theorem dX5_tire_75 : decode cX5_tire 75 = .ok (.goto (-73), 3) := by decide +kernel
theorem dX5_tire_78 : decode cX5_tire 78 = .ok (.return_, 1) := by decide +kernel
theorem dX5_come_0 : decode cX5_come 0 = .ok (.aload_n 0, 1) := by decide +kernel
theorem dX5_come_1 : decode cX5_come 1 = .ok (.getfield 255, 3) := by decide +kernel
theorem dX5_come_4 : decode cX5_come 4 = .ok (.ifCond .eq 32, 3) := by decide +kernel
theorem dX5_come_7 : decode cX5_come 7 = .ok (.aload_n 0, 1) := by decide +kernel
theorem dX5_come_8 : decode cX5_come 8 = .ok (.dup, 1) := by decide +kernel
theorem dX5_come_9 : decode cX5_come 9 = .ok (.getfield 265, 3) := by decide +kernel
theorem dX5_come_12 : decode cX5_come 12 = .ok (.iconst 1, 1) := by decide +kernel
theorem dX5_come_13 : decode cX5_come 13 = .ok (.isub, 1) := by decide +kernel
theorem dX5_come_14 : decode cX5_come 14 = .ok (.putfield 265, 3) := by decide +kernel
theorem dX5_come_17 : decode cX5_come 17 = .ok (.aload_n 0, 1) := by decide +kernel
theorem dX5_come_18 : decode cX5_come 18 = .ok (.aload_n 0, 1) := by decide +kernel
theorem dX5_come_19 : decode cX5_come 19 = .ok (.getfield 265, 3) := by decide +kernel
theorem dX5_come_22 : decode cX5_come 22 = .ok (.ifCond .ne 7, 3) := by decide +kernel
theorem dX5_come_25 : decode cX5_come 25 = .ok (.iconst 0, 1) := by decide +kernel
theorem dX5_come_26 : decode cX5_come 26 = .ok (.goto 7, 3) := by decide +kernel
theorem dX5_come_29 : decode cX5_come 29 = .ok (.aload_n 0, 1) := by decide +kernel
theorem dX5_come_30 : decode cX5_come 30 = .ok (.getfield 255, 3) := by decide +kernel
theorem dX5_come_33 : decode cX5_come 33 = .ok (.putfield 255, 3) := by decide +kernel
theorem dX5_come_36 : decode cX5_come 36 = .ok (.return_, 1) := by decide +kernel
theorem dX5_goes_0 : decode cX5_goes 0 = .ok (.aload_n 0, 1) := by decide +kernel
theorem dX5_goes_1 : decode cX5_goes 1 = .ok (.iconst 0, 1) := by decide +kernel
theorem dX5_goes_2 : decode cX5_goes 2 = .ok (.putfield 268, 3) := by decide +kernel
theorem dX5_goes_5 : decode cX5_goes 5 = .ok (.aload_n 0, 1) := by decide +kernel
theorem dX5_goes_6 : decode cX5_goes 6 = .ok (.iconst 0, 1) := by decide +kernel
theorem dX5_goes_7 : decode cX5_goes 7 = .ok (.putfield 271, 3) := by decide +kernel
theorem dX5_goes_10 : decode cX5_goes 10 = .ok (.iconst 0, 1) := by decide +kernel
theorem dX5_goes_11 : decode cX5_goes 11 = .ok (.istore_n 2, 1) := by decide +kernel
theorem dX5_goes_12 : decode cX5_goes 12 = .ok (.iload_n 2, 1) := by decide +kernel
theorem dX5_goes_13 : decode cX5_goes 13 = .ok (.iload_n 1, 1) := by decide +kernel
theorem dX5_goes_14 : decode cX5_goes 14 = .ok (.if_icmp .ge 43, 3) := by decide +kernel
theorem dX5_goes_17 : decode cX5_goes 17 = .ok (.aload_n 0, 1) := by decide +kernel
theorem dX5_goes_18 : decode cX5_goes 18 = .ok (.invokevirtual 274, 3) := by decide +kernel
theorem dX5_goes_21 : decode cX5_goes 21 = .ok (.aload_n 0, 1) := by decide +kernel
theorem dX5_goes_22 : decode cX5_goes 22 = .ok (.dup, 1) := by decide +kernel
theorem dX5_goes_23 : decode cX5_goes 23 = .ok (.getfield 268, 3) := by decide +kernel
theorem dX5_goes_26 : decode cX5_goes 26 = .ok (.aload_n 0, 1) := by decide +kernel
theorem dX5_goes_27 : decode cX5_goes 27 = .ok (.invokevirtual 277, 3) := by decide +kernel
theorem dX5_goes_30 : decode cX5_goes 30 = .ok (.iadd, 1) := by decide +kernel
theorem dX5_goes_31 : decode cX5_goes 31 = .ok (.putfield 268, 3) := by decide +kernel
theorem dX5_goes_34 : decode cX5_goes 34 = .ok (.aload_n 0, 1) := by decide +kernel
theorem dX5_goes_35 : decode cX5_goes 35 = .ok (.dup, 1) := by decide +kernel
theorem dX5_goes_36 : decode cX5_goes 36 = .ok (.getfield 271, 3) := by decide +kernel
theorem dX5_goes_39 : decode cX5_goes 39 = .ok (.aload_n 0, 1) := by decide +kernel
theorem dX5_goes_40 : decode cX5_goes 40 = .ok (.invokevirtual 280, 3) := by decide +kernel
theorem dX5_goes_43 : decode cX5_goes 43 = .ok (.iadd, 1) := by decide +kernel
theorem dX5_goes_44 : decode cX5_goes 44 = .ok (.putfield 271, 3) := by decide +kernel
theorem dX5_goes_47 : decode cX5_goes 47 = .ok (.aload_n 0, 1) := by decide +kernel
theorem dX5_goes_48 : decode cX5_goes 48 = .ok (.invokevirtual 283, 3) := by decide +kernel
theorem dX5_goes_51 : decode cX5_goes 51 = .ok (.iinc 2 1, 3) := by decide +kernel
theorem dX5_goes_54 : decode cX5_goes 54 = .ok (.goto (-42), 3) := by decide +kernel
theorem dX5_goes_57 : decode cX5_goes 57 = .ok (.aload_n 0, 1) := by decide +kernel
theorem dX5_goes_58 : decode cX5_goes 58 = .ok (.getfield 268, 3) := by decide +kernel
theorem dX5_goes_61 : decode cX5_goes 61 = .ok (.aload_n 0, 1) := by decide +kernel
theorem dX5_goes_62 : decode cX5_goes 62 = .ok (.getfield 271, 3) := by decide +kernel
theorem dX5_goes_65 : decode cX5_goes 65 = .ok (.isub, 1) := by decide +kernel
theorem dX5_goes_66 : decode cX5_goes 66 = .ok (.ireturn, 1) := by decide +kernel
theorem dX5_secondTruly_0 : decode cX5_secondTruly 0 = .ok (.aload_n 0, 1) := by decide +kernel
theorem dX5_secondTruly_1 : decode cX5_secondTruly 1 = .ok (.invokevirtual 274, 3) := by decide +kernel
theorem dX5_secondTruly_4 : decode cX5_secondTruly 4 = .ok (.aload_n 0, 1) := by decide +kernel
theorem dX5_secondTruly_5 : decode cX5_secondTruly 5 = .ok (.invokevirtual 277, 3) := by decide +kernel
theorem dX5_secondTruly_8 : decode cX5_secondTruly 8 = .ok (.istore_n 1, 1) := by decide +kernel
theorem dX5_secondTruly_9 : decode cX5_secondTruly 9 = .ok (.aload_n 0, 1) := by decide +kernel
theorem dX5_secondTruly_10 : decode cX5_secondTruly 10 = .ok (.invokevirtual 280, 3) := by decide +kernel
theorem dX5_secondTruly_13 : decode cX5_secondTruly 13 = .ok (.istore_n 2, 1) := by decide +kernel
theorem dX5_secondTruly_14 : decode cX5_secondTruly 14 = .ok (.aload_n 0, 1) := by decide +kernel
theorem dX5_secondTruly_15 : decode cX5_secondTruly 15 = .ok (.dup, 1) := by decide +kernel
theorem dX5_secondTruly_16 : decode cX5_secondTruly 16 = .ok (.getfield 286, 3) := by decide +kernel
theorem dX5_secondTruly_19 : decode cX5_secondTruly 19 = .ok (.iconst 1, 1) := by decide +kernel
theorem dX5_secondTruly_20 : decode cX5_secondTruly 20 = .ok (.iadd, 1) := by decide +kernel
theorem dX5_secondTruly_21 : decode cX5_secondTruly 21 = .ok (.putfield 286, 3) := by decide +kernel
theorem dX5_secondTruly_24 : decode cX5_secondTruly 24 = .ok (.aload_n 0, 1) := by decide +kernel
theorem dX5_secondTruly_25 : decode cX5_secondTruly 25 = .ok (.dup, 1) := by decide +kernel
theorem dX5_secondTruly_26 : decode cX5_secondTruly 26 = .ok (.getfield 289, 3) := by decide +kernel
theorem dX5_secondTruly_29 : decode cX5_secondTruly 29 = .ok (.aload_n 0, 1) := by decide +kernel
theorem dX5_secondTruly_30 : decode cX5_secondTruly 30 = .ok (.getfield 255, 3) := by decide +kernel
theorem dX5_secondTruly_33 : decode cX5_secondTruly 33 = .ok (.ifCond .eq 7, 3) := by decide +kernel
theorem dX5_secondTruly_36 : decode cX5_secondTruly 36 = .ok (.iconst 1, 1) := by decide +kernel
theorem dX5_secondTruly_37 : decode cX5_secondTruly 37 = .ok (.goto 4, 3) := by decide +kernel
theorem dX5_secondTruly_40 : decode cX5_secondTruly 40 = .ok (.iconst 0, 1) := by decide +kernel
theorem dX5_secondTruly_41 : decode cX5_secondTruly 41 = .ok (.iadd, 1) := by decide +kernel
theorem dX5_secondTruly_42 : decode cX5_secondTruly 42 = .ok (.putfield 289, 3) := by decide +kernel
theorem dX5_secondTruly_45 : decode cX5_secondTruly 45 = .ok (.aload_n 0, 1) := by decide +kernel
theorem dX5_secondTruly_46 : decode cX5_secondTruly 46 = .ok (.invokevirtual 283, 3) := by decide +kernel
theorem dX5_secondTruly_49 : decode cX5_secondTruly 49 = .ok (.aload_n 0, 1) := by decide +kernel
theorem dX5_secondTruly_50 : decode cX5_secondTruly 50 = .ok (.ldc_w 292, 3) := by decide +kernel
theorem dX5_secondTruly_53 : decode cX5_secondTruly 53 = .ok (.invokevirtual 293, 3) := by decide +kernel
theorem dX5_secondTruly_56 : decode cX5_secondTruly 56 = .ok (.istore_n 3, 1) := by decide +kernel
theorem dX5_secondTruly_57 : decode cX5_secondTruly 57 = .ok (.iload_n 3, 1) := by decide +kernel
theorem dX5_secondTruly_58 : decode cX5_secondTruly 58 = .ok (.iload_n 1, 1) := by decide +kernel
theorem dX5_secondTruly_59 : decode cX5_secondTruly 59 = .ok (.iload_n 2, 1) := by decide +kernel
theorem dX5_secondTruly_60 : decode cX5_secondTruly 60 = .ok (.iadd, 1) := by decide +kernel
theorem dX5_secondTruly_61 : decode cX5_secondTruly 61 = .ok (.if_icmp .ge 7, 3) := by decide +kernel
theorem dX5_secondTruly_64 : decode cX5_secondTruly 64 = .ok (.iconst 1, 1) := by decide +kernel
theorem dX5_secondTruly_65 : decode cX5_secondTruly 65 = .ok (.goto 4, 3) := by decide +kernel
theorem dX5_secondTruly_68 : decode cX5_secondTruly 68 = .ok (.iconst 0, 1) := by decide +kernel
theorem dX5_secondTruly_69 : decode cX5_secondTruly 69 = .ok (.istore 4, 2) := by decide +kernel
theorem dX5_secondTruly_71 : decode cX5_secondTruly 71 = .ok (.iload 4, 2) := by decide +kernel
theorem dX5_secondTruly_73 : decode cX5_secondTruly 73 = .ok (.ifCond .eq 46, 3) := by decide +kernel
theorem dX5_secondTruly_76 : decode cX5_secondTruly 76 = .ok (.aload_n 0, 1) := by decide +kernel
theorem dX5_secondTruly_77 : decode cX5_secondTruly 77 = .ok (.dup, 1) := by decide +kernel
theorem dX5_secondTruly_78 : decode cX5_secondTruly 78 = .ok (.getfield 296, 3) := by decide +kernel
theorem dX5_secondTruly_81 : decode cX5_secondTruly 81 = .ok (.iload_n 3, 1) := by decide +kernel
theorem dX5_secondTruly_82 : decode cX5_secondTruly 82 = .ok (.iload_n 1, 1) := by decide +kernel
theorem dX5_secondTruly_83 : decode cX5_secondTruly 83 = .ok (.if_icmp .ge 7, 3) := by decide +kernel
theorem dX5_secondTruly_86 : decode cX5_secondTruly 86 = .ok (.iconst 1, 1) := by decide +kernel
theorem dX5_secondTruly_87 : decode cX5_secondTruly 87 = .ok (.goto 4, 3) := by decide +kernel
theorem dX5_secondTruly_90 : decode cX5_secondTruly 90 = .ok (.iconst 0, 1) := by decide +kernel
theorem dX5_secondTruly_91 : decode cX5_secondTruly 91 = .ok (.iadd, 1) := by decide +kernel
theorem dX5_secondTruly_92 : decode cX5_secondTruly 92 = .ok (.putfield 296, 3) := by decide +kernel
theorem dX5_secondTruly_95 : decode cX5_secondTruly 95 = .ok (.aload_n 0, 1) := by decide +kernel
theorem dX5_secondTruly_96 : decode cX5_secondTruly 96 = .ok (.dup, 1) := by decide +kernel
theorem dX5_secondTruly_97 : decode cX5_secondTruly 97 = .ok (.getfield 299, 3) := by decide +kernel
theorem dX5_secondTruly_100 : decode cX5_secondTruly 100 = .ok (.iload_n 3, 1) := by decide +kernel
theorem dX5_secondTruly_101 : decode cX5_secondTruly 101 = .ok (.iload_n 1, 1) := by decide +kernel
theorem dX5_secondTruly_102 : decode cX5_secondTruly 102 = .ok (.if_icmp .ge 7, 3) := by decide +kernel
theorem dX5_secondTruly_105 : decode cX5_secondTruly 105 = .ok (.iconst 0, 1) := by decide +kernel
theorem dX5_secondTruly_106 : decode cX5_secondTruly 106 = .ok (.goto 4, 3) := by decide +kernel
theorem dX5_secondTruly_109 : decode cX5_secondTruly 109 = .ok (.iconst 1, 1) := by decide +kernel
theorem dX5_secondTruly_110 : decode cX5_secondTruly 110 = .ok (.iadd, 1) := by decide +kernel
theorem dX5_secondTruly_111 : decode cX5_secondTruly 111 = .ok (.putfield 299, 3) := by decide +kernel
theorem dX5_secondTruly_114 : decode cX5_secondTruly 114 = .ok (.aload_n 0, 1) := by decide +kernel
theorem dX5_secondTruly_115 : decode cX5_secondTruly 115 = .ok (.iconst 1, 1) := by decide +kernel
theorem dX5_secondTruly_116 : decode cX5_secondTruly 116 = .ok (.putfield 52, 3) := by decide +kernel
theorem dX5_secondTruly_119 : decode cX5_secondTruly 119 = .ok (.iload 4, 2) := by decide +kernel
theorem dX5_secondTruly_121 : decode cX5_secondTruly 121 = .ok (.ireturn, 1) := by decide +kernel
theorem dX5_wayTo_0 : decode cX5_wayTo 0 = .ok (.aload_n 0, 1) := by decide +kernel
theorem dX5_wayTo_1 : decode cX5_wayTo 1 = .ok (.getfield 49, 3) := by decide +kernel
theorem dX5_wayTo_4 : decode cX5_wayTo 4 = .ok (.iload_n 1, 1) := by decide +kernel
theorem dX5_wayTo_5 : decode cX5_wayTo 5 = .ok (.iaload, 1) := by decide +kernel
theorem dX5_wayTo_6 : decode cX5_wayTo 6 = .ok (.aload_n 0, 1) := by decide +kernel
theorem dX5_wayTo_7 : decode cX5_wayTo 7 = .ok (.getfield 116, 3) := by decide +kernel
theorem dX5_wayTo_10 : decode cX5_wayTo 10 = .ok (.iconst (-1), 1) := by decide +kernel
theorem dX5_wayTo_11 : decode cX5_wayTo 11 = .ok (.ixor, 1) := by decide +kernel
theorem dX5_wayTo_12 : decode cX5_wayTo 12 = .ok (.iand, 1) := by decide +kernel
theorem dX5_wayTo_13 : decode cX5_wayTo 13 = .ok (.ifCond .ne 5, 3) := by decide +kernel
theorem dX5_wayTo_16 : decode cX5_wayTo 16 = .ok (.iconst 0, 1) := by decide +kernel
theorem dX5_wayTo_17 : decode cX5_wayTo 17 = .ok (.ireturn, 1) := by decide +kernel
theorem dX5_wayTo_18 : decode cX5_wayTo 18 = .ok (.iconst 3, 1) := by decide +kernel
theorem dX5_wayTo_19 : decode cX5_wayTo 19 = .ok (.aload_n 0, 1) := by decide +kernel
theorem dX5_wayTo_20 : decode cX5_wayTo 20 = .ok (.getfield 146, 3) := by decide +kernel
theorem dX5_wayTo_23 : decode cX5_wayTo 23 = .ok (.iconst 1, 1) := by decide +kernel
theorem dX5_wayTo_24 : decode cX5_wayTo 24 = .ok (.if_icmp .ne 7, 3) := by decide +kernel
theorem dX5_wayTo_27 : decode cX5_wayTo 27 = .ok (.iconst 2, 1) := by decide +kernel
theorem dX5_wayTo_28 : decode cX5_wayTo 28 = .ok (.goto 4, 3) := by decide +kernel
theorem dX5_wayTo_31 : decode cX5_wayTo 31 = .ok (.iconst 0, 1) := by decide +kernel
theorem dX5_wayTo_32 : decode cX5_wayTo 32 = .ok (.iadd, 1) := by decide +kernel
theorem dX5_wayTo_33 : decode cX5_wayTo 33 = .ok (.aload_n 0, 1) := by decide +kernel
theorem dX5_wayTo_34 : decode cX5_wayTo 34 = .ok (.getfield 52, 3) := by decide +kernel
theorem dX5_wayTo_37 : decode cX5_wayTo 37 = .ok (.iconst 2, 1) := by decide +kernel
theorem dX5_wayTo_38 : decode cX5_wayTo 38 = .ok (.if_icmp .ne 7, 3) := by decide +kernel
theorem dX5_wayTo_41 : decode cX5_wayTo 41 = .ok (.iconst 2, 1) := by decide +kernel
theorem dX5_wayTo_42 : decode cX5_wayTo 42 = .ok (.goto 4, 3) := by decide +kernel
theorem dX5_wayTo_45 : decode cX5_wayTo 45 = .ok (.iconst 0, 1) := by decide +kernel
theorem dX5_wayTo_46 : decode cX5_wayTo 46 = .ok (.isub, 1) := by decide +kernel
theorem dX5_wayTo_47 : decode cX5_wayTo 47 = .ok (.istore_n 2, 1) := by decide +kernel
theorem dX5_wayTo_48 : decode cX5_wayTo 48 = .ok (.iconst 0, 1) := by decide +kernel
theorem dX5_wayTo_49 : decode cX5_wayTo 49 = .ok (.istore_n 3, 1) := by decide +kernel
theorem dX5_wayTo_50 : decode cX5_wayTo 50 = .ok (.iload_n 3, 1) := by decide +kernel
theorem dX5_wayTo_51 : decode cX5_wayTo 51 = .ok (.aload_n 0, 1) := by decide +kernel
theorem dX5_wayTo_52 : decode cX5_wayTo 52 = .ok (.getfield 74, 3) := by decide +kernel
theorem dX5_wayTo_55 : decode cX5_wayTo 55 = .ok (.if_icmp .ge 61, 3) := by decide +kernel
theorem dX5_wayTo_58 : decode cX5_wayTo 58 = .ok (.aload_n 0, 1) := by decide +kernel
theorem dX5_wayTo_59 : decode cX5_wayTo 59 = .ok (.getfield 116, 3) := by decide +kernel
theorem dX5_wayTo_62 : decode cX5_wayTo 62 = .ok (.aload_n 0, 1) := by decide +kernel
theorem dX5_wayTo_63 : decode cX5_wayTo 63 = .ok (.getfield 49, 3) := by decide +kernel
theorem dX5_wayTo_66 : decode cX5_wayTo 66 = .ok (.iload_n 1, 1) := by decide +kernel
theorem dX5_wayTo_67 : decode cX5_wayTo 67 = .ok (.iaload, 1) := by decide +kernel
theorem dX5_wayTo_68 : decode cX5_wayTo 68 = .ok (.iconst (-1), 1) := by decide +kernel
theorem dX5_wayTo_69 : decode cX5_wayTo 69 = .ok (.ixor, 1) := by decide +kernel
theorem dX5_wayTo_70 : decode cX5_wayTo 70 = .ok (.iand, 1) := by decide +kernel
theorem dX5_wayTo_71 : decode cX5_wayTo 71 = .ok (.iload_n 3, 1) := by decide +kernel
theorem dX5_wayTo_72 : decode cX5_wayTo 72 = .ok (.invokestatic 119, 3) := by decide +kernel
theorem dX5_wayTo_75 : decode cX5_wayTo 75 = .ok (.istore 4, 2) := by decide +kernel
theorem dX5_wayTo_77 : decode cX5_wayTo 77 = .ok (.iload_n 2, 1) := by decide +kernel
theorem dX5_wayTo_78 : decode cX5_wayTo 78 = .ok (.iload 4, 2) := by decide +kernel
theorem dX5_wayTo_80 : decode cX5_wayTo 80 = .ok (.ifCond .eq 27, 3) := by decide +kernel
theorem dX5_wayTo_83 : decode cX5_wayTo 83 = .ok (.aload_n 0, 1) := by decide +kernel
theorem dX5_wayTo_84 : decode cX5_wayTo 84 = .ok (.getfield 37, 3) := by decide +kernel
theorem dX5_wayTo_87 : decode cX5_wayTo 87 = .ok (.iload_n 3, 1) := by decide +kernel
theorem dX5_wayTo_88 : decode cX5_wayTo 88 = .ok (.iaload, 1) := by decide +kernel
theorem dX5_wayTo_89 : decode cX5_wayTo 89 = .ok (.iconst 4, 1) := by decide +kernel
theorem dX5_wayTo_90 : decode cX5_wayTo 90 = .ok (.if_icmp .eq 13, 3) := by decide +kernel
theorem dX5_wayTo_93 : decode cX5_wayTo 93 = .ok (.aload_n 0, 1) := by decide +kernel
theorem dX5_wayTo_94 : decode cX5_wayTo 94 = .ok (.getfield 37, 3) := by decide +kernel
theorem dX5_wayTo_97 : decode cX5_wayTo 97 = .ok (.iload_n 3, 1) := by decide +kernel
theorem dX5_wayTo_98 : decode cX5_wayTo 98 = .ok (.iaload, 1) := by decide +kernel
theorem dX5_wayTo_99 : decode cX5_wayTo 99 = .ok (.iconst 5, 1) := by decide +kernel
theorem dX5_wayTo_100 : decode cX5_wayTo 100 = .ok (.if_icmp .ne 7, 3) := by decide +kernel
theorem dX5_wayTo_103 : decode cX5_wayTo 103 = .ok (.iconst 1, 1) := by decide +kernel
theorem dX5_wayTo_104 : decode cX5_wayTo 104 = .ok (.goto 4, 3) := by decide +kernel
theorem dX5_wayTo_107 : decode cX5_wayTo 107 = .ok (.iconst 0, 1) := by decide +kernel
theorem dX5_wayTo_108 : decode cX5_wayTo 108 = .ok (.isub, 1) := by decide +kernel
theorem dX5_wayTo_109 : decode cX5_wayTo 109 = .ok (.istore_n 2, 1) := by decide +kernel
theorem dX5_wayTo_110 : decode cX5_wayTo 110 = .ok (.iinc 3 1, 3) := by decide +kernel
theorem dX5_wayTo_113 : decode cX5_wayTo 113 = .ok (.goto (-63), 3) := by decide +kernel
theorem dX5_wayTo_116 : decode cX5_wayTo 116 = .ok (.iload_n 2, 1) := by decide +kernel
theorem dX5_wayTo_117 : decode cX5_wayTo 117 = .ok (.iconst 1, 1) := by decide +kernel
theorem dX5_wayTo_118 : decode cX5_wayTo 118 = .ok (.if_icmp .le 7, 3) := by decide +kernel
theorem dX5_wayTo_121 : decode cX5_wayTo 121 = .ok (.iload_n 2, 1) := by decide +kernel
theorem dX5_wayTo_122 : decode cX5_wayTo 122 = .ok (.goto 4, 3) := by decide +kernel
theorem dX5_wayTo_125 : decode cX5_wayTo 125 = .ok (.iconst 1, 1) := by decide +kernel
theorem dX5_wayTo_126 : decode cX5_wayTo 126 = .ok (.ireturn, 1) := by decide +kernel
theorem dX5_changes_0 : decode cX5_changes 0 = .ok (.aload_n 0, 1) := by decide +kernel
theorem dX5_changes_1 : decode cX5_changes 1 = .ok (.iload_n 1, 1) := by decide +kernel
theorem dX5_changes_2 : decode cX5_changes 2 = .ok (.invokevirtual 302, 3) := by decide +kernel
theorem dX5_changes_5 : decode cX5_changes 5 = .ok (.istore_n 2, 1) := by decide +kernel
theorem dX5_changes_6 : decode cX5_changes 6 = .ok (.aload_n 0, 1) := by decide +kernel
theorem dX5_changes_7 : decode cX5_changes 7 = .ok (.aload_n 0, 1) := by decide +kernel
theorem dX5_changes_8 : decode cX5_changes 8 = .ok (.getfield 49, 3) := by decide +kernel
theorem dX5_changes_11 : decode cX5_changes 11 = .ok (.iload_n 1, 1) := by decide +kernel
theorem dX5_changes_12 : decode cX5_changes 12 = .ok (.iaload, 1) := by decide +kernel
theorem dX5_changes_13 : decode cX5_changes 13 = .ok (.aload_n 0, 1) := by decide +kernel
theorem dX5_changes_14 : decode cX5_changes 14 = .ok (.getfield 116, 3) := by decide +kernel
theorem dX5_changes_17 : decode cX5_changes 17 = .ok (.iconst (-1), 1) := by decide +kernel
theorem dX5_changes_18 : decode cX5_changes 18 = .ok (.ixor, 1) := by decide +kernel
theorem dX5_changes_19 : decode cX5_changes 19 = .ok (.iand, 1) := by decide +kernel
theorem dX5_changes_20 : decode cX5_changes 20 = .ok (.putfield 255, 3) := by decide +kernel
theorem dX5_changes_23 : decode cX5_changes 23 = .ok (.aload_n 0, 1) := by decide +kernel
theorem dX5_changes_24 : decode cX5_changes 24 = .ok (.iload_n 2, 1) := by decide +kernel
theorem dX5_changes_25 : decode cX5_changes 25 = .ok (.putfield 265, 3) := by decide +kernel
theorem dX5_changes_28 : decode cX5_changes 28 = .ok (.aload_n 0, 1) := by decide +kernel
theorem dX5_changes_29 : decode cX5_changes 29 = .ok (.aload_n 0, 1) := by decide +kernel
theorem dX5_changes_30 : decode cX5_changes 30 = .ok (.getfield 49, 3) := by decide +kernel
theorem dX5_changes_33 : decode cX5_changes 33 = .ok (.iload_n 1, 1) := by decide +kernel
theorem dX5_changes_34 : decode cX5_changes 34 = .ok (.iaload, 1) := by decide +kernel
theorem dX5_changes_35 : decode cX5_changes 35 = .ok (.putfield 116, 3) := by decide +kernel
theorem dX5_changes_38 : decode cX5_changes 38 = .ok (.iload_n 2, 1) := by decide +kernel
theorem dX5_changes_39 : decode cX5_changes 39 = .ok (.ireturn, 1) := by decide +kernel
theorem dX5_whistles_0 : decode cX5_whistles 0 = .ok (.aload_n 0, 1) := by decide +kernel
theorem dX5_whistles_1 : decode cX5_whistles 1 = .ok (.aload_n 0, 1) := by decide +kernel
theorem dX5_whistles_2 : decode cX5_whistles 2 = .ok (.getfield 49, 3) := by decide +kernel
theorem dX5_whistles_5 : decode cX5_whistles 5 = .ok (.iload_n 1, 1) := by decide +kernel
theorem dX5_whistles_6 : decode cX5_whistles 6 = .ok (.iaload, 1) := by decide +kernel
theorem dX5_whistles_7 : decode cX5_whistles 7 = .ok (.invokevirtual 305, 3) := by decide +kernel
theorem dX5_whistles_10 : decode cX5_whistles 10 = .ok (.return_, 1) := by decide +kernel
theorem dX5_stand_0 : decode cX5_stand 0 = .ok (.aload_n 0, 1) := by decide +kernel
theorem dX5_stand_1 : decode cX5_stand 1 = .ok (.iload_n 1, 1) := by decide +kernel
theorem dX5_stand_2 : decode cX5_stand 2 = .ok (.putfield 116, 3) := by decide +kernel
theorem dX5_stand_5 : decode cX5_stand 5 = .ok (.aload_n 0, 1) := by decide +kernel
theorem dX5_stand_6 : decode cX5_stand 6 = .ok (.iconst 0, 1) := by decide +kernel
theorem dX5_stand_7 : decode cX5_stand 7 = .ok (.putfield 255, 3) := by decide +kernel
theorem dX5_stand_10 : decode cX5_stand 10 = .ok (.aload_n 0, 1) := by decide +kernel
theorem dX5_stand_11 : decode cX5_stand 11 = .ok (.iconst 0, 1) := by decide +kernel
theorem dX5_stand_12 : decode cX5_stand 12 = .ok (.putfield 265, 3) := by decide +kernel
theorem dX5_stand_15 : decode cX5_stand 15 = .ok (.return_, 1) := by decide +kernel
theorem dX5_playerOf_0 : decode cX5_playerOf 0 = .ok (.aload_n 0, 1) := by decide +kernel
theorem dX5_playerOf_1 : decode cX5_playerOf 1 = .ok (.iload_n 1, 1) := by decide +kernel
theorem dX5_playerOf_2 : decode cX5_playerOf 2 = .ok (.invokevirtual 100, 3) := by decide +kernel
theorem dX5_playerOf_5 : decode cX5_playerOf 5 = .ok (.ifCond .ne 10, 3) := by decide +kernel
theorem dX5_playerOf_8 : decode cX5_playerOf 8 = .ok (.aload_n 0, 1) := by decide +kernel
theorem dX5_playerOf_9 : decode cX5_playerOf 9 = .ok (.bipush (-2), 2) := by decide +kernel
theorem dX5_playerOf_11 : decode cX5_playerOf 11 = .ok (.invokevirtual 89, 3) := by decide +kernel
theorem dX5_playerOf_14 : decode cX5_playerOf 14 = .ok (.ireturn, 1) := by decide +kernel
theorem dX5_playerOf_15 : decode cX5_playerOf 15 = .ok (.iload_n 2, 1) := by decide +kernel
theorem dX5_playerOf_16 : decode cX5_playerOf 16 = .ok (.tableswitch 122 0 7 #[48, 55, 62, 69, 76, 93, 110, 116], 48) := by decide +kernel
theorem dX5_playerOf_64 : decode cX5_playerOf 64 = .ok (.aload_n 0, 1) := by decide +kernel
theorem dX5_playerOf_65 : decode cX5_playerOf 65 = .ok (.getfield 37, 3) := by decide +kernel
theorem dX5_playerOf_68 : decode cX5_playerOf 68 = .ok (.iload_n 1, 1) := by decide +kernel
theorem dX5_playerOf_69 : decode cX5_playerOf 69 = .ok (.iaload, 1) := by decide +kernel
theorem dX5_playerOf_70 : decode cX5_playerOf 70 = .ok (.ireturn, 1) := by decide +kernel
theorem dX5_playerOf_71 : decode cX5_playerOf 71 = .ok (.aload_n 0, 1) := by decide +kernel
theorem dX5_playerOf_72 : decode cX5_playerOf 72 = .ok (.getfield 40, 3) := by decide +kernel
theorem dX5_playerOf_75 : decode cX5_playerOf 75 = .ok (.iload_n 1, 1) := by decide +kernel
theorem dX5_playerOf_76 : decode cX5_playerOf 76 = .ok (.iaload, 1) := by decide +kernel
theorem dX5_playerOf_77 : decode cX5_playerOf 77 = .ok (.ireturn, 1) := by decide +kernel
theorem dX5_playerOf_78 : decode cX5_playerOf 78 = .ok (.aload_n 0, 1) := by decide +kernel
theorem dX5_playerOf_79 : decode cX5_playerOf 79 = .ok (.getfield 43, 3) := by decide +kernel
theorem dX5_playerOf_82 : decode cX5_playerOf 82 = .ok (.iload_n 1, 1) := by decide +kernel
theorem dX5_playerOf_83 : decode cX5_playerOf 83 = .ok (.iaload, 1) := by decide +kernel
theorem dX5_playerOf_84 : decode cX5_playerOf 84 = .ok (.ireturn, 1) := by decide +kernel
theorem dX5_playerOf_85 : decode cX5_playerOf 85 = .ok (.aload_n 0, 1) := by decide +kernel
theorem dX5_playerOf_86 : decode cX5_playerOf 86 = .ok (.getfield 46, 3) := by decide +kernel
theorem dX5_playerOf_89 : decode cX5_playerOf 89 = .ok (.iload_n 1, 1) := by decide +kernel
theorem dX5_playerOf_90 : decode cX5_playerOf 90 = .ok (.iaload, 1) := by decide +kernel
theorem dX5_playerOf_91 : decode cX5_playerOf 91 = .ok (.ireturn, 1) := by decide +kernel
theorem dX5_playerOf_92 : decode cX5_playerOf 92 = .ok (.aload_n 0, 1) := by decide +kernel
theorem dX5_playerOf_93 : decode cX5_playerOf 93 = .ok (.getfield 116, 3) := by decide +kernel
theorem dX5_playerOf_96 : decode cX5_playerOf 96 = .ok (.iload_n 1, 1) := by decide +kernel
theorem dX5_playerOf_97 : decode cX5_playerOf 97 = .ok (.invokestatic 119, 3) := by decide +kernel
theorem dX5_playerOf_100 : decode cX5_playerOf 100 = .ok (.ifCond .eq 7, 3) := by decide +kernel
theorem dX5_playerOf_103 : decode cX5_playerOf 103 = .ok (.iconst 1, 1) := by decide +kernel
theorem dX5_playerOf_104 : decode cX5_playerOf 104 = .ok (.goto 4, 3) := by decide +kernel
theorem dX5_playerOf_107 : decode cX5_playerOf 107 = .ok (.iconst 0, 1) := by decide +kernel
theorem dX5_playerOf_108 : decode cX5_playerOf 108 = .ok (.ireturn, 1) := by decide +kernel
theorem dX5_playerOf_109 : decode cX5_playerOf 109 = .ok (.aload_n 0, 1) := by decide +kernel
theorem dX5_playerOf_110 : decode cX5_playerOf 110 = .ok (.getfield 255, 3) := by decide +kernel
theorem dX5_playerOf_113 : decode cX5_playerOf 113 = .ok (.iload_n 1, 1) := by decide +kernel
theorem dX5_playerOf_114 : decode cX5_playerOf 114 = .ok (.invokestatic 119, 3) := by decide +kernel
theorem dX5_playerOf_117 : decode cX5_playerOf 117 = .ok (.ifCond .eq 7, 3) := by decide +kernel
theorem dX5_playerOf_120 : decode cX5_playerOf 120 = .ok (.iconst 1, 1) := by decide +kernel
theorem dX5_playerOf_121 : decode cX5_playerOf 121 = .ok (.goto 4, 3) := by decide +kernel
theorem dX5_playerOf_124 : decode cX5_playerOf 124 = .ok (.iconst 0, 1) := by decide +kernel
theorem dX5_playerOf_125 : decode cX5_playerOf 125 = .ok (.ireturn, 1) := by decide +kernel
theorem dX5_playerOf_126 : decode cX5_playerOf 126 = .ok (.aload_n 0, 1) := by decide +kernel
theorem dX5_playerOf_127 : decode cX5_playerOf 127 = .ok (.iload_n 1, 1) := by decide +kernel
theorem dX5_playerOf_128 : decode cX5_playerOf 128 = .ok (.invokevirtual 110, 3) := by decide +kernel
theorem dX5_playerOf_131 : decode cX5_playerOf 131 = .ok (.ireturn, 1) := by decide +kernel
theorem dX5_playerOf_132 : decode cX5_playerOf 132 = .ok (.aload_n 0, 1) := by decide +kernel
theorem dX5_playerOf_133 : decode cX5_playerOf 133 = .ok (.iload_n 1, 1) := by decide +kernel
theorem dX5_playerOf_134 : decode cX5_playerOf 134 = .ok (.invokevirtual 113, 3) := by decide +kernel
theorem dX5_playerOf_137 : decode cX5_playerOf 137 = .ok (.ireturn, 1) := by decide +kernel
theorem dX5_playerOf_138 : decode cX5_playerOf 138 = .ok (.aload_n 0, 1) := by decide +kernel
theorem dX5_playerOf_139 : decode cX5_playerOf 139 = .ok (.bipush (-2), 2) := by decide +kernel
theorem dX5_playerOf_141 : decode cX5_playerOf 141 = .ok (.invokevirtual 89, 3) := by decide +kernel
theorem dX5_playerOf_144 : decode cX5_playerOf 144 = .ok (.ireturn, 1) := by decide +kernel
theorem dX5_tiredOf_0 : decode cX5_tiredOf 0 = .ok (.iconst 0, 1) := by decide +kernel
theorem dX5_tiredOf_1 : decode cX5_tiredOf 1 = .ok (.istore_n 2, 1) := by decide +kernel
theorem dX5_tiredOf_2 : decode cX5_tiredOf 2 = .ok (.iconst 0, 1) := by decide +kernel
theorem dX5_tiredOf_3 : decode cX5_tiredOf 3 = .ok (.istore_n 3, 1) := by decide +kernel
theorem dX5_tiredOf_4 : decode cX5_tiredOf 4 = .ok (.iload_n 3, 1) := by decide +kernel
theorem dX5_tiredOf_5 : decode cX5_tiredOf 5 = .ok (.aload_n 0, 1) := by decide +kernel
theorem dX5_tiredOf_6 : decode cX5_tiredOf 6 = .ok (.getfield 74, 3) := by decide +kernel
theorem dX5_tiredOf_9 : decode cX5_tiredOf 9 = .ok (.if_icmp .ge 35, 3) := by decide +kernel
theorem dX5_tiredOf_12 : decode cX5_tiredOf 12 = .ok (.iload_n 2, 1) := by decide +kernel
theorem dX5_tiredOf_13 : decode cX5_tiredOf 13 = .ok (.aload_n 0, 1) := by decide +kernel
theorem dX5_tiredOf_14 : decode cX5_tiredOf 14 = .ok (.getfield 49, 3) := by decide +kernel
theorem dX5_tiredOf_17 : decode cX5_tiredOf 17 = .ok (.iload_n 1, 1) := by decide +kernel
theorem dX5_tiredOf_18 : decode cX5_tiredOf 18 = .ok (.iaload, 1) := by decide +kernel
theorem dX5_tiredOf_19 : decode cX5_tiredOf 19 = .ok (.iload_n 3, 1) := by decide +kernel
theorem dX5_tiredOf_20 : decode cX5_tiredOf 20 = .ok (.invokestatic 119, 3) := by decide +kernel
theorem dX5_tiredOf_23 : decode cX5_tiredOf 23 = .ok (.ifCond .eq 12, 3) := by decide +kernel
theorem dX5_tiredOf_26 : decode cX5_tiredOf 26 = .ok (.aload_n 0, 1) := by decide +kernel
theorem dX5_tiredOf_27 : decode cX5_tiredOf 27 = .ok (.getfield 46, 3) := by decide +kernel
theorem dX5_tiredOf_30 : decode cX5_tiredOf 30 = .ok (.iload_n 3, 1) := by decide +kernel
theorem dX5_tiredOf_31 : decode cX5_tiredOf 31 = .ok (.iaload, 1) := by decide +kernel
theorem dX5_tiredOf_32 : decode cX5_tiredOf 32 = .ok (.goto 4, 3) := by decide +kernel
theorem dX5_tiredOf_35 : decode cX5_tiredOf 35 = .ok (.iconst 0, 1) := by decide +kernel
theorem dX5_tiredOf_36 : decode cX5_tiredOf 36 = .ok (.iadd, 1) := by decide +kernel
theorem dX5_tiredOf_37 : decode cX5_tiredOf 37 = .ok (.istore_n 2, 1) := by decide +kernel
theorem dX5_tiredOf_38 : decode cX5_tiredOf 38 = .ok (.iinc 3 1, 3) := by decide +kernel
theorem dX5_tiredOf_41 : decode cX5_tiredOf 41 = .ok (.goto (-37), 3) := by decide +kernel
theorem dX5_tiredOf_44 : decode cX5_tiredOf 44 = .ok (.iload_n 2, 1) := by decide +kernel
theorem dX5_tiredOf_45 : decode cX5_tiredOf 45 = .ok (.ireturn, 1) := by decide +kernel
theorem dX5_powerBy_0 : decode cX5_powerBy 0 = .ok (.aload_n 0, 1) := by decide +kernel
theorem dX5_powerBy_1 : decode cX5_powerBy 1 = .ok (.invokevirtual 248, 3) := by decide +kernel
theorem dX5_powerBy_4 : decode cX5_powerBy 4 = .ok (.astore_n 2, 1) := by decide +kernel
theorem dX5_powerBy_5 : decode cX5_powerBy 5 = .ok (.aload_n 2, 1) := by decide +kernel
theorem dX5_powerBy_6 : decode cX5_powerBy 6 = .ok (.iload_n 1, 1) := by decide +kernel
theorem dX5_powerBy_7 : decode cX5_powerBy 7 = .ok (.invokevirtual 305, 3) := by decide +kernel
theorem dX5_powerBy_10 : decode cX5_powerBy 10 = .ok (.aload_n 2, 1) := by decide +kernel
theorem dX5_powerBy_11 : decode cX5_powerBy 11 = .ok (.invokevirtual 258, 3) := by decide +kernel
theorem dX5_powerBy_14 : decode cX5_powerBy 14 = .ok (.ireturn, 1) := by decide +kernel
theorem dX5_lineOf_0 : decode cX5_lineOf 0 = .ok (.iload_n 1, 1) := by decide +kernel
theorem dX5_lineOf_1 : decode cX5_lineOf 1 = .ok (.i2l, 1) := by decide +kernel
theorem dX5_lineOf_2 : decode cX5_lineOf 2 = .ok (.invokestatic 138, 3) := by decide +kernel
theorem dX5_lineOf_5 : decode cX5_lineOf 5 = .ok (.ifCond .eq 15, 3) := by decide +kernel
theorem dX5_lineOf_8 : decode cX5_lineOf 8 = .ok (.iload_n 2, 1) := by decide +kernel
theorem dX5_lineOf_9 : decode cX5_lineOf 9 = .ok (.i2l, 1) := by decide +kernel
theorem dX5_lineOf_10 : decode cX5_lineOf 10 = .ok (.lconst 0, 1) := by decide +kernel
theorem dX5_lineOf_11 : decode cX5_lineOf 11 = .ok (.ldc2_w 81, 3) := by decide +kernel
theorem dX5_lineOf_14 : decode cX5_lineOf 14 = .ok (.invokestatic 77, 3) := by decide +kernel
theorem dX5_lineOf_17 : decode cX5_lineOf 17 = .ok (.ifCond .ne 10, 3) := by decide +kernel
theorem dX5_lineOf_20 : decode cX5_lineOf 20 = .ok (.aload_n 0, 1) := by decide +kernel
theorem dX5_lineOf_21 : decode cX5_lineOf 21 = .ok (.bipush (-2), 2) := by decide +kernel
theorem dX5_lineOf_23 : decode cX5_lineOf 23 = .ok (.invokevirtual 89, 3) := by decide +kernel
theorem dX5_lineOf_26 : decode cX5_lineOf 26 = .ok (.ireturn, 1) := by decide +kernel
theorem dX5_lineOf_27 : decode cX5_lineOf 27 = .ok (.iconst 0, 1) := by decide +kernel
theorem dX5_lineOf_28 : decode cX5_lineOf 28 = .ok (.istore_n 3, 1) := by decide +kernel
theorem dX5_lineOf_29 : decode cX5_lineOf 29 = .ok (.iload_n 2, 1) := by decide +kernel
theorem dX5_lineOf_30 : decode cX5_lineOf 30 = .ok (.tableswitch 87 0 2 #[26, 33, 39], 26) := by decide +kernel
theorem dX5_lineOf_56 : decode cX5_lineOf 56 = .ok (.aload_n 0, 1) := by decide +kernel
theorem dX5_lineOf_57 : decode cX5_lineOf 57 = .ok (.getfield 49, 3) := by decide +kernel
theorem dX5_lineOf_60 : decode cX5_lineOf 60 = .ok (.iload_n 1, 1) := by decide +kernel
theorem dX5_lineOf_61 : decode cX5_lineOf 61 = .ok (.iaload, 1) := by decide +kernel
theorem dX5_lineOf_62 : decode cX5_lineOf 62 = .ok (.ireturn, 1) := by decide +kernel
theorem dX5_lineOf_63 : decode cX5_lineOf 63 = .ok (.aload_n 0, 1) := by decide +kernel
theorem dX5_lineOf_64 : decode cX5_lineOf 64 = .ok (.iload_n 1, 1) := by decide +kernel
theorem dX5_lineOf_65 : decode cX5_lineOf 65 = .ok (.invokevirtual 308, 3) := by decide +kernel
theorem dX5_lineOf_68 : decode cX5_lineOf 68 = .ok (.ireturn, 1) := by decide +kernel
theorem dX5_lineOf_69 : decode cX5_lineOf 69 = .ok (.iconst 0, 1) := by decide +kernel
theorem dX5_lineOf_70 : decode cX5_lineOf 70 = .ok (.istore 4, 2) := by decide +kernel
theorem dX5_lineOf_72 : decode cX5_lineOf 72 = .ok (.iload 4, 2) := by decide +kernel
theorem dX5_lineOf_74 : decode cX5_lineOf 74 = .ok (.aload_n 0, 1) := by decide +kernel
theorem dX5_lineOf_75 : decode cX5_lineOf 75 = .ok (.getfield 74, 3) := by decide +kernel
theorem dX5_lineOf_78 : decode cX5_lineOf 78 = .ok (.if_icmp .ge 37, 3) := by decide +kernel
theorem dX5_lineOf_81 : decode cX5_lineOf 81 = .ok (.iload_n 3, 1) := by decide +kernel
theorem dX5_lineOf_82 : decode cX5_lineOf 82 = .ok (.aload_n 0, 1) := by decide +kernel
theorem dX5_lineOf_83 : decode cX5_lineOf 83 = .ok (.getfield 49, 3) := by decide +kernel
theorem dX5_lineOf_86 : decode cX5_lineOf 86 = .ok (.iload_n 1, 1) := by decide +kernel
theorem dX5_lineOf_87 : decode cX5_lineOf 87 = .ok (.iaload, 1) := by decide +kernel
theorem dX5_lineOf_88 : decode cX5_lineOf 88 = .ok (.iload 4, 2) := by decide +kernel
theorem dX5_lineOf_90 : decode cX5_lineOf 90 = .ok (.invokestatic 119, 3) := by decide +kernel
theorem dX5_lineOf_93 : decode cX5_lineOf 93 = .ok (.ifCond .eq 13, 3) := by decide +kernel
theorem dX5_lineOf_96 : decode cX5_lineOf 96 = .ok (.aload_n 0, 1) := by decide +kernel
theorem dX5_lineOf_97 : decode cX5_lineOf 97 = .ok (.getfield 40, 3) := by decide +kernel
theorem dX5_lineOf_100 : decode cX5_lineOf 100 = .ok (.iload 4, 2) := by decide +kernel
theorem dX5_lineOf_102 : decode cX5_lineOf 102 = .ok (.iaload, 1) := by decide +kernel
theorem dX5_lineOf_103 : decode cX5_lineOf 103 = .ok (.goto 4, 3) := by decide +kernel
theorem dX5_lineOf_106 : decode cX5_lineOf 106 = .ok (.iconst 0, 1) := by decide +kernel
theorem dX5_lineOf_107 : decode cX5_lineOf 107 = .ok (.iadd, 1) := by decide +kernel
theorem dX5_lineOf_108 : decode cX5_lineOf 108 = .ok (.istore_n 3, 1) := by decide +kernel
theorem dX5_lineOf_109 : decode cX5_lineOf 109 = .ok (.iinc 4 1, 3) := by decide +kernel
theorem dX5_lineOf_112 : decode cX5_lineOf 112 = .ok (.goto (-40), 3) := by decide +kernel
theorem dX5_lineOf_115 : decode cX5_lineOf 115 = .ok (.iload_n 3, 1) := by decide +kernel
theorem dX5_lineOf_116 : decode cX5_lineOf 116 = .ok (.ireturn, 1) := by decide +kernel
theorem dX5_lineOf_117 : decode cX5_lineOf 117 = .ok (.aload_n 0, 1) := by decide +kernel
theorem dX5_lineOf_118 : decode cX5_lineOf 118 = .ok (.aload_n 0, 1) := by decide +kernel
theorem dX5_lineOf_119 : decode cX5_lineOf 119 = .ok (.getfield 49, 3) := by decide +kernel
theorem dX5_lineOf_122 : decode cX5_lineOf 122 = .ok (.iload_n 1, 1) := by decide +kernel
theorem dX5_lineOf_123 : decode cX5_lineOf 123 = .ok (.iaload, 1) := by decide +kernel
theorem dX5_lineOf_124 : decode cX5_lineOf 124 = .ok (.invokevirtual 311, 3) := by decide +kernel
theorem dX5_lineOf_127 : decode cX5_lineOf 127 = .ok (.ireturn, 1) := by decide +kernel
theorem dX5_power_0 : decode cX5_power 0 = .ok (.aload_n 0, 1) := by decide +kernel
theorem dX5_power_1 : decode cX5_power 1 = .ok (.invokevirtual 258, 3) := by decide +kernel
theorem dX5_power_4 : decode cX5_power 4 = .ok (.ireturn, 1) := by decide +kernel
theorem dX5_odds_0 : decode cX5_odds 0 = .ok (.iload_n 1, 1) := by decide +kernel
theorem dX5_odds_1 : decode cX5_odds 1 = .ok (.ifCond .ne 10, 3) := by decide +kernel
theorem dX5_odds_4 : decode cX5_odds 4 = .ok (.aload_n 0, 1) := by decide +kernel
theorem dX5_odds_5 : decode cX5_odds 5 = .ok (.invokevirtual 277, 3) := by decide +kernel
theorem dX5_odds_8 : decode cX5_odds 8 = .ok (.goto 21, 3) := by decide +kernel
theorem dX5_odds_11 : decode cX5_odds 11 = .ok (.iload_n 1, 1) := by decide +kernel
theorem dX5_odds_12 : decode cX5_odds 12 = .ok (.iconst 1, 1) := by decide +kernel
theorem dX5_odds_13 : decode cX5_odds 13 = .ok (.if_icmp .ne 10, 3) := by decide +kernel
theorem dX5_odds_16 : decode cX5_odds 16 = .ok (.aload_n 0, 1) := by decide +kernel
theorem dX5_odds_17 : decode cX5_odds 17 = .ok (.invokevirtual 280, 3) := by decide +kernel
theorem dX5_odds_20 : decode cX5_odds 20 = .ok (.goto 9, 3) := by decide +kernel
theorem dX5_odds_23 : decode cX5_odds 23 = .ok (.aload_n 0, 1) := by decide +kernel
theorem dX5_odds_24 : decode cX5_odds 24 = .ok (.bipush (-2), 2) := by decide +kernel
theorem dX5_odds_26 : decode cX5_odds 26 = .ok (.invokevirtual 89, 3) := by decide +kernel
theorem dX5_odds_29 : decode cX5_odds 29 = .ok (.ireturn, 1) := by decide +kernel
theorem dX5_way_0 : decode cX5_way 0 = .ok (.iload_n 1, 1) := by decide +kernel
theorem dX5_way_1 : decode cX5_way 1 = .ok (.i2l, 1) := by decide +kernel
theorem dX5_way_2 : decode cX5_way 2 = .ok (.invokestatic 138, 3) := by decide +kernel
theorem dX5_way_5 : decode cX5_way 5 = .ok (.ifCond .ne 10, 3) := by decide +kernel
theorem dX5_way_8 : decode cX5_way 8 = .ok (.aload_n 0, 1) := by decide +kernel
theorem dX5_way_9 : decode cX5_way 9 = .ok (.bipush (-2), 2) := by decide +kernel
theorem dX5_way_11 : decode cX5_way 11 = .ok (.invokevirtual 89, 3) := by decide +kernel
theorem dX5_way_14 : decode cX5_way 14 = .ok (.ireturn, 1) := by decide +kernel
theorem dX5_way_15 : decode cX5_way 15 = .ok (.aload_n 0, 1) := by decide +kernel
theorem dX5_way_16 : decode cX5_way 16 = .ok (.getfield 49, 3) := by decide +kernel
theorem dX5_way_19 : decode cX5_way 19 = .ok (.iload_n 1, 1) := by decide +kernel
theorem dX5_way_20 : decode cX5_way 20 = .ok (.iaload, 1) := by decide +kernel
theorem dX5_way_21 : decode cX5_way 21 = .ok (.ifCond .ne 12, 3) := by decide +kernel
theorem dX5_way_24 : decode cX5_way 24 = .ok (.aload_n 0, 1) := by decide +kernel
theorem dX5_way_25 : decode cX5_way 25 = .ok (.bipush (-5), 2) := by decide +kernel
theorem dX5_way_27 : decode cX5_way 27 = .ok (.invokevirtual 89, 3) := by decide +kernel
theorem dX5_way_30 : decode cX5_way 30 = .ok (.goto 8, 3) := by decide +kernel
theorem dX5_way_33 : decode cX5_way 33 = .ok (.aload_n 0, 1) := by decide +kernel
theorem dX5_way_34 : decode cX5_way 34 = .ok (.iload_n 1, 1) := by decide +kernel
theorem dX5_way_35 : decode cX5_way 35 = .ok (.invokevirtual 302, 3) := by decide +kernel
theorem dX5_way_38 : decode cX5_way 38 = .ok (.ireturn, 1) := by decide +kernel
theorem dX5_behind_0 : decode cX5_behind 0 = .ok (.iload_n 1, 1) := by decide +kernel
theorem dX5_behind_1 : decode cX5_behind 1 = .ok (.i2l, 1) := by decide +kernel
theorem dX5_behind_2 : decode cX5_behind 2 = .ok (.lconst 0, 1) := by decide +kernel
theorem dX5_behind_3 : decode cX5_behind 3 = .ok (.ldc2_w 314, 3) := by decide +kernel
theorem dX5_behind_6 : decode cX5_behind 6 = .ok (.invokestatic 77, 3) := by decide +kernel
theorem dX5_behind_9 : decode cX5_behind 9 = .ok (.ifCond .eq 16, 3) := by decide +kernel
theorem dX5_behind_12 : decode cX5_behind 12 = .ok (.iload_n 2, 1) := by decide +kernel
theorem dX5_behind_13 : decode cX5_behind 13 = .ok (.iconst (-1), 1) := by decide +kernel
theorem dX5_behind_14 : decode cX5_behind 14 = .ok (.if_icmp .eq 18, 3) := by decide +kernel
theorem dX5_behind_17 : decode cX5_behind 17 = .ok (.aload_n 0, 1) := by decide +kernel
theorem dX5_behind_18 : decode cX5_behind 18 = .ok (.iload_n 2, 1) := by decide +kernel
theorem dX5_behind_19 : decode cX5_behind 19 = .ok (.invokevirtual 100, 3) := by decide +kernel
theorem dX5_behind_22 : decode cX5_behind 22 = .ok (.ifCond .ne 10, 3) := by decide +kernel
theorem dX5_behind_25 : decode cX5_behind 25 = .ok (.aload_n 0, 1) := by decide +kernel
theorem dX5_behind_26 : decode cX5_behind 26 = .ok (.bipush (-2), 2) := by decide +kernel
theorem dX5_behind_28 : decode cX5_behind 28 = .ok (.invokevirtual 89, 3) := by decide +kernel
theorem dX5_behind_31 : decode cX5_behind 31 = .ok (.ireturn, 1) := by decide +kernel
theorem dX5_behind_32 : decode cX5_behind 32 = .ok (.aload_n 0, 1) := by decide +kernel
theorem dX5_behind_33 : decode cX5_behind 33 = .ok (.invokevirtual 248, 3) := by decide +kernel
theorem dX5_behind_36 : decode cX5_behind 36 = .ok (.astore_n 3, 1) := by decide +kernel
theorem dX5_behind_37 : decode cX5_behind 37 = .ok (.aload_n 3, 1) := by decide +kernel
theorem dX5_behind_38 : decode cX5_behind 38 = .ok (.iload_n 1, 1) := by decide +kernel
theorem dX5_behind_39 : decode cX5_behind 39 = .ok (.invokevirtual 316, 3) := by decide +kernel
theorem dX5_behind_42 : decode cX5_behind 42 = .ok (.pop, 1) := by decide +kernel
theorem dX5_behind_43 : decode cX5_behind 43 = .ok (.iload_n 2, 1) := by decide +kernel
theorem dX5_behind_44 : decode cX5_behind 44 = .ok (.iconst (-1), 1) := by decide +kernel
theorem dX5_behind_45 : decode cX5_behind 45 = .ok (.if_icmp .ne 10, 3) := by decide +kernel
theorem dX5_behind_48 : decode cX5_behind 48 = .ok (.aload_n 3, 1) := by decide +kernel
theorem dX5_behind_49 : decode cX5_behind 49 = .ok (.invokevirtual 258, 3) := by decide +kernel
theorem dX5_behind_52 : decode cX5_behind 52 = .ok (.goto 9, 3) := by decide +kernel
theorem dX5_behind_55 : decode cX5_behind 55 = .ok (.aload_n 3, 1) := by decide +kernel
theorem dX5_behind_56 : decode cX5_behind 56 = .ok (.getfield 46, 3) := by decide +kernel
theorem dX5_behind_59 : decode cX5_behind 59 = .ok (.iload_n 2, 1) := by decide +kernel
theorem dX5_behind_60 : decode cX5_behind 60 = .ok (.iaload, 1) := by decide +kernel
theorem dX5_behind_61 : decode cX5_behind 61 = .ok (.ireturn, 1) := by decide +kernel
theorem dX5_gains_0 : decode cX5_gains 0 = .ok (.iload_n 1, 1) := by decide +kernel
theorem dX5_gains_1 : decode cX5_gains 1 = .ok (.i2l, 1) := by decide +kernel
theorem dX5_gains_2 : decode cX5_gains 2 = .ok (.lconst 0, 1) := by decide +kernel
theorem dX5_gains_3 : decode cX5_gains 3 = .ok (.ldc2_w 314, 3) := by decide +kernel
theorem dX5_gains_6 : decode cX5_gains 6 = .ok (.invokestatic 77, 3) := by decide +kernel
theorem dX5_gains_9 : decode cX5_gains 9 = .ok (.ifCond .eq 14, 3) := by decide +kernel
theorem dX5_gains_12 : decode cX5_gains 12 = .ok (.aload_n 0, 1) := by decide +kernel
theorem dX5_gains_13 : decode cX5_gains 13 = .ok (.invokevirtual 248, 3) := by decide +kernel
theorem dX5_gains_16 : decode cX5_gains 16 = .ok (.iload_n 1, 1) := by decide +kernel
theorem dX5_gains_17 : decode cX5_gains 17 = .ok (.invokevirtual 316, 3) := by decide +kernel
theorem dX5_gains_20 : decode cX5_gains 20 = .ok (.goto 13, 3) := by decide +kernel
theorem dX5_gains_23 : decode cX5_gains 23 = .ok (.ldc_w 319, 3) := by decide +kernel
theorem dX5_gains_26 : decode cX5_gains 26 = .ok (.aload_n 0, 1) := by decide +kernel
theorem dX5_gains_27 : decode cX5_gains 27 = .ok (.bipush (-2), 2) := by decide +kernel
theorem dX5_gains_29 : decode cX5_gains 29 = .ok (.invokevirtual 89, 3) := by decide +kernel
theorem dX5_gains_32 : decode cX5_gains 32 = .ok (.iadd, 1) := by decide +kernel
theorem dX5_gains_33 : decode cX5_gains 33 = .ok (.ireturn, 1) := by decide +kernel
theorem dX5_tiredest_0 : decode cX5_tiredest 0 = .ok (.iload_n 1, 1) := by decide +kernel
theorem dX5_tiredest_1 : decode cX5_tiredest 1 = .ok (.i2l, 1) := by decide +kernel
theorem dX5_tiredest_2 : decode cX5_tiredest 2 = .ok (.lconst 0, 1) := by decide +kernel
theorem dX5_tiredest_3 : decode cX5_tiredest 3 = .ok (.ldc2_w 314, 3) := by decide +kernel
theorem dX5_tiredest_6 : decode cX5_tiredest 6 = .ok (.invokestatic 77, 3) := by decide +kernel
theorem dX5_tiredest_9 : decode cX5_tiredest 9 = .ok (.ifCond .ne 10, 3) := by decide +kernel
theorem dX5_tiredest_12 : decode cX5_tiredest 12 = .ok (.aload_n 0, 1) := by decide +kernel
theorem dX5_tiredest_13 : decode cX5_tiredest 13 = .ok (.bipush (-2), 2) := by decide +kernel
theorem dX5_tiredest_15 : decode cX5_tiredest 15 = .ok (.invokevirtual 89, 3) := by decide +kernel
theorem dX5_tiredest_18 : decode cX5_tiredest 18 = .ok (.ireturn, 1) := by decide +kernel
theorem dX5_tiredest_19 : decode cX5_tiredest 19 = .ok (.aload_n 0, 1) := by decide +kernel
theorem dX5_tiredest_20 : decode cX5_tiredest 20 = .ok (.getfield 74, 3) := by decide +kernel
theorem dX5_tiredest_23 : decode cX5_tiredest 23 = .ok (.ifCond .ne 10, 3) := by decide +kernel
theorem dX5_tiredest_26 : decode cX5_tiredest 26 = .ok (.aload_n 0, 1) := by decide +kernel
theorem dX5_tiredest_27 : decode cX5_tiredest 27 = .ok (.bipush (-5), 2) := by decide +kernel
theorem dX5_tiredest_29 : decode cX5_tiredest 29 = .ok (.invokevirtual 89, 3) := by decide +kernel
theorem dX5_tiredest_32 : decode cX5_tiredest 32 = .ok (.ireturn, 1) := by decide +kernel
theorem dX5_tiredest_33 : decode cX5_tiredest 33 = .ok (.aload_n 0, 1) := by decide +kernel
theorem dX5_tiredest_34 : decode cX5_tiredest 34 = .ok (.invokevirtual 248, 3) := by decide +kernel
theorem dX5_tiredest_37 : decode cX5_tiredest 37 = .ok (.astore_n 2, 1) := by decide +kernel
theorem dX5_tiredest_38 : decode cX5_tiredest 38 = .ok (.aload_n 2, 1) := by decide +kernel
theorem dX5_tiredest_39 : decode cX5_tiredest 39 = .ok (.iload_n 1, 1) := by decide +kernel
theorem dX5_tiredest_40 : decode cX5_tiredest 40 = .ok (.invokevirtual 316, 3) := by decide +kernel
theorem dX5_tiredest_43 : decode cX5_tiredest 43 = .ok (.pop, 1) := by decide +kernel
theorem dX5_tiredest_44 : decode cX5_tiredest 44 = .ok (.iconst 0, 1) := by decide +kernel
theorem dX5_tiredest_45 : decode cX5_tiredest 45 = .ok (.istore_n 3, 1) := by decide +kernel
theorem dX5_tiredest_46 : decode cX5_tiredest 46 = .ok (.iconst 1, 1) := by decide +kernel
theorem dX5_tiredest_47 : decode cX5_tiredest 47 = .ok (.istore 4, 2) := by decide +kernel
theorem dX5_tiredest_49 : decode cX5_tiredest 49 = .ok (.iload 4, 2) := by decide +kernel
theorem dX5_tiredest_51 : decode cX5_tiredest 51 = .ok (.aload_n 0, 1) := by decide +kernel
theorem dX5_tiredest_52 : decode cX5_tiredest 52 = .ok (.getfield 74, 3) := by decide +kernel
theorem dX5_tiredest_55 : decode cX5_tiredest 55 = .ok (.if_icmp .ge 32, 3) := by decide +kernel
theorem dX5_tiredest_58 : decode cX5_tiredest 58 = .ok (.aload_n 2, 1) := by decide +kernel
theorem dX5_tiredest_59 : decode cX5_tiredest 59 = .ok (.getfield 46, 3) := by decide +kernel
theorem dX5_tiredest_62 : decode cX5_tiredest 62 = .ok (.iload 4, 2) := by decide +kernel
theorem dX5_tiredest_64 : decode cX5_tiredest 64 = .ok (.iaload, 1) := by decide +kernel
theorem dX5_tiredest_65 : decode cX5_tiredest 65 = .ok (.aload_n 2, 1) := by decide +kernel
theorem dX5_tiredest_66 : decode cX5_tiredest 66 = .ok (.getfield 46, 3) := by decide +kernel
theorem dX5_tiredest_69 : decode cX5_tiredest 69 = .ok (.iload_n 3, 1) := by decide +kernel
theorem dX5_tiredest_70 : decode cX5_tiredest 70 = .ok (.iaload, 1) := by decide +kernel
theorem dX5_tiredest_71 : decode cX5_tiredest 71 = .ok (.if_icmp .le 8, 3) := by decide +kernel
theorem dX5_tiredest_74 : decode cX5_tiredest 74 = .ok (.iload 4, 2) := by decide +kernel
theorem dX5_tiredest_76 : decode cX5_tiredest 76 = .ok (.goto 4, 3) := by decide +kernel
theorem dX5_tiredest_79 : decode cX5_tiredest 79 = .ok (.iload_n 3, 1) := by decide +kernel
theorem dX5_tiredest_80 : decode cX5_tiredest 80 = .ok (.istore_n 3, 1) := by decide +kernel
theorem dX5_tiredest_81 : decode cX5_tiredest 81 = .ok (.iinc 4 1, 3) := by decide +kernel
theorem dX5_tiredest_84 : decode cX5_tiredest 84 = .ok (.goto (-35), 3) := by decide +kernel
theorem dX5_tiredest_87 : decode cX5_tiredest 87 = .ok (.iload_n 3, 1) := by decide +kernel
theorem dX5_tiredest_88 : decode cX5_tiredest 88 = .ok (.ireturn, 1) := by decide +kernel
theorem dX5_fresh__0 : decode cX5_fresh_ 0 = .ok (.iload_n 1, 1) := by decide +kernel
theorem dX5_fresh__1 : decode cX5_fresh_ 1 = .ok (.i2l, 1) := by decide +kernel
theorem dX5_fresh__2 : decode cX5_fresh_ 2 = .ok (.invokestatic 138, 3) := by decide +kernel
theorem dX5_fresh__5 : decode cX5_fresh_ 5 = .ok (.ifCond .eq 15, 3) := by decide +kernel
theorem dX5_fresh__8 : decode cX5_fresh_ 8 = .ok (.iload_n 2, 1) := by decide +kernel
theorem dX5_fresh__9 : decode cX5_fresh_ 9 = .ok (.i2l, 1) := by decide +kernel
theorem dX5_fresh__10 : decode cX5_fresh_ 10 = .ok (.lconst 0, 1) := by decide +kernel
theorem dX5_fresh__11 : decode cX5_fresh_ 11 = .ok (.ldc2_w 314, 3) := by decide +kernel
theorem dX5_fresh__14 : decode cX5_fresh_ 14 = .ok (.invokestatic 77, 3) := by decide +kernel
theorem dX5_fresh__17 : decode cX5_fresh_ 17 = .ok (.ifCond .ne 10, 3) := by decide +kernel
theorem dX5_fresh__20 : decode cX5_fresh_ 20 = .ok (.aload_n 0, 1) := by decide +kernel
theorem dX5_fresh__21 : decode cX5_fresh_ 21 = .ok (.bipush (-2), 2) := by decide +kernel
theorem dX5_fresh__23 : decode cX5_fresh_ 23 = .ok (.invokevirtual 89, 3) := by decide +kernel
theorem dX5_fresh__26 : decode cX5_fresh_ 26 = .ok (.ireturn, 1) := by decide +kernel
theorem dX5_fresh__27 : decode cX5_fresh_ 27 = .ok (.aload_n 0, 1) := by decide +kernel
theorem dX5_fresh__28 : decode cX5_fresh_ 28 = .ok (.getfield 49, 3) := by decide +kernel
theorem dX5_fresh__31 : decode cX5_fresh_ 31 = .ok (.iload_n 1, 1) := by decide +kernel
theorem dX5_fresh__32 : decode cX5_fresh_ 32 = .ok (.iaload, 1) := by decide +kernel
theorem dX5_fresh__33 : decode cX5_fresh_ 33 = .ok (.ifCond .ne 10, 3) := by decide +kernel
theorem dX5_fresh__36 : decode cX5_fresh_ 36 = .ok (.aload_n 0, 1) := by decide +kernel
theorem dX5_fresh__37 : decode cX5_fresh_ 37 = .ok (.bipush (-5), 2) := by decide +kernel
theorem dX5_fresh__39 : decode cX5_fresh_ 39 = .ok (.invokevirtual 89, 3) := by decide +kernel
theorem dX5_fresh__42 : decode cX5_fresh_ 42 = .ok (.ireturn, 1) := by decide +kernel
theorem dX5_fresh__43 : decode cX5_fresh_ 43 = .ok (.aload_n 0, 1) := by decide +kernel
theorem dX5_fresh__44 : decode cX5_fresh_ 44 = .ok (.invokevirtual 248, 3) := by decide +kernel
theorem dX5_fresh__47 : decode cX5_fresh_ 47 = .ok (.astore_n 3, 1) := by decide +kernel
theorem dX5_fresh__48 : decode cX5_fresh_ 48 = .ok (.aload_n 3, 1) := by decide +kernel
theorem dX5_fresh__49 : decode cX5_fresh_ 49 = .ok (.iconst 0, 1) := by decide +kernel
theorem dX5_fresh__50 : decode cX5_fresh_ 50 = .ok (.invokevirtual 305, 3) := by decide +kernel
theorem dX5_fresh__53 : decode cX5_fresh_ 53 = .ok (.iconst 0, 1) := by decide +kernel
theorem dX5_fresh__54 : decode cX5_fresh_ 54 = .ok (.istore 4, 2) := by decide +kernel
theorem dX5_fresh__56 : decode cX5_fresh_ 56 = .ok (.aload_n 3, 1) := by decide +kernel
theorem dX5_fresh__57 : decode cX5_fresh_ 57 = .ok (.iload_n 1, 1) := by decide +kernel
theorem dX5_fresh__58 : decode cX5_fresh_ 58 = .ok (.invokevirtual 308, 3) := by decide +kernel
theorem dX5_fresh__61 : decode cX5_fresh_ 61 = .ok (.iload_n 2, 1) := by decide +kernel
theorem dX5_fresh__62 : decode cX5_fresh_ 62 = .ok (.if_icmp .le 13, 3) := by decide +kernel
theorem dX5_fresh__65 : decode cX5_fresh_ 65 = .ok (.aload_n 3, 1) := by decide +kernel
theorem dX5_fresh__66 : decode cX5_fresh_ 66 = .ok (.invokevirtual 274, 3) := by decide +kernel
theorem dX5_fresh__69 : decode cX5_fresh_ 69 = .ok (.iinc 4 1, 3) := by decide +kernel
theorem dX5_fresh__72 : decode cX5_fresh_ 72 = .ok (.goto (-16), 3) := by decide +kernel
theorem dX5_fresh__75 : decode cX5_fresh_ 75 = .ok (.iload 4, 2) := by decide +kernel
theorem dX5_fresh__77 : decode cX5_fresh_ 77 = .ok (.ireturn, 1) := by decide +kernel
theorem dX5_third_0 : decode cX5_third 0 = .ok (.iload_n 1, 1) := by decide +kernel
theorem dX5_third_1 : decode cX5_third 1 = .ok (.i2l, 1) := by decide +kernel
theorem dX5_third_2 : decode cX5_third 2 = .ok (.lconst 0, 1) := by decide +kernel
theorem dX5_third_3 : decode cX5_third 3 = .ok (.ldc2_w 314, 3) := by decide +kernel
theorem dX5_third_6 : decode cX5_third 6 = .ok (.invokestatic 77, 3) := by decide +kernel
theorem dX5_third_9 : decode cX5_third 9 = .ok (.ifCond .ne 10, 3) := by decide +kernel
theorem dX5_third_12 : decode cX5_third 12 = .ok (.aload_n 0, 1) := by decide +kernel
theorem dX5_third_13 : decode cX5_third 13 = .ok (.bipush (-2), 2) := by decide +kernel
theorem dX5_third_15 : decode cX5_third 15 = .ok (.invokevirtual 89, 3) := by decide +kernel
theorem dX5_third_18 : decode cX5_third 18 = .ok (.ireturn, 1) := by decide +kernel
theorem dX5_third_19 : decode cX5_third 19 = .ok (.iconst 0, 1) := by decide +kernel
theorem dX5_third_20 : decode cX5_third 20 = .ok (.istore_n 2, 1) := by decide +kernel
theorem dX5_third_21 : decode cX5_third 21 = .ok (.iconst 0, 1) := by decide +kernel
theorem dX5_third_22 : decode cX5_third 22 = .ok (.istore_n 3, 1) := by decide +kernel
theorem dX5_third_23 : decode cX5_third 23 = .ok (.iconst 0, 1) := by decide +kernel
theorem dX5_third_24 : decode cX5_third 24 = .ok (.istore 4, 2) := by decide +kernel
theorem dX5_third_26 : decode cX5_third 26 = .ok (.iload 4, 2) := by decide +kernel
theorem dX5_third_28 : decode cX5_third 28 = .ok (.iconst 3, 1) := by decide +kernel
theorem dX5_third_29 : decode cX5_third 29 = .ok (.if_icmp .ge 47, 3) := by decide +kernel
theorem dX5_third_32 : decode cX5_third 32 = .ok (.aload_n 0, 1) := by decide +kernel
theorem dX5_third_33 : decode cX5_third 33 = .ok (.invokevirtual 248, 3) := by decide +kernel
theorem dX5_third_36 : decode cX5_third 36 = .ok (.astore 5, 2) := by decide +kernel
theorem dX5_third_38 : decode cX5_third 38 = .ok (.aload 5, 2) := by decide +kernel
theorem dX5_third_40 : decode cX5_third 40 = .ok (.iload 4, 2) := by decide +kernel
theorem dX5_third_42 : decode cX5_third 42 = .ok (.putfield 52, 3) := by decide +kernel
theorem dX5_third_45 : decode cX5_third 45 = .ok (.aload 5, 2) := by decide +kernel
theorem dX5_third_47 : decode cX5_third 47 = .ok (.iload_n 1, 1) := by decide +kernel
theorem dX5_third_48 : decode cX5_third 48 = .ok (.invokevirtual 316, 3) := by decide +kernel
theorem dX5_third_51 : decode cX5_third 51 = .ok (.istore 6, 2) := by decide +kernel
theorem dX5_third_53 : decode cX5_third 53 = .ok (.iload 4, 2) := by decide +kernel
theorem dX5_third_55 : decode cX5_third 55 = .ok (.ifCond .eq 9, 3) := by decide +kernel
theorem dX5_third_58 : decode cX5_third 58 = .ok (.iload 6, 2) := by decide +kernel
theorem dX5_third_60 : decode cX5_third 60 = .ok (.iload_n 3, 1) := by decide +kernel
theorem dX5_third_61 : decode cX5_third 61 = .ok (.if_icmp .le 9, 3) := by decide +kernel
theorem dX5_third_64 : decode cX5_third 64 = .ok (.iload 4, 2) := by decide +kernel
theorem dX5_third_66 : decode cX5_third 66 = .ok (.istore_n 2, 1) := by decide +kernel
theorem dX5_third_67 : decode cX5_third 67 = .ok (.iload 6, 2) := by decide +kernel
theorem dX5_third_69 : decode cX5_third 69 = .ok (.istore_n 3, 1) := by decide +kernel
theorem dX5_third_70 : decode cX5_third 70 = .ok (.iinc 4 1, 3) := by decide +kernel
theorem dX5_third_73 : decode cX5_third 73 = .ok (.goto (-47), 3) := by decide +kernel
theorem dX5_third_76 : decode cX5_third 76 = .ok (.iload_n 2, 1) := by decide +kernel
theorem dX5_third_77 : decode cX5_third 77 = .ok (.ireturn, 1) := by decide +kernel
theorem dX5_theirsFor_0 : decode cX5_theirsFor 0 = .ok (.iload_n 1, 1) := by decide +kernel
theorem dX5_theirsFor_1 : decode cX5_theirsFor 1 = .ok (.i2l, 1) := by decide +kernel
theorem dX5_theirsFor_2 : decode cX5_theirsFor 2 = .ok (.lconst 0, 1) := by decide +kernel
theorem dX5_theirsFor_3 : decode cX5_theirsFor 3 = .ok (.ldc2_w 314, 3) := by decide +kernel
theorem dX5_theirsFor_6 : decode cX5_theirsFor 6 = .ok (.invokestatic 77, 3) := by decide +kernel
theorem dX5_theirsFor_9 : decode cX5_theirsFor 9 = .ok (.ifCond .ne 10, 3) := by decide +kernel
theorem dX5_theirsFor_12 : decode cX5_theirsFor 12 = .ok (.aload_n 0, 1) := by decide +kernel
theorem dX5_theirsFor_13 : decode cX5_theirsFor 13 = .ok (.bipush (-2), 2) := by decide +kernel
theorem dX5_theirsFor_15 : decode cX5_theirsFor 15 = .ok (.invokevirtual 89, 3) := by decide +kernel
theorem dX5_theirsFor_18 : decode cX5_theirsFor 18 = .ok (.ireturn, 1) := by decide +kernel
theorem dX5_theirsFor_19 : decode cX5_theirsFor 19 = .ok (.aload_n 0, 1) := by decide +kernel
theorem dX5_theirsFor_20 : decode cX5_theirsFor 20 = .ok (.invokevirtual 248, 3) := by decide +kernel
theorem dX5_theirsFor_23 : decode cX5_theirsFor 23 = .ok (.astore_n 2, 1) := by decide +kernel
theorem dX5_theirsFor_24 : decode cX5_theirsFor 24 = .ok (.aload_n 2, 1) := by decide +kernel
theorem dX5_theirsFor_25 : decode cX5_theirsFor 25 = .ok (.iload_n 1, 1) := by decide +kernel
theorem dX5_theirsFor_26 : decode cX5_theirsFor 26 = .ok (.invokevirtual 316, 3) := by decide +kernel
theorem dX5_theirsFor_29 : decode cX5_theirsFor 29 = .ok (.pop, 1) := by decide +kernel
theorem dX5_theirsFor_30 : decode cX5_theirsFor 30 = .ok (.sipush 999, 3) := by decide +kernel
theorem dX5_theirsFor_33 : decode cX5_theirsFor 33 = .ok (.istore_n 3, 1) := by decide +kernel
theorem dX5_theirsFor_34 : decode cX5_theirsFor 34 = .ok (.iload_n 3, 1) := by decide +kernel
theorem dX5_theirsFor_35 : decode cX5_theirsFor 35 = .ok (.ifCond .le 30, 3) := by decide +kernel
theorem dX5_theirsFor_38 : decode cX5_theirsFor 38 = .ok (.aload_n 2, 1) := by decide +kernel
theorem dX5_theirsFor_39 : decode cX5_theirsFor 39 = .ok (.iload_n 3, 1) := by decide +kernel
theorem dX5_theirsFor_40 : decode cX5_theirsFor 40 = .ok (.putfield 56, 3) := by decide +kernel
theorem dX5_theirsFor_43 : decode cX5_theirsFor 43 = .ok (.aload_n 2, 1) := by decide +kernel
theorem dX5_theirsFor_44 : decode cX5_theirsFor 44 = .ok (.getfield 268, 3) := by decide +kernel
theorem dX5_theirsFor_47 : decode cX5_theirsFor 47 = .ok (.iload_n 1, 1) := by decide +kernel
theorem dX5_theirsFor_48 : decode cX5_theirsFor 48 = .ok (.aload_n 2, 1) := by decide +kernel
theorem dX5_theirsFor_49 : decode cX5_theirsFor 49 = .ok (.invokevirtual 280, 3) := by decide +kernel
theorem dX5_theirsFor_52 : decode cX5_theirsFor 52 = .ok (.imul, 1) := by decide +kernel
theorem dX5_theirsFor_53 : decode cX5_theirsFor 53 = .ok (.isub, 1) := by decide +kernel
theorem dX5_theirsFor_54 : decode cX5_theirsFor 54 = .ok (.ifCond .lt 5, 3) := by decide +kernel
theorem dX5_theirsFor_57 : decode cX5_theirsFor 57 = .ok (.iload_n 3, 1) := by decide +kernel
theorem dX5_theirsFor_58 : decode cX5_theirsFor 58 = .ok (.ireturn, 1) := by decide +kernel
theorem dX5_theirsFor_59 : decode cX5_theirsFor 59 = .ok (.iinc 3 (-1), 3) := by decide +kernel
theorem dX5_theirsFor_62 : decode cX5_theirsFor 62 = .ok (.goto (-28), 3) := by decide +kernel
theorem dX5_theirsFor_65 : decode cX5_theirsFor 65 = .ok (.iconst 0, 1) := by decide +kernel
theorem dX5_theirsFor_66 : decode cX5_theirsFor 66 = .ok (.ireturn, 1) := by decide +kernel
theorem dX5_five_0 : decode cX5_five 0 = .ok (.aload_n 0, 1) := by decide +kernel
theorem dX5_five_1 : decode cX5_five 1 = .ok (.getfield 74, 3) := by decide +kernel
theorem dX5_five_4 : decode cX5_five 4 = .ok (.ifCond .ne 10, 3) := by decide +kernel
theorem dX5_five_7 : decode cX5_five 7 = .ok (.aload_n 0, 1) := by decide +kernel
theorem dX5_five_8 : decode cX5_five 8 = .ok (.bipush (-5), 2) := by decide +kernel
theorem dX5_five_10 : decode cX5_five 10 = .ok (.invokevirtual 89, 3) := by decide +kernel
theorem dX5_five_13 : decode cX5_five 13 = .ok (.ireturn, 1) := by decide +kernel
theorem dX5_five_14 : decode cX5_five 14 = .ok (.aload_n 0, 1) := by decide +kernel
theorem dX5_five_15 : decode cX5_five 15 = .ok (.getfield 74, 3) := by decide +kernel
theorem dX5_five_18 : decode cX5_five 18 = .ok (.iconst 5, 1) := by decide +kernel
theorem dX5_five_19 : decode cX5_five 19 = .ok (.if_icmp .ge 10, 3) := by decide +kernel
theorem dX5_five_22 : decode cX5_five 22 = .ok (.aload_n 0, 1) := by decide +kernel
theorem dX5_five_23 : decode cX5_five 23 = .ok (.getfield 74, 3) := by decide +kernel
theorem dX5_five_26 : decode cX5_five 26 = .ok (.goto 4, 3) := by decide +kernel
theorem dX5_five_29 : decode cX5_five 29 = .ok (.iconst 5, 1) := by decide +kernel
theorem dX5_five_30 : decode cX5_five 30 = .ok (.istore_n 1, 1) := by decide +kernel
theorem dX5_five_31 : decode cX5_five 31 = .ok (.iconst 0, 1) := by decide +kernel
theorem dX5_five_32 : decode cX5_five 32 = .ok (.istore_n 2, 1) := by decide +kernel
theorem dX5_five_33 : decode cX5_five 33 = .ok (.iconst (-1), 1) := by decide +kernel
theorem dX5_five_34 : decode cX5_five 34 = .ok (.istore_n 3, 1) := by decide +kernel
theorem dX5_five_35 : decode cX5_five 35 = .ok (.iconst 1, 1) := by decide +kernel
theorem dX5_five_36 : decode cX5_five 36 = .ok (.istore 4, 2) := by decide +kernel
theorem dX5_five_38 : decode cX5_five 38 = .ok (.iload 4, 2) := by decide +kernel
theorem dX5_five_40 : decode cX5_five 40 = .ok (.iconst 1, 1) := by decide +kernel
theorem dX5_five_41 : decode cX5_five 41 = .ok (.aload_n 0, 1) := by decide +kernel
theorem dX5_five_42 : decode cX5_five 42 = .ok (.getfield 74, 3) := by decide +kernel
theorem dX5_five_45 : decode cX5_five 45 = .ok (.ishl, 1) := by decide +kernel
theorem dX5_five_46 : decode cX5_five 46 = .ok (.if_icmp .ge 42, 3) := by decide +kernel
theorem dX5_five_49 : decode cX5_five 49 = .ok (.iload 4, 2) := by decide +kernel
theorem dX5_five_51 : decode cX5_five 51 = .ok (.invokestatic 122, 3) := by decide +kernel
theorem dX5_five_54 : decode cX5_five 54 = .ok (.iload_n 1, 1) := by decide +kernel
theorem dX5_five_55 : decode cX5_five 55 = .ok (.if_icmp .ne 12, 3) := by decide +kernel
theorem dX5_five_58 : decode cX5_five 58 = .ok (.aload_n 0, 1) := by decide +kernel
theorem dX5_five_59 : decode cX5_five 59 = .ok (.iload 4, 2) := by decide +kernel
theorem dX5_five_61 : decode cX5_five 61 = .ok (.invokevirtual 311, 3) := by decide +kernel
theorem dX5_five_64 : decode cX5_five 64 = .ok (.goto 4, 3) := by decide +kernel
theorem dX5_five_67 : decode cX5_five 67 = .ok (.iconst (-1), 1) := by decide +kernel
theorem dX5_five_68 : decode cX5_five 68 = .ok (.istore 5, 2) := by decide +kernel
theorem dX5_five_70 : decode cX5_five 70 = .ok (.iload 5, 2) := by decide +kernel
theorem dX5_five_72 : decode cX5_five 72 = .ok (.iload_n 3, 1) := by decide +kernel
theorem dX5_five_73 : decode cX5_five 73 = .ok (.if_icmp .le 9, 3) := by decide +kernel
theorem dX5_five_76 : decode cX5_five 76 = .ok (.iload 4, 2) := by decide +kernel
theorem dX5_five_78 : decode cX5_five 78 = .ok (.istore_n 2, 1) := by decide +kernel
theorem dX5_five_79 : decode cX5_five 79 = .ok (.iload 5, 2) := by decide +kernel
theorem dX5_five_81 : decode cX5_five 81 = .ok (.istore_n 3, 1) := by decide +kernel
theorem dX5_five_82 : decode cX5_five 82 = .ok (.iinc 4 1, 3) := by decide +kernel
theorem dX5_five_85 : decode cX5_five 85 = .ok (.goto (-47), 3) := by decide +kernel
theorem dX5_five_88 : decode cX5_five 88 = .ok (.iload_n 2, 1) := by decide +kernel
theorem dX5_five_89 : decode cX5_five 89 = .ok (.ireturn, 1) := by decide +kernel
theorem dX5_far_0 : decode cX5_far 0 = .ok (.ldc_w 319, 3) := by decide +kernel
theorem dX5_far_3 : decode cX5_far 3 = .ok (.iload_n 0, 1) := by decide +kernel
theorem dX5_far_4 : decode cX5_far 4 = .ok (.iadd, 1) := by decide +kernel
theorem dX5_far_5 : decode cX5_far 5 = .ok (.ireturn, 1) := by decide +kernel
theorem dX5_two_0 : decode cX5_two 0 = .ok (.iload_n 1, 1) := by decide +kernel
theorem dX5_two_1 : decode cX5_two 1 = .ok (.i2l, 1) := by decide +kernel
theorem dX5_two_2 : decode cX5_two 2 = .ok (.invokestatic 138, 3) := by decide +kernel
theorem dX5_two_5 : decode cX5_two 5 = .ok (.ifCond .eq 23, 3) := by decide +kernel
theorem dX5_two_8 : decode cX5_two 8 = .ok (.iload_n 2, 1) := by decide +kernel
theorem dX5_two_9 : decode cX5_two 9 = .ok (.i2l, 1) := by decide +kernel
theorem dX5_two_10 : decode cX5_two 10 = .ok (.invokestatic 138, 3) := by decide +kernel
theorem dX5_two_13 : decode cX5_two 13 = .ok (.ifCond .eq 15, 3) := by decide +kernel
theorem dX5_two_16 : decode cX5_two 16 = .ok (.iload_n 3, 1) := by decide +kernel
theorem dX5_two_17 : decode cX5_two 17 = .ok (.i2l, 1) := by decide +kernel
theorem dX5_two_18 : decode cX5_two 18 = .ok (.lconst 0, 1) := by decide +kernel
theorem dX5_two_19 : decode cX5_two 19 = .ok (.ldc2_w 314, 3) := by decide +kernel
theorem dX5_two_22 : decode cX5_two 22 = .ok (.invokestatic 77, 3) := by decide +kernel
theorem dX5_two_25 : decode cX5_two 25 = .ok (.ifCond .ne 13, 3) := by decide +kernel
theorem dX5_two_28 : decode cX5_two 28 = .ok (.aload_n 0, 1) := by decide +kernel
theorem dX5_two_29 : decode cX5_two 29 = .ok (.bipush (-2), 2) := by decide +kernel
theorem dX5_two_31 : decode cX5_two 31 = .ok (.invokevirtual 89, 3) := by decide +kernel
theorem dX5_two_34 : decode cX5_two 34 = .ok (.invokestatic 320, 3) := by decide +kernel
theorem dX5_two_37 : decode cX5_two 37 = .ok (.ireturn, 1) := by decide +kernel
theorem dX5_two_38 : decode cX5_two 38 = .ok (.aload_n 0, 1) := by decide +kernel
theorem dX5_two_39 : decode cX5_two 39 = .ok (.getfield 49, 3) := by decide +kernel
theorem dX5_two_42 : decode cX5_two 42 = .ok (.iload_n 1, 1) := by decide +kernel
theorem dX5_two_43 : decode cX5_two 43 = .ok (.iaload, 1) := by decide +kernel
theorem dX5_two_44 : decode cX5_two 44 = .ok (.ifCond .eq 12, 3) := by decide +kernel
theorem dX5_two_47 : decode cX5_two 47 = .ok (.aload_n 0, 1) := by decide +kernel
theorem dX5_two_48 : decode cX5_two 48 = .ok (.getfield 49, 3) := by decide +kernel
theorem dX5_two_51 : decode cX5_two 51 = .ok (.iload_n 2, 1) := by decide +kernel
theorem dX5_two_52 : decode cX5_two 52 = .ok (.iaload, 1) := by decide +kernel
theorem dX5_two_53 : decode cX5_two 53 = .ok (.ifCond .ne 13, 3) := by decide +kernel
theorem dX5_two_56 : decode cX5_two 56 = .ok (.aload_n 0, 1) := by decide +kernel
theorem dX5_two_57 : decode cX5_two 57 = .ok (.bipush (-5), 2) := by decide +kernel
theorem dX5_two_59 : decode cX5_two 59 = .ok (.invokevirtual 89, 3) := by decide +kernel
theorem dX5_two_62 : decode cX5_two 62 = .ok (.invokestatic 320, 3) := by decide +kernel
theorem dX5_two_65 : decode cX5_two 65 = .ok (.ireturn, 1) := by decide +kernel
theorem dX5_two_66 : decode cX5_two 66 = .ok (.aload_n 0, 1) := by decide +kernel
theorem dX5_two_67 : decode cX5_two 67 = .ok (.invokevirtual 248, 3) := by decide +kernel
theorem dX5_two_70 : decode cX5_two 70 = .ok (.astore 4, 2) := by decide +kernel
theorem dX5_two_72 : decode cX5_two 72 = .ok (.aload 4, 2) := by decide +kernel
theorem dX5_two_74 : decode cX5_two 74 = .ok (.iload_n 1, 1) := by decide +kernel
theorem dX5_two_75 : decode cX5_two 75 = .ok (.invokevirtual 218, 3) := by decide +kernel
theorem dX5_two_78 : decode cX5_two 78 = .ok (.aload 4, 2) := by decide +kernel
theorem dX5_two_80 : decode cX5_two 80 = .ok (.iload_n 3, 1) := by decide +kernel
theorem dX5_two_81 : decode cX5_two 81 = .ok (.invokevirtual 316, 3) := by decide +kernel
theorem dX5_two_84 : decode cX5_two 84 = .ok (.istore 5, 2) := by decide +kernel
theorem dX5_two_86 : decode cX5_two 86 = .ok (.aload 4, 2) := by decide +kernel
theorem dX5_two_88 : decode cX5_two 88 = .ok (.iload_n 2, 1) := by decide +kernel
theorem dX5_two_89 : decode cX5_two 89 = .ok (.invokevirtual 323, 3) := by decide +kernel
theorem dX5_two_92 : decode cX5_two 92 = .ok (.pop, 1) := by decide +kernel
theorem dX5_two_93 : decode cX5_two 93 = .ok (.iload 5, 2) := by decide +kernel
theorem dX5_two_95 : decode cX5_two 95 = .ok (.aload 4, 2) := by decide +kernel
theorem dX5_two_97 : decode cX5_two 97 = .ok (.iload_n 3, 1) := by decide +kernel
theorem dX5_two_98 : decode cX5_two 98 = .ok (.invokevirtual 316, 3) := by decide +kernel
theorem dX5_two_101 : decode cX5_two 101 = .ok (.iadd, 1) := by decide +kernel
theorem dX5_two_102 : decode cX5_two 102 = .ok (.ireturn, 1) := by decide +kernel
theorem dX5_nextLine_0 : decode cX5_nextLine 0 = .ok (.iload_n 1, 1) := by decide +kernel
theorem dX5_nextLine_1 : decode cX5_nextLine 1 = .ok (.iconst 1, 1) := by decide +kernel
theorem dX5_nextLine_2 : decode cX5_nextLine 2 = .ok (.iadd, 1) := by decide +kernel
theorem dX5_nextLine_3 : decode cX5_nextLine 3 = .ok (.iconst 4, 1) := by decide +kernel
theorem dX5_nextLine_4 : decode cX5_nextLine 4 = .ok (.irem, 1) := by decide +kernel
theorem dX5_nextLine_5 : decode cX5_nextLine 5 = .ok (.istore_n 2, 1) := by decide +kernel
theorem dX5_nextLine_6 : decode cX5_nextLine 6 = .ok (.aload_n 0, 1) := by decide +kernel
theorem dX5_nextLine_7 : decode cX5_nextLine 7 = .ok (.getfield 49, 3) := by decide +kernel
theorem dX5_nextLine_10 : decode cX5_nextLine 10 = .ok (.iload_n 2, 1) := by decide +kernel
theorem dX5_nextLine_11 : decode cX5_nextLine 11 = .ok (.iaload, 1) := by decide +kernel
theorem dX5_nextLine_12 : decode cX5_nextLine 12 = .ok (.ifCond .ne 12, 3) := by decide +kernel
theorem dX5_nextLine_15 : decode cX5_nextLine 15 = .ok (.iload_n 2, 1) := by decide +kernel
theorem dX5_nextLine_16 : decode cX5_nextLine 16 = .ok (.iconst 1, 1) := by decide +kernel
theorem dX5_nextLine_17 : decode cX5_nextLine 17 = .ok (.iadd, 1) := by decide +kernel
theorem dX5_nextLine_18 : decode cX5_nextLine 18 = .ok (.iconst 4, 1) := by decide +kernel
theorem dX5_nextLine_19 : decode cX5_nextLine 19 = .ok (.irem, 1) := by decide +kernel
theorem dX5_nextLine_20 : decode cX5_nextLine 20 = .ok (.istore_n 2, 1) := by decide +kernel
theorem dX5_nextLine_21 : decode cX5_nextLine 21 = .ok (.goto (-15), 3) := by decide +kernel
theorem dX5_nextLine_24 : decode cX5_nextLine 24 = .ok (.iload_n 2, 1) := by decide +kernel
theorem dX5_nextLine_25 : decode cX5_nextLine 25 = .ok (.ireturn, 1) := by decide +kernel
theorem dX5_noLines_0 : decode cX5_noLines 0 = .ok (.iconst 0, 1) := by decide +kernel
theorem dX5_noLines_1 : decode cX5_noLines 1 = .ok (.istore_n 1, 1) := by decide +kernel
theorem dX5_noLines_2 : decode cX5_noLines 2 = .ok (.iload_n 1, 1) := by decide +kernel
theorem dX5_noLines_3 : decode cX5_noLines 3 = .ok (.iconst 4, 1) := by decide +kernel
theorem dX5_noLines_4 : decode cX5_noLines 4 = .ok (.if_icmp .ge 20, 3) := by decide +kernel
theorem dX5_noLines_7 : decode cX5_noLines 7 = .ok (.aload_n 0, 1) := by decide +kernel
theorem dX5_noLines_8 : decode cX5_noLines 8 = .ok (.getfield 49, 3) := by decide +kernel
theorem dX5_noLines_11 : decode cX5_noLines 11 = .ok (.iload_n 1, 1) := by decide +kernel
theorem dX5_noLines_12 : decode cX5_noLines 12 = .ok (.iaload, 1) := by decide +kernel
theorem dX5_noLines_13 : decode cX5_noLines 13 = .ok (.ifCond .eq 5, 3) := by decide +kernel
theorem dX5_noLines_16 : decode cX5_noLines 16 = .ok (.iconst 0, 1) := by decide +kernel
theorem dX5_noLines_17 : decode cX5_noLines 17 = .ok (.ireturn, 1) := by decide +kernel
theorem dX5_noLines_18 : decode cX5_noLines 18 = .ok (.iinc 1 1, 3) := by decide +kernel
theorem dX5_noLines_21 : decode cX5_noLines 21 = .ok (.goto (-19), 3) := by decide +kernel
theorem dX5_noLines_24 : decode cX5_noLines 24 = .ok (.iconst 1, 1) := by decide +kernel
theorem dX5_noLines_25 : decode cX5_noLines 25 = .ok (.ireturn, 1) := by decide +kernel
theorem dX5_shiftsOf_0 : decode cX5_shiftsOf 0 = .ok (.aload_n 0, 1) := by decide +kernel
theorem dX5_shiftsOf_1 : decode cX5_shiftsOf 1 = .ok (.invokevirtual 248, 3) := by decide +kernel
theorem dX5_shiftsOf_4 : decode cX5_shiftsOf 4 = .ok (.astore_n 3, 1) := by decide +kernel
theorem dX5_shiftsOf_5 : decode cX5_shiftsOf 5 = .ok (.aload_n 0, 1) := by decide +kernel
theorem dX5_shiftsOf_6 : decode cX5_shiftsOf 6 = .ok (.iconst 3, 1) := by decide +kernel
theorem dX5_shiftsOf_7 : decode cX5_shiftsOf 7 = .ok (.invokevirtual 326, 3) := by decide +kernel
theorem dX5_shiftsOf_10 : decode cX5_shiftsOf 10 = .ok (.istore 4, 2) := by decide +kernel
theorem dX5_shiftsOf_12 : decode cX5_shiftsOf 12 = .ok (.aload_n 3, 1) := by decide +kernel
theorem dX5_shiftsOf_13 : decode cX5_shiftsOf 13 = .ok (.iload 4, 2) := by decide +kernel
theorem dX5_shiftsOf_15 : decode cX5_shiftsOf 15 = .ok (.invokevirtual 218, 3) := by decide +kernel
theorem dX5_shiftsOf_18 : decode cX5_shiftsOf 18 = .ok (.iconst 0, 1) := by decide +kernel
theorem dX5_shiftsOf_19 : decode cX5_shiftsOf 19 = .ok (.istore 5, 2) := by decide +kernel
theorem dX5_shiftsOf_21 : decode cX5_shiftsOf 21 = .ok (.iload_n 2, 1) := by decide +kernel
theorem dX5_shiftsOf_22 : decode cX5_shiftsOf 22 = .ok (.istore 6, 2) := by decide +kernel
theorem dX5_shiftsOf_24 : decode cX5_shiftsOf 24 = .ok (.iload 6, 2) := by decide +kernel
theorem dX5_shiftsOf_26 : decode cX5_shiftsOf 26 = .ok (.iload_n 1, 1) := by decide +kernel
theorem dX5_shiftsOf_27 : decode cX5_shiftsOf 27 = .ok (.if_icmp .le 37, 3) := by decide +kernel
theorem dX5_shiftsOf_30 : decode cX5_shiftsOf 30 = .ok (.iload 5, 2) := by decide +kernel
theorem dX5_shiftsOf_32 : decode cX5_shiftsOf 32 = .ok (.aload_n 3, 1) := by decide +kernel
theorem dX5_shiftsOf_33 : decode cX5_shiftsOf 33 = .ok (.iload_n 1, 1) := by decide +kernel
theorem dX5_shiftsOf_34 : decode cX5_shiftsOf 34 = .ok (.invokevirtual 316, 3) := by decide +kernel
theorem dX5_shiftsOf_37 : decode cX5_shiftsOf 37 = .ok (.iadd, 1) := by decide +kernel
theorem dX5_shiftsOf_38 : decode cX5_shiftsOf 38 = .ok (.istore 5, 2) := by decide +kernel
theorem dX5_shiftsOf_40 : decode cX5_shiftsOf 40 = .ok (.iload 6, 2) := by decide +kernel
theorem dX5_shiftsOf_42 : decode cX5_shiftsOf 42 = .ok (.iload_n 1, 1) := by decide +kernel
theorem dX5_shiftsOf_43 : decode cX5_shiftsOf 43 = .ok (.isub, 1) := by decide +kernel
theorem dX5_shiftsOf_44 : decode cX5_shiftsOf 44 = .ok (.istore 6, 2) := by decide +kernel
theorem dX5_shiftsOf_46 : decode cX5_shiftsOf 46 = .ok (.aload_n 0, 1) := by decide +kernel
theorem dX5_shiftsOf_47 : decode cX5_shiftsOf 47 = .ok (.iload 4, 2) := by decide +kernel
theorem dX5_shiftsOf_49 : decode cX5_shiftsOf 49 = .ok (.invokevirtual 326, 3) := by decide +kernel
theorem dX5_shiftsOf_52 : decode cX5_shiftsOf 52 = .ok (.istore 4, 2) := by decide +kernel
theorem dX5_shiftsOf_54 : decode cX5_shiftsOf 54 = .ok (.aload_n 3, 1) := by decide +kernel
theorem dX5_shiftsOf_55 : decode cX5_shiftsOf 55 = .ok (.iload 4, 2) := by decide +kernel
theorem dX5_shiftsOf_57 : decode cX5_shiftsOf 57 = .ok (.invokevirtual 323, 3) := by decide +kernel
theorem dX5_shiftsOf_60 : decode cX5_shiftsOf 60 = .ok (.pop, 1) := by decide +kernel
theorem dX5_shiftsOf_61 : decode cX5_shiftsOf 61 = .ok (.goto (-37), 3) := by decide +kernel
theorem dX5_shiftsOf_64 : decode cX5_shiftsOf 64 = .ok (.iload 5, 2) := by decide +kernel
theorem dX5_shiftsOf_66 : decode cX5_shiftsOf 66 = .ok (.aload_n 3, 1) := by decide +kernel
theorem dX5_shiftsOf_67 : decode cX5_shiftsOf 67 = .ok (.iload 6, 2) := by decide +kernel
theorem dX5_shiftsOf_69 : decode cX5_shiftsOf 69 = .ok (.invokevirtual 316, 3) := by decide +kernel
theorem dX5_shiftsOf_72 : decode cX5_shiftsOf 72 = .ok (.iadd, 1) := by decide +kernel
theorem dX5_shiftsOf_73 : decode cX5_shiftsOf 73 = .ok (.ireturn, 1) := by decide +kernel
theorem dX5_shifts_0 : decode cX5_shifts 0 = .ok (.iload_n 1, 1) := by decide +kernel
theorem dX5_shifts_1 : decode cX5_shifts 1 = .ok (.i2l, 1) := by decide +kernel
theorem dX5_shifts_2 : decode cX5_shifts 2 = .ok (.ldc2_w 104, 3) := by decide +kernel
theorem dX5_shifts_5 : decode cX5_shifts 5 = .ok (.ldc2_w 128, 3) := by decide +kernel
theorem dX5_shifts_8 : decode cX5_shifts 8 = .ok (.invokestatic 77, 3) := by decide +kernel
theorem dX5_shifts_11 : decode cX5_shifts 11 = .ok (.ifCond .eq 15, 3) := by decide +kernel
theorem dX5_shifts_14 : decode cX5_shifts 14 = .ok (.iload_n 2, 1) := by decide +kernel
theorem dX5_shifts_15 : decode cX5_shifts 15 = .ok (.i2l, 1) := by decide +kernel
theorem dX5_shifts_16 : decode cX5_shifts 16 = .ok (.lconst 0, 1) := by decide +kernel
theorem dX5_shifts_17 : decode cX5_shifts 17 = .ok (.ldc2_w 314, 3) := by decide +kernel
theorem dX5_shifts_20 : decode cX5_shifts 20 = .ok (.invokestatic 77, 3) := by decide +kernel
theorem dX5_shifts_23 : decode cX5_shifts 23 = .ok (.ifCond .ne 13, 3) := by decide +kernel
theorem dX5_shifts_26 : decode cX5_shifts 26 = .ok (.aload_n 0, 1) := by decide +kernel
theorem dX5_shifts_27 : decode cX5_shifts 27 = .ok (.bipush (-2), 2) := by decide +kernel
theorem dX5_shifts_29 : decode cX5_shifts 29 = .ok (.invokevirtual 89, 3) := by decide +kernel
theorem dX5_shifts_32 : decode cX5_shifts 32 = .ok (.invokestatic 320, 3) := by decide +kernel
theorem dX5_shifts_35 : decode cX5_shifts 35 = .ok (.ireturn, 1) := by decide +kernel
theorem dX5_shifts_36 : decode cX5_shifts 36 = .ok (.aload_n 0, 1) := by decide +kernel
theorem dX5_shifts_37 : decode cX5_shifts 37 = .ok (.invokevirtual 329, 3) := by decide +kernel
theorem dX5_shifts_40 : decode cX5_shifts 40 = .ok (.ifCond .eq 15, 3) := by decide +kernel
theorem dX5_shifts_43 : decode cX5_shifts 43 = .ok (.aload_n 0, 1) := by decide +kernel
theorem dX5_shifts_44 : decode cX5_shifts 44 = .ok (.bipush (-5), 2) := by decide +kernel
theorem dX5_shifts_46 : decode cX5_shifts 46 = .ok (.invokevirtual 89, 3) := by decide +kernel
theorem dX5_shifts_49 : decode cX5_shifts 49 = .ok (.invokestatic 320, 3) := by decide +kernel
theorem dX5_shifts_52 : decode cX5_shifts 52 = .ok (.goto 9, 3) := by decide +kernel
theorem dX5_shifts_55 : decode cX5_shifts 55 = .ok (.aload_n 0, 1) := by decide +kernel
theorem dX5_shifts_56 : decode cX5_shifts 56 = .ok (.iload_n 1, 1) := by decide +kernel
theorem dX5_shifts_57 : decode cX5_shifts 57 = .ok (.iload_n 2, 1) := by decide +kernel
theorem dX5_shifts_58 : decode cX5_shifts 58 = .ok (.invokevirtual 332, 3) := by decide +kernel
theorem dX5_shifts_61 : decode cX5_shifts 61 = .ok (.ireturn, 1) := by decide +kernel
theorem dX5_bestShift_0 : decode cX5_bestShift 0 = .ok (.iload_n 1, 1) := by decide +kernel
theorem dX5_bestShift_1 : decode cX5_bestShift 1 = .ok (.i2l, 1) := by decide +kernel
theorem dX5_bestShift_2 : decode cX5_bestShift 2 = .ok (.lconst 0, 1) := by decide +kernel
theorem dX5_bestShift_3 : decode cX5_bestShift 3 = .ok (.ldc2_w 314, 3) := by decide +kernel
theorem dX5_bestShift_6 : decode cX5_bestShift 6 = .ok (.invokestatic 77, 3) := by decide +kernel
theorem dX5_bestShift_9 : decode cX5_bestShift 9 = .ok (.ifCond .ne 10, 3) := by decide +kernel
theorem dX5_bestShift_12 : decode cX5_bestShift 12 = .ok (.aload_n 0, 1) := by decide +kernel
theorem dX5_bestShift_13 : decode cX5_bestShift 13 = .ok (.bipush (-2), 2) := by decide +kernel
theorem dX5_bestShift_15 : decode cX5_bestShift 15 = .ok (.invokevirtual 89, 3) := by decide +kernel
theorem dX5_bestShift_18 : decode cX5_bestShift 18 = .ok (.ireturn, 1) := by decide +kernel
theorem dX5_bestShift_19 : decode cX5_bestShift 19 = .ok (.aload_n 0, 1) := by decide +kernel
theorem dX5_bestShift_20 : decode cX5_bestShift 20 = .ok (.invokevirtual 329, 3) := by decide +kernel
theorem dX5_bestShift_23 : decode cX5_bestShift 23 = .ok (.ifCond .eq 10, 3) := by decide +kernel
theorem dX5_bestShift_26 : decode cX5_bestShift 26 = .ok (.aload_n 0, 1) := by decide +kernel
theorem dX5_bestShift_27 : decode cX5_bestShift 27 = .ok (.bipush (-5), 2) := by decide +kernel
theorem dX5_bestShift_29 : decode cX5_bestShift 29 = .ok (.invokevirtual 89, 3) := by decide +kernel
theorem dX5_bestShift_32 : decode cX5_bestShift 32 = .ok (.ireturn, 1) := by decide +kernel
theorem dX5_bestShift_33 : decode cX5_bestShift 33 = .ok (.iconst (-1), 1) := by decide +kernel
theorem dX5_bestShift_34 : decode cX5_bestShift 34 = .ok (.istore_n 2, 1) := by decide +kernel
theorem dX5_bestShift_35 : decode cX5_bestShift 35 = .ok (.iconst 0, 1) := by decide +kernel
theorem dX5_bestShift_36 : decode cX5_bestShift 36 = .ok (.istore_n 3, 1) := by decide +kernel
theorem dX5_bestShift_37 : decode cX5_bestShift 37 = .ok (.iconst 5, 1) := by decide +kernel
theorem dX5_bestShift_38 : decode cX5_bestShift 38 = .ok (.istore 4, 2) := by decide +kernel
theorem dX5_bestShift_40 : decode cX5_bestShift 40 = .ok (.iload 4, 2) := by decide +kernel
theorem dX5_bestShift_42 : decode cX5_bestShift 42 = .ok (.bipush 99, 2) := by decide +kernel
theorem dX5_bestShift_44 : decode cX5_bestShift 44 = .ok (.if_icmp .gt 35, 3) := by decide +kernel
theorem dX5_bestShift_47 : decode cX5_bestShift 47 = .ok (.aload_n 0, 1) := by decide +kernel
theorem dX5_bestShift_48 : decode cX5_bestShift 48 = .ok (.iload 4, 2) := by decide +kernel
theorem dX5_bestShift_50 : decode cX5_bestShift 50 = .ok (.iload_n 1, 1) := by decide +kernel
theorem dX5_bestShift_51 : decode cX5_bestShift 51 = .ok (.invokevirtual 332, 3) := by decide +kernel
theorem dX5_bestShift_54 : decode cX5_bestShift 54 = .ok (.istore 5, 2) := by decide +kernel
theorem dX5_bestShift_56 : decode cX5_bestShift 56 = .ok (.iload_n 2, 1) := by decide +kernel
theorem dX5_bestShift_57 : decode cX5_bestShift 57 = .ok (.iconst (-1), 1) := by decide +kernel
theorem dX5_bestShift_58 : decode cX5_bestShift 58 = .ok (.if_icmp .eq 9, 3) := by decide +kernel
theorem dX5_bestShift_61 : decode cX5_bestShift 61 = .ok (.iload 5, 2) := by decide +kernel
theorem dX5_bestShift_63 : decode cX5_bestShift 63 = .ok (.iload_n 3, 1) := by decide +kernel
theorem dX5_bestShift_64 : decode cX5_bestShift 64 = .ok (.if_icmp .le 9, 3) := by decide +kernel
theorem dX5_bestShift_67 : decode cX5_bestShift 67 = .ok (.iload 4, 2) := by decide +kernel
theorem dX5_bestShift_69 : decode cX5_bestShift 69 = .ok (.istore_n 2, 1) := by decide +kernel
theorem dX5_bestShift_70 : decode cX5_bestShift 70 = .ok (.iload 5, 2) := by decide +kernel
theorem dX5_bestShift_72 : decode cX5_bestShift 72 = .ok (.istore_n 3, 1) := by decide +kernel
theorem dX5_bestShift_73 : decode cX5_bestShift 73 = .ok (.iinc 4 1, 3) := by decide +kernel
theorem dX5_bestShift_76 : decode cX5_bestShift 76 = .ok (.goto (-36), 3) := by decide +kernel
theorem dX5_bestShift_79 : decode cX5_bestShift 79 = .ok (.iload_n 2, 1) := by decide +kernel
theorem dX5_bestShift_80 : decode cX5_bestShift 80 = .ok (.ireturn, 1) := by decide +kernel
theorem dX5_changeIn_0 : decode cX5_changeIn 0 = .ok (.aload_n 0, 1) := by decide +kernel
theorem dX5_changeIn_1 : decode cX5_changeIn 1 = .ok (.invokevirtual 248, 3) := by decide +kernel
theorem dX5_changeIn_4 : decode cX5_changeIn 4 = .ok (.astore 4, 2) := by decide +kernel
theorem dX5_changeIn_6 : decode cX5_changeIn 6 = .ok (.aload 4, 2) := by decide +kernel
theorem dX5_changeIn_8 : decode cX5_changeIn 8 = .ok (.iload_n 3, 1) := by decide +kernel
theorem dX5_changeIn_9 : decode cX5_changeIn 9 = .ok (.putfield 52, 3) := by decide +kernel
theorem dX5_changeIn_12 : decode cX5_changeIn 12 = .ok (.aload 4, 2) := by decide +kernel
theorem dX5_changeIn_14 : decode cX5_changeIn 14 = .ok (.iload_n 1, 1) := by decide +kernel
theorem dX5_changeIn_15 : decode cX5_changeIn 15 = .ok (.invokevirtual 323, 3) := by decide +kernel
theorem dX5_changeIn_18 : decode cX5_changeIn 18 = .ok (.pop, 1) := by decide +kernel
theorem dX5_changeIn_19 : decode cX5_changeIn 19 = .ok (.aload 4, 2) := by decide +kernel
theorem dX5_changeIn_21 : decode cX5_changeIn 21 = .ok (.iload_n 2, 1) := by decide +kernel
theorem dX5_changeIn_22 : decode cX5_changeIn 22 = .ok (.invokevirtual 316, 3) := by decide +kernel
theorem dX5_changeIn_25 : decode cX5_changeIn 25 = .ok (.istore 5, 2) := by decide +kernel
theorem dX5_changeIn_27 : decode cX5_changeIn 27 = .ok (.aload_n 0, 1) := by decide +kernel
theorem dX5_changeIn_28 : decode cX5_changeIn 28 = .ok (.invokevirtual 248, 3) := by decide +kernel
theorem dX5_changeIn_31 : decode cX5_changeIn 31 = .ok (.astore 4, 2) := by decide +kernel
theorem dX5_changeIn_33 : decode cX5_changeIn 33 = .ok (.aload 4, 2) := by decide +kernel
theorem dX5_changeIn_35 : decode cX5_changeIn 35 = .ok (.iload_n 3, 1) := by decide +kernel
theorem dX5_changeIn_36 : decode cX5_changeIn 36 = .ok (.putfield 52, 3) := by decide +kernel
theorem dX5_changeIn_39 : decode cX5_changeIn 39 = .ok (.iload 5, 2) := by decide +kernel
theorem dX5_changeIn_41 : decode cX5_changeIn 41 = .ok (.aload 4, 2) := by decide +kernel
theorem dX5_changeIn_43 : decode cX5_changeIn 43 = .ok (.iload_n 2, 1) := by decide +kernel
theorem dX5_changeIn_44 : decode cX5_changeIn 44 = .ok (.invokevirtual 316, 3) := by decide +kernel
theorem dX5_changeIn_47 : decode cX5_changeIn 47 = .ok (.isub, 1) := by decide +kernel
theorem dX5_changeIn_48 : decode cX5_changeIn 48 = .ok (.ireturn, 1) := by decide +kernel
theorem dX5_changeNow_0 : decode cX5_changeNow 0 = .ok (.iload_n 1, 1) := by decide +kernel
theorem dX5_changeNow_1 : decode cX5_changeNow 1 = .ok (.i2l, 1) := by decide +kernel
theorem dX5_changeNow_2 : decode cX5_changeNow 2 = .ok (.invokestatic 138, 3) := by decide +kernel
theorem dX5_changeNow_5 : decode cX5_changeNow 5 = .ok (.ifCond .eq 15, 3) := by decide +kernel
theorem dX5_changeNow_8 : decode cX5_changeNow 8 = .ok (.iload_n 2, 1) := by decide +kernel
theorem dX5_changeNow_9 : decode cX5_changeNow 9 = .ok (.i2l, 1) := by decide +kernel
theorem dX5_changeNow_10 : decode cX5_changeNow 10 = .ok (.lconst 0, 1) := by decide +kernel
theorem dX5_changeNow_11 : decode cX5_changeNow 11 = .ok (.ldc2_w 314, 3) := by decide +kernel
theorem dX5_changeNow_14 : decode cX5_changeNow 14 = .ok (.invokestatic 77, 3) := by decide +kernel
theorem dX5_changeNow_17 : decode cX5_changeNow 17 = .ok (.ifCond .ne 13, 3) := by decide +kernel
theorem dX5_changeNow_20 : decode cX5_changeNow 20 = .ok (.aload_n 0, 1) := by decide +kernel
theorem dX5_changeNow_21 : decode cX5_changeNow 21 = .ok (.bipush (-2), 2) := by decide +kernel
theorem dX5_changeNow_23 : decode cX5_changeNow 23 = .ok (.invokevirtual 89, 3) := by decide +kernel
theorem dX5_changeNow_26 : decode cX5_changeNow 26 = .ok (.invokestatic 320, 3) := by decide +kernel
theorem dX5_changeNow_29 : decode cX5_changeNow 29 = .ok (.ireturn, 1) := by decide +kernel
theorem dX5_changeNow_30 : decode cX5_changeNow 30 = .ok (.aload_n 0, 1) := by decide +kernel
theorem dX5_changeNow_31 : decode cX5_changeNow 31 = .ok (.getfield 49, 3) := by decide +kernel
theorem dX5_changeNow_34 : decode cX5_changeNow 34 = .ok (.iload_n 1, 1) := by decide +kernel
theorem dX5_changeNow_35 : decode cX5_changeNow 35 = .ok (.iaload, 1) := by decide +kernel
theorem dX5_changeNow_36 : decode cX5_changeNow 36 = .ok (.ifCond .ne 15, 3) := by decide +kernel
theorem dX5_changeNow_39 : decode cX5_changeNow 39 = .ok (.aload_n 0, 1) := by decide +kernel
theorem dX5_changeNow_40 : decode cX5_changeNow 40 = .ok (.bipush (-5), 2) := by decide +kernel
theorem dX5_changeNow_42 : decode cX5_changeNow 42 = .ok (.invokevirtual 89, 3) := by decide +kernel
theorem dX5_changeNow_45 : decode cX5_changeNow 45 = .ok (.invokestatic 320, 3) := by decide +kernel
theorem dX5_changeNow_48 : decode cX5_changeNow 48 = .ok (.goto 13, 3) := by decide +kernel
theorem dX5_changeNow_51 : decode cX5_changeNow 51 = .ok (.aload_n 0, 1) := by decide +kernel
theorem dX5_changeNow_52 : decode cX5_changeNow 52 = .ok (.iload_n 1, 1) := by decide +kernel
theorem dX5_changeNow_53 : decode cX5_changeNow 53 = .ok (.iload_n 2, 1) := by decide +kernel
theorem dX5_changeNow_54 : decode cX5_changeNow 54 = .ok (.aload_n 0, 1) := by decide +kernel
theorem dX5_changeNow_55 : decode cX5_changeNow 55 = .ok (.getfield 52, 3) := by decide +kernel
theorem dX5_changeNow_58 : decode cX5_changeNow 58 = .ok (.invokevirtual 335, 3) := by decide +kernel
theorem dX5_changeNow_61 : decode cX5_changeNow 61 = .ok (.ireturn, 1) := by decide +kernel
theorem dX5_where_0 : decode cX5_where 0 = .ok (.iload_n 1, 1) := by decide +kernel
theorem dX5_where_1 : decode cX5_where 1 = .ok (.i2l, 1) := by decide +kernel
theorem dX5_where_2 : decode cX5_where 2 = .ok (.invokestatic 138, 3) := by decide +kernel
theorem dX5_where_5 : decode cX5_where 5 = .ok (.ifCond .eq 15, 3) := by decide +kernel
theorem dX5_where_8 : decode cX5_where 8 = .ok (.iload_n 2, 1) := by decide +kernel
theorem dX5_where_9 : decode cX5_where 9 = .ok (.i2l, 1) := by decide +kernel
theorem dX5_where_10 : decode cX5_where 10 = .ok (.lconst 0, 1) := by decide +kernel
theorem dX5_where_11 : decode cX5_where 11 = .ok (.ldc2_w 314, 3) := by decide +kernel
theorem dX5_where_14 : decode cX5_where 14 = .ok (.invokestatic 77, 3) := by decide +kernel
theorem dX5_where_17 : decode cX5_where 17 = .ok (.ifCond .ne 10, 3) := by decide +kernel
theorem dX5_where_20 : decode cX5_where 20 = .ok (.aload_n 0, 1) := by decide +kernel
theorem dX5_where_21 : decode cX5_where 21 = .ok (.bipush (-2), 2) := by decide +kernel
theorem dX5_where_23 : decode cX5_where 23 = .ok (.invokevirtual 89, 3) := by decide +kernel
theorem dX5_where_26 : decode cX5_where 26 = .ok (.ireturn, 1) := by decide +kernel
theorem dX5_where_27 : decode cX5_where 27 = .ok (.aload_n 0, 1) := by decide +kernel
theorem dX5_where_28 : decode cX5_where 28 = .ok (.getfield 49, 3) := by decide +kernel
theorem dX5_where_31 : decode cX5_where 31 = .ok (.iload_n 1, 1) := by decide +kernel
theorem dX5_where_32 : decode cX5_where 32 = .ok (.iaload, 1) := by decide +kernel
theorem dX5_where_33 : decode cX5_where 33 = .ok (.ifCond .ne 10, 3) := by decide +kernel
theorem dX5_where_36 : decode cX5_where 36 = .ok (.aload_n 0, 1) := by decide +kernel
theorem dX5_where_37 : decode cX5_where 37 = .ok (.bipush (-5), 2) := by decide +kernel
theorem dX5_where_39 : decode cX5_where 39 = .ok (.invokevirtual 89, 3) := by decide +kernel
theorem dX5_where_42 : decode cX5_where 42 = .ok (.ireturn, 1) := by decide +kernel
theorem dX5_where_43 : decode cX5_where 43 = .ok (.iconst 0, 1) := by decide +kernel
theorem dX5_where_44 : decode cX5_where 44 = .ok (.istore_n 3, 1) := by decide +kernel
theorem dX5_where_45 : decode cX5_where 45 = .ok (.iconst 0, 1) := by decide +kernel
theorem dX5_where_46 : decode cX5_where 46 = .ok (.istore 4, 2) := by decide +kernel
theorem dX5_where_48 : decode cX5_where 48 = .ok (.iconst 0, 1) := by decide +kernel
theorem dX5_where_49 : decode cX5_where 49 = .ok (.istore 5, 2) := by decide +kernel
theorem dX5_where_51 : decode cX5_where 51 = .ok (.iload 5, 2) := by decide +kernel
theorem dX5_where_53 : decode cX5_where 53 = .ok (.iconst 3, 1) := by decide +kernel
theorem dX5_where_54 : decode cX5_where 54 = .ok (.if_icmp .ge 38, 3) := by decide +kernel
theorem dX5_where_57 : decode cX5_where 57 = .ok (.aload_n 0, 1) := by decide +kernel
theorem dX5_where_58 : decode cX5_where 58 = .ok (.iload_n 1, 1) := by decide +kernel
theorem dX5_where_59 : decode cX5_where 59 = .ok (.iload_n 2, 1) := by decide +kernel
theorem dX5_where_60 : decode cX5_where 60 = .ok (.iload 5, 2) := by decide +kernel
theorem dX5_where_62 : decode cX5_where 62 = .ok (.invokevirtual 335, 3) := by decide +kernel
theorem dX5_where_65 : decode cX5_where 65 = .ok (.istore 6, 2) := by decide +kernel
theorem dX5_where_67 : decode cX5_where 67 = .ok (.iload 5, 2) := by decide +kernel
theorem dX5_where_69 : decode cX5_where 69 = .ok (.ifCond .eq 10, 3) := by decide +kernel
theorem dX5_where_72 : decode cX5_where 72 = .ok (.iload 6, 2) := by decide +kernel
theorem dX5_where_74 : decode cX5_where 74 = .ok (.iload 4, 2) := by decide +kernel
theorem dX5_where_76 : decode cX5_where 76 = .ok (.if_icmp .le 10, 3) := by decide +kernel
theorem dX5_where_79 : decode cX5_where 79 = .ok (.iload 5, 2) := by decide +kernel
theorem dX5_where_81 : decode cX5_where 81 = .ok (.istore_n 3, 1) := by decide +kernel
theorem dX5_where_82 : decode cX5_where 82 = .ok (.iload 6, 2) := by decide +kernel
theorem dX5_where_84 : decode cX5_where 84 = .ok (.istore 4, 2) := by decide +kernel
theorem dX5_where_86 : decode cX5_where 86 = .ok (.iinc 5 1, 3) := by decide +kernel
theorem dX5_where_89 : decode cX5_where 89 = .ok (.goto (-38), 3) := by decide +kernel
theorem dX5_where_92 : decode cX5_where 92 = .ok (.iload_n 3, 1) := by decide +kernel
theorem dX5_where_93 : decode cX5_where 93 = .ok (.ireturn, 1) := by decide +kernel
theorem dX5_meetsOf_0 : decode cX5_meetsOf 0 = .ok (.aload_n 0, 1) := by decide +kernel
theorem dX5_meetsOf_1 : decode cX5_meetsOf 1 = .ok (.invokevirtual 248, 3) := by decide +kernel
theorem dX5_meetsOf_4 : decode cX5_meetsOf 4 = .ok (.astore_n 3, 1) := by decide +kernel
theorem dX5_meetsOf_5 : decode cX5_meetsOf 5 = .ok (.aload_n 3, 1) := by decide +kernel
theorem dX5_meetsOf_6 : decode cX5_meetsOf 6 = .ok (.iload_n 2, 1) := by decide +kernel
theorem dX5_meetsOf_7 : decode cX5_meetsOf 7 = .ok (.putfield 56, 3) := by decide +kernel
theorem dX5_meetsOf_10 : decode cX5_meetsOf 10 = .ok (.aload_n 3, 1) := by decide +kernel
theorem dX5_meetsOf_11 : decode cX5_meetsOf 11 = .ok (.iload_n 1, 1) := by decide +kernel
theorem dX5_meetsOf_12 : decode cX5_meetsOf 12 = .ok (.invokevirtual 218, 3) := by decide +kernel
theorem dX5_meetsOf_15 : decode cX5_meetsOf 15 = .ok (.aload_n 3, 1) := by decide +kernel
theorem dX5_meetsOf_16 : decode cX5_meetsOf 16 = .ok (.bipush 40, 2) := by decide +kernel
theorem dX5_meetsOf_18 : decode cX5_meetsOf 18 = .ok (.invokevirtual 316, 3) := by decide +kernel
theorem dX5_meetsOf_21 : decode cX5_meetsOf 21 = .ok (.ireturn, 1) := by decide +kernel
theorem dX5_meets_0 : decode cX5_meets 0 = .ok (.iload_n 1, 1) := by decide +kernel
theorem dX5_meets_1 : decode cX5_meets 1 = .ok (.i2l, 1) := by decide +kernel
theorem dX5_meets_2 : decode cX5_meets 2 = .ok (.invokestatic 138, 3) := by decide +kernel
theorem dX5_meets_5 : decode cX5_meets 5 = .ok (.ifCond .eq 15, 3) := by decide +kernel
theorem dX5_meets_8 : decode cX5_meets 8 = .ok (.iload_n 2, 1) := by decide +kernel
theorem dX5_meets_9 : decode cX5_meets 9 = .ok (.i2l, 1) := by decide +kernel
theorem dX5_meets_10 : decode cX5_meets 10 = .ok (.lconst 1, 1) := by decide +kernel
theorem dX5_meets_11 : decode cX5_meets 11 = .ok (.ldc2_w 144, 3) := by decide +kernel
theorem dX5_meets_14 : decode cX5_meets 14 = .ok (.invokestatic 77, 3) := by decide +kernel
theorem dX5_meets_17 : decode cX5_meets 17 = .ok (.ifCond .ne 13, 3) := by decide +kernel
theorem dX5_meets_20 : decode cX5_meets 20 = .ok (.aload_n 0, 1) := by decide +kernel
theorem dX5_meets_21 : decode cX5_meets 21 = .ok (.bipush (-2), 2) := by decide +kernel
theorem dX5_meets_23 : decode cX5_meets 23 = .ok (.invokevirtual 89, 3) := by decide +kernel
theorem dX5_meets_26 : decode cX5_meets 26 = .ok (.invokestatic 320, 3) := by decide +kernel
theorem dX5_meets_29 : decode cX5_meets 29 = .ok (.ireturn, 1) := by decide +kernel
theorem dX5_meets_30 : decode cX5_meets 30 = .ok (.aload_n 0, 1) := by decide +kernel
theorem dX5_meets_31 : decode cX5_meets 31 = .ok (.getfield 49, 3) := by decide +kernel
theorem dX5_meets_34 : decode cX5_meets 34 = .ok (.iload_n 1, 1) := by decide +kernel
theorem dX5_meets_35 : decode cX5_meets 35 = .ok (.iaload, 1) := by decide +kernel
theorem dX5_meets_36 : decode cX5_meets 36 = .ok (.ifCond .ne 15, 3) := by decide +kernel
theorem dX5_meets_39 : decode cX5_meets 39 = .ok (.aload_n 0, 1) := by decide +kernel
theorem dX5_meets_40 : decode cX5_meets 40 = .ok (.bipush (-5), 2) := by decide +kernel
theorem dX5_meets_42 : decode cX5_meets 42 = .ok (.invokevirtual 89, 3) := by decide +kernel
theorem dX5_meets_45 : decode cX5_meets 45 = .ok (.invokestatic 320, 3) := by decide +kernel
theorem dX5_meets_48 : decode cX5_meets 48 = .ok (.goto 9, 3) := by decide +kernel
theorem dX5_meets_51 : decode cX5_meets 51 = .ok (.aload_n 0, 1) := by decide +kernel
theorem dX5_meets_52 : decode cX5_meets 52 = .ok (.iload_n 1, 1) := by decide +kernel
theorem dX5_meets_53 : decode cX5_meets 53 = .ok (.iload_n 2, 1) := by decide +kernel
theorem dX5_meets_54 : decode cX5_meets 54 = .ok (.invokevirtual 339, 3) := by decide +kernel
theorem dX5_meets_57 : decode cX5_meets 57 = .ok (.ireturn, 1) := by decide +kernel
theorem dX5_match_0 : decode cX5_match 0 = .ok (.iload_n 1, 1) := by decide +kernel
theorem dX5_match_1 : decode cX5_match 1 = .ok (.i2l, 1) := by decide +kernel
theorem dX5_match_2 : decode cX5_match 2 = .ok (.lconst 0, 1) := by decide +kernel
theorem dX5_match_3 : decode cX5_match 3 = .ok (.ldc2_w 83, 3) := by decide +kernel
theorem dX5_match_6 : decode cX5_match 6 = .ok (.invokestatic 77, 3) := by decide +kernel
theorem dX5_match_9 : decode cX5_match 9 = .ok (.ifCond .eq 25, 3) := by decide +kernel
theorem dX5_match_12 : decode cX5_match 12 = .ok (.iload_n 2, 1) := by decide +kernel
theorem dX5_match_13 : decode cX5_match 13 = .ok (.i2l, 1) := by decide +kernel
theorem dX5_match_14 : decode cX5_match 14 = .ok (.lconst 1, 1) := by decide +kernel
theorem dX5_match_15 : decode cX5_match 15 = .ok (.ldc2_w 87, 3) := by decide +kernel
theorem dX5_match_18 : decode cX5_match 18 = .ok (.invokestatic 77, 3) := by decide +kernel
theorem dX5_match_21 : decode cX5_match 21 = .ok (.ifCond .eq 13, 3) := by decide +kernel
theorem dX5_match_24 : decode cX5_match 24 = .ok (.iload_n 3, 1) := by decide +kernel
theorem dX5_match_25 : decode cX5_match 25 = .ok (.i2l, 1) := by decide +kernel
theorem dX5_match_26 : decode cX5_match 26 = .ok (.lconst 0, 1) := by decide +kernel
theorem dX5_match_27 : decode cX5_match 27 = .ok (.lconst 1, 1) := by decide +kernel
theorem dX5_match_28 : decode cX5_match 28 = .ok (.invokestatic 77, 3) := by decide +kernel
theorem dX5_match_31 : decode cX5_match 31 = .ok (.ifCond .ne 13, 3) := by decide +kernel
theorem dX5_match_34 : decode cX5_match 34 = .ok (.aload_n 0, 1) := by decide +kernel
theorem dX5_match_35 : decode cX5_match 35 = .ok (.bipush (-2), 2) := by decide +kernel
theorem dX5_match_37 : decode cX5_match 37 = .ok (.invokevirtual 89, 3) := by decide +kernel
theorem dX5_match_40 : decode cX5_match 40 = .ok (.invokestatic 320, 3) := by decide +kernel
theorem dX5_match_43 : decode cX5_match 43 = .ok (.ireturn, 1) := by decide +kernel
theorem dX5_match_44 : decode cX5_match 44 = .ok (.aload_n 0, 1) := by decide +kernel
theorem dX5_match_45 : decode cX5_match 45 = .ok (.iload_n 1, 1) := by decide +kernel
theorem dX5_match_46 : decode cX5_match 46 = .ok (.invokevirtual 93, 3) := by decide +kernel
theorem dX5_match_49 : decode cX5_match 49 = .ok (.istore 4, 2) := by decide +kernel
theorem dX5_match_51 : decode cX5_match 51 = .ok (.iload 4, 2) := by decide +kernel
theorem dX5_match_53 : decode cX5_match 53 = .ok (.ifCond .eq 9, 3) := by decide +kernel
theorem dX5_match_56 : decode cX5_match 56 = .ok (.iload 4, 2) := by decide +kernel
theorem dX5_match_58 : decode cX5_match 58 = .ok (.invokestatic 320, 3) := by decide +kernel
theorem dX5_match_61 : decode cX5_match 61 = .ok (.ireturn, 1) := by decide +kernel
theorem dX5_match_62 : decode cX5_match 62 = .ok (.aload_n 0, 1) := by decide +kernel
theorem dX5_match_63 : decode cX5_match 63 = .ok (.getfield 16, 3) := by decide +kernel
theorem dX5_match_66 : decode cX5_match 66 = .ok (.iload_n 1, 1) := by decide +kernel
theorem dX5_match_67 : decode cX5_match 67 = .ok (.iaload, 1) := by decide +kernel
theorem dX5_match_68 : decode cX5_match 68 = .ok (.iload_n 2, 1) := by decide +kernel
theorem dX5_match_69 : decode cX5_match 69 = .ok (.if_icmp .lt 7, 3) := by decide +kernel
theorem dX5_match_72 : decode cX5_match 72 = .ok (.iconst 1, 1) := by decide +kernel
theorem dX5_match_73 : decode cX5_match 73 = .ok (.goto 4, 3) := by decide +kernel
theorem dX5_match_76 : decode cX5_match 76 = .ok (.iconst 0, 1) := by decide +kernel
theorem dX5_match_77 : decode cX5_match 77 = .ok (.istore 5, 2) := by decide +kernel
theorem dX5_match_79 : decode cX5_match 79 = .ok (.iconst 0, 1) := by decide +kernel
theorem dX5_match_80 : decode cX5_match 80 = .ok (.istore 6, 2) := by decide +kernel
theorem dX5_match_82 : decode cX5_match 82 = .ok (.iload 6, 2) := by decide +kernel
theorem dX5_match_84 : decode cX5_match 84 = .ok (.iload_n 2, 1) := by decide +kernel
theorem dX5_match_85 : decode cX5_match 85 = .ok (.if_icmp .ge 32, 3) := by decide +kernel
theorem dX5_match_88 : decode cX5_match 88 = .ok (.iload 5, 2) := by decide +kernel
theorem dX5_match_90 : decode cX5_match 90 = .ok (.ifCond .eq 27, 3) := by decide +kernel
theorem dX5_match_93 : decode cX5_match 93 = .ok (.aload_n 0, 1) := by decide +kernel
theorem dX5_match_94 : decode cX5_match 94 = .ok (.getfield 21, 3) := by decide +kernel
theorem dX5_match_97 : decode cX5_match 97 = .ok (.iload_n 1, 1) := by decide +kernel
theorem dX5_match_98 : decode cX5_match 98 = .ok (.aaload, 1) := by decide +kernel
theorem dX5_match_99 : decode cX5_match 99 = .ok (.iload 6, 2) := by decide +kernel
theorem dX5_match_101 : decode cX5_match 101 = .ok (.laload, 1) := by decide +kernel
theorem dX5_match_102 : decode cX5_match 102 = .ok (.lconst 1, 1) := by decide +kernel
theorem dX5_match_103 : decode cX5_match 103 = .ok (.ldc2_w 144, 3) := by decide +kernel
theorem dX5_match_106 : decode cX5_match 106 = .ok (.invokestatic 77, 3) := by decide +kernel
theorem dX5_match_109 : decode cX5_match 109 = .ok (.istore 5, 2) := by decide +kernel
theorem dX5_match_111 : decode cX5_match 111 = .ok (.iinc 6 1, 3) := by decide +kernel
theorem dX5_match_114 : decode cX5_match 114 = .ok (.goto (-32), 3) := by decide +kernel
theorem dX5_match_117 : decode cX5_match 117 = .ok (.iload 5, 2) := by decide +kernel
theorem dX5_match_119 : decode cX5_match 119 = .ok (.ifCond .ne 13, 3) := by decide +kernel
theorem dX5_match_122 : decode cX5_match 122 = .ok (.aload_n 0, 1) := by decide +kernel
theorem dX5_match_123 : decode cX5_match 123 = .ok (.bipush (-2), 2) := by decide +kernel
theorem dX5_match_125 : decode cX5_match 125 = .ok (.invokevirtual 89, 3) := by decide +kernel
theorem dX5_match_128 : decode cX5_match 128 = .ok (.invokestatic 320, 3) := by decide +kernel
theorem dX5_match_131 : decode cX5_match 131 = .ok (.ireturn, 1) := by decide +kernel
theorem dX5_match_132 : decode cX5_match 132 = .ok (.iconst (-1), 1) := by decide +kernel
theorem dX5_match_133 : decode cX5_match 133 = .ok (.istore 6, 2) := by decide +kernel
theorem dX5_match_135 : decode cX5_match 135 = .ok (.iconst 0, 1) := by decide +kernel
theorem dX5_match_136 : decode cX5_match 136 = .ok (.istore 7, 2) := by decide +kernel
theorem dX5_match_138 : decode cX5_match 138 = .ok (.iconst 0, 1) := by decide +kernel
theorem dX5_match_139 : decode cX5_match 139 = .ok (.istore 8, 2) := by decide +kernel
theorem dX5_match_141 : decode cX5_match 141 = .ok (.iload 8, 2) := by decide +kernel
theorem dX5_match_143 : decode cX5_match 143 = .ok (.iconst 4, 1) := by decide +kernel
theorem dX5_match_144 : decode cX5_match 144 = .ok (.if_icmp .ge 106, 3) := by decide +kernel
theorem dX5_match_147 : decode cX5_match 147 = .ok (.aload_n 0, 1) := by decide +kernel
theorem dX5_match_148 : decode cX5_match 148 = .ok (.getfield 49, 3) := by decide +kernel
theorem dX5_match_151 : decode cX5_match 151 = .ok (.iload 8, 2) := by decide +kernel
theorem dX5_match_153 : decode cX5_match 153 = .ok (.iaload, 1) := by decide +kernel
theorem dX5_match_154 : decode cX5_match 154 = .ok (.ifCond .eq 90, 3) := by decide +kernel
theorem dX5_match_157 : decode cX5_match 157 = .ok (.aload_n 0, 1) := by decide +kernel
theorem dX5_match_158 : decode cX5_match 158 = .ok (.iload 8, 2) := by decide +kernel
theorem dX5_match_160 : decode cX5_match 160 = .ok (.aload_n 0, 1) := by decide +kernel
theorem dX5_match_161 : decode cX5_match 161 = .ok (.getfield 21, 3) := by decide +kernel
theorem dX5_match_164 : decode cX5_match 164 = .ok (.iload_n 1, 1) := by decide +kernel
theorem dX5_match_165 : decode cX5_match 165 = .ok (.aaload, 1) := by decide +kernel
theorem dX5_match_166 : decode cX5_match 166 = .ok (.iconst 0, 1) := by decide +kernel
theorem dX5_match_167 : decode cX5_match 167 = .ok (.laload, 1) := by decide +kernel
theorem dX5_match_168 : decode cX5_match 168 = .ok (.l2i, 1) := by decide +kernel
theorem dX5_match_169 : decode cX5_match 169 = .ok (.invokevirtual 339, 3) := by decide +kernel
theorem dX5_match_172 : decode cX5_match 172 = .ok (.istore 9, 2) := by decide +kernel
theorem dX5_match_174 : decode cX5_match 174 = .ok (.iconst 1, 1) := by decide +kernel
theorem dX5_match_175 : decode cX5_match 175 = .ok (.istore 10, 2) := by decide +kernel
theorem dX5_match_177 : decode cX5_match 177 = .ok (.iload 10, 2) := by decide +kernel
theorem dX5_match_179 : decode cX5_match 179 = .ok (.iload_n 2, 1) := by decide +kernel
theorem dX5_match_180 : decode cX5_match 180 = .ok (.if_icmp .ge 43, 3) := by decide +kernel
theorem dX5_match_183 : decode cX5_match 183 = .ok (.aload_n 0, 1) := by decide +kernel
theorem dX5_match_184 : decode cX5_match 184 = .ok (.iload 8, 2) := by decide +kernel
theorem dX5_match_186 : decode cX5_match 186 = .ok (.aload_n 0, 1) := by decide +kernel
theorem dX5_match_187 : decode cX5_match 187 = .ok (.getfield 21, 3) := by decide +kernel
theorem dX5_match_190 : decode cX5_match 190 = .ok (.iload_n 1, 1) := by decide +kernel
theorem dX5_match_191 : decode cX5_match 191 = .ok (.aaload, 1) := by decide +kernel
theorem dX5_match_192 : decode cX5_match 192 = .ok (.iload 10, 2) := by decide +kernel
theorem dX5_match_194 : decode cX5_match 194 = .ok (.laload, 1) := by decide +kernel
theorem dX5_match_195 : decode cX5_match 195 = .ok (.l2i, 1) := by decide +kernel
theorem dX5_match_196 : decode cX5_match 196 = .ok (.invokevirtual 339, 3) := by decide +kernel
theorem dX5_match_199 : decode cX5_match 199 = .ok (.istore 11, 2) := by decide +kernel
theorem dX5_match_201 : decode cX5_match 201 = .ok (.iload 11, 2) := by decide +kernel
theorem dX5_match_203 : decode cX5_match 203 = .ok (.iload 9, 2) := by decide +kernel
theorem dX5_match_205 : decode cX5_match 205 = .ok (.if_icmp .ge 8, 3) := by decide +kernel
theorem dX5_match_208 : decode cX5_match 208 = .ok (.iload 11, 2) := by decide +kernel
theorem dX5_match_210 : decode cX5_match 210 = .ok (.goto 5, 3) := by decide +kernel
theorem dX5_match_213 : decode cX5_match 213 = .ok (.iload 9, 2) := by decide +kernel
theorem dX5_match_215 : decode cX5_match 215 = .ok (.istore 9, 2) := by decide +kernel
theorem dX5_match_217 : decode cX5_match 217 = .ok (.iinc 10 1, 3) := by decide +kernel
theorem dX5_match_220 : decode cX5_match 220 = .ok (.goto (-43), 3) := by decide +kernel
theorem dX5_match_223 : decode cX5_match 223 = .ok (.iload 6, 2) := by decide +kernel
theorem dX5_match_225 : decode cX5_match 225 = .ok (.iconst (-1), 1) := by decide +kernel
theorem dX5_match_226 : decode cX5_match 226 = .ok (.if_icmp .eq 10, 3) := by decide +kernel
theorem dX5_match_229 : decode cX5_match 229 = .ok (.iload 9, 2) := by decide +kernel
theorem dX5_match_231 : decode cX5_match 231 = .ok (.iload 7, 2) := by decide +kernel
theorem dX5_match_233 : decode cX5_match 233 = .ok (.if_icmp .le 11, 3) := by decide +kernel
theorem dX5_match_236 : decode cX5_match 236 = .ok (.iload 8, 2) := by decide +kernel
theorem dX5_match_238 : decode cX5_match 238 = .ok (.istore 6, 2) := by decide +kernel
theorem dX5_match_240 : decode cX5_match 240 = .ok (.iload 9, 2) := by decide +kernel
theorem dX5_match_242 : decode cX5_match 242 = .ok (.istore 7, 2) := by decide +kernel
theorem dX5_match_244 : decode cX5_match 244 = .ok (.iinc 8 1, 3) := by decide +kernel
theorem dX5_match_247 : decode cX5_match 247 = .ok (.goto (-106), 3) := by decide +kernel
theorem dX5_match_250 : decode cX5_match 250 = .ok (.iload 6, 2) := by decide +kernel
theorem dX5_match_252 : decode cX5_match 252 = .ok (.iconst (-1), 1) := by decide +kernel
theorem dX5_match_253 : decode cX5_match 253 = .ok (.if_icmp .ne 13, 3) := by decide +kernel
theorem dX5_match_256 : decode cX5_match 256 = .ok (.aload_n 0, 1) := by decide +kernel
theorem dX5_match_257 : decode cX5_match 257 = .ok (.bipush (-5), 2) := by decide +kernel
theorem dX5_match_259 : decode cX5_match 259 = .ok (.invokevirtual 89, 3) := by decide +kernel
theorem dX5_match_262 : decode cX5_match 262 = .ok (.invokestatic 320, 3) := by decide +kernel
theorem dX5_match_265 : decode cX5_match 265 = .ok (.ireturn, 1) := by decide +kernel
theorem dX5_match_266 : decode cX5_match 266 = .ok (.iload_n 3, 1) := by decide +kernel
theorem dX5_match_267 : decode cX5_match 267 = .ok (.ifCond .ne 8, 3) := by decide +kernel
theorem dX5_match_270 : decode cX5_match 270 = .ok (.iload 6, 2) := by decide +kernel
theorem dX5_match_272 : decode cX5_match 272 = .ok (.goto 5, 3) := by decide +kernel
theorem dX5_match_275 : decode cX5_match 275 = .ok (.iload 7, 2) := by decide +kernel
theorem dX5_match_277 : decode cX5_match 277 = .ok (.ireturn, 1) := by decide +kernel
theorem dX5_pull_0 : decode cX5_pull 0 = .ok (.iload_n 1, 1) := by decide +kernel
theorem dX5_pull_1 : decode cX5_pull 1 = .ok (.i2l, 1) := by decide +kernel
theorem dX5_pull_2 : decode cX5_pull 2 = .ok (.lconst 0, 1) := by decide +kernel
theorem dX5_pull_3 : decode cX5_pull 3 = .ok (.ldc2_w 314, 3) := by decide +kernel
theorem dX5_pull_6 : decode cX5_pull 6 = .ok (.invokestatic 77, 3) := by decide +kernel
theorem dX5_pull_9 : decode cX5_pull 9 = .ok (.ifCond .eq 15, 3) := by decide +kernel
theorem dX5_pull_12 : decode cX5_pull 12 = .ok (.iload_n 2, 1) := by decide +kernel
theorem dX5_pull_13 : decode cX5_pull 13 = .ok (.i2l, 1) := by decide +kernel
theorem dX5_pull_14 : decode cX5_pull 14 = .ok (.lconst 0, 1) := by decide +kernel
theorem dX5_pull_15 : decode cX5_pull 15 = .ok (.ldc2_w 136, 3) := by decide +kernel
theorem dX5_pull_18 : decode cX5_pull 18 = .ok (.invokestatic 77, 3) := by decide +kernel
theorem dX5_pull_21 : decode cX5_pull 21 = .ok (.ifCond .ne 13, 3) := by decide +kernel
theorem dX5_pull_24 : decode cX5_pull 24 = .ok (.aload_n 0, 1) := by decide +kernel
theorem dX5_pull_25 : decode cX5_pull 25 = .ok (.bipush (-2), 2) := by decide +kernel
theorem dX5_pull_27 : decode cX5_pull 27 = .ok (.invokevirtual 89, 3) := by decide +kernel
theorem dX5_pull_30 : decode cX5_pull 30 = .ok (.invokestatic 320, 3) := by decide +kernel
theorem dX5_pull_33 : decode cX5_pull 33 = .ok (.ireturn, 1) := by decide +kernel
theorem dX5_pull_34 : decode cX5_pull 34 = .ok (.aload_n 0, 1) := by decide +kernel
theorem dX5_pull_35 : decode cX5_pull 35 = .ok (.invokevirtual 248, 3) := by decide +kernel
theorem dX5_pull_38 : decode cX5_pull 38 = .ok (.astore_n 3, 1) := by decide +kernel
theorem dX5_pull_39 : decode cX5_pull 39 = .ok (.aload_n 3, 1) := by decide +kernel
theorem dX5_pull_40 : decode cX5_pull 40 = .ok (.iconst 0, 1) := by decide +kernel
theorem dX5_pull_41 : decode cX5_pull 41 = .ok (.putfield 59, 3) := by decide +kernel
theorem dX5_pull_44 : decode cX5_pull 44 = .ok (.aload_n 3, 1) := by decide +kernel
theorem dX5_pull_45 : decode cX5_pull 45 = .ok (.iload_n 1, 1) := by decide +kernel
theorem dX5_pull_46 : decode cX5_pull 46 = .ok (.invokevirtual 316, 3) := by decide +kernel
theorem dX5_pull_49 : decode cX5_pull 49 = .ok (.pop, 1) := by decide +kernel
theorem dX5_pull_50 : decode cX5_pull 50 = .ok (.aload_n 3, 1) := by decide +kernel
theorem dX5_pull_51 : decode cX5_pull 51 = .ok (.getfield 268, 3) := by decide +kernel
theorem dX5_pull_54 : decode cX5_pull 54 = .ok (.istore 4, 2) := by decide +kernel
theorem dX5_pull_56 : decode cX5_pull 56 = .ok (.aload_n 3, 1) := by decide +kernel
theorem dX5_pull_57 : decode cX5_pull 57 = .ok (.getfield 271, 3) := by decide +kernel
theorem dX5_pull_60 : decode cX5_pull 60 = .ok (.istore 5, 2) := by decide +kernel
theorem dX5_pull_62 : decode cX5_pull 62 = .ok (.aload_n 0, 1) := by decide +kernel
theorem dX5_pull_63 : decode cX5_pull 63 = .ok (.invokevirtual 248, 3) := by decide +kernel
theorem dX5_pull_66 : decode cX5_pull 66 = .ok (.astore_n 3, 1) := by decide +kernel
theorem dX5_pull_67 : decode cX5_pull 67 = .ok (.aload_n 3, 1) := by decide +kernel
theorem dX5_pull_68 : decode cX5_pull 68 = .ok (.iconst 1, 1) := by decide +kernel
theorem dX5_pull_69 : decode cX5_pull 69 = .ok (.putfield 59, 3) := by decide +kernel
theorem dX5_pull_72 : decode cX5_pull 72 = .ok (.aload_n 3, 1) := by decide +kernel
theorem dX5_pull_73 : decode cX5_pull 73 = .ok (.iload_n 1, 1) := by decide +kernel
theorem dX5_pull_74 : decode cX5_pull 74 = .ok (.invokevirtual 316, 3) := by decide +kernel
theorem dX5_pull_77 : decode cX5_pull 77 = .ok (.pop, 1) := by decide +kernel
theorem dX5_pull_78 : decode cX5_pull 78 = .ok (.iload 4, 2) := by decide +kernel
theorem dX5_pull_80 : decode cX5_pull 80 = .ok (.aload_n 3, 1) := by decide +kernel
theorem dX5_pull_81 : decode cX5_pull 81 = .ok (.getfield 268, 3) := by decide +kernel
theorem dX5_pull_84 : decode cX5_pull 84 = .ok (.isub, 1) := by decide +kernel
theorem dX5_pull_85 : decode cX5_pull 85 = .ok (.iload_n 2, 1) := by decide +kernel
theorem dX5_pull_86 : decode cX5_pull 86 = .ok (.i2l, 1) := by decide +kernel
theorem dX5_pull_87 : decode cX5_pull 87 = .ok (.iload 5, 2) := by decide +kernel
theorem dX5_pull_89 : decode cX5_pull 89 = .ok (.aload_n 3, 1) := by decide +kernel
theorem dX5_pull_90 : decode cX5_pull 90 = .ok (.getfield 271, 3) := by decide +kernel
theorem dX5_pull_93 : decode cX5_pull 93 = .ok (.isub, 1) := by decide +kernel
theorem dX5_pull_94 : decode cX5_pull 94 = .ok (.i2l, 1) := by decide +kernel
theorem dX5_pull_95 : decode cX5_pull 95 = .ok (.lmul, 1) := by decide +kernel
theorem dX5_pull_96 : decode cX5_pull 96 = .ok (.ldc2_w 136, 3) := by decide +kernel
theorem dX5_pull_99 : decode cX5_pull 99 = .ok (.ldiv, 1) := by decide +kernel
theorem dX5_pull_100 : decode cX5_pull 100 = .ok (.l2i, 1) := by decide +kernel
theorem dX5_pull_101 : decode cX5_pull 101 = .ok (.isub, 1) := by decide +kernel
theorem dX5_pull_102 : decode cX5_pull 102 = .ok (.ireturn, 1) := by decide +kernel
theorem dX5_spellGains_0 : decode cX5_spellGains 0 = .ok (.aload_n 0, 1) := by decide +kernel
theorem dX5_spellGains_1 : decode cX5_spellGains 1 = .ok (.invokevirtual 248, 3) := by decide +kernel
theorem dX5_spellGains_4 : decode cX5_spellGains 4 = .ok (.astore_n 1, 1) := by decide +kernel
theorem dX5_spellGains_5 : decode cX5_spellGains 5 = .ok (.iconst 0, 1) := by decide +kernel
theorem dX5_spellGains_6 : decode cX5_spellGains 6 = .ok (.istore_n 2, 1) := by decide +kernel
theorem dX5_spellGains_7 : decode cX5_spellGains 7 = .ok (.iconst 0, 1) := by decide +kernel
theorem dX5_spellGains_8 : decode cX5_spellGains 8 = .ok (.istore_n 3, 1) := by decide +kernel
theorem dX5_spellGains_9 : decode cX5_spellGains 9 = .ok (.iload_n 3, 1) := by decide +kernel
theorem dX5_spellGains_10 : decode cX5_spellGains 10 = .ok (.iconst 4, 1) := by decide +kernel
theorem dX5_spellGains_11 : decode cX5_spellGains 11 = .ok (.if_icmp .ge 43, 3) := by decide +kernel
theorem dX5_spellGains_14 : decode cX5_spellGains 14 = .ok (.iconst 0, 1) := by decide +kernel
theorem dX5_spellGains_15 : decode cX5_spellGains 15 = .ok (.istore 4, 2) := by decide +kernel
theorem dX5_spellGains_17 : decode cX5_spellGains 17 = .ok (.iload 4, 2) := by decide +kernel
theorem dX5_spellGains_19 : decode cX5_spellGains 19 = .ok (.aload_n 0, 1) := by decide +kernel
theorem dX5_spellGains_20 : decode cX5_spellGains 20 = .ok (.getfield 68, 3) := by decide +kernel
theorem dX5_spellGains_23 : decode cX5_spellGains 23 = .ok (.iload_n 3, 1) := by decide +kernel
theorem dX5_spellGains_24 : decode cX5_spellGains 24 = .ok (.iaload, 1) := by decide +kernel
theorem dX5_spellGains_25 : decode cX5_spellGains 25 = .ok (.if_icmp .ge 23, 3) := by decide +kernel
theorem dX5_spellGains_28 : decode cX5_spellGains 28 = .ok (.aload_n 1, 1) := by decide +kernel
theorem dX5_spellGains_29 : decode cX5_spellGains 29 = .ok (.iload_n 3, 1) := by decide +kernel
theorem dX5_spellGains_30 : decode cX5_spellGains 30 = .ok (.invokevirtual 218, 3) := by decide +kernel
theorem dX5_spellGains_33 : decode cX5_spellGains 33 = .ok (.iload_n 2, 1) := by decide +kernel
theorem dX5_spellGains_34 : decode cX5_spellGains 34 = .ok (.aload_n 1, 1) := by decide +kernel
theorem dX5_spellGains_35 : decode cX5_spellGains 35 = .ok (.bipush 40, 2) := by decide +kernel
theorem dX5_spellGains_37 : decode cX5_spellGains 37 = .ok (.invokevirtual 316, 3) := by decide +kernel
theorem dX5_spellGains_40 : decode cX5_spellGains 40 = .ok (.iadd, 1) := by decide +kernel
theorem dX5_spellGains_41 : decode cX5_spellGains 41 = .ok (.istore_n 2, 1) := by decide +kernel
theorem dX5_spellGains_42 : decode cX5_spellGains 42 = .ok (.iinc 4 1, 3) := by decide +kernel
theorem dX5_spellGains_45 : decode cX5_spellGains 45 = .ok (.goto (-28), 3) := by decide +kernel
theorem dX5_spellGains_48 : decode cX5_spellGains 48 = .ok (.iinc 3 1, 3) := by decide +kernel
theorem dX5_spellGains_51 : decode cX5_spellGains 51 = .ok (.goto (-42), 3) := by decide +kernel
theorem dX5_spellGains_54 : decode cX5_spellGains 54 = .ok (.iload_n 2, 1) := by decide +kernel
theorem dX5_spellGains_55 : decode cX5_spellGains 55 = .ok (.ireturn, 1) := by decide +kernel
theorem dX5_seekSpells_0 : decode cX5_seekSpells 0 = .ok (.iload_n 1, 1) := by decide +kernel
theorem dX5_seekSpells_1 : decode cX5_seekSpells 1 = .ok (.iconst 3, 1) := by decide +kernel
theorem dX5_seekSpells_2 : decode cX5_seekSpells 2 = .ok (.if_icmp .ne 66, 3) := by decide +kernel
theorem dX5_seekSpells_5 : decode cX5_seekSpells 5 = .ok (.aload_n 0, 1) := by decide +kernel
theorem dX5_seekSpells_6 : decode cX5_seekSpells 6 = .ok (.getfield 68, 3) := by decide +kernel
theorem dX5_seekSpells_9 : decode cX5_seekSpells 9 = .ok (.iload_n 1, 1) := by decide +kernel
theorem dX5_seekSpells_10 : decode cX5_seekSpells 10 = .ok (.iload_n 2, 1) := by decide +kernel
theorem dX5_seekSpells_11 : decode cX5_seekSpells 11 = .ok (.iastore, 1) := by decide +kernel
theorem dX5_seekSpells_12 : decode cX5_seekSpells 12 = .ok (.iload_n 2, 1) := by decide +kernel
theorem dX5_seekSpells_13 : decode cX5_seekSpells 13 = .ok (.ifCond .le 13, 3) := by decide +kernel
theorem dX5_seekSpells_16 : decode cX5_seekSpells 16 = .ok (.aload_n 0, 1) := by decide +kernel
theorem dX5_seekSpells_17 : decode cX5_seekSpells 17 = .ok (.getfield 49, 3) := by decide +kernel
theorem dX5_seekSpells_20 : decode cX5_seekSpells 20 = .ok (.iload_n 1, 1) := by decide +kernel
theorem dX5_seekSpells_21 : decode cX5_seekSpells 21 = .ok (.iaload, 1) := by decide +kernel
theorem dX5_seekSpells_22 : decode cX5_seekSpells 22 = .ok (.ifCond .ne 4, 3) := by decide +kernel
theorem dX5_seekSpells_25 : decode cX5_seekSpells 25 = .ok (.return_, 1) := by decide +kernel
theorem dX5_seekSpells_26 : decode cX5_seekSpells 26 = .ok (.aload_n 0, 1) := by decide +kernel
theorem dX5_seekSpells_27 : decode cX5_seekSpells 27 = .ok (.invokevirtual 342, 3) := by decide +kernel
theorem dX5_seekSpells_30 : decode cX5_seekSpells 30 = .ok (.istore_n 3, 1) := by decide +kernel
theorem dX5_seekSpells_31 : decode cX5_seekSpells 31 = .ok (.aload_n 0, 1) := by decide +kernel
theorem dX5_seekSpells_32 : decode cX5_seekSpells 32 = .ok (.getfield 345, 3) := by decide +kernel
theorem dX5_seekSpells_35 : decode cX5_seekSpells 35 = .ok (.ifCond .eq 11, 3) := by decide +kernel
theorem dX5_seekSpells_38 : decode cX5_seekSpells 38 = .ok (.iload_n 3, 1) := by decide +kernel
theorem dX5_seekSpells_39 : decode cX5_seekSpells 39 = .ok (.aload_n 0, 1) := by decide +kernel
theorem dX5_seekSpells_40 : decode cX5_seekSpells 40 = .ok (.getfield 349, 3) := by decide +kernel
theorem dX5_seekSpells_43 : decode cX5_seekSpells 43 = .ok (.if_icmp .le 24, 3) := by decide +kernel
theorem dX5_seekSpells_46 : decode cX5_seekSpells 46 = .ok (.aload_n 0, 1) := by decide +kernel
theorem dX5_seekSpells_47 : decode cX5_seekSpells 47 = .ok (.iconst 1, 1) := by decide +kernel
theorem dX5_seekSpells_48 : decode cX5_seekSpells 48 = .ok (.putfield 345, 3) := by decide +kernel
theorem dX5_seekSpells_51 : decode cX5_seekSpells 51 = .ok (.aload_n 0, 1) := by decide +kernel
theorem dX5_seekSpells_52 : decode cX5_seekSpells 52 = .ok (.iload_n 3, 1) := by decide +kernel
theorem dX5_seekSpells_53 : decode cX5_seekSpells 53 = .ok (.putfield 349, 3) := by decide +kernel
theorem dX5_seekSpells_56 : decode cX5_seekSpells 56 = .ok (.aload_n 0, 1) := by decide +kernel
theorem dX5_seekSpells_57 : decode cX5_seekSpells 57 = .ok (.getfield 68, 3) := by decide +kernel
theorem dX5_seekSpells_60 : decode cX5_seekSpells 60 = .ok (.aload_n 0, 1) := by decide +kernel
theorem dX5_seekSpells_61 : decode cX5_seekSpells 61 = .ok (.getfield 71, 3) := by decide +kernel
theorem dX5_seekSpells_64 : decode cX5_seekSpells 64 = .ok (.invokestatic 352, 3) := by decide +kernel
theorem dX5_seekSpells_67 : decode cX5_seekSpells 67 = .ok (.return_, 1) := by decide +kernel
theorem dX5_seekSpells_68 : decode cX5_seekSpells 68 = .ok (.iconst 0, 1) := by decide +kernel
theorem dX5_seekSpells_69 : decode cX5_seekSpells 69 = .ok (.istore_n 3, 1) := by decide +kernel
theorem dX5_seekSpells_70 : decode cX5_seekSpells 70 = .ok (.iload_n 3, 1) := by decide +kernel
theorem dX5_seekSpells_71 : decode cX5_seekSpells 71 = .ok (.aload_n 0, 1) := by decide +kernel
theorem dX5_seekSpells_72 : decode cX5_seekSpells 72 = .ok (.getfield 49, 3) := by decide +kernel
theorem dX5_seekSpells_75 : decode cX5_seekSpells 75 = .ok (.iload_n 1, 1) := by decide +kernel
theorem dX5_seekSpells_76 : decode cX5_seekSpells 76 = .ok (.iaload, 1) := by decide +kernel
theorem dX5_seekSpells_77 : decode cX5_seekSpells 77 = .ok (.ifCond .ne 7, 3) := by decide +kernel
theorem dX5_seekSpells_80 : decode cX5_seekSpells 80 = .ok (.iconst 0, 1) := by decide +kernel
theorem dX5_seekSpells_81 : decode cX5_seekSpells 81 = .ok (.goto 4, 3) := by decide +kernel
theorem dX5_seekSpells_84 : decode cX5_seekSpells 84 = .ok (.iload_n 2, 1) := by decide +kernel
theorem dX5_seekSpells_85 : decode cX5_seekSpells 85 = .ok (.if_icmp .gt 26, 3) := by decide +kernel
theorem dX5_seekSpells_88 : decode cX5_seekSpells 88 = .ok (.aload_n 0, 1) := by decide +kernel
theorem dX5_seekSpells_89 : decode cX5_seekSpells 89 = .ok (.getfield 68, 3) := by decide +kernel
theorem dX5_seekSpells_92 : decode cX5_seekSpells 92 = .ok (.iload_n 1, 1) := by decide +kernel
theorem dX5_seekSpells_93 : decode cX5_seekSpells 93 = .ok (.iload_n 3, 1) := by decide +kernel
theorem dX5_seekSpells_94 : decode cX5_seekSpells 94 = .ok (.iastore, 1) := by decide +kernel
theorem dX5_seekSpells_95 : decode cX5_seekSpells 95 = .ok (.aload_n 0, 1) := by decide +kernel
theorem dX5_seekSpells_96 : decode cX5_seekSpells 96 = .ok (.iload_n 1, 1) := by decide +kernel
theorem dX5_seekSpells_97 : decode cX5_seekSpells 97 = .ok (.iconst 1, 1) := by decide +kernel
theorem dX5_seekSpells_98 : decode cX5_seekSpells 98 = .ok (.iadd, 1) := by decide +kernel
theorem dX5_seekSpells_99 : decode cX5_seekSpells 99 = .ok (.iload_n 2, 1) := by decide +kernel
theorem dX5_seekSpells_100 : decode cX5_seekSpells 100 = .ok (.iload_n 3, 1) := by decide +kernel
theorem dX5_seekSpells_101 : decode cX5_seekSpells 101 = .ok (.isub, 1) := by decide +kernel
theorem dX5_seekSpells_102 : decode cX5_seekSpells 102 = .ok (.invokevirtual 356, 3) := by decide +kernel
theorem dX5_seekSpells_105 : decode cX5_seekSpells 105 = .ok (.iinc 3 1, 3) := by decide +kernel
theorem dX5_seekSpells_108 : decode cX5_seekSpells 108 = .ok (.goto (-38), 3) := by decide +kernel
theorem dX5_seekSpells_111 : decode cX5_seekSpells 111 = .ok (.return_, 1) := by decide +kernel
theorem dX5_minutes_0 : decode cX5_minutes 0 = .ok (.iload_n 1, 1) := by decide +kernel
theorem dX5_minutes_1 : decode cX5_minutes 1 = .ok (.iconst (-1), 1) := by decide +kernel
theorem dX5_minutes_2 : decode cX5_minutes 2 = .ok (.if_icmp .eq 21, 3) := by decide +kernel
theorem dX5_minutes_5 : decode cX5_minutes 5 = .ok (.iload_n 1, 1) := by decide +kernel
theorem dX5_minutes_6 : decode cX5_minutes 6 = .ok (.i2l, 1) := by decide +kernel
theorem dX5_minutes_7 : decode cX5_minutes 7 = .ok (.invokestatic 138, 3) := by decide +kernel
theorem dX5_minutes_10 : decode cX5_minutes 10 = .ok (.ifCond .ne 13, 3) := by decide +kernel
theorem dX5_minutes_13 : decode cX5_minutes 13 = .ok (.aload_n 0, 1) := by decide +kernel
theorem dX5_minutes_14 : decode cX5_minutes 14 = .ok (.bipush (-2), 2) := by decide +kernel
theorem dX5_minutes_16 : decode cX5_minutes 16 = .ok (.invokevirtual 89, 3) := by decide +kernel
theorem dX5_minutes_19 : decode cX5_minutes 19 = .ok (.invokestatic 320, 3) := by decide +kernel
theorem dX5_minutes_22 : decode cX5_minutes 22 = .ok (.ireturn, 1) := by decide +kernel
theorem dX5_minutes_23 : decode cX5_minutes 23 = .ok (.aload_n 0, 1) := by decide +kernel
theorem dX5_minutes_24 : decode cX5_minutes 24 = .ok (.invokevirtual 329, 3) := by decide +kernel
theorem dX5_minutes_27 : decode cX5_minutes 27 = .ok (.ifCond .eq 13, 3) := by decide +kernel
theorem dX5_minutes_30 : decode cX5_minutes 30 = .ok (.aload_n 0, 1) := by decide +kernel
theorem dX5_minutes_31 : decode cX5_minutes 31 = .ok (.bipush (-5), 2) := by decide +kernel
theorem dX5_minutes_33 : decode cX5_minutes 33 = .ok (.invokevirtual 89, 3) := by decide +kernel
theorem dX5_minutes_36 : decode cX5_minutes 36 = .ok (.invokestatic 320, 3) := by decide +kernel
theorem dX5_minutes_39 : decode cX5_minutes 39 = .ok (.ireturn, 1) := by decide +kernel
theorem dX5_minutes_40 : decode cX5_minutes 40 = .ok (.aload_n 0, 1) := by decide +kernel
theorem dX5_minutes_41 : decode cX5_minutes 41 = .ok (.iconst 0, 1) := by decide +kernel
theorem dX5_minutes_42 : decode cX5_minutes 42 = .ok (.putfield 345, 3) := by decide +kernel
theorem dX5_minutes_45 : decode cX5_minutes 45 = .ok (.aload_n 0, 1) := by decide +kernel
theorem dX5_minutes_46 : decode cX5_minutes 46 = .ok (.iconst 0, 1) := by decide +kernel
theorem dX5_minutes_47 : decode cX5_minutes 47 = .ok (.bipush 8, 2) := by decide +kernel
theorem dX5_minutes_49 : decode cX5_minutes 49 = .ok (.invokevirtual 356, 3) := by decide +kernel
theorem dX5_minutes_52 : decode cX5_minutes 52 = .ok (.iload_n 1, 1) := by decide +kernel
theorem dX5_minutes_53 : decode cX5_minutes 53 = .ok (.iconst (-1), 1) := by decide +kernel
theorem dX5_minutes_54 : decode cX5_minutes 54 = .ok (.if_icmp .ne 10, 3) := by decide +kernel
theorem dX5_minutes_57 : decode cX5_minutes 57 = .ok (.aload_n 0, 1) := by decide +kernel
theorem dX5_minutes_58 : decode cX5_minutes 58 = .ok (.getfield 349, 3) := by decide +kernel
theorem dX5_minutes_61 : decode cX5_minutes 61 = .ok (.goto 9, 3) := by decide +kernel
theorem dX5_minutes_64 : decode cX5_minutes 64 = .ok (.aload_n 0, 1) := by decide +kernel
theorem dX5_minutes_65 : decode cX5_minutes 65 = .ok (.getfield 71, 3) := by decide +kernel
theorem dX5_minutes_68 : decode cX5_minutes 68 = .ok (.iload_n 1, 1) := by decide +kernel
theorem dX5_minutes_69 : decode cX5_minutes 69 = .ok (.iaload, 1) := by decide +kernel
theorem dX5_minutes_70 : decode cX5_minutes 70 = .ok (.ireturn, 1) := by decide +kernel
theorem dX5_worstOne_0 : decode cX5_worstOne 0 = .ok (.iconst (-1), 1) := by decide +kernel
theorem dX5_worstOne_1 : decode cX5_worstOne 1 = .ok (.istore_n 1, 1) := by decide +kernel
theorem dX5_worstOne_2 : decode cX5_worstOne 2 = .ok (.iconst 0, 1) := by decide +kernel
theorem dX5_worstOne_3 : decode cX5_worstOne 3 = .ok (.istore_n 2, 1) := by decide +kernel
theorem dX5_worstOne_4 : decode cX5_worstOne 4 = .ok (.iconst 0, 1) := by decide +kernel
theorem dX5_worstOne_5 : decode cX5_worstOne 5 = .ok (.istore_n 3, 1) := by decide +kernel
theorem dX5_worstOne_6 : decode cX5_worstOne 6 = .ok (.iload_n 3, 1) := by decide +kernel
theorem dX5_worstOne_7 : decode cX5_worstOne 7 = .ok (.aload_n 0, 1) := by decide +kernel
theorem dX5_worstOne_8 : decode cX5_worstOne 8 = .ok (.getfield 74, 3) := by decide +kernel
theorem dX5_worstOne_11 : decode cX5_worstOne 11 = .ok (.if_icmp .ge 54, 3) := by decide +kernel
theorem dX5_worstOne_14 : decode cX5_worstOne 14 = .ok (.aload_n 0, 1) := by decide +kernel
theorem dX5_worstOne_15 : decode cX5_worstOne 15 = .ok (.getfield 116, 3) := by decide +kernel
theorem dX5_worstOne_18 : decode cX5_worstOne 18 = .ok (.iload_n 3, 1) := by decide +kernel
theorem dX5_worstOne_19 : decode cX5_worstOne 19 = .ok (.invokestatic 119, 3) := by decide +kernel
theorem dX5_worstOne_22 : decode cX5_worstOne 22 = .ok (.ifCond .eq 37, 3) := by decide +kernel
theorem dX5_worstOne_25 : decode cX5_worstOne 25 = .ok (.aload_n 0, 1) := by decide +kernel
theorem dX5_worstOne_26 : decode cX5_worstOne 26 = .ok (.invokevirtual 248, 3) := by decide +kernel
theorem dX5_worstOne_29 : decode cX5_worstOne 29 = .ok (.astore 4, 2) := by decide +kernel
theorem dX5_worstOne_31 : decode cX5_worstOne 31 = .ok (.aload 4, 2) := by decide +kernel
theorem dX5_worstOne_33 : decode cX5_worstOne 33 = .ok (.iload_n 3, 1) := by decide +kernel
theorem dX5_worstOne_34 : decode cX5_worstOne 34 = .ok (.invokevirtual 359, 3) := by decide +kernel
theorem dX5_worstOne_37 : decode cX5_worstOne 37 = .ok (.iload_n 1, 1) := by decide +kernel
theorem dX5_worstOne_38 : decode cX5_worstOne 38 = .ok (.iconst (-1), 1) := by decide +kernel
theorem dX5_worstOne_39 : decode cX5_worstOne 39 = .ok (.if_icmp .eq 12, 3) := by decide +kernel
theorem dX5_worstOne_42 : decode cX5_worstOne 42 = .ok (.aload 4, 2) := by decide +kernel
theorem dX5_worstOne_44 : decode cX5_worstOne 44 = .ok (.invokevirtual 258, 3) := by decide +kernel
theorem dX5_worstOne_47 : decode cX5_worstOne 47 = .ok (.iload_n 2, 1) := by decide +kernel
theorem dX5_worstOne_48 : decode cX5_worstOne 48 = .ok (.if_icmp .le 11, 3) := by decide +kernel
theorem dX5_worstOne_51 : decode cX5_worstOne 51 = .ok (.iload_n 3, 1) := by decide +kernel
theorem dX5_worstOne_52 : decode cX5_worstOne 52 = .ok (.istore_n 1, 1) := by decide +kernel
theorem dX5_worstOne_53 : decode cX5_worstOne 53 = .ok (.aload 4, 2) := by decide +kernel
theorem dX5_worstOne_55 : decode cX5_worstOne 55 = .ok (.invokevirtual 258, 3) := by decide +kernel
theorem dX5_worstOne_58 : decode cX5_worstOne 58 = .ok (.istore_n 2, 1) := by decide +kernel
theorem dX5_worstOne_59 : decode cX5_worstOne 59 = .ok (.iinc 3 1, 3) := by decide +kernel
theorem dX5_worstOne_62 : decode cX5_worstOne 62 = .ok (.goto (-56), 3) := by decide +kernel
theorem dX5_worstOne_65 : decode cX5_worstOne 65 = .ok (.iload_n 1, 1) := by decide +kernel
theorem dX5_worstOne_66 : decode cX5_worstOne 66 = .ok (.ireturn, 1) := by decide +kernel
theorem dX5_sendOff_0 : decode cX5_sendOff 0 = .ok (.aload_n 0, 1) := by decide +kernel
theorem dX5_sendOff_1 : decode cX5_sendOff 1 = .ok (.dup, 1) := by decide +kernel
theorem dX5_sendOff_2 : decode cX5_sendOff 2 = .ok (.getfield 116, 3) := by decide +kernel
theorem dX5_sendOff_5 : decode cX5_sendOff 5 = .ok (.iconst 1, 1) := by decide +kernel
theorem dX5_sendOff_6 : decode cX5_sendOff 6 = .ok (.iload_n 1, 1) := by decide +kernel
theorem dX5_sendOff_7 : decode cX5_sendOff 7 = .ok (.ishl, 1) := by decide +kernel
theorem dX5_sendOff_8 : decode cX5_sendOff 8 = .ok (.iconst (-1), 1) := by decide +kernel
theorem dX5_sendOff_9 : decode cX5_sendOff 9 = .ok (.ixor, 1) := by decide +kernel
theorem dX5_sendOff_10 : decode cX5_sendOff 10 = .ok (.iand, 1) := by decide +kernel
theorem dX5_sendOff_11 : decode cX5_sendOff 11 = .ok (.putfield 116, 3) := by decide +kernel
theorem dX5_sendOff_14 : decode cX5_sendOff 14 = .ok (.aload_n 0, 1) := by decide +kernel
theorem dX5_sendOff_15 : decode cX5_sendOff 15 = .ok (.dup, 1) := by decide +kernel
theorem dX5_sendOff_16 : decode cX5_sendOff 16 = .ok (.getfield 255, 3) := by decide +kernel
theorem dX5_sendOff_19 : decode cX5_sendOff 19 = .ok (.iconst 1, 1) := by decide +kernel
theorem dX5_sendOff_20 : decode cX5_sendOff 20 = .ok (.iload_n 1, 1) := by decide +kernel
theorem dX5_sendOff_21 : decode cX5_sendOff 21 = .ok (.ishl, 1) := by decide +kernel
theorem dX5_sendOff_22 : decode cX5_sendOff 22 = .ok (.iconst (-1), 1) := by decide +kernel
theorem dX5_sendOff_23 : decode cX5_sendOff 23 = .ok (.ixor, 1) := by decide +kernel
theorem dX5_sendOff_24 : decode cX5_sendOff 24 = .ok (.iand, 1) := by decide +kernel
theorem dX5_sendOff_25 : decode cX5_sendOff 25 = .ok (.putfield 255, 3) := by decide +kernel
theorem dX5_sendOff_28 : decode cX5_sendOff 28 = .ok (.return_, 1) := by decide +kernel
theorem dX5_penalty_0 : decode cX5_penalty 0 = .ok (.iload_n 1, 1) := by decide +kernel
theorem dX5_penalty_1 : decode cX5_penalty 1 = .ok (.i2l, 1) := by decide +kernel
theorem dX5_penalty_2 : decode cX5_penalty 2 = .ok (.ldc2_w 362, 3) := by decide +kernel
theorem dX5_penalty_5 : decode cX5_penalty 5 = .ok (.ldc2_w 314, 3) := by decide +kernel
theorem dX5_penalty_8 : decode cX5_penalty 8 = .ok (.invokestatic 77, 3) := by decide +kernel
theorem dX5_penalty_11 : decode cX5_penalty 11 = .ok (.ifCond .ne 13, 3) := by decide +kernel
theorem dX5_penalty_14 : decode cX5_penalty 14 = .ok (.aload_n 0, 1) := by decide +kernel
theorem dX5_penalty_15 : decode cX5_penalty 15 = .ok (.bipush (-2), 2) := by decide +kernel
theorem dX5_penalty_17 : decode cX5_penalty 17 = .ok (.invokevirtual 89, 3) := by decide +kernel
theorem dX5_penalty_20 : decode cX5_penalty 20 = .ok (.invokestatic 320, 3) := by decide +kernel
theorem dX5_penalty_23 : decode cX5_penalty 23 = .ok (.ireturn, 1) := by decide +kernel
theorem dX5_penalty_24 : decode cX5_penalty 24 = .ok (.aload_n 0, 1) := by decide +kernel
theorem dX5_penalty_25 : decode cX5_penalty 25 = .ok (.getfield 116, 3) := by decide +kernel
theorem dX5_penalty_28 : decode cX5_penalty 28 = .ok (.ifCond .ne 13, 3) := by decide +kernel
theorem dX5_penalty_31 : decode cX5_penalty 31 = .ok (.aload_n 0, 1) := by decide +kernel
theorem dX5_penalty_32 : decode cX5_penalty 32 = .ok (.bipush (-5), 2) := by decide +kernel
theorem dX5_penalty_34 : decode cX5_penalty 34 = .ok (.invokevirtual 89, 3) := by decide +kernel
theorem dX5_penalty_37 : decode cX5_penalty 37 = .ok (.invokestatic 320, 3) := by decide +kernel
theorem dX5_penalty_40 : decode cX5_penalty 40 = .ok (.ireturn, 1) := by decide +kernel
theorem dX5_penalty_41 : decode cX5_penalty 41 = .ok (.aload_n 0, 1) := by decide +kernel
theorem dX5_penalty_42 : decode cX5_penalty 42 = .ok (.invokevirtual 364, 3) := by decide +kernel
theorem dX5_penalty_45 : decode cX5_penalty 45 = .ok (.istore_n 2, 1) := by decide +kernel
theorem dX5_penalty_46 : decode cX5_penalty 46 = .ok (.iload_n 1, 1) := by decide +kernel
theorem dX5_penalty_47 : decode cX5_penalty 47 = .ok (.iconst (-1), 1) := by decide +kernel
theorem dX5_penalty_48 : decode cX5_penalty 48 = .ok (.if_icmp .ne 5, 3) := by decide +kernel
theorem dX5_penalty_51 : decode cX5_penalty 51 = .ok (.iload_n 2, 1) := by decide +kernel
theorem dX5_penalty_52 : decode cX5_penalty 52 = .ok (.ireturn, 1) := by decide +kernel
theorem dX5_penalty_53 : decode cX5_penalty 53 = .ok (.aload_n 0, 1) := by decide +kernel
theorem dX5_penalty_54 : decode cX5_penalty 54 = .ok (.invokevirtual 248, 3) := by decide +kernel
theorem dX5_penalty_57 : decode cX5_penalty 57 = .ok (.astore_n 3, 1) := by decide +kernel
theorem dX5_penalty_58 : decode cX5_penalty 58 = .ok (.aload_n 3, 1) := by decide +kernel
theorem dX5_penalty_59 : decode cX5_penalty 59 = .ok (.iload_n 2, 1) := by decide +kernel
theorem dX5_penalty_60 : decode cX5_penalty 60 = .ok (.invokevirtual 359, 3) := by decide +kernel
theorem dX5_penalty_63 : decode cX5_penalty 63 = .ok (.aload_n 3, 1) := by decide +kernel
theorem dX5_penalty_64 : decode cX5_penalty 64 = .ok (.iload_n 1, 1) := by decide +kernel
theorem dX5_penalty_65 : decode cX5_penalty 65 = .ok (.invokevirtual 316, 3) := by decide +kernel
theorem dX5_penalty_68 : decode cX5_penalty 68 = .ok (.ireturn, 1) := by decide +kernel
theorem dX5_noBook_0 : decode cX5_noBook 0 = .ok (.iload_n 1, 1) := by decide +kernel
theorem dX5_noBook_1 : decode cX5_noBook 1 = .ok (.i2l, 1) := by decide +kernel
theorem dX5_noBook_2 : decode cX5_noBook 2 = .ok (.lconst 0, 1) := by decide +kernel
theorem dX5_noBook_3 : decode cX5_noBook 3 = .ok (.ldc2_w 83, 3) := by decide +kernel
theorem dX5_noBook_6 : decode cX5_noBook 6 = .ok (.invokestatic 77, 3) := by decide +kernel
theorem dX5_noBook_9 : decode cX5_noBook 9 = .ok (.ifCond .eq 15, 3) := by decide +kernel
theorem dX5_noBook_12 : decode cX5_noBook 12 = .ok (.iload_n 2, 1) := by decide +kernel
theorem dX5_noBook_13 : decode cX5_noBook 13 = .ok (.i2l, 1) := by decide +kernel
theorem dX5_noBook_14 : decode cX5_noBook 14 = .ok (.lconst 0, 1) := by decide +kernel
theorem dX5_noBook_15 : decode cX5_noBook 15 = .ok (.ldc2_w 87, 3) := by decide +kernel
theorem dX5_noBook_18 : decode cX5_noBook 18 = .ok (.invokestatic 77, 3) := by decide +kernel
theorem dX5_noBook_21 : decode cX5_noBook 21 = .ok (.ifCond .ne 10, 3) := by decide +kernel
theorem dX5_noBook_24 : decode cX5_noBook 24 = .ok (.aload_n 0, 1) := by decide +kernel
theorem dX5_noBook_25 : decode cX5_noBook 25 = .ok (.bipush (-2), 2) := by decide +kernel
theorem dX5_noBook_27 : decode cX5_noBook 27 = .ok (.invokevirtual 89, 3) := by decide +kernel
theorem dX5_noBook_30 : decode cX5_noBook 30 = .ok (.ireturn, 1) := by decide +kernel
theorem dX5_noBook_31 : decode cX5_noBook 31 = .ok (.aload_n 0, 1) := by decide +kernel
theorem dX5_noBook_32 : decode cX5_noBook 32 = .ok (.iload_n 1, 1) := by decide +kernel
theorem dX5_noBook_33 : decode cX5_noBook 33 = .ok (.invokevirtual 93, 3) := by decide +kernel
theorem dX5_noBook_36 : decode cX5_noBook 36 = .ok (.istore_n 3, 1) := by decide +kernel
theorem dX5_noBook_37 : decode cX5_noBook 37 = .ok (.iload_n 3, 1) := by decide +kernel
theorem dX5_noBook_38 : decode cX5_noBook 38 = .ok (.ifCond .eq 5, 3) := by decide +kernel
theorem dX5_noBook_41 : decode cX5_noBook 41 = .ok (.iload_n 3, 1) := by decide +kernel
theorem dX5_noBook_42 : decode cX5_noBook 42 = .ok (.ireturn, 1) := by decide +kernel
theorem dX5_noBook_43 : decode cX5_noBook 43 = .ok (.aload_n 0, 1) := by decide +kernel
theorem dX5_noBook_44 : decode cX5_noBook 44 = .ok (.getfield 16, 3) := by decide +kernel
theorem dX5_noBook_47 : decode cX5_noBook 47 = .ok (.iload_n 1, 1) := by decide +kernel
theorem dX5_noBook_48 : decode cX5_noBook 48 = .ok (.iaload, 1) := by decide +kernel
theorem dX5_noBook_49 : decode cX5_noBook 49 = .ok (.iload_n 2, 1) := by decide +kernel
theorem dX5_noBook_50 : decode cX5_noBook 50 = .ok (.if_icmp .ge 12, 3) := by decide +kernel
theorem dX5_noBook_53 : decode cX5_noBook 53 = .ok (.aload_n 0, 1) := by decide +kernel
theorem dX5_noBook_54 : decode cX5_noBook 54 = .ok (.bipush (-2), 2) := by decide +kernel
theorem dX5_noBook_56 : decode cX5_noBook 56 = .ok (.invokevirtual 89, 3) := by decide +kernel
theorem dX5_noBook_59 : decode cX5_noBook 59 = .ok (.goto 4, 3) := by decide +kernel
theorem dX5_noBook_62 : decode cX5_noBook 62 = .ok (.iconst 0, 1) := by decide +kernel
theorem dX5_noBook_63 : decode cX5_noBook 63 = .ok (.ireturn, 1) := by decide +kernel
theorem dX5_wrongIn_0 : decode cX5_wrongIn 0 = .ok (.iconst 0, 1) := by decide +kernel
theorem dX5_wrongIn_1 : decode cX5_wrongIn 1 = .ok (.istore_n 3, 1) := by decide +kernel
theorem dX5_wrongIn_2 : decode cX5_wrongIn 2 = .ok (.iload_n 3, 1) := by decide +kernel
theorem dX5_wrongIn_3 : decode cX5_wrongIn 3 = .ok (.iload_n 2, 1) := by decide +kernel
theorem dX5_wrongIn_4 : decode cX5_wrongIn 4 = .ok (.if_icmp .ge 32, 3) := by decide +kernel
theorem dX5_wrongIn_7 : decode cX5_wrongIn 7 = .ok (.aload_n 1, 1) := by decide +kernel
theorem dX5_wrongIn_8 : decode cX5_wrongIn 8 = .ok (.iload_n 3, 1) := by decide +kernel
theorem dX5_wrongIn_9 : decode cX5_wrongIn 9 = .ok (.laload, 1) := by decide +kernel
theorem dX5_wrongIn_10 : decode cX5_wrongIn 10 = .ok (.invokestatic 138, 3) := by decide +kernel
theorem dX5_wrongIn_13 : decode cX5_wrongIn 13 = .ok (.ifCond .eq 15, 3) := by decide +kernel
theorem dX5_wrongIn_16 : decode cX5_wrongIn 16 = .ok (.aload_n 0, 1) := by decide +kernel
theorem dX5_wrongIn_17 : decode cX5_wrongIn 17 = .ok (.getfield 49, 3) := by decide +kernel
theorem dX5_wrongIn_20 : decode cX5_wrongIn 20 = .ok (.aload_n 1, 1) := by decide +kernel
theorem dX5_wrongIn_21 : decode cX5_wrongIn 21 = .ok (.iload_n 3, 1) := by decide +kernel
theorem dX5_wrongIn_22 : decode cX5_wrongIn 22 = .ok (.laload, 1) := by decide +kernel
theorem dX5_wrongIn_23 : decode cX5_wrongIn 23 = .ok (.l2i, 1) := by decide +kernel
theorem dX5_wrongIn_24 : decode cX5_wrongIn 24 = .ok (.iaload, 1) := by decide +kernel
theorem dX5_wrongIn_25 : decode cX5_wrongIn 25 = .ok (.ifCond .ne 5, 3) := by decide +kernel
theorem dX5_wrongIn_28 : decode cX5_wrongIn 28 = .ok (.iload_n 3, 1) := by decide +kernel
theorem dX5_wrongIn_29 : decode cX5_wrongIn 29 = .ok (.ireturn, 1) := by decide +kernel
theorem dX5_wrongIn_30 : decode cX5_wrongIn 30 = .ok (.iinc 3 1, 3) := by decide +kernel
theorem dX5_wrongIn_33 : decode cX5_wrongIn 33 = .ok (.goto (-31), 3) := by decide +kernel
theorem dX5_wrongIn_36 : decode cX5_wrongIn 36 = .ok (.iconst (-1), 1) := by decide +kernel
theorem dX5_wrongIn_37 : decode cX5_wrongIn 37 = .ok (.ireturn, 1) := by decide +kernel
theorem dX5_judge_0 : decode cX5_judge 0 = .ok (.aload_n 0, 1) := by decide +kernel
theorem dX5_judge_1 : decode cX5_judge 1 = .ok (.iload_n 1, 1) := by decide +kernel
theorem dX5_judge_2 : decode cX5_judge 2 = .ok (.iload_n 2, 1) := by decide +kernel
theorem dX5_judge_3 : decode cX5_judge 3 = .ok (.invokevirtual 367, 3) := by decide +kernel
theorem dX5_judge_6 : decode cX5_judge 6 = .ok (.istore_n 3, 1) := by decide +kernel
theorem dX5_judge_7 : decode cX5_judge 7 = .ok (.iload_n 3, 1) := by decide +kernel
theorem dX5_judge_8 : decode cX5_judge 8 = .ok (.ifCond .eq 7, 3) := by decide +kernel
theorem dX5_judge_11 : decode cX5_judge 11 = .ok (.iload_n 3, 1) := by decide +kernel
theorem dX5_judge_12 : decode cX5_judge 12 = .ok (.goto 14, 3) := by decide +kernel
theorem dX5_judge_15 : decode cX5_judge 15 = .ok (.aload_n 0, 1) := by decide +kernel
theorem dX5_judge_16 : decode cX5_judge 16 = .ok (.aload_n 0, 1) := by decide +kernel
theorem dX5_judge_17 : decode cX5_judge 17 = .ok (.getfield 21, 3) := by decide +kernel
theorem dX5_judge_20 : decode cX5_judge 20 = .ok (.iload_n 1, 1) := by decide +kernel
theorem dX5_judge_21 : decode cX5_judge 21 = .ok (.aaload, 1) := by decide +kernel
theorem dX5_judge_22 : decode cX5_judge 22 = .ok (.iload_n 2, 1) := by decide +kernel
theorem dX5_judge_23 : decode cX5_judge 23 = .ok (.invokevirtual 370, 3) := by decide +kernel
theorem dX5_judge_26 : decode cX5_judge 26 = .ok (.ireturn, 1) := by decide +kernel
theorem dX5_booked_0 : decode cX5_booked 0 = .ok (.iload_n 1, 1) := by decide +kernel
theorem dX5_booked_1 : decode cX5_booked 1 = .ok (.i2l, 1) := by decide +kernel
theorem dX5_booked_2 : decode cX5_booked 2 = .ok (.lconst 0, 1) := by decide +kernel
theorem dX5_booked_3 : decode cX5_booked 3 = .ok (.ldc2_w 83, 3) := by decide +kernel
theorem dX5_booked_6 : decode cX5_booked 6 = .ok (.invokestatic 77, 3) := by decide +kernel
theorem dX5_booked_9 : decode cX5_booked 9 = .ok (.ifCond .eq 34, 3) := by decide +kernel
theorem dX5_booked_12 : decode cX5_booked 12 = .ok (.iload_n 2, 1) := by decide +kernel
theorem dX5_booked_13 : decode cX5_booked 13 = .ok (.i2l, 1) := by decide +kernel
theorem dX5_booked_14 : decode cX5_booked 14 = .ok (.lconst 0, 1) := by decide +kernel
theorem dX5_booked_15 : decode cX5_booked 15 = .ok (.ldc2_w 87, 3) := by decide +kernel
theorem dX5_booked_18 : decode cX5_booked 18 = .ok (.invokestatic 77, 3) := by decide +kernel
theorem dX5_booked_21 : decode cX5_booked 21 = .ok (.ifCond .eq 22, 3) := by decide +kernel
theorem dX5_booked_24 : decode cX5_booked 24 = .ok (.aload_n 0, 1) := by decide +kernel
theorem dX5_booked_25 : decode cX5_booked 25 = .ok (.iload_n 3, 1) := by decide +kernel
theorem dX5_booked_26 : decode cX5_booked 26 = .ok (.invokevirtual 100, 3) := by decide +kernel
theorem dX5_booked_29 : decode cX5_booked 29 = .ok (.ifCond .eq 14, 3) := by decide +kernel
theorem dX5_booked_32 : decode cX5_booked 32 = .ok (.iload 4, 2) := by decide +kernel
theorem dX5_booked_34 : decode cX5_booked 34 = .ok (.i2l, 1) := by decide +kernel
theorem dX5_booked_35 : decode cX5_booked 35 = .ok (.lconst 0, 1) := by decide +kernel
theorem dX5_booked_36 : decode cX5_booked 36 = .ok (.lconst 1, 1) := by decide +kernel
theorem dX5_booked_37 : decode cX5_booked 37 = .ok (.invokestatic 77, 3) := by decide +kernel
theorem dX5_booked_40 : decode cX5_booked 40 = .ok (.ifCond .ne 10, 3) := by decide +kernel
theorem dX5_booked_43 : decode cX5_booked 43 = .ok (.aload_n 0, 1) := by decide +kernel
theorem dX5_booked_44 : decode cX5_booked 44 = .ok (.bipush (-2), 2) := by decide +kernel
theorem dX5_booked_46 : decode cX5_booked 46 = .ok (.invokevirtual 89, 3) := by decide +kernel
theorem dX5_booked_49 : decode cX5_booked 49 = .ok (.ireturn, 1) := by decide +kernel
theorem dX5_booked_50 : decode cX5_booked 50 = .ok (.aload_n 0, 1) := by decide +kernel
theorem dX5_booked_51 : decode cX5_booked 51 = .ok (.iload_n 1, 1) := by decide +kernel
theorem dX5_booked_52 : decode cX5_booked 52 = .ok (.iload_n 2, 1) := by decide +kernel
theorem dX5_booked_53 : decode cX5_booked 53 = .ok (.invokevirtual 367, 3) := by decide +kernel
theorem dX5_booked_56 : decode cX5_booked 56 = .ok (.istore 5, 2) := by decide +kernel
theorem dX5_booked_58 : decode cX5_booked 58 = .ok (.iload 5, 2) := by decide +kernel
theorem dX5_booked_60 : decode cX5_booked 60 = .ok (.ifCond .eq 6, 3) := by decide +kernel
theorem dX5_booked_63 : decode cX5_booked 63 = .ok (.iload 5, 2) := by decide +kernel
theorem dX5_booked_65 : decode cX5_booked 65 = .ok (.ireturn, 1) := by decide +kernel
theorem dX5_booked_66 : decode cX5_booked 66 = .ok (.aload_n 0, 1) := by decide +kernel
theorem dX5_booked_67 : decode cX5_booked 67 = .ok (.aload_n 0, 1) := by decide +kernel
theorem dX5_booked_68 : decode cX5_booked 68 = .ok (.getfield 21, 3) := by decide +kernel
theorem dX5_booked_71 : decode cX5_booked 71 = .ok (.iload_n 1, 1) := by decide +kernel
theorem dX5_booked_72 : decode cX5_booked 72 = .ok (.aaload, 1) := by decide +kernel
theorem dX5_booked_73 : decode cX5_booked 73 = .ok (.iload_n 2, 1) := by decide +kernel
theorem dX5_booked_74 : decode cX5_booked 74 = .ok (.invokevirtual 370, 3) := by decide +kernel
theorem dX5_booked_77 : decode cX5_booked 77 = .ok (.iconst (-1), 1) := by decide +kernel
theorem dX5_booked_78 : decode cX5_booked 78 = .ok (.if_icmp .eq 10, 3) := by decide +kernel
theorem dX5_booked_81 : decode cX5_booked 81 = .ok (.aload_n 0, 1) := by decide +kernel
theorem dX5_booked_82 : decode cX5_booked 82 = .ok (.bipush (-5), 2) := by decide +kernel
theorem dX5_booked_84 : decode cX5_booked 84 = .ok (.invokevirtual 89, 3) := by decide +kernel
theorem dX5_booked_87 : decode cX5_booked 87 = .ok (.ireturn, 1) := by decide +kernel
theorem dX5_booked_88 : decode cX5_booked 88 = .ok (.iconst 0, 1) := by decide +kernel
theorem dX5_booked_89 : decode cX5_booked 89 = .ok (.istore 6, 2) := by decide +kernel
theorem dX5_booked_91 : decode cX5_booked 91 = .ok (.iconst 0, 1) := by decide +kernel
theorem dX5_booked_92 : decode cX5_booked 92 = .ok (.istore 7, 2) := by decide +kernel
theorem dX5_booked_94 : decode cX5_booked 94 = .ok (.aload_n 0, 1) := by decide +kernel
theorem dX5_booked_95 : decode cX5_booked 95 = .ok (.invokevirtual 248, 3) := by decide +kernel
theorem dX5_booked_98 : decode cX5_booked 98 = .ok (.astore 8, 2) := by decide +kernel
theorem dX5_booked_100 : decode cX5_booked 100 = .ok (.aload 8, 2) := by decide +kernel
theorem dX5_booked_102 : decode cX5_booked 102 = .ok (.getfield 46, 3) := by decide +kernel
theorem dX5_booked_105 : decode cX5_booked 105 = .ok (.iload_n 3, 1) := by decide +kernel
theorem dX5_booked_106 : decode cX5_booked 106 = .ok (.iconst 0, 1) := by decide +kernel
theorem dX5_booked_107 : decode cX5_booked 107 = .ok (.iastore, 1) := by decide +kernel
theorem dX5_booked_108 : decode cX5_booked 108 = .ok (.iconst 0, 1) := by decide +kernel
theorem dX5_booked_109 : decode cX5_booked 109 = .ok (.istore 9, 2) := by decide +kernel
theorem dX5_booked_111 : decode cX5_booked 111 = .ok (.iload 9, 2) := by decide +kernel
theorem dX5_booked_113 : decode cX5_booked 113 = .ok (.iload_n 2, 1) := by decide +kernel
theorem dX5_booked_114 : decode cX5_booked 114 = .ok (.if_icmp .ge 77, 3) := by decide +kernel
theorem dX5_booked_117 : decode cX5_booked 117 = .ok (.aload_n 0, 1) := by decide +kernel
theorem dX5_booked_118 : decode cX5_booked 118 = .ok (.getfield 21, 3) := by decide +kernel
theorem dX5_booked_121 : decode cX5_booked 121 = .ok (.iload_n 1, 1) := by decide +kernel
theorem dX5_booked_122 : decode cX5_booked 122 = .ok (.aaload, 1) := by decide +kernel
theorem dX5_booked_123 : decode cX5_booked 123 = .ok (.iload 9, 2) := by decide +kernel
theorem dX5_booked_125 : decode cX5_booked 125 = .ok (.laload, 1) := by decide +kernel
theorem dX5_booked_126 : decode cX5_booked 126 = .ok (.l2i, 1) := by decide +kernel
theorem dX5_booked_127 : decode cX5_booked 127 = .ok (.istore 10, 2) := by decide +kernel
theorem dX5_booked_129 : decode cX5_booked 129 = .ok (.aload 8, 2) := by decide +kernel
theorem dX5_booked_131 : decode cX5_booked 131 = .ok (.iload 10, 2) := by decide +kernel
theorem dX5_booked_133 : decode cX5_booked 133 = .ok (.invokevirtual 218, 3) := by decide +kernel
theorem dX5_booked_136 : decode cX5_booked 136 = .ok (.aload 8, 2) := by decide +kernel
theorem dX5_booked_138 : decode cX5_booked 138 = .ok (.bipush 20, 2) := by decide +kernel
theorem dX5_booked_140 : decode cX5_booked 140 = .ok (.invokevirtual 316, 3) := by decide +kernel
theorem dX5_booked_143 : decode cX5_booked 143 = .ok (.pop, 1) := by decide +kernel
theorem dX5_booked_144 : decode cX5_booked 144 = .ok (.aload_n 0, 1) := by decide +kernel
theorem dX5_booked_145 : decode cX5_booked 145 = .ok (.getfield 49, 3) := by decide +kernel
theorem dX5_booked_148 : decode cX5_booked 148 = .ok (.iload 10, 2) := by decide +kernel
theorem dX5_booked_150 : decode cX5_booked 150 = .ok (.iaload, 1) := by decide +kernel
theorem dX5_booked_151 : decode cX5_booked 151 = .ok (.iload_n 3, 1) := by decide +kernel
theorem dX5_booked_152 : decode cX5_booked 152 = .ok (.invokestatic 119, 3) := by decide +kernel
theorem dX5_booked_155 : decode cX5_booked 155 = .ok (.ifCond .eq 11, 3) := by decide +kernel
theorem dX5_booked_158 : decode cX5_booked 158 = .ok (.iload 7, 2) := by decide +kernel
theorem dX5_booked_160 : decode cX5_booked 160 = .ok (.bipush 20, 2) := by decide +kernel
theorem dX5_booked_162 : decode cX5_booked 162 = .ok (.iadd, 1) := by decide +kernel
theorem dX5_booked_163 : decode cX5_booked 163 = .ok (.goto 4, 3) := by decide +kernel
theorem dX5_booked_166 : decode cX5_booked 166 = .ok (.iconst 0, 1) := by decide +kernel
theorem dX5_booked_167 : decode cX5_booked 167 = .ok (.istore 7, 2) := by decide +kernel
theorem dX5_booked_169 : decode cX5_booked 169 = .ok (.iload 7, 2) := by decide +kernel
theorem dX5_booked_171 : decode cX5_booked 171 = .ok (.iload 6, 2) := by decide +kernel
theorem dX5_booked_173 : decode cX5_booked 173 = .ok (.if_icmp .le 8, 3) := by decide +kernel
theorem dX5_booked_176 : decode cX5_booked 176 = .ok (.iload 7, 2) := by decide +kernel
theorem dX5_booked_178 : decode cX5_booked 178 = .ok (.goto 5, 3) := by decide +kernel
theorem dX5_booked_181 : decode cX5_booked 181 = .ok (.iload 6, 2) := by decide +kernel
theorem dX5_booked_183 : decode cX5_booked 183 = .ok (.istore 6, 2) := by decide +kernel
theorem dX5_booked_185 : decode cX5_booked 185 = .ok (.iinc 9 1, 3) := by decide +kernel
theorem dX5_booked_188 : decode cX5_booked 188 = .ok (.goto (-77), 3) := by decide +kernel
theorem dX5_booked_191 : decode cX5_booked 191 = .ok (.iload 4, 2) := by decide +kernel
theorem dX5_booked_193 : decode cX5_booked 193 = .ok (.ifCond .ne 8, 3) := by decide +kernel
theorem dX5_booked_196 : decode cX5_booked 196 = .ok (.iload 6, 2) := by decide +kernel
theorem dX5_booked_198 : decode cX5_booked 198 = .ok (.goto 16, 3) := by decide +kernel
theorem dX5_booked_201 : decode cX5_booked 201 = .ok (.aload_n 0, 1) := by decide +kernel
theorem dX5_booked_202 : decode cX5_booked 202 = .ok (.getfield 40, 3) := by decide +kernel
theorem dX5_booked_205 : decode cX5_booked 205 = .ok (.iload_n 3, 1) := by decide +kernel
theorem dX5_booked_206 : decode cX5_booked 206 = .ok (.iaload, 1) := by decide +kernel
theorem dX5_booked_207 : decode cX5_booked 207 = .ok (.aload 8, 2) := by decide +kernel
theorem dX5_booked_209 : decode cX5_booked 209 = .ok (.iload_n 3, 1) := by decide +kernel
theorem dX5_booked_210 : decode cX5_booked 210 = .ok (.invokevirtual 110, 3) := by decide +kernel
theorem dX5_booked_213 : decode cX5_booked 213 = .ok (.isub, 1) := by decide +kernel
theorem dX5_booked_214 : decode cX5_booked 214 = .ok (.ireturn, 1) := by decide +kernel
theorem dX5_best_0 : decode cX5_best 0 = .ok (.iload_n 1, 1) := by decide +kernel
theorem dX5_best_1 : decode cX5_best 1 = .ok (.i2l, 1) := by decide +kernel
theorem dX5_best_2 : decode cX5_best 2 = .ok (.lconst 0, 1) := by decide +kernel
theorem dX5_best_3 : decode cX5_best 3 = .ok (.lconst 1, 1) := by decide +kernel
theorem dX5_best_4 : decode cX5_best 4 = .ok (.invokestatic 77, 3) := by decide +kernel
theorem dX5_best_7 : decode cX5_best 7 = .ok (.ifCond .ne 10, 3) := by decide +kernel
theorem dX5_best_10 : decode cX5_best 10 = .ok (.aload_n 0, 1) := by decide +kernel
theorem dX5_best_11 : decode cX5_best 11 = .ok (.bipush (-2), 2) := by decide +kernel
theorem dX5_best_13 : decode cX5_best 13 = .ok (.invokevirtual 89, 3) := by decide +kernel
theorem dX5_best_16 : decode cX5_best 16 = .ok (.ireturn, 1) := by decide +kernel
theorem dX5_best_17 : decode cX5_best 17 = .ok (.aload_n 0, 1) := by decide +kernel
theorem dX5_best_18 : decode cX5_best 18 = .ok (.invokevirtual 329, 3) := by decide +kernel
theorem dX5_best_21 : decode cX5_best 21 = .ok (.ifCond .eq 10, 3) := by decide +kernel
theorem dX5_best_24 : decode cX5_best 24 = .ok (.aload_n 0, 1) := by decide +kernel
theorem dX5_best_25 : decode cX5_best 25 = .ok (.bipush (-5), 2) := by decide +kernel
theorem dX5_best_27 : decode cX5_best 27 = .ok (.invokevirtual 89, 3) := by decide +kernel
theorem dX5_best_30 : decode cX5_best 30 = .ok (.ireturn, 1) := by decide +kernel
theorem dX5_best_31 : decode cX5_best 31 = .ok (.iload_n 1, 1) := by decide +kernel
theorem dX5_best_32 : decode cX5_best 32 = .ok (.ifCond .ne 10, 3) := by decide +kernel
theorem dX5_best_35 : decode cX5_best 35 = .ok (.aload_n 0, 1) := by decide +kernel
theorem dX5_best_36 : decode cX5_best 36 = .ok (.invokevirtual 374, 3) := by decide +kernel
theorem dX5_best_39 : decode cX5_best 39 = .ok (.goto 7, 3) := by decide +kernel
theorem dX5_best_42 : decode cX5_best 42 = .ok (.aload_n 0, 1) := by decide +kernel
theorem dX5_best_43 : decode cX5_best 43 = .ok (.invokevirtual 377, 3) := by decide +kernel
theorem dX5_best_46 : decode cX5_best 46 = .ok (.ireturn, 1) := by decide +kernel
theorem dX5_freshest_0 : decode cX5_freshest 0 = .ok (.iconst (-1), 1) := by decide +kernel
theorem dX5_freshest_1 : decode cX5_freshest 1 = .ok (.istore_n 1, 1) := by decide +kernel
theorem dX5_freshest_2 : decode cX5_freshest 2 = .ok (.iconst 0, 1) := by decide +kernel
theorem dX5_freshest_3 : decode cX5_freshest 3 = .ok (.istore_n 2, 1) := by decide +kernel
theorem dX5_freshest_4 : decode cX5_freshest 4 = .ok (.iload_n 2, 1) := by decide +kernel
theorem dX5_freshest_5 : decode cX5_freshest 5 = .ok (.iconst 4, 1) := by decide +kernel
theorem dX5_freshest_6 : decode cX5_freshest 6 = .ok (.if_icmp .ge 38, 3) := by decide +kernel
theorem dX5_freshest_9 : decode cX5_freshest 9 = .ok (.aload_n 0, 1) := by decide +kernel
theorem dX5_freshest_10 : decode cX5_freshest 10 = .ok (.getfield 49, 3) := by decide +kernel
theorem dX5_freshest_13 : decode cX5_freshest 13 = .ok (.iload_n 2, 1) := by decide +kernel
theorem dX5_freshest_14 : decode cX5_freshest 14 = .ok (.iaload, 1) := by decide +kernel
theorem dX5_freshest_15 : decode cX5_freshest 15 = .ok (.ifCond .eq 23, 3) := by decide +kernel
theorem dX5_freshest_18 : decode cX5_freshest 18 = .ok (.iload_n 1, 1) := by decide +kernel
theorem dX5_freshest_19 : decode cX5_freshest 19 = .ok (.iconst (-1), 1) := by decide +kernel
theorem dX5_freshest_20 : decode cX5_freshest 20 = .ok (.if_icmp .eq 16, 3) := by decide +kernel
theorem dX5_freshest_23 : decode cX5_freshest 23 = .ok (.aload_n 0, 1) := by decide +kernel
theorem dX5_freshest_24 : decode cX5_freshest 24 = .ok (.iload_n 2, 1) := by decide +kernel
theorem dX5_freshest_25 : decode cX5_freshest 25 = .ok (.invokevirtual 308, 3) := by decide +kernel
theorem dX5_freshest_28 : decode cX5_freshest 28 = .ok (.aload_n 0, 1) := by decide +kernel
theorem dX5_freshest_29 : decode cX5_freshest 29 = .ok (.iload_n 1, 1) := by decide +kernel
theorem dX5_freshest_30 : decode cX5_freshest 30 = .ok (.invokevirtual 308, 3) := by decide +kernel
theorem dX5_freshest_33 : decode cX5_freshest 33 = .ok (.if_icmp .ge 5, 3) := by decide +kernel
theorem dX5_freshest_36 : decode cX5_freshest 36 = .ok (.iload_n 2, 1) := by decide +kernel
theorem dX5_freshest_37 : decode cX5_freshest 37 = .ok (.istore_n 1, 1) := by decide +kernel
theorem dX5_freshest_38 : decode cX5_freshest 38 = .ok (.iinc 2 1, 3) := by decide +kernel
theorem dX5_freshest_41 : decode cX5_freshest 41 = .ok (.goto (-37), 3) := by decide +kernel
theorem dX5_freshest_44 : decode cX5_freshest 44 = .ok (.iload_n 1, 1) := by decide +kernel
theorem dX5_freshest_45 : decode cX5_freshest 45 = .ok (.ireturn, 1) := by decide +kernel
theorem dX5_strongest_0 : decode cX5_strongest 0 = .ok (.iconst (-1), 1) := by decide +kernel
theorem dX5_strongest_1 : decode cX5_strongest 1 = .ok (.istore_n 1, 1) := by decide +kernel
theorem dX5_strongest_2 : decode cX5_strongest 2 = .ok (.iconst 0, 1) := by decide +kernel
theorem dX5_strongest_3 : decode cX5_strongest 3 = .ok (.istore_n 2, 1) := by decide +kernel
theorem dX5_strongest_4 : decode cX5_strongest 4 = .ok (.iload_n 2, 1) := by decide +kernel
theorem dX5_strongest_5 : decode cX5_strongest 5 = .ok (.iconst 4, 1) := by decide +kernel
theorem dX5_strongest_6 : decode cX5_strongest 6 = .ok (.if_icmp .ge 48, 3) := by decide +kernel
theorem dX5_strongest_9 : decode cX5_strongest 9 = .ok (.aload_n 0, 1) := by decide +kernel
theorem dX5_strongest_10 : decode cX5_strongest 10 = .ok (.getfield 49, 3) := by decide +kernel
theorem dX5_strongest_13 : decode cX5_strongest 13 = .ok (.iload_n 2, 1) := by decide +kernel
theorem dX5_strongest_14 : decode cX5_strongest 14 = .ok (.iaload, 1) := by decide +kernel
theorem dX5_strongest_15 : decode cX5_strongest 15 = .ok (.ifCond .eq 33, 3) := by decide +kernel
theorem dX5_strongest_18 : decode cX5_strongest 18 = .ok (.iload_n 1, 1) := by decide +kernel
theorem dX5_strongest_19 : decode cX5_strongest 19 = .ok (.iconst (-1), 1) := by decide +kernel
theorem dX5_strongest_20 : decode cX5_strongest 20 = .ok (.if_icmp .eq 26, 3) := by decide +kernel
theorem dX5_strongest_23 : decode cX5_strongest 23 = .ok (.aload_n 0, 1) := by decide +kernel
theorem dX5_strongest_24 : decode cX5_strongest 24 = .ok (.aload_n 0, 1) := by decide +kernel
theorem dX5_strongest_25 : decode cX5_strongest 25 = .ok (.getfield 49, 3) := by decide +kernel
theorem dX5_strongest_28 : decode cX5_strongest 28 = .ok (.iload_n 2, 1) := by decide +kernel
theorem dX5_strongest_29 : decode cX5_strongest 29 = .ok (.iaload, 1) := by decide +kernel
theorem dX5_strongest_30 : decode cX5_strongest 30 = .ok (.invokevirtual 311, 3) := by decide +kernel
theorem dX5_strongest_33 : decode cX5_strongest 33 = .ok (.aload_n 0, 1) := by decide +kernel
theorem dX5_strongest_34 : decode cX5_strongest 34 = .ok (.aload_n 0, 1) := by decide +kernel
theorem dX5_strongest_35 : decode cX5_strongest 35 = .ok (.getfield 49, 3) := by decide +kernel
theorem dX5_strongest_38 : decode cX5_strongest 38 = .ok (.iload_n 1, 1) := by decide +kernel
theorem dX5_strongest_39 : decode cX5_strongest 39 = .ok (.iaload, 1) := by decide +kernel
theorem dX5_strongest_40 : decode cX5_strongest 40 = .ok (.invokevirtual 311, 3) := by decide +kernel
theorem dX5_strongest_43 : decode cX5_strongest 43 = .ok (.if_icmp .le 5, 3) := by decide +kernel
theorem dX5_strongest_46 : decode cX5_strongest 46 = .ok (.iload_n 2, 1) := by decide +kernel
theorem dX5_strongest_47 : decode cX5_strongest 47 = .ok (.istore_n 1, 1) := by decide +kernel
theorem dX5_strongest_48 : decode cX5_strongest 48 = .ok (.iinc 2 1, 3) := by decide +kernel
theorem dX5_strongest_51 : decode cX5_strongest 51 = .ok (.goto (-47), 3) := by decide +kernel
theorem dX5_strongest_54 : decode cX5_strongest 54 = .ok (.iload_n 1, 1) := by decide +kernel
theorem dX5_strongest_55 : decode cX5_strongest 55 = .ok (.ireturn, 1) := by decide +kernel
theorem dX5_rests_0 : decode cX5_rests 0 = .ok (.aload_n 0, 1) := by decide +kernel
theorem dX5_rests_1 : decode cX5_rests 1 = .ok (.iload_n 1, 1) := by decide +kernel
theorem dX5_rests_2 : decode cX5_rests 2 = .ok (.invokevirtual 100, 3) := by decide +kernel
theorem dX5_rests_5 : decode cX5_rests 5 = .ok (.ifCond .ne 10, 3) := by decide +kernel
theorem dX5_rests_8 : decode cX5_rests 8 = .ok (.aload_n 0, 1) := by decide +kernel
theorem dX5_rests_9 : decode cX5_rests 9 = .ok (.bipush (-2), 2) := by decide +kernel
theorem dX5_rests_11 : decode cX5_rests 11 = .ok (.invokevirtual 89, 3) := by decide +kernel
theorem dX5_rests_14 : decode cX5_rests 14 = .ok (.ireturn, 1) := by decide +kernel
theorem dX5_rests_15 : decode cX5_rests 15 = .ok (.iconst 0, 1) := by decide +kernel
theorem dX5_rests_16 : decode cX5_rests 16 = .ok (.istore_n 2, 1) := by decide +kernel
theorem dX5_rests_17 : decode cX5_rests 17 = .ok (.aload_n 0, 1) := by decide +kernel
theorem dX5_rests_18 : decode cX5_rests 18 = .ok (.getfield 46, 3) := by decide +kernel
theorem dX5_rests_21 : decode cX5_rests 21 = .ok (.iload_n 1, 1) := by decide +kernel
theorem dX5_rests_22 : decode cX5_rests 22 = .ok (.iaload, 1) := by decide +kernel
theorem dX5_rests_23 : decode cX5_rests 23 = .ok (.istore_n 3, 1) := by decide +kernel
theorem dX5_rests_24 : decode cX5_rests 24 = .ok (.iload_n 3, 1) := by decide +kernel
theorem dX5_rests_25 : decode cX5_rests 25 = .ok (.ifCond .le 16, 3) := by decide +kernel
theorem dX5_rests_28 : decode cX5_rests 28 = .ok (.aload_n 0, 1) := by decide +kernel
theorem dX5_rests_29 : decode cX5_rests 29 = .ok (.iload_n 1, 1) := by decide +kernel
theorem dX5_rests_30 : decode cX5_rests 30 = .ok (.iload_n 3, 1) := by decide +kernel
theorem dX5_rests_31 : decode cX5_rests 31 = .ok (.invokevirtual 261, 3) := by decide +kernel
theorem dX5_rests_34 : decode cX5_rests 34 = .ok (.istore_n 3, 1) := by decide +kernel
theorem dX5_rests_35 : decode cX5_rests 35 = .ok (.iinc 2 1, 3) := by decide +kernel
theorem dX5_rests_38 : decode cX5_rests 38 = .ok (.goto (-14), 3) := by decide +kernel
theorem dX5_rests_41 : decode cX5_rests 41 = .ok (.iload_n 2, 1) := by decide +kernel
theorem dX5_rests_42 : decode cX5_rests 42 = .ok (.ireturn, 1) := by decide +kernel
theorem dX5_whistle_0 : decode cX5_whistle 0 = .ok (.iload_n 1, 1) := by decide +kernel
theorem dX5_whistle_1 : decode cX5_whistle 1 = .ok (.i2l, 1) := by decide +kernel
theorem dX5_whistle_2 : decode cX5_whistle 2 = .ok (.invokestatic 138, 3) := by decide +kernel
theorem dX5_whistle_5 : decode cX5_whistle 5 = .ok (.ifCond .ne 10, 3) := by decide +kernel
theorem dX5_whistle_8 : decode cX5_whistle 8 = .ok (.aload_n 0, 1) := by decide +kernel
theorem dX5_whistle_9 : decode cX5_whistle 9 = .ok (.bipush (-2), 2) := by decide +kernel
theorem dX5_whistle_11 : decode cX5_whistle 11 = .ok (.invokevirtual 89, 3) := by decide +kernel
theorem dX5_whistle_14 : decode cX5_whistle 14 = .ok (.ireturn, 1) := by decide +kernel
theorem dX5_whistle_15 : decode cX5_whistle 15 = .ok (.aload_n 0, 1) := by decide +kernel
theorem dX5_whistle_16 : decode cX5_whistle 16 = .ok (.getfield 49, 3) := by decide +kernel
theorem dX5_whistle_19 : decode cX5_whistle 19 = .ok (.iload_n 1, 1) := by decide +kernel
theorem dX5_whistle_20 : decode cX5_whistle 20 = .ok (.iaload, 1) := by decide +kernel
theorem dX5_whistle_21 : decode cX5_whistle 21 = .ok (.ifCond .ne 10, 3) := by decide +kernel
theorem dX5_whistle_24 : decode cX5_whistle 24 = .ok (.aload_n 0, 1) := by decide +kernel
theorem dX5_whistle_25 : decode cX5_whistle 25 = .ok (.bipush (-5), 2) := by decide +kernel
theorem dX5_whistle_27 : decode cX5_whistle 27 = .ok (.invokevirtual 89, 3) := by decide +kernel
theorem dX5_whistle_30 : decode cX5_whistle 30 = .ok (.ireturn, 1) := by decide +kernel
theorem dX5_whistle_31 : decode cX5_whistle 31 = .ok (.aload_n 0, 1) := by decide +kernel
theorem dX5_whistle_32 : decode cX5_whistle 32 = .ok (.iload_n 1, 1) := by decide +kernel
theorem dX5_whistle_33 : decode cX5_whistle 33 = .ok (.invokevirtual 218, 3) := by decide +kernel
theorem dX5_whistle_36 : decode cX5_whistle 36 = .ok (.aload_n 0, 1) := by decide +kernel
theorem dX5_whistle_37 : decode cX5_whistle 37 = .ok (.invokevirtual 258, 3) := by decide +kernel
theorem dX5_whistle_40 : decode cX5_whistle 40 = .ok (.ireturn, 1) := by decide +kernel
theorem dX5_change_0 : decode cX5_change 0 = .ok (.iload_n 1, 1) := by decide +kernel
theorem dX5_change_1 : decode cX5_change 1 = .ok (.i2l, 1) := by decide +kernel
theorem dX5_change_2 : decode cX5_change 2 = .ok (.invokestatic 138, 3) := by decide +kernel
theorem dX5_change_5 : decode cX5_change 5 = .ok (.ifCond .ne 10, 3) := by decide +kernel
theorem dX5_change_8 : decode cX5_change 8 = .ok (.aload_n 0, 1) := by decide +kernel
theorem dX5_change_9 : decode cX5_change 9 = .ok (.bipush (-2), 2) := by decide +kernel
theorem dX5_change_11 : decode cX5_change 11 = .ok (.invokevirtual 89, 3) := by decide +kernel
theorem dX5_change_14 : decode cX5_change 14 = .ok (.ireturn, 1) := by decide +kernel
theorem dX5_change_15 : decode cX5_change 15 = .ok (.aload_n 0, 1) := by decide +kernel
theorem dX5_change_16 : decode cX5_change 16 = .ok (.getfield 49, 3) := by decide +kernel
theorem dX5_change_19 : decode cX5_change 19 = .ok (.iload_n 1, 1) := by decide +kernel
theorem dX5_change_20 : decode cX5_change 20 = .ok (.iaload, 1) := by decide +kernel
theorem dX5_change_21 : decode cX5_change 21 = .ok (.ifCond .ne 12, 3) := by decide +kernel
theorem dX5_change_24 : decode cX5_change 24 = .ok (.aload_n 0, 1) := by decide +kernel
theorem dX5_change_25 : decode cX5_change 25 = .ok (.bipush (-5), 2) := by decide +kernel
theorem dX5_change_27 : decode cX5_change 27 = .ok (.invokevirtual 89, 3) := by decide +kernel
theorem dX5_change_30 : decode cX5_change 30 = .ok (.goto 8, 3) := by decide +kernel
theorem dX5_change_33 : decode cX5_change 33 = .ok (.aload_n 0, 1) := by decide +kernel
theorem dX5_change_34 : decode cX5_change 34 = .ok (.iload_n 1, 1) := by decide +kernel
theorem dX5_change_35 : decode cX5_change 35 = .ok (.invokevirtual 323, 3) := by decide +kernel
theorem dX5_change_38 : decode cX5_change 38 = .ok (.ireturn, 1) := by decide +kernel
theorem dX5_below_0 : decode cX5_below 0 = .ok (.aload_n 0, 1) := by decide +kernel
theorem dX5_below_1 : decode cX5_below 1 = .ok (.aload_n 0, 1) := by decide +kernel
theorem dX5_below_2 : decode cX5_below 2 = .ok (.getfield 62, 3) := by decide +kernel
theorem dX5_below_5 : decode cX5_below 5 = .ok (.ldc_w 380, 3) := by decide +kernel
theorem dX5_below_8 : decode cX5_below 8 = .ok (.imul, 1) := by decide +kernel
theorem dX5_below_9 : decode cX5_below 9 = .ok (.sipush 12345, 3) := by decide +kernel
theorem dX5_below_12 : decode cX5_below 12 = .ok (.iadd, 1) := by decide +kernel
theorem dX5_below_13 : decode cX5_below 13 = .ok (.putfield 62, 3) := by decide +kernel
theorem dX5_below_16 : decode cX5_below 16 = .ok (.aload_n 0, 1) := by decide +kernel
theorem dX5_below_17 : decode cX5_below 17 = .ok (.getfield 62, 3) := by decide +kernel
theorem dX5_below_20 : decode cX5_below 20 = .ok (.bipush 16, 2) := by decide +kernel
theorem dX5_below_22 : decode cX5_below 22 = .ok (.iushr, 1) := by decide +kernel
theorem dX5_below_23 : decode cX5_below 23 = .ok (.iload_n 1, 1) := by decide +kernel
theorem dX5_below_24 : decode cX5_below 24 = .ok (.irem, 1) := by decide +kernel
theorem dX5_below_25 : decode cX5_below 25 = .ok (.ireturn, 1) := by decide +kernel
theorem dX5_skate_0 : decode cX5_skate 0 = .ok (.iload_n 1, 1) := by decide +kernel
theorem dX5_skate_1 : decode cX5_skate 1 = .ok (.i2l, 1) := by decide +kernel
theorem dX5_skate_2 : decode cX5_skate 2 = .ok (.lconst 1, 1) := by decide +kernel
theorem dX5_skate_3 : decode cX5_skate 3 = .ok (.ldc2_w 381, 3) := by decide +kernel
theorem dX5_skate_6 : decode cX5_skate 6 = .ok (.invokestatic 77, 3) := by decide +kernel
theorem dX5_skate_9 : decode cX5_skate 9 = .ok (.ifCond .ne 10, 3) := by decide +kernel
theorem dX5_skate_12 : decode cX5_skate 12 = .ok (.aload_n 0, 1) := by decide +kernel
theorem dX5_skate_13 : decode cX5_skate 13 = .ok (.bipush (-2), 2) := by decide +kernel
theorem dX5_skate_15 : decode cX5_skate 15 = .ok (.invokevirtual 89, 3) := by decide +kernel
theorem dX5_skate_18 : decode cX5_skate 18 = .ok (.ireturn, 1) := by decide +kernel
theorem dX5_skate_19 : decode cX5_skate 19 = .ok (.iconst 0, 1) := by decide +kernel
theorem dX5_skate_20 : decode cX5_skate 20 = .ok (.istore_n 2, 1) := by decide +kernel
theorem dX5_skate_21 : decode cX5_skate 21 = .ok (.iconst 0, 1) := by decide +kernel
theorem dX5_skate_22 : decode cX5_skate 22 = .ok (.istore_n 3, 1) := by decide +kernel
theorem dX5_skate_23 : decode cX5_skate 23 = .ok (.iload_n 3, 1) := by decide +kernel
theorem dX5_skate_24 : decode cX5_skate 24 = .ok (.iload_n 1, 1) := by decide +kernel
theorem dX5_skate_25 : decode cX5_skate 25 = .ok (.if_icmp .ge 24, 3) := by decide +kernel
theorem dX5_skate_28 : decode cX5_skate 28 = .ok (.iload_n 2, 1) := by decide +kernel
theorem dX5_skate_29 : decode cX5_skate 29 = .ok (.aload_n 0, 1) := by decide +kernel
theorem dX5_skate_30 : decode cX5_skate 30 = .ok (.invokevirtual 230, 3) := by decide +kernel
theorem dX5_skate_33 : decode cX5_skate 33 = .ok (.ifCond .eq 7, 3) := by decide +kernel
theorem dX5_skate_36 : decode cX5_skate 36 = .ok (.iconst 1, 1) := by decide +kernel
theorem dX5_skate_37 : decode cX5_skate 37 = .ok (.goto 4, 3) := by decide +kernel
theorem dX5_skate_40 : decode cX5_skate 40 = .ok (.iconst 0, 1) := by decide +kernel
theorem dX5_skate_41 : decode cX5_skate 41 = .ok (.iadd, 1) := by decide +kernel
theorem dX5_skate_42 : decode cX5_skate 42 = .ok (.istore_n 2, 1) := by decide +kernel
theorem dX5_skate_43 : decode cX5_skate 43 = .ok (.iinc 3 1, 3) := by decide +kernel
theorem dX5_skate_46 : decode cX5_skate 46 = .ok (.goto (-23), 3) := by decide +kernel
theorem dX5_skate_49 : decode cX5_skate 49 = .ok (.iload_n 2, 1) := by decide +kernel
theorem dX5_skate_50 : decode cX5_skate 50 = .ok (.ireturn, 1) := by decide +kernel
theorem dX5_game_0 : decode cX5_game 0 = .ok (.iload_n 1, 1) := by decide +kernel
theorem dX5_game_1 : decode cX5_game 1 = .ok (.i2l, 1) := by decide +kernel
theorem dX5_game_2 : decode cX5_game 2 = .ok (.lconst 1, 1) := by decide +kernel
theorem dX5_game_3 : decode cX5_game 3 = .ok (.ldc2_w 383, 3) := by decide +kernel
theorem dX5_game_6 : decode cX5_game 6 = .ok (.invokestatic 77, 3) := by decide +kernel
theorem dX5_game_9 : decode cX5_game 9 = .ok (.ifCond .ne 13, 3) := by decide +kernel
theorem dX5_game_12 : decode cX5_game 12 = .ok (.aload_n 0, 1) := by decide +kernel
theorem dX5_game_13 : decode cX5_game 13 = .ok (.bipush (-2), 2) := by decide +kernel
theorem dX5_game_15 : decode cX5_game 15 = .ok (.invokevirtual 89, 3) := by decide +kernel
theorem dX5_game_18 : decode cX5_game 18 = .ok (.invokestatic 320, 3) := by decide +kernel
theorem dX5_game_21 : decode cX5_game 21 = .ok (.ireturn, 1) := by decide +kernel
theorem dX5_game_22 : decode cX5_game 22 = .ok (.aload_n 0, 1) := by decide +kernel
theorem dX5_game_23 : decode cX5_game 23 = .ok (.invokevirtual 329, 3) := by decide +kernel
theorem dX5_game_26 : decode cX5_game 26 = .ok (.ifCond .eq 13, 3) := by decide +kernel
theorem dX5_game_29 : decode cX5_game 29 = .ok (.aload_n 0, 1) := by decide +kernel
theorem dX5_game_30 : decode cX5_game 30 = .ok (.bipush (-5), 2) := by decide +kernel
theorem dX5_game_32 : decode cX5_game 32 = .ok (.invokevirtual 89, 3) := by decide +kernel
theorem dX5_game_35 : decode cX5_game 35 = .ok (.invokestatic 320, 3) := by decide +kernel
theorem dX5_game_38 : decode cX5_game 38 = .ok (.ireturn, 1) := by decide +kernel
theorem dX5_game_39 : decode cX5_game 39 = .ok (.aload_n 0, 1) := by decide +kernel
theorem dX5_game_40 : decode cX5_game 40 = .ok (.getfield 296, 3) := by decide +kernel
theorem dX5_game_43 : decode cX5_game 43 = .ok (.aload_n 0, 1) := by decide +kernel
theorem dX5_game_44 : decode cX5_game 44 = .ok (.getfield 299, 3) := by decide +kernel
theorem dX5_game_47 : decode cX5_game 47 = .ok (.isub, 1) := by decide +kernel
theorem dX5_game_48 : decode cX5_game 48 = .ok (.istore_n 2, 1) := by decide +kernel
theorem dX5_game_49 : decode cX5_game 49 = .ok (.iconst 0, 1) := by decide +kernel
theorem dX5_game_50 : decode cX5_game 50 = .ok (.istore_n 3, 1) := by decide +kernel
theorem dX5_game_51 : decode cX5_game 51 = .ok (.iload_n 3, 1) := by decide +kernel
theorem dX5_game_52 : decode cX5_game 52 = .ok (.iload_n 1, 1) := by decide +kernel
theorem dX5_game_53 : decode cX5_game 53 = .ok (.if_icmp .ge 48, 3) := by decide +kernel
theorem dX5_game_56 : decode cX5_game 56 = .ok (.aload_n 0, 1) := by decide +kernel
theorem dX5_game_57 : decode cX5_game 57 = .ok (.aload_n 0, 1) := by decide +kernel
theorem dX5_game_58 : decode cX5_game 58 = .ok (.iconst 3, 1) := by decide +kernel
theorem dX5_game_59 : decode cX5_game 59 = .ok (.invokevirtual 293, 3) := by decide +kernel
theorem dX5_game_62 : decode cX5_game 62 = .ok (.putfield 52, 3) := by decide +kernel
theorem dX5_game_65 : decode cX5_game 65 = .ok (.aload_n 0, 1) := by decide +kernel
theorem dX5_game_66 : decode cX5_game 66 = .ok (.aload_n 0, 1) := by decide +kernel
theorem dX5_game_67 : decode cX5_game 67 = .ok (.invokevirtual 374, 3) := by decide +kernel
theorem dX5_game_70 : decode cX5_game 70 = .ok (.invokevirtual 323, 3) := by decide +kernel
theorem dX5_game_73 : decode cX5_game 73 = .ok (.pop, 1) := by decide +kernel
theorem dX5_game_74 : decode cX5_game 74 = .ok (.iconst 0, 1) := by decide +kernel
theorem dX5_game_75 : decode cX5_game 75 = .ok (.istore 4, 2) := by decide +kernel
theorem dX5_game_77 : decode cX5_game 77 = .ok (.iload 4, 2) := by decide +kernel
theorem dX5_game_79 : decode cX5_game 79 = .ok (.bipush 20, 2) := by decide +kernel
theorem dX5_game_81 : decode cX5_game 81 = .ok (.if_icmp .ge 14, 3) := by decide +kernel
theorem dX5_game_84 : decode cX5_game 84 = .ok (.aload_n 0, 1) := by decide +kernel
theorem dX5_game_85 : decode cX5_game 85 = .ok (.invokevirtual 230, 3) := by decide +kernel
theorem dX5_game_88 : decode cX5_game 88 = .ok (.pop, 1) := by decide +kernel
theorem dX5_game_89 : decode cX5_game 89 = .ok (.iinc 4 1, 3) := by decide +kernel
theorem dX5_game_92 : decode cX5_game 92 = .ok (.goto (-15), 3) := by decide +kernel
theorem dX5_game_95 : decode cX5_game 95 = .ok (.iinc 3 1, 3) := by decide +kernel
theorem dX5_game_98 : decode cX5_game 98 = .ok (.goto (-47), 3) := by decide +kernel
theorem dX5_game_101 : decode cX5_game 101 = .ok (.aload_n 0, 1) := by decide +kernel
theorem dX5_game_102 : decode cX5_game 102 = .ok (.getfield 296, 3) := by decide +kernel
theorem dX5_game_105 : decode cX5_game 105 = .ok (.aload_n 0, 1) := by decide +kernel
theorem dX5_game_106 : decode cX5_game 106 = .ok (.getfield 299, 3) := by decide +kernel
theorem dX5_game_109 : decode cX5_game 109 = .ok (.isub, 1) := by decide +kernel
theorem dX5_game_110 : decode cX5_game 110 = .ok (.iload_n 2, 1) := by decide +kernel
theorem dX5_game_111 : decode cX5_game 111 = .ok (.isub, 1) := by decide +kernel
theorem dX5_game_112 : decode cX5_game 112 = .ok (.ireturn, 1) := by decide +kernel
theorem dX5_pause_0 : decode cX5_pause 0 = .ok (.iload_n 1, 1) := by decide +kernel
theorem dX5_pause_1 : decode cX5_pause 1 = .ok (.i2l, 1) := by decide +kernel
theorem dX5_pause_2 : decode cX5_pause 2 = .ok (.lconst 1, 1) := by decide +kernel
theorem dX5_pause_3 : decode cX5_pause 3 = .ok (.ldc2_w 136, 3) := by decide +kernel
theorem dX5_pause_6 : decode cX5_pause 6 = .ok (.invokestatic 77, 3) := by decide +kernel
theorem dX5_pause_9 : decode cX5_pause 9 = .ok (.ifCond .ne 10, 3) := by decide +kernel
theorem dX5_pause_12 : decode cX5_pause 12 = .ok (.aload_n 0, 1) := by decide +kernel
theorem dX5_pause_13 : decode cX5_pause 13 = .ok (.bipush (-2), 2) := by decide +kernel
theorem dX5_pause_15 : decode cX5_pause 15 = .ok (.invokevirtual 89, 3) := by decide +kernel
theorem dX5_pause_18 : decode cX5_pause 18 = .ok (.ireturn, 1) := by decide +kernel
theorem dX5_pause_19 : decode cX5_pause 19 = .ok (.iconst 0, 1) := by decide +kernel
theorem dX5_pause_20 : decode cX5_pause 20 = .ok (.istore_n 2, 1) := by decide +kernel
theorem dX5_pause_21 : decode cX5_pause 21 = .ok (.iconst 0, 1) := by decide +kernel
theorem dX5_pause_22 : decode cX5_pause 22 = .ok (.istore_n 3, 1) := by decide +kernel
theorem dX5_pause_23 : decode cX5_pause 23 = .ok (.iload_n 3, 1) := by decide +kernel
theorem dX5_pause_24 : decode cX5_pause 24 = .ok (.aload_n 0, 1) := by decide +kernel
theorem dX5_pause_25 : decode cX5_pause 25 = .ok (.getfield 74, 3) := by decide +kernel
theorem dX5_pause_28 : decode cX5_pause 28 = .ok (.if_icmp .ge 54, 3) := by decide +kernel
theorem dX5_pause_31 : decode cX5_pause 31 = .ok (.aload_n 0, 1) := by decide +kernel
theorem dX5_pause_32 : decode cX5_pause 32 = .ok (.getfield 46, 3) := by decide +kernel
theorem dX5_pause_35 : decode cX5_pause 35 = .ok (.iload_n 3, 1) := by decide +kernel
theorem dX5_pause_36 : decode cX5_pause 36 = .ok (.aload_n 0, 1) := by decide +kernel
theorem dX5_pause_37 : decode cX5_pause 37 = .ok (.getfield 46, 3) := by decide +kernel
theorem dX5_pause_40 : decode cX5_pause 40 = .ok (.iload_n 3, 1) := by decide +kernel
theorem dX5_pause_41 : decode cX5_pause 41 = .ok (.iaload, 1) := by decide +kernel
theorem dX5_pause_42 : decode cX5_pause 42 = .ok (.iload_n 1, 1) := by decide +kernel
theorem dX5_pause_43 : decode cX5_pause 43 = .ok (.if_icmp .le 14, 3) := by decide +kernel
theorem dX5_pause_46 : decode cX5_pause 46 = .ok (.aload_n 0, 1) := by decide +kernel
theorem dX5_pause_47 : decode cX5_pause 47 = .ok (.getfield 46, 3) := by decide +kernel
theorem dX5_pause_50 : decode cX5_pause 50 = .ok (.iload_n 3, 1) := by decide +kernel
theorem dX5_pause_51 : decode cX5_pause 51 = .ok (.iaload, 1) := by decide +kernel
theorem dX5_pause_52 : decode cX5_pause 52 = .ok (.iload_n 1, 1) := by decide +kernel
theorem dX5_pause_53 : decode cX5_pause 53 = .ok (.isub, 1) := by decide +kernel
theorem dX5_pause_54 : decode cX5_pause 54 = .ok (.goto 4, 3) := by decide +kernel
theorem dX5_pause_57 : decode cX5_pause 57 = .ok (.iconst 0, 1) := by decide +kernel
theorem dX5_pause_58 : decode cX5_pause 58 = .ok (.iastore, 1) := by decide +kernel
theorem dX5_pause_59 : decode cX5_pause 59 = .ok (.iload_n 2, 1) := by decide +kernel
theorem dX5_pause_60 : decode cX5_pause 60 = .ok (.aload_n 0, 1) := by decide +kernel
theorem dX5_pause_61 : decode cX5_pause 61 = .ok (.getfield 46, 3) := by decide +kernel
theorem dX5_pause_64 : decode cX5_pause 64 = .ok (.iload_n 3, 1) := by decide +kernel
theorem dX5_pause_65 : decode cX5_pause 65 = .ok (.iaload, 1) := by decide +kernel
theorem dX5_pause_66 : decode cX5_pause 66 = .ok (.ifCond .le 7, 3) := by decide +kernel
theorem dX5_pause_69 : decode cX5_pause 69 = .ok (.iconst 1, 1) := by decide +kernel
theorem dX5_pause_70 : decode cX5_pause 70 = .ok (.goto 4, 3) := by decide +kernel
theorem dX5_pause_73 : decode cX5_pause 73 = .ok (.iconst 0, 1) := by decide +kernel
theorem dX5_pause_74 : decode cX5_pause 74 = .ok (.iadd, 1) := by decide +kernel
theorem dX5_pause_75 : decode cX5_pause 75 = .ok (.istore_n 2, 1) := by decide +kernel
theorem dX5_pause_76 : decode cX5_pause 76 = .ok (.iinc 3 1, 3) := by decide +kernel
theorem dX5_pause_79 : decode cX5_pause 79 = .ok (.goto (-56), 3) := by decide +kernel
theorem dX5_pause_82 : decode cX5_pause 82 = .ok (.iload_n 2, 1) := by decide +kernel
theorem dX5_pause_83 : decode cX5_pause 83 = .ok (.ireturn, 1) := by decide +kernel
theorem dX5_seed_0 : decode cX5_seed 0 = .ok (.aload_n 0, 1) := by decide +kernel
theorem dX5_seed_1 : decode cX5_seed 1 = .ok (.getfield 62, 3) := by decide +kernel
theorem dX5_seed_4 : decode cX5_seed 4 = .ok (.istore_n 2, 1) := by decide +kernel
theorem dX5_seed_5 : decode cX5_seed 5 = .ok (.aload_n 0, 1) := by decide +kernel
theorem dX5_seed_6 : decode cX5_seed 6 = .ok (.iload_n 1, 1) := by decide +kernel
theorem dX5_seed_7 : decode cX5_seed 7 = .ok (.putfield 62, 3) := by decide +kernel
theorem dX5_seed_10 : decode cX5_seed 10 = .ok (.iload_n 2, 1) := by decide +kernel
theorem dX5_seed_11 : decode cX5_seed 11 = .ok (.ireturn, 1) := by decide +kernel
theorem dX5_copied_0 : decode cX5_copied 0 = .ok (.iconst 0, 1) := by decide +kernel
theorem dX5_copied_1 : decode cX5_copied 1 = .ok (.istore_n 2, 1) := by decide +kernel
theorem dX5_copied_2 : decode cX5_copied 2 = .ok (.iload_n 2, 1) := by decide +kernel
theorem dX5_copied_3 : decode cX5_copied 3 = .ok (.aload_n 0, 1) := by decide +kernel
theorem dX5_copied_4 : decode cX5_copied 4 = .ok (.arraylength, 1) := by decide +kernel
theorem dX5_copied_5 : decode cX5_copied 5 = .ok (.if_icmp .ge 15, 3) := by decide +kernel
theorem dX5_copied_8 : decode cX5_copied 8 = .ok (.aload_n 1, 1) := by decide +kernel
theorem dX5_copied_9 : decode cX5_copied 9 = .ok (.iload_n 2, 1) := by decide +kernel
theorem dX5_copied_10 : decode cX5_copied 10 = .ok (.aload_n 0, 1) := by decide +kernel
theorem dX5_copied_11 : decode cX5_copied 11 = .ok (.iload_n 2, 1) := by decide +kernel
theorem dX5_copied_12 : decode cX5_copied 12 = .ok (.iaload, 1) := by decide +kernel
theorem dX5_copied_13 : decode cX5_copied 13 = .ok (.iastore, 1) := by decide +kernel
theorem dX5_copied_14 : decode cX5_copied 14 = .ok (.iinc 2 1, 3) := by decide +kernel
theorem dX5_copied_17 : decode cX5_copied 17 = .ok (.goto (-15), 3) := by decide +kernel
theorem dX5_copied_20 : decode cX5_copied 20 = .ok (.return_, 1) := by decide +kernel
theorem dX5_takeFrom_0 : decode cX5_takeFrom 0 = .ok (.aload_n 0, 1) := by decide +kernel
theorem dX5_takeFrom_1 : decode cX5_takeFrom 1 = .ok (.aload_n 1, 1) := by decide +kernel
theorem dX5_takeFrom_2 : decode cX5_takeFrom 2 = .ok (.getfield 74, 3) := by decide +kernel
theorem dX5_takeFrom_5 : decode cX5_takeFrom 5 = .ok (.putfield 74, 3) := by decide +kernel
theorem dX5_takeFrom_8 : decode cX5_takeFrom 8 = .ok (.aload_n 1, 1) := by decide +kernel
theorem dX5_takeFrom_9 : decode cX5_takeFrom 9 = .ok (.getfield 37, 3) := by decide +kernel
theorem dX5_takeFrom_12 : decode cX5_takeFrom 12 = .ok (.aload_n 0, 1) := by decide +kernel
theorem dX5_takeFrom_13 : decode cX5_takeFrom 13 = .ok (.getfield 37, 3) := by decide +kernel
theorem dX5_takeFrom_16 : decode cX5_takeFrom 16 = .ok (.invokestatic 352, 3) := by decide +kernel
theorem dX5_takeFrom_19 : decode cX5_takeFrom 19 = .ok (.aload_n 1, 1) := by decide +kernel
theorem dX5_takeFrom_20 : decode cX5_takeFrom 20 = .ok (.getfield 40, 3) := by decide +kernel
theorem dX5_takeFrom_23 : decode cX5_takeFrom 23 = .ok (.aload_n 0, 1) := by decide +kernel
theorem dX5_takeFrom_24 : decode cX5_takeFrom 24 = .ok (.getfield 40, 3) := by decide +kernel
theorem dX5_takeFrom_27 : decode cX5_takeFrom 27 = .ok (.invokestatic 352, 3) := by decide +kernel
theorem dX5_takeFrom_30 : decode cX5_takeFrom 30 = .ok (.aload_n 1, 1) := by decide +kernel
theorem dX5_takeFrom_31 : decode cX5_takeFrom 31 = .ok (.getfield 43, 3) := by decide +kernel
theorem dX5_takeFrom_34 : decode cX5_takeFrom 34 = .ok (.aload_n 0, 1) := by decide +kernel
theorem dX5_takeFrom_35 : decode cX5_takeFrom 35 = .ok (.getfield 43, 3) := by decide +kernel
theorem dX5_takeFrom_38 : decode cX5_takeFrom 38 = .ok (.invokestatic 352, 3) := by decide +kernel
theorem dX5_takeFrom_41 : decode cX5_takeFrom 41 = .ok (.aload_n 1, 1) := by decide +kernel
theorem dX5_takeFrom_42 : decode cX5_takeFrom 42 = .ok (.getfield 46, 3) := by decide +kernel
theorem dX5_takeFrom_45 : decode cX5_takeFrom 45 = .ok (.aload_n 0, 1) := by decide +kernel
theorem dX5_takeFrom_46 : decode cX5_takeFrom 46 = .ok (.getfield 46, 3) := by decide +kernel
theorem dX5_takeFrom_49 : decode cX5_takeFrom 49 = .ok (.invokestatic 352, 3) := by decide +kernel
theorem dX5_takeFrom_52 : decode cX5_takeFrom 52 = .ok (.aload_n 1, 1) := by decide +kernel
theorem dX5_takeFrom_53 : decode cX5_takeFrom 53 = .ok (.getfield 49, 3) := by decide +kernel
theorem dX5_takeFrom_56 : decode cX5_takeFrom 56 = .ok (.aload_n 0, 1) := by decide +kernel
theorem dX5_takeFrom_57 : decode cX5_takeFrom 57 = .ok (.getfield 49, 3) := by decide +kernel
theorem dX5_takeFrom_60 : decode cX5_takeFrom 60 = .ok (.invokestatic 352, 3) := by decide +kernel
theorem dX5_takeFrom_63 : decode cX5_takeFrom 63 = .ok (.aload_n 0, 1) := by decide +kernel
theorem dX5_takeFrom_64 : decode cX5_takeFrom 64 = .ok (.aload_n 1, 1) := by decide +kernel
theorem dX5_takeFrom_65 : decode cX5_takeFrom 65 = .ok (.getfield 116, 3) := by decide +kernel
theorem dX5_takeFrom_68 : decode cX5_takeFrom 68 = .ok (.putfield 116, 3) := by decide +kernel
theorem dX5_takeFrom_71 : decode cX5_takeFrom 71 = .ok (.aload_n 0, 1) := by decide +kernel
theorem dX5_takeFrom_72 : decode cX5_takeFrom 72 = .ok (.aload_n 1, 1) := by decide +kernel
theorem dX5_takeFrom_73 : decode cX5_takeFrom 73 = .ok (.getfield 255, 3) := by decide +kernel
theorem dX5_takeFrom_76 : decode cX5_takeFrom 76 = .ok (.putfield 255, 3) := by decide +kernel
theorem dX5_takeFrom_79 : decode cX5_takeFrom 79 = .ok (.aload_n 0, 1) := by decide +kernel
theorem dX5_takeFrom_80 : decode cX5_takeFrom 80 = .ok (.aload_n 1, 1) := by decide +kernel
theorem dX5_takeFrom_81 : decode cX5_takeFrom 81 = .ok (.getfield 265, 3) := by decide +kernel
theorem dX5_takeFrom_84 : decode cX5_takeFrom 84 = .ok (.putfield 265, 3) := by decide +kernel
theorem dX5_takeFrom_87 : decode cX5_takeFrom 87 = .ok (.aload_n 0, 1) := by decide +kernel
theorem dX5_takeFrom_88 : decode cX5_takeFrom 88 = .ok (.aload_n 1, 1) := by decide +kernel
theorem dX5_takeFrom_89 : decode cX5_takeFrom 89 = .ok (.getfield 52, 3) := by decide +kernel
theorem dX5_takeFrom_92 : decode cX5_takeFrom 92 = .ok (.putfield 52, 3) := by decide +kernel
theorem dX5_takeFrom_95 : decode cX5_takeFrom 95 = .ok (.aload_n 0, 1) := by decide +kernel
theorem dX5_takeFrom_96 : decode cX5_takeFrom 96 = .ok (.aload_n 1, 1) := by decide +kernel
theorem dX5_takeFrom_97 : decode cX5_takeFrom 97 = .ok (.getfield 146, 3) := by decide +kernel
theorem dX5_takeFrom_100 : decode cX5_takeFrom 100 = .ok (.putfield 146, 3) := by decide +kernel
theorem dX5_takeFrom_103 : decode cX5_takeFrom 103 = .ok (.aload_n 0, 1) := by decide +kernel
theorem dX5_takeFrom_104 : decode cX5_takeFrom 104 = .ok (.aload_n 1, 1) := by decide +kernel
theorem dX5_takeFrom_105 : decode cX5_takeFrom 105 = .ok (.getfield 56, 3) := by decide +kernel
theorem dX5_takeFrom_108 : decode cX5_takeFrom 108 = .ok (.putfield 56, 3) := by decide +kernel
theorem dX5_takeFrom_111 : decode cX5_takeFrom 111 = .ok (.aload_n 0, 1) := by decide +kernel
theorem dX5_takeFrom_112 : decode cX5_takeFrom 112 = .ok (.aload_n 1, 1) := by decide +kernel
theorem dX5_takeFrom_113 : decode cX5_takeFrom 113 = .ok (.getfield 59, 3) := by decide +kernel
theorem dX5_takeFrom_116 : decode cX5_takeFrom 116 = .ok (.putfield 59, 3) := by decide +kernel
theorem dX5_takeFrom_119 : decode cX5_takeFrom 119 = .ok (.aload_n 0, 1) := by decide +kernel
theorem dX5_takeFrom_120 : decode cX5_takeFrom 120 = .ok (.aload_n 1, 1) := by decide +kernel
theorem dX5_takeFrom_121 : decode cX5_takeFrom 121 = .ok (.getfield 286, 3) := by decide +kernel
theorem dX5_takeFrom_124 : decode cX5_takeFrom 124 = .ok (.putfield 286, 3) := by decide +kernel
theorem dX5_takeFrom_127 : decode cX5_takeFrom 127 = .ok (.aload_n 0, 1) := by decide +kernel
theorem dX5_takeFrom_128 : decode cX5_takeFrom 128 = .ok (.aload_n 1, 1) := by decide +kernel
theorem dX5_takeFrom_129 : decode cX5_takeFrom 129 = .ok (.getfield 289, 3) := by decide +kernel
theorem dX5_takeFrom_132 : decode cX5_takeFrom 132 = .ok (.putfield 289, 3) := by decide +kernel
theorem dX5_takeFrom_135 : decode cX5_takeFrom 135 = .ok (.aload_n 0, 1) := by decide +kernel
theorem dX5_takeFrom_136 : decode cX5_takeFrom 136 = .ok (.aload_n 1, 1) := by decide +kernel
theorem dX5_takeFrom_137 : decode cX5_takeFrom 137 = .ok (.getfield 296, 3) := by decide +kernel
theorem dX5_takeFrom_140 : decode cX5_takeFrom 140 = .ok (.putfield 296, 3) := by decide +kernel
theorem dX5_takeFrom_143 : decode cX5_takeFrom 143 = .ok (.aload_n 0, 1) := by decide +kernel
theorem dX5_takeFrom_144 : decode cX5_takeFrom 144 = .ok (.aload_n 1, 1) := by decide +kernel
theorem dX5_takeFrom_145 : decode cX5_takeFrom 145 = .ok (.getfield 299, 3) := by decide +kernel
theorem dX5_takeFrom_148 : decode cX5_takeFrom 148 = .ok (.putfield 299, 3) := by decide +kernel
theorem dX5_takeFrom_151 : decode cX5_takeFrom 151 = .ok (.aload_n 0, 1) := by decide +kernel
theorem dX5_takeFrom_152 : decode cX5_takeFrom 152 = .ok (.aload_n 1, 1) := by decide +kernel
theorem dX5_takeFrom_153 : decode cX5_takeFrom 153 = .ok (.getfield 62, 3) := by decide +kernel
theorem dX5_takeFrom_156 : decode cX5_takeFrom 156 = .ok (.putfield 62, 3) := by decide +kernel
theorem dX5_takeFrom_159 : decode cX5_takeFrom 159 = .ok (.return_, 1) := by decide +kernel
theorem dX5_image_0 : decode cX5_image 0 = .ok (.aload_n 0, 1) := by decide +kernel
theorem dX5_image_1 : decode cX5_image 1 = .ok (.getfield 385, 3) := by decide +kernel
theorem dX5_image_4 : decode cX5_image 4 = .ok (.ifnonnull 14, 3) := by decide +kernel
theorem dX5_image_7 : decode cX5_image 7 = .ok (.aload_n 0, 1) := by decide +kernel
theorem dX5_image_8 : decode cX5_image 8 = .ok (.new 8, 3) := by decide +kernel
theorem dX5_image_11 : decode cX5_image 11 = .ok (.dup, 1) := by decide +kernel
theorem dX5_image_12 : decode cX5_image 12 = .ok (.invokespecial 243, 3) := by decide +kernel
theorem dX5_image_15 : decode cX5_image 15 = .ok (.putfield 385, 3) := by decide +kernel
theorem dX5_image_18 : decode cX5_image 18 = .ok (.aload_n 0, 1) := by decide +kernel
theorem dX5_image_19 : decode cX5_image 19 = .ok (.getfield 385, 3) := by decide +kernel
theorem dX5_image_22 : decode cX5_image 22 = .ok (.aload_n 0, 1) := by decide +kernel
theorem dX5_image_23 : decode cX5_image 23 = .ok (.invokevirtual 244, 3) := by decide +kernel
theorem dX5_image_26 : decode cX5_image 26 = .ok (.iconst 1, 1) := by decide +kernel
theorem dX5_image_27 : decode cX5_image 27 = .ok (.ireturn, 1) := by decide +kernel
theorem dX5_back_0 : decode cX5_back 0 = .ok (.aload_n 0, 1) := by decide +kernel
theorem dX5_back_1 : decode cX5_back 1 = .ok (.getfield 385, 3) := by decide +kernel
theorem dX5_back_4 : decode cX5_back 4 = .ok (.ifnonnull 10, 3) := by decide +kernel
theorem dX5_back_7 : decode cX5_back 7 = .ok (.aload_n 0, 1) := by decide +kernel
theorem dX5_back_8 : decode cX5_back 8 = .ok (.bipush (-5), 2) := by decide +kernel
theorem dX5_back_10 : decode cX5_back 10 = .ok (.invokevirtual 89, 3) := by decide +kernel
theorem dX5_back_13 : decode cX5_back 13 = .ok (.ireturn, 1) := by decide +kernel
theorem dX5_back_14 : decode cX5_back 14 = .ok (.aload_n 0, 1) := by decide +kernel
theorem dX5_back_15 : decode cX5_back 15 = .ok (.aload_n 0, 1) := by decide +kernel
theorem dX5_back_16 : decode cX5_back 16 = .ok (.getfield 385, 3) := by decide +kernel
theorem dX5_back_19 : decode cX5_back 19 = .ok (.invokevirtual 244, 3) := by decide +kernel
theorem dX5_back_22 : decode cX5_back 22 = .ok (.iconst 0, 1) := by decide +kernel
theorem dX5_back_23 : decode cX5_back 23 = .ok (.istore_n 1, 1) := by decide +kernel
theorem dX5_back_24 : decode cX5_back 24 = .ok (.iload_n 1, 1) := by decide +kernel
theorem dX5_back_25 : decode cX5_back 25 = .ok (.bipush 8, 2) := by decide +kernel
theorem dX5_back_27 : decode cX5_back 27 = .ok (.if_icmp .ge 39, 3) := by decide +kernel
theorem dX5_back_30 : decode cX5_back 30 = .ok (.aload_n 0, 1) := by decide +kernel
theorem dX5_back_31 : decode cX5_back 31 = .ok (.getfield 7, 3) := by decide +kernel
theorem dX5_back_34 : decode cX5_back 34 = .ok (.iload_n 1, 1) := by decide +kernel
theorem dX5_back_35 : decode cX5_back 35 = .ok (.iaload, 1) := by decide +kernel
theorem dX5_back_36 : decode cX5_back 36 = .ok (.iconst 2, 1) := by decide +kernel
theorem dX5_back_37 : decode cX5_back 37 = .ok (.if_icmp .ne 23, 3) := by decide +kernel
theorem dX5_back_40 : decode cX5_back 40 = .ok (.aload_n 0, 1) := by decide +kernel
theorem dX5_back_41 : decode cX5_back 41 = .ok (.getfield 28, 3) := by decide +kernel
theorem dX5_back_44 : decode cX5_back 44 = .ok (.iload_n 1, 1) := by decide +kernel
theorem dX5_back_45 : decode cX5_back 45 = .ok (.iaload, 1) := by decide +kernel
theorem dX5_back_46 : decode cX5_back 46 = .ok (.aload_n 0, 1) := by decide +kernel
theorem dX5_back_47 : decode cX5_back 47 = .ok (.getfield 74, 3) := by decide +kernel
theorem dX5_back_50 : decode cX5_back 50 = .ok (.if_icmp .lt 10, 3) := by decide +kernel
theorem dX5_back_53 : decode cX5_back 53 = .ok (.aload_n 0, 1) := by decide +kernel
theorem dX5_back_54 : decode cX5_back 54 = .ok (.getfield 7, 3) := by decide +kernel
theorem dX5_back_57 : decode cX5_back 57 = .ok (.iload_n 1, 1) := by decide +kernel
theorem dX5_back_58 : decode cX5_back 58 = .ok (.iconst 0, 1) := by decide +kernel
theorem dX5_back_59 : decode cX5_back 59 = .ok (.iastore, 1) := by decide +kernel
theorem dX5_back_60 : decode cX5_back 60 = .ok (.iinc 1 1, 3) := by decide +kernel
theorem dX5_back_63 : decode cX5_back 63 = .ok (.goto (-39), 3) := by decide +kernel
theorem dX5_back_66 : decode cX5_back 66 = .ok (.iconst 1, 1) := by decide +kernel
theorem dX5_back_67 : decode cX5_back 67 = .ok (.ireturn, 1) := by decide +kernel
theorem dX5_status_0 : decode cX5_status 0 = .ok (.iconst 0, 1) := by decide +kernel
theorem dX5_status_1 : decode cX5_status 1 = .ok (.istore_n 2, 1) := by decide +kernel
theorem dX5_status_2 : decode cX5_status 2 = .ok (.iload_n 1, 1) := by decide +kernel
theorem dX5_status_3 : decode cX5_status 3 = .ok (.tableswitch 207 0 19 #[93, 98, 103, 108, 124, 129, 134, 139, 144, 149, 154, 159, 207, 207, 207, 207, 207, 164, 169, 174], 93) := by decide +kernel
theorem dX5_status_96 : decode cX5_status 96 = .ok (.aload_n 0, 1) := by decide +kernel
theorem dX5_status_97 : decode cX5_status 97 = .ok (.getfield 74, 3) := by decide +kernel
theorem dX5_status_100 : decode cX5_status 100 = .ok (.ireturn, 1) := by decide +kernel
theorem dX5_status_101 : decode cX5_status 101 = .ok (.aload_n 0, 1) := by decide +kernel
theorem dX5_status_102 : decode cX5_status 102 = .ok (.getfield 116, 3) := by decide +kernel
theorem dX5_status_105 : decode cX5_status 105 = .ok (.ireturn, 1) := by decide +kernel
theorem dX5_status_106 : decode cX5_status 106 = .ok (.aload_n 0, 1) := by decide +kernel
theorem dX5_status_107 : decode cX5_status 107 = .ok (.getfield 255, 3) := by decide +kernel
theorem dX5_status_110 : decode cX5_status 110 = .ok (.ireturn, 1) := by decide +kernel
theorem dX5_status_111 : decode cX5_status 111 = .ok (.aload_n 0, 1) := by decide +kernel
theorem dX5_status_112 : decode cX5_status 112 = .ok (.getfield 255, 3) := by decide +kernel
theorem dX5_status_115 : decode cX5_status 115 = .ok (.ifCond .ne 7, 3) := by decide +kernel
theorem dX5_status_118 : decode cX5_status 118 = .ok (.iconst 0, 1) := by decide +kernel
theorem dX5_status_119 : decode cX5_status 119 = .ok (.goto 7, 3) := by decide +kernel
theorem dX5_status_122 : decode cX5_status 122 = .ok (.aload_n 0, 1) := by decide +kernel
theorem dX5_status_123 : decode cX5_status 123 = .ok (.getfield 265, 3) := by decide +kernel
theorem dX5_status_126 : decode cX5_status 126 = .ok (.ireturn, 1) := by decide +kernel
theorem dX5_status_127 : decode cX5_status 127 = .ok (.aload_n 0, 1) := by decide +kernel
theorem dX5_status_128 : decode cX5_status 128 = .ok (.getfield 52, 3) := by decide +kernel
theorem dX5_status_131 : decode cX5_status 131 = .ok (.ireturn, 1) := by decide +kernel
theorem dX5_status_132 : decode cX5_status 132 = .ok (.aload_n 0, 1) := by decide +kernel
theorem dX5_status_133 : decode cX5_status 133 = .ok (.getfield 146, 3) := by decide +kernel
theorem dX5_status_136 : decode cX5_status 136 = .ok (.ireturn, 1) := by decide +kernel
theorem dX5_status_137 : decode cX5_status 137 = .ok (.aload_n 0, 1) := by decide +kernel
theorem dX5_status_138 : decode cX5_status 138 = .ok (.getfield 56, 3) := by decide +kernel
theorem dX5_status_141 : decode cX5_status 141 = .ok (.ireturn, 1) := by decide +kernel
theorem dX5_status_142 : decode cX5_status 142 = .ok (.aload_n 0, 1) := by decide +kernel
theorem dX5_status_143 : decode cX5_status 143 = .ok (.getfield 59, 3) := by decide +kernel
theorem dX5_status_146 : decode cX5_status 146 = .ok (.ireturn, 1) := by decide +kernel
theorem dX5_status_147 : decode cX5_status 147 = .ok (.aload_n 0, 1) := by decide +kernel
theorem dX5_status_148 : decode cX5_status 148 = .ok (.getfield 286, 3) := by decide +kernel
theorem dX5_status_151 : decode cX5_status 151 = .ok (.ireturn, 1) := by decide +kernel
theorem dX5_status_152 : decode cX5_status 152 = .ok (.aload_n 0, 1) := by decide +kernel
theorem dX5_status_153 : decode cX5_status 153 = .ok (.getfield 289, 3) := by decide +kernel
theorem dX5_status_156 : decode cX5_status 156 = .ok (.ireturn, 1) := by decide +kernel
theorem dX5_status_157 : decode cX5_status 157 = .ok (.aload_n 0, 1) := by decide +kernel
theorem dX5_status_158 : decode cX5_status 158 = .ok (.getfield 296, 3) := by decide +kernel
theorem dX5_status_161 : decode cX5_status 161 = .ok (.ireturn, 1) := by decide +kernel
theorem dX5_status_162 : decode cX5_status 162 = .ok (.aload_n 0, 1) := by decide +kernel
theorem dX5_status_163 : decode cX5_status 163 = .ok (.getfield 299, 3) := by decide +kernel
theorem dX5_status_166 : decode cX5_status 166 = .ok (.ireturn, 1) := by decide +kernel
theorem dX5_status_167 : decode cX5_status 167 = .ok (.aload_n 0, 1) := by decide +kernel
theorem dX5_status_168 : decode cX5_status 168 = .ok (.getfield 158, 3) := by decide +kernel
theorem dX5_status_171 : decode cX5_status 171 = .ok (.ireturn, 1) := by decide +kernel
theorem dX5_status_172 : decode cX5_status 172 = .ok (.aload_n 0, 1) := by decide +kernel
theorem dX5_status_173 : decode cX5_status 173 = .ok (.getfield 62, 3) := by decide +kernel
theorem dX5_status_176 : decode cX5_status 176 = .ok (.ireturn, 1) := by decide +kernel
theorem dX5_status_177 : decode cX5_status 177 = .ok (.iconst 0, 1) := by decide +kernel
theorem dX5_status_178 : decode cX5_status 178 = .ok (.istore_n 3, 1) := by decide +kernel
theorem dX5_status_179 : decode cX5_status 179 = .ok (.iload_n 3, 1) := by decide +kernel
theorem dX5_status_180 : decode cX5_status 180 = .ok (.bipush 8, 2) := by decide +kernel
theorem dX5_status_182 : decode cX5_status 182 = .ok (.if_icmp .ge 26, 3) := by decide +kernel
theorem dX5_status_185 : decode cX5_status 185 = .ok (.iload_n 2, 1) := by decide +kernel
theorem dX5_status_186 : decode cX5_status 186 = .ok (.aload_n 0, 1) := by decide +kernel
theorem dX5_status_187 : decode cX5_status 187 = .ok (.getfield 7, 3) := by decide +kernel
theorem dX5_status_190 : decode cX5_status 190 = .ok (.iload_n 3, 1) := by decide +kernel
theorem dX5_status_191 : decode cX5_status 191 = .ok (.iaload, 1) := by decide +kernel
theorem dX5_status_192 : decode cX5_status 192 = .ok (.ifCond .eq 7, 3) := by decide +kernel
theorem dX5_status_195 : decode cX5_status 195 = .ok (.iconst 1, 1) := by decide +kernel
theorem dX5_status_196 : decode cX5_status 196 = .ok (.goto 4, 3) := by decide +kernel
theorem dX5_status_199 : decode cX5_status 199 = .ok (.iconst 0, 1) := by decide +kernel
theorem dX5_status_200 : decode cX5_status 200 = .ok (.iadd, 1) := by decide +kernel
theorem dX5_status_201 : decode cX5_status 201 = .ok (.istore_n 2, 1) := by decide +kernel
theorem dX5_status_202 : decode cX5_status 202 = .ok (.iinc 3 1, 3) := by decide +kernel
theorem dX5_status_205 : decode cX5_status 205 = .ok (.goto (-26), 3) := by decide +kernel
theorem dX5_status_208 : decode cX5_status 208 = .ok (.iload_n 2, 1) := by decide +kernel
theorem dX5_status_209 : decode cX5_status 209 = .ok (.ireturn, 1) := by decide +kernel
theorem dX5_status_210 : decode cX5_status 210 = .ok (.iload_n 1, 1) := by decide +kernel
theorem dX5_status_211 : decode cX5_status 211 = .ok (.i2l, 1) := by decide +kernel
theorem dX5_status_212 : decode cX5_status 212 = .ok (.ldc2_w 388, 3) := by decide +kernel
theorem dX5_status_215 : decode cX5_status 215 = .ok (.ldc2_w 390, 3) := by decide +kernel
theorem dX5_status_218 : decode cX5_status 218 = .ok (.invokestatic 77, 3) := by decide +kernel
theorem dX5_status_221 : decode cX5_status 221 = .ok (.ifCond .eq 15, 3) := by decide +kernel
theorem dX5_status_224 : decode cX5_status 224 = .ok (.aload_n 0, 1) := by decide +kernel
theorem dX5_status_225 : decode cX5_status 225 = .ok (.getfield 34, 3) := by decide +kernel
theorem dX5_status_228 : decode cX5_status 228 = .ok (.iload_n 1, 1) := by decide +kernel
theorem dX5_status_229 : decode cX5_status 229 = .ok (.bipush 10, 2) := by decide +kernel
theorem dX5_status_231 : decode cX5_status 231 = .ok (.isub, 1) := by decide +kernel
theorem dX5_status_232 : decode cX5_status 232 = .ok (.iaload, 1) := by decide +kernel
theorem dX5_status_233 : decode cX5_status 233 = .ok (.goto 4, 3) := by decide +kernel
theorem dX5_status_236 : decode cX5_status 236 = .ok (.iconst (-1), 1) := by decide +kernel
theorem dX5_status_237 : decode cX5_status 237 = .ok (.ireturn, 1) := by decide +kernel
theorem dL_law_0 : decode cL_law 0 = .ok (.new 7, 3) := by decide +kernel
theorem dL_law_3 : decode cL_law 3 = .ok (.dup, 1) := by decide +kernel
theorem dL_law_4 : decode cL_law 4 = .ok (.invokespecial 9, 3) := by decide +kernel
theorem dL_law_7 : decode cL_law 7 = .ok (.astore_n 1, 1) := by decide +kernel
theorem dL_law_8 : decode cL_law 8 = .ok (.new 10, 3) := by decide +kernel
theorem dL_law_11 : decode cL_law 11 = .ok (.dup, 1) := by decide +kernel
theorem dL_law_12 : decode cL_law 12 = .ok (.invokespecial 12, 3) := by decide +kernel
theorem dL_law_15 : decode cL_law 15 = .ok (.astore_n 2, 1) := by decide +kernel
theorem dL_law_16 : decode cL_law 16 = .ok (.iconst 0, 1) := by decide +kernel
theorem dL_law_17 : decode cL_law 17 = .ok (.istore_n 3, 1) := by decide +kernel
theorem dL_law_18 : decode cL_law 18 = .ok (.iload_n 3, 1) := by decide +kernel
theorem dL_law_19 : decode cL_law 19 = .ok (.aload_n 0, 1) := by decide +kernel
theorem dL_law_20 : decode cL_law 20 = .ok (.arraylength, 1) := by decide +kernel
theorem dL_law_21 : decode cL_law 21 = .ok (.bipush 6, 2) := by decide +kernel
theorem dL_law_23 : decode cL_law 23 = .ok (.isub, 1) := by decide +kernel
theorem dL_law_24 : decode cL_law 24 = .ok (.if_icmp .gt 1664, 3) := by decide +kernel
theorem dL_law_27 : decode cL_law 27 = .ok (.aload_n 0, 1) := by decide +kernel
theorem dL_law_28 : decode cL_law 28 = .ok (.iload_n 3, 1) := by decide +kernel
theorem dL_law_29 : decode cL_law 29 = .ok (.iaload, 1) := by decide +kernel
theorem dL_law_30 : decode cL_law 30 = .ok (.bipush 63, 2) := by decide +kernel
theorem dL_law_32 : decode cL_law 32 = .ok (.iand, 1) := by decide +kernel
theorem dL_law_33 : decode cL_law 33 = .ok (.tableswitch 1649 0 48 #[211, 254, 327, 390, 424, 447, 480, 513, 556, 599, 632, 665, 688, 701, 714, 747, 780, 793, 816, 839, 872, 895, 918, 951, 974, 997, 1010, 1053, 1086, 1109, 1142, 1175, 1208, 1251, 1284, 1307, 1330, 1363, 1416, 1439, 1462, 1485, 1508, 1531, 1554, 1577, 1600, 1613, 1626], 211) := by decide +kernel
theorem dL_law_244 : decode cL_law 244 = .ok (.aload_n 1, 1) := by decide +kernel
theorem dL_law_245 : decode cL_law 245 = .ok (.aload_n 0, 1) := by decide +kernel
theorem dL_law_246 : decode cL_law 246 = .ok (.iload_n 3, 1) := by decide +kernel
theorem dL_law_247 : decode cL_law 247 = .ok (.iconst 1, 1) := by decide +kernel
theorem dL_law_248 : decode cL_law 248 = .ok (.iadd, 1) := by decide +kernel
theorem dL_law_249 : decode cL_law 249 = .ok (.iaload, 1) := by decide +kernel
theorem dL_law_250 : decode cL_law 250 = .ok (.aload_n 0, 1) := by decide +kernel
theorem dL_law_251 : decode cL_law 251 = .ok (.iload_n 3, 1) := by decide +kernel
theorem dL_law_252 : decode cL_law 252 = .ok (.iconst 2, 1) := by decide +kernel
theorem dL_law_253 : decode cL_law 253 = .ok (.iadd, 1) := by decide +kernel
theorem dL_law_254 : decode cL_law 254 = .ok (.iaload, 1) := by decide +kernel
theorem dL_law_255 : decode cL_law 255 = .ok (.aload_n 0, 1) := by decide +kernel
theorem dL_law_256 : decode cL_law 256 = .ok (.iload_n 3, 1) := by decide +kernel
theorem dL_law_257 : decode cL_law 257 = .ok (.iconst 3, 1) := by decide +kernel
theorem dL_law_258 : decode cL_law 258 = .ok (.iadd, 1) := by decide +kernel
theorem dL_law_259 : decode cL_law 259 = .ok (.iaload, 1) := by decide +kernel
theorem dL_law_260 : decode cL_law 260 = .ok (.invokevirtual 13, 3) := by decide +kernel
theorem dL_law_263 : decode cL_law 263 = .ok (.aload_n 2, 1) := by decide +kernel
theorem dL_law_264 : decode cL_law 264 = .ok (.aload_n 0, 1) := by decide +kernel
theorem dL_law_265 : decode cL_law 265 = .ok (.iload_n 3, 1) := by decide +kernel
theorem dL_law_266 : decode cL_law 266 = .ok (.iconst 1, 1) := by decide +kernel
theorem dL_law_267 : decode cL_law 267 = .ok (.iadd, 1) := by decide +kernel
theorem dL_law_268 : decode cL_law 268 = .ok (.iaload, 1) := by decide +kernel
theorem dL_law_269 : decode cL_law 269 = .ok (.aload_n 0, 1) := by decide +kernel
theorem dL_law_270 : decode cL_law 270 = .ok (.iload_n 3, 1) := by decide +kernel
theorem dL_law_271 : decode cL_law 271 = .ok (.iconst 2, 1) := by decide +kernel
theorem dL_law_272 : decode cL_law 272 = .ok (.iadd, 1) := by decide +kernel
theorem dL_law_273 : decode cL_law 273 = .ok (.iaload, 1) := by decide +kernel
theorem dL_law_274 : decode cL_law 274 = .ok (.aload_n 0, 1) := by decide +kernel
theorem dL_law_275 : decode cL_law 275 = .ok (.iload_n 3, 1) := by decide +kernel
theorem dL_law_276 : decode cL_law 276 = .ok (.iconst 3, 1) := by decide +kernel
theorem dL_law_277 : decode cL_law 277 = .ok (.iadd, 1) := by decide +kernel
theorem dL_law_278 : decode cL_law 278 = .ok (.iaload, 1) := by decide +kernel
theorem dL_law_279 : decode cL_law 279 = .ok (.invokevirtual 17, 3) := by decide +kernel
theorem dL_law_282 : decode cL_law 282 = .ok (.if_icmp .eq 1400, 3) := by decide +kernel
theorem dL_law_285 : decode cL_law 285 = .ok (.iconst 0, 1) := by decide +kernel
theorem dL_law_286 : decode cL_law 286 = .ok (.ireturn, 1) := by decide +kernel
theorem dL_law_287 : decode cL_law 287 = .ok (.aload_n 1, 1) := by decide +kernel
theorem dL_law_288 : decode cL_law 288 = .ok (.aload_n 0, 1) := by decide +kernel
theorem dL_law_289 : decode cL_law 289 = .ok (.iload_n 3, 1) := by decide +kernel
theorem dL_law_290 : decode cL_law 290 = .ok (.iconst 1, 1) := by decide +kernel
theorem dL_law_291 : decode cL_law 291 = .ok (.iadd, 1) := by decide +kernel
theorem dL_law_292 : decode cL_law 292 = .ok (.iaload, 1) := by decide +kernel
theorem dL_law_293 : decode cL_law 293 = .ok (.aload_n 0, 1) := by decide +kernel
theorem dL_law_294 : decode cL_law 294 = .ok (.iload_n 3, 1) := by decide +kernel
theorem dL_law_295 : decode cL_law 295 = .ok (.iconst 2, 1) := by decide +kernel
theorem dL_law_296 : decode cL_law 296 = .ok (.iadd, 1) := by decide +kernel
theorem dL_law_297 : decode cL_law 297 = .ok (.iaload, 1) := by decide +kernel
theorem dL_law_298 : decode cL_law 298 = .ok (.aload_n 0, 1) := by decide +kernel
theorem dL_law_299 : decode cL_law 299 = .ok (.iload_n 3, 1) := by decide +kernel
theorem dL_law_300 : decode cL_law 300 = .ok (.iconst 3, 1) := by decide +kernel
theorem dL_law_301 : decode cL_law 301 = .ok (.iadd, 1) := by decide +kernel
theorem dL_law_302 : decode cL_law 302 = .ok (.iaload, 1) := by decide +kernel
theorem dL_law_303 : decode cL_law 303 = .ok (.i2l, 1) := by decide +kernel
theorem dL_law_304 : decode cL_law 304 = .ok (.bipush 32, 2) := by decide +kernel
theorem dL_law_306 : decode cL_law 306 = .ok (.lshl, 1) := by decide +kernel
theorem dL_law_307 : decode cL_law 307 = .ok (.aload_n 0, 1) := by decide +kernel
theorem dL_law_308 : decode cL_law 308 = .ok (.iload_n 3, 1) := by decide +kernel
theorem dL_law_309 : decode cL_law 309 = .ok (.iconst 4, 1) := by decide +kernel
theorem dL_law_310 : decode cL_law 310 = .ok (.iadd, 1) := by decide +kernel
theorem dL_law_311 : decode cL_law 311 = .ok (.iaload, 1) := by decide +kernel
theorem dL_law_312 : decode cL_law 312 = .ok (.i2l, 1) := by decide +kernel
theorem dL_law_313 : decode cL_law 313 = .ok (.ldc2_w 18, 3) := by decide +kernel
theorem dL_law_316 : decode cL_law 316 = .ok (.land, 1) := by decide +kernel
theorem dL_law_317 : decode cL_law 317 = .ok (.lor, 1) := by decide +kernel
theorem dL_law_318 : decode cL_law 318 = .ok (.invokevirtual 20, 3) := by decide +kernel
theorem dL_law_321 : decode cL_law 321 = .ok (.aload_n 2, 1) := by decide +kernel
theorem dL_law_322 : decode cL_law 322 = .ok (.aload_n 0, 1) := by decide +kernel
theorem dL_law_323 : decode cL_law 323 = .ok (.iload_n 3, 1) := by decide +kernel
theorem dL_law_324 : decode cL_law 324 = .ok (.iconst 1, 1) := by decide +kernel
theorem dL_law_325 : decode cL_law 325 = .ok (.iadd, 1) := by decide +kernel
theorem dL_law_326 : decode cL_law 326 = .ok (.iaload, 1) := by decide +kernel
theorem dL_law_327 : decode cL_law 327 = .ok (.aload_n 0, 1) := by decide +kernel
theorem dL_law_328 : decode cL_law 328 = .ok (.iload_n 3, 1) := by decide +kernel
theorem dL_law_329 : decode cL_law 329 = .ok (.iconst 2, 1) := by decide +kernel
theorem dL_law_330 : decode cL_law 330 = .ok (.iadd, 1) := by decide +kernel
theorem dL_law_331 : decode cL_law 331 = .ok (.iaload, 1) := by decide +kernel
theorem dL_law_332 : decode cL_law 332 = .ok (.aload_n 0, 1) := by decide +kernel
theorem dL_law_333 : decode cL_law 333 = .ok (.iload_n 3, 1) := by decide +kernel
theorem dL_law_334 : decode cL_law 334 = .ok (.iconst 3, 1) := by decide +kernel
theorem dL_law_335 : decode cL_law 335 = .ok (.iadd, 1) := by decide +kernel
theorem dL_law_336 : decode cL_law 336 = .ok (.iaload, 1) := by decide +kernel
theorem dL_law_337 : decode cL_law 337 = .ok (.i2l, 1) := by decide +kernel
theorem dL_law_338 : decode cL_law 338 = .ok (.bipush 32, 2) := by decide +kernel
theorem dL_law_340 : decode cL_law 340 = .ok (.lshl, 1) := by decide +kernel
theorem dL_law_341 : decode cL_law 341 = .ok (.aload_n 0, 1) := by decide +kernel
theorem dL_law_342 : decode cL_law 342 = .ok (.iload_n 3, 1) := by decide +kernel
theorem dL_law_343 : decode cL_law 343 = .ok (.iconst 4, 1) := by decide +kernel
theorem dL_law_344 : decode cL_law 344 = .ok (.iadd, 1) := by decide +kernel
theorem dL_law_345 : decode cL_law 345 = .ok (.iaload, 1) := by decide +kernel
theorem dL_law_346 : decode cL_law 346 = .ok (.i2l, 1) := by decide +kernel
theorem dL_law_347 : decode cL_law 347 = .ok (.ldc2_w 18, 3) := by decide +kernel
theorem dL_law_350 : decode cL_law 350 = .ok (.land, 1) := by decide +kernel
theorem dL_law_351 : decode cL_law 351 = .ok (.lor, 1) := by decide +kernel
theorem dL_law_352 : decode cL_law 352 = .ok (.invokevirtual 24, 3) := by decide +kernel
theorem dL_law_355 : decode cL_law 355 = .ok (.if_icmp .eq 1327, 3) := by decide +kernel
theorem dL_law_358 : decode cL_law 358 = .ok (.iconst 0, 1) := by decide +kernel
theorem dL_law_359 : decode cL_law 359 = .ok (.ireturn, 1) := by decide +kernel
theorem dL_law_360 : decode cL_law 360 = .ok (.aload_n 1, 1) := by decide +kernel
theorem dL_law_361 : decode cL_law 361 = .ok (.aload_n 0, 1) := by decide +kernel
theorem dL_law_362 : decode cL_law 362 = .ok (.iload_n 3, 1) := by decide +kernel
theorem dL_law_363 : decode cL_law 363 = .ok (.iconst 1, 1) := by decide +kernel
theorem dL_law_364 : decode cL_law 364 = .ok (.iadd, 1) := by decide +kernel
theorem dL_law_365 : decode cL_law 365 = .ok (.iaload, 1) := by decide +kernel
theorem dL_law_366 : decode cL_law 366 = .ok (.aload_n 0, 1) := by decide +kernel
theorem dL_law_367 : decode cL_law 367 = .ok (.iload_n 3, 1) := by decide +kernel
theorem dL_law_368 : decode cL_law 368 = .ok (.iconst 2, 1) := by decide +kernel
theorem dL_law_369 : decode cL_law 369 = .ok (.iadd, 1) := by decide +kernel
theorem dL_law_370 : decode cL_law 370 = .ok (.iaload, 1) := by decide +kernel
theorem dL_law_371 : decode cL_law 371 = .ok (.aload_n 0, 1) := by decide +kernel
theorem dL_law_372 : decode cL_law 372 = .ok (.iload_n 3, 1) := by decide +kernel
theorem dL_law_373 : decode cL_law 373 = .ok (.iconst 3, 1) := by decide +kernel
theorem dL_law_374 : decode cL_law 374 = .ok (.iadd, 1) := by decide +kernel
theorem dL_law_375 : decode cL_law 375 = .ok (.iaload, 1) := by decide +kernel
theorem dL_law_376 : decode cL_law 376 = .ok (.aload_n 0, 1) := by decide +kernel
theorem dL_law_377 : decode cL_law 377 = .ok (.iload_n 3, 1) := by decide +kernel
theorem dL_law_378 : decode cL_law 378 = .ok (.iconst 4, 1) := by decide +kernel
theorem dL_law_379 : decode cL_law 379 = .ok (.iadd, 1) := by decide +kernel
theorem dL_law_380 : decode cL_law 380 = .ok (.iaload, 1) := by decide +kernel
theorem dL_law_381 : decode cL_law 381 = .ok (.aload_n 0, 1) := by decide +kernel
theorem dL_law_382 : decode cL_law 382 = .ok (.iload_n 3, 1) := by decide +kernel
theorem dL_law_383 : decode cL_law 383 = .ok (.iconst 5, 1) := by decide +kernel
theorem dL_law_384 : decode cL_law 384 = .ok (.iadd, 1) := by decide +kernel
theorem dL_law_385 : decode cL_law 385 = .ok (.iaload, 1) := by decide +kernel
theorem dL_law_386 : decode cL_law 386 = .ok (.invokevirtual 25, 3) := by decide +kernel
theorem dL_law_389 : decode cL_law 389 = .ok (.aload_n 2, 1) := by decide +kernel
theorem dL_law_390 : decode cL_law 390 = .ok (.aload_n 0, 1) := by decide +kernel
theorem dL_law_391 : decode cL_law 391 = .ok (.iload_n 3, 1) := by decide +kernel
theorem dL_law_392 : decode cL_law 392 = .ok (.iconst 1, 1) := by decide +kernel
theorem dL_law_393 : decode cL_law 393 = .ok (.iadd, 1) := by decide +kernel
theorem dL_law_394 : decode cL_law 394 = .ok (.iaload, 1) := by decide +kernel
theorem dL_law_395 : decode cL_law 395 = .ok (.aload_n 0, 1) := by decide +kernel
theorem dL_law_396 : decode cL_law 396 = .ok (.iload_n 3, 1) := by decide +kernel
theorem dL_law_397 : decode cL_law 397 = .ok (.iconst 2, 1) := by decide +kernel
theorem dL_law_398 : decode cL_law 398 = .ok (.iadd, 1) := by decide +kernel
theorem dL_law_399 : decode cL_law 399 = .ok (.iaload, 1) := by decide +kernel
theorem dL_law_400 : decode cL_law 400 = .ok (.aload_n 0, 1) := by decide +kernel
theorem dL_law_401 : decode cL_law 401 = .ok (.iload_n 3, 1) := by decide +kernel
theorem dL_law_402 : decode cL_law 402 = .ok (.iconst 3, 1) := by decide +kernel
theorem dL_law_403 : decode cL_law 403 = .ok (.iadd, 1) := by decide +kernel
theorem dL_law_404 : decode cL_law 404 = .ok (.iaload, 1) := by decide +kernel
theorem dL_law_405 : decode cL_law 405 = .ok (.aload_n 0, 1) := by decide +kernel
theorem dL_law_406 : decode cL_law 406 = .ok (.iload_n 3, 1) := by decide +kernel
theorem dL_law_407 : decode cL_law 407 = .ok (.iconst 4, 1) := by decide +kernel
theorem dL_law_408 : decode cL_law 408 = .ok (.iadd, 1) := by decide +kernel
theorem dL_law_409 : decode cL_law 409 = .ok (.iaload, 1) := by decide +kernel
theorem dL_law_410 : decode cL_law 410 = .ok (.aload_n 0, 1) := by decide +kernel
theorem dL_law_411 : decode cL_law 411 = .ok (.iload_n 3, 1) := by decide +kernel
theorem dL_law_412 : decode cL_law 412 = .ok (.iconst 5, 1) := by decide +kernel
theorem dL_law_413 : decode cL_law 413 = .ok (.iadd, 1) := by decide +kernel
theorem dL_law_414 : decode cL_law 414 = .ok (.iaload, 1) := by decide +kernel
theorem dL_law_415 : decode cL_law 415 = .ok (.invokevirtual 29, 3) := by decide +kernel
theorem dL_law_418 : decode cL_law 418 = .ok (.if_icmp .eq 1264, 3) := by decide +kernel
theorem dL_law_421 : decode cL_law 421 = .ok (.iconst 0, 1) := by decide +kernel
theorem dL_law_422 : decode cL_law 422 = .ok (.ireturn, 1) := by decide +kernel
theorem dL_law_423 : decode cL_law 423 = .ok (.aload_n 1, 1) := by decide +kernel
theorem dL_law_424 : decode cL_law 424 = .ok (.aload_n 0, 1) := by decide +kernel
theorem dL_law_425 : decode cL_law 425 = .ok (.iload_n 3, 1) := by decide +kernel
theorem dL_law_426 : decode cL_law 426 = .ok (.iconst 1, 1) := by decide +kernel
theorem dL_law_427 : decode cL_law 427 = .ok (.iadd, 1) := by decide +kernel
theorem dL_law_428 : decode cL_law 428 = .ok (.iaload, 1) := by decide +kernel
theorem dL_law_429 : decode cL_law 429 = .ok (.aload_n 0, 1) := by decide +kernel
theorem dL_law_430 : decode cL_law 430 = .ok (.iload_n 3, 1) := by decide +kernel
theorem dL_law_431 : decode cL_law 431 = .ok (.iconst 2, 1) := by decide +kernel
theorem dL_law_432 : decode cL_law 432 = .ok (.iadd, 1) := by decide +kernel
theorem dL_law_433 : decode cL_law 433 = .ok (.iaload, 1) := by decide +kernel
theorem dL_law_434 : decode cL_law 434 = .ok (.invokevirtual 30, 3) := by decide +kernel
theorem dL_law_437 : decode cL_law 437 = .ok (.aload_n 2, 1) := by decide +kernel
theorem dL_law_438 : decode cL_law 438 = .ok (.aload_n 0, 1) := by decide +kernel
theorem dL_law_439 : decode cL_law 439 = .ok (.iload_n 3, 1) := by decide +kernel
theorem dL_law_440 : decode cL_law 440 = .ok (.iconst 1, 1) := by decide +kernel
theorem dL_law_441 : decode cL_law 441 = .ok (.iadd, 1) := by decide +kernel
theorem dL_law_442 : decode cL_law 442 = .ok (.iaload, 1) := by decide +kernel
theorem dL_law_443 : decode cL_law 443 = .ok (.aload_n 0, 1) := by decide +kernel
theorem dL_law_444 : decode cL_law 444 = .ok (.iload_n 3, 1) := by decide +kernel
theorem dL_law_445 : decode cL_law 445 = .ok (.iconst 2, 1) := by decide +kernel
theorem dL_law_446 : decode cL_law 446 = .ok (.iadd, 1) := by decide +kernel
theorem dL_law_447 : decode cL_law 447 = .ok (.iaload, 1) := by decide +kernel
theorem dL_law_448 : decode cL_law 448 = .ok (.invokevirtual 34, 3) := by decide +kernel
theorem dL_law_451 : decode cL_law 451 = .ok (.lcmp, 1) := by decide +kernel
theorem dL_law_452 : decode cL_law 452 = .ok (.ifCond .eq 1230, 3) := by decide +kernel
theorem dL_law_455 : decode cL_law 455 = .ok (.iconst 0, 1) := by decide +kernel
theorem dL_law_456 : decode cL_law 456 = .ok (.ireturn, 1) := by decide +kernel
theorem dL_law_457 : decode cL_law 457 = .ok (.aload_n 1, 1) := by decide +kernel
theorem dL_law_458 : decode cL_law 458 = .ok (.aload_n 0, 1) := by decide +kernel
theorem dL_law_459 : decode cL_law 459 = .ok (.iload_n 3, 1) := by decide +kernel
theorem dL_law_460 : decode cL_law 460 = .ok (.iconst 1, 1) := by decide +kernel
theorem dL_law_461 : decode cL_law 461 = .ok (.iadd, 1) := by decide +kernel
theorem dL_law_462 : decode cL_law 462 = .ok (.iaload, 1) := by decide +kernel
theorem dL_law_463 : decode cL_law 463 = .ok (.invokevirtual 35, 3) := by decide +kernel
theorem dL_law_466 : decode cL_law 466 = .ok (.aload_n 2, 1) := by decide +kernel
theorem dL_law_467 : decode cL_law 467 = .ok (.aload_n 0, 1) := by decide +kernel
theorem dL_law_468 : decode cL_law 468 = .ok (.iload_n 3, 1) := by decide +kernel
theorem dL_law_469 : decode cL_law 469 = .ok (.iconst 1, 1) := by decide +kernel
theorem dL_law_470 : decode cL_law 470 = .ok (.iadd, 1) := by decide +kernel
theorem dL_law_471 : decode cL_law 471 = .ok (.iaload, 1) := by decide +kernel
theorem dL_law_472 : decode cL_law 472 = .ok (.invokevirtual 39, 3) := by decide +kernel
theorem dL_law_475 : decode cL_law 475 = .ok (.if_icmp .eq 1207, 3) := by decide +kernel
theorem dL_law_478 : decode cL_law 478 = .ok (.iconst 0, 1) := by decide +kernel
theorem dL_law_479 : decode cL_law 479 = .ok (.ireturn, 1) := by decide +kernel
theorem dL_law_480 : decode cL_law 480 = .ok (.aload_n 1, 1) := by decide +kernel
theorem dL_law_481 : decode cL_law 481 = .ok (.aload_n 0, 1) := by decide +kernel
theorem dL_law_482 : decode cL_law 482 = .ok (.iload_n 3, 1) := by decide +kernel
theorem dL_law_483 : decode cL_law 483 = .ok (.iconst 1, 1) := by decide +kernel
theorem dL_law_484 : decode cL_law 484 = .ok (.iadd, 1) := by decide +kernel
theorem dL_law_485 : decode cL_law 485 = .ok (.iaload, 1) := by decide +kernel
theorem dL_law_486 : decode cL_law 486 = .ok (.aload_n 0, 1) := by decide +kernel
theorem dL_law_487 : decode cL_law 487 = .ok (.iload_n 3, 1) := by decide +kernel
theorem dL_law_488 : decode cL_law 488 = .ok (.iconst 2, 1) := by decide +kernel
theorem dL_law_489 : decode cL_law 489 = .ok (.iadd, 1) := by decide +kernel
theorem dL_law_490 : decode cL_law 490 = .ok (.iaload, 1) := by decide +kernel
theorem dL_law_491 : decode cL_law 491 = .ok (.invokevirtual 40, 3) := by decide +kernel
theorem dL_law_494 : decode cL_law 494 = .ok (.aload_n 2, 1) := by decide +kernel
theorem dL_law_495 : decode cL_law 495 = .ok (.aload_n 0, 1) := by decide +kernel
theorem dL_law_496 : decode cL_law 496 = .ok (.iload_n 3, 1) := by decide +kernel
theorem dL_law_497 : decode cL_law 497 = .ok (.iconst 1, 1) := by decide +kernel
theorem dL_law_498 : decode cL_law 498 = .ok (.iadd, 1) := by decide +kernel
theorem dL_law_499 : decode cL_law 499 = .ok (.iaload, 1) := by decide +kernel
theorem dL_law_500 : decode cL_law 500 = .ok (.aload_n 0, 1) := by decide +kernel
theorem dL_law_501 : decode cL_law 501 = .ok (.iload_n 3, 1) := by decide +kernel
theorem dL_law_502 : decode cL_law 502 = .ok (.iconst 2, 1) := by decide +kernel
theorem dL_law_503 : decode cL_law 503 = .ok (.iadd, 1) := by decide +kernel
theorem dL_law_504 : decode cL_law 504 = .ok (.iaload, 1) := by decide +kernel
theorem dL_law_505 : decode cL_law 505 = .ok (.invokevirtual 44, 3) := by decide +kernel
theorem dL_law_508 : decode cL_law 508 = .ok (.if_icmp .eq 1174, 3) := by decide +kernel
theorem dL_law_511 : decode cL_law 511 = .ok (.iconst 0, 1) := by decide +kernel
theorem dL_law_512 : decode cL_law 512 = .ok (.ireturn, 1) := by decide +kernel
theorem dL_law_513 : decode cL_law 513 = .ok (.aload_n 1, 1) := by decide +kernel
theorem dL_law_514 : decode cL_law 514 = .ok (.aload_n 0, 1) := by decide +kernel
theorem dL_law_515 : decode cL_law 515 = .ok (.iload_n 3, 1) := by decide +kernel
theorem dL_law_516 : decode cL_law 516 = .ok (.iconst 1, 1) := by decide +kernel
theorem dL_law_517 : decode cL_law 517 = .ok (.iadd, 1) := by decide +kernel
theorem dL_law_518 : decode cL_law 518 = .ok (.iaload, 1) := by decide +kernel
theorem dL_law_519 : decode cL_law 519 = .ok (.aload_n 0, 1) := by decide +kernel
theorem dL_law_520 : decode cL_law 520 = .ok (.iload_n 3, 1) := by decide +kernel
theorem dL_law_521 : decode cL_law 521 = .ok (.iconst 2, 1) := by decide +kernel
theorem dL_law_522 : decode cL_law 522 = .ok (.iadd, 1) := by decide +kernel
theorem dL_law_523 : decode cL_law 523 = .ok (.iaload, 1) := by decide +kernel
theorem dL_law_524 : decode cL_law 524 = .ok (.invokevirtual 45, 3) := by decide +kernel
theorem dL_law_527 : decode cL_law 527 = .ok (.aload_n 2, 1) := by decide +kernel
theorem dL_law_528 : decode cL_law 528 = .ok (.aload_n 0, 1) := by decide +kernel
theorem dL_law_529 : decode cL_law 529 = .ok (.iload_n 3, 1) := by decide +kernel
theorem dL_law_530 : decode cL_law 530 = .ok (.iconst 1, 1) := by decide +kernel
theorem dL_law_531 : decode cL_law 531 = .ok (.iadd, 1) := by decide +kernel
theorem dL_law_532 : decode cL_law 532 = .ok (.iaload, 1) := by decide +kernel
theorem dL_law_533 : decode cL_law 533 = .ok (.aload_n 0, 1) := by decide +kernel
theorem dL_law_534 : decode cL_law 534 = .ok (.iload_n 3, 1) := by decide +kernel
theorem dL_law_535 : decode cL_law 535 = .ok (.iconst 2, 1) := by decide +kernel
theorem dL_law_536 : decode cL_law 536 = .ok (.iadd, 1) := by decide +kernel
theorem dL_law_537 : decode cL_law 537 = .ok (.iaload, 1) := by decide +kernel
theorem dL_law_538 : decode cL_law 538 = .ok (.invokevirtual 48, 3) := by decide +kernel
theorem dL_law_541 : decode cL_law 541 = .ok (.if_icmp .eq 1141, 3) := by decide +kernel
theorem dL_law_544 : decode cL_law 544 = .ok (.iconst 0, 1) := by decide +kernel
theorem dL_law_545 : decode cL_law 545 = .ok (.ireturn, 1) := by decide +kernel
theorem dL_law_546 : decode cL_law 546 = .ok (.aload_n 1, 1) := by decide +kernel
theorem dL_law_547 : decode cL_law 547 = .ok (.aload_n 0, 1) := by decide +kernel
theorem dL_law_548 : decode cL_law 548 = .ok (.iload_n 3, 1) := by decide +kernel
theorem dL_law_549 : decode cL_law 549 = .ok (.iconst 1, 1) := by decide +kernel
theorem dL_law_550 : decode cL_law 550 = .ok (.iadd, 1) := by decide +kernel
theorem dL_law_551 : decode cL_law 551 = .ok (.iaload, 1) := by decide +kernel
theorem dL_law_552 : decode cL_law 552 = .ok (.aload_n 0, 1) := by decide +kernel
theorem dL_law_553 : decode cL_law 553 = .ok (.iload_n 3, 1) := by decide +kernel
theorem dL_law_554 : decode cL_law 554 = .ok (.iconst 2, 1) := by decide +kernel
theorem dL_law_555 : decode cL_law 555 = .ok (.iadd, 1) := by decide +kernel
theorem dL_law_556 : decode cL_law 556 = .ok (.iaload, 1) := by decide +kernel
theorem dL_law_557 : decode cL_law 557 = .ok (.aload_n 0, 1) := by decide +kernel
theorem dL_law_558 : decode cL_law 558 = .ok (.iload_n 3, 1) := by decide +kernel
theorem dL_law_559 : decode cL_law 559 = .ok (.iconst 3, 1) := by decide +kernel
theorem dL_law_560 : decode cL_law 560 = .ok (.iadd, 1) := by decide +kernel
theorem dL_law_561 : decode cL_law 561 = .ok (.iaload, 1) := by decide +kernel
theorem dL_law_562 : decode cL_law 562 = .ok (.invokevirtual 49, 3) := by decide +kernel
theorem dL_law_565 : decode cL_law 565 = .ok (.aload_n 2, 1) := by decide +kernel
theorem dL_law_566 : decode cL_law 566 = .ok (.aload_n 0, 1) := by decide +kernel
theorem dL_law_567 : decode cL_law 567 = .ok (.iload_n 3, 1) := by decide +kernel
theorem dL_law_568 : decode cL_law 568 = .ok (.iconst 1, 1) := by decide +kernel
theorem dL_law_569 : decode cL_law 569 = .ok (.iadd, 1) := by decide +kernel
theorem dL_law_570 : decode cL_law 570 = .ok (.iaload, 1) := by decide +kernel
theorem dL_law_571 : decode cL_law 571 = .ok (.aload_n 0, 1) := by decide +kernel
theorem dL_law_572 : decode cL_law 572 = .ok (.iload_n 3, 1) := by decide +kernel
theorem dL_law_573 : decode cL_law 573 = .ok (.iconst 2, 1) := by decide +kernel
theorem dL_law_574 : decode cL_law 574 = .ok (.iadd, 1) := by decide +kernel
theorem dL_law_575 : decode cL_law 575 = .ok (.iaload, 1) := by decide +kernel
theorem dL_law_576 : decode cL_law 576 = .ok (.aload_n 0, 1) := by decide +kernel
theorem dL_law_577 : decode cL_law 577 = .ok (.iload_n 3, 1) := by decide +kernel
theorem dL_law_578 : decode cL_law 578 = .ok (.iconst 3, 1) := by decide +kernel
theorem dL_law_579 : decode cL_law 579 = .ok (.iadd, 1) := by decide +kernel
theorem dL_law_580 : decode cL_law 580 = .ok (.iaload, 1) := by decide +kernel
theorem dL_law_581 : decode cL_law 581 = .ok (.invokevirtual 52, 3) := by decide +kernel
theorem dL_law_584 : decode cL_law 584 = .ok (.if_icmp .eq 1098, 3) := by decide +kernel
theorem dL_law_587 : decode cL_law 587 = .ok (.iconst 0, 1) := by decide +kernel
theorem dL_law_588 : decode cL_law 588 = .ok (.ireturn, 1) := by decide +kernel
theorem dL_law_589 : decode cL_law 589 = .ok (.aload_n 1, 1) := by decide +kernel
theorem dL_law_590 : decode cL_law 590 = .ok (.aload_n 0, 1) := by decide +kernel
theorem dL_law_591 : decode cL_law 591 = .ok (.iload_n 3, 1) := by decide +kernel
theorem dL_law_592 : decode cL_law 592 = .ok (.iconst 1, 1) := by decide +kernel
theorem dL_law_593 : decode cL_law 593 = .ok (.iadd, 1) := by decide +kernel
theorem dL_law_594 : decode cL_law 594 = .ok (.iaload, 1) := by decide +kernel
theorem dL_law_595 : decode cL_law 595 = .ok (.aload_n 0, 1) := by decide +kernel
theorem dL_law_596 : decode cL_law 596 = .ok (.iload_n 3, 1) := by decide +kernel
theorem dL_law_597 : decode cL_law 597 = .ok (.iconst 2, 1) := by decide +kernel
theorem dL_law_598 : decode cL_law 598 = .ok (.iadd, 1) := by decide +kernel
theorem dL_law_599 : decode cL_law 599 = .ok (.iaload, 1) := by decide +kernel
theorem dL_law_600 : decode cL_law 600 = .ok (.aload_n 0, 1) := by decide +kernel
theorem dL_law_601 : decode cL_law 601 = .ok (.iload_n 3, 1) := by decide +kernel
theorem dL_law_602 : decode cL_law 602 = .ok (.iconst 3, 1) := by decide +kernel
theorem dL_law_603 : decode cL_law 603 = .ok (.iadd, 1) := by decide +kernel
theorem dL_law_604 : decode cL_law 604 = .ok (.iaload, 1) := by decide +kernel
theorem dL_law_605 : decode cL_law 605 = .ok (.invokevirtual 53, 3) := by decide +kernel
theorem dL_law_608 : decode cL_law 608 = .ok (.aload_n 2, 1) := by decide +kernel
theorem dL_law_609 : decode cL_law 609 = .ok (.aload_n 0, 1) := by decide +kernel
theorem dL_law_610 : decode cL_law 610 = .ok (.iload_n 3, 1) := by decide +kernel
theorem dL_law_611 : decode cL_law 611 = .ok (.iconst 1, 1) := by decide +kernel
theorem dL_law_612 : decode cL_law 612 = .ok (.iadd, 1) := by decide +kernel
theorem dL_law_613 : decode cL_law 613 = .ok (.iaload, 1) := by decide +kernel
theorem dL_law_614 : decode cL_law 614 = .ok (.aload_n 0, 1) := by decide +kernel
theorem dL_law_615 : decode cL_law 615 = .ok (.iload_n 3, 1) := by decide +kernel
theorem dL_law_616 : decode cL_law 616 = .ok (.iconst 2, 1) := by decide +kernel
theorem dL_law_617 : decode cL_law 617 = .ok (.iadd, 1) := by decide +kernel
theorem dL_law_618 : decode cL_law 618 = .ok (.iaload, 1) := by decide +kernel
theorem dL_law_619 : decode cL_law 619 = .ok (.aload_n 0, 1) := by decide +kernel
theorem dL_law_620 : decode cL_law 620 = .ok (.iload_n 3, 1) := by decide +kernel
theorem dL_law_621 : decode cL_law 621 = .ok (.iconst 3, 1) := by decide +kernel
theorem dL_law_622 : decode cL_law 622 = .ok (.iadd, 1) := by decide +kernel
theorem dL_law_623 : decode cL_law 623 = .ok (.iaload, 1) := by decide +kernel
theorem dL_law_624 : decode cL_law 624 = .ok (.invokevirtual 56, 3) := by decide +kernel
theorem dL_law_627 : decode cL_law 627 = .ok (.if_icmp .eq 1055, 3) := by decide +kernel
theorem dL_law_630 : decode cL_law 630 = .ok (.iconst 0, 1) := by decide +kernel
theorem dL_law_631 : decode cL_law 631 = .ok (.ireturn, 1) := by decide +kernel
theorem dL_law_632 : decode cL_law 632 = .ok (.aload_n 1, 1) := by decide +kernel
theorem dL_law_633 : decode cL_law 633 = .ok (.aload_n 0, 1) := by decide +kernel
theorem dL_law_634 : decode cL_law 634 = .ok (.iload_n 3, 1) := by decide +kernel
theorem dL_law_635 : decode cL_law 635 = .ok (.iconst 1, 1) := by decide +kernel
theorem dL_law_636 : decode cL_law 636 = .ok (.iadd, 1) := by decide +kernel
theorem dL_law_637 : decode cL_law 637 = .ok (.iaload, 1) := by decide +kernel
theorem dL_law_638 : decode cL_law 638 = .ok (.aload_n 0, 1) := by decide +kernel
theorem dL_law_639 : decode cL_law 639 = .ok (.iload_n 3, 1) := by decide +kernel
theorem dL_law_640 : decode cL_law 640 = .ok (.iconst 2, 1) := by decide +kernel
theorem dL_law_641 : decode cL_law 641 = .ok (.iadd, 1) := by decide +kernel
theorem dL_law_642 : decode cL_law 642 = .ok (.iaload, 1) := by decide +kernel
theorem dL_law_643 : decode cL_law 643 = .ok (.invokevirtual 57, 3) := by decide +kernel
theorem dL_law_646 : decode cL_law 646 = .ok (.aload_n 2, 1) := by decide +kernel
theorem dL_law_647 : decode cL_law 647 = .ok (.aload_n 0, 1) := by decide +kernel
theorem dL_law_648 : decode cL_law 648 = .ok (.iload_n 3, 1) := by decide +kernel
theorem dL_law_649 : decode cL_law 649 = .ok (.iconst 1, 1) := by decide +kernel
theorem dL_law_650 : decode cL_law 650 = .ok (.iadd, 1) := by decide +kernel
theorem dL_law_651 : decode cL_law 651 = .ok (.iaload, 1) := by decide +kernel
theorem dL_law_652 : decode cL_law 652 = .ok (.aload_n 0, 1) := by decide +kernel
theorem dL_law_653 : decode cL_law 653 = .ok (.iload_n 3, 1) := by decide +kernel
theorem dL_law_654 : decode cL_law 654 = .ok (.iconst 2, 1) := by decide +kernel
theorem dL_law_655 : decode cL_law 655 = .ok (.iadd, 1) := by decide +kernel
theorem dL_law_656 : decode cL_law 656 = .ok (.iaload, 1) := by decide +kernel
theorem dL_law_657 : decode cL_law 657 = .ok (.invokevirtual 60, 3) := by decide +kernel
theorem dL_law_660 : decode cL_law 660 = .ok (.if_icmp .eq 1022, 3) := by decide +kernel
theorem dL_law_663 : decode cL_law 663 = .ok (.iconst 0, 1) := by decide +kernel
theorem dL_law_664 : decode cL_law 664 = .ok (.ireturn, 1) := by decide +kernel
theorem dL_law_665 : decode cL_law 665 = .ok (.aload_n 1, 1) := by decide +kernel
theorem dL_law_666 : decode cL_law 666 = .ok (.aload_n 0, 1) := by decide +kernel
theorem dL_law_667 : decode cL_law 667 = .ok (.iload_n 3, 1) := by decide +kernel
theorem dL_law_668 : decode cL_law 668 = .ok (.iconst 1, 1) := by decide +kernel
theorem dL_law_669 : decode cL_law 669 = .ok (.iadd, 1) := by decide +kernel
theorem dL_law_670 : decode cL_law 670 = .ok (.iaload, 1) := by decide +kernel
theorem dL_law_671 : decode cL_law 671 = .ok (.aload_n 0, 1) := by decide +kernel
theorem dL_law_672 : decode cL_law 672 = .ok (.iload_n 3, 1) := by decide +kernel
theorem dL_law_673 : decode cL_law 673 = .ok (.iconst 2, 1) := by decide +kernel
theorem dL_law_674 : decode cL_law 674 = .ok (.iadd, 1) := by decide +kernel
theorem dL_law_675 : decode cL_law 675 = .ok (.iaload, 1) := by decide +kernel
theorem dL_law_676 : decode cL_law 676 = .ok (.invokevirtual 61, 3) := by decide +kernel
theorem dL_law_679 : decode cL_law 679 = .ok (.aload_n 2, 1) := by decide +kernel
theorem dL_law_680 : decode cL_law 680 = .ok (.aload_n 0, 1) := by decide +kernel
theorem dL_law_681 : decode cL_law 681 = .ok (.iload_n 3, 1) := by decide +kernel
theorem dL_law_682 : decode cL_law 682 = .ok (.iconst 1, 1) := by decide +kernel
theorem dL_law_683 : decode cL_law 683 = .ok (.iadd, 1) := by decide +kernel
theorem dL_law_684 : decode cL_law 684 = .ok (.iaload, 1) := by decide +kernel
theorem dL_law_685 : decode cL_law 685 = .ok (.aload_n 0, 1) := by decide +kernel
theorem dL_law_686 : decode cL_law 686 = .ok (.iload_n 3, 1) := by decide +kernel
theorem dL_law_687 : decode cL_law 687 = .ok (.iconst 2, 1) := by decide +kernel
theorem dL_law_688 : decode cL_law 688 = .ok (.iadd, 1) := by decide +kernel
theorem dL_law_689 : decode cL_law 689 = .ok (.iaload, 1) := by decide +kernel
theorem dL_law_690 : decode cL_law 690 = .ok (.invokevirtual 64, 3) := by decide +kernel
theorem dL_law_693 : decode cL_law 693 = .ok (.if_icmp .eq 989, 3) := by decide +kernel
theorem dL_law_696 : decode cL_law 696 = .ok (.iconst 0, 1) := by decide +kernel
theorem dL_law_697 : decode cL_law 697 = .ok (.ireturn, 1) := by decide +kernel
theorem dL_law_698 : decode cL_law 698 = .ok (.aload_n 1, 1) := by decide +kernel
theorem dL_law_699 : decode cL_law 699 = .ok (.aload_n 0, 1) := by decide +kernel
theorem dL_law_700 : decode cL_law 700 = .ok (.iload_n 3, 1) := by decide +kernel
theorem dL_law_701 : decode cL_law 701 = .ok (.iconst 1, 1) := by decide +kernel
theorem dL_law_702 : decode cL_law 702 = .ok (.iadd, 1) := by decide +kernel
theorem dL_law_703 : decode cL_law 703 = .ok (.iaload, 1) := by decide +kernel
theorem dL_law_704 : decode cL_law 704 = .ok (.invokevirtual 65, 3) := by decide +kernel
theorem dL_law_707 : decode cL_law 707 = .ok (.aload_n 2, 1) := by decide +kernel
theorem dL_law_708 : decode cL_law 708 = .ok (.aload_n 0, 1) := by decide +kernel
theorem dL_law_709 : decode cL_law 709 = .ok (.iload_n 3, 1) := by decide +kernel
theorem dL_law_710 : decode cL_law 710 = .ok (.iconst 1, 1) := by decide +kernel
theorem dL_law_711 : decode cL_law 711 = .ok (.iadd, 1) := by decide +kernel
theorem dL_law_712 : decode cL_law 712 = .ok (.iaload, 1) := by decide +kernel
theorem dL_law_713 : decode cL_law 713 = .ok (.invokevirtual 68, 3) := by decide +kernel
theorem dL_law_716 : decode cL_law 716 = .ok (.if_icmp .eq 966, 3) := by decide +kernel
theorem dL_law_719 : decode cL_law 719 = .ok (.iconst 0, 1) := by decide +kernel
theorem dL_law_720 : decode cL_law 720 = .ok (.ireturn, 1) := by decide +kernel
theorem dL_law_721 : decode cL_law 721 = .ok (.aload_n 1, 1) := by decide +kernel
theorem dL_law_722 : decode cL_law 722 = .ok (.invokevirtual 69, 3) := by decide +kernel
theorem dL_law_725 : decode cL_law 725 = .ok (.aload_n 2, 1) := by decide +kernel
theorem dL_law_726 : decode cL_law 726 = .ok (.invokevirtual 73, 3) := by decide +kernel
theorem dL_law_729 : decode cL_law 729 = .ok (.if_icmp .eq 953, 3) := by decide +kernel
theorem dL_law_732 : decode cL_law 732 = .ok (.iconst 0, 1) := by decide +kernel
theorem dL_law_733 : decode cL_law 733 = .ok (.ireturn, 1) := by decide +kernel
theorem dL_law_734 : decode cL_law 734 = .ok (.aload_n 1, 1) := by decide +kernel
theorem dL_law_735 : decode cL_law 735 = .ok (.invokevirtual 74, 3) := by decide +kernel
theorem dL_law_738 : decode cL_law 738 = .ok (.aload_n 2, 1) := by decide +kernel
theorem dL_law_739 : decode cL_law 739 = .ok (.invokevirtual 77, 3) := by decide +kernel
theorem dL_law_742 : decode cL_law 742 = .ok (.if_icmp .eq 940, 3) := by decide +kernel
theorem dL_law_745 : decode cL_law 745 = .ok (.iconst 0, 1) := by decide +kernel
theorem dL_law_746 : decode cL_law 746 = .ok (.ireturn, 1) := by decide +kernel
theorem dL_law_747 : decode cL_law 747 = .ok (.aload_n 1, 1) := by decide +kernel
theorem dL_law_748 : decode cL_law 748 = .ok (.aload_n 0, 1) := by decide +kernel
theorem dL_law_749 : decode cL_law 749 = .ok (.iload_n 3, 1) := by decide +kernel
theorem dL_law_750 : decode cL_law 750 = .ok (.iconst 1, 1) := by decide +kernel
theorem dL_law_751 : decode cL_law 751 = .ok (.iadd, 1) := by decide +kernel
theorem dL_law_752 : decode cL_law 752 = .ok (.iaload, 1) := by decide +kernel
theorem dL_law_753 : decode cL_law 753 = .ok (.aload_n 0, 1) := by decide +kernel
theorem dL_law_754 : decode cL_law 754 = .ok (.iload_n 3, 1) := by decide +kernel
theorem dL_law_755 : decode cL_law 755 = .ok (.iconst 2, 1) := by decide +kernel
theorem dL_law_756 : decode cL_law 756 = .ok (.iadd, 1) := by decide +kernel
theorem dL_law_757 : decode cL_law 757 = .ok (.iaload, 1) := by decide +kernel
theorem dL_law_758 : decode cL_law 758 = .ok (.invokevirtual 78, 3) := by decide +kernel
theorem dL_law_761 : decode cL_law 761 = .ok (.aload_n 2, 1) := by decide +kernel
theorem dL_law_762 : decode cL_law 762 = .ok (.aload_n 0, 1) := by decide +kernel
theorem dL_law_763 : decode cL_law 763 = .ok (.iload_n 3, 1) := by decide +kernel
theorem dL_law_764 : decode cL_law 764 = .ok (.iconst 1, 1) := by decide +kernel
theorem dL_law_765 : decode cL_law 765 = .ok (.iadd, 1) := by decide +kernel
theorem dL_law_766 : decode cL_law 766 = .ok (.iaload, 1) := by decide +kernel
theorem dL_law_767 : decode cL_law 767 = .ok (.aload_n 0, 1) := by decide +kernel
theorem dL_law_768 : decode cL_law 768 = .ok (.iload_n 3, 1) := by decide +kernel
theorem dL_law_769 : decode cL_law 769 = .ok (.iconst 2, 1) := by decide +kernel
theorem dL_law_770 : decode cL_law 770 = .ok (.iadd, 1) := by decide +kernel
theorem dL_law_771 : decode cL_law 771 = .ok (.iaload, 1) := by decide +kernel
theorem dL_law_772 : decode cL_law 772 = .ok (.invokevirtual 81, 3) := by decide +kernel
theorem dL_law_775 : decode cL_law 775 = .ok (.if_icmp .eq 907, 3) := by decide +kernel
theorem dL_law_778 : decode cL_law 778 = .ok (.iconst 0, 1) := by decide +kernel
theorem dL_law_779 : decode cL_law 779 = .ok (.ireturn, 1) := by decide +kernel
theorem dL_law_780 : decode cL_law 780 = .ok (.aload_n 1, 1) := by decide +kernel
theorem dL_law_781 : decode cL_law 781 = .ok (.aload_n 0, 1) := by decide +kernel
theorem dL_law_782 : decode cL_law 782 = .ok (.iload_n 3, 1) := by decide +kernel
theorem dL_law_783 : decode cL_law 783 = .ok (.iconst 1, 1) := by decide +kernel
theorem dL_law_784 : decode cL_law 784 = .ok (.iadd, 1) := by decide +kernel
theorem dL_law_785 : decode cL_law 785 = .ok (.iaload, 1) := by decide +kernel
theorem dL_law_786 : decode cL_law 786 = .ok (.aload_n 0, 1) := by decide +kernel
theorem dL_law_787 : decode cL_law 787 = .ok (.iload_n 3, 1) := by decide +kernel
theorem dL_law_788 : decode cL_law 788 = .ok (.iconst 2, 1) := by decide +kernel
theorem dL_law_789 : decode cL_law 789 = .ok (.iadd, 1) := by decide +kernel
theorem dL_law_790 : decode cL_law 790 = .ok (.iaload, 1) := by decide +kernel
theorem dL_law_791 : decode cL_law 791 = .ok (.invokevirtual 82, 3) := by decide +kernel
theorem dL_law_794 : decode cL_law 794 = .ok (.aload_n 2, 1) := by decide +kernel
theorem dL_law_795 : decode cL_law 795 = .ok (.aload_n 0, 1) := by decide +kernel
theorem dL_law_796 : decode cL_law 796 = .ok (.iload_n 3, 1) := by decide +kernel
theorem dL_law_797 : decode cL_law 797 = .ok (.iconst 1, 1) := by decide +kernel
theorem dL_law_798 : decode cL_law 798 = .ok (.iadd, 1) := by decide +kernel
theorem dL_law_799 : decode cL_law 799 = .ok (.iaload, 1) := by decide +kernel
theorem dL_law_800 : decode cL_law 800 = .ok (.aload_n 0, 1) := by decide +kernel
theorem dL_law_801 : decode cL_law 801 = .ok (.iload_n 3, 1) := by decide +kernel
theorem dL_law_802 : decode cL_law 802 = .ok (.iconst 2, 1) := by decide +kernel
theorem dL_law_803 : decode cL_law 803 = .ok (.iadd, 1) := by decide +kernel
theorem dL_law_804 : decode cL_law 804 = .ok (.iaload, 1) := by decide +kernel
theorem dL_law_805 : decode cL_law 805 = .ok (.invokevirtual 85, 3) := by decide +kernel
theorem dL_law_808 : decode cL_law 808 = .ok (.if_icmp .eq 874, 3) := by decide +kernel
theorem dL_law_811 : decode cL_law 811 = .ok (.iconst 0, 1) := by decide +kernel
theorem dL_law_812 : decode cL_law 812 = .ok (.ireturn, 1) := by decide +kernel
theorem dL_law_813 : decode cL_law 813 = .ok (.aload_n 1, 1) := by decide +kernel
theorem dL_law_814 : decode cL_law 814 = .ok (.invokevirtual 86, 3) := by decide +kernel
theorem dL_law_817 : decode cL_law 817 = .ok (.aload_n 2, 1) := by decide +kernel
theorem dL_law_818 : decode cL_law 818 = .ok (.invokevirtual 89, 3) := by decide +kernel
theorem dL_law_821 : decode cL_law 821 = .ok (.if_icmp .eq 861, 3) := by decide +kernel
theorem dL_law_824 : decode cL_law 824 = .ok (.iconst 0, 1) := by decide +kernel
theorem dL_law_825 : decode cL_law 825 = .ok (.ireturn, 1) := by decide +kernel
theorem dL_law_826 : decode cL_law 826 = .ok (.aload_n 1, 1) := by decide +kernel
theorem dL_law_827 : decode cL_law 827 = .ok (.aload_n 0, 1) := by decide +kernel
theorem dL_law_828 : decode cL_law 828 = .ok (.iload_n 3, 1) := by decide +kernel
theorem dL_law_829 : decode cL_law 829 = .ok (.iconst 1, 1) := by decide +kernel
theorem dL_law_830 : decode cL_law 830 = .ok (.iadd, 1) := by decide +kernel
theorem dL_law_831 : decode cL_law 831 = .ok (.iaload, 1) := by decide +kernel
theorem dL_law_832 : decode cL_law 832 = .ok (.invokevirtual 90, 3) := by decide +kernel
theorem dL_law_835 : decode cL_law 835 = .ok (.aload_n 2, 1) := by decide +kernel
theorem dL_law_836 : decode cL_law 836 = .ok (.aload_n 0, 1) := by decide +kernel
theorem dL_law_837 : decode cL_law 837 = .ok (.iload_n 3, 1) := by decide +kernel
theorem dL_law_838 : decode cL_law 838 = .ok (.iconst 1, 1) := by decide +kernel
theorem dL_law_839 : decode cL_law 839 = .ok (.iadd, 1) := by decide +kernel
theorem dL_law_840 : decode cL_law 840 = .ok (.iaload, 1) := by decide +kernel
theorem dL_law_841 : decode cL_law 841 = .ok (.invokevirtual 93, 3) := by decide +kernel
theorem dL_law_844 : decode cL_law 844 = .ok (.if_icmp .eq 838, 3) := by decide +kernel
theorem dL_law_847 : decode cL_law 847 = .ok (.iconst 0, 1) := by decide +kernel
theorem dL_law_848 : decode cL_law 848 = .ok (.ireturn, 1) := by decide +kernel
theorem dL_law_849 : decode cL_law 849 = .ok (.aload_n 1, 1) := by decide +kernel
theorem dL_law_850 : decode cL_law 850 = .ok (.aload_n 0, 1) := by decide +kernel
theorem dL_law_851 : decode cL_law 851 = .ok (.iload_n 3, 1) := by decide +kernel
theorem dL_law_852 : decode cL_law 852 = .ok (.iconst 1, 1) := by decide +kernel
theorem dL_law_853 : decode cL_law 853 = .ok (.iadd, 1) := by decide +kernel
theorem dL_law_854 : decode cL_law 854 = .ok (.iaload, 1) := by decide +kernel
theorem dL_law_855 : decode cL_law 855 = .ok (.invokevirtual 94, 3) := by decide +kernel
theorem dL_law_858 : decode cL_law 858 = .ok (.aload_n 2, 1) := by decide +kernel
theorem dL_law_859 : decode cL_law 859 = .ok (.aload_n 0, 1) := by decide +kernel
theorem dL_law_860 : decode cL_law 860 = .ok (.iload_n 3, 1) := by decide +kernel
theorem dL_law_861 : decode cL_law 861 = .ok (.iconst 1, 1) := by decide +kernel
theorem dL_law_862 : decode cL_law 862 = .ok (.iadd, 1) := by decide +kernel
theorem dL_law_863 : decode cL_law 863 = .ok (.iaload, 1) := by decide +kernel
theorem dL_law_864 : decode cL_law 864 = .ok (.invokevirtual 97, 3) := by decide +kernel
theorem dL_law_867 : decode cL_law 867 = .ok (.if_icmp .eq 815, 3) := by decide +kernel
theorem dL_law_870 : decode cL_law 870 = .ok (.iconst 0, 1) := by decide +kernel
theorem dL_law_871 : decode cL_law 871 = .ok (.ireturn, 1) := by decide +kernel
theorem dL_law_872 : decode cL_law 872 = .ok (.aload_n 1, 1) := by decide +kernel
theorem dL_law_873 : decode cL_law 873 = .ok (.aload_n 0, 1) := by decide +kernel
theorem dL_law_874 : decode cL_law 874 = .ok (.iload_n 3, 1) := by decide +kernel
theorem dL_law_875 : decode cL_law 875 = .ok (.iconst 1, 1) := by decide +kernel
theorem dL_law_876 : decode cL_law 876 = .ok (.iadd, 1) := by decide +kernel
theorem dL_law_877 : decode cL_law 877 = .ok (.iaload, 1) := by decide +kernel
theorem dL_law_878 : decode cL_law 878 = .ok (.aload_n 0, 1) := by decide +kernel
theorem dL_law_879 : decode cL_law 879 = .ok (.iload_n 3, 1) := by decide +kernel
theorem dL_law_880 : decode cL_law 880 = .ok (.iconst 2, 1) := by decide +kernel
theorem dL_law_881 : decode cL_law 881 = .ok (.iadd, 1) := by decide +kernel
theorem dL_law_882 : decode cL_law 882 = .ok (.iaload, 1) := by decide +kernel
theorem dL_law_883 : decode cL_law 883 = .ok (.invokevirtual 98, 3) := by decide +kernel
theorem dL_law_886 : decode cL_law 886 = .ok (.aload_n 2, 1) := by decide +kernel
theorem dL_law_887 : decode cL_law 887 = .ok (.aload_n 0, 1) := by decide +kernel
theorem dL_law_888 : decode cL_law 888 = .ok (.iload_n 3, 1) := by decide +kernel
theorem dL_law_889 : decode cL_law 889 = .ok (.iconst 1, 1) := by decide +kernel
theorem dL_law_890 : decode cL_law 890 = .ok (.iadd, 1) := by decide +kernel
theorem dL_law_891 : decode cL_law 891 = .ok (.iaload, 1) := by decide +kernel
theorem dL_law_892 : decode cL_law 892 = .ok (.aload_n 0, 1) := by decide +kernel
theorem dL_law_893 : decode cL_law 893 = .ok (.iload_n 3, 1) := by decide +kernel
theorem dL_law_894 : decode cL_law 894 = .ok (.iconst 2, 1) := by decide +kernel
theorem dL_law_895 : decode cL_law 895 = .ok (.iadd, 1) := by decide +kernel
theorem dL_law_896 : decode cL_law 896 = .ok (.iaload, 1) := by decide +kernel
theorem dL_law_897 : decode cL_law 897 = .ok (.invokevirtual 101, 3) := by decide +kernel
theorem dL_law_900 : decode cL_law 900 = .ok (.if_icmp .eq 782, 3) := by decide +kernel
theorem dL_law_903 : decode cL_law 903 = .ok (.iconst 0, 1) := by decide +kernel
theorem dL_law_904 : decode cL_law 904 = .ok (.ireturn, 1) := by decide +kernel
theorem dL_law_905 : decode cL_law 905 = .ok (.aload_n 1, 1) := by decide +kernel
theorem dL_law_906 : decode cL_law 906 = .ok (.aload_n 0, 1) := by decide +kernel
theorem dL_law_907 : decode cL_law 907 = .ok (.iload_n 3, 1) := by decide +kernel
theorem dL_law_908 : decode cL_law 908 = .ok (.iconst 1, 1) := by decide +kernel
theorem dL_law_909 : decode cL_law 909 = .ok (.iadd, 1) := by decide +kernel
theorem dL_law_910 : decode cL_law 910 = .ok (.iaload, 1) := by decide +kernel
theorem dL_law_911 : decode cL_law 911 = .ok (.invokevirtual 102, 3) := by decide +kernel
theorem dL_law_914 : decode cL_law 914 = .ok (.aload_n 2, 1) := by decide +kernel
theorem dL_law_915 : decode cL_law 915 = .ok (.aload_n 0, 1) := by decide +kernel
theorem dL_law_916 : decode cL_law 916 = .ok (.iload_n 3, 1) := by decide +kernel
theorem dL_law_917 : decode cL_law 917 = .ok (.iconst 1, 1) := by decide +kernel
theorem dL_law_918 : decode cL_law 918 = .ok (.iadd, 1) := by decide +kernel
theorem dL_law_919 : decode cL_law 919 = .ok (.iaload, 1) := by decide +kernel
theorem dL_law_920 : decode cL_law 920 = .ok (.invokevirtual 105, 3) := by decide +kernel
theorem dL_law_923 : decode cL_law 923 = .ok (.if_icmp .eq 759, 3) := by decide +kernel
theorem dL_law_926 : decode cL_law 926 = .ok (.iconst 0, 1) := by decide +kernel
theorem dL_law_927 : decode cL_law 927 = .ok (.ireturn, 1) := by decide +kernel
theorem dL_law_928 : decode cL_law 928 = .ok (.aload_n 1, 1) := by decide +kernel
theorem dL_law_929 : decode cL_law 929 = .ok (.aload_n 0, 1) := by decide +kernel
theorem dL_law_930 : decode cL_law 930 = .ok (.iload_n 3, 1) := by decide +kernel
theorem dL_law_931 : decode cL_law 931 = .ok (.iconst 1, 1) := by decide +kernel
theorem dL_law_932 : decode cL_law 932 = .ok (.iadd, 1) := by decide +kernel
theorem dL_law_933 : decode cL_law 933 = .ok (.iaload, 1) := by decide +kernel
theorem dL_law_934 : decode cL_law 934 = .ok (.invokevirtual 106, 3) := by decide +kernel
theorem dL_law_937 : decode cL_law 937 = .ok (.aload_n 2, 1) := by decide +kernel
theorem dL_law_938 : decode cL_law 938 = .ok (.aload_n 0, 1) := by decide +kernel
theorem dL_law_939 : decode cL_law 939 = .ok (.iload_n 3, 1) := by decide +kernel
theorem dL_law_940 : decode cL_law 940 = .ok (.iconst 1, 1) := by decide +kernel
theorem dL_law_941 : decode cL_law 941 = .ok (.iadd, 1) := by decide +kernel
theorem dL_law_942 : decode cL_law 942 = .ok (.iaload, 1) := by decide +kernel
theorem dL_law_943 : decode cL_law 943 = .ok (.invokevirtual 109, 3) := by decide +kernel
theorem dL_law_946 : decode cL_law 946 = .ok (.if_icmp .eq 736, 3) := by decide +kernel
theorem dL_law_949 : decode cL_law 949 = .ok (.iconst 0, 1) := by decide +kernel
theorem dL_law_950 : decode cL_law 950 = .ok (.ireturn, 1) := by decide +kernel
theorem dL_law_951 : decode cL_law 951 = .ok (.aload_n 1, 1) := by decide +kernel
theorem dL_law_952 : decode cL_law 952 = .ok (.aload_n 0, 1) := by decide +kernel
theorem dL_law_953 : decode cL_law 953 = .ok (.iload_n 3, 1) := by decide +kernel
theorem dL_law_954 : decode cL_law 954 = .ok (.iconst 1, 1) := by decide +kernel
theorem dL_law_955 : decode cL_law 955 = .ok (.iadd, 1) := by decide +kernel
theorem dL_law_956 : decode cL_law 956 = .ok (.iaload, 1) := by decide +kernel
theorem dL_law_957 : decode cL_law 957 = .ok (.aload_n 0, 1) := by decide +kernel
theorem dL_law_958 : decode cL_law 958 = .ok (.iload_n 3, 1) := by decide +kernel
theorem dL_law_959 : decode cL_law 959 = .ok (.iconst 2, 1) := by decide +kernel
theorem dL_law_960 : decode cL_law 960 = .ok (.iadd, 1) := by decide +kernel
theorem dL_law_961 : decode cL_law 961 = .ok (.iaload, 1) := by decide +kernel
theorem dL_law_962 : decode cL_law 962 = .ok (.invokevirtual 110, 3) := by decide +kernel
theorem dL_law_965 : decode cL_law 965 = .ok (.aload_n 2, 1) := by decide +kernel
theorem dL_law_966 : decode cL_law 966 = .ok (.aload_n 0, 1) := by decide +kernel
theorem dL_law_967 : decode cL_law 967 = .ok (.iload_n 3, 1) := by decide +kernel
theorem dL_law_968 : decode cL_law 968 = .ok (.iconst 1, 1) := by decide +kernel
theorem dL_law_969 : decode cL_law 969 = .ok (.iadd, 1) := by decide +kernel
theorem dL_law_970 : decode cL_law 970 = .ok (.iaload, 1) := by decide +kernel
theorem dL_law_971 : decode cL_law 971 = .ok (.aload_n 0, 1) := by decide +kernel
theorem dL_law_972 : decode cL_law 972 = .ok (.iload_n 3, 1) := by decide +kernel
theorem dL_law_973 : decode cL_law 973 = .ok (.iconst 2, 1) := by decide +kernel
theorem dL_law_974 : decode cL_law 974 = .ok (.iadd, 1) := by decide +kernel
theorem dL_law_975 : decode cL_law 975 = .ok (.iaload, 1) := by decide +kernel
theorem dL_law_976 : decode cL_law 976 = .ok (.invokevirtual 113, 3) := by decide +kernel
theorem dL_law_979 : decode cL_law 979 = .ok (.if_icmp .eq 703, 3) := by decide +kernel
theorem dL_law_982 : decode cL_law 982 = .ok (.iconst 0, 1) := by decide +kernel
theorem dL_law_983 : decode cL_law 983 = .ok (.ireturn, 1) := by decide +kernel
theorem dL_law_984 : decode cL_law 984 = .ok (.aload_n 1, 1) := by decide +kernel
theorem dL_law_985 : decode cL_law 985 = .ok (.aload_n 0, 1) := by decide +kernel
theorem dL_law_986 : decode cL_law 986 = .ok (.iload_n 3, 1) := by decide +kernel
theorem dL_law_987 : decode cL_law 987 = .ok (.iconst 1, 1) := by decide +kernel
theorem dL_law_988 : decode cL_law 988 = .ok (.iadd, 1) := by decide +kernel
theorem dL_law_989 : decode cL_law 989 = .ok (.iaload, 1) := by decide +kernel
theorem dL_law_990 : decode cL_law 990 = .ok (.invokevirtual 114, 3) := by decide +kernel
theorem dL_law_993 : decode cL_law 993 = .ok (.aload_n 2, 1) := by decide +kernel
theorem dL_law_994 : decode cL_law 994 = .ok (.aload_n 0, 1) := by decide +kernel
theorem dL_law_995 : decode cL_law 995 = .ok (.iload_n 3, 1) := by decide +kernel
theorem dL_law_996 : decode cL_law 996 = .ok (.iconst 1, 1) := by decide +kernel
theorem dL_law_997 : decode cL_law 997 = .ok (.iadd, 1) := by decide +kernel
theorem dL_law_998 : decode cL_law 998 = .ok (.iaload, 1) := by decide +kernel
theorem dL_law_999 : decode cL_law 999 = .ok (.invokevirtual 117, 3) := by decide +kernel
theorem dL_law_1002 : decode cL_law 1002 = .ok (.if_icmp .eq 680, 3) := by decide +kernel
theorem dL_law_1005 : decode cL_law 1005 = .ok (.iconst 0, 1) := by decide +kernel
theorem dL_law_1006 : decode cL_law 1006 = .ok (.ireturn, 1) := by decide +kernel
theorem dL_law_1007 : decode cL_law 1007 = .ok (.aload_n 1, 1) := by decide +kernel
theorem dL_law_1008 : decode cL_law 1008 = .ok (.aload_n 0, 1) := by decide +kernel
theorem dL_law_1009 : decode cL_law 1009 = .ok (.iload_n 3, 1) := by decide +kernel
theorem dL_law_1010 : decode cL_law 1010 = .ok (.iconst 1, 1) := by decide +kernel
theorem dL_law_1011 : decode cL_law 1011 = .ok (.iadd, 1) := by decide +kernel
theorem dL_law_1012 : decode cL_law 1012 = .ok (.iaload, 1) := by decide +kernel
theorem dL_law_1013 : decode cL_law 1013 = .ok (.invokevirtual 118, 3) := by decide +kernel
theorem dL_law_1016 : decode cL_law 1016 = .ok (.aload_n 2, 1) := by decide +kernel
theorem dL_law_1017 : decode cL_law 1017 = .ok (.aload_n 0, 1) := by decide +kernel
theorem dL_law_1018 : decode cL_law 1018 = .ok (.iload_n 3, 1) := by decide +kernel
theorem dL_law_1019 : decode cL_law 1019 = .ok (.iconst 1, 1) := by decide +kernel
theorem dL_law_1020 : decode cL_law 1020 = .ok (.iadd, 1) := by decide +kernel
theorem dL_law_1021 : decode cL_law 1021 = .ok (.iaload, 1) := by decide +kernel
theorem dL_law_1022 : decode cL_law 1022 = .ok (.invokevirtual 121, 3) := by decide +kernel
theorem dL_law_1025 : decode cL_law 1025 = .ok (.if_icmp .eq 657, 3) := by decide +kernel
theorem dL_law_1028 : decode cL_law 1028 = .ok (.iconst 0, 1) := by decide +kernel
theorem dL_law_1029 : decode cL_law 1029 = .ok (.ireturn, 1) := by decide +kernel
theorem dL_law_1030 : decode cL_law 1030 = .ok (.aload_n 1, 1) := by decide +kernel
theorem dL_law_1031 : decode cL_law 1031 = .ok (.invokevirtual 122, 3) := by decide +kernel
theorem dL_law_1034 : decode cL_law 1034 = .ok (.aload_n 2, 1) := by decide +kernel
theorem dL_law_1035 : decode cL_law 1035 = .ok (.invokevirtual 125, 3) := by decide +kernel
theorem dL_law_1038 : decode cL_law 1038 = .ok (.if_icmp .eq 644, 3) := by decide +kernel
theorem dL_law_1041 : decode cL_law 1041 = .ok (.iconst 0, 1) := by decide +kernel
theorem dL_law_1042 : decode cL_law 1042 = .ok (.ireturn, 1) := by decide +kernel
theorem dL_law_1043 : decode cL_law 1043 = .ok (.aload_n 1, 1) := by decide +kernel
theorem dL_law_1044 : decode cL_law 1044 = .ok (.aload_n 0, 1) := by decide +kernel
theorem dL_law_1045 : decode cL_law 1045 = .ok (.iload_n 3, 1) := by decide +kernel
theorem dL_law_1046 : decode cL_law 1046 = .ok (.iconst 1, 1) := by decide +kernel
theorem dL_law_1047 : decode cL_law 1047 = .ok (.iadd, 1) := by decide +kernel
theorem dL_law_1048 : decode cL_law 1048 = .ok (.iaload, 1) := by decide +kernel
theorem dL_law_1049 : decode cL_law 1049 = .ok (.aload_n 0, 1) := by decide +kernel
theorem dL_law_1050 : decode cL_law 1050 = .ok (.iload_n 3, 1) := by decide +kernel
theorem dL_law_1051 : decode cL_law 1051 = .ok (.iconst 2, 1) := by decide +kernel
theorem dL_law_1052 : decode cL_law 1052 = .ok (.iadd, 1) := by decide +kernel
theorem dL_law_1053 : decode cL_law 1053 = .ok (.iaload, 1) := by decide +kernel
theorem dL_law_1054 : decode cL_law 1054 = .ok (.aload_n 0, 1) := by decide +kernel
theorem dL_law_1055 : decode cL_law 1055 = .ok (.iload_n 3, 1) := by decide +kernel
theorem dL_law_1056 : decode cL_law 1056 = .ok (.iconst 3, 1) := by decide +kernel
theorem dL_law_1057 : decode cL_law 1057 = .ok (.iadd, 1) := by decide +kernel
theorem dL_law_1058 : decode cL_law 1058 = .ok (.iaload, 1) := by decide +kernel
theorem dL_law_1059 : decode cL_law 1059 = .ok (.invokevirtual 126, 3) := by decide +kernel
theorem dL_law_1062 : decode cL_law 1062 = .ok (.aload_n 2, 1) := by decide +kernel
theorem dL_law_1063 : decode cL_law 1063 = .ok (.aload_n 0, 1) := by decide +kernel
theorem dL_law_1064 : decode cL_law 1064 = .ok (.iload_n 3, 1) := by decide +kernel
theorem dL_law_1065 : decode cL_law 1065 = .ok (.iconst 1, 1) := by decide +kernel
theorem dL_law_1066 : decode cL_law 1066 = .ok (.iadd, 1) := by decide +kernel
theorem dL_law_1067 : decode cL_law 1067 = .ok (.iaload, 1) := by decide +kernel
theorem dL_law_1068 : decode cL_law 1068 = .ok (.aload_n 0, 1) := by decide +kernel
theorem dL_law_1069 : decode cL_law 1069 = .ok (.iload_n 3, 1) := by decide +kernel
theorem dL_law_1070 : decode cL_law 1070 = .ok (.iconst 2, 1) := by decide +kernel
theorem dL_law_1071 : decode cL_law 1071 = .ok (.iadd, 1) := by decide +kernel
theorem dL_law_1072 : decode cL_law 1072 = .ok (.iaload, 1) := by decide +kernel
theorem dL_law_1073 : decode cL_law 1073 = .ok (.aload_n 0, 1) := by decide +kernel
theorem dL_law_1074 : decode cL_law 1074 = .ok (.iload_n 3, 1) := by decide +kernel
theorem dL_law_1075 : decode cL_law 1075 = .ok (.iconst 3, 1) := by decide +kernel
theorem dL_law_1076 : decode cL_law 1076 = .ok (.iadd, 1) := by decide +kernel
theorem dL_law_1077 : decode cL_law 1077 = .ok (.iaload, 1) := by decide +kernel
theorem dL_law_1078 : decode cL_law 1078 = .ok (.invokevirtual 129, 3) := by decide +kernel
theorem dL_law_1081 : decode cL_law 1081 = .ok (.if_icmp .eq 601, 3) := by decide +kernel
theorem dL_law_1084 : decode cL_law 1084 = .ok (.iconst 0, 1) := by decide +kernel
theorem dL_law_1085 : decode cL_law 1085 = .ok (.ireturn, 1) := by decide +kernel
theorem dL_law_1086 : decode cL_law 1086 = .ok (.aload_n 1, 1) := by decide +kernel
theorem dL_law_1087 : decode cL_law 1087 = .ok (.aload_n 0, 1) := by decide +kernel
theorem dL_law_1088 : decode cL_law 1088 = .ok (.iload_n 3, 1) := by decide +kernel
theorem dL_law_1089 : decode cL_law 1089 = .ok (.iconst 1, 1) := by decide +kernel
theorem dL_law_1090 : decode cL_law 1090 = .ok (.iadd, 1) := by decide +kernel
theorem dL_law_1091 : decode cL_law 1091 = .ok (.iaload, 1) := by decide +kernel
theorem dL_law_1092 : decode cL_law 1092 = .ok (.aload_n 0, 1) := by decide +kernel
theorem dL_law_1093 : decode cL_law 1093 = .ok (.iload_n 3, 1) := by decide +kernel
theorem dL_law_1094 : decode cL_law 1094 = .ok (.iconst 2, 1) := by decide +kernel
theorem dL_law_1095 : decode cL_law 1095 = .ok (.iadd, 1) := by decide +kernel
theorem dL_law_1096 : decode cL_law 1096 = .ok (.iaload, 1) := by decide +kernel
theorem dL_law_1097 : decode cL_law 1097 = .ok (.invokevirtual 130, 3) := by decide +kernel
theorem dL_law_1100 : decode cL_law 1100 = .ok (.aload_n 2, 1) := by decide +kernel
theorem dL_law_1101 : decode cL_law 1101 = .ok (.aload_n 0, 1) := by decide +kernel
theorem dL_law_1102 : decode cL_law 1102 = .ok (.iload_n 3, 1) := by decide +kernel
theorem dL_law_1103 : decode cL_law 1103 = .ok (.iconst 1, 1) := by decide +kernel
theorem dL_law_1104 : decode cL_law 1104 = .ok (.iadd, 1) := by decide +kernel
theorem dL_law_1105 : decode cL_law 1105 = .ok (.iaload, 1) := by decide +kernel
theorem dL_law_1106 : decode cL_law 1106 = .ok (.aload_n 0, 1) := by decide +kernel
theorem dL_law_1107 : decode cL_law 1107 = .ok (.iload_n 3, 1) := by decide +kernel
theorem dL_law_1108 : decode cL_law 1108 = .ok (.iconst 2, 1) := by decide +kernel
theorem dL_law_1109 : decode cL_law 1109 = .ok (.iadd, 1) := by decide +kernel
theorem dL_law_1110 : decode cL_law 1110 = .ok (.iaload, 1) := by decide +kernel
theorem dL_law_1111 : decode cL_law 1111 = .ok (.invokevirtual 133, 3) := by decide +kernel
theorem dL_law_1114 : decode cL_law 1114 = .ok (.if_icmp .eq 568, 3) := by decide +kernel
theorem dL_law_1117 : decode cL_law 1117 = .ok (.iconst 0, 1) := by decide +kernel
theorem dL_law_1118 : decode cL_law 1118 = .ok (.ireturn, 1) := by decide +kernel
theorem dL_law_1119 : decode cL_law 1119 = .ok (.aload_n 1, 1) := by decide +kernel
theorem dL_law_1120 : decode cL_law 1120 = .ok (.aload_n 0, 1) := by decide +kernel
theorem dL_law_1121 : decode cL_law 1121 = .ok (.iload_n 3, 1) := by decide +kernel
theorem dL_law_1122 : decode cL_law 1122 = .ok (.iconst 1, 1) := by decide +kernel
theorem dL_law_1123 : decode cL_law 1123 = .ok (.iadd, 1) := by decide +kernel
theorem dL_law_1124 : decode cL_law 1124 = .ok (.iaload, 1) := by decide +kernel
theorem dL_law_1125 : decode cL_law 1125 = .ok (.invokevirtual 134, 3) := by decide +kernel
theorem dL_law_1128 : decode cL_law 1128 = .ok (.aload_n 2, 1) := by decide +kernel
theorem dL_law_1129 : decode cL_law 1129 = .ok (.aload_n 0, 1) := by decide +kernel
theorem dL_law_1130 : decode cL_law 1130 = .ok (.iload_n 3, 1) := by decide +kernel
theorem dL_law_1131 : decode cL_law 1131 = .ok (.iconst 1, 1) := by decide +kernel
theorem dL_law_1132 : decode cL_law 1132 = .ok (.iadd, 1) := by decide +kernel
theorem dL_law_1133 : decode cL_law 1133 = .ok (.iaload, 1) := by decide +kernel
theorem dL_law_1134 : decode cL_law 1134 = .ok (.invokevirtual 137, 3) := by decide +kernel
theorem dL_law_1137 : decode cL_law 1137 = .ok (.if_icmp .eq 545, 3) := by decide +kernel
theorem dL_law_1140 : decode cL_law 1140 = .ok (.iconst 0, 1) := by decide +kernel
theorem dL_law_1141 : decode cL_law 1141 = .ok (.ireturn, 1) := by decide +kernel
theorem dL_law_1142 : decode cL_law 1142 = .ok (.aload_n 1, 1) := by decide +kernel
theorem dL_law_1143 : decode cL_law 1143 = .ok (.aload_n 0, 1) := by decide +kernel
theorem dL_law_1144 : decode cL_law 1144 = .ok (.iload_n 3, 1) := by decide +kernel
theorem dL_law_1145 : decode cL_law 1145 = .ok (.iconst 1, 1) := by decide +kernel
theorem dL_law_1146 : decode cL_law 1146 = .ok (.iadd, 1) := by decide +kernel
theorem dL_law_1147 : decode cL_law 1147 = .ok (.iaload, 1) := by decide +kernel
theorem dL_law_1148 : decode cL_law 1148 = .ok (.aload_n 0, 1) := by decide +kernel
theorem dL_law_1149 : decode cL_law 1149 = .ok (.iload_n 3, 1) := by decide +kernel
theorem dL_law_1150 : decode cL_law 1150 = .ok (.iconst 2, 1) := by decide +kernel
theorem dL_law_1151 : decode cL_law 1151 = .ok (.iadd, 1) := by decide +kernel
theorem dL_law_1152 : decode cL_law 1152 = .ok (.iaload, 1) := by decide +kernel
theorem dL_law_1153 : decode cL_law 1153 = .ok (.invokevirtual 138, 3) := by decide +kernel
theorem dL_law_1156 : decode cL_law 1156 = .ok (.aload_n 2, 1) := by decide +kernel
theorem dL_law_1157 : decode cL_law 1157 = .ok (.aload_n 0, 1) := by decide +kernel
theorem dL_law_1158 : decode cL_law 1158 = .ok (.iload_n 3, 1) := by decide +kernel
theorem dL_law_1159 : decode cL_law 1159 = .ok (.iconst 1, 1) := by decide +kernel
theorem dL_law_1160 : decode cL_law 1160 = .ok (.iadd, 1) := by decide +kernel
theorem dL_law_1161 : decode cL_law 1161 = .ok (.iaload, 1) := by decide +kernel
theorem dL_law_1162 : decode cL_law 1162 = .ok (.aload_n 0, 1) := by decide +kernel
theorem dL_law_1163 : decode cL_law 1163 = .ok (.iload_n 3, 1) := by decide +kernel
theorem dL_law_1164 : decode cL_law 1164 = .ok (.iconst 2, 1) := by decide +kernel
theorem dL_law_1165 : decode cL_law 1165 = .ok (.iadd, 1) := by decide +kernel
theorem dL_law_1166 : decode cL_law 1166 = .ok (.iaload, 1) := by decide +kernel
theorem dL_law_1167 : decode cL_law 1167 = .ok (.invokevirtual 141, 3) := by decide +kernel
theorem dL_law_1170 : decode cL_law 1170 = .ok (.if_icmp .eq 512, 3) := by decide +kernel
theorem dL_law_1173 : decode cL_law 1173 = .ok (.iconst 0, 1) := by decide +kernel
theorem dL_law_1174 : decode cL_law 1174 = .ok (.ireturn, 1) := by decide +kernel
theorem dL_law_1175 : decode cL_law 1175 = .ok (.aload_n 1, 1) := by decide +kernel
theorem dL_law_1176 : decode cL_law 1176 = .ok (.aload_n 0, 1) := by decide +kernel
theorem dL_law_1177 : decode cL_law 1177 = .ok (.iload_n 3, 1) := by decide +kernel
theorem dL_law_1178 : decode cL_law 1178 = .ok (.iconst 1, 1) := by decide +kernel
theorem dL_law_1179 : decode cL_law 1179 = .ok (.iadd, 1) := by decide +kernel
theorem dL_law_1180 : decode cL_law 1180 = .ok (.iaload, 1) := by decide +kernel
theorem dL_law_1181 : decode cL_law 1181 = .ok (.aload_n 0, 1) := by decide +kernel
theorem dL_law_1182 : decode cL_law 1182 = .ok (.iload_n 3, 1) := by decide +kernel
theorem dL_law_1183 : decode cL_law 1183 = .ok (.iconst 2, 1) := by decide +kernel
theorem dL_law_1184 : decode cL_law 1184 = .ok (.iadd, 1) := by decide +kernel
theorem dL_law_1185 : decode cL_law 1185 = .ok (.iaload, 1) := by decide +kernel
theorem dL_law_1186 : decode cL_law 1186 = .ok (.invokevirtual 142, 3) := by decide +kernel
theorem dL_law_1189 : decode cL_law 1189 = .ok (.aload_n 2, 1) := by decide +kernel
theorem dL_law_1190 : decode cL_law 1190 = .ok (.aload_n 0, 1) := by decide +kernel
theorem dL_law_1191 : decode cL_law 1191 = .ok (.iload_n 3, 1) := by decide +kernel
theorem dL_law_1192 : decode cL_law 1192 = .ok (.iconst 1, 1) := by decide +kernel
theorem dL_law_1193 : decode cL_law 1193 = .ok (.iadd, 1) := by decide +kernel
theorem dL_law_1194 : decode cL_law 1194 = .ok (.iaload, 1) := by decide +kernel
theorem dL_law_1195 : decode cL_law 1195 = .ok (.aload_n 0, 1) := by decide +kernel
theorem dL_law_1196 : decode cL_law 1196 = .ok (.iload_n 3, 1) := by decide +kernel
theorem dL_law_1197 : decode cL_law 1197 = .ok (.iconst 2, 1) := by decide +kernel
theorem dL_law_1198 : decode cL_law 1198 = .ok (.iadd, 1) := by decide +kernel
theorem dL_law_1199 : decode cL_law 1199 = .ok (.iaload, 1) := by decide +kernel
theorem dL_law_1200 : decode cL_law 1200 = .ok (.invokevirtual 145, 3) := by decide +kernel
theorem dL_law_1203 : decode cL_law 1203 = .ok (.if_icmp .eq 479, 3) := by decide +kernel
theorem dL_law_1206 : decode cL_law 1206 = .ok (.iconst 0, 1) := by decide +kernel
theorem dL_law_1207 : decode cL_law 1207 = .ok (.ireturn, 1) := by decide +kernel
theorem dL_law_1208 : decode cL_law 1208 = .ok (.aload_n 1, 1) := by decide +kernel
theorem dL_law_1209 : decode cL_law 1209 = .ok (.aload_n 0, 1) := by decide +kernel
theorem dL_law_1210 : decode cL_law 1210 = .ok (.iload_n 3, 1) := by decide +kernel
theorem dL_law_1211 : decode cL_law 1211 = .ok (.iconst 1, 1) := by decide +kernel
theorem dL_law_1212 : decode cL_law 1212 = .ok (.iadd, 1) := by decide +kernel
theorem dL_law_1213 : decode cL_law 1213 = .ok (.iaload, 1) := by decide +kernel
theorem dL_law_1214 : decode cL_law 1214 = .ok (.aload_n 0, 1) := by decide +kernel
theorem dL_law_1215 : decode cL_law 1215 = .ok (.iload_n 3, 1) := by decide +kernel
theorem dL_law_1216 : decode cL_law 1216 = .ok (.iconst 2, 1) := by decide +kernel
theorem dL_law_1217 : decode cL_law 1217 = .ok (.iadd, 1) := by decide +kernel
theorem dL_law_1218 : decode cL_law 1218 = .ok (.iaload, 1) := by decide +kernel
theorem dL_law_1219 : decode cL_law 1219 = .ok (.invokevirtual 146, 3) := by decide +kernel
theorem dL_law_1222 : decode cL_law 1222 = .ok (.aload_n 2, 1) := by decide +kernel
theorem dL_law_1223 : decode cL_law 1223 = .ok (.aload_n 0, 1) := by decide +kernel
theorem dL_law_1224 : decode cL_law 1224 = .ok (.iload_n 3, 1) := by decide +kernel
theorem dL_law_1225 : decode cL_law 1225 = .ok (.iconst 1, 1) := by decide +kernel
theorem dL_law_1226 : decode cL_law 1226 = .ok (.iadd, 1) := by decide +kernel
theorem dL_law_1227 : decode cL_law 1227 = .ok (.iaload, 1) := by decide +kernel
theorem dL_law_1228 : decode cL_law 1228 = .ok (.aload_n 0, 1) := by decide +kernel
theorem dL_law_1229 : decode cL_law 1229 = .ok (.iload_n 3, 1) := by decide +kernel
theorem dL_law_1230 : decode cL_law 1230 = .ok (.iconst 2, 1) := by decide +kernel
theorem dL_law_1231 : decode cL_law 1231 = .ok (.iadd, 1) := by decide +kernel
theorem dL_law_1232 : decode cL_law 1232 = .ok (.iaload, 1) := by decide +kernel
theorem dL_law_1233 : decode cL_law 1233 = .ok (.invokevirtual 149, 3) := by decide +kernel
theorem dL_law_1236 : decode cL_law 1236 = .ok (.if_icmp .eq 446, 3) := by decide +kernel
theorem dL_law_1239 : decode cL_law 1239 = .ok (.iconst 0, 1) := by decide +kernel
theorem dL_law_1240 : decode cL_law 1240 = .ok (.ireturn, 1) := by decide +kernel
theorem dL_law_1241 : decode cL_law 1241 = .ok (.aload_n 1, 1) := by decide +kernel
theorem dL_law_1242 : decode cL_law 1242 = .ok (.aload_n 0, 1) := by decide +kernel
theorem dL_law_1243 : decode cL_law 1243 = .ok (.iload_n 3, 1) := by decide +kernel
theorem dL_law_1244 : decode cL_law 1244 = .ok (.iconst 1, 1) := by decide +kernel
theorem dL_law_1245 : decode cL_law 1245 = .ok (.iadd, 1) := by decide +kernel
theorem dL_law_1246 : decode cL_law 1246 = .ok (.iaload, 1) := by decide +kernel
theorem dL_law_1247 : decode cL_law 1247 = .ok (.aload_n 0, 1) := by decide +kernel
theorem dL_law_1248 : decode cL_law 1248 = .ok (.iload_n 3, 1) := by decide +kernel
theorem dL_law_1249 : decode cL_law 1249 = .ok (.iconst 2, 1) := by decide +kernel
theorem dL_law_1250 : decode cL_law 1250 = .ok (.iadd, 1) := by decide +kernel
theorem dL_law_1251 : decode cL_law 1251 = .ok (.iaload, 1) := by decide +kernel
theorem dL_law_1252 : decode cL_law 1252 = .ok (.aload_n 0, 1) := by decide +kernel
theorem dL_law_1253 : decode cL_law 1253 = .ok (.iload_n 3, 1) := by decide +kernel
theorem dL_law_1254 : decode cL_law 1254 = .ok (.iconst 3, 1) := by decide +kernel
theorem dL_law_1255 : decode cL_law 1255 = .ok (.iadd, 1) := by decide +kernel
theorem dL_law_1256 : decode cL_law 1256 = .ok (.iaload, 1) := by decide +kernel
theorem dL_law_1257 : decode cL_law 1257 = .ok (.invokevirtual 150, 3) := by decide +kernel
theorem dL_law_1260 : decode cL_law 1260 = .ok (.aload_n 2, 1) := by decide +kernel
theorem dL_law_1261 : decode cL_law 1261 = .ok (.aload_n 0, 1) := by decide +kernel
theorem dL_law_1262 : decode cL_law 1262 = .ok (.iload_n 3, 1) := by decide +kernel
theorem dL_law_1263 : decode cL_law 1263 = .ok (.iconst 1, 1) := by decide +kernel
theorem dL_law_1264 : decode cL_law 1264 = .ok (.iadd, 1) := by decide +kernel
theorem dL_law_1265 : decode cL_law 1265 = .ok (.iaload, 1) := by decide +kernel
theorem dL_law_1266 : decode cL_law 1266 = .ok (.aload_n 0, 1) := by decide +kernel
theorem dL_law_1267 : decode cL_law 1267 = .ok (.iload_n 3, 1) := by decide +kernel
theorem dL_law_1268 : decode cL_law 1268 = .ok (.iconst 2, 1) := by decide +kernel
theorem dL_law_1269 : decode cL_law 1269 = .ok (.iadd, 1) := by decide +kernel
theorem dL_law_1270 : decode cL_law 1270 = .ok (.iaload, 1) := by decide +kernel
theorem dL_law_1271 : decode cL_law 1271 = .ok (.aload_n 0, 1) := by decide +kernel
theorem dL_law_1272 : decode cL_law 1272 = .ok (.iload_n 3, 1) := by decide +kernel
theorem dL_law_1273 : decode cL_law 1273 = .ok (.iconst 3, 1) := by decide +kernel
theorem dL_law_1274 : decode cL_law 1274 = .ok (.iadd, 1) := by decide +kernel
theorem dL_law_1275 : decode cL_law 1275 = .ok (.iaload, 1) := by decide +kernel
theorem dL_law_1276 : decode cL_law 1276 = .ok (.invokevirtual 153, 3) := by decide +kernel
theorem dL_law_1279 : decode cL_law 1279 = .ok (.if_icmp .eq 403, 3) := by decide +kernel
theorem dL_law_1282 : decode cL_law 1282 = .ok (.iconst 0, 1) := by decide +kernel
theorem dL_law_1283 : decode cL_law 1283 = .ok (.ireturn, 1) := by decide +kernel
theorem dL_law_1284 : decode cL_law 1284 = .ok (.aload_n 1, 1) := by decide +kernel
theorem dL_law_1285 : decode cL_law 1285 = .ok (.aload_n 0, 1) := by decide +kernel
theorem dL_law_1286 : decode cL_law 1286 = .ok (.iload_n 3, 1) := by decide +kernel
theorem dL_law_1287 : decode cL_law 1287 = .ok (.iconst 1, 1) := by decide +kernel
theorem dL_law_1288 : decode cL_law 1288 = .ok (.iadd, 1) := by decide +kernel
theorem dL_law_1289 : decode cL_law 1289 = .ok (.iaload, 1) := by decide +kernel
theorem dL_law_1290 : decode cL_law 1290 = .ok (.aload_n 0, 1) := by decide +kernel
theorem dL_law_1291 : decode cL_law 1291 = .ok (.iload_n 3, 1) := by decide +kernel
theorem dL_law_1292 : decode cL_law 1292 = .ok (.iconst 2, 1) := by decide +kernel
theorem dL_law_1293 : decode cL_law 1293 = .ok (.iadd, 1) := by decide +kernel
theorem dL_law_1294 : decode cL_law 1294 = .ok (.iaload, 1) := by decide +kernel
theorem dL_law_1295 : decode cL_law 1295 = .ok (.invokevirtual 154, 3) := by decide +kernel
theorem dL_law_1298 : decode cL_law 1298 = .ok (.aload_n 2, 1) := by decide +kernel
theorem dL_law_1299 : decode cL_law 1299 = .ok (.aload_n 0, 1) := by decide +kernel
theorem dL_law_1300 : decode cL_law 1300 = .ok (.iload_n 3, 1) := by decide +kernel
theorem dL_law_1301 : decode cL_law 1301 = .ok (.iconst 1, 1) := by decide +kernel
theorem dL_law_1302 : decode cL_law 1302 = .ok (.iadd, 1) := by decide +kernel
theorem dL_law_1303 : decode cL_law 1303 = .ok (.iaload, 1) := by decide +kernel
theorem dL_law_1304 : decode cL_law 1304 = .ok (.aload_n 0, 1) := by decide +kernel
theorem dL_law_1305 : decode cL_law 1305 = .ok (.iload_n 3, 1) := by decide +kernel
theorem dL_law_1306 : decode cL_law 1306 = .ok (.iconst 2, 1) := by decide +kernel
theorem dL_law_1307 : decode cL_law 1307 = .ok (.iadd, 1) := by decide +kernel
theorem dL_law_1308 : decode cL_law 1308 = .ok (.iaload, 1) := by decide +kernel
theorem dL_law_1309 : decode cL_law 1309 = .ok (.invokevirtual 157, 3) := by decide +kernel
theorem dL_law_1312 : decode cL_law 1312 = .ok (.if_icmp .eq 370, 3) := by decide +kernel
theorem dL_law_1315 : decode cL_law 1315 = .ok (.iconst 0, 1) := by decide +kernel
theorem dL_law_1316 : decode cL_law 1316 = .ok (.ireturn, 1) := by decide +kernel
theorem dL_law_1317 : decode cL_law 1317 = .ok (.aload_n 1, 1) := by decide +kernel
theorem dL_law_1318 : decode cL_law 1318 = .ok (.aload_n 0, 1) := by decide +kernel
theorem dL_law_1319 : decode cL_law 1319 = .ok (.iload_n 3, 1) := by decide +kernel
theorem dL_law_1320 : decode cL_law 1320 = .ok (.iconst 1, 1) := by decide +kernel
theorem dL_law_1321 : decode cL_law 1321 = .ok (.iadd, 1) := by decide +kernel
theorem dL_law_1322 : decode cL_law 1322 = .ok (.iaload, 1) := by decide +kernel
theorem dL_law_1323 : decode cL_law 1323 = .ok (.invokevirtual 158, 3) := by decide +kernel
theorem dL_law_1326 : decode cL_law 1326 = .ok (.aload_n 2, 1) := by decide +kernel
theorem dL_law_1327 : decode cL_law 1327 = .ok (.aload_n 0, 1) := by decide +kernel
theorem dL_law_1328 : decode cL_law 1328 = .ok (.iload_n 3, 1) := by decide +kernel
theorem dL_law_1329 : decode cL_law 1329 = .ok (.iconst 1, 1) := by decide +kernel
theorem dL_law_1330 : decode cL_law 1330 = .ok (.iadd, 1) := by decide +kernel
theorem dL_law_1331 : decode cL_law 1331 = .ok (.iaload, 1) := by decide +kernel
theorem dL_law_1332 : decode cL_law 1332 = .ok (.invokevirtual 161, 3) := by decide +kernel
theorem dL_law_1335 : decode cL_law 1335 = .ok (.if_icmp .eq 347, 3) := by decide +kernel
theorem dL_law_1338 : decode cL_law 1338 = .ok (.iconst 0, 1) := by decide +kernel
theorem dL_law_1339 : decode cL_law 1339 = .ok (.ireturn, 1) := by decide +kernel
theorem dL_law_1340 : decode cL_law 1340 = .ok (.aload_n 1, 1) := by decide +kernel
theorem dL_law_1341 : decode cL_law 1341 = .ok (.aload_n 0, 1) := by decide +kernel
theorem dL_law_1342 : decode cL_law 1342 = .ok (.iload_n 3, 1) := by decide +kernel
theorem dL_law_1343 : decode cL_law 1343 = .ok (.iconst 1, 1) := by decide +kernel
theorem dL_law_1344 : decode cL_law 1344 = .ok (.iadd, 1) := by decide +kernel
theorem dL_law_1345 : decode cL_law 1345 = .ok (.iaload, 1) := by decide +kernel
theorem dL_law_1346 : decode cL_law 1346 = .ok (.invokevirtual 162, 3) := by decide +kernel
theorem dL_law_1349 : decode cL_law 1349 = .ok (.aload_n 2, 1) := by decide +kernel
theorem dL_law_1350 : decode cL_law 1350 = .ok (.aload_n 0, 1) := by decide +kernel
theorem dL_law_1351 : decode cL_law 1351 = .ok (.iload_n 3, 1) := by decide +kernel
theorem dL_law_1352 : decode cL_law 1352 = .ok (.iconst 1, 1) := by decide +kernel
theorem dL_law_1353 : decode cL_law 1353 = .ok (.iadd, 1) := by decide +kernel
theorem dL_law_1354 : decode cL_law 1354 = .ok (.iaload, 1) := by decide +kernel
theorem dL_law_1355 : decode cL_law 1355 = .ok (.invokevirtual 165, 3) := by decide +kernel
theorem dL_law_1358 : decode cL_law 1358 = .ok (.if_icmp .eq 324, 3) := by decide +kernel
theorem dL_law_1361 : decode cL_law 1361 = .ok (.iconst 0, 1) := by decide +kernel
theorem dL_law_1362 : decode cL_law 1362 = .ok (.ireturn, 1) := by decide +kernel
theorem dL_law_1363 : decode cL_law 1363 = .ok (.aload_n 1, 1) := by decide +kernel
theorem dL_law_1364 : decode cL_law 1364 = .ok (.aload_n 0, 1) := by decide +kernel
theorem dL_law_1365 : decode cL_law 1365 = .ok (.iload_n 3, 1) := by decide +kernel
theorem dL_law_1366 : decode cL_law 1366 = .ok (.iconst 1, 1) := by decide +kernel
theorem dL_law_1367 : decode cL_law 1367 = .ok (.iadd, 1) := by decide +kernel
theorem dL_law_1368 : decode cL_law 1368 = .ok (.iaload, 1) := by decide +kernel
theorem dL_law_1369 : decode cL_law 1369 = .ok (.aload_n 0, 1) := by decide +kernel
theorem dL_law_1370 : decode cL_law 1370 = .ok (.iload_n 3, 1) := by decide +kernel
theorem dL_law_1371 : decode cL_law 1371 = .ok (.iconst 2, 1) := by decide +kernel
theorem dL_law_1372 : decode cL_law 1372 = .ok (.iadd, 1) := by decide +kernel
theorem dL_law_1373 : decode cL_law 1373 = .ok (.iaload, 1) := by decide +kernel
theorem dL_law_1374 : decode cL_law 1374 = .ok (.invokevirtual 166, 3) := by decide +kernel
theorem dL_law_1377 : decode cL_law 1377 = .ok (.aload_n 2, 1) := by decide +kernel
theorem dL_law_1378 : decode cL_law 1378 = .ok (.aload_n 0, 1) := by decide +kernel
theorem dL_law_1379 : decode cL_law 1379 = .ok (.iload_n 3, 1) := by decide +kernel
theorem dL_law_1380 : decode cL_law 1380 = .ok (.iconst 1, 1) := by decide +kernel
theorem dL_law_1381 : decode cL_law 1381 = .ok (.iadd, 1) := by decide +kernel
theorem dL_law_1382 : decode cL_law 1382 = .ok (.iaload, 1) := by decide +kernel
theorem dL_law_1383 : decode cL_law 1383 = .ok (.aload_n 0, 1) := by decide +kernel
theorem dL_law_1384 : decode cL_law 1384 = .ok (.iload_n 3, 1) := by decide +kernel
theorem dL_law_1385 : decode cL_law 1385 = .ok (.iconst 2, 1) := by decide +kernel
theorem dL_law_1386 : decode cL_law 1386 = .ok (.iadd, 1) := by decide +kernel
theorem dL_law_1387 : decode cL_law 1387 = .ok (.iaload, 1) := by decide +kernel
theorem dL_law_1388 : decode cL_law 1388 = .ok (.invokevirtual 169, 3) := by decide +kernel
theorem dL_law_1391 : decode cL_law 1391 = .ok (.if_icmp .eq 291, 3) := by decide +kernel
theorem dL_law_1394 : decode cL_law 1394 = .ok (.iconst 0, 1) := by decide +kernel
theorem dL_law_1395 : decode cL_law 1395 = .ok (.ireturn, 1) := by decide +kernel
theorem dL_law_1396 : decode cL_law 1396 = .ok (.aload_n 1, 1) := by decide +kernel
theorem dL_law_1397 : decode cL_law 1397 = .ok (.aload_n 0, 1) := by decide +kernel
theorem dL_law_1398 : decode cL_law 1398 = .ok (.iload_n 3, 1) := by decide +kernel
theorem dL_law_1399 : decode cL_law 1399 = .ok (.iconst 1, 1) := by decide +kernel
theorem dL_law_1400 : decode cL_law 1400 = .ok (.iadd, 1) := by decide +kernel
theorem dL_law_1401 : decode cL_law 1401 = .ok (.iaload, 1) := by decide +kernel
theorem dL_law_1402 : decode cL_law 1402 = .ok (.aload_n 0, 1) := by decide +kernel
theorem dL_law_1403 : decode cL_law 1403 = .ok (.iload_n 3, 1) := by decide +kernel
theorem dL_law_1404 : decode cL_law 1404 = .ok (.iconst 2, 1) := by decide +kernel
theorem dL_law_1405 : decode cL_law 1405 = .ok (.iadd, 1) := by decide +kernel
theorem dL_law_1406 : decode cL_law 1406 = .ok (.iaload, 1) := by decide +kernel
theorem dL_law_1407 : decode cL_law 1407 = .ok (.aload_n 0, 1) := by decide +kernel
theorem dL_law_1408 : decode cL_law 1408 = .ok (.iload_n 3, 1) := by decide +kernel
theorem dL_law_1409 : decode cL_law 1409 = .ok (.iconst 3, 1) := by decide +kernel
theorem dL_law_1410 : decode cL_law 1410 = .ok (.iadd, 1) := by decide +kernel
theorem dL_law_1411 : decode cL_law 1411 = .ok (.iaload, 1) := by decide +kernel
theorem dL_law_1412 : decode cL_law 1412 = .ok (.aload_n 0, 1) := by decide +kernel
theorem dL_law_1413 : decode cL_law 1413 = .ok (.iload_n 3, 1) := by decide +kernel
theorem dL_law_1414 : decode cL_law 1414 = .ok (.iconst 4, 1) := by decide +kernel
theorem dL_law_1415 : decode cL_law 1415 = .ok (.iadd, 1) := by decide +kernel
theorem dL_law_1416 : decode cL_law 1416 = .ok (.iaload, 1) := by decide +kernel
theorem dL_law_1417 : decode cL_law 1417 = .ok (.invokevirtual 170, 3) := by decide +kernel
theorem dL_law_1420 : decode cL_law 1420 = .ok (.aload_n 2, 1) := by decide +kernel
theorem dL_law_1421 : decode cL_law 1421 = .ok (.aload_n 0, 1) := by decide +kernel
theorem dL_law_1422 : decode cL_law 1422 = .ok (.iload_n 3, 1) := by decide +kernel
theorem dL_law_1423 : decode cL_law 1423 = .ok (.iconst 1, 1) := by decide +kernel
theorem dL_law_1424 : decode cL_law 1424 = .ok (.iadd, 1) := by decide +kernel
theorem dL_law_1425 : decode cL_law 1425 = .ok (.iaload, 1) := by decide +kernel
theorem dL_law_1426 : decode cL_law 1426 = .ok (.aload_n 0, 1) := by decide +kernel
theorem dL_law_1427 : decode cL_law 1427 = .ok (.iload_n 3, 1) := by decide +kernel
theorem dL_law_1428 : decode cL_law 1428 = .ok (.iconst 2, 1) := by decide +kernel
theorem dL_law_1429 : decode cL_law 1429 = .ok (.iadd, 1) := by decide +kernel
theorem dL_law_1430 : decode cL_law 1430 = .ok (.iaload, 1) := by decide +kernel
theorem dL_law_1431 : decode cL_law 1431 = .ok (.aload_n 0, 1) := by decide +kernel
theorem dL_law_1432 : decode cL_law 1432 = .ok (.iload_n 3, 1) := by decide +kernel
theorem dL_law_1433 : decode cL_law 1433 = .ok (.iconst 3, 1) := by decide +kernel
theorem dL_law_1434 : decode cL_law 1434 = .ok (.iadd, 1) := by decide +kernel
theorem dL_law_1435 : decode cL_law 1435 = .ok (.iaload, 1) := by decide +kernel
theorem dL_law_1436 : decode cL_law 1436 = .ok (.aload_n 0, 1) := by decide +kernel
theorem dL_law_1437 : decode cL_law 1437 = .ok (.iload_n 3, 1) := by decide +kernel
theorem dL_law_1438 : decode cL_law 1438 = .ok (.iconst 4, 1) := by decide +kernel
theorem dL_law_1439 : decode cL_law 1439 = .ok (.iadd, 1) := by decide +kernel
theorem dL_law_1440 : decode cL_law 1440 = .ok (.iaload, 1) := by decide +kernel
theorem dL_law_1441 : decode cL_law 1441 = .ok (.invokevirtual 174, 3) := by decide +kernel
theorem dL_law_1444 : decode cL_law 1444 = .ok (.if_icmp .eq 238, 3) := by decide +kernel
theorem dL_law_1447 : decode cL_law 1447 = .ok (.iconst 0, 1) := by decide +kernel
theorem dL_law_1448 : decode cL_law 1448 = .ok (.ireturn, 1) := by decide +kernel
theorem dL_law_1449 : decode cL_law 1449 = .ok (.aload_n 1, 1) := by decide +kernel
theorem dL_law_1450 : decode cL_law 1450 = .ok (.aload_n 0, 1) := by decide +kernel
theorem dL_law_1451 : decode cL_law 1451 = .ok (.iload_n 3, 1) := by decide +kernel
theorem dL_law_1452 : decode cL_law 1452 = .ok (.iconst 1, 1) := by decide +kernel
theorem dL_law_1453 : decode cL_law 1453 = .ok (.iadd, 1) := by decide +kernel
theorem dL_law_1454 : decode cL_law 1454 = .ok (.iaload, 1) := by decide +kernel
theorem dL_law_1455 : decode cL_law 1455 = .ok (.invokevirtual 175, 3) := by decide +kernel
theorem dL_law_1458 : decode cL_law 1458 = .ok (.aload_n 2, 1) := by decide +kernel
theorem dL_law_1459 : decode cL_law 1459 = .ok (.aload_n 0, 1) := by decide +kernel
theorem dL_law_1460 : decode cL_law 1460 = .ok (.iload_n 3, 1) := by decide +kernel
theorem dL_law_1461 : decode cL_law 1461 = .ok (.iconst 1, 1) := by decide +kernel
theorem dL_law_1462 : decode cL_law 1462 = .ok (.iadd, 1) := by decide +kernel
theorem dL_law_1463 : decode cL_law 1463 = .ok (.iaload, 1) := by decide +kernel
theorem dL_law_1464 : decode cL_law 1464 = .ok (.invokevirtual 178, 3) := by decide +kernel
theorem dL_law_1467 : decode cL_law 1467 = .ok (.if_icmp .eq 215, 3) := by decide +kernel
theorem dL_law_1470 : decode cL_law 1470 = .ok (.iconst 0, 1) := by decide +kernel
theorem dL_law_1471 : decode cL_law 1471 = .ok (.ireturn, 1) := by decide +kernel
theorem dL_law_1472 : decode cL_law 1472 = .ok (.aload_n 1, 1) := by decide +kernel
theorem dL_law_1473 : decode cL_law 1473 = .ok (.aload_n 0, 1) := by decide +kernel
theorem dL_law_1474 : decode cL_law 1474 = .ok (.iload_n 3, 1) := by decide +kernel
theorem dL_law_1475 : decode cL_law 1475 = .ok (.iconst 1, 1) := by decide +kernel
theorem dL_law_1476 : decode cL_law 1476 = .ok (.iadd, 1) := by decide +kernel
theorem dL_law_1477 : decode cL_law 1477 = .ok (.iaload, 1) := by decide +kernel
theorem dL_law_1478 : decode cL_law 1478 = .ok (.invokevirtual 179, 3) := by decide +kernel
theorem dL_law_1481 : decode cL_law 1481 = .ok (.aload_n 2, 1) := by decide +kernel
theorem dL_law_1482 : decode cL_law 1482 = .ok (.aload_n 0, 1) := by decide +kernel
theorem dL_law_1483 : decode cL_law 1483 = .ok (.iload_n 3, 1) := by decide +kernel
theorem dL_law_1484 : decode cL_law 1484 = .ok (.iconst 1, 1) := by decide +kernel
theorem dL_law_1485 : decode cL_law 1485 = .ok (.iadd, 1) := by decide +kernel
theorem dL_law_1486 : decode cL_law 1486 = .ok (.iaload, 1) := by decide +kernel
theorem dL_law_1487 : decode cL_law 1487 = .ok (.invokevirtual 182, 3) := by decide +kernel
theorem dL_law_1490 : decode cL_law 1490 = .ok (.if_icmp .eq 192, 3) := by decide +kernel
theorem dL_law_1493 : decode cL_law 1493 = .ok (.iconst 0, 1) := by decide +kernel
theorem dL_law_1494 : decode cL_law 1494 = .ok (.ireturn, 1) := by decide +kernel
theorem dL_law_1495 : decode cL_law 1495 = .ok (.aload_n 1, 1) := by decide +kernel
theorem dL_law_1496 : decode cL_law 1496 = .ok (.aload_n 0, 1) := by decide +kernel
theorem dL_law_1497 : decode cL_law 1497 = .ok (.iload_n 3, 1) := by decide +kernel
theorem dL_law_1498 : decode cL_law 1498 = .ok (.iconst 1, 1) := by decide +kernel
theorem dL_law_1499 : decode cL_law 1499 = .ok (.iadd, 1) := by decide +kernel
theorem dL_law_1500 : decode cL_law 1500 = .ok (.iaload, 1) := by decide +kernel
theorem dL_law_1501 : decode cL_law 1501 = .ok (.invokevirtual 183, 3) := by decide +kernel
theorem dL_law_1504 : decode cL_law 1504 = .ok (.aload_n 2, 1) := by decide +kernel
theorem dL_law_1505 : decode cL_law 1505 = .ok (.aload_n 0, 1) := by decide +kernel
theorem dL_law_1506 : decode cL_law 1506 = .ok (.iload_n 3, 1) := by decide +kernel
theorem dL_law_1507 : decode cL_law 1507 = .ok (.iconst 1, 1) := by decide +kernel
theorem dL_law_1508 : decode cL_law 1508 = .ok (.iadd, 1) := by decide +kernel
theorem dL_law_1509 : decode cL_law 1509 = .ok (.iaload, 1) := by decide +kernel
theorem dL_law_1510 : decode cL_law 1510 = .ok (.invokevirtual 186, 3) := by decide +kernel
theorem dL_law_1513 : decode cL_law 1513 = .ok (.if_icmp .eq 169, 3) := by decide +kernel
theorem dL_law_1516 : decode cL_law 1516 = .ok (.iconst 0, 1) := by decide +kernel
theorem dL_law_1517 : decode cL_law 1517 = .ok (.ireturn, 1) := by decide +kernel
theorem dL_law_1518 : decode cL_law 1518 = .ok (.aload_n 1, 1) := by decide +kernel
theorem dL_law_1519 : decode cL_law 1519 = .ok (.aload_n 0, 1) := by decide +kernel
theorem dL_law_1520 : decode cL_law 1520 = .ok (.iload_n 3, 1) := by decide +kernel
theorem dL_law_1521 : decode cL_law 1521 = .ok (.iconst 1, 1) := by decide +kernel
theorem dL_law_1522 : decode cL_law 1522 = .ok (.iadd, 1) := by decide +kernel
theorem dL_law_1523 : decode cL_law 1523 = .ok (.iaload, 1) := by decide +kernel
theorem dL_law_1524 : decode cL_law 1524 = .ok (.invokevirtual 187, 3) := by decide +kernel
theorem dL_law_1527 : decode cL_law 1527 = .ok (.aload_n 2, 1) := by decide +kernel
theorem dL_law_1528 : decode cL_law 1528 = .ok (.aload_n 0, 1) := by decide +kernel
theorem dL_law_1529 : decode cL_law 1529 = .ok (.iload_n 3, 1) := by decide +kernel
theorem dL_law_1530 : decode cL_law 1530 = .ok (.iconst 1, 1) := by decide +kernel
theorem dL_law_1531 : decode cL_law 1531 = .ok (.iadd, 1) := by decide +kernel
theorem dL_law_1532 : decode cL_law 1532 = .ok (.iaload, 1) := by decide +kernel
theorem dL_law_1533 : decode cL_law 1533 = .ok (.invokevirtual 190, 3) := by decide +kernel
theorem dL_law_1536 : decode cL_law 1536 = .ok (.if_icmp .eq 146, 3) := by decide +kernel
theorem dL_law_1539 : decode cL_law 1539 = .ok (.iconst 0, 1) := by decide +kernel
theorem dL_law_1540 : decode cL_law 1540 = .ok (.ireturn, 1) := by decide +kernel
theorem dL_law_1541 : decode cL_law 1541 = .ok (.aload_n 1, 1) := by decide +kernel
theorem dL_law_1542 : decode cL_law 1542 = .ok (.aload_n 0, 1) := by decide +kernel
theorem dL_law_1543 : decode cL_law 1543 = .ok (.iload_n 3, 1) := by decide +kernel
theorem dL_law_1544 : decode cL_law 1544 = .ok (.iconst 1, 1) := by decide +kernel
theorem dL_law_1545 : decode cL_law 1545 = .ok (.iadd, 1) := by decide +kernel
theorem dL_law_1546 : decode cL_law 1546 = .ok (.iaload, 1) := by decide +kernel
theorem dL_law_1547 : decode cL_law 1547 = .ok (.invokevirtual 191, 3) := by decide +kernel
theorem dL_law_1550 : decode cL_law 1550 = .ok (.aload_n 2, 1) := by decide +kernel
theorem dL_law_1551 : decode cL_law 1551 = .ok (.aload_n 0, 1) := by decide +kernel
theorem dL_law_1552 : decode cL_law 1552 = .ok (.iload_n 3, 1) := by decide +kernel
theorem dL_law_1553 : decode cL_law 1553 = .ok (.iconst 1, 1) := by decide +kernel
theorem dL_law_1554 : decode cL_law 1554 = .ok (.iadd, 1) := by decide +kernel
theorem dL_law_1555 : decode cL_law 1555 = .ok (.iaload, 1) := by decide +kernel
theorem dL_law_1556 : decode cL_law 1556 = .ok (.invokevirtual 194, 3) := by decide +kernel
theorem dL_law_1559 : decode cL_law 1559 = .ok (.if_icmp .eq 123, 3) := by decide +kernel
theorem dL_law_1562 : decode cL_law 1562 = .ok (.iconst 0, 1) := by decide +kernel
theorem dL_law_1563 : decode cL_law 1563 = .ok (.ireturn, 1) := by decide +kernel
theorem dL_law_1564 : decode cL_law 1564 = .ok (.aload_n 1, 1) := by decide +kernel
theorem dL_law_1565 : decode cL_law 1565 = .ok (.aload_n 0, 1) := by decide +kernel
theorem dL_law_1566 : decode cL_law 1566 = .ok (.iload_n 3, 1) := by decide +kernel
theorem dL_law_1567 : decode cL_law 1567 = .ok (.iconst 1, 1) := by decide +kernel
theorem dL_law_1568 : decode cL_law 1568 = .ok (.iadd, 1) := by decide +kernel
theorem dL_law_1569 : decode cL_law 1569 = .ok (.iaload, 1) := by decide +kernel
theorem dL_law_1570 : decode cL_law 1570 = .ok (.invokevirtual 195, 3) := by decide +kernel
theorem dL_law_1573 : decode cL_law 1573 = .ok (.aload_n 2, 1) := by decide +kernel
theorem dL_law_1574 : decode cL_law 1574 = .ok (.aload_n 0, 1) := by decide +kernel
theorem dL_law_1575 : decode cL_law 1575 = .ok (.iload_n 3, 1) := by decide +kernel
theorem dL_law_1576 : decode cL_law 1576 = .ok (.iconst 1, 1) := by decide +kernel
theorem dL_law_1577 : decode cL_law 1577 = .ok (.iadd, 1) := by decide +kernel
theorem dL_law_1578 : decode cL_law 1578 = .ok (.iaload, 1) := by decide +kernel
theorem dL_law_1579 : decode cL_law 1579 = .ok (.invokevirtual 198, 3) := by decide +kernel
theorem dL_law_1582 : decode cL_law 1582 = .ok (.if_icmp .eq 100, 3) := by decide +kernel
theorem dL_law_1585 : decode cL_law 1585 = .ok (.iconst 0, 1) := by decide +kernel
theorem dL_law_1586 : decode cL_law 1586 = .ok (.ireturn, 1) := by decide +kernel
theorem dL_law_1587 : decode cL_law 1587 = .ok (.aload_n 1, 1) := by decide +kernel
theorem dL_law_1588 : decode cL_law 1588 = .ok (.aload_n 0, 1) := by decide +kernel
theorem dL_law_1589 : decode cL_law 1589 = .ok (.iload_n 3, 1) := by decide +kernel
theorem dL_law_1590 : decode cL_law 1590 = .ok (.iconst 1, 1) := by decide +kernel
theorem dL_law_1591 : decode cL_law 1591 = .ok (.iadd, 1) := by decide +kernel
theorem dL_law_1592 : decode cL_law 1592 = .ok (.iaload, 1) := by decide +kernel
theorem dL_law_1593 : decode cL_law 1593 = .ok (.invokevirtual 199, 3) := by decide +kernel
theorem dL_law_1596 : decode cL_law 1596 = .ok (.aload_n 2, 1) := by decide +kernel
theorem dL_law_1597 : decode cL_law 1597 = .ok (.aload_n 0, 1) := by decide +kernel
theorem dL_law_1598 : decode cL_law 1598 = .ok (.iload_n 3, 1) := by decide +kernel
theorem dL_law_1599 : decode cL_law 1599 = .ok (.iconst 1, 1) := by decide +kernel
theorem dL_law_1600 : decode cL_law 1600 = .ok (.iadd, 1) := by decide +kernel
theorem dL_law_1601 : decode cL_law 1601 = .ok (.iaload, 1) := by decide +kernel
theorem dL_law_1602 : decode cL_law 1602 = .ok (.invokevirtual 202, 3) := by decide +kernel
theorem dL_law_1605 : decode cL_law 1605 = .ok (.if_icmp .eq 77, 3) := by decide +kernel
theorem dL_law_1608 : decode cL_law 1608 = .ok (.iconst 0, 1) := by decide +kernel
theorem dL_law_1609 : decode cL_law 1609 = .ok (.ireturn, 1) := by decide +kernel
theorem dL_law_1610 : decode cL_law 1610 = .ok (.aload_n 1, 1) := by decide +kernel
theorem dL_law_1611 : decode cL_law 1611 = .ok (.aload_n 0, 1) := by decide +kernel
theorem dL_law_1612 : decode cL_law 1612 = .ok (.iload_n 3, 1) := by decide +kernel
theorem dL_law_1613 : decode cL_law 1613 = .ok (.iconst 1, 1) := by decide +kernel
theorem dL_law_1614 : decode cL_law 1614 = .ok (.iadd, 1) := by decide +kernel
theorem dL_law_1615 : decode cL_law 1615 = .ok (.iaload, 1) := by decide +kernel
theorem dL_law_1616 : decode cL_law 1616 = .ok (.invokevirtual 203, 3) := by decide +kernel
theorem dL_law_1619 : decode cL_law 1619 = .ok (.aload_n 2, 1) := by decide +kernel
theorem dL_law_1620 : decode cL_law 1620 = .ok (.aload_n 0, 1) := by decide +kernel
theorem dL_law_1621 : decode cL_law 1621 = .ok (.iload_n 3, 1) := by decide +kernel
theorem dL_law_1622 : decode cL_law 1622 = .ok (.iconst 1, 1) := by decide +kernel
theorem dL_law_1623 : decode cL_law 1623 = .ok (.iadd, 1) := by decide +kernel
theorem dL_law_1624 : decode cL_law 1624 = .ok (.iaload, 1) := by decide +kernel
theorem dL_law_1625 : decode cL_law 1625 = .ok (.invokevirtual 206, 3) := by decide +kernel
theorem dL_law_1628 : decode cL_law 1628 = .ok (.if_icmp .eq 54, 3) := by decide +kernel
theorem dL_law_1631 : decode cL_law 1631 = .ok (.iconst 0, 1) := by decide +kernel
theorem dL_law_1632 : decode cL_law 1632 = .ok (.ireturn, 1) := by decide +kernel
theorem dL_law_1633 : decode cL_law 1633 = .ok (.aload_n 1, 1) := by decide +kernel
theorem dL_law_1634 : decode cL_law 1634 = .ok (.invokevirtual 207, 3) := by decide +kernel
theorem dL_law_1637 : decode cL_law 1637 = .ok (.aload_n 2, 1) := by decide +kernel
theorem dL_law_1638 : decode cL_law 1638 = .ok (.invokevirtual 210, 3) := by decide +kernel
theorem dL_law_1641 : decode cL_law 1641 = .ok (.if_icmp .eq 41, 3) := by decide +kernel
theorem dL_law_1644 : decode cL_law 1644 = .ok (.iconst 0, 1) := by decide +kernel
theorem dL_law_1645 : decode cL_law 1645 = .ok (.ireturn, 1) := by decide +kernel
theorem dL_law_1646 : decode cL_law 1646 = .ok (.aload_n 1, 1) := by decide +kernel
theorem dL_law_1647 : decode cL_law 1647 = .ok (.invokevirtual 211, 3) := by decide +kernel
theorem dL_law_1650 : decode cL_law 1650 = .ok (.aload_n 2, 1) := by decide +kernel
theorem dL_law_1651 : decode cL_law 1651 = .ok (.invokevirtual 214, 3) := by decide +kernel
theorem dL_law_1654 : decode cL_law 1654 = .ok (.if_icmp .eq 28, 3) := by decide +kernel
theorem dL_law_1657 : decode cL_law 1657 = .ok (.iconst 0, 1) := by decide +kernel
theorem dL_law_1658 : decode cL_law 1658 = .ok (.ireturn, 1) := by decide +kernel
theorem dL_law_1659 : decode cL_law 1659 = .ok (.aload_n 1, 1) := by decide +kernel
theorem dL_law_1660 : decode cL_law 1660 = .ok (.aload_n 0, 1) := by decide +kernel
theorem dL_law_1661 : decode cL_law 1661 = .ok (.iload_n 3, 1) := by decide +kernel
theorem dL_law_1662 : decode cL_law 1662 = .ok (.iconst 1, 1) := by decide +kernel
theorem dL_law_1663 : decode cL_law 1663 = .ok (.iadd, 1) := by decide +kernel
theorem dL_law_1664 : decode cL_law 1664 = .ok (.iaload, 1) := by decide +kernel
theorem dL_law_1665 : decode cL_law 1665 = .ok (.invokevirtual 215, 3) := by decide +kernel
theorem dL_law_1668 : decode cL_law 1668 = .ok (.aload_n 2, 1) := by decide +kernel
theorem dL_law_1669 : decode cL_law 1669 = .ok (.aload_n 0, 1) := by decide +kernel
theorem dL_law_1670 : decode cL_law 1670 = .ok (.iload_n 3, 1) := by decide +kernel
theorem dL_law_1671 : decode cL_law 1671 = .ok (.iconst 1, 1) := by decide +kernel
theorem dL_law_1672 : decode cL_law 1672 = .ok (.iadd, 1) := by decide +kernel
theorem dL_law_1673 : decode cL_law 1673 = .ok (.iaload, 1) := by decide +kernel
theorem dL_law_1674 : decode cL_law 1674 = .ok (.invokevirtual 218, 3) := by decide +kernel
theorem dL_law_1677 : decode cL_law 1677 = .ok (.if_icmp .eq 5, 3) := by decide +kernel
theorem dL_law_1680 : decode cL_law 1680 = .ok (.iconst 0, 1) := by decide +kernel
theorem dL_law_1681 : decode cL_law 1681 = .ok (.ireturn, 1) := by decide +kernel
theorem dL_law_1682 : decode cL_law 1682 = .ok (.iinc 3 6, 3) := by decide +kernel
theorem dL_law_1685 : decode cL_law 1685 = .ok (.goto (-1667), 3) := by decide +kernel
theorem dL_law_1688 : decode cL_law 1688 = .ok (.iconst 1, 1) := by decide +kernel
theorem dL_law_1689 : decode cL_law 1689 = .ok (.ireturn, 1) := by decide +kernel
