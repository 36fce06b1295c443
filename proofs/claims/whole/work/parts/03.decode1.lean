theorem dX0_init_0 : decode cX0_init 0 = .ok (.aload_n 0, 1) := by decide +kernel
theorem dX0_init_1 : decode cX0_init 1 = .ok (.invokespecial 3, 3) := by decide +kernel
theorem dX0_init_4 : decode cX0_init 4 = .ok (.aload_n 0, 1) := by decide +kernel
theorem dX0_init_5 : decode cX0_init 5 = .ok (.iconst (-1), 1) := by decide +kernel
theorem dX0_init_6 : decode cX0_init 6 = .ok (.putfield 9, 3) := by decide +kernel
theorem dX0_init_9 : decode cX0_init 9 = .ok (.aload_n 0, 1) := by decide +kernel
theorem dX0_init_10 : decode cX0_init 10 = .ok (.iconst 0, 1) := by decide +kernel
theorem dX0_init_11 : decode cX0_init 11 = .ok (.putfield 15, 3) := by decide +kernel
theorem dX0_init_14 : decode cX0_init 14 = .ok (.return_, 1) := by decide +kernel
theorem dX0_begin_0 : decode cX0_begin 0 = .ok (.aload_n 0, 1) := by decide +kernel
theorem dX0_begin_1 : decode cX0_begin 1 = .ok (.iconst (-1), 1) := by decide +kernel
theorem dX0_begin_2 : decode cX0_begin 2 = .ok (.putfield 9, 3) := by decide +kernel
theorem dX0_begin_5 : decode cX0_begin 5 = .ok (.aload_n 0, 1) := by decide +kernel
theorem dX0_begin_6 : decode cX0_begin 6 = .ok (.iconst 0, 1) := by decide +kernel
theorem dX0_begin_7 : decode cX0_begin 7 = .ok (.putfield 15, 3) := by decide +kernel
theorem dX0_begin_10 : decode cX0_begin 10 = .ok (.return_, 1) := by decide +kernel
theorem dX0_offer_0 : decode cX0_offer 0 = .ok (.aload_n 0, 1) := by decide +kernel
theorem dX0_offer_1 : decode cX0_offer 1 = .ok (.getfield 9, 3) := by decide +kernel
theorem dX0_offer_4 : decode cX0_offer 4 = .ok (.iconst (-1), 1) := by decide +kernel
theorem dX0_offer_5 : decode cX0_offer 5 = .ok (.if_icmp .eq 11, 3) := by decide +kernel
theorem dX0_offer_8 : decode cX0_offer 8 = .ok (.iload_n 2, 1) := by decide +kernel
theorem dX0_offer_9 : decode cX0_offer 9 = .ok (.aload_n 0, 1) := by decide +kernel
theorem dX0_offer_10 : decode cX0_offer 10 = .ok (.getfield 15, 3) := by decide +kernel
theorem dX0_offer_13 : decode cX0_offer 13 = .ok (.if_icmp .le 13, 3) := by decide +kernel
theorem dX0_offer_16 : decode cX0_offer 16 = .ok (.aload_n 0, 1) := by decide +kernel
theorem dX0_offer_17 : decode cX0_offer 17 = .ok (.iload_n 1, 1) := by decide +kernel
theorem dX0_offer_18 : decode cX0_offer 18 = .ok (.putfield 9, 3) := by decide +kernel
theorem dX0_offer_21 : decode cX0_offer 21 = .ok (.aload_n 0, 1) := by decide +kernel
theorem dX0_offer_22 : decode cX0_offer 22 = .ok (.iload_n 2, 1) := by decide +kernel
theorem dX0_offer_23 : decode cX0_offer 23 = .ok (.putfield 15, 3) := by decide +kernel
theorem dX0_offer_26 : decode cX0_offer 26 = .ok (.return_, 1) := by decide +kernel
theorem dX1_init_0 : decode cX1_init 0 = .ok (.aload_n 0, 1) := by decide +kernel
theorem dX1_init_1 : decode cX1_init 1 = .ok (.invokespecial 3, 3) := by decide +kernel
theorem dX1_init_4 : decode cX1_init 4 = .ok (.aload_n 0, 1) := by decide +kernel
theorem dX1_init_5 : decode cX1_init 5 = .ok (.bipush 10, 2) := by decide +kernel
theorem dX1_init_7 : decode cX1_init 7 = .ok (.newarray .int, 2) := by decide +kernel
theorem dX1_init_9 : decode cX1_init 9 = .ok (.putfield 9, 3) := by decide +kernel
theorem dX1_init_12 : decode cX1_init 12 = .ok (.aload_n 0, 1) := by decide +kernel
theorem dX1_init_13 : decode cX1_init 13 = .ok (.bipush 10, 2) := by decide +kernel
theorem dX1_init_15 : decode cX1_init 15 = .ok (.newarray .int, 2) := by decide +kernel
theorem dX1_init_17 : decode cX1_init 17 = .ok (.putfield 15, 3) := by decide +kernel
theorem dX1_init_20 : decode cX1_init 20 = .ok (.aload_n 0, 1) := by decide +kernel
theorem dX1_init_21 : decode cX1_init 21 = .ok (.bipush 10, 2) := by decide +kernel
theorem dX1_init_23 : decode cX1_init 23 = .ok (.newarray .int, 2) := by decide +kernel
theorem dX1_init_25 : decode cX1_init 25 = .ok (.putfield 18, 3) := by decide +kernel
theorem dX1_init_28 : decode cX1_init 28 = .ok (.aload_n 0, 1) := by decide +kernel
theorem dX1_init_29 : decode cX1_init 29 = .ok (.bipush 10, 2) := by decide +kernel
theorem dX1_init_31 : decode cX1_init 31 = .ok (.newarray .int, 2) := by decide +kernel
theorem dX1_init_33 : decode cX1_init 33 = .ok (.putfield 21, 3) := by decide +kernel
theorem dX1_init_36 : decode cX1_init 36 = .ok (.aload_n 0, 1) := by decide +kernel
theorem dX1_init_37 : decode cX1_init 37 = .ok (.iconst 4, 1) := by decide +kernel
theorem dX1_init_38 : decode cX1_init 38 = .ok (.newarray .int, 2) := by decide +kernel
theorem dX1_init_40 : decode cX1_init 40 = .ok (.putfield 24, 3) := by decide +kernel
theorem dX1_init_43 : decode cX1_init 43 = .ok (.aload_n 0, 1) := by decide +kernel
theorem dX1_init_44 : decode cX1_init 44 = .ok (.iconst 0, 1) := by decide +kernel
theorem dX1_init_45 : decode cX1_init 45 = .ok (.putfield 27, 3) := by decide +kernel
theorem dX1_init_48 : decode cX1_init 48 = .ok (.aload_n 0, 1) := by decide +kernel
theorem dX1_init_49 : decode cX1_init 49 = .ok (.iconst 0, 1) := by decide +kernel
theorem dX1_init_50 : decode cX1_init 50 = .ok (.putfield 31, 3) := by decide +kernel
theorem dX1_init_53 : decode cX1_init 53 = .ok (.aload_n 0, 1) := by decide +kernel
theorem dX1_init_54 : decode cX1_init 54 = .ok (.iconst 0, 1) := by decide +kernel
theorem dX1_init_55 : decode cX1_init 55 = .ok (.putfield 34, 3) := by decide +kernel
theorem dX1_init_58 : decode cX1_init 58 = .ok (.aload_n 0, 1) := by decide +kernel
theorem dX1_init_59 : decode cX1_init 59 = .ok (.iconst 0, 1) := by decide +kernel
theorem dX1_init_60 : decode cX1_init 60 = .ok (.putfield 37, 3) := by decide +kernel
theorem dX1_init_63 : decode cX1_init 63 = .ok (.aload_n 0, 1) := by decide +kernel
theorem dX1_init_64 : decode cX1_init 64 = .ok (.iconst 1, 1) := by decide +kernel
theorem dX1_init_65 : decode cX1_init 65 = .ok (.putfield 40, 3) := by decide +kernel
theorem dX1_init_68 : decode cX1_init 68 = .ok (.aload_n 0, 1) := by decide +kernel
theorem dX1_init_69 : decode cX1_init 69 = .ok (.iconst 0, 1) := by decide +kernel
theorem dX1_init_70 : decode cX1_init 70 = .ok (.putfield 43, 3) := by decide +kernel
theorem dX1_init_73 : decode cX1_init 73 = .ok (.aload_n 0, 1) := by decide +kernel
theorem dX1_init_74 : decode cX1_init 74 = .ok (.sipush 150, 3) := by decide +kernel
theorem dX1_init_77 : decode cX1_init 77 = .ok (.putfield 46, 3) := by decide +kernel
theorem dX1_init_80 : decode cX1_init 80 = .ok (.aload_n 0, 1) := by decide +kernel
theorem dX1_init_81 : decode cX1_init 81 = .ok (.iconst 1, 1) := by decide +kernel
theorem dX1_init_82 : decode cX1_init 82 = .ok (.putfield 49, 3) := by decide +kernel
theorem dX1_init_85 : decode cX1_init 85 = .ok (.aload_n 0, 1) := by decide +kernel
theorem dX1_init_86 : decode cX1_init 86 = .ok (.iconst 0, 1) := by decide +kernel
theorem dX1_init_87 : decode cX1_init 87 = .ok (.putfield 52, 3) := by decide +kernel
theorem dX1_init_90 : decode cX1_init 90 = .ok (.aload_n 0, 1) := by decide +kernel
theorem dX1_init_91 : decode cX1_init 91 = .ok (.iconst 0, 1) := by decide +kernel
theorem dX1_init_92 : decode cX1_init 92 = .ok (.putfield 55, 3) := by decide +kernel
theorem dX1_init_95 : decode cX1_init 95 = .ok (.aload_n 0, 1) := by decide +kernel
theorem dX1_init_96 : decode cX1_init 96 = .ok (.iconst 0, 1) := by decide +kernel
theorem dX1_init_97 : decode cX1_init 97 = .ok (.putfield 58, 3) := by decide +kernel
theorem dX1_init_100 : decode cX1_init 100 = .ok (.aload_n 0, 1) := by decide +kernel
theorem dX1_init_101 : decode cX1_init 101 = .ok (.iconst 0, 1) := by decide +kernel
theorem dX1_init_102 : decode cX1_init 102 = .ok (.putfield 61, 3) := by decide +kernel
theorem dX1_init_105 : decode cX1_init 105 = .ok (.aload_n 0, 1) := by decide +kernel
theorem dX1_init_106 : decode cX1_init 106 = .ok (.iconst 1, 1) := by decide +kernel
theorem dX1_init_107 : decode cX1_init 107 = .ok (.putfield 64, 3) := by decide +kernel
theorem dX1_init_110 : decode cX1_init 110 = .ok (.return_, 1) := by decide +kernel
theorem dX1_takeFrom_0 : decode cX1_takeFrom 0 = .ok (.aload_n 1, 1) := by decide +kernel
theorem dX1_takeFrom_1 : decode cX1_takeFrom 1 = .ok (.getfield 9, 3) := by decide +kernel
theorem dX1_takeFrom_4 : decode cX1_takeFrom 4 = .ok (.iconst 0, 1) := by decide +kernel
theorem dX1_takeFrom_5 : decode cX1_takeFrom 5 = .ok (.aload_n 0, 1) := by decide +kernel
theorem dX1_takeFrom_6 : decode cX1_takeFrom 6 = .ok (.getfield 9, 3) := by decide +kernel
theorem dX1_takeFrom_9 : decode cX1_takeFrom 9 = .ok (.iconst 0, 1) := by decide +kernel
theorem dX1_takeFrom_10 : decode cX1_takeFrom 10 = .ok (.bipush 10, 2) := by decide +kernel
theorem dX1_takeFrom_12 : decode cX1_takeFrom 12 = .ok (.invokestatic 67, 3) := by decide +kernel
theorem dX1_takeFrom_15 : decode cX1_takeFrom 15 = .ok (.aload_n 1, 1) := by decide +kernel
theorem dX1_takeFrom_16 : decode cX1_takeFrom 16 = .ok (.getfield 15, 3) := by decide +kernel
theorem dX1_takeFrom_19 : decode cX1_takeFrom 19 = .ok (.iconst 0, 1) := by decide +kernel
theorem dX1_takeFrom_20 : decode cX1_takeFrom 20 = .ok (.aload_n 0, 1) := by decide +kernel
theorem dX1_takeFrom_21 : decode cX1_takeFrom 21 = .ok (.getfield 15, 3) := by decide +kernel
theorem dX1_takeFrom_24 : decode cX1_takeFrom 24 = .ok (.iconst 0, 1) := by decide +kernel
theorem dX1_takeFrom_25 : decode cX1_takeFrom 25 = .ok (.bipush 10, 2) := by decide +kernel
theorem dX1_takeFrom_27 : decode cX1_takeFrom 27 = .ok (.invokestatic 67, 3) := by decide +kernel
theorem dX1_takeFrom_30 : decode cX1_takeFrom 30 = .ok (.aload_n 1, 1) := by decide +kernel
theorem dX1_takeFrom_31 : decode cX1_takeFrom 31 = .ok (.getfield 18, 3) := by decide +kernel
theorem dX1_takeFrom_34 : decode cX1_takeFrom 34 = .ok (.iconst 0, 1) := by decide +kernel
theorem dX1_takeFrom_35 : decode cX1_takeFrom 35 = .ok (.aload_n 0, 1) := by decide +kernel
theorem dX1_takeFrom_36 : decode cX1_takeFrom 36 = .ok (.getfield 18, 3) := by decide +kernel
theorem dX1_takeFrom_39 : decode cX1_takeFrom 39 = .ok (.iconst 0, 1) := by decide +kernel
theorem dX1_takeFrom_40 : decode cX1_takeFrom 40 = .ok (.bipush 10, 2) := by decide +kernel
theorem dX1_takeFrom_42 : decode cX1_takeFrom 42 = .ok (.invokestatic 67, 3) := by decide +kernel
theorem dX1_takeFrom_45 : decode cX1_takeFrom 45 = .ok (.aload_n 1, 1) := by decide +kernel
theorem dX1_takeFrom_46 : decode cX1_takeFrom 46 = .ok (.getfield 21, 3) := by decide +kernel
theorem dX1_takeFrom_49 : decode cX1_takeFrom 49 = .ok (.iconst 0, 1) := by decide +kernel
theorem dX1_takeFrom_50 : decode cX1_takeFrom 50 = .ok (.aload_n 0, 1) := by decide +kernel
theorem dX1_takeFrom_51 : decode cX1_takeFrom 51 = .ok (.getfield 21, 3) := by decide +kernel
theorem dX1_takeFrom_54 : decode cX1_takeFrom 54 = .ok (.iconst 0, 1) := by decide +kernel
theorem dX1_takeFrom_55 : decode cX1_takeFrom 55 = .ok (.bipush 10, 2) := by decide +kernel
theorem dX1_takeFrom_57 : decode cX1_takeFrom 57 = .ok (.invokestatic 67, 3) := by decide +kernel
theorem dX1_takeFrom_60 : decode cX1_takeFrom 60 = .ok (.aload_n 1, 1) := by decide +kernel
theorem dX1_takeFrom_61 : decode cX1_takeFrom 61 = .ok (.getfield 24, 3) := by decide +kernel
theorem dX1_takeFrom_64 : decode cX1_takeFrom 64 = .ok (.iconst 0, 1) := by decide +kernel
theorem dX1_takeFrom_65 : decode cX1_takeFrom 65 = .ok (.aload_n 0, 1) := by decide +kernel
theorem dX1_takeFrom_66 : decode cX1_takeFrom 66 = .ok (.getfield 24, 3) := by decide +kernel
theorem dX1_takeFrom_69 : decode cX1_takeFrom 69 = .ok (.iconst 0, 1) := by decide +kernel
theorem dX1_takeFrom_70 : decode cX1_takeFrom 70 = .ok (.iconst 4, 1) := by decide +kernel
theorem dX1_takeFrom_71 : decode cX1_takeFrom 71 = .ok (.invokestatic 67, 3) := by decide +kernel
theorem dX1_takeFrom_74 : decode cX1_takeFrom 74 = .ok (.aload_n 0, 1) := by decide +kernel
theorem dX1_takeFrom_75 : decode cX1_takeFrom 75 = .ok (.aload_n 1, 1) := by decide +kernel
theorem dX1_takeFrom_76 : decode cX1_takeFrom 76 = .ok (.getfield 27, 3) := by decide +kernel
theorem dX1_takeFrom_79 : decode cX1_takeFrom 79 = .ok (.putfield 27, 3) := by decide +kernel
theorem dX1_takeFrom_82 : decode cX1_takeFrom 82 = .ok (.aload_n 0, 1) := by decide +kernel
theorem dX1_takeFrom_83 : decode cX1_takeFrom 83 = .ok (.aload_n 1, 1) := by decide +kernel
theorem dX1_takeFrom_84 : decode cX1_takeFrom 84 = .ok (.getfield 31, 3) := by decide +kernel
theorem dX1_takeFrom_87 : decode cX1_takeFrom 87 = .ok (.putfield 31, 3) := by decide +kernel
theorem dX1_takeFrom_90 : decode cX1_takeFrom 90 = .ok (.aload_n 0, 1) := by decide +kernel
theorem dX1_takeFrom_91 : decode cX1_takeFrom 91 = .ok (.aload_n 1, 1) := by decide +kernel
theorem dX1_takeFrom_92 : decode cX1_takeFrom 92 = .ok (.getfield 34, 3) := by decide +kernel
theorem dX1_takeFrom_95 : decode cX1_takeFrom 95 = .ok (.putfield 34, 3) := by decide +kernel
theorem dX1_takeFrom_98 : decode cX1_takeFrom 98 = .ok (.aload_n 0, 1) := by decide +kernel
theorem dX1_takeFrom_99 : decode cX1_takeFrom 99 = .ok (.aload_n 1, 1) := by decide +kernel
theorem dX1_takeFrom_100 : decode cX1_takeFrom 100 = .ok (.getfield 37, 3) := by decide +kernel
theorem dX1_takeFrom_103 : decode cX1_takeFrom 103 = .ok (.putfield 37, 3) := by decide +kernel
theorem dX1_takeFrom_106 : decode cX1_takeFrom 106 = .ok (.aload_n 0, 1) := by decide +kernel
theorem dX1_takeFrom_107 : decode cX1_takeFrom 107 = .ok (.aload_n 1, 1) := by decide +kernel
theorem dX1_takeFrom_108 : decode cX1_takeFrom 108 = .ok (.getfield 40, 3) := by decide +kernel
theorem dX1_takeFrom_111 : decode cX1_takeFrom 111 = .ok (.putfield 40, 3) := by decide +kernel
theorem dX1_takeFrom_114 : decode cX1_takeFrom 114 = .ok (.aload_n 0, 1) := by decide +kernel
theorem dX1_takeFrom_115 : decode cX1_takeFrom 115 = .ok (.aload_n 1, 1) := by decide +kernel
theorem dX1_takeFrom_116 : decode cX1_takeFrom 116 = .ok (.getfield 43, 3) := by decide +kernel
theorem dX1_takeFrom_119 : decode cX1_takeFrom 119 = .ok (.putfield 43, 3) := by decide +kernel
theorem dX1_takeFrom_122 : decode cX1_takeFrom 122 = .ok (.aload_n 0, 1) := by decide +kernel
theorem dX1_takeFrom_123 : decode cX1_takeFrom 123 = .ok (.aload_n 1, 1) := by decide +kernel
theorem dX1_takeFrom_124 : decode cX1_takeFrom 124 = .ok (.getfield 46, 3) := by decide +kernel
theorem dX1_takeFrom_127 : decode cX1_takeFrom 127 = .ok (.putfield 46, 3) := by decide +kernel
theorem dX1_takeFrom_130 : decode cX1_takeFrom 130 = .ok (.aload_n 0, 1) := by decide +kernel
theorem dX1_takeFrom_131 : decode cX1_takeFrom 131 = .ok (.aload_n 1, 1) := by decide +kernel
theorem dX1_takeFrom_132 : decode cX1_takeFrom 132 = .ok (.getfield 49, 3) := by decide +kernel
theorem dX1_takeFrom_135 : decode cX1_takeFrom 135 = .ok (.putfield 49, 3) := by decide +kernel
theorem dX1_takeFrom_138 : decode cX1_takeFrom 138 = .ok (.aload_n 0, 1) := by decide +kernel
theorem dX1_takeFrom_139 : decode cX1_takeFrom 139 = .ok (.aload_n 1, 1) := by decide +kernel
theorem dX1_takeFrom_140 : decode cX1_takeFrom 140 = .ok (.getfield 52, 3) := by decide +kernel
theorem dX1_takeFrom_143 : decode cX1_takeFrom 143 = .ok (.putfield 52, 3) := by decide +kernel
theorem dX1_takeFrom_146 : decode cX1_takeFrom 146 = .ok (.aload_n 0, 1) := by decide +kernel
theorem dX1_takeFrom_147 : decode cX1_takeFrom 147 = .ok (.aload_n 1, 1) := by decide +kernel
theorem dX1_takeFrom_148 : decode cX1_takeFrom 148 = .ok (.getfield 55, 3) := by decide +kernel
theorem dX1_takeFrom_151 : decode cX1_takeFrom 151 = .ok (.putfield 55, 3) := by decide +kernel
theorem dX1_takeFrom_154 : decode cX1_takeFrom 154 = .ok (.aload_n 0, 1) := by decide +kernel
theorem dX1_takeFrom_155 : decode cX1_takeFrom 155 = .ok (.aload_n 1, 1) := by decide +kernel
theorem dX1_takeFrom_156 : decode cX1_takeFrom 156 = .ok (.getfield 58, 3) := by decide +kernel
theorem dX1_takeFrom_159 : decode cX1_takeFrom 159 = .ok (.putfield 58, 3) := by decide +kernel
theorem dX1_takeFrom_162 : decode cX1_takeFrom 162 = .ok (.aload_n 0, 1) := by decide +kernel
theorem dX1_takeFrom_163 : decode cX1_takeFrom 163 = .ok (.aload_n 1, 1) := by decide +kernel
theorem dX1_takeFrom_164 : decode cX1_takeFrom 164 = .ok (.getfield 61, 3) := by decide +kernel
theorem dX1_takeFrom_167 : decode cX1_takeFrom 167 = .ok (.putfield 61, 3) := by decide +kernel
theorem dX1_takeFrom_170 : decode cX1_takeFrom 170 = .ok (.aload_n 0, 1) := by decide +kernel
theorem dX1_takeFrom_171 : decode cX1_takeFrom 171 = .ok (.aload_n 1, 1) := by decide +kernel
theorem dX1_takeFrom_172 : decode cX1_takeFrom 172 = .ok (.getfield 64, 3) := by decide +kernel
theorem dX1_takeFrom_175 : decode cX1_takeFrom 175 = .ok (.putfield 64, 3) := by decide +kernel
theorem dX1_takeFrom_178 : decode cX1_takeFrom 178 = .ok (.return_, 1) := by decide +kernel
theorem dX1_isPlayer_0 : decode cX1_isPlayer 0 = .ok (.iload_n 1, 1) := by decide +kernel
theorem dX1_isPlayer_1 : decode cX1_isPlayer 1 = .ok (.iconst 0, 1) := by decide +kernel
theorem dX1_isPlayer_2 : decode cX1_isPlayer 2 = .ok (.aload_n 0, 1) := by decide +kernel
theorem dX1_isPlayer_3 : decode cX1_isPlayer 3 = .ok (.getfield 27, 3) := by decide +kernel
theorem dX1_isPlayer_6 : decode cX1_isPlayer 6 = .ok (.iconst 1, 1) := by decide +kernel
theorem dX1_isPlayer_7 : decode cX1_isPlayer 7 = .ok (.isub, 1) := by decide +kernel
theorem dX1_isPlayer_8 : decode cX1_isPlayer 8 = .ok (.invokestatic 73, 3) := by decide +kernel
theorem dX1_isPlayer_11 : decode cX1_isPlayer 11 = .ok (.ireturn, 1) := by decide +kernel
theorem dX1_hasRoom_0 : decode cX1_hasRoom 0 = .ok (.aload_n 0, 1) := by decide +kernel
theorem dX1_hasRoom_1 : decode cX1_hasRoom 1 = .ok (.getfield 27, 3) := by decide +kernel
theorem dX1_hasRoom_4 : decode cX1_hasRoom 4 = .ok (.bipush 10, 2) := by decide +kernel
theorem dX1_hasRoom_6 : decode cX1_hasRoom 6 = .ok (.if_icmp .ge 7, 3) := by decide +kernel
theorem dX1_hasRoom_9 : decode cX1_hasRoom 9 = .ok (.iconst 1, 1) := by decide +kernel
theorem dX1_hasRoom_10 : decode cX1_hasRoom 10 = .ok (.goto 4, 3) := by decide +kernel
theorem dX1_hasRoom_13 : decode cX1_hasRoom 13 = .ok (.iconst 0, 1) := by decide +kernel
theorem dX1_hasRoom_14 : decode cX1_hasRoom 14 = .ok (.ireturn, 1) := by decide +kernel
theorem dX1_everybody_0 : decode cX1_everybody 0 = .ok (.iconst 1, 1) := by decide +kernel
theorem dX1_everybody_1 : decode cX1_everybody 1 = .ok (.aload_n 0, 1) := by decide +kernel
theorem dX1_everybody_2 : decode cX1_everybody 2 = .ok (.getfield 27, 3) := by decide +kernel
theorem dX1_everybody_5 : decode cX1_everybody 5 = .ok (.ishl, 1) := by decide +kernel
theorem dX1_everybody_6 : decode cX1_everybody 6 = .ok (.iconst 1, 1) := by decide +kernel
theorem dX1_everybody_7 : decode cX1_everybody 7 = .ok (.isub, 1) := by decide +kernel
theorem dX1_everybody_8 : decode cX1_everybody 8 = .ok (.ireturn, 1) := by decide +kernel
theorem dX1_addPlayer_0 : decode cX1_addPlayer 0 = .ok (.aload_n 0, 1) := by decide +kernel
theorem dX1_addPlayer_1 : decode cX1_addPlayer 1 = .ok (.invokevirtual 77, 3) := by decide +kernel
theorem dX1_addPlayer_4 : decode cX1_addPlayer 4 = .ok (.ifCond .ne 5, 3) := by decide +kernel
theorem dX1_addPlayer_7 : decode cX1_addPlayer 7 = .ok (.iconst (-1), 1) := by decide +kernel
theorem dX1_addPlayer_8 : decode cX1_addPlayer 8 = .ok (.ireturn, 1) := by decide +kernel
theorem dX1_addPlayer_9 : decode cX1_addPlayer 9 = .ok (.aload_n 0, 1) := by decide +kernel
theorem dX1_addPlayer_10 : decode cX1_addPlayer 10 = .ok (.dup, 1) := by decide +kernel
theorem dX1_addPlayer_11 : decode cX1_addPlayer 11 = .ok (.getfield 27, 3) := by decide +kernel
theorem dX1_addPlayer_14 : decode cX1_addPlayer 14 = .ok (.dup_x1, 1) := by decide +kernel
theorem dX1_addPlayer_15 : decode cX1_addPlayer 15 = .ok (.iconst 1, 1) := by decide +kernel
theorem dX1_addPlayer_16 : decode cX1_addPlayer 16 = .ok (.iadd, 1) := by decide +kernel
theorem dX1_addPlayer_17 : decode cX1_addPlayer 17 = .ok (.putfield 27, 3) := by decide +kernel
theorem dX1_addPlayer_20 : decode cX1_addPlayer 20 = .ok (.istore 4, 2) := by decide +kernel
theorem dX1_addPlayer_22 : decode cX1_addPlayer 22 = .ok (.aload_n 0, 1) := by decide +kernel
theorem dX1_addPlayer_23 : decode cX1_addPlayer 23 = .ok (.getfield 9, 3) := by decide +kernel
theorem dX1_addPlayer_26 : decode cX1_addPlayer 26 = .ok (.iload 4, 2) := by decide +kernel
theorem dX1_addPlayer_28 : decode cX1_addPlayer 28 = .ok (.iload_n 1, 1) := by decide +kernel
theorem dX1_addPlayer_29 : decode cX1_addPlayer 29 = .ok (.iastore, 1) := by decide +kernel
theorem dX1_addPlayer_30 : decode cX1_addPlayer 30 = .ok (.aload_n 0, 1) := by decide +kernel
theorem dX1_addPlayer_31 : decode cX1_addPlayer 31 = .ok (.getfield 15, 3) := by decide +kernel
theorem dX1_addPlayer_34 : decode cX1_addPlayer 34 = .ok (.iload 4, 2) := by decide +kernel
theorem dX1_addPlayer_36 : decode cX1_addPlayer 36 = .ok (.iload_n 2, 1) := by decide +kernel
theorem dX1_addPlayer_37 : decode cX1_addPlayer 37 = .ok (.iastore, 1) := by decide +kernel
theorem dX1_addPlayer_38 : decode cX1_addPlayer 38 = .ok (.aload_n 0, 1) := by decide +kernel
theorem dX1_addPlayer_39 : decode cX1_addPlayer 39 = .ok (.getfield 18, 3) := by decide +kernel
theorem dX1_addPlayer_42 : decode cX1_addPlayer 42 = .ok (.iload 4, 2) := by decide +kernel
theorem dX1_addPlayer_44 : decode cX1_addPlayer 44 = .ok (.iload_n 3, 1) := by decide +kernel
theorem dX1_addPlayer_45 : decode cX1_addPlayer 45 = .ok (.iastore, 1) := by decide +kernel
theorem dX1_addPlayer_46 : decode cX1_addPlayer 46 = .ok (.aload_n 0, 1) := by decide +kernel
theorem dX1_addPlayer_47 : decode cX1_addPlayer 47 = .ok (.getfield 21, 3) := by decide +kernel
theorem dX1_addPlayer_50 : decode cX1_addPlayer 50 = .ok (.iload 4, 2) := by decide +kernel
theorem dX1_addPlayer_52 : decode cX1_addPlayer 52 = .ok (.iconst 0, 1) := by decide +kernel
theorem dX1_addPlayer_53 : decode cX1_addPlayer 53 = .ok (.iastore, 1) := by decide +kernel
theorem dX1_addPlayer_54 : decode cX1_addPlayer 54 = .ok (.iload 4, 2) := by decide +kernel
theorem dX1_addPlayer_56 : decode cX1_addPlayer 56 = .ok (.ireturn, 1) := by decide +kernel
theorem dX1_hasPlayers_0 : decode cX1_hasPlayers 0 = .ok (.iload_n 1, 1) := by decide +kernel
theorem dX1_hasPlayers_1 : decode cX1_hasPlayers 1 = .ok (.invokestatic 81, 3) := by decide +kernel
theorem dX1_hasPlayers_4 : decode cX1_hasPlayers 4 = .ok (.ifCond .eq 16, 3) := by decide +kernel
theorem dX1_hasPlayers_7 : decode cX1_hasPlayers 7 = .ok (.aload_n 0, 1) := by decide +kernel
theorem dX1_hasPlayers_8 : decode cX1_hasPlayers 8 = .ok (.getfield 24, 3) := by decide +kernel
theorem dX1_hasPlayers_11 : decode cX1_hasPlayers 11 = .ok (.iload_n 1, 1) := by decide +kernel
theorem dX1_hasPlayers_12 : decode cX1_hasPlayers 12 = .ok (.iaload, 1) := by decide +kernel
theorem dX1_hasPlayers_13 : decode cX1_hasPlayers 13 = .ok (.ifCond .eq 7, 3) := by decide +kernel
theorem dX1_hasPlayers_16 : decode cX1_hasPlayers 16 = .ok (.iconst 1, 1) := by decide +kernel
theorem dX1_hasPlayers_17 : decode cX1_hasPlayers 17 = .ok (.goto 4, 3) := by decide +kernel
theorem dX1_hasPlayers_20 : decode cX1_hasPlayers 20 = .ok (.iconst 0, 1) := by decide +kernel
theorem dX1_hasPlayers_21 : decode cX1_hasPlayers 21 = .ok (.ireturn, 1) := by decide +kernel
theorem dX1_firstLine_0 : decode cX1_firstLine 0 = .ok (.iconst 0, 1) := by decide +kernel
theorem dX1_firstLine_1 : decode cX1_firstLine 1 = .ok (.istore_n 1, 1) := by decide +kernel
theorem dX1_firstLine_2 : decode cX1_firstLine 2 = .ok (.iload_n 1, 1) := by decide +kernel
theorem dX1_firstLine_3 : decode cX1_firstLine 3 = .ok (.iconst 4, 1) := by decide +kernel
theorem dX1_firstLine_4 : decode cX1_firstLine 4 = .ok (.if_icmp .ge 20, 3) := by decide +kernel
theorem dX1_firstLine_7 : decode cX1_firstLine 7 = .ok (.aload_n 0, 1) := by decide +kernel
theorem dX1_firstLine_8 : decode cX1_firstLine 8 = .ok (.getfield 24, 3) := by decide +kernel
theorem dX1_firstLine_11 : decode cX1_firstLine 11 = .ok (.iload_n 1, 1) := by decide +kernel
theorem dX1_firstLine_12 : decode cX1_firstLine 12 = .ok (.iaload, 1) := by decide +kernel
theorem dX1_firstLine_13 : decode cX1_firstLine 13 = .ok (.ifCond .eq 5, 3) := by decide +kernel
theorem dX1_firstLine_16 : decode cX1_firstLine 16 = .ok (.iload_n 1, 1) := by decide +kernel
theorem dX1_firstLine_17 : decode cX1_firstLine 17 = .ok (.ireturn, 1) := by decide +kernel
theorem dX1_firstLine_18 : decode cX1_firstLine 18 = .ok (.iinc 1 1, 3) := by decide +kernel
theorem dX1_firstLine_21 : decode cX1_firstLine 21 = .ok (.goto (-19), 3) := by decide +kernel
theorem dX1_firstLine_24 : decode cX1_firstLine 24 = .ok (.iconst (-1), 1) := by decide +kernel
theorem dX1_firstLine_25 : decode cX1_firstLine 25 = .ok (.ireturn, 1) := by decide +kernel
theorem dX1_nextLine_0 : decode cX1_nextLine 0 = .ok (.iconst 1, 1) := by decide +kernel
theorem dX1_nextLine_1 : decode cX1_nextLine 1 = .ok (.istore_n 2, 1) := by decide +kernel
theorem dX1_nextLine_2 : decode cX1_nextLine 2 = .ok (.iload_n 2, 1) := by decide +kernel
theorem dX1_nextLine_3 : decode cX1_nextLine 3 = .ok (.iconst 4, 1) := by decide +kernel
theorem dX1_nextLine_4 : decode cX1_nextLine 4 = .ok (.if_icmp .gt 25, 3) := by decide +kernel
theorem dX1_nextLine_7 : decode cX1_nextLine 7 = .ok (.iload_n 1, 1) := by decide +kernel
theorem dX1_nextLine_8 : decode cX1_nextLine 8 = .ok (.iload_n 2, 1) := by decide +kernel
theorem dX1_nextLine_9 : decode cX1_nextLine 9 = .ok (.iadd, 1) := by decide +kernel
theorem dX1_nextLine_10 : decode cX1_nextLine 10 = .ok (.iconst 4, 1) := by decide +kernel
theorem dX1_nextLine_11 : decode cX1_nextLine 11 = .ok (.irem, 1) := by decide +kernel
theorem dX1_nextLine_12 : decode cX1_nextLine 12 = .ok (.istore_n 3, 1) := by decide +kernel
theorem dX1_nextLine_13 : decode cX1_nextLine 13 = .ok (.aload_n 0, 1) := by decide +kernel
theorem dX1_nextLine_14 : decode cX1_nextLine 14 = .ok (.iload_n 3, 1) := by decide +kernel
theorem dX1_nextLine_15 : decode cX1_nextLine 15 = .ok (.invokevirtual 85, 3) := by decide +kernel
theorem dX1_nextLine_18 : decode cX1_nextLine 18 = .ok (.ifCond .eq 5, 3) := by decide +kernel
theorem dX1_nextLine_21 : decode cX1_nextLine 21 = .ok (.iload_n 3, 1) := by decide +kernel
theorem dX1_nextLine_22 : decode cX1_nextLine 22 = .ok (.ireturn, 1) := by decide +kernel
theorem dX1_nextLine_23 : decode cX1_nextLine 23 = .ok (.iinc 2 1, 3) := by decide +kernel
theorem dX1_nextLine_26 : decode cX1_nextLine 26 = .ok (.goto (-24), 3) := by decide +kernel
theorem dX1_nextLine_29 : decode cX1_nextLine 29 = .ok (.iload_n 1, 1) := by decide +kernel
theorem dX1_nextLine_30 : decode cX1_nextLine 30 = .ok (.ireturn, 1) := by decide +kernel
theorem dX1_freshestLine_0 : decode cX1_freshestLine 0 = .ok (.iconst (-1), 1) := by decide +kernel
theorem dX1_freshestLine_1 : decode cX1_freshestLine 1 = .ok (.istore_n 1, 1) := by decide +kernel
theorem dX1_freshestLine_2 : decode cX1_freshestLine 2 = .ok (.iconst 0, 1) := by decide +kernel
theorem dX1_freshestLine_3 : decode cX1_freshestLine 3 = .ok (.istore_n 2, 1) := by decide +kernel
theorem dX1_freshestLine_4 : decode cX1_freshestLine 4 = .ok (.iconst 0, 1) := by decide +kernel
theorem dX1_freshestLine_5 : decode cX1_freshestLine 5 = .ok (.istore_n 3, 1) := by decide +kernel
theorem dX1_freshestLine_6 : decode cX1_freshestLine 6 = .ok (.iload_n 3, 1) := by decide +kernel
theorem dX1_freshestLine_7 : decode cX1_freshestLine 7 = .ok (.iconst 4, 1) := by decide +kernel
theorem dX1_freshestLine_8 : decode cX1_freshestLine 8 = .ok (.if_icmp .ge 46, 3) := by decide +kernel
theorem dX1_freshestLine_11 : decode cX1_freshestLine 11 = .ok (.aload_n 0, 1) := by decide +kernel
theorem dX1_freshestLine_12 : decode cX1_freshestLine 12 = .ok (.aload_n 0, 1) := by decide +kernel
theorem dX1_freshestLine_13 : decode cX1_freshestLine 13 = .ok (.getfield 24, 3) := by decide +kernel
theorem dX1_freshestLine_16 : decode cX1_freshestLine 16 = .ok (.iload_n 3, 1) := by decide +kernel
theorem dX1_freshestLine_17 : decode cX1_freshestLine 17 = .ok (.iaload, 1) := by decide +kernel
theorem dX1_freshestLine_18 : decode cX1_freshestLine 18 = .ok (.invokevirtual 88, 3) := by decide +kernel
theorem dX1_freshestLine_21 : decode cX1_freshestLine 21 = .ok (.istore 4, 2) := by decide +kernel
theorem dX1_freshestLine_23 : decode cX1_freshestLine 23 = .ok (.aload_n 0, 1) := by decide +kernel
theorem dX1_freshestLine_24 : decode cX1_freshestLine 24 = .ok (.getfield 24, 3) := by decide +kernel
theorem dX1_freshestLine_27 : decode cX1_freshestLine 27 = .ok (.iload_n 3, 1) := by decide +kernel
theorem dX1_freshestLine_28 : decode cX1_freshestLine 28 = .ok (.iaload, 1) := by decide +kernel
theorem dX1_freshestLine_29 : decode cX1_freshestLine 29 = .ok (.ifCond .eq 19, 3) := by decide +kernel
theorem dX1_freshestLine_32 : decode cX1_freshestLine 32 = .ok (.iload_n 1, 1) := by decide +kernel
theorem dX1_freshestLine_33 : decode cX1_freshestLine 33 = .ok (.iconst (-1), 1) := by decide +kernel
theorem dX1_freshestLine_34 : decode cX1_freshestLine 34 = .ok (.if_icmp .eq 9, 3) := by decide +kernel
theorem dX1_freshestLine_37 : decode cX1_freshestLine 37 = .ok (.iload 4, 2) := by decide +kernel
theorem dX1_freshestLine_39 : decode cX1_freshestLine 39 = .ok (.iload_n 2, 1) := by decide +kernel
theorem dX1_freshestLine_40 : decode cX1_freshestLine 40 = .ok (.if_icmp .ge 8, 3) := by decide +kernel
theorem dX1_freshestLine_43 : decode cX1_freshestLine 43 = .ok (.iload_n 3, 1) := by decide +kernel
theorem dX1_freshestLine_44 : decode cX1_freshestLine 44 = .ok (.istore_n 1, 1) := by decide +kernel
theorem dX1_freshestLine_45 : decode cX1_freshestLine 45 = .ok (.iload 4, 2) := by decide +kernel
theorem dX1_freshestLine_47 : decode cX1_freshestLine 47 = .ok (.istore_n 2, 1) := by decide +kernel
theorem dX1_freshestLine_48 : decode cX1_freshestLine 48 = .ok (.iinc 3 1, 3) := by decide +kernel
theorem dX1_freshestLine_51 : decode cX1_freshestLine 51 = .ok (.goto (-45), 3) := by decide +kernel
theorem dX1_freshestLine_54 : decode cX1_freshestLine 54 = .ok (.iload_n 1, 1) := by decide +kernel
theorem dX1_freshestLine_55 : decode cX1_freshestLine 55 = .ok (.ireturn, 1) := by decide +kernel
theorem dX1_tiredTogether_0 : decode cX1_tiredTogether 0 = .ok (.iconst 0, 1) := by decide +kernel
theorem dX1_tiredTogether_1 : decode cX1_tiredTogether 1 = .ok (.istore_n 2, 1) := by decide +kernel
theorem dX1_tiredTogether_2 : decode cX1_tiredTogether 2 = .ok (.iconst 0, 1) := by decide +kernel
theorem dX1_tiredTogether_3 : decode cX1_tiredTogether 3 = .ok (.istore_n 3, 1) := by decide +kernel
theorem dX1_tiredTogether_4 : decode cX1_tiredTogether 4 = .ok (.iload_n 3, 1) := by decide +kernel
theorem dX1_tiredTogether_5 : decode cX1_tiredTogether 5 = .ok (.aload_n 0, 1) := by decide +kernel
theorem dX1_tiredTogether_6 : decode cX1_tiredTogether 6 = .ok (.getfield 27, 3) := by decide +kernel
theorem dX1_tiredTogether_9 : decode cX1_tiredTogether 9 = .ok (.if_icmp .ge 24, 3) := by decide +kernel
theorem dX1_tiredTogether_12 : decode cX1_tiredTogether 12 = .ok (.iload_n 2, 1) := by decide +kernel
theorem dX1_tiredTogether_13 : decode cX1_tiredTogether 13 = .ok (.iload_n 1, 1) := by decide +kernel
theorem dX1_tiredTogether_14 : decode cX1_tiredTogether 14 = .ok (.iload_n 3, 1) := by decide +kernel
theorem dX1_tiredTogether_15 : decode cX1_tiredTogether 15 = .ok (.invokestatic 92, 3) := by decide +kernel
theorem dX1_tiredTogether_18 : decode cX1_tiredTogether 18 = .ok (.aload_n 0, 1) := by decide +kernel
theorem dX1_tiredTogether_19 : decode cX1_tiredTogether 19 = .ok (.getfield 21, 3) := by decide +kernel
theorem dX1_tiredTogether_22 : decode cX1_tiredTogether 22 = .ok (.iload_n 3, 1) := by decide +kernel
theorem dX1_tiredTogether_23 : decode cX1_tiredTogether 23 = .ok (.iaload, 1) := by decide +kernel
theorem dX1_tiredTogether_24 : decode cX1_tiredTogether 24 = .ok (.imul, 1) := by decide +kernel
theorem dX1_tiredTogether_25 : decode cX1_tiredTogether 25 = .ok (.iadd, 1) := by decide +kernel
theorem dX1_tiredTogether_26 : decode cX1_tiredTogether 26 = .ok (.istore_n 2, 1) := by decide +kernel
theorem dX1_tiredTogether_27 : decode cX1_tiredTogether 27 = .ok (.iinc 3 1, 3) := by decide +kernel
theorem dX1_tiredTogether_30 : decode cX1_tiredTogether 30 = .ok (.goto (-26), 3) := by decide +kernel
theorem dX1_tiredTogether_33 : decode cX1_tiredTogether 33 = .ok (.iload_n 2, 1) := by decide +kernel
theorem dX1_tiredTogether_34 : decode cX1_tiredTogether 34 = .ok (.ireturn, 1) := by decide +kernel
theorem dX1_skillTogether_0 : decode cX1_skillTogether 0 = .ok (.iconst 0, 1) := by decide +kernel
theorem dX1_skillTogether_1 : decode cX1_skillTogether 1 = .ok (.istore_n 2, 1) := by decide +kernel
theorem dX1_skillTogether_2 : decode cX1_skillTogether 2 = .ok (.iconst 0, 1) := by decide +kernel
theorem dX1_skillTogether_3 : decode cX1_skillTogether 3 = .ok (.istore_n 3, 1) := by decide +kernel
theorem dX1_skillTogether_4 : decode cX1_skillTogether 4 = .ok (.iload_n 3, 1) := by decide +kernel
theorem dX1_skillTogether_5 : decode cX1_skillTogether 5 = .ok (.aload_n 0, 1) := by decide +kernel
theorem dX1_skillTogether_6 : decode cX1_skillTogether 6 = .ok (.getfield 27, 3) := by decide +kernel
theorem dX1_skillTogether_9 : decode cX1_skillTogether 9 = .ok (.if_icmp .ge 24, 3) := by decide +kernel
theorem dX1_skillTogether_12 : decode cX1_skillTogether 12 = .ok (.iload_n 2, 1) := by decide +kernel
theorem dX1_skillTogether_13 : decode cX1_skillTogether 13 = .ok (.iload_n 1, 1) := by decide +kernel
theorem dX1_skillTogether_14 : decode cX1_skillTogether 14 = .ok (.iload_n 3, 1) := by decide +kernel
theorem dX1_skillTogether_15 : decode cX1_skillTogether 15 = .ok (.invokestatic 92, 3) := by decide +kernel
theorem dX1_skillTogether_18 : decode cX1_skillTogether 18 = .ok (.aload_n 0, 1) := by decide +kernel
theorem dX1_skillTogether_19 : decode cX1_skillTogether 19 = .ok (.getfield 15, 3) := by decide +kernel
theorem dX1_skillTogether_22 : decode cX1_skillTogether 22 = .ok (.iload_n 3, 1) := by decide +kernel
theorem dX1_skillTogether_23 : decode cX1_skillTogether 23 = .ok (.iaload, 1) := by decide +kernel
theorem dX1_skillTogether_24 : decode cX1_skillTogether 24 = .ok (.imul, 1) := by decide +kernel
theorem dX1_skillTogether_25 : decode cX1_skillTogether 25 = .ok (.iadd, 1) := by decide +kernel
theorem dX1_skillTogether_26 : decode cX1_skillTogether 26 = .ok (.istore_n 2, 1) := by decide +kernel
theorem dX1_skillTogether_27 : decode cX1_skillTogether 27 = .ok (.iinc 3 1, 3) := by decide +kernel
theorem dX1_skillTogether_30 : decode cX1_skillTogether 30 = .ok (.goto (-26), 3) := by decide +kernel
theorem dX1_skillTogether_33 : decode cX1_skillTogether 33 = .ok (.iload_n 2, 1) := by decide +kernel
theorem dX1_skillTogether_34 : decode cX1_skillTogether 34 = .ok (.ireturn, 1) := by decide +kernel
theorem dX1_legsOf_0 : decode cX1_legsOf 0 = .ok (.aload_n 0, 1) := by decide +kernel
theorem dX1_legsOf_1 : decode cX1_legsOf 1 = .ok (.getfield 15, 3) := by decide +kernel
theorem dX1_legsOf_4 : decode cX1_legsOf 4 = .ok (.iload_n 1, 1) := by decide +kernel
theorem dX1_legsOf_5 : decode cX1_legsOf 5 = .ok (.iaload, 1) := by decide +kernel
theorem dX1_legsOf_6 : decode cX1_legsOf 6 = .ok (.bipush 100, 2) := by decide +kernel
theorem dX1_legsOf_8 : decode cX1_legsOf 8 = .ok (.aload_n 0, 1) := by decide +kernel
theorem dX1_legsOf_9 : decode cX1_legsOf 9 = .ok (.getfield 21, 3) := by decide +kernel
theorem dX1_legsOf_12 : decode cX1_legsOf 12 = .ok (.iload_n 1, 1) := by decide +kernel
theorem dX1_legsOf_13 : decode cX1_legsOf 13 = .ok (.iaload, 1) := by decide +kernel
theorem dX1_legsOf_14 : decode cX1_legsOf 14 = .ok (.isub, 1) := by decide +kernel
theorem dX1_legsOf_15 : decode cX1_legsOf 15 = .ok (.imul, 1) := by decide +kernel
theorem dX1_legsOf_16 : decode cX1_legsOf 16 = .ok (.bipush 100, 2) := by decide +kernel
theorem dX1_legsOf_18 : decode cX1_legsOf 18 = .ok (.idiv, 1) := by decide +kernel
theorem dX1_legsOf_19 : decode cX1_legsOf 19 = .ok (.ireturn, 1) := by decide +kernel
theorem dX1_othersOnIce_0 : decode cX1_othersOnIce 0 = .ok (.aload_n 0, 1) := by decide +kernel
theorem dX1_othersOnIce_1 : decode cX1_othersOnIce 1 = .ok (.getfield 31, 3) := by decide +kernel
theorem dX1_othersOnIce_4 : decode cX1_othersOnIce 4 = .ok (.invokestatic 96, 3) := by decide +kernel
theorem dX1_othersOnIce_7 : decode cX1_othersOnIce 7 = .ok (.aload_n 0, 1) := by decide +kernel
theorem dX1_othersOnIce_8 : decode cX1_othersOnIce 8 = .ok (.getfield 31, 3) := by decide +kernel
theorem dX1_othersOnIce_11 : decode cX1_othersOnIce 11 = .ok (.iload_n 1, 1) := by decide +kernel
theorem dX1_othersOnIce_12 : decode cX1_othersOnIce 12 = .ok (.invokestatic 92, 3) := by decide +kernel
theorem dX1_othersOnIce_15 : decode cX1_othersOnIce 15 = .ok (.isub, 1) := by decide +kernel
theorem dX1_othersOnIce_16 : decode cX1_othersOnIce 16 = .ok (.ireturn, 1) := by decide +kernel
theorem dX1_powerOf_0 : decode cX1_powerOf 0 = .ok (.aload_n 0, 1) := by decide +kernel
theorem dX1_powerOf_1 : decode cX1_powerOf 1 = .ok (.iload_n 1, 1) := by decide +kernel
theorem dX1_powerOf_2 : decode cX1_powerOf 2 = .ok (.invokevirtual 101, 3) := by decide +kernel
theorem dX1_powerOf_5 : decode cX1_powerOf 5 = .ok (.istore_n 2, 1) := by decide +kernel
theorem dX1_powerOf_6 : decode cX1_powerOf 6 = .ok (.aload_n 0, 1) := by decide +kernel
theorem dX1_powerOf_7 : decode cX1_powerOf 7 = .ok (.getfield 9, 3) := by decide +kernel
theorem dX1_powerOf_10 : decode cX1_powerOf 10 = .ok (.iload_n 1, 1) := by decide +kernel
theorem dX1_powerOf_11 : decode cX1_powerOf 11 = .ok (.iaload, 1) := by decide +kernel
theorem dX1_powerOf_12 : decode cX1_powerOf 12 = .ok (.iconst 2, 1) := by decide +kernel
theorem dX1_powerOf_13 : decode cX1_powerOf 13 = .ok (.if_icmp .ne 23, 3) := by decide +kernel
theorem dX1_powerOf_16 : decode cX1_powerOf 16 = .ok (.aload_n 0, 1) := by decide +kernel
theorem dX1_powerOf_17 : decode cX1_powerOf 17 = .ok (.getfield 21, 3) := by decide +kernel
theorem dX1_powerOf_20 : decode cX1_powerOf 20 = .ok (.iload_n 1, 1) := by decide +kernel
theorem dX1_powerOf_21 : decode cX1_powerOf 21 = .ok (.iaload, 1) := by decide +kernel
theorem dX1_powerOf_22 : decode cX1_powerOf 22 = .ok (.bipush 10, 2) := by decide +kernel
theorem dX1_powerOf_24 : decode cX1_powerOf 24 = .ok (.if_icmp .ge 12, 3) := by decide +kernel
theorem dX1_powerOf_27 : decode cX1_powerOf 27 = .ok (.iload_n 2, 1) := by decide +kernel
theorem dX1_powerOf_28 : decode cX1_powerOf 28 = .ok (.aload_n 0, 1) := by decide +kernel
theorem dX1_powerOf_29 : decode cX1_powerOf 29 = .ok (.getfield 18, 3) := by decide +kernel
theorem dX1_powerOf_32 : decode cX1_powerOf 32 = .ok (.iload_n 1, 1) := by decide +kernel
theorem dX1_powerOf_33 : decode cX1_powerOf 33 = .ok (.iaload, 1) := by decide +kernel
theorem dX1_powerOf_34 : decode cX1_powerOf 34 = .ok (.iadd, 1) := by decide +kernel
theorem dX1_powerOf_35 : decode cX1_powerOf 35 = .ok (.ireturn, 1) := by decide +kernel
theorem dX1_powerOf_36 : decode cX1_powerOf 36 = .ok (.aload_n 0, 1) := by decide +kernel
theorem dX1_powerOf_37 : decode cX1_powerOf 37 = .ok (.getfield 9, 3) := by decide +kernel
theorem dX1_powerOf_40 : decode cX1_powerOf 40 = .ok (.iload_n 1, 1) := by decide +kernel
theorem dX1_powerOf_41 : decode cX1_powerOf 41 = .ok (.iaload, 1) := by decide +kernel
theorem dX1_powerOf_42 : decode cX1_powerOf 42 = .ok (.iconst 5, 1) := by decide +kernel
theorem dX1_powerOf_43 : decode cX1_powerOf 43 = .ok (.if_icmp .ne 15, 3) := by decide +kernel
theorem dX1_powerOf_46 : decode cX1_powerOf 46 = .ok (.iload_n 2, 1) := by decide +kernel
theorem dX1_powerOf_47 : decode cX1_powerOf 47 = .ok (.iconst 2, 1) := by decide +kernel
theorem dX1_powerOf_48 : decode cX1_powerOf 48 = .ok (.aload_n 0, 1) := by decide +kernel
theorem dX1_powerOf_49 : decode cX1_powerOf 49 = .ok (.iload_n 1, 1) := by decide +kernel
theorem dX1_powerOf_50 : decode cX1_powerOf 50 = .ok (.invokevirtual 104, 3) := by decide +kernel
theorem dX1_powerOf_53 : decode cX1_powerOf 53 = .ok (.imul, 1) := by decide +kernel
theorem dX1_powerOf_54 : decode cX1_powerOf 54 = .ok (.iadd, 1) := by decide +kernel
theorem dX1_powerOf_55 : decode cX1_powerOf 55 = .ok (.goto 4, 3) := by decide +kernel
theorem dX1_powerOf_58 : decode cX1_powerOf 58 = .ok (.iload_n 2, 1) := by decide +kernel
theorem dX1_powerOf_59 : decode cX1_powerOf 59 = .ok (.ireturn, 1) := by decide +kernel
theorem dX1_saidAs_0 : decode cX1_saidAs 0 = .ok (.iload_n 1, 1) := by decide +kernel
theorem dX1_saidAs_1 : decode cX1_saidAs 1 = .ok (.tableswitch 66 1 5 #[35, 45, 35, 51, 60], 35) := by decide +kernel
theorem dX1_saidAs_36 : decode cX1_saidAs 36 = .ok (.aload_n 0, 1) := by decide +kernel
theorem dX1_saidAs_37 : decode cX1_saidAs 37 = .ok (.getfield 9, 3) := by decide +kernel
theorem dX1_saidAs_40 : decode cX1_saidAs 40 = .ok (.iload_n 2, 1) := by decide +kernel
theorem dX1_saidAs_41 : decode cX1_saidAs 41 = .ok (.iaload, 1) := by decide +kernel
theorem dX1_saidAs_42 : decode cX1_saidAs 42 = .ok (.invokestatic 107, 3) := by decide +kernel
theorem dX1_saidAs_45 : decode cX1_saidAs 45 = .ok (.ireturn, 1) := by decide +kernel
theorem dX1_saidAs_46 : decode cX1_saidAs 46 = .ok (.aload_n 0, 1) := by decide +kernel
theorem dX1_saidAs_47 : decode cX1_saidAs 47 = .ok (.iload_n 2, 1) := by decide +kernel
theorem dX1_saidAs_48 : decode cX1_saidAs 48 = .ok (.invokevirtual 110, 3) := by decide +kernel
theorem dX1_saidAs_51 : decode cX1_saidAs 51 = .ok (.ireturn, 1) := by decide +kernel
theorem dX1_saidAs_52 : decode cX1_saidAs 52 = .ok (.aload_n 0, 1) := by decide +kernel
theorem dX1_saidAs_53 : decode cX1_saidAs 53 = .ok (.getfield 31, 3) := by decide +kernel
theorem dX1_saidAs_56 : decode cX1_saidAs 56 = .ok (.iload_n 2, 1) := by decide +kernel
theorem dX1_saidAs_57 : decode cX1_saidAs 57 = .ok (.invokestatic 92, 3) := by decide +kernel
theorem dX1_saidAs_60 : decode cX1_saidAs 60 = .ok (.ireturn, 1) := by decide +kernel
theorem dX1_saidAs_61 : decode cX1_saidAs 61 = .ok (.aload_n 0, 1) := by decide +kernel
theorem dX1_saidAs_62 : decode cX1_saidAs 62 = .ok (.iload_n 2, 1) := by decide +kernel
theorem dX1_saidAs_63 : decode cX1_saidAs 63 = .ok (.invokevirtual 104, 3) := by decide +kernel
theorem dX1_saidAs_66 : decode cX1_saidAs 66 = .ok (.ireturn, 1) := by decide +kernel
theorem dX1_saidAs_67 : decode cX1_saidAs 67 = .ok (.aload_n 0, 1) := by decide +kernel
theorem dX1_saidAs_68 : decode cX1_saidAs 68 = .ok (.iload_n 2, 1) := by decide +kernel
theorem dX1_saidAs_69 : decode cX1_saidAs 69 = .ok (.invokevirtual 101, 3) := by decide +kernel
theorem dX1_saidAs_72 : decode cX1_saidAs 72 = .ok (.ireturn, 1) := by decide +kernel
theorem dX1_powerOfAll_0 : decode cX1_powerOfAll 0 = .ok (.iconst 0, 1) := by decide +kernel
theorem dX1_powerOfAll_1 : decode cX1_powerOfAll 1 = .ok (.istore_n 1, 1) := by decide +kernel
theorem dX1_powerOfAll_2 : decode cX1_powerOfAll 2 = .ok (.iconst 0, 1) := by decide +kernel
theorem dX1_powerOfAll_3 : decode cX1_powerOfAll 3 = .ok (.istore_n 2, 1) := by decide +kernel
theorem dX1_powerOfAll_4 : decode cX1_powerOfAll 4 = .ok (.iconst 0, 1) := by decide +kernel
theorem dX1_powerOfAll_5 : decode cX1_powerOfAll 5 = .ok (.istore_n 3, 1) := by decide +kernel
theorem dX1_powerOfAll_6 : decode cX1_powerOfAll 6 = .ok (.iload_n 3, 1) := by decide +kernel
theorem dX1_powerOfAll_7 : decode cX1_powerOfAll 7 = .ok (.aload_n 0, 1) := by decide +kernel
theorem dX1_powerOfAll_8 : decode cX1_powerOfAll 8 = .ok (.getfield 27, 3) := by decide +kernel
theorem dX1_powerOfAll_11 : decode cX1_powerOfAll 11 = .ok (.if_icmp .ge 52, 3) := by decide +kernel
theorem dX1_powerOfAll_14 : decode cX1_powerOfAll 14 = .ok (.aload_n 0, 1) := by decide +kernel
theorem dX1_powerOfAll_15 : decode cX1_powerOfAll 15 = .ok (.getfield 34, 3) := by decide +kernel
theorem dX1_powerOfAll_18 : decode cX1_powerOfAll 18 = .ok (.iload_n 3, 1) := by decide +kernel
theorem dX1_powerOfAll_19 : decode cX1_powerOfAll 19 = .ok (.invokestatic 92, 3) := by decide +kernel
theorem dX1_powerOfAll_22 : decode cX1_powerOfAll 22 = .ok (.iconst 1, 1) := by decide +kernel
theorem dX1_powerOfAll_23 : decode cX1_powerOfAll 23 = .ok (.if_icmp .ne 14, 3) := by decide +kernel
theorem dX1_powerOfAll_26 : decode cX1_powerOfAll 26 = .ok (.iload_n 2, 1) := by decide +kernel
theorem dX1_powerOfAll_27 : decode cX1_powerOfAll 27 = .ok (.aload_n 0, 1) := by decide +kernel
theorem dX1_powerOfAll_28 : decode cX1_powerOfAll 28 = .ok (.iload_n 3, 1) := by decide +kernel
theorem dX1_powerOfAll_29 : decode cX1_powerOfAll 29 = .ok (.invokevirtual 110, 3) := by decide +kernel
theorem dX1_powerOfAll_32 : decode cX1_powerOfAll 32 = .ok (.iadd, 1) := by decide +kernel
theorem dX1_powerOfAll_33 : decode cX1_powerOfAll 33 = .ok (.istore_n 2, 1) := by decide +kernel
theorem dX1_powerOfAll_34 : decode cX1_powerOfAll 34 = .ok (.goto 23, 3) := by decide +kernel
theorem dX1_powerOfAll_37 : decode cX1_powerOfAll 37 = .ok (.aload_n 0, 1) := by decide +kernel
theorem dX1_powerOfAll_38 : decode cX1_powerOfAll 38 = .ok (.getfield 31, 3) := by decide +kernel
theorem dX1_powerOfAll_41 : decode cX1_powerOfAll 41 = .ok (.iload_n 3, 1) := by decide +kernel
theorem dX1_powerOfAll_42 : decode cX1_powerOfAll 42 = .ok (.invokestatic 92, 3) := by decide +kernel
theorem dX1_powerOfAll_45 : decode cX1_powerOfAll 45 = .ok (.iconst 1, 1) := by decide +kernel
theorem dX1_powerOfAll_46 : decode cX1_powerOfAll 46 = .ok (.if_icmp .ne 11, 3) := by decide +kernel
theorem dX1_powerOfAll_49 : decode cX1_powerOfAll 49 = .ok (.iload_n 1, 1) := by decide +kernel
theorem dX1_powerOfAll_50 : decode cX1_powerOfAll 50 = .ok (.aload_n 0, 1) := by decide +kernel
theorem dX1_powerOfAll_51 : decode cX1_powerOfAll 51 = .ok (.iload_n 3, 1) := by decide +kernel
theorem dX1_powerOfAll_52 : decode cX1_powerOfAll 52 = .ok (.invokevirtual 110, 3) := by decide +kernel
theorem dX1_powerOfAll_55 : decode cX1_powerOfAll 55 = .ok (.iadd, 1) := by decide +kernel
theorem dX1_powerOfAll_56 : decode cX1_powerOfAll 56 = .ok (.istore_n 1, 1) := by decide +kernel
theorem dX1_powerOfAll_57 : decode cX1_powerOfAll 57 = .ok (.iinc 3 1, 3) := by decide +kernel
theorem dX1_powerOfAll_60 : decode cX1_powerOfAll 60 = .ok (.goto (-54), 3) := by decide +kernel
theorem dX1_powerOfAll_63 : decode cX1_powerOfAll 63 = .ok (.iload_n 1, 1) := by decide +kernel
theorem dX1_powerOfAll_64 : decode cX1_powerOfAll 64 = .ok (.iload_n 2, 1) := by decide +kernel
theorem dX1_powerOfAll_65 : decode cX1_powerOfAll 65 = .ok (.iconst 2, 1) := by decide +kernel
theorem dX1_powerOfAll_66 : decode cX1_powerOfAll 66 = .ok (.idiv, 1) := by decide +kernel
theorem dX1_powerOfAll_67 : decode cX1_powerOfAll 67 = .ok (.iadd, 1) := by decide +kernel
theorem dX1_powerOfAll_68 : decode cX1_powerOfAll 68 = .ok (.aload_n 0, 1) := by decide +kernel
theorem dX1_powerOfAll_69 : decode cX1_powerOfAll 69 = .ok (.getfield 49, 3) := by decide +kernel
theorem dX1_powerOfAll_72 : decode cX1_powerOfAll 72 = .ok (.ifCond .ne 8, 3) := by decide +kernel
theorem dX1_powerOfAll_75 : decode cX1_powerOfAll 75 = .ok (.bipush 30, 2) := by decide +kernel
theorem dX1_powerOfAll_77 : decode cX1_powerOfAll 77 = .ok (.goto 4, 3) := by decide +kernel
theorem dX1_powerOfAll_80 : decode cX1_powerOfAll 80 = .ok (.iconst 0, 1) := by decide +kernel
theorem dX1_powerOfAll_81 : decode cX1_powerOfAll 81 = .ok (.iadd, 1) := by decide +kernel
theorem dX1_powerOfAll_82 : decode cX1_powerOfAll 82 = .ok (.ireturn, 1) := by decide +kernel
theorem dX1_oddsOurs_0 : decode cX1_oddsOurs 0 = .ok (.iconst 2, 1) := by decide +kernel
theorem dX1_oddsOurs_1 : decode cX1_oddsOurs 1 = .ok (.iload_n 1, 1) := by decide +kernel
theorem dX1_oddsOurs_2 : decode cX1_oddsOurs 2 = .ok (.imul, 1) := by decide +kernel
theorem dX1_oddsOurs_3 : decode cX1_oddsOurs 3 = .ok (.aload_n 0, 1) := by decide +kernel
theorem dX1_oddsOurs_4 : decode cX1_oddsOurs 4 = .ok (.getfield 40, 3) := by decide +kernel
theorem dX1_oddsOurs_7 : decode cX1_oddsOurs 7 = .ok (.iconst 1, 1) := by decide +kernel
theorem dX1_oddsOurs_8 : decode cX1_oddsOurs 8 = .ok (.iadd, 1) := by decide +kernel
theorem dX1_oddsOurs_9 : decode cX1_oddsOurs 9 = .ok (.imul, 1) := by decide +kernel
theorem dX1_oddsOurs_10 : decode cX1_oddsOurs 10 = .ok (.iconst 3, 1) := by decide +kernel
theorem dX1_oddsOurs_11 : decode cX1_oddsOurs 11 = .ok (.idiv, 1) := by decide +kernel
theorem dX1_oddsOurs_12 : decode cX1_oddsOurs 12 = .ok (.ireturn, 1) := by decide +kernel
theorem dX1_oddsAgainst_0 : decode cX1_oddsAgainst 0 = .ok (.iconst 2, 1) := by decide +kernel
theorem dX1_oddsAgainst_1 : decode cX1_oddsAgainst 1 = .ok (.aload_n 0, 1) := by decide +kernel
theorem dX1_oddsAgainst_2 : decode cX1_oddsAgainst 2 = .ok (.getfield 46, 3) := by decide +kernel
theorem dX1_oddsAgainst_5 : decode cX1_oddsAgainst 5 = .ok (.imul, 1) := by decide +kernel
theorem dX1_oddsAgainst_6 : decode cX1_oddsAgainst 6 = .ok (.iconst 3, 1) := by decide +kernel
theorem dX1_oddsAgainst_7 : decode cX1_oddsAgainst 7 = .ok (.aload_n 0, 1) := by decide +kernel
theorem dX1_oddsAgainst_8 : decode cX1_oddsAgainst 8 = .ok (.getfield 40, 3) := by decide +kernel
theorem dX1_oddsAgainst_11 : decode cX1_oddsAgainst 11 = .ok (.isub, 1) := by decide +kernel
theorem dX1_oddsAgainst_12 : decode cX1_oddsAgainst 12 = .ok (.imul, 1) := by decide +kernel
theorem dX1_oddsAgainst_13 : decode cX1_oddsAgainst 13 = .ok (.iconst 3, 1) := by decide +kernel
theorem dX1_oddsAgainst_14 : decode cX1_oddsAgainst 14 = .ok (.idiv, 1) := by decide +kernel
theorem dX1_oddsAgainst_15 : decode cX1_oddsAgainst 15 = .ok (.istore_n 1, 1) := by decide +kernel
theorem dX1_oddsAgainst_16 : decode cX1_oddsAgainst 16 = .ok (.aload_n 0, 1) := by decide +kernel
theorem dX1_oddsAgainst_17 : decode cX1_oddsAgainst 17 = .ok (.getfield 49, 3) := by decide +kernel
theorem dX1_oddsAgainst_20 : decode cX1_oddsAgainst 20 = .ok (.ifCond .ne 9, 3) := by decide +kernel
theorem dX1_oddsAgainst_23 : decode cX1_oddsAgainst 23 = .ok (.iconst 5, 1) := by decide +kernel
theorem dX1_oddsAgainst_24 : decode cX1_oddsAgainst 24 = .ok (.iload_n 1, 1) := by decide +kernel
theorem dX1_oddsAgainst_25 : decode cX1_oddsAgainst 25 = .ok (.imul, 1) := by decide +kernel
theorem dX1_oddsAgainst_26 : decode cX1_oddsAgainst 26 = .ok (.goto 4, 3) := by decide +kernel
theorem dX1_oddsAgainst_29 : decode cX1_oddsAgainst 29 = .ok (.iload_n 1, 1) := by decide +kernel
theorem dX1_oddsAgainst_30 : decode cX1_oddsAgainst 30 = .ok (.ireturn, 1) := by decide +kernel
theorem dX1_wayTo_0 : decode cX1_wayTo 0 = .ok (.aload_n 0, 1) := by decide +kernel
theorem dX1_wayTo_1 : decode cX1_wayTo 1 = .ok (.getfield 24, 3) := by decide +kernel
theorem dX1_wayTo_4 : decode cX1_wayTo 4 = .ok (.iload_n 1, 1) := by decide +kernel
theorem dX1_wayTo_5 : decode cX1_wayTo 5 = .ok (.iaload, 1) := by decide +kernel
theorem dX1_wayTo_6 : decode cX1_wayTo 6 = .ok (.istore_n 2, 1) := by decide +kernel
theorem dX1_wayTo_7 : decode cX1_wayTo 7 = .ok (.iload_n 2, 1) := by decide +kernel
theorem dX1_wayTo_8 : decode cX1_wayTo 8 = .ok (.aload_n 0, 1) := by decide +kernel
theorem dX1_wayTo_9 : decode cX1_wayTo 9 = .ok (.getfield 31, 3) := by decide +kernel
theorem dX1_wayTo_12 : decode cX1_wayTo 12 = .ok (.iconst (-1), 1) := by decide +kernel
theorem dX1_wayTo_13 : decode cX1_wayTo 13 = .ok (.ixor, 1) := by decide +kernel
theorem dX1_wayTo_14 : decode cX1_wayTo 14 = .ok (.iand, 1) := by decide +kernel
theorem dX1_wayTo_15 : decode cX1_wayTo 15 = .ok (.ifCond .ne 5, 3) := by decide +kernel
theorem dX1_wayTo_18 : decode cX1_wayTo 18 = .ok (.iconst 0, 1) := by decide +kernel
theorem dX1_wayTo_19 : decode cX1_wayTo 19 = .ok (.ireturn, 1) := by decide +kernel
theorem dX1_wayTo_20 : decode cX1_wayTo 20 = .ok (.iconst 3, 1) := by decide +kernel
theorem dX1_wayTo_21 : decode cX1_wayTo 21 = .ok (.iconst 2, 1) := by decide +kernel
theorem dX1_wayTo_22 : decode cX1_wayTo 22 = .ok (.aload_n 0, 1) := by decide +kernel
theorem dX1_wayTo_23 : decode cX1_wayTo 23 = .ok (.getfield 43, 3) := by decide +kernel
theorem dX1_wayTo_26 : decode cX1_wayTo 26 = .ok (.imul, 1) := by decide +kernel
theorem dX1_wayTo_27 : decode cX1_wayTo 27 = .ok (.iadd, 1) := by decide +kernel
theorem dX1_wayTo_28 : decode cX1_wayTo 28 = .ok (.aload_n 0, 1) := by decide +kernel
theorem dX1_wayTo_29 : decode cX1_wayTo 29 = .ok (.getfield 40, 3) := by decide +kernel
theorem dX1_wayTo_32 : decode cX1_wayTo 32 = .ok (.iconst 2, 1) := by decide +kernel
theorem dX1_wayTo_33 : decode cX1_wayTo 33 = .ok (.if_icmp .ne 7, 3) := by decide +kernel
theorem dX1_wayTo_36 : decode cX1_wayTo 36 = .ok (.iconst 2, 1) := by decide +kernel
theorem dX1_wayTo_37 : decode cX1_wayTo 37 = .ok (.goto 4, 3) := by decide +kernel
theorem dX1_wayTo_40 : decode cX1_wayTo 40 = .ok (.iconst 0, 1) := by decide +kernel
theorem dX1_wayTo_41 : decode cX1_wayTo 41 = .ok (.isub, 1) := by decide +kernel
theorem dX1_wayTo_42 : decode cX1_wayTo 42 = .ok (.istore_n 3, 1) := by decide +kernel
theorem dX1_wayTo_43 : decode cX1_wayTo 43 = .ok (.iconst 0, 1) := by decide +kernel
theorem dX1_wayTo_44 : decode cX1_wayTo 44 = .ok (.istore 4, 2) := by decide +kernel
theorem dX1_wayTo_46 : decode cX1_wayTo 46 = .ok (.iload 4, 2) := by decide +kernel
theorem dX1_wayTo_48 : decode cX1_wayTo 48 = .ok (.aload_n 0, 1) := by decide +kernel
theorem dX1_wayTo_49 : decode cX1_wayTo 49 = .ok (.getfield 27, 3) := by decide +kernel
theorem dX1_wayTo_52 : decode cX1_wayTo 52 = .ok (.if_icmp .ge 43, 3) := by decide +kernel
theorem dX1_wayTo_55 : decode cX1_wayTo 55 = .ok (.aload_n 0, 1) := by decide +kernel
theorem dX1_wayTo_56 : decode cX1_wayTo 56 = .ok (.getfield 31, 3) := by decide +kernel
theorem dX1_wayTo_59 : decode cX1_wayTo 59 = .ok (.iload_n 2, 1) := by decide +kernel
theorem dX1_wayTo_60 : decode cX1_wayTo 60 = .ok (.iconst (-1), 1) := by decide +kernel
theorem dX1_wayTo_61 : decode cX1_wayTo 61 = .ok (.ixor, 1) := by decide +kernel
theorem dX1_wayTo_62 : decode cX1_wayTo 62 = .ok (.iand, 1) := by decide +kernel
theorem dX1_wayTo_63 : decode cX1_wayTo 63 = .ok (.iload 4, 2) := by decide +kernel
theorem dX1_wayTo_65 : decode cX1_wayTo 65 = .ok (.invokestatic 92, 3) := by decide +kernel
theorem dX1_wayTo_68 : decode cX1_wayTo 68 = .ok (.iconst 1, 1) := by decide +kernel
theorem dX1_wayTo_69 : decode cX1_wayTo 69 = .ok (.if_icmp .ne 20, 3) := by decide +kernel
theorem dX1_wayTo_72 : decode cX1_wayTo 72 = .ok (.aload_n 0, 1) := by decide +kernel
theorem dX1_wayTo_73 : decode cX1_wayTo 73 = .ok (.getfield 9, 3) := by decide +kernel
theorem dX1_wayTo_76 : decode cX1_wayTo 76 = .ok (.iload 4, 2) := by decide +kernel
theorem dX1_wayTo_78 : decode cX1_wayTo 78 = .ok (.iaload, 1) := by decide +kernel
theorem dX1_wayTo_79 : decode cX1_wayTo 79 = .ok (.iconst 4, 1) := by decide +kernel
theorem dX1_wayTo_80 : decode cX1_wayTo 80 = .ok (.invokestatic 113, 3) := by decide +kernel
theorem dX1_wayTo_83 : decode cX1_wayTo 83 = .ok (.ifCond .eq 6, 3) := by decide +kernel
theorem dX1_wayTo_86 : decode cX1_wayTo 86 = .ok (.iinc 3 (-1), 3) := by decide +kernel
theorem dX1_wayTo_89 : decode cX1_wayTo 89 = .ok (.iinc 4 1, 3) := by decide +kernel
theorem dX1_wayTo_92 : decode cX1_wayTo 92 = .ok (.goto (-46), 3) := by decide +kernel
theorem dX1_wayTo_95 : decode cX1_wayTo 95 = .ok (.iconst 1, 1) := by decide +kernel
theorem dX1_wayTo_96 : decode cX1_wayTo 96 = .ok (.iload_n 3, 1) := by decide +kernel
theorem dX1_wayTo_97 : decode cX1_wayTo 97 = .ok (.invokestatic 117, 3) := by decide +kernel
theorem dX1_wayTo_100 : decode cX1_wayTo 100 = .ok (.ireturn, 1) := by decide +kernel
theorem dX1_beginChange_0 : decode cX1_beginChange 0 = .ok (.aload_n 0, 1) := by decide +kernel
theorem dX1_beginChange_1 : decode cX1_beginChange 1 = .ok (.iload_n 1, 1) := by decide +kernel
theorem dX1_beginChange_2 : decode cX1_beginChange 2 = .ok (.invokevirtual 122, 3) := by decide +kernel
theorem dX1_beginChange_5 : decode cX1_beginChange 5 = .ok (.istore_n 2, 1) := by decide +kernel
theorem dX1_beginChange_6 : decode cX1_beginChange 6 = .ok (.aload_n 0, 1) := by decide +kernel
theorem dX1_beginChange_7 : decode cX1_beginChange 7 = .ok (.aload_n 0, 1) := by decide +kernel
theorem dX1_beginChange_8 : decode cX1_beginChange 8 = .ok (.getfield 24, 3) := by decide +kernel
theorem dX1_beginChange_11 : decode cX1_beginChange 11 = .ok (.iload_n 1, 1) := by decide +kernel
theorem dX1_beginChange_12 : decode cX1_beginChange 12 = .ok (.iaload, 1) := by decide +kernel
theorem dX1_beginChange_13 : decode cX1_beginChange 13 = .ok (.aload_n 0, 1) := by decide +kernel
theorem dX1_beginChange_14 : decode cX1_beginChange 14 = .ok (.getfield 31, 3) := by decide +kernel
theorem dX1_beginChange_17 : decode cX1_beginChange 17 = .ok (.iconst (-1), 1) := by decide +kernel
theorem dX1_beginChange_18 : decode cX1_beginChange 18 = .ok (.ixor, 1) := by decide +kernel
theorem dX1_beginChange_19 : decode cX1_beginChange 19 = .ok (.iand, 1) := by decide +kernel
theorem dX1_beginChange_20 : decode cX1_beginChange 20 = .ok (.putfield 34, 3) := by decide +kernel
theorem dX1_beginChange_23 : decode cX1_beginChange 23 = .ok (.aload_n 0, 1) := by decide +kernel
theorem dX1_beginChange_24 : decode cX1_beginChange 24 = .ok (.iload_n 2, 1) := by decide +kernel
theorem dX1_beginChange_25 : decode cX1_beginChange 25 = .ok (.putfield 37, 3) := by decide +kernel
theorem dX1_beginChange_28 : decode cX1_beginChange 28 = .ok (.aload_n 0, 1) := by decide +kernel
theorem dX1_beginChange_29 : decode cX1_beginChange 29 = .ok (.aload_n 0, 1) := by decide +kernel
theorem dX1_beginChange_30 : decode cX1_beginChange 30 = .ok (.getfield 24, 3) := by decide +kernel
theorem dX1_beginChange_33 : decode cX1_beginChange 33 = .ok (.iload_n 1, 1) := by decide +kernel
theorem dX1_beginChange_34 : decode cX1_beginChange 34 = .ok (.iaload, 1) := by decide +kernel
theorem dX1_beginChange_35 : decode cX1_beginChange 35 = .ok (.putfield 31, 3) := by decide +kernel
theorem dX1_beginChange_38 : decode cX1_beginChange 38 = .ok (.iload_n 2, 1) := by decide +kernel
theorem dX1_beginChange_39 : decode cX1_beginChange 39 = .ok (.ireturn, 1) := by decide +kernel
theorem dX1_putOn_0 : decode cX1_putOn 0 = .ok (.aload_n 0, 1) := by decide +kernel
theorem dX1_putOn_1 : decode cX1_putOn 1 = .ok (.iload_n 1, 1) := by decide +kernel
theorem dX1_putOn_2 : decode cX1_putOn 2 = .ok (.putfield 31, 3) := by decide +kernel
theorem dX1_putOn_5 : decode cX1_putOn 5 = .ok (.aload_n 0, 1) := by decide +kernel
theorem dX1_putOn_6 : decode cX1_putOn 6 = .ok (.iconst 0, 1) := by decide +kernel
theorem dX1_putOn_7 : decode cX1_putOn 7 = .ok (.putfield 34, 3) := by decide +kernel
theorem dX1_putOn_10 : decode cX1_putOn 10 = .ok (.aload_n 0, 1) := by decide +kernel
theorem dX1_putOn_11 : decode cX1_putOn 11 = .ok (.iconst 0, 1) := by decide +kernel
theorem dX1_putOn_12 : decode cX1_putOn 12 = .ok (.putfield 37, 3) := by decide +kernel
theorem dX1_putOn_15 : decode cX1_putOn 15 = .ok (.return_, 1) := by decide +kernel
theorem dX1_takeOff_0 : decode cX1_takeOff 0 = .ok (.aload_n 0, 1) := by decide +kernel
theorem dX1_takeOff_1 : decode cX1_takeOff 1 = .ok (.dup, 1) := by decide +kernel
theorem dX1_takeOff_2 : decode cX1_takeOff 2 = .ok (.getfield 31, 3) := by decide +kernel
theorem dX1_takeOff_5 : decode cX1_takeOff 5 = .ok (.iconst 1, 1) := by decide +kernel
theorem dX1_takeOff_6 : decode cX1_takeOff 6 = .ok (.iload_n 1, 1) := by decide +kernel
theorem dX1_takeOff_7 : decode cX1_takeOff 7 = .ok (.ishl, 1) := by decide +kernel
theorem dX1_takeOff_8 : decode cX1_takeOff 8 = .ok (.iconst (-1), 1) := by decide +kernel
theorem dX1_takeOff_9 : decode cX1_takeOff 9 = .ok (.ixor, 1) := by decide +kernel
theorem dX1_takeOff_10 : decode cX1_takeOff 10 = .ok (.iand, 1) := by decide +kernel
theorem dX1_takeOff_11 : decode cX1_takeOff 11 = .ok (.putfield 31, 3) := by decide +kernel
theorem dX1_takeOff_14 : decode cX1_takeOff 14 = .ok (.aload_n 0, 1) := by decide +kernel
theorem dX1_takeOff_15 : decode cX1_takeOff 15 = .ok (.dup, 1) := by decide +kernel
theorem dX1_takeOff_16 : decode cX1_takeOff 16 = .ok (.getfield 34, 3) := by decide +kernel
theorem dX1_takeOff_19 : decode cX1_takeOff 19 = .ok (.iconst 1, 1) := by decide +kernel
theorem dX1_takeOff_20 : decode cX1_takeOff 20 = .ok (.iload_n 1, 1) := by decide +kernel
theorem dX1_takeOff_21 : decode cX1_takeOff 21 = .ok (.ishl, 1) := by decide +kernel
theorem dX1_takeOff_22 : decode cX1_takeOff 22 = .ok (.iconst (-1), 1) := by decide +kernel
theorem dX1_takeOff_23 : decode cX1_takeOff 23 = .ok (.ixor, 1) := by decide +kernel
theorem dX1_takeOff_24 : decode cX1_takeOff 24 = .ok (.iand, 1) := by decide +kernel
theorem dX1_takeOff_25 : decode cX1_takeOff 25 = .ok (.putfield 34, 3) := by decide +kernel
theorem dX1_takeOff_28 : decode cX1_takeOff 28 = .ok (.aload_n 0, 1) := by decide +kernel
theorem dX1_takeOff_29 : decode cX1_takeOff 29 = .ok (.getfield 34, 3) := by decide +kernel
theorem dX1_takeOff_32 : decode cX1_takeOff 32 = .ok (.ifCond .ne 8, 3) := by decide +kernel
theorem dX1_takeOff_35 : decode cX1_takeOff 35 = .ok (.aload_n 0, 1) := by decide +kernel
theorem dX1_takeOff_36 : decode cX1_takeOff 36 = .ok (.iconst 0, 1) := by decide +kernel
theorem dX1_takeOff_37 : decode cX1_takeOff 37 = .ok (.putfield 37, 3) := by decide +kernel
theorem dX1_takeOff_40 : decode cX1_takeOff 40 = .ok (.return_, 1) := by decide +kernel
theorem dX1_tireIce_0 : decode cX1_tireIce 0 = .ok (.iconst 0, 1) := by decide +kernel
theorem dX1_tireIce_1 : decode cX1_tireIce 1 = .ok (.istore_n 2, 1) := by decide +kernel
theorem dX1_tireIce_2 : decode cX1_tireIce 2 = .ok (.iload_n 2, 1) := by decide +kernel
theorem dX1_tireIce_3 : decode cX1_tireIce 3 = .ok (.aload_n 0, 1) := by decide +kernel
theorem dX1_tireIce_4 : decode cX1_tireIce 4 = .ok (.getfield 27, 3) := by decide +kernel
theorem dX1_tireIce_7 : decode cX1_tireIce 7 = .ok (.if_icmp .ge 50, 3) := by decide +kernel
theorem dX1_tireIce_10 : decode cX1_tireIce 10 = .ok (.aload_n 0, 1) := by decide +kernel
theorem dX1_tireIce_11 : decode cX1_tireIce 11 = .ok (.getfield 31, 3) := by decide +kernel
theorem dX1_tireIce_14 : decode cX1_tireIce 14 = .ok (.iload_n 2, 1) := by decide +kernel
theorem dX1_tireIce_15 : decode cX1_tireIce 15 = .ok (.invokestatic 92, 3) := by decide +kernel
theorem dX1_tireIce_18 : decode cX1_tireIce 18 = .ok (.iconst 1, 1) := by decide +kernel
theorem dX1_tireIce_19 : decode cX1_tireIce 19 = .ok (.if_icmp .ne 32, 3) := by decide +kernel
theorem dX1_tireIce_22 : decode cX1_tireIce 22 = .ok (.aload_n 0, 1) := by decide +kernel
theorem dX1_tireIce_23 : decode cX1_tireIce 23 = .ok (.getfield 21, 3) := by decide +kernel
theorem dX1_tireIce_26 : decode cX1_tireIce 26 = .ok (.iload_n 2, 1) := by decide +kernel
theorem dX1_tireIce_27 : decode cX1_tireIce 27 = .ok (.bipush 100, 2) := by decide +kernel
theorem dX1_tireIce_29 : decode cX1_tireIce 29 = .ok (.aload_n 0, 1) := by decide +kernel
theorem dX1_tireIce_30 : decode cX1_tireIce 30 = .ok (.getfield 21, 3) := by decide +kernel
theorem dX1_tireIce_33 : decode cX1_tireIce 33 = .ok (.iload_n 2, 1) := by decide +kernel
theorem dX1_tireIce_34 : decode cX1_tireIce 34 = .ok (.iaload, 1) := by decide +kernel
theorem dX1_tireIce_35 : decode cX1_tireIce 35 = .ok (.iload_n 1, 1) := by decide +kernel
theorem dX1_tireIce_36 : decode cX1_tireIce 36 = .ok (.aload_n 0, 1) := by decide +kernel
theorem dX1_tireIce_37 : decode cX1_tireIce 37 = .ok (.getfield 9, 3) := by decide +kernel
theorem dX1_tireIce_40 : decode cX1_tireIce 40 = .ok (.iload_n 2, 1) := by decide +kernel
theorem dX1_tireIce_41 : decode cX1_tireIce 41 = .ok (.iaload, 1) := by decide +kernel
theorem dX1_tireIce_42 : decode cX1_tireIce 42 = .ok (.invokestatic 107, 3) := by decide +kernel
theorem dX1_tireIce_45 : decode cX1_tireIce 45 = .ok (.imul, 1) := by decide +kernel
theorem dX1_tireIce_46 : decode cX1_tireIce 46 = .ok (.iadd, 1) := by decide +kernel
theorem dX1_tireIce_47 : decode cX1_tireIce 47 = .ok (.invokestatic 125, 3) := by decide +kernel
theorem dX1_tireIce_50 : decode cX1_tireIce 50 = .ok (.iastore, 1) := by decide +kernel
theorem dX1_tireIce_51 : decode cX1_tireIce 51 = .ok (.iinc 2 1, 3) := by decide +kernel
theorem dX1_tireIce_54 : decode cX1_tireIce 54 = .ok (.goto (-52), 3) := by decide +kernel
theorem dX1_tireIce_57 : decode cX1_tireIce 57 = .ok (.return_, 1) := by decide +kernel
theorem dX1_restBench_0 : decode cX1_restBench 0 = .ok (.iconst 0, 1) := by decide +kernel
theorem dX1_restBench_1 : decode cX1_restBench 1 = .ok (.istore_n 2, 1) := by decide +kernel
theorem dX1_restBench_2 : decode cX1_restBench 2 = .ok (.iload_n 2, 1) := by decide +kernel
theorem dX1_restBench_3 : decode cX1_restBench 3 = .ok (.aload_n 0, 1) := by decide +kernel
theorem dX1_restBench_4 : decode cX1_restBench 4 = .ok (.getfield 27, 3) := by decide +kernel
theorem dX1_restBench_7 : decode cX1_restBench 7 = .ok (.if_icmp .ge 48, 3) := by decide +kernel
theorem dX1_restBench_10 : decode cX1_restBench 10 = .ok (.aload_n 0, 1) := by decide +kernel
theorem dX1_restBench_11 : decode cX1_restBench 11 = .ok (.getfield 31, 3) := by decide +kernel
theorem dX1_restBench_14 : decode cX1_restBench 14 = .ok (.iload_n 2, 1) := by decide +kernel
theorem dX1_restBench_15 : decode cX1_restBench 15 = .ok (.invokestatic 92, 3) := by decide +kernel
theorem dX1_restBench_18 : decode cX1_restBench 18 = .ok (.ifCond .ne 31, 3) := by decide +kernel
theorem dX1_restBench_21 : decode cX1_restBench 21 = .ok (.aload_n 0, 1) := by decide +kernel
theorem dX1_restBench_22 : decode cX1_restBench 22 = .ok (.getfield 21, 3) := by decide +kernel
theorem dX1_restBench_25 : decode cX1_restBench 25 = .ok (.iload_n 2, 1) := by decide +kernel
theorem dX1_restBench_26 : decode cX1_restBench 26 = .ok (.iconst 0, 1) := by decide +kernel
theorem dX1_restBench_27 : decode cX1_restBench 27 = .ok (.aload_n 0, 1) := by decide +kernel
theorem dX1_restBench_28 : decode cX1_restBench 28 = .ok (.getfield 21, 3) := by decide +kernel
theorem dX1_restBench_31 : decode cX1_restBench 31 = .ok (.iload_n 2, 1) := by decide +kernel
theorem dX1_restBench_32 : decode cX1_restBench 32 = .ok (.iaload, 1) := by decide +kernel
theorem dX1_restBench_33 : decode cX1_restBench 33 = .ok (.iload_n 1, 1) := by decide +kernel
theorem dX1_restBench_34 : decode cX1_restBench 34 = .ok (.aload_n 0, 1) := by decide +kernel
theorem dX1_restBench_35 : decode cX1_restBench 35 = .ok (.getfield 9, 3) := by decide +kernel
theorem dX1_restBench_38 : decode cX1_restBench 38 = .ok (.iload_n 2, 1) := by decide +kernel
theorem dX1_restBench_39 : decode cX1_restBench 39 = .ok (.iaload, 1) := by decide +kernel
theorem dX1_restBench_40 : decode cX1_restBench 40 = .ok (.invokestatic 128, 3) := by decide +kernel
theorem dX1_restBench_43 : decode cX1_restBench 43 = .ok (.imul, 1) := by decide +kernel
theorem dX1_restBench_44 : decode cX1_restBench 44 = .ok (.isub, 1) := by decide +kernel
theorem dX1_restBench_45 : decode cX1_restBench 45 = .ok (.invokestatic 117, 3) := by decide +kernel
theorem dX1_restBench_48 : decode cX1_restBench 48 = .ok (.iastore, 1) := by decide +kernel
theorem dX1_restBench_49 : decode cX1_restBench 49 = .ok (.iinc 2 1, 3) := by decide +kernel
theorem dX1_restBench_52 : decode cX1_restBench 52 = .ok (.goto (-50), 3) := by decide +kernel
theorem dX1_restBench_55 : decode cX1_restBench 55 = .ok (.return_, 1) := by decide +kernel
theorem dX1_comeNearer_0 : decode cX1_comeNearer 0 = .ok (.aload_n 0, 1) := by decide +kernel
theorem dX1_comeNearer_1 : decode cX1_comeNearer 1 = .ok (.iconst 0, 1) := by decide +kernel
theorem dX1_comeNearer_2 : decode cX1_comeNearer 2 = .ok (.aload_n 0, 1) := by decide +kernel
theorem dX1_comeNearer_3 : decode cX1_comeNearer 3 = .ok (.getfield 37, 3) := by decide +kernel
theorem dX1_comeNearer_6 : decode cX1_comeNearer 6 = .ok (.iload_n 1, 1) := by decide +kernel
theorem dX1_comeNearer_7 : decode cX1_comeNearer 7 = .ok (.isub, 1) := by decide +kernel
theorem dX1_comeNearer_8 : decode cX1_comeNearer 8 = .ok (.invokestatic 117, 3) := by decide +kernel
theorem dX1_comeNearer_11 : decode cX1_comeNearer 11 = .ok (.putfield 37, 3) := by decide +kernel
theorem dX1_comeNearer_14 : decode cX1_comeNearer 14 = .ok (.aload_n 0, 1) := by decide +kernel
theorem dX1_comeNearer_15 : decode cX1_comeNearer 15 = .ok (.getfield 37, 3) := by decide +kernel
theorem dX1_comeNearer_18 : decode cX1_comeNearer 18 = .ok (.ifCond .ne 8, 3) := by decide +kernel
theorem dX1_comeNearer_21 : decode cX1_comeNearer 21 = .ok (.aload_n 0, 1) := by decide +kernel
theorem dX1_comeNearer_22 : decode cX1_comeNearer 22 = .ok (.iconst 0, 1) := by decide +kernel
theorem dX1_comeNearer_23 : decode cX1_comeNearer 23 = .ok (.putfield 34, 3) := by decide +kernel
theorem dX1_comeNearer_26 : decode cX1_comeNearer 26 = .ok (.return_, 1) := by decide +kernel
theorem dX1_passSeconds_0 : decode cX1_passSeconds 0 = .ok (.aload_n 0, 1) := by decide +kernel
theorem dX1_passSeconds_1 : decode cX1_passSeconds 1 = .ok (.iload_n 1, 1) := by decide +kernel
theorem dX1_passSeconds_2 : decode cX1_passSeconds 2 = .ok (.invokevirtual 131, 3) := by decide +kernel
theorem dX1_passSeconds_5 : decode cX1_passSeconds 5 = .ok (.aload_n 0, 1) := by decide +kernel
theorem dX1_passSeconds_6 : decode cX1_passSeconds 6 = .ok (.iload_n 1, 1) := by decide +kernel
theorem dX1_passSeconds_7 : decode cX1_passSeconds 7 = .ok (.invokevirtual 135, 3) := by decide +kernel
theorem dX1_passSeconds_10 : decode cX1_passSeconds 10 = .ok (.aload_n 0, 1) := by decide +kernel
theorem dX1_passSeconds_11 : decode cX1_passSeconds 11 = .ok (.iload_n 1, 1) := by decide +kernel
theorem dX1_passSeconds_12 : decode cX1_passSeconds 12 = .ok (.invokevirtual 138, 3) := by decide +kernel
theorem dX1_passSeconds_15 : decode cX1_passSeconds 15 = .ok (.return_, 1) := by decide +kernel
theorem dX1_oursIn_0 : decode cX1_oursIn 0 = .ok (.iconst 0, 1) := by decide +kernel
theorem dX1_oursIn_1 : decode cX1_oursIn 1 = .ok (.istore_n 2, 1) := by decide +kernel
theorem dX1_oursIn_2 : decode cX1_oursIn 2 = .ok (.iconst 0, 1) := by decide +kernel
theorem dX1_oursIn_3 : decode cX1_oursIn 3 = .ok (.istore_n 3, 1) := by decide +kernel
theorem dX1_oursIn_4 : decode cX1_oursIn 4 = .ok (.iload_n 3, 1) := by decide +kernel
theorem dX1_oursIn_5 : decode cX1_oursIn 5 = .ok (.iload_n 1, 1) := by decide +kernel
theorem dX1_oursIn_6 : decode cX1_oursIn 6 = .ok (.if_icmp .ge 30, 3) := by decide +kernel
theorem dX1_oursIn_9 : decode cX1_oursIn 9 = .ok (.aload_n 0, 1) := by decide +kernel
theorem dX1_oursIn_10 : decode cX1_oursIn 10 = .ok (.iconst 1, 1) := by decide +kernel
theorem dX1_oursIn_11 : decode cX1_oursIn 11 = .ok (.invokevirtual 131, 3) := by decide +kernel
theorem dX1_oursIn_14 : decode cX1_oursIn 14 = .ok (.iload_n 2, 1) := by decide +kernel
theorem dX1_oursIn_15 : decode cX1_oursIn 15 = .ok (.aload_n 0, 1) := by decide +kernel
theorem dX1_oursIn_16 : decode cX1_oursIn 16 = .ok (.aload_n 0, 1) := by decide +kernel
theorem dX1_oursIn_17 : decode cX1_oursIn 17 = .ok (.invokevirtual 141, 3) := by decide +kernel
theorem dX1_oursIn_20 : decode cX1_oursIn 20 = .ok (.invokevirtual 145, 3) := by decide +kernel
theorem dX1_oursIn_23 : decode cX1_oursIn 23 = .ok (.iadd, 1) := by decide +kernel
theorem dX1_oursIn_24 : decode cX1_oursIn 24 = .ok (.istore_n 2, 1) := by decide +kernel
theorem dX1_oursIn_25 : decode cX1_oursIn 25 = .ok (.aload_n 0, 1) := by decide +kernel
theorem dX1_oursIn_26 : decode cX1_oursIn 26 = .ok (.iconst 1, 1) := by decide +kernel
theorem dX1_oursIn_27 : decode cX1_oursIn 27 = .ok (.invokevirtual 138, 3) := by decide +kernel
theorem dX1_oursIn_30 : decode cX1_oursIn 30 = .ok (.iinc 3 1, 3) := by decide +kernel
theorem dX1_oursIn_33 : decode cX1_oursIn 33 = .ok (.goto (-29), 3) := by decide +kernel
theorem dX1_oursIn_36 : decode cX1_oursIn 36 = .ok (.aload_n 0, 1) := by decide +kernel
theorem dX1_oursIn_37 : decode cX1_oursIn 37 = .ok (.iload_n 1, 1) := by decide +kernel
theorem dX1_oursIn_38 : decode cX1_oursIn 38 = .ok (.invokevirtual 135, 3) := by decide +kernel
theorem dX1_oursIn_41 : decode cX1_oursIn 41 = .ok (.iload_n 2, 1) := by decide +kernel
theorem dX1_oursIn_42 : decode cX1_oursIn 42 = .ok (.ireturn, 1) := by decide +kernel
theorem dX1_againstIn_0 : decode cX1_againstIn 0 = .ok (.iload_n 1, 1) := by decide +kernel
theorem dX1_againstIn_1 : decode cX1_againstIn 1 = .ok (.aload_n 0, 1) := by decide +kernel
theorem dX1_againstIn_2 : decode cX1_againstIn 2 = .ok (.invokevirtual 148, 3) := by decide +kernel
theorem dX1_againstIn_5 : decode cX1_againstIn 5 = .ok (.imul, 1) := by decide +kernel
theorem dX1_againstIn_6 : decode cX1_againstIn 6 = .ok (.ireturn, 1) := by decide +kernel
theorem dX1_gainsIn_0 : decode cX1_gainsIn 0 = .ok (.aload_n 0, 1) := by decide +kernel
theorem dX1_gainsIn_1 : decode cX1_gainsIn 1 = .ok (.iload_n 1, 1) := by decide +kernel
theorem dX1_gainsIn_2 : decode cX1_gainsIn 2 = .ok (.invokevirtual 151, 3) := by decide +kernel
theorem dX1_gainsIn_5 : decode cX1_gainsIn 5 = .ok (.aload_n 0, 1) := by decide +kernel
theorem dX1_gainsIn_6 : decode cX1_gainsIn 6 = .ok (.iload_n 1, 1) := by decide +kernel
theorem dX1_gainsIn_7 : decode cX1_gainsIn 7 = .ok (.invokevirtual 154, 3) := by decide +kernel
theorem dX1_gainsIn_10 : decode cX1_gainsIn 10 = .ok (.isub, 1) := by decide +kernel
theorem dX1_gainsIn_11 : decode cX1_gainsIn 11 = .ok (.ireturn, 1) := by decide +kernel
theorem dX1_playSeconds_0 : decode cX1_playSeconds 0 = .ok (.aload_n 0, 1) := by decide +kernel
theorem dX1_playSeconds_1 : decode cX1_playSeconds 1 = .ok (.getfield 58, 3) := by decide +kernel
theorem dX1_playSeconds_4 : decode cX1_playSeconds 4 = .ok (.aload_n 0, 1) := by decide +kernel
theorem dX1_playSeconds_5 : decode cX1_playSeconds 5 = .ok (.getfield 61, 3) := by decide +kernel
theorem dX1_playSeconds_8 : decode cX1_playSeconds 8 = .ok (.iadd, 1) := by decide +kernel
theorem dX1_playSeconds_9 : decode cX1_playSeconds 9 = .ok (.istore_n 2, 1) := by decide +kernel
theorem dX1_playSeconds_10 : decode cX1_playSeconds 10 = .ok (.iconst 0, 1) := by decide +kernel
theorem dX1_playSeconds_11 : decode cX1_playSeconds 11 = .ok (.istore_n 3, 1) := by decide +kernel
theorem dX1_playSeconds_12 : decode cX1_playSeconds 12 = .ok (.iload_n 3, 1) := by decide +kernel
theorem dX1_playSeconds_13 : decode cX1_playSeconds 13 = .ok (.iload_n 1, 1) := by decide +kernel
theorem dX1_playSeconds_14 : decode cX1_playSeconds 14 = .ok (.if_icmp .ge 84, 3) := by decide +kernel
theorem dX1_playSeconds_17 : decode cX1_playSeconds 17 = .ok (.aload_n 0, 1) := by decide +kernel
theorem dX1_playSeconds_18 : decode cX1_playSeconds 18 = .ok (.iconst 1, 1) := by decide +kernel
theorem dX1_playSeconds_19 : decode cX1_playSeconds 19 = .ok (.invokevirtual 131, 3) := by decide +kernel
theorem dX1_playSeconds_22 : decode cX1_playSeconds 22 = .ok (.aload_n 0, 1) := by decide +kernel
theorem dX1_playSeconds_23 : decode cX1_playSeconds 23 = .ok (.iconst 1, 1) := by decide +kernel
theorem dX1_playSeconds_24 : decode cX1_playSeconds 24 = .ok (.invokevirtual 135, 3) := by decide +kernel
theorem dX1_playSeconds_27 : decode cX1_playSeconds 27 = .ok (.aload_n 0, 1) := by decide +kernel
theorem dX1_playSeconds_28 : decode cX1_playSeconds 28 = .ok (.aload_n 0, 1) := by decide +kernel
theorem dX1_playSeconds_29 : decode cX1_playSeconds 29 = .ok (.invokevirtual 141, 3) := by decide +kernel
theorem dX1_playSeconds_32 : decode cX1_playSeconds 32 = .ok (.invokevirtual 145, 3) := by decide +kernel
theorem dX1_playSeconds_35 : decode cX1_playSeconds 35 = .ok (.istore 4, 2) := by decide +kernel
theorem dX1_playSeconds_37 : decode cX1_playSeconds 37 = .ok (.iload 4, 2) := by decide +kernel
theorem dX1_playSeconds_39 : decode cX1_playSeconds 39 = .ok (.aload_n 0, 1) := by decide +kernel
theorem dX1_playSeconds_40 : decode cX1_playSeconds 40 = .ok (.invokevirtual 148, 3) := by decide +kernel
theorem dX1_playSeconds_43 : decode cX1_playSeconds 43 = .ok (.iadd, 1) := by decide +kernel
theorem dX1_playSeconds_44 : decode cX1_playSeconds 44 = .ok (.istore 5, 2) := by decide +kernel
theorem dX1_playSeconds_46 : decode cX1_playSeconds 46 = .ok (.aload_n 0, 1) := by decide +kernel
theorem dX1_playSeconds_47 : decode cX1_playSeconds 47 = .ok (.dup, 1) := by decide +kernel
theorem dX1_playSeconds_48 : decode cX1_playSeconds 48 = .ok (.getfield 52, 3) := by decide +kernel
theorem dX1_playSeconds_51 : decode cX1_playSeconds 51 = .ok (.iconst 1, 1) := by decide +kernel
theorem dX1_playSeconds_52 : decode cX1_playSeconds 52 = .ok (.iadd, 1) := by decide +kernel
theorem dX1_playSeconds_53 : decode cX1_playSeconds 53 = .ok (.putfield 52, 3) := by decide +kernel
theorem dX1_playSeconds_56 : decode cX1_playSeconds 56 = .ok (.aload_n 0, 1) := by decide +kernel
theorem dX1_playSeconds_57 : decode cX1_playSeconds 57 = .ok (.getfield 34, 3) := by decide +kernel
theorem dX1_playSeconds_60 : decode cX1_playSeconds 60 = .ok (.ifCond .eq 13, 3) := by decide +kernel
theorem dX1_playSeconds_63 : decode cX1_playSeconds 63 = .ok (.aload_n 0, 1) := by decide +kernel
theorem dX1_playSeconds_64 : decode cX1_playSeconds 64 = .ok (.dup, 1) := by decide +kernel
theorem dX1_playSeconds_65 : decode cX1_playSeconds 65 = .ok (.getfield 55, 3) := by decide +kernel
theorem dX1_playSeconds_68 : decode cX1_playSeconds 68 = .ok (.iconst 1, 1) := by decide +kernel
theorem dX1_playSeconds_69 : decode cX1_playSeconds 69 = .ok (.iadd, 1) := by decide +kernel
theorem dX1_playSeconds_70 : decode cX1_playSeconds 70 = .ok (.putfield 55, 3) := by decide +kernel
theorem dX1_playSeconds_73 : decode cX1_playSeconds 73 = .ok (.aload_n 0, 1) := by decide +kernel
theorem dX1_playSeconds_74 : decode cX1_playSeconds 74 = .ok (.iconst 1, 1) := by decide +kernel
theorem dX1_playSeconds_75 : decode cX1_playSeconds 75 = .ok (.invokevirtual 138, 3) := by decide +kernel
theorem dX1_playSeconds_78 : decode cX1_playSeconds 78 = .ok (.aload_n 0, 1) := by decide +kernel
theorem dX1_playSeconds_79 : decode cX1_playSeconds 79 = .ok (.aload_n 0, 1) := by decide +kernel
theorem dX1_playSeconds_80 : decode cX1_playSeconds 80 = .ok (.ldc 157, 2) := by decide +kernel
theorem dX1_playSeconds_82 : decode cX1_playSeconds 82 = .ok (.invokevirtual 158, 3) := by decide +kernel
theorem dX1_playSeconds_85 : decode cX1_playSeconds 85 = .ok (.iload 4, 2) := by decide +kernel
theorem dX1_playSeconds_87 : decode cX1_playSeconds 87 = .ok (.iload 5, 2) := by decide +kernel
theorem dX1_playSeconds_89 : decode cX1_playSeconds 89 = .ok (.invokevirtual 161, 3) := by decide +kernel
theorem dX1_playSeconds_92 : decode cX1_playSeconds 92 = .ok (.iinc 3 1, 3) := by decide +kernel
theorem dX1_playSeconds_95 : decode cX1_playSeconds 95 = .ok (.goto (-83), 3) := by decide +kernel
theorem dX1_playSeconds_98 : decode cX1_playSeconds 98 = .ok (.aload_n 0, 1) := by decide +kernel
theorem dX1_playSeconds_99 : decode cX1_playSeconds 99 = .ok (.getfield 58, 3) := by decide +kernel
theorem dX1_playSeconds_102 : decode cX1_playSeconds 102 = .ok (.aload_n 0, 1) := by decide +kernel
theorem dX1_playSeconds_103 : decode cX1_playSeconds 103 = .ok (.getfield 61, 3) := by decide +kernel
theorem dX1_playSeconds_106 : decode cX1_playSeconds 106 = .ok (.iadd, 1) := by decide +kernel
theorem dX1_playSeconds_107 : decode cX1_playSeconds 107 = .ok (.iload_n 2, 1) := by decide +kernel
theorem dX1_playSeconds_108 : decode cX1_playSeconds 108 = .ok (.isub, 1) := by decide +kernel
theorem dX1_playSeconds_109 : decode cX1_playSeconds 109 = .ok (.ireturn, 1) := by decide +kernel
theorem dX1_score_0 : decode cX1_score 0 = .ok (.iload_n 1, 1) := by decide +kernel
theorem dX1_score_1 : decode cX1_score 1 = .ok (.iload_n 3, 1) := by decide +kernel
theorem dX1_score_2 : decode cX1_score 2 = .ok (.if_icmp .lt 4, 3) := by decide +kernel
theorem dX1_score_5 : decode cX1_score 5 = .ok (.return_, 1) := by decide +kernel
theorem dX1_score_6 : decode cX1_score 6 = .ok (.iload_n 1, 1) := by decide +kernel
theorem dX1_score_7 : decode cX1_score 7 = .ok (.iload_n 2, 1) := by decide +kernel
theorem dX1_score_8 : decode cX1_score 8 = .ok (.if_icmp .ge 16, 3) := by decide +kernel
theorem dX1_score_11 : decode cX1_score 11 = .ok (.aload_n 0, 1) := by decide +kernel
theorem dX1_score_12 : decode cX1_score 12 = .ok (.dup, 1) := by decide +kernel
theorem dX1_score_13 : decode cX1_score 13 = .ok (.getfield 58, 3) := by decide +kernel
theorem dX1_score_16 : decode cX1_score 16 = .ok (.iconst 1, 1) := by decide +kernel
theorem dX1_score_17 : decode cX1_score 17 = .ok (.iadd, 1) := by decide +kernel
theorem dX1_score_18 : decode cX1_score 18 = .ok (.putfield 58, 3) := by decide +kernel
theorem dX1_score_21 : decode cX1_score 21 = .ok (.goto 13, 3) := by decide +kernel
theorem dX1_score_24 : decode cX1_score 24 = .ok (.aload_n 0, 1) := by decide +kernel
theorem dX1_score_25 : decode cX1_score 25 = .ok (.dup, 1) := by decide +kernel
theorem dX1_score_26 : decode cX1_score 26 = .ok (.getfield 61, 3) := by decide +kernel
theorem dX1_score_29 : decode cX1_score 29 = .ok (.iconst 1, 1) := by decide +kernel
theorem dX1_score_30 : decode cX1_score 30 = .ok (.iadd, 1) := by decide +kernel
theorem dX1_score_31 : decode cX1_score 31 = .ok (.putfield 61, 3) := by decide +kernel
theorem dX1_score_34 : decode cX1_score 34 = .ok (.aload_n 0, 1) := by decide +kernel
theorem dX1_score_35 : decode cX1_score 35 = .ok (.iconst 1, 1) := by decide +kernel
theorem dX1_score_36 : decode cX1_score 36 = .ok (.putfield 40, 3) := by decide +kernel
theorem dX1_score_39 : decode cX1_score 39 = .ok (.return_, 1) := by decide +kernel
theorem dX1_drawBelow_0 : decode cX1_drawBelow 0 = .ok (.aload_n 0, 1) := by decide +kernel
theorem dX1_drawBelow_1 : decode cX1_drawBelow 1 = .ok (.aload_n 0, 1) := by decide +kernel
theorem dX1_drawBelow_2 : decode cX1_drawBelow 2 = .ok (.getfield 64, 3) := by decide +kernel
theorem dX1_drawBelow_5 : decode cX1_drawBelow 5 = .ok (.ldc 165, 2) := by decide +kernel
theorem dX1_drawBelow_7 : decode cX1_drawBelow 7 = .ok (.imul, 1) := by decide +kernel
theorem dX1_drawBelow_8 : decode cX1_drawBelow 8 = .ok (.sipush 12345, 3) := by decide +kernel
theorem dX1_drawBelow_11 : decode cX1_drawBelow 11 = .ok (.iadd, 1) := by decide +kernel
theorem dX1_drawBelow_12 : decode cX1_drawBelow 12 = .ok (.putfield 64, 3) := by decide +kernel
theorem dX1_drawBelow_15 : decode cX1_drawBelow 15 = .ok (.iload_n 1, 1) := by decide +kernel
theorem dX1_drawBelow_16 : decode cX1_drawBelow 16 = .ok (.iconst 1, 1) := by decide +kernel
theorem dX1_drawBelow_17 : decode cX1_drawBelow 17 = .ok (.if_icmp .ge 7, 3) := by decide +kernel
theorem dX1_drawBelow_20 : decode cX1_drawBelow 20 = .ok (.iconst 0, 1) := by decide +kernel
theorem dX1_drawBelow_21 : decode cX1_drawBelow 21 = .ok (.goto 12, 3) := by decide +kernel
theorem dX1_drawBelow_24 : decode cX1_drawBelow 24 = .ok (.aload_n 0, 1) := by decide +kernel
theorem dX1_drawBelow_25 : decode cX1_drawBelow 25 = .ok (.getfield 64, 3) := by decide +kernel
theorem dX1_drawBelow_28 : decode cX1_drawBelow 28 = .ok (.bipush 16, 2) := by decide +kernel
theorem dX1_drawBelow_30 : decode cX1_drawBelow 30 = .ok (.iushr, 1) := by decide +kernel
theorem dX1_drawBelow_31 : decode cX1_drawBelow 31 = .ok (.iload_n 1, 1) := by decide +kernel
theorem dX1_drawBelow_32 : decode cX1_drawBelow 32 = .ok (.irem, 1) := by decide +kernel
theorem dX1_drawBelow_33 : decode cX1_drawBelow 33 = .ok (.ireturn, 1) := by decide +kernel
theorem dX2_init_0 : decode cX2_init 0 = .ok (.aload_n 0, 1) := by decide +kernel
theorem dX2_init_1 : decode cX2_init 1 = .ok (.invokespecial 3, 3) := by decide +kernel
theorem dX2_init_4 : decode cX2_init 4 = .ok (.aload_n 0, 1) := by decide +kernel
theorem dX2_init_5 : decode cX2_init 5 = .ok (.bipush 40, 2) := by decide +kernel
theorem dX2_init_7 : decode cX2_init 7 = .ok (.newarray .long, 2) := by decide +kernel
theorem dX2_init_9 : decode cX2_init 9 = .ok (.putfield 9, 3) := by decide +kernel
theorem dX2_init_12 : decode cX2_init 12 = .ok (.aload_n 0, 1) := by decide +kernel
theorem dX2_init_13 : decode cX2_init 13 = .ok (.iconst (-1), 1) := by decide +kernel
theorem dX2_init_14 : decode cX2_init 14 = .ok (.putfield 15, 3) := by decide +kernel
theorem dX2_init_17 : decode cX2_init 17 = .ok (.aload_n 0, 1) := by decide +kernel
theorem dX2_init_18 : decode cX2_init 18 = .ok (.iconst 0, 1) := by decide +kernel
theorem dX2_init_19 : decode cX2_init 19 = .ok (.putfield 19, 3) := by decide +kernel
theorem dX2_init_22 : decode cX2_init 22 = .ok (.return_, 1) := by decide +kernel
theorem dX2_isRow_0 : decode cX2_isRow 0 = .ok (.aload_n 0, 1) := by decide +kernel
theorem dX2_isRow_1 : decode cX2_isRow 1 = .ok (.getfield 15, 3) := by decide +kernel
theorem dX2_isRow_4 : decode cX2_isRow 4 = .ok (.iconst 0, 1) := by decide +kernel
theorem dX2_isRow_5 : decode cX2_isRow 5 = .ok (.iconst 4, 1) := by decide +kernel
theorem dX2_isRow_6 : decode cX2_isRow 6 = .ok (.invokestatic 22, 3) := by decide +kernel
theorem dX2_isRow_9 : decode cX2_isRow 9 = .ok (.ireturn, 1) := by decide +kernel
theorem dX2_isPlayer_0 : decode cX2_isPlayer 0 = .ok (.aload_n 0, 1) := by decide +kernel
theorem dX2_isPlayer_1 : decode cX2_isPlayer 1 = .ok (.getfield 15, 3) := by decide +kernel
theorem dX2_isPlayer_4 : decode cX2_isPlayer 4 = .ok (.bipush 10, 2) := by decide +kernel
theorem dX2_isPlayer_6 : decode cX2_isPlayer 6 = .ok (.if_icmp .lt 7, 3) := by decide +kernel
theorem dX2_isPlayer_9 : decode cX2_isPlayer 9 = .ok (.iconst 1, 1) := by decide +kernel
theorem dX2_isPlayer_10 : decode cX2_isPlayer 10 = .ok (.goto 4, 3) := by decide +kernel
theorem dX2_isPlayer_13 : decode cX2_isPlayer 13 = .ok (.iconst 0, 1) := by decide +kernel
theorem dX2_isPlayer_14 : decode cX2_isPlayer 14 = .ok (.ireturn, 1) := by decide +kernel
theorem dX2_whyNoRow_0 : decode cX2_whyNoRow 0 = .ok (.aload_n 0, 1) := by decide +kernel
theorem dX2_whyNoRow_1 : decode cX2_whyNoRow 1 = .ok (.invokevirtual 26, 3) := by decide +kernel
theorem dX2_whyNoRow_4 : decode cX2_whyNoRow 4 = .ok (.ifCond .eq 8, 3) := by decide +kernel
theorem dX2_whyNoRow_7 : decode cX2_whyNoRow 7 = .ok (.bipush (-3), 2) := by decide +kernel
theorem dX2_whyNoRow_9 : decode cX2_whyNoRow 9 = .ok (.goto 5, 3) := by decide +kernel
theorem dX2_whyNoRow_12 : decode cX2_whyNoRow 12 = .ok (.bipush (-4), 2) := by decide +kernel
theorem dX2_whyNoRow_14 : decode cX2_whyNoRow 14 = .ok (.ireturn, 1) := by decide +kernel
theorem dX2_becomeRow_0 : decode cX2_becomeRow 0 = .ok (.aload_n 0, 1) := by decide +kernel
theorem dX2_becomeRow_1 : decode cX2_becomeRow 1 = .ok (.iload_n 1, 1) := by decide +kernel
theorem dX2_becomeRow_2 : decode cX2_becomeRow 2 = .ok (.putfield 15, 3) := by decide +kernel
theorem dX2_becomeRow_5 : decode cX2_becomeRow 5 = .ok (.aload_n 0, 1) := by decide +kernel
theorem dX2_becomeRow_6 : decode cX2_becomeRow 6 = .ok (.iload_n 2, 1) := by decide +kernel
theorem dX2_becomeRow_7 : decode cX2_becomeRow 7 = .ok (.putfield 19, 3) := by decide +kernel
theorem dX2_becomeRow_10 : decode cX2_becomeRow 10 = .ok (.aload_n 0, 1) := by decide +kernel
theorem dX2_becomeRow_11 : decode cX2_becomeRow 11 = .ok (.getfield 9, 3) := by decide +kernel
theorem dX2_becomeRow_14 : decode cX2_becomeRow 14 = .ok (.lconst 0, 1) := by decide +kernel
theorem dX2_becomeRow_15 : decode cX2_becomeRow 15 = .ok (.invokestatic 30, 3) := by decide +kernel
theorem dX2_becomeRow_18 : decode cX2_becomeRow 18 = .ok (.return_, 1) := by decide +kernel
theorem dX2_hasPlaces_0 : decode cX2_hasPlaces 0 = .ok (.iload_n 2, 1) := by decide +kernel
theorem dX2_hasPlaces_1 : decode cX2_hasPlaces 1 = .ok (.iconst 0, 1) := by decide +kernel
theorem dX2_hasPlaces_2 : decode cX2_hasPlaces 2 = .ok (.aload_n 0, 1) := by decide +kernel
theorem dX2_hasPlaces_3 : decode cX2_hasPlaces 3 = .ok (.getfield 19, 3) := by decide +kernel
theorem dX2_hasPlaces_6 : decode cX2_hasPlaces 6 = .ok (.invokestatic 22, 3) := by decide +kernel
theorem dX2_hasPlaces_9 : decode cX2_hasPlaces 9 = .ok (.ifCond .eq 21, 3) := by decide +kernel
theorem dX2_hasPlaces_12 : decode cX2_hasPlaces 12 = .ok (.iload_n 1, 1) := by decide +kernel
theorem dX2_hasPlaces_13 : decode cX2_hasPlaces 13 = .ok (.iconst 0, 1) := by decide +kernel
theorem dX2_hasPlaces_14 : decode cX2_hasPlaces 14 = .ok (.aload_n 0, 1) := by decide +kernel
theorem dX2_hasPlaces_15 : decode cX2_hasPlaces 15 = .ok (.getfield 19, 3) := by decide +kernel
theorem dX2_hasPlaces_18 : decode cX2_hasPlaces 18 = .ok (.iload_n 2, 1) := by decide +kernel
theorem dX2_hasPlaces_19 : decode cX2_hasPlaces 19 = .ok (.isub, 1) := by decide +kernel
theorem dX2_hasPlaces_20 : decode cX2_hasPlaces 20 = .ok (.invokestatic 22, 3) := by decide +kernel
theorem dX2_hasPlaces_23 : decode cX2_hasPlaces 23 = .ok (.ifCond .eq 7, 3) := by decide +kernel
theorem dX2_hasPlaces_26 : decode cX2_hasPlaces 26 = .ok (.iconst 1, 1) := by decide +kernel
theorem dX2_hasPlaces_27 : decode cX2_hasPlaces 27 = .ok (.goto 4, 3) := by decide +kernel
theorem dX2_hasPlaces_30 : decode cX2_hasPlaces 30 = .ok (.iconst 0, 1) := by decide +kernel
theorem dX2_hasPlaces_31 : decode cX2_hasPlaces 31 = .ok (.ireturn, 1) := by decide +kernel
theorem dX2_put_0 : decode cX2_put 0 = .ok (.aload_n 0, 1) := by decide +kernel
theorem dX2_put_1 : decode cX2_put 1 = .ok (.getfield 15, 3) := by decide +kernel
theorem dX2_put_4 : decode cX2_put 4 = .ok (.tableswitch 94 0 4 #[36, 49, 62, 94, 74], 36) := by decide +kernel
theorem dX2_put_40 : decode cX2_put 40 = .ok (.aload_n 0, 1) := by decide +kernel
theorem dX2_put_41 : decode cX2_put 41 = .ok (.getfield 9, 3) := by decide +kernel
theorem dX2_put_44 : decode cX2_put 44 = .ok (.iload_n 1, 1) := by decide +kernel
theorem dX2_put_45 : decode cX2_put 45 = .ok (.lload_n 2, 1) := by decide +kernel
theorem dX2_put_46 : decode cX2_put 46 = .ok (.l2i, 1) := by decide +kernel
theorem dX2_put_47 : decode cX2_put 47 = .ok (.i2b, 1) := by decide +kernel
theorem dX2_put_48 : decode cX2_put 48 = .ok (.i2l, 1) := by decide +kernel
theorem dX2_put_49 : decode cX2_put 49 = .ok (.lastore, 1) := by decide +kernel
theorem dX2_put_50 : decode cX2_put 50 = .ok (.goto 55, 3) := by decide +kernel
theorem dX2_put_53 : decode cX2_put 53 = .ok (.aload_n 0, 1) := by decide +kernel
theorem dX2_put_54 : decode cX2_put 54 = .ok (.getfield 9, 3) := by decide +kernel
theorem dX2_put_57 : decode cX2_put 57 = .ok (.iload_n 1, 1) := by decide +kernel
theorem dX2_put_58 : decode cX2_put 58 = .ok (.lload_n 2, 1) := by decide +kernel
theorem dX2_put_59 : decode cX2_put 59 = .ok (.l2i, 1) := by decide +kernel
theorem dX2_put_60 : decode cX2_put 60 = .ok (.i2s, 1) := by decide +kernel
theorem dX2_put_61 : decode cX2_put 61 = .ok (.i2l, 1) := by decide +kernel
theorem dX2_put_62 : decode cX2_put 62 = .ok (.lastore, 1) := by decide +kernel
theorem dX2_put_63 : decode cX2_put 63 = .ok (.goto 42, 3) := by decide +kernel
theorem dX2_put_66 : decode cX2_put 66 = .ok (.aload_n 0, 1) := by decide +kernel
theorem dX2_put_67 : decode cX2_put 67 = .ok (.getfield 9, 3) := by decide +kernel
theorem dX2_put_70 : decode cX2_put 70 = .ok (.iload_n 1, 1) := by decide +kernel
theorem dX2_put_71 : decode cX2_put 71 = .ok (.lload_n 2, 1) := by decide +kernel
theorem dX2_put_72 : decode cX2_put 72 = .ok (.l2i, 1) := by decide +kernel
theorem dX2_put_73 : decode cX2_put 73 = .ok (.i2l, 1) := by decide +kernel
theorem dX2_put_74 : decode cX2_put 74 = .ok (.lastore, 1) := by decide +kernel
theorem dX2_put_75 : decode cX2_put 75 = .ok (.goto 30, 3) := by decide +kernel
theorem dX2_put_78 : decode cX2_put 78 = .ok (.aload_n 0, 1) := by decide +kernel
theorem dX2_put_79 : decode cX2_put 79 = .ok (.getfield 9, 3) := by decide +kernel
theorem dX2_put_82 : decode cX2_put 82 = .ok (.iload_n 1, 1) := by decide +kernel
theorem dX2_put_83 : decode cX2_put 83 = .ok (.lload_n 2, 1) := by decide +kernel
theorem dX2_put_84 : decode cX2_put 84 = .ok (.lconst 0, 1) := by decide +kernel
theorem dX2_put_85 : decode cX2_put 85 = .ok (.lcmp, 1) := by decide +kernel
theorem dX2_put_86 : decode cX2_put 86 = .ok (.ifCond .eq 7, 3) := by decide +kernel
theorem dX2_put_89 : decode cX2_put 89 = .ok (.lconst 1, 1) := by decide +kernel
theorem dX2_put_90 : decode cX2_put 90 = .ok (.goto 4, 3) := by decide +kernel
theorem dX2_put_93 : decode cX2_put 93 = .ok (.lconst 0, 1) := by decide +kernel
theorem dX2_put_94 : decode cX2_put 94 = .ok (.lastore, 1) := by decide +kernel
theorem dX2_put_95 : decode cX2_put 95 = .ok (.goto 10, 3) := by decide +kernel
theorem dX2_put_98 : decode cX2_put 98 = .ok (.aload_n 0, 1) := by decide +kernel
theorem dX2_put_99 : decode cX2_put 99 = .ok (.getfield 9, 3) := by decide +kernel
theorem dX2_put_102 : decode cX2_put 102 = .ok (.iload_n 1, 1) := by decide +kernel
theorem dX2_put_103 : decode cX2_put 103 = .ok (.lload_n 2, 1) := by decide +kernel
theorem dX2_put_104 : decode cX2_put 104 = .ok (.lastore, 1) := by decide +kernel
theorem dX2_put_105 : decode cX2_put 105 = .ok (.return_, 1) := by decide +kernel
theorem dX2_areAllIn_0 : decode cX2_areAllIn 0 = .ok (.iconst 0, 1) := by decide +kernel
theorem dX2_areAllIn_1 : decode cX2_areAllIn 1 = .ok (.istore 6, 2) := by decide +kernel
theorem dX2_areAllIn_3 : decode cX2_areAllIn 3 = .ok (.iload 6, 2) := by decide +kernel
theorem dX2_areAllIn_5 : decode cX2_areAllIn 5 = .ok (.iload_n 1, 1) := by decide +kernel
theorem dX2_areAllIn_6 : decode cX2_areAllIn 6 = .ok (.if_icmp .ge 36, 3) := by decide +kernel
theorem dX2_areAllIn_9 : decode cX2_areAllIn 9 = .ok (.aload_n 0, 1) := by decide +kernel
theorem dX2_areAllIn_10 : decode cX2_areAllIn 10 = .ok (.getfield 9, 3) := by decide +kernel
theorem dX2_areAllIn_13 : decode cX2_areAllIn 13 = .ok (.iload 6, 2) := by decide +kernel
theorem dX2_areAllIn_15 : decode cX2_areAllIn 15 = .ok (.laload, 1) := by decide +kernel
theorem dX2_areAllIn_16 : decode cX2_areAllIn 16 = .ok (.lload_n 2, 1) := by decide +kernel
theorem dX2_areAllIn_17 : decode cX2_areAllIn 17 = .ok (.lcmp, 1) := by decide +kernel
theorem dX2_areAllIn_18 : decode cX2_areAllIn 18 = .ok (.ifCond .lt 16, 3) := by decide +kernel
theorem dX2_areAllIn_21 : decode cX2_areAllIn 21 = .ok (.aload_n 0, 1) := by decide +kernel
theorem dX2_areAllIn_22 : decode cX2_areAllIn 22 = .ok (.getfield 9, 3) := by decide +kernel
theorem dX2_areAllIn_25 : decode cX2_areAllIn 25 = .ok (.iload 6, 2) := by decide +kernel
theorem dX2_areAllIn_27 : decode cX2_areAllIn 27 = .ok (.laload, 1) := by decide +kernel
theorem dX2_areAllIn_28 : decode cX2_areAllIn 28 = .ok (.lload 4, 2) := by decide +kernel
theorem dX2_areAllIn_30 : decode cX2_areAllIn 30 = .ok (.lcmp, 1) := by decide +kernel
theorem dX2_areAllIn_31 : decode cX2_areAllIn 31 = .ok (.ifCond .le 5, 3) := by decide +kernel
theorem dX2_areAllIn_34 : decode cX2_areAllIn 34 = .ok (.iconst 0, 1) := by decide +kernel
theorem dX2_areAllIn_35 : decode cX2_areAllIn 35 = .ok (.ireturn, 1) := by decide +kernel
theorem dX2_areAllIn_36 : decode cX2_areAllIn 36 = .ok (.iinc 6 1, 3) := by decide +kernel
theorem dX2_areAllIn_39 : decode cX2_areAllIn 39 = .ok (.goto (-36), 3) := by decide +kernel
theorem dX2_areAllIn_42 : decode cX2_areAllIn 42 = .ok (.iconst 1, 1) := by decide +kernel
theorem dX2_areAllIn_43 : decode cX2_areAllIn 43 = .ok (.ireturn, 1) := by decide +kernel
theorem dX2_greatestOf_0 : decode cX2_greatestOf 0 = .ok (.lconst 0, 1) := by decide +kernel
theorem dX2_greatestOf_1 : decode cX2_greatestOf 1 = .ok (.lstore_n 2, 1) := by decide +kernel
theorem dX2_greatestOf_2 : decode cX2_greatestOf 2 = .ok (.iconst 0, 1) := by decide +kernel
theorem dX2_greatestOf_3 : decode cX2_greatestOf 3 = .ok (.istore 4, 2) := by decide +kernel
theorem dX2_greatestOf_5 : decode cX2_greatestOf 5 = .ok (.iload 4, 2) := by decide +kernel
theorem dX2_greatestOf_7 : decode cX2_greatestOf 7 = .ok (.iload_n 1, 1) := by decide +kernel
theorem dX2_greatestOf_8 : decode cX2_greatestOf 8 = .ok (.if_icmp .ge 21, 3) := by decide +kernel
theorem dX2_greatestOf_11 : decode cX2_greatestOf 11 = .ok (.lload_n 2, 1) := by decide +kernel
theorem dX2_greatestOf_12 : decode cX2_greatestOf 12 = .ok (.aload_n 0, 1) := by decide +kernel
theorem dX2_greatestOf_13 : decode cX2_greatestOf 13 = .ok (.getfield 9, 3) := by decide +kernel
theorem dX2_greatestOf_16 : decode cX2_greatestOf 16 = .ok (.iload 4, 2) := by decide +kernel
theorem dX2_greatestOf_18 : decode cX2_greatestOf 18 = .ok (.laload, 1) := by decide +kernel
theorem dX2_greatestOf_19 : decode cX2_greatestOf 19 = .ok (.invokestatic 36, 3) := by decide +kernel
theorem dX2_greatestOf_22 : decode cX2_greatestOf 22 = .ok (.lstore_n 2, 1) := by decide +kernel
theorem dX2_greatestOf_23 : decode cX2_greatestOf 23 = .ok (.iinc 4 1, 3) := by decide +kernel
theorem dX2_greatestOf_26 : decode cX2_greatestOf 26 = .ok (.goto (-21), 3) := by decide +kernel
theorem dX2_greatestOf_29 : decode cX2_greatestOf 29 = .ok (.lload_n 2, 1) := by decide +kernel
theorem dX2_greatestOf_30 : decode cX2_greatestOf 30 = .ok (.l2i, 1) := by decide +kernel
theorem dX2_greatestOf_31 : decode cX2_greatestOf 31 = .ok (.ireturn, 1) := by decide +kernel
theorem dX3_init_0 : decode cX3_init 0 = .ok (.aload_n 0, 1) := by decide +kernel
theorem dX3_init_1 : decode cX3_init 1 = .ok (.invokespecial 3, 3) := by decide +kernel
theorem dX3_init_4 : decode cX3_init 4 = .ok (.aload_n 0, 1) := by decide +kernel
theorem dX3_init_5 : decode cX3_init 5 = .ok (.sipush 250, 3) := by decide +kernel
theorem dX3_init_8 : decode cX3_init 8 = .ok (.newarray .int, 2) := by decide +kernel
theorem dX3_init_10 : decode cX3_init 10 = .ok (.putfield 9, 3) := by decide +kernel
theorem dX3_init_13 : decode cX3_init 13 = .ok (.aload_n 0, 1) := by decide +kernel
theorem dX3_init_14 : decode cX3_init 14 = .ok (.iconst 0, 1) := by decide +kernel
theorem dX3_init_15 : decode cX3_init 15 = .ok (.putfield 15, 3) := by decide +kernel
theorem dX3_init_18 : decode cX3_init 18 = .ok (.aload_n 0, 1) := by decide +kernel
theorem dX3_init_19 : decode cX3_init 19 = .ok (.iconst 0, 1) := by decide +kernel
theorem dX3_init_20 : decode cX3_init 20 = .ok (.putfield 19, 3) := by decide +kernel
theorem dX3_init_23 : decode cX3_init 23 = .ok (.aload_n 0, 1) := by decide +kernel
theorem dX3_init_24 : decode cX3_init 24 = .ok (.iconst 0, 1) := by decide +kernel
theorem dX3_init_25 : decode cX3_init 25 = .ok (.putfield 22, 3) := by decide +kernel
theorem dX3_init_28 : decode cX3_init 28 = .ok (.aload_n 0, 1) := by decide +kernel
theorem dX3_init_29 : decode cX3_init 29 = .ok (.iconst 0, 1) := by decide +kernel
theorem dX3_init_30 : decode cX3_init 30 = .ok (.putfield 25, 3) := by decide +kernel
theorem dX3_init_33 : decode cX3_init 33 = .ok (.return_, 1) := by decide +kernel
theorem dX3_append_0 : decode cX3_append 0 = .ok (.aload_n 0, 1) := by decide +kernel
theorem dX3_append_1 : decode cX3_append 1 = .ok (.getfield 15, 3) := by decide +kernel
theorem dX3_append_4 : decode cX3_append 4 = .ok (.sipush 250, 3) := by decide +kernel
theorem dX3_append_7 : decode cX3_append 7 = .ok (.if_icmp .ge 20, 3) := by decide +kernel
theorem dX3_append_10 : decode cX3_append 10 = .ok (.aload_n 0, 1) := by decide +kernel
theorem dX3_append_11 : decode cX3_append 11 = .ok (.getfield 9, 3) := by decide +kernel
theorem dX3_append_14 : decode cX3_append 14 = .ok (.aload_n 0, 1) := by decide +kernel
theorem dX3_append_15 : decode cX3_append 15 = .ok (.dup, 1) := by decide +kernel
theorem dX3_append_16 : decode cX3_append 16 = .ok (.getfield 15, 3) := by decide +kernel
theorem dX3_append_19 : decode cX3_append 19 = .ok (.dup_x1, 1) := by decide +kernel
theorem dX3_append_20 : decode cX3_append 20 = .ok (.iconst 1, 1) := by decide +kernel
theorem dX3_append_21 : decode cX3_append 21 = .ok (.iadd, 1) := by decide +kernel
theorem dX3_append_22 : decode cX3_append 22 = .ok (.putfield 15, 3) := by decide +kernel
theorem dX3_append_25 : decode cX3_append 25 = .ok (.iload_n 1, 1) := by decide +kernel
theorem dX3_append_26 : decode cX3_append 26 = .ok (.iastore, 1) := by decide +kernel
theorem dX3_append_27 : decode cX3_append 27 = .ok (.aload_n 0, 1) := by decide +kernel
theorem dX3_append_28 : decode cX3_append 28 = .ok (.getfield 15, 3) := by decide +kernel
theorem dX3_append_31 : decode cX3_append 31 = .ok (.ireturn, 1) := by decide +kernel
theorem dX3_readOnto_0 : decode cX3_readOnto 0 = .ok (.aload_n 0, 1) := by decide +kernel
theorem dX3_readOnto_1 : decode cX3_readOnto 1 = .ok (.iconst 0, 1) := by decide +kernel
theorem dX3_readOnto_2 : decode cX3_readOnto 2 = .ok (.putfield 22, 3) := by decide +kernel
theorem dX3_readOnto_5 : decode cX3_readOnto 5 = .ok (.iconst 1, 1) := by decide +kernel
theorem dX3_readOnto_6 : decode cX3_readOnto 6 = .ok (.istore_n 2, 1) := by decide +kernel
theorem dX3_readOnto_7 : decode cX3_readOnto 7 = .ok (.iload_n 2, 1) := by decide +kernel
theorem dX3_readOnto_8 : decode cX3_readOnto 8 = .ok (.sipush 250, 3) := by decide +kernel
theorem dX3_readOnto_11 : decode cX3_readOnto 11 = .ok (.if_icmp .gt 85, 3) := by decide +kernel
theorem dX3_readOnto_14 : decode cX3_readOnto 14 = .ok (.aload_n 0, 1) := by decide +kernel
theorem dX3_readOnto_15 : decode cX3_readOnto 15 = .ok (.invokevirtual 28, 3) := by decide +kernel
theorem dX3_readOnto_18 : decode cX3_readOnto 18 = .ok (.aload_n 0, 1) := by decide +kernel
theorem dX3_readOnto_19 : decode cX3_readOnto 19 = .ok (.ldc 31, 2) := by decide +kernel
theorem dX3_readOnto_21 : decode cX3_readOnto 21 = .ok (.invokevirtual 33, 3) := by decide +kernel
theorem dX3_readOnto_24 : decode cX3_readOnto 24 = .ok (.ifCond .eq 12, 3) := by decide +kernel
theorem dX3_readOnto_27 : decode cX3_readOnto 27 = .ok (.aload_n 0, 1) := by decide +kernel
theorem dX3_readOnto_28 : decode cX3_readOnto 28 = .ok (.aload_n 1, 1) := by decide +kernel
theorem dX3_readOnto_29 : decode cX3_readOnto 29 = .ok (.invokevirtual 37, 3) := by decide +kernel
theorem dX3_readOnto_32 : decode cX3_readOnto 32 = .ok (.istore_n 3, 1) := by decide +kernel
theorem dX3_readOnto_33 : decode cX3_readOnto 33 = .ok (.goto 27, 3) := by decide +kernel
theorem dX3_readOnto_36 : decode cX3_readOnto 36 = .ok (.aload_n 0, 1) := by decide +kernel
theorem dX3_readOnto_37 : decode cX3_readOnto 37 = .ok (.ldc 41, 2) := by decide +kernel
theorem dX3_readOnto_39 : decode cX3_readOnto 39 = .ok (.invokevirtual 33, 3) := by decide +kernel
theorem dX3_readOnto_42 : decode cX3_readOnto 42 = .ok (.ifCond .eq 12, 3) := by decide +kernel
theorem dX3_readOnto_45 : decode cX3_readOnto 45 = .ok (.aload_n 0, 1) := by decide +kernel
theorem dX3_readOnto_46 : decode cX3_readOnto 46 = .ok (.aload_n 1, 1) := by decide +kernel
theorem dX3_readOnto_47 : decode cX3_readOnto 47 = .ok (.invokevirtual 43, 3) := by decide +kernel
theorem dX3_readOnto_50 : decode cX3_readOnto 50 = .ok (.istore_n 3, 1) := by decide +kernel
theorem dX3_readOnto_51 : decode cX3_readOnto 51 = .ok (.goto 9, 3) := by decide +kernel
theorem dX3_readOnto_54 : decode cX3_readOnto 54 = .ok (.aload_n 0, 1) := by decide +kernel
theorem dX3_readOnto_55 : decode cX3_readOnto 55 = .ok (.aload_n 1, 1) := by decide +kernel
theorem dX3_readOnto_56 : decode cX3_readOnto 56 = .ok (.invokevirtual 46, 3) := by decide +kernel
theorem dX3_readOnto_59 : decode cX3_readOnto 59 = .ok (.istore_n 3, 1) := by decide +kernel
theorem dX3_readOnto_60 : decode cX3_readOnto 60 = .ok (.iload_n 3, 1) := by decide +kernel
theorem dX3_readOnto_61 : decode cX3_readOnto 61 = .ok (.ifCond .eq 18, 3) := by decide +kernel
theorem dX3_readOnto_64 : decode cX3_readOnto 64 = .ok (.aload_n 0, 1) := by decide +kernel
theorem dX3_readOnto_65 : decode cX3_readOnto 65 = .ok (.getfield 25, 3) := by decide +kernel
theorem dX3_readOnto_68 : decode cX3_readOnto 68 = .ok (.ifCond .eq 13, 3) := by decide +kernel
theorem dX3_readOnto_71 : decode cX3_readOnto 71 = .ok (.aload_n 0, 1) := by decide +kernel
theorem dX3_readOnto_72 : decode cX3_readOnto 72 = .ok (.getfield 25, 3) := by decide +kernel
theorem dX3_readOnto_75 : decode cX3_readOnto 75 = .ok (.iconst 3, 1) := by decide +kernel
theorem dX3_readOnto_76 : decode cX3_readOnto 76 = .ok (.if_icmp .eq 5, 3) := by decide +kernel
theorem dX3_readOnto_79 : decode cX3_readOnto 79 = .ok (.iconst (-1), 1) := by decide +kernel
theorem dX3_readOnto_80 : decode cX3_readOnto 80 = .ok (.ireturn, 1) := by decide +kernel
theorem dX3_readOnto_81 : decode cX3_readOnto 81 = .ok (.aload_n 0, 1) := by decide +kernel
theorem dX3_readOnto_82 : decode cX3_readOnto 82 = .ok (.getfield 25, 3) := by decide +kernel
theorem dX3_readOnto_85 : decode cX3_readOnto 85 = .ok (.ifCond .ne 5, 3) := by decide +kernel
theorem dX3_readOnto_88 : decode cX3_readOnto 88 = .ok (.iload_n 2, 1) := by decide +kernel
theorem dX3_readOnto_89 : decode cX3_readOnto 89 = .ok (.ireturn, 1) := by decide +kernel
theorem dX3_readOnto_90 : decode cX3_readOnto 90 = .ok (.iinc 2 1, 3) := by decide +kernel
theorem dX3_readOnto_93 : decode cX3_readOnto 93 = .ok (.goto (-86), 3) := by decide +kernel
theorem dX3_readOnto_96 : decode cX3_readOnto 96 = .ok (.iconst (-1), 1) := by decide +kernel
theorem dX3_readOnto_97 : decode cX3_readOnto 97 = .ok (.ireturn, 1) := by decide +kernel
theorem dX3_sortOf_0 : decode cX3_sortOf 0 = .ok (.iload_n 0, 1) := by decide +kernel
theorem dX3_sortOf_1 : decode cX3_sortOf 1 = .ok (.bipush 97, 2) := by decide +kernel
theorem dX3_sortOf_3 : decode cX3_sortOf 3 = .ok (.if_icmp .lt 11, 3) := by decide +kernel
theorem dX3_sortOf_6 : decode cX3_sortOf 6 = .ok (.iload_n 0, 1) := by decide +kernel
theorem dX3_sortOf_7 : decode cX3_sortOf 7 = .ok (.bipush 122, 2) := by decide +kernel
theorem dX3_sortOf_9 : decode cX3_sortOf 9 = .ok (.if_icmp .gt 5, 3) := by decide +kernel
theorem dX3_sortOf_12 : decode cX3_sortOf 12 = .ok (.iconst 1, 1) := by decide +kernel
theorem dX3_sortOf_13 : decode cX3_sortOf 13 = .ok (.ireturn, 1) := by decide +kernel
theorem dX3_sortOf_14 : decode cX3_sortOf 14 = .ok (.iload_n 0, 1) := by decide +kernel
theorem dX3_sortOf_15 : decode cX3_sortOf 15 = .ok (.bipush 48, 2) := by decide +kernel
theorem dX3_sortOf_17 : decode cX3_sortOf 17 = .ok (.if_icmp .lt 11, 3) := by decide +kernel
theorem dX3_sortOf_20 : decode cX3_sortOf 20 = .ok (.iload_n 0, 1) := by decide +kernel
theorem dX3_sortOf_21 : decode cX3_sortOf 21 = .ok (.bipush 57, 2) := by decide +kernel
theorem dX3_sortOf_23 : decode cX3_sortOf 23 = .ok (.if_icmp .gt 5, 3) := by decide +kernel
theorem dX3_sortOf_26 : decode cX3_sortOf 26 = .ok (.iconst 2, 1) := by decide +kernel
theorem dX3_sortOf_27 : decode cX3_sortOf 27 = .ok (.ireturn, 1) := by decide +kernel
theorem dX3_sortOf_28 : decode cX3_sortOf 28 = .ok (.iload_n 0, 1) := by decide +kernel
theorem dX3_sortOf_29 : decode cX3_sortOf 29 = .ok (.bipush 59, 2) := by decide +kernel
theorem dX3_sortOf_31 : decode cX3_sortOf 31 = .ok (.if_icmp .ne 7, 3) := by decide +kernel
theorem dX3_sortOf_34 : decode cX3_sortOf 34 = .ok (.iconst 3, 1) := by decide +kernel
theorem dX3_sortOf_35 : decode cX3_sortOf 35 = .ok (.goto 4, 3) := by decide +kernel
theorem dX3_sortOf_38 : decode cX3_sortOf 38 = .ok (.iconst 4, 1) := by decide +kernel
theorem dX3_sortOf_39 : decode cX3_sortOf 39 = .ok (.ireturn, 1) := by decide +kernel
theorem dX3_step_0 : decode cX3_step 0 = .ok (.aload_n 0, 1) := by decide +kernel
theorem dX3_step_1 : decode cX3_step 1 = .ok (.aload_n 0, 1) := by decide +kernel
theorem dX3_step_2 : decode cX3_step 2 = .ok (.getfield 22, 3) := by decide +kernel
theorem dX3_step_5 : decode cX3_step 5 = .ok (.putfield 19, 3) := by decide +kernel
theorem dX3_step_8 : decode cX3_step 8 = .ok (.aload_n 0, 1) := by decide +kernel
theorem dX3_step_9 : decode cX3_step 9 = .ok (.getfield 19, 3) := by decide +kernel
theorem dX3_step_12 : decode cX3_step 12 = .ok (.aload_n 0, 1) := by decide +kernel
theorem dX3_step_13 : decode cX3_step 13 = .ok (.getfield 15, 3) := by decide +kernel
theorem dX3_step_16 : decode cX3_step 16 = .ok (.if_icmp .ge 30, 3) := by decide +kernel
theorem dX3_step_19 : decode cX3_step 19 = .ok (.aload_n 0, 1) := by decide +kernel
theorem dX3_step_20 : decode cX3_step 20 = .ok (.getfield 9, 3) := by decide +kernel
theorem dX3_step_23 : decode cX3_step 23 = .ok (.aload_n 0, 1) := by decide +kernel
theorem dX3_step_24 : decode cX3_step 24 = .ok (.getfield 19, 3) := by decide +kernel
theorem dX3_step_27 : decode cX3_step 27 = .ok (.iaload, 1) := by decide +kernel
theorem dX3_step_28 : decode cX3_step 28 = .ok (.bipush 32, 2) := by decide +kernel
theorem dX3_step_30 : decode cX3_step 30 = .ok (.if_icmp .ne 16, 3) := by decide +kernel
theorem dX3_step_33 : decode cX3_step 33 = .ok (.aload_n 0, 1) := by decide +kernel
theorem dX3_step_34 : decode cX3_step 34 = .ok (.dup, 1) := by decide +kernel
theorem dX3_step_35 : decode cX3_step 35 = .ok (.getfield 19, 3) := by decide +kernel
theorem dX3_step_38 : decode cX3_step 38 = .ok (.iconst 1, 1) := by decide +kernel
theorem dX3_step_39 : decode cX3_step 39 = .ok (.iadd, 1) := by decide +kernel
theorem dX3_step_40 : decode cX3_step 40 = .ok (.putfield 19, 3) := by decide +kernel
theorem dX3_step_43 : decode cX3_step 43 = .ok (.goto (-35), 3) := by decide +kernel
theorem dX3_step_46 : decode cX3_step 46 = .ok (.aload_n 0, 1) := by decide +kernel
theorem dX3_step_47 : decode cX3_step 47 = .ok (.aload_n 0, 1) := by decide +kernel
theorem dX3_step_48 : decode cX3_step 48 = .ok (.getfield 19, 3) := by decide +kernel
theorem dX3_step_51 : decode cX3_step 51 = .ok (.putfield 22, 3) := by decide +kernel
theorem dX3_step_54 : decode cX3_step 54 = .ok (.aload_n 0, 1) := by decide +kernel
theorem dX3_step_55 : decode cX3_step 55 = .ok (.getfield 19, 3) := by decide +kernel
theorem dX3_step_58 : decode cX3_step 58 = .ok (.aload_n 0, 1) := by decide +kernel
theorem dX3_step_59 : decode cX3_step 59 = .ok (.getfield 15, 3) := by decide +kernel
theorem dX3_step_62 : decode cX3_step 62 = .ok (.if_icmp .lt 9, 3) := by decide +kernel
theorem dX3_step_65 : decode cX3_step 65 = .ok (.aload_n 0, 1) := by decide +kernel
theorem dX3_step_66 : decode cX3_step 66 = .ok (.iconst 0, 1) := by decide +kernel
theorem dX3_step_67 : decode cX3_step 67 = .ok (.putfield 25, 3) := by decide +kernel
theorem dX3_step_70 : decode cX3_step 70 = .ok (.return_, 1) := by decide +kernel
theorem dX3_step_71 : decode cX3_step 71 = .ok (.aload_n 0, 1) := by decide +kernel
theorem dX3_step_72 : decode cX3_step 72 = .ok (.aload_n 0, 1) := by decide +kernel
theorem dX3_step_73 : decode cX3_step 73 = .ok (.getfield 9, 3) := by decide +kernel
theorem dX3_step_76 : decode cX3_step 76 = .ok (.aload_n 0, 1) := by decide +kernel
theorem dX3_step_77 : decode cX3_step 77 = .ok (.getfield 19, 3) := by decide +kernel
theorem dX3_step_80 : decode cX3_step 80 = .ok (.iaload, 1) := by decide +kernel
theorem dX3_step_81 : decode cX3_step 81 = .ok (.invokestatic 49, 3) := by decide +kernel
theorem dX3_step_84 : decode cX3_step 84 = .ok (.putfield 25, 3) := by decide +kernel
theorem dX3_step_87 : decode cX3_step 87 = .ok (.aload_n 0, 1) := by decide +kernel
theorem dX3_step_88 : decode cX3_step 88 = .ok (.dup, 1) := by decide +kernel
theorem dX3_step_89 : decode cX3_step 89 = .ok (.getfield 22, 3) := by decide +kernel
theorem dX3_step_92 : decode cX3_step 92 = .ok (.iconst 1, 1) := by decide +kernel
theorem dX3_step_93 : decode cX3_step 93 = .ok (.iadd, 1) := by decide +kernel
theorem dX3_step_94 : decode cX3_step 94 = .ok (.putfield 22, 3) := by decide +kernel
theorem dX3_step_97 : decode cX3_step 97 = .ok (.aload_n 0, 1) := by decide +kernel
theorem dX3_step_98 : decode cX3_step 98 = .ok (.getfield 25, 3) := by decide +kernel
theorem dX3_step_101 : decode cX3_step 101 = .ok (.iconst 1, 1) := by decide +kernel
theorem dX3_step_102 : decode cX3_step 102 = .ok (.if_icmp .eq 11, 3) := by decide +kernel
theorem dX3_step_105 : decode cX3_step 105 = .ok (.aload_n 0, 1) := by decide +kernel
theorem dX3_step_106 : decode cX3_step 106 = .ok (.getfield 25, 3) := by decide +kernel
theorem dX3_step_109 : decode cX3_step 109 = .ok (.iconst 2, 1) := by decide +kernel
theorem dX3_step_110 : decode cX3_step 110 = .ok (.if_icmp .ne 7, 3) := by decide +kernel
theorem dX3_step_113 : decode cX3_step 113 = .ok (.iconst 1, 1) := by decide +kernel
theorem dX3_step_114 : decode cX3_step 114 = .ok (.goto 4, 3) := by decide +kernel
theorem dX3_step_117 : decode cX3_step 117 = .ok (.iconst 0, 1) := by decide +kernel
theorem dX3_step_118 : decode cX3_step 118 = .ok (.istore_n 1, 1) := by decide +kernel
theorem dX3_step_119 : decode cX3_step 119 = .ok (.iload_n 1, 1) := by decide +kernel
theorem dX3_step_120 : decode cX3_step 120 = .ok (.ifCond .eq 46, 3) := by decide +kernel
theorem dX3_step_123 : decode cX3_step 123 = .ok (.aload_n 0, 1) := by decide +kernel
theorem dX3_step_124 : decode cX3_step 124 = .ok (.getfield 22, 3) := by decide +kernel
theorem dX3_step_127 : decode cX3_step 127 = .ok (.aload_n 0, 1) := by decide +kernel
theorem dX3_step_128 : decode cX3_step 128 = .ok (.getfield 15, 3) := by decide +kernel
theorem dX3_step_131 : decode cX3_step 131 = .ok (.if_icmp .ge 35, 3) := by decide +kernel
theorem dX3_step_134 : decode cX3_step 134 = .ok (.aload_n 0, 1) := by decide +kernel
theorem dX3_step_135 : decode cX3_step 135 = .ok (.getfield 9, 3) := by decide +kernel
theorem dX3_step_138 : decode cX3_step 138 = .ok (.aload_n 0, 1) := by decide +kernel
theorem dX3_step_139 : decode cX3_step 139 = .ok (.getfield 22, 3) := by decide +kernel
theorem dX3_step_142 : decode cX3_step 142 = .ok (.iaload, 1) := by decide +kernel
theorem dX3_step_143 : decode cX3_step 143 = .ok (.invokestatic 49, 3) := by decide +kernel
theorem dX3_step_146 : decode cX3_step 146 = .ok (.aload_n 0, 1) := by decide +kernel
theorem dX3_step_147 : decode cX3_step 147 = .ok (.getfield 25, 3) := by decide +kernel
theorem dX3_step_150 : decode cX3_step 150 = .ok (.if_icmp .ne 16, 3) := by decide +kernel
theorem dX3_step_153 : decode cX3_step 153 = .ok (.aload_n 0, 1) := by decide +kernel
theorem dX3_step_154 : decode cX3_step 154 = .ok (.dup, 1) := by decide +kernel
theorem dX3_step_155 : decode cX3_step 155 = .ok (.getfield 22, 3) := by decide +kernel
theorem dX3_step_158 : decode cX3_step 158 = .ok (.iconst 1, 1) := by decide +kernel
theorem dX3_step_159 : decode cX3_step 159 = .ok (.iadd, 1) := by decide +kernel
theorem dX3_step_160 : decode cX3_step 160 = .ok (.putfield 22, 3) := by decide +kernel
theorem dX3_step_163 : decode cX3_step 163 = .ok (.goto (-44), 3) := by decide +kernel
theorem dX3_step_166 : decode cX3_step 166 = .ok (.return_, 1) := by decide +kernel
theorem dX3_isWord_0 : decode cX3_isWord 0 = .ok (.aload_n 0, 1) := by decide +kernel
theorem dX3_isWord_1 : decode cX3_isWord 1 = .ok (.getfield 25, 3) := by decide +kernel
theorem dX3_isWord_4 : decode cX3_isWord 4 = .ok (.iconst 1, 1) := by decide +kernel
theorem dX3_isWord_5 : decode cX3_isWord 5 = .ok (.if_icmp .ne 19, 3) := by decide +kernel
theorem dX3_isWord_8 : decode cX3_isWord 8 = .ok (.aload_n 0, 1) := by decide +kernel
theorem dX3_isWord_9 : decode cX3_isWord 9 = .ok (.getfield 22, 3) := by decide +kernel
theorem dX3_isWord_12 : decode cX3_isWord 12 = .ok (.aload_n 0, 1) := by decide +kernel
theorem dX3_isWord_13 : decode cX3_isWord 13 = .ok (.getfield 19, 3) := by decide +kernel
theorem dX3_isWord_16 : decode cX3_isWord 16 = .ok (.isub, 1) := by decide +kernel
theorem dX3_isWord_17 : decode cX3_isWord 17 = .ok (.aload_n 1, 1) := by decide +kernel
theorem dX3_isWord_18 : decode cX3_isWord 18 = .ok (.invokevirtual 53, 3) := by decide +kernel
theorem dX3_isWord_21 : decode cX3_isWord 21 = .ok (.if_icmp .eq 5, 3) := by decide +kernel
theorem dX3_isWord_24 : decode cX3_isWord 24 = .ok (.iconst 0, 1) := by decide +kernel
theorem dX3_isWord_25 : decode cX3_isWord 25 = .ok (.ireturn, 1) := by decide +kernel
theorem dX3_isWord_26 : decode cX3_isWord 26 = .ok (.iconst 0, 1) := by decide +kernel
theorem dX3_isWord_27 : decode cX3_isWord 27 = .ok (.istore_n 2, 1) := by decide +kernel
theorem dX3_isWord_28 : decode cX3_isWord 28 = .ok (.iload_n 2, 1) := by decide +kernel
theorem dX3_isWord_29 : decode cX3_isWord 29 = .ok (.aload_n 1, 1) := by decide +kernel
theorem dX3_isWord_30 : decode cX3_isWord 30 = .ok (.invokevirtual 53, 3) := by decide +kernel
theorem dX3_isWord_33 : decode cX3_isWord 33 = .ok (.if_icmp .ge 30, 3) := by decide +kernel
theorem dX3_isWord_36 : decode cX3_isWord 36 = .ok (.aload_n 0, 1) := by decide +kernel
theorem dX3_isWord_37 : decode cX3_isWord 37 = .ok (.getfield 9, 3) := by decide +kernel
theorem dX3_isWord_40 : decode cX3_isWord 40 = .ok (.aload_n 0, 1) := by decide +kernel
theorem dX3_isWord_41 : decode cX3_isWord 41 = .ok (.getfield 19, 3) := by decide +kernel
theorem dX3_isWord_44 : decode cX3_isWord 44 = .ok (.iload_n 2, 1) := by decide +kernel
theorem dX3_isWord_45 : decode cX3_isWord 45 = .ok (.iadd, 1) := by decide +kernel
theorem dX3_isWord_46 : decode cX3_isWord 46 = .ok (.iaload, 1) := by decide +kernel
theorem dX3_isWord_47 : decode cX3_isWord 47 = .ok (.aload_n 1, 1) := by decide +kernel
theorem dX3_isWord_48 : decode cX3_isWord 48 = .ok (.iload_n 2, 1) := by decide +kernel
theorem dX3_isWord_49 : decode cX3_isWord 49 = .ok (.invokevirtual 59, 3) := by decide +kernel
theorem dX3_isWord_52 : decode cX3_isWord 52 = .ok (.if_icmp .eq 5, 3) := by decide +kernel
theorem dX3_isWord_55 : decode cX3_isWord 55 = .ok (.iconst 0, 1) := by decide +kernel
theorem dX3_isWord_56 : decode cX3_isWord 56 = .ok (.ireturn, 1) := by decide +kernel
theorem dX3_isWord_57 : decode cX3_isWord 57 = .ok (.iinc 2 1, 3) := by decide +kernel
theorem dX3_isWord_60 : decode cX3_isWord 60 = .ok (.goto (-32), 3) := by decide +kernel
theorem dX3_isWord_63 : decode cX3_isWord 63 = .ok (.iconst 1, 1) := by decide +kernel
theorem dX3_isWord_64 : decode cX3_isWord 64 = .ok (.ireturn, 1) := by decide +kernel
theorem dX3_numberIn_0 : decode cX3_numberIn 0 = .ok (.aload_n 0, 1) := by decide +kernel
theorem dX3_numberIn_1 : decode cX3_numberIn 1 = .ok (.getfield 25, 3) := by decide +kernel
theorem dX3_numberIn_4 : decode cX3_numberIn 4 = .ok (.iconst 2, 1) := by decide +kernel
theorem dX3_numberIn_5 : decode cX3_numberIn 5 = .ok (.if_icmp .ne 16, 3) := by decide +kernel
theorem dX3_numberIn_8 : decode cX3_numberIn 8 = .ok (.aload_n 0, 1) := by decide +kernel
theorem dX3_numberIn_9 : decode cX3_numberIn 9 = .ok (.getfield 22, 3) := by decide +kernel
theorem dX3_numberIn_12 : decode cX3_numberIn 12 = .ok (.aload_n 0, 1) := by decide +kernel
theorem dX3_numberIn_13 : decode cX3_numberIn 13 = .ok (.getfield 19, 3) := by decide +kernel
theorem dX3_numberIn_16 : decode cX3_numberIn 16 = .ok (.isub, 1) := by decide +kernel
theorem dX3_numberIn_17 : decode cX3_numberIn 17 = .ok (.iconst 3, 1) := by decide +kernel
theorem dX3_numberIn_18 : decode cX3_numberIn 18 = .ok (.if_icmp .le 5, 3) := by decide +kernel
theorem dX3_numberIn_21 : decode cX3_numberIn 21 = .ok (.iconst (-1), 1) := by decide +kernel
theorem dX3_numberIn_22 : decode cX3_numberIn 22 = .ok (.ireturn, 1) := by decide +kernel
theorem dX3_numberIn_23 : decode cX3_numberIn 23 = .ok (.iconst 0, 1) := by decide +kernel
theorem dX3_numberIn_24 : decode cX3_numberIn 24 = .ok (.istore_n 3, 1) := by decide +kernel
theorem dX3_numberIn_25 : decode cX3_numberIn 25 = .ok (.aload_n 0, 1) := by decide +kernel
theorem dX3_numberIn_26 : decode cX3_numberIn 26 = .ok (.getfield 19, 3) := by decide +kernel
theorem dX3_numberIn_29 : decode cX3_numberIn 29 = .ok (.istore 4, 2) := by decide +kernel
theorem dX3_numberIn_31 : decode cX3_numberIn 31 = .ok (.iload 4, 2) := by decide +kernel
theorem dX3_numberIn_33 : decode cX3_numberIn 33 = .ok (.aload_n 0, 1) := by decide +kernel
theorem dX3_numberIn_34 : decode cX3_numberIn 34 = .ok (.getfield 22, 3) := by decide +kernel
theorem dX3_numberIn_37 : decode cX3_numberIn 37 = .ok (.if_icmp .ge 25, 3) := by decide +kernel
theorem dX3_numberIn_40 : decode cX3_numberIn 40 = .ok (.bipush 10, 2) := by decide +kernel
theorem dX3_numberIn_42 : decode cX3_numberIn 42 = .ok (.iload_n 3, 1) := by decide +kernel
theorem dX3_numberIn_43 : decode cX3_numberIn 43 = .ok (.imul, 1) := by decide +kernel
theorem dX3_numberIn_44 : decode cX3_numberIn 44 = .ok (.aload_n 0, 1) := by decide +kernel
theorem dX3_numberIn_45 : decode cX3_numberIn 45 = .ok (.getfield 9, 3) := by decide +kernel
theorem dX3_numberIn_48 : decode cX3_numberIn 48 = .ok (.iload 4, 2) := by decide +kernel
theorem dX3_numberIn_50 : decode cX3_numberIn 50 = .ok (.iaload, 1) := by decide +kernel
theorem dX3_numberIn_51 : decode cX3_numberIn 51 = .ok (.iadd, 1) := by decide +kernel
theorem dX3_numberIn_52 : decode cX3_numberIn 52 = .ok (.bipush 48, 2) := by decide +kernel
theorem dX3_numberIn_54 : decode cX3_numberIn 54 = .ok (.isub, 1) := by decide +kernel
theorem dX3_numberIn_55 : decode cX3_numberIn 55 = .ok (.istore_n 3, 1) := by decide +kernel
theorem dX3_numberIn_56 : decode cX3_numberIn 56 = .ok (.iinc 4 1, 3) := by decide +kernel
theorem dX3_numberIn_59 : decode cX3_numberIn 59 = .ok (.goto (-28), 3) := by decide +kernel
theorem dX3_numberIn_62 : decode cX3_numberIn 62 = .ok (.iload_n 3, 1) := by decide +kernel
theorem dX3_numberIn_63 : decode cX3_numberIn 63 = .ok (.iload_n 1, 1) := by decide +kernel
theorem dX3_numberIn_64 : decode cX3_numberIn 64 = .ok (.iload_n 2, 1) := by decide +kernel
theorem dX3_numberIn_65 : decode cX3_numberIn 65 = .ok (.invokestatic 63, 3) := by decide +kernel
theorem dX3_numberIn_68 : decode cX3_numberIn 68 = .ok (.ifCond .eq 7, 3) := by decide +kernel
theorem dX3_numberIn_71 : decode cX3_numberIn 71 = .ok (.iload_n 3, 1) := by decide +kernel
theorem dX3_numberIn_72 : decode cX3_numberIn 72 = .ok (.goto 4, 3) := by decide +kernel
theorem dX3_numberIn_75 : decode cX3_numberIn 75 = .ok (.iconst (-1), 1) := by decide +kernel
theorem dX3_numberIn_76 : decode cX3_numberIn 76 = .ok (.ireturn, 1) := by decide +kernel
theorem dX3_nextNumberIn_0 : decode cX3_nextNumberIn 0 = .ok (.aload_n 0, 1) := by decide +kernel
theorem dX3_nextNumberIn_1 : decode cX3_nextNumberIn 1 = .ok (.invokevirtual 28, 3) := by decide +kernel
theorem dX3_nextNumberIn_4 : decode cX3_nextNumberIn 4 = .ok (.aload_n 0, 1) := by decide +kernel
theorem dX3_nextNumberIn_5 : decode cX3_nextNumberIn 5 = .ok (.iload_n 1, 1) := by decide +kernel
theorem dX3_nextNumberIn_6 : decode cX3_nextNumberIn 6 = .ok (.iload_n 2, 1) := by decide +kernel
theorem dX3_nextNumberIn_7 : decode cX3_nextNumberIn 7 = .ok (.invokevirtual 67, 3) := by decide +kernel
theorem dX3_nextNumberIn_10 : decode cX3_nextNumberIn 10 = .ok (.ireturn, 1) := by decide +kernel
theorem dX3_readPlayer_0 : decode cX3_readPlayer 0 = .ok (.aload_n 1, 1) := by decide +kernel
theorem dX3_readPlayer_1 : decode cX3_readPlayer 1 = .ok (.invokevirtual 71, 3) := by decide +kernel
theorem dX3_readPlayer_4 : decode cX3_readPlayer 4 = .ok (.ifCond .ne 5, 3) := by decide +kernel
theorem dX3_readPlayer_7 : decode cX3_readPlayer 7 = .ok (.iconst 0, 1) := by decide +kernel
theorem dX3_readPlayer_8 : decode cX3_readPlayer 8 = .ok (.ireturn, 1) := by decide +kernel
theorem dX3_readPlayer_9 : decode cX3_readPlayer 9 = .ok (.aload_n 0, 1) := by decide +kernel
theorem dX3_readPlayer_10 : decode cX3_readPlayer 10 = .ok (.iconst 0, 1) := by decide +kernel
theorem dX3_readPlayer_11 : decode cX3_readPlayer 11 = .ok (.iconst 5, 1) := by decide +kernel
theorem dX3_readPlayer_12 : decode cX3_readPlayer 12 = .ok (.invokevirtual 77, 3) := by decide +kernel
theorem dX3_readPlayer_15 : decode cX3_readPlayer 15 = .ok (.istore_n 2, 1) := by decide +kernel
theorem dX3_readPlayer_16 : decode cX3_readPlayer 16 = .ok (.iload_n 2, 1) := by decide +kernel
theorem dX3_readPlayer_17 : decode cX3_readPlayer 17 = .ok (.iconst (-1), 1) := by decide +kernel
theorem dX3_readPlayer_18 : decode cX3_readPlayer 18 = .ok (.if_icmp .ne 5, 3) := by decide +kernel
theorem dX3_readPlayer_21 : decode cX3_readPlayer 21 = .ok (.iconst 0, 1) := by decide +kernel
theorem dX3_readPlayer_22 : decode cX3_readPlayer 22 = .ok (.ireturn, 1) := by decide +kernel
theorem dX3_readPlayer_23 : decode cX3_readPlayer 23 = .ok (.aload_n 0, 1) := by decide +kernel
theorem dX3_readPlayer_24 : decode cX3_readPlayer 24 = .ok (.iconst 1, 1) := by decide +kernel
theorem dX3_readPlayer_25 : decode cX3_readPlayer 25 = .ok (.bipush 99, 2) := by decide +kernel
theorem dX3_readPlayer_27 : decode cX3_readPlayer 27 = .ok (.invokevirtual 77, 3) := by decide +kernel
theorem dX3_readPlayer_30 : decode cX3_readPlayer 30 = .ok (.istore_n 3, 1) := by decide +kernel
theorem dX3_readPlayer_31 : decode cX3_readPlayer 31 = .ok (.iload_n 3, 1) := by decide +kernel
theorem dX3_readPlayer_32 : decode cX3_readPlayer 32 = .ok (.iconst (-1), 1) := by decide +kernel
theorem dX3_readPlayer_33 : decode cX3_readPlayer 33 = .ok (.if_icmp .ne 5, 3) := by decide +kernel
theorem dX3_readPlayer_36 : decode cX3_readPlayer 36 = .ok (.iconst 0, 1) := by decide +kernel
theorem dX3_readPlayer_37 : decode cX3_readPlayer 37 = .ok (.ireturn, 1) := by decide +kernel
theorem dX3_readPlayer_38 : decode cX3_readPlayer 38 = .ok (.aload_n 0, 1) := by decide +kernel
theorem dX3_readPlayer_39 : decode cX3_readPlayer 39 = .ok (.iconst 0, 1) := by decide +kernel
theorem dX3_readPlayer_40 : decode cX3_readPlayer 40 = .ok (.bipush 9, 2) := by decide +kernel
theorem dX3_readPlayer_42 : decode cX3_readPlayer 42 = .ok (.invokevirtual 77, 3) := by decide +kernel
theorem dX3_readPlayer_45 : decode cX3_readPlayer 45 = .ok (.istore 4, 2) := by decide +kernel
theorem dX3_readPlayer_47 : decode cX3_readPlayer 47 = .ok (.iload 4, 2) := by decide +kernel
theorem dX3_readPlayer_49 : decode cX3_readPlayer 49 = .ok (.iconst (-1), 1) := by decide +kernel
theorem dX3_readPlayer_50 : decode cX3_readPlayer 50 = .ok (.if_icmp .ne 5, 3) := by decide +kernel
theorem dX3_readPlayer_53 : decode cX3_readPlayer 53 = .ok (.iconst 0, 1) := by decide +kernel
theorem dX3_readPlayer_54 : decode cX3_readPlayer 54 = .ok (.ireturn, 1) := by decide +kernel
theorem dX3_readPlayer_55 : decode cX3_readPlayer 55 = .ok (.aload_n 1, 1) := by decide +kernel
theorem dX3_readPlayer_56 : decode cX3_readPlayer 56 = .ok (.iload_n 2, 1) := by decide +kernel
theorem dX3_readPlayer_57 : decode cX3_readPlayer 57 = .ok (.iload_n 3, 1) := by decide +kernel
theorem dX3_readPlayer_58 : decode cX3_readPlayer 58 = .ok (.iload 4, 2) := by decide +kernel
theorem dX3_readPlayer_60 : decode cX3_readPlayer 60 = .ok (.invokevirtual 80, 3) := by decide +kernel
theorem dX3_readPlayer_63 : decode cX3_readPlayer 63 = .ok (.pop, 1) := by decide +kernel
theorem dX3_readPlayer_64 : decode cX3_readPlayer 64 = .ok (.aload_n 0, 1) := by decide +kernel
theorem dX3_readPlayer_65 : decode cX3_readPlayer 65 = .ok (.invokevirtual 28, 3) := by decide +kernel
theorem dX3_readPlayer_68 : decode cX3_readPlayer 68 = .ok (.iconst 1, 1) := by decide +kernel
theorem dX3_readPlayer_69 : decode cX3_readPlayer 69 = .ok (.ireturn, 1) := by decide +kernel
theorem dX3_readLine_0 : decode cX3_readLine 0 = .ok (.aload_n 0, 1) := by decide +kernel
theorem dX3_readLine_1 : decode cX3_readLine 1 = .ok (.iconst 0, 1) := by decide +kernel
theorem dX3_readLine_2 : decode cX3_readLine 2 = .ok (.iconst 3, 1) := by decide +kernel
theorem dX3_readLine_3 : decode cX3_readLine 3 = .ok (.invokevirtual 77, 3) := by decide +kernel
theorem dX3_readLine_6 : decode cX3_readLine 6 = .ok (.istore_n 2, 1) := by decide +kernel
theorem dX3_readLine_7 : decode cX3_readLine 7 = .ok (.iload_n 2, 1) := by decide +kernel
theorem dX3_readLine_8 : decode cX3_readLine 8 = .ok (.iconst (-1), 1) := by decide +kernel
theorem dX3_readLine_9 : decode cX3_readLine 9 = .ok (.if_icmp .ne 5, 3) := by decide +kernel
theorem dX3_readLine_12 : decode cX3_readLine 12 = .ok (.iconst 0, 1) := by decide +kernel
theorem dX3_readLine_13 : decode cX3_readLine 13 = .ok (.ireturn, 1) := by decide +kernel
theorem dX3_readLine_14 : decode cX3_readLine 14 = .ok (.aload_n 0, 1) := by decide +kernel
theorem dX3_readLine_15 : decode cX3_readLine 15 = .ok (.invokevirtual 28, 3) := by decide +kernel
theorem dX3_readLine_18 : decode cX3_readLine 18 = .ok (.iconst 0, 1) := by decide +kernel
theorem dX3_readLine_19 : decode cX3_readLine 19 = .ok (.istore_n 3, 1) := by decide +kernel
theorem dX3_readLine_20 : decode cX3_readLine 20 = .ok (.iconst 0, 1) := by decide +kernel
theorem dX3_readLine_21 : decode cX3_readLine 21 = .ok (.istore 4, 2) := by decide +kernel
theorem dX3_readLine_23 : decode cX3_readLine 23 = .ok (.iload 4, 2) := by decide +kernel
theorem dX3_readLine_25 : decode cX3_readLine 25 = .ok (.iconst 5, 1) := by decide +kernel
theorem dX3_readLine_26 : decode cX3_readLine 26 = .ok (.if_icmp .ge 59, 3) := by decide +kernel
theorem dX3_readLine_29 : decode cX3_readLine 29 = .ok (.aload_n 0, 1) := by decide +kernel
theorem dX3_readLine_30 : decode cX3_readLine 30 = .ok (.getfield 25, 3) := by decide +kernel
theorem dX3_readLine_33 : decode cX3_readLine 33 = .ok (.iconst 2, 1) := by decide +kernel
theorem dX3_readLine_34 : decode cX3_readLine 34 = .ok (.if_icmp .ne 51, 3) := by decide +kernel
theorem dX3_readLine_37 : decode cX3_readLine 37 = .ok (.aload_n 0, 1) := by decide +kernel
theorem dX3_readLine_38 : decode cX3_readLine 38 = .ok (.iconst 0, 1) := by decide +kernel
theorem dX3_readLine_39 : decode cX3_readLine 39 = .ok (.aload_n 1, 1) := by decide +kernel
theorem dX3_readLine_40 : decode cX3_readLine 40 = .ok (.getfield 84, 3) := by decide +kernel
theorem dX3_readLine_43 : decode cX3_readLine 43 = .ok (.iconst 1, 1) := by decide +kernel
theorem dX3_readLine_44 : decode cX3_readLine 44 = .ok (.isub, 1) := by decide +kernel
theorem dX3_readLine_45 : decode cX3_readLine 45 = .ok (.invokevirtual 67, 3) := by decide +kernel
theorem dX3_readLine_48 : decode cX3_readLine 48 = .ok (.istore 5, 2) := by decide +kernel
theorem dX3_readLine_50 : decode cX3_readLine 50 = .ok (.iload 5, 2) := by decide +kernel
theorem dX3_readLine_52 : decode cX3_readLine 52 = .ok (.iconst (-1), 1) := by decide +kernel
theorem dX3_readLine_53 : decode cX3_readLine 53 = .ok (.if_icmp .eq 13, 3) := by decide +kernel
theorem dX3_readLine_56 : decode cX3_readLine 56 = .ok (.iload_n 3, 1) := by decide +kernel
theorem dX3_readLine_57 : decode cX3_readLine 57 = .ok (.iload 5, 2) := by decide +kernel
theorem dX3_readLine_59 : decode cX3_readLine 59 = .ok (.invokestatic 87, 3) := by decide +kernel
theorem dX3_readLine_62 : decode cX3_readLine 62 = .ok (.iconst 1, 1) := by decide +kernel
theorem dX3_readLine_63 : decode cX3_readLine 63 = .ok (.if_icmp .ne 5, 3) := by decide +kernel
theorem dX3_readLine_66 : decode cX3_readLine 66 = .ok (.iconst 0, 1) := by decide +kernel
theorem dX3_readLine_67 : decode cX3_readLine 67 = .ok (.ireturn, 1) := by decide +kernel
theorem dX3_readLine_68 : decode cX3_readLine 68 = .ok (.iload_n 3, 1) := by decide +kernel
theorem dX3_readLine_69 : decode cX3_readLine 69 = .ok (.iconst 1, 1) := by decide +kernel
theorem dX3_readLine_70 : decode cX3_readLine 70 = .ok (.iload 5, 2) := by decide +kernel
theorem dX3_readLine_72 : decode cX3_readLine 72 = .ok (.ishl, 1) := by decide +kernel
theorem dX3_readLine_73 : decode cX3_readLine 73 = .ok (.ior, 1) := by decide +kernel
theorem dX3_readLine_74 : decode cX3_readLine 74 = .ok (.istore_n 3, 1) := by decide +kernel
theorem dX3_readLine_75 : decode cX3_readLine 75 = .ok (.aload_n 0, 1) := by decide +kernel
theorem dX3_readLine_76 : decode cX3_readLine 76 = .ok (.invokevirtual 28, 3) := by decide +kernel
theorem dX3_readLine_79 : decode cX3_readLine 79 = .ok (.iinc 4 1, 3) := by decide +kernel
theorem dX3_readLine_82 : decode cX3_readLine 82 = .ok (.goto (-59), 3) := by decide +kernel
theorem dX3_readLine_85 : decode cX3_readLine 85 = .ok (.iload_n 3, 1) := by decide +kernel
theorem dX3_readLine_86 : decode cX3_readLine 86 = .ok (.ifCond .ne 5, 3) := by decide +kernel
theorem dX3_readLine_89 : decode cX3_readLine 89 = .ok (.iconst 0, 1) := by decide +kernel
theorem dX3_readLine_90 : decode cX3_readLine 90 = .ok (.ireturn, 1) := by decide +kernel
theorem dX3_readLine_91 : decode cX3_readLine 91 = .ok (.aload_n 1, 1) := by decide +kernel
theorem dX3_readLine_92 : decode cX3_readLine 92 = .ok (.getfield 90, 3) := by decide +kernel
theorem dX3_readLine_95 : decode cX3_readLine 95 = .ok (.iload_n 2, 1) := by decide +kernel
theorem dX3_readLine_96 : decode cX3_readLine 96 = .ok (.iload_n 3, 1) := by decide +kernel
theorem dX3_readLine_97 : decode cX3_readLine 97 = .ok (.iastore, 1) := by decide +kernel
theorem dX3_readLine_98 : decode cX3_readLine 98 = .ok (.iconst 1, 1) := by decide +kernel
theorem dX3_readLine_99 : decode cX3_readLine 99 = .ok (.ireturn, 1) := by decide +kernel
theorem dX3_wordOfOneNumber_0 : decode cX3_wordOfOneNumber 0 = .ok (.aload_n 0, 1) := by decide +kernel
theorem dX3_wordOfOneNumber_1 : decode cX3_wordOfOneNumber 1 = .ok (.ldc 93, 2) := by decide +kernel
theorem dX3_wordOfOneNumber_3 : decode cX3_wordOfOneNumber 3 = .ok (.invokevirtual 33, 3) := by decide +kernel
theorem dX3_wordOfOneNumber_6 : decode cX3_wordOfOneNumber 6 = .ok (.ifCond .eq 5, 3) := by decide +kernel
theorem dX3_wordOfOneNumber_9 : decode cX3_wordOfOneNumber 9 = .ok (.iconst 0, 1) := by decide +kernel
theorem dX3_wordOfOneNumber_10 : decode cX3_wordOfOneNumber 10 = .ok (.ireturn, 1) := by decide +kernel
theorem dX3_wordOfOneNumber_11 : decode cX3_wordOfOneNumber 11 = .ok (.aload_n 0, 1) := by decide +kernel
theorem dX3_wordOfOneNumber_12 : decode cX3_wordOfOneNumber 12 = .ok (.ldc 95, 2) := by decide +kernel
theorem dX3_wordOfOneNumber_14 : decode cX3_wordOfOneNumber 14 = .ok (.invokevirtual 33, 3) := by decide +kernel
theorem dX3_wordOfOneNumber_17 : decode cX3_wordOfOneNumber 17 = .ok (.ifCond .eq 5, 3) := by decide +kernel
theorem dX3_wordOfOneNumber_20 : decode cX3_wordOfOneNumber 20 = .ok (.iconst 1, 1) := by decide +kernel
theorem dX3_wordOfOneNumber_21 : decode cX3_wordOfOneNumber 21 = .ok (.ireturn, 1) := by decide +kernel
theorem dX3_wordOfOneNumber_22 : decode cX3_wordOfOneNumber 22 = .ok (.aload_n 0, 1) := by decide +kernel
theorem dX3_wordOfOneNumber_23 : decode cX3_wordOfOneNumber 23 = .ok (.ldc 97, 2) := by decide +kernel
theorem dX3_wordOfOneNumber_25 : decode cX3_wordOfOneNumber 25 = .ok (.invokevirtual 33, 3) := by decide +kernel
theorem dX3_wordOfOneNumber_28 : decode cX3_wordOfOneNumber 28 = .ok (.ifCond .eq 5, 3) := by decide +kernel
theorem dX3_wordOfOneNumber_31 : decode cX3_wordOfOneNumber 31 = .ok (.iconst 2, 1) := by decide +kernel
theorem dX3_wordOfOneNumber_32 : decode cX3_wordOfOneNumber 32 = .ok (.ireturn, 1) := by decide +kernel
theorem dX3_wordOfOneNumber_33 : decode cX3_wordOfOneNumber 33 = .ok (.aload_n 0, 1) := by decide +kernel
theorem dX3_wordOfOneNumber_34 : decode cX3_wordOfOneNumber 34 = .ok (.ldc 99, 2) := by decide +kernel
theorem dX3_wordOfOneNumber_36 : decode cX3_wordOfOneNumber 36 = .ok (.invokevirtual 33, 3) := by decide +kernel
theorem dX3_wordOfOneNumber_39 : decode cX3_wordOfOneNumber 39 = .ok (.ifCond .eq 5, 3) := by decide +kernel
theorem dX3_wordOfOneNumber_42 : decode cX3_wordOfOneNumber 42 = .ok (.iconst 3, 1) := by decide +kernel
theorem dX3_wordOfOneNumber_43 : decode cX3_wordOfOneNumber 43 = .ok (.ireturn, 1) := by decide +kernel
theorem dX3_wordOfOneNumber_44 : decode cX3_wordOfOneNumber 44 = .ok (.aload_n 0, 1) := by decide +kernel
theorem dX3_wordOfOneNumber_45 : decode cX3_wordOfOneNumber 45 = .ok (.ldc 101, 2) := by decide +kernel
theorem dX3_wordOfOneNumber_47 : decode cX3_wordOfOneNumber 47 = .ok (.invokevirtual 33, 3) := by decide +kernel
theorem dX3_wordOfOneNumber_50 : decode cX3_wordOfOneNumber 50 = .ok (.ifCond .eq 7, 3) := by decide +kernel
theorem dX3_wordOfOneNumber_53 : decode cX3_wordOfOneNumber 53 = .ok (.iconst 4, 1) := by decide +kernel
theorem dX3_wordOfOneNumber_54 : decode cX3_wordOfOneNumber 54 = .ok (.goto 4, 3) := by decide +kernel
theorem dX3_wordOfOneNumber_57 : decode cX3_wordOfOneNumber 57 = .ok (.iconst (-1), 1) := by decide +kernel
theorem dX3_wordOfOneNumber_58 : decode cX3_wordOfOneNumber 58 = .ok (.ireturn, 1) := by decide +kernel
theorem dX3_readOneNumber_0 : decode cX3_readOneNumber 0 = .ok (.aload_n 0, 1) := by decide +kernel
theorem dX3_readOneNumber_1 : decode cX3_readOneNumber 1 = .ok (.invokevirtual 103, 3) := by decide +kernel
theorem dX3_readOneNumber_4 : decode cX3_readOneNumber 4 = .ok (.istore_n 2, 1) := by decide +kernel
theorem dX3_readOneNumber_5 : decode cX3_readOneNumber 5 = .ok (.iload_n 2, 1) := by decide +kernel
theorem dX3_readOneNumber_6 : decode cX3_readOneNumber 6 = .ok (.iconst (-1), 1) := by decide +kernel
theorem dX3_readOneNumber_7 : decode cX3_readOneNumber 7 = .ok (.if_icmp .ne 5, 3) := by decide +kernel
theorem dX3_readOneNumber_10 : decode cX3_readOneNumber 10 = .ok (.iconst 0, 1) := by decide +kernel
theorem dX3_readOneNumber_11 : decode cX3_readOneNumber 11 = .ok (.ireturn, 1) := by decide +kernel
theorem dX3_readOneNumber_12 : decode cX3_readOneNumber 12 = .ok (.aload_n 0, 1) := by decide +kernel
theorem dX3_readOneNumber_13 : decode cX3_readOneNumber 13 = .ok (.getstatic 106, 3) := by decide +kernel
theorem dX3_readOneNumber_16 : decode cX3_readOneNumber 16 = .ok (.iload_n 2, 1) := by decide +kernel
theorem dX3_readOneNumber_17 : decode cX3_readOneNumber 17 = .ok (.iaload, 1) := by decide +kernel
theorem dX3_readOneNumber_18 : decode cX3_readOneNumber 18 = .ok (.getstatic 109, 3) := by decide +kernel
theorem dX3_readOneNumber_21 : decode cX3_readOneNumber 21 = .ok (.iload_n 2, 1) := by decide +kernel
theorem dX3_readOneNumber_22 : decode cX3_readOneNumber 22 = .ok (.iaload, 1) := by decide +kernel
theorem dX3_readOneNumber_23 : decode cX3_readOneNumber 23 = .ok (.invokevirtual 77, 3) := by decide +kernel
theorem dX3_readOneNumber_26 : decode cX3_readOneNumber 26 = .ok (.istore_n 3, 1) := by decide +kernel
theorem dX3_readOneNumber_27 : decode cX3_readOneNumber 27 = .ok (.iload_n 3, 1) := by decide +kernel
theorem dX3_readOneNumber_28 : decode cX3_readOneNumber 28 = .ok (.iconst (-1), 1) := by decide +kernel
theorem dX3_readOneNumber_29 : decode cX3_readOneNumber 29 = .ok (.if_icmp .eq 15, 3) := by decide +kernel
theorem dX3_readOneNumber_32 : decode cX3_readOneNumber 32 = .ok (.iload_n 2, 1) := by decide +kernel
theorem dX3_readOneNumber_33 : decode cX3_readOneNumber 33 = .ok (.ifCond .ne 13, 3) := by decide +kernel
theorem dX3_readOneNumber_36 : decode cX3_readOneNumber 36 = .ok (.aload_n 1, 1) := by decide +kernel
theorem dX3_readOneNumber_37 : decode cX3_readOneNumber 37 = .ok (.iload_n 3, 1) := by decide +kernel
theorem dX3_readOneNumber_38 : decode cX3_readOneNumber 38 = .ok (.invokevirtual 112, 3) := by decide +kernel
theorem dX3_readOneNumber_41 : decode cX3_readOneNumber 41 = .ok (.ifCond .ne 5, 3) := by decide +kernel
theorem dX3_readOneNumber_44 : decode cX3_readOneNumber 44 = .ok (.iconst 0, 1) := by decide +kernel
theorem dX3_readOneNumber_45 : decode cX3_readOneNumber 45 = .ok (.ireturn, 1) := by decide +kernel
theorem dX3_readOneNumber_46 : decode cX3_readOneNumber 46 = .ok (.iload_n 2, 1) := by decide +kernel
theorem dX3_readOneNumber_47 : decode cX3_readOneNumber 47 = .ok (.tableswitch 66 0 3 #[29, 42, 50, 58], 29) := by decide +kernel
theorem dX3_readOneNumber_76 : decode cX3_readOneNumber 76 = .ok (.aload_n 1, 1) := by decide +kernel
theorem dX3_readOneNumber_77 : decode cX3_readOneNumber 77 = .ok (.aload_n 1, 1) := by decide +kernel
theorem dX3_readOneNumber_78 : decode cX3_readOneNumber 78 = .ok (.getfield 90, 3) := by decide +kernel
theorem dX3_readOneNumber_81 : decode cX3_readOneNumber 81 = .ok (.iload_n 3, 1) := by decide +kernel
theorem dX3_readOneNumber_82 : decode cX3_readOneNumber 82 = .ok (.iaload, 1) := by decide +kernel
theorem dX3_readOneNumber_83 : decode cX3_readOneNumber 83 = .ok (.invokevirtual 116, 3) := by decide +kernel
theorem dX3_readOneNumber_86 : decode cX3_readOneNumber 86 = .ok (.goto 33, 3) := by decide +kernel
theorem dX3_readOneNumber_89 : decode cX3_readOneNumber 89 = .ok (.aload_n 1, 1) := by decide +kernel
theorem dX3_readOneNumber_90 : decode cX3_readOneNumber 90 = .ok (.iload_n 3, 1) := by decide +kernel
theorem dX3_readOneNumber_91 : decode cX3_readOneNumber 91 = .ok (.putfield 120, 3) := by decide +kernel
theorem dX3_readOneNumber_94 : decode cX3_readOneNumber 94 = .ok (.goto 25, 3) := by decide +kernel
theorem dX3_readOneNumber_97 : decode cX3_readOneNumber 97 = .ok (.aload_n 1, 1) := by decide +kernel
theorem dX3_readOneNumber_98 : decode cX3_readOneNumber 98 = .ok (.iload_n 3, 1) := by decide +kernel
theorem dX3_readOneNumber_99 : decode cX3_readOneNumber 99 = .ok (.putfield 122, 3) := by decide +kernel
theorem dX3_readOneNumber_102 : decode cX3_readOneNumber 102 = .ok (.goto 17, 3) := by decide +kernel
theorem dX3_readOneNumber_105 : decode cX3_readOneNumber 105 = .ok (.aload_n 1, 1) := by decide +kernel
theorem dX3_readOneNumber_106 : decode cX3_readOneNumber 106 = .ok (.iload_n 3, 1) := by decide +kernel
theorem dX3_readOneNumber_107 : decode cX3_readOneNumber 107 = .ok (.putfield 124, 3) := by decide +kernel
theorem dX3_readOneNumber_110 : decode cX3_readOneNumber 110 = .ok (.goto 9, 3) := by decide +kernel
theorem dX3_readOneNumber_113 : decode cX3_readOneNumber 113 = .ok (.aload_n 1, 1) := by decide +kernel
theorem dX3_readOneNumber_114 : decode cX3_readOneNumber 114 = .ok (.iload_n 3, 1) := by decide +kernel
theorem dX3_readOneNumber_115 : decode cX3_readOneNumber 115 = .ok (.invokevirtual 126, 3) := by decide +kernel
theorem dX3_readOneNumber_118 : decode cX3_readOneNumber 118 = .ok (.pop, 1) := by decide +kernel
theorem dX3_readOneNumber_119 : decode cX3_readOneNumber 119 = .ok (.aload_n 0, 1) := by decide +kernel
theorem dX3_readOneNumber_120 : decode cX3_readOneNumber 120 = .ok (.invokevirtual 28, 3) := by decide +kernel
theorem dX3_readOneNumber_123 : decode cX3_readOneNumber 123 = .ok (.iconst 1, 1) := by decide +kernel
theorem dX3_readOneNumber_124 : decode cX3_readOneNumber 124 = .ok (.ireturn, 1) := by decide +kernel
theorem dX4_init_0 : decode cX4_init 0 = .ok (.aload_n 0, 1) := by decide +kernel
theorem dX4_init_1 : decode cX4_init 1 = .ok (.invokespecial 1, 3) := by decide +kernel
theorem dX4_init_4 : decode cX4_init 4 = .ok (.aload_n 0, 1) := by decide +kernel
theorem dX4_init_5 : decode cX4_init 5 = .ok (.new 7, 3) := by decide +kernel
theorem dX4_init_8 : decode cX4_init 8 = .ok (.dup, 1) := by decide +kernel
theorem dX4_init_9 : decode cX4_init 9 = .ok (.invokespecial 9, 3) := by decide +kernel
theorem dX4_init_12 : decode cX4_init 12 = .ok (.putfield 10, 3) := by decide +kernel
theorem dX4_init_15 : decode cX4_init 15 = .ok (.aload_n 0, 1) := by decide +kernel
theorem dX4_init_16 : decode cX4_init 16 = .ok (.new 7, 3) := by decide +kernel
theorem dX4_init_19 : decode cX4_init 19 = .ok (.dup, 1) := by decide +kernel
theorem dX4_init_20 : decode cX4_init 20 = .ok (.invokespecial 9, 3) := by decide +kernel
theorem dX4_init_23 : decode cX4_init 23 = .ok (.putfield 16, 3) := by decide +kernel
theorem dX4_init_26 : decode cX4_init 26 = .ok (.aload_n 0, 1) := by decide +kernel
theorem dX4_init_27 : decode cX4_init 27 = .ok (.new 7, 3) := by decide +kernel
theorem dX4_init_30 : decode cX4_init 30 = .ok (.dup, 1) := by decide +kernel
theorem dX4_init_31 : decode cX4_init 31 = .ok (.invokespecial 9, 3) := by decide +kernel
theorem dX4_init_34 : decode cX4_init 34 = .ok (.putfield 19, 3) := by decide +kernel
theorem dX4_init_37 : decode cX4_init 37 = .ok (.aload_n 0, 1) := by decide +kernel
theorem dX4_init_38 : decode cX4_init 38 = .ok (.new 7, 3) := by decide +kernel
theorem dX4_init_41 : decode cX4_init 41 = .ok (.dup, 1) := by decide +kernel
theorem dX4_init_42 : decode cX4_init 42 = .ok (.invokespecial 9, 3) := by decide +kernel
theorem dX4_init_45 : decode cX4_init 45 = .ok (.putfield 22, 3) := by decide +kernel
theorem dX4_init_48 : decode cX4_init 48 = .ok (.aload_n 0, 1) := by decide +kernel
theorem dX4_init_49 : decode cX4_init 49 = .ok (.new 25, 3) := by decide +kernel
theorem dX4_init_52 : decode cX4_init 52 = .ok (.dup, 1) := by decide +kernel
theorem dX4_init_53 : decode cX4_init 53 = .ok (.invokespecial 27, 3) := by decide +kernel
theorem dX4_init_56 : decode cX4_init 56 = .ok (.putfield 28, 3) := by decide +kernel
theorem dX4_init_59 : decode cX4_init 59 = .ok (.aload_n 0, 1) := by decide +kernel
theorem dX4_init_60 : decode cX4_init 60 = .ok (.bipush 8, 2) := by decide +kernel
theorem dX4_init_62 : decode cX4_init 62 = .ok (.anewarray 32, 3) := by decide +kernel
theorem dX4_init_65 : decode cX4_init 65 = .ok (.putfield 34, 3) := by decide +kernel
theorem dX4_init_68 : decode cX4_init 68 = .ok (.aload_n 0, 1) := by decide +kernel
theorem dX4_init_69 : decode cX4_init 69 = .ok (.iconst 5, 1) := by decide +kernel
theorem dX4_init_70 : decode cX4_init 70 = .ok (.newarray .int, 2) := by decide +kernel
theorem dX4_init_72 : decode cX4_init 72 = .ok (.putfield 38, 3) := by decide +kernel
theorem dX4_init_75 : decode cX4_init 75 = .ok (.aload_n 0, 1) := by decide +kernel
theorem dX4_init_76 : decode cX4_init 76 = .ok (.new 42, 3) := by decide +kernel
theorem dX4_init_79 : decode cX4_init 79 = .ok (.dup, 1) := by decide +kernel
theorem dX4_init_80 : decode cX4_init 80 = .ok (.invokespecial 44, 3) := by decide +kernel
theorem dX4_init_83 : decode cX4_init 83 = .ok (.putfield 45, 3) := by decide +kernel
theorem dX4_init_86 : decode cX4_init 86 = .ok (.aload_n 0, 1) := by decide +kernel
theorem dX4_init_87 : decode cX4_init 87 = .ok (.iconst 0, 1) := by decide +kernel
theorem dX4_init_88 : decode cX4_init 88 = .ok (.putfield 49, 3) := by decide +kernel
theorem dX4_init_91 : decode cX4_init 91 = .ok (.iconst 0, 1) := by decide +kernel
theorem dX4_init_92 : decode cX4_init 92 = .ok (.istore_n 1, 1) := by decide +kernel
theorem dX4_init_93 : decode cX4_init 93 = .ok (.iload_n 1, 1) := by decide +kernel
theorem dX4_init_94 : decode cX4_init 94 = .ok (.bipush 8, 2) := by decide +kernel
theorem dX4_init_96 : decode cX4_init 96 = .ok (.if_icmp .ge 22, 3) := by decide +kernel
theorem dX4_init_99 : decode cX4_init 99 = .ok (.aload_n 0, 1) := by decide +kernel
theorem dX4_init_100 : decode cX4_init 100 = .ok (.getfield 34, 3) := by decide +kernel
theorem dX4_init_103 : decode cX4_init 103 = .ok (.iload_n 1, 1) := by decide +kernel
theorem dX4_init_104 : decode cX4_init 104 = .ok (.new 32, 3) := by decide +kernel
theorem dX4_init_107 : decode cX4_init 107 = .ok (.dup, 1) := by decide +kernel
theorem dX4_init_108 : decode cX4_init 108 = .ok (.invokespecial 53, 3) := by decide +kernel
theorem dX4_init_111 : decode cX4_init 111 = .ok (.aastore, 1) := by decide +kernel
theorem dX4_init_112 : decode cX4_init 112 = .ok (.iinc 1 1, 3) := by decide +kernel
theorem dX4_init_115 : decode cX4_init 115 = .ok (.goto (-22), 3) := by decide +kernel
theorem dX4_init_118 : decode cX4_init 118 = .ok (.return_, 1) := by decide +kernel
theorem dX4_row_0 : decode cX4_row 0 = .ok (.iload_n 1, 1) := by decide +kernel
theorem dX4_row_1 : decode cX4_row 1 = .ok (.invokestatic 54, 3) := by decide +kernel
theorem dX4_row_4 : decode cX4_row 4 = .ok (.ifCond .eq 22, 3) := by decide +kernel
theorem dX4_row_7 : decode cX4_row 7 = .ok (.iload_n 2, 1) := by decide +kernel
theorem dX4_row_8 : decode cX4_row 8 = .ok (.iconst 0, 1) := by decide +kernel
theorem dX4_row_9 : decode cX4_row 9 = .ok (.iconst 4, 1) := by decide +kernel
theorem dX4_row_10 : decode cX4_row 10 = .ok (.invokestatic 58, 3) := by decide +kernel
theorem dX4_row_13 : decode cX4_row 13 = .ok (.ifCond .eq 13, 3) := by decide +kernel
theorem dX4_row_16 : decode cX4_row 16 = .ok (.iload_n 3, 1) := by decide +kernel
theorem dX4_row_17 : decode cX4_row 17 = .ok (.iconst 0, 1) := by decide +kernel
theorem dX4_row_18 : decode cX4_row 18 = .ok (.bipush 40, 2) := by decide +kernel
theorem dX4_row_20 : decode cX4_row 20 = .ok (.invokestatic 58, 3) := by decide +kernel
theorem dX4_row_23 : decode cX4_row 23 = .ok (.ifCond .ne 10, 3) := by decide +kernel
theorem dX4_row_26 : decode cX4_row 26 = .ok (.aload_n 0, 1) := by decide +kernel
theorem dX4_row_27 : decode cX4_row 27 = .ok (.bipush (-2), 2) := by decide +kernel
theorem dX4_row_29 : decode cX4_row 29 = .ok (.invokevirtual 62, 3) := by decide +kernel
theorem dX4_row_32 : decode cX4_row 32 = .ok (.ireturn, 1) := by decide +kernel
theorem dX4_row_33 : decode cX4_row 33 = .ok (.aload_n 0, 1) := by decide +kernel
theorem dX4_row_34 : decode cX4_row 34 = .ok (.getfield 34, 3) := by decide +kernel
theorem dX4_row_37 : decode cX4_row 37 = .ok (.iload_n 1, 1) := by decide +kernel
theorem dX4_row_38 : decode cX4_row 38 = .ok (.aaload, 1) := by decide +kernel
theorem dX4_row_39 : decode cX4_row 39 = .ok (.iload_n 2, 1) := by decide +kernel
theorem dX4_row_40 : decode cX4_row 40 = .ok (.iload_n 3, 1) := by decide +kernel
theorem dX4_row_41 : decode cX4_row 41 = .ok (.invokevirtual 66, 3) := by decide +kernel
theorem dX4_row_44 : decode cX4_row 44 = .ok (.iconst 1, 1) := by decide +kernel
theorem dX4_row_45 : decode cX4_row 45 = .ok (.ireturn, 1) := by decide +kernel
theorem dX4_set_0 : decode cX4_set 0 = .ok (.iload_n 1, 1) := by decide +kernel
theorem dX4_set_1 : decode cX4_set 1 = .ok (.invokestatic 54, 3) := by decide +kernel
theorem dX4_set_4 : decode cX4_set 4 = .ok (.ifCond .ne 10, 3) := by decide +kernel
theorem dX4_set_7 : decode cX4_set 7 = .ok (.aload_n 0, 1) := by decide +kernel
theorem dX4_set_8 : decode cX4_set 8 = .ok (.bipush (-2), 2) := by decide +kernel
theorem dX4_set_10 : decode cX4_set 10 = .ok (.invokevirtual 62, 3) := by decide +kernel
theorem dX4_set_13 : decode cX4_set 13 = .ok (.ireturn, 1) := by decide +kernel
theorem dX4_set_14 : decode cX4_set 14 = .ok (.aload_n 0, 1) := by decide +kernel
theorem dX4_set_15 : decode cX4_set 15 = .ok (.getfield 34, 3) := by decide +kernel
theorem dX4_set_18 : decode cX4_set 18 = .ok (.iload_n 1, 1) := by decide +kernel
theorem dX4_set_19 : decode cX4_set 19 = .ok (.aaload, 1) := by decide +kernel
theorem dX4_set_20 : decode cX4_set 20 = .ok (.astore 5, 2) := by decide +kernel
theorem dX4_set_22 : decode cX4_set 22 = .ok (.aload 5, 2) := by decide +kernel
theorem dX4_set_24 : decode cX4_set 24 = .ok (.invokevirtual 70, 3) := by decide +kernel
theorem dX4_set_27 : decode cX4_set 27 = .ok (.ifCond .ne 13, 3) := by decide +kernel
theorem dX4_set_30 : decode cX4_set 30 = .ok (.aload_n 0, 1) := by decide +kernel
theorem dX4_set_31 : decode cX4_set 31 = .ok (.aload 5, 2) := by decide +kernel
theorem dX4_set_33 : decode cX4_set 33 = .ok (.invokevirtual 74, 3) := by decide +kernel
theorem dX4_set_36 : decode cX4_set 36 = .ok (.invokevirtual 62, 3) := by decide +kernel
theorem dX4_set_39 : decode cX4_set 39 = .ok (.ireturn, 1) := by decide +kernel
theorem dX4_set_40 : decode cX4_set 40 = .ok (.iload_n 2, 1) := by decide +kernel
theorem dX4_set_41 : decode cX4_set 41 = .ok (.iconst 0, 1) := by decide +kernel
theorem dX4_set_42 : decode cX4_set 42 = .ok (.aload 5, 2) := by decide +kernel
theorem dX4_set_44 : decode cX4_set 44 = .ok (.getfield 78, 3) := by decide +kernel
theorem dX4_set_47 : decode cX4_set 47 = .ok (.iconst 1, 1) := by decide +kernel
theorem dX4_set_48 : decode cX4_set 48 = .ok (.isub, 1) := by decide +kernel
theorem dX4_set_49 : decode cX4_set 49 = .ok (.invokestatic 58, 3) := by decide +kernel
theorem dX4_set_52 : decode cX4_set 52 = .ok (.ifCond .ne 10, 3) := by decide +kernel
theorem dX4_set_55 : decode cX4_set 55 = .ok (.aload_n 0, 1) := by decide +kernel
theorem dX4_set_56 : decode cX4_set 56 = .ok (.bipush (-2), 2) := by decide +kernel
theorem dX4_set_58 : decode cX4_set 58 = .ok (.invokevirtual 62, 3) := by decide +kernel
theorem dX4_set_61 : decode cX4_set 61 = .ok (.ireturn, 1) := by decide +kernel
theorem dX4_set_62 : decode cX4_set 62 = .ok (.aload 5, 2) := by decide +kernel
theorem dX4_set_64 : decode cX4_set 64 = .ok (.iload_n 2, 1) := by decide +kernel
theorem dX4_set_65 : decode cX4_set 65 = .ok (.lload_n 3, 1) := by decide +kernel
theorem dX4_set_66 : decode cX4_set 66 = .ok (.invokevirtual 82, 3) := by decide +kernel
theorem dX4_set_69 : decode cX4_set 69 = .ok (.iconst 1, 1) := by decide +kernel
theorem dX4_set_70 : decode cX4_set 70 = .ok (.ireturn, 1) := by decide +kernel
theorem dX4_copy_0 : decode cX4_copy 0 = .ok (.iload_n 1, 1) := by decide +kernel
theorem dX4_copy_1 : decode cX4_copy 1 = .ok (.invokestatic 54, 3) := by decide +kernel
theorem dX4_copy_4 : decode cX4_copy 4 = .ok (.ifCond .eq 10, 3) := by decide +kernel
theorem dX4_copy_7 : decode cX4_copy 7 = .ok (.iload_n 2, 1) := by decide +kernel
theorem dX4_copy_8 : decode cX4_copy 8 = .ok (.invokestatic 54, 3) := by decide +kernel
theorem dX4_copy_11 : decode cX4_copy 11 = .ok (.ifCond .ne 10, 3) := by decide +kernel
theorem dX4_copy_14 : decode cX4_copy 14 = .ok (.aload_n 0, 1) := by decide +kernel
theorem dX4_copy_15 : decode cX4_copy 15 = .ok (.bipush (-2), 2) := by decide +kernel
theorem dX4_copy_17 : decode cX4_copy 17 = .ok (.invokevirtual 62, 3) := by decide +kernel
theorem dX4_copy_20 : decode cX4_copy 20 = .ok (.ireturn, 1) := by decide +kernel
theorem dX4_copy_21 : decode cX4_copy 21 = .ok (.aload_n 0, 1) := by decide +kernel
theorem dX4_copy_22 : decode cX4_copy 22 = .ok (.getfield 34, 3) := by decide +kernel
theorem dX4_copy_25 : decode cX4_copy 25 = .ok (.iload_n 1, 1) := by decide +kernel
theorem dX4_copy_26 : decode cX4_copy 26 = .ok (.aaload, 1) := by decide +kernel
theorem dX4_copy_27 : decode cX4_copy 27 = .ok (.astore 6, 2) := by decide +kernel
theorem dX4_copy_29 : decode cX4_copy 29 = .ok (.aload_n 0, 1) := by decide +kernel
theorem dX4_copy_30 : decode cX4_copy 30 = .ok (.getfield 34, 3) := by decide +kernel
theorem dX4_copy_33 : decode cX4_copy 33 = .ok (.iload_n 2, 1) := by decide +kernel
theorem dX4_copy_34 : decode cX4_copy 34 = .ok (.aaload, 1) := by decide +kernel
theorem dX4_copy_35 : decode cX4_copy 35 = .ok (.astore 7, 2) := by decide +kernel
theorem dX4_copy_37 : decode cX4_copy 37 = .ok (.aload 6, 2) := by decide +kernel
theorem dX4_copy_39 : decode cX4_copy 39 = .ok (.invokevirtual 70, 3) := by decide +kernel
theorem dX4_copy_42 : decode cX4_copy 42 = .ok (.ifCond .eq 28, 3) := by decide +kernel
theorem dX4_copy_45 : decode cX4_copy 45 = .ok (.aload 7, 2) := by decide +kernel
theorem dX4_copy_47 : decode cX4_copy 47 = .ok (.invokevirtual 70, 3) := by decide +kernel
theorem dX4_copy_50 : decode cX4_copy 50 = .ok (.ifCond .eq 20, 3) := by decide +kernel
theorem dX4_copy_53 : decode cX4_copy 53 = .ok (.aload 6, 2) := by decide +kernel
theorem dX4_copy_55 : decode cX4_copy 55 = .ok (.getfield 86, 3) := by decide +kernel
theorem dX4_copy_58 : decode cX4_copy 58 = .ok (.aload 7, 2) := by decide +kernel
theorem dX4_copy_60 : decode cX4_copy 60 = .ok (.getfield 86, 3) := by decide +kernel
theorem dX4_copy_63 : decode cX4_copy 63 = .ok (.if_icmp .eq 7, 3) := by decide +kernel
theorem dX4_copy_66 : decode cX4_copy 66 = .ok (.iconst 1, 1) := by decide +kernel
theorem dX4_copy_67 : decode cX4_copy 67 = .ok (.goto 4, 3) := by decide +kernel
theorem dX4_copy_70 : decode cX4_copy 70 = .ok (.iconst 0, 1) := by decide +kernel
theorem dX4_copy_71 : decode cX4_copy 71 = .ok (.istore 8, 2) := by decide +kernel
theorem dX4_copy_73 : decode cX4_copy 73 = .ok (.aload 6, 2) := by decide +kernel
theorem dX4_copy_75 : decode cX4_copy 75 = .ok (.invokevirtual 89, 3) := by decide +kernel
theorem dX4_copy_78 : decode cX4_copy 78 = .ok (.ifCond .ne 16, 3) := by decide +kernel
theorem dX4_copy_81 : decode cX4_copy 81 = .ok (.aload 7, 2) := by decide +kernel
theorem dX4_copy_83 : decode cX4_copy 83 = .ok (.invokevirtual 89, 3) := by decide +kernel
theorem dX4_copy_86 : decode cX4_copy 86 = .ok (.ifCond .ne 8, 3) := by decide +kernel
theorem dX4_copy_89 : decode cX4_copy 89 = .ok (.iload 8, 2) := by decide +kernel
theorem dX4_copy_91 : decode cX4_copy 91 = .ok (.ifCond .eq 10, 3) := by decide +kernel
theorem dX4_copy_94 : decode cX4_copy 94 = .ok (.aload_n 0, 1) := by decide +kernel
theorem dX4_copy_95 : decode cX4_copy 95 = .ok (.bipush (-3), 2) := by decide +kernel
theorem dX4_copy_97 : decode cX4_copy 97 = .ok (.invokevirtual 62, 3) := by decide +kernel
theorem dX4_copy_100 : decode cX4_copy 100 = .ok (.ireturn, 1) := by decide +kernel
theorem dX4_copy_101 : decode cX4_copy 101 = .ok (.aload 6, 2) := by decide +kernel
theorem dX4_copy_103 : decode cX4_copy 103 = .ok (.invokevirtual 70, 3) := by decide +kernel
theorem dX4_copy_106 : decode cX4_copy 106 = .ok (.ifCond .eq 11, 3) := by decide +kernel
theorem dX4_copy_109 : decode cX4_copy 109 = .ok (.aload 7, 2) := by decide +kernel
theorem dX4_copy_111 : decode cX4_copy 111 = .ok (.invokevirtual 70, 3) := by decide +kernel
theorem dX4_copy_114 : decode cX4_copy 114 = .ok (.ifCond .ne 10, 3) := by decide +kernel
theorem dX4_copy_117 : decode cX4_copy 117 = .ok (.aload_n 0, 1) := by decide +kernel
theorem dX4_copy_118 : decode cX4_copy 118 = .ok (.bipush (-4), 2) := by decide +kernel
theorem dX4_copy_120 : decode cX4_copy 120 = .ok (.invokevirtual 62, 3) := by decide +kernel
theorem dX4_copy_123 : decode cX4_copy 123 = .ok (.ireturn, 1) := by decide +kernel
theorem dX4_copy_124 : decode cX4_copy 124 = .ok (.aload 6, 2) := by decide +kernel
theorem dX4_copy_126 : decode cX4_copy 126 = .ok (.iload_n 3, 1) := by decide +kernel
theorem dX4_copy_127 : decode cX4_copy 127 = .ok (.iload 5, 2) := by decide +kernel
theorem dX4_copy_129 : decode cX4_copy 129 = .ok (.invokevirtual 92, 3) := by decide +kernel
theorem dX4_copy_132 : decode cX4_copy 132 = .ok (.ifCond .eq 15, 3) := by decide +kernel
theorem dX4_copy_135 : decode cX4_copy 135 = .ok (.aload 7, 2) := by decide +kernel
theorem dX4_copy_137 : decode cX4_copy 137 = .ok (.iload 4, 2) := by decide +kernel
theorem dX4_copy_139 : decode cX4_copy 139 = .ok (.iload 5, 2) := by decide +kernel
theorem dX4_copy_141 : decode cX4_copy 141 = .ok (.invokevirtual 92, 3) := by decide +kernel
theorem dX4_copy_144 : decode cX4_copy 144 = .ok (.ifCond .ne 10, 3) := by decide +kernel
theorem dX4_copy_147 : decode cX4_copy 147 = .ok (.aload_n 0, 1) := by decide +kernel
theorem dX4_copy_148 : decode cX4_copy 148 = .ok (.bipush (-2), 2) := by decide +kernel
theorem dX4_copy_150 : decode cX4_copy 150 = .ok (.invokevirtual 62, 3) := by decide +kernel
theorem dX4_copy_153 : decode cX4_copy 153 = .ok (.ireturn, 1) := by decide +kernel
theorem dX4_copy_154 : decode cX4_copy 154 = .ok (.aload 6, 2) := by decide +kernel
theorem dX4_copy_156 : decode cX4_copy 156 = .ok (.getfield 96, 3) := by decide +kernel
theorem dX4_copy_159 : decode cX4_copy 159 = .ok (.iload_n 3, 1) := by decide +kernel
theorem dX4_copy_160 : decode cX4_copy 160 = .ok (.aload 7, 2) := by decide +kernel
theorem dX4_copy_162 : decode cX4_copy 162 = .ok (.getfield 96, 3) := by decide +kernel
theorem dX4_copy_165 : decode cX4_copy 165 = .ok (.iload 4, 2) := by decide +kernel
theorem dX4_copy_167 : decode cX4_copy 167 = .ok (.iload 5, 2) := by decide +kernel
theorem dX4_copy_169 : decode cX4_copy 169 = .ok (.invokestatic 100, 3) := by decide +kernel
theorem dX4_copy_172 : decode cX4_copy 172 = .ok (.iload 5, 2) := by decide +kernel
theorem dX4_copy_174 : decode cX4_copy 174 = .ok (.ireturn, 1) := by decide +kernel
theorem dX4_element_0 : decode cX4_element 0 = .ok (.iload_n 1, 1) := by decide +kernel
theorem dX4_element_1 : decode cX4_element 1 = .ok (.invokestatic 54, 3) := by decide +kernel
theorem dX4_element_4 : decode cX4_element 4 = .ok (.ifCond .eq 34, 3) := by decide +kernel
theorem dX4_element_7 : decode cX4_element 7 = .ok (.aload_n 0, 1) := by decide +kernel
theorem dX4_element_8 : decode cX4_element 8 = .ok (.getfield 34, 3) := by decide +kernel
theorem dX4_element_11 : decode cX4_element 11 = .ok (.iload_n 1, 1) := by decide +kernel
theorem dX4_element_12 : decode cX4_element 12 = .ok (.aaload, 1) := by decide +kernel
theorem dX4_element_13 : decode cX4_element 13 = .ok (.invokevirtual 70, 3) := by decide +kernel
theorem dX4_element_16 : decode cX4_element 16 = .ok (.ifCond .eq 22, 3) := by decide +kernel
theorem dX4_element_19 : decode cX4_element 19 = .ok (.iload_n 2, 1) := by decide +kernel
theorem dX4_element_20 : decode cX4_element 20 = .ok (.iconst 0, 1) := by decide +kernel
theorem dX4_element_21 : decode cX4_element 21 = .ok (.aload_n 0, 1) := by decide +kernel
theorem dX4_element_22 : decode cX4_element 22 = .ok (.getfield 34, 3) := by decide +kernel
theorem dX4_element_25 : decode cX4_element 25 = .ok (.iload_n 1, 1) := by decide +kernel
theorem dX4_element_26 : decode cX4_element 26 = .ok (.aaload, 1) := by decide +kernel
theorem dX4_element_27 : decode cX4_element 27 = .ok (.getfield 78, 3) := by decide +kernel
theorem dX4_element_30 : decode cX4_element 30 = .ok (.iconst 1, 1) := by decide +kernel
theorem dX4_element_31 : decode cX4_element 31 = .ok (.isub, 1) := by decide +kernel
theorem dX4_element_32 : decode cX4_element 32 = .ok (.invokestatic 58, 3) := by decide +kernel
theorem dX4_element_35 : decode cX4_element 35 = .ok (.ifCond .ne 5, 3) := by decide +kernel
theorem dX4_element_38 : decode cX4_element 38 = .ok (.lconst 0, 1) := by decide +kernel
theorem dX4_element_39 : decode cX4_element 39 = .ok (.lreturn, 1) := by decide +kernel
theorem dX4_element_40 : decode cX4_element 40 = .ok (.aload_n 0, 1) := by decide +kernel
theorem dX4_element_41 : decode cX4_element 41 = .ok (.getfield 34, 3) := by decide +kernel
theorem dX4_element_44 : decode cX4_element 44 = .ok (.iload_n 1, 1) := by decide +kernel
theorem dX4_element_45 : decode cX4_element 45 = .ok (.aaload, 1) := by decide +kernel
theorem dX4_element_46 : decode cX4_element 46 = .ok (.getfield 96, 3) := by decide +kernel
theorem dX4_element_49 : decode cX4_element 49 = .ok (.iload_n 2, 1) := by decide +kernel
theorem dX4_element_50 : decode cX4_element 50 = .ok (.laload, 1) := by decide +kernel
theorem dX4_element_51 : decode cX4_element 51 = .ok (.lreturn, 1) := by decide +kernel
theorem dX4_holds_0 : decode cX4_holds 0 = .ok (.iload_n 1, 1) := by decide +kernel
theorem dX4_holds_1 : decode cX4_holds 1 = .ok (.invokestatic 54, 3) := by decide +kernel
theorem dX4_holds_4 : decode cX4_holds 4 = .ok (.ifCond .eq 15, 3) := by decide +kernel
theorem dX4_holds_7 : decode cX4_holds 7 = .ok (.aload_n 0, 1) := by decide +kernel
theorem dX4_holds_8 : decode cX4_holds 8 = .ok (.getfield 34, 3) := by decide +kernel
theorem dX4_holds_11 : decode cX4_holds 11 = .ok (.iload_n 1, 1) := by decide +kernel
theorem dX4_holds_12 : decode cX4_holds 12 = .ok (.aaload, 1) := by decide +kernel
theorem dX4_holds_13 : decode cX4_holds 13 = .ok (.getfield 86, 3) := by decide +kernel
theorem dX4_holds_16 : decode cX4_holds 16 = .ok (.goto 4, 3) := by decide +kernel
theorem dX4_holds_19 : decode cX4_holds 19 = .ok (.iconst (-1), 1) := by decide +kernel
theorem dX4_holds_20 : decode cX4_holds 20 = .ok (.ireturn, 1) := by decide +kernel
theorem dX4_show_0 : decode cX4_show 0 = .ok (.iload_n 1, 1) := by decide +kernel
theorem dX4_show_1 : decode cX4_show 1 = .ok (.invokestatic 54, 3) := by decide +kernel
theorem dX4_show_4 : decode cX4_show 4 = .ok (.ifCond .eq 19, 3) := by decide +kernel
theorem dX4_show_7 : decode cX4_show 7 = .ok (.iload_n 2, 1) := by decide +kernel
theorem dX4_show_8 : decode cX4_show 8 = .ok (.iconst (-1), 1) := by decide +kernel
theorem dX4_show_9 : decode cX4_show 9 = .ok (.if_icmp .eq 21, 3) := by decide +kernel
theorem dX4_show_12 : decode cX4_show 12 = .ok (.aload_n 0, 1) := by decide +kernel
theorem dX4_show_13 : decode cX4_show 13 = .ok (.getfield 10, 3) := by decide +kernel
theorem dX4_show_16 : decode cX4_show 16 = .ok (.iload_n 2, 1) := by decide +kernel
theorem dX4_show_17 : decode cX4_show 17 = .ok (.invokevirtual 106, 3) := by decide +kernel
theorem dX4_show_20 : decode cX4_show 20 = .ok (.ifCond .ne 10, 3) := by decide +kernel
theorem dX4_show_23 : decode cX4_show 23 = .ok (.aload_n 0, 1) := by decide +kernel
theorem dX4_show_24 : decode cX4_show 24 = .ok (.bipush (-2), 2) := by decide +kernel
theorem dX4_show_26 : decode cX4_show 26 = .ok (.invokevirtual 62, 3) := by decide +kernel
theorem dX4_show_29 : decode cX4_show 29 = .ok (.ireturn, 1) := by decide +kernel
theorem dX4_show_30 : decode cX4_show 30 = .ok (.aload_n 0, 1) := by decide +kernel
theorem dX4_show_31 : decode cX4_show 31 = .ok (.getfield 34, 3) := by decide +kernel
theorem dX4_show_34 : decode cX4_show 34 = .ok (.iload_n 1, 1) := by decide +kernel
theorem dX4_show_35 : decode cX4_show 35 = .ok (.aaload, 1) := by decide +kernel
theorem dX4_show_36 : decode cX4_show 36 = .ok (.iload_n 2, 1) := by decide +kernel
theorem dX4_show_37 : decode cX4_show 37 = .ok (.iconst (-1), 1) := by decide +kernel
theorem dX4_show_38 : decode cX4_show 38 = .ok (.if_icmp .ne 7, 3) := by decide +kernel
theorem dX4_show_41 : decode cX4_show 41 = .ok (.iconst (-1), 1) := by decide +kernel
theorem dX4_show_42 : decode cX4_show 42 = .ok (.goto 7, 3) := by decide +kernel
theorem dX4_show_45 : decode cX4_show 45 = .ok (.bipush 10, 2) := by decide +kernel
theorem dX4_show_47 : decode cX4_show 47 = .ok (.iload_n 2, 1) := by decide +kernel
theorem dX4_show_48 : decode cX4_show 48 = .ok (.iadd, 1) := by decide +kernel
theorem dX4_show_49 : decode cX4_show 49 = .ok (.putfield 86, 3) := by decide +kernel
theorem dX4_show_52 : decode cX4_show 52 = .ok (.iconst 1, 1) := by decide +kernel
theorem dX4_show_53 : decode cX4_show 53 = .ok (.ireturn, 1) := by decide +kernel
theorem dX4_says_0 : decode cX4_says 0 = .ok (.iload_n 1, 1) := by decide +kernel
theorem dX4_says_1 : decode cX4_says 1 = .ok (.invokestatic 54, 3) := by decide +kernel
theorem dX4_says_4 : decode cX4_says 4 = .ok (.ifCond .eq 12, 3) := by decide +kernel
theorem dX4_says_7 : decode cX4_says 7 = .ok (.iload_n 2, 1) := by decide +kernel
theorem dX4_says_8 : decode cX4_says 8 = .ok (.iconst 0, 1) := by decide +kernel
theorem dX4_says_9 : decode cX4_says 9 = .ok (.iconst 5, 1) := by decide +kernel
theorem dX4_says_10 : decode cX4_says 10 = .ok (.invokestatic 58, 3) := by decide +kernel
theorem dX4_says_13 : decode cX4_says 13 = .ok (.ifCond .ne 10, 3) := by decide +kernel
theorem dX4_says_16 : decode cX4_says 16 = .ok (.aload_n 0, 1) := by decide +kernel
theorem dX4_says_17 : decode cX4_says 17 = .ok (.bipush (-2), 2) := by decide +kernel
theorem dX4_says_19 : decode cX4_says 19 = .ok (.invokevirtual 62, 3) := by decide +kernel
theorem dX4_says_22 : decode cX4_says 22 = .ok (.ireturn, 1) := by decide +kernel
theorem dX4_says_23 : decode cX4_says 23 = .ok (.aload_n 0, 1) := by decide +kernel
theorem dX4_says_24 : decode cX4_says 24 = .ok (.getfield 34, 3) := by decide +kernel
theorem dX4_says_27 : decode cX4_says 27 = .ok (.iload_n 1, 1) := by decide +kernel
theorem dX4_says_28 : decode cX4_says 28 = .ok (.aaload, 1) := by decide +kernel
theorem dX4_says_29 : decode cX4_says 29 = .ok (.astore_n 3, 1) := by decide +kernel
theorem dX4_says_30 : decode cX4_says 30 = .ok (.aload_n 3, 1) := by decide +kernel
theorem dX4_says_31 : decode cX4_says 31 = .ok (.getfield 86, 3) := by decide +kernel
theorem dX4_says_34 : decode cX4_says 34 = .ok (.iconst (-1), 1) := by decide +kernel
theorem dX4_says_35 : decode cX4_says 35 = .ok (.if_icmp .ne 10, 3) := by decide +kernel
theorem dX4_says_38 : decode cX4_says 38 = .ok (.aload_n 0, 1) := by decide +kernel
theorem dX4_says_39 : decode cX4_says 39 = .ok (.bipush (-4), 2) := by decide +kernel
theorem dX4_says_41 : decode cX4_says 41 = .ok (.invokevirtual 62, 3) := by decide +kernel
theorem dX4_says_44 : decode cX4_says 44 = .ok (.ireturn, 1) := by decide +kernel
theorem dX4_says_45 : decode cX4_says 45 = .ok (.aload_n 3, 1) := by decide +kernel
theorem dX4_says_46 : decode cX4_says 46 = .ok (.getfield 86, 3) := by decide +kernel
theorem dX4_says_49 : decode cX4_says 49 = .ok (.bipush 10, 2) := by decide +kernel
theorem dX4_says_51 : decode cX4_says 51 = .ok (.isub, 1) := by decide +kernel
theorem dX4_says_52 : decode cX4_says 52 = .ok (.istore 4, 2) := by decide +kernel
theorem dX4_says_54 : decode cX4_says 54 = .ok (.aload_n 0, 1) := by decide +kernel
theorem dX4_says_55 : decode cX4_says 55 = .ok (.getfield 10, 3) := by decide +kernel
theorem dX4_says_58 : decode cX4_says 58 = .ok (.iload 4, 2) := by decide +kernel
theorem dX4_says_60 : decode cX4_says 60 = .ok (.invokevirtual 106, 3) := by decide +kernel
theorem dX4_says_63 : decode cX4_says 63 = .ok (.ifCond .eq 20, 3) := by decide +kernel
theorem dX4_says_66 : decode cX4_says 66 = .ok (.aload_n 0, 1) := by decide +kernel
theorem dX4_says_67 : decode cX4_says 67 = .ok (.getfield 10, 3) := by decide +kernel
theorem dX4_says_70 : decode cX4_says 70 = .ok (.getfield 108, 3) := by decide +kernel
theorem dX4_says_73 : decode cX4_says 73 = .ok (.iload 4, 2) := by decide +kernel
theorem dX4_says_75 : decode cX4_says 75 = .ok (.iaload, 1) := by decide +kernel
theorem dX4_says_76 : decode cX4_says 76 = .ok (.iload_n 2, 1) := by decide +kernel
theorem dX4_says_77 : decode cX4_says 77 = .ok (.invokestatic 111, 3) := by decide +kernel
theorem dX4_says_80 : decode cX4_says 80 = .ok (.ifCond .ne 10, 3) := by decide +kernel
theorem dX4_says_83 : decode cX4_says 83 = .ok (.aload_n 0, 1) := by decide +kernel
theorem dX4_says_84 : decode cX4_says 84 = .ok (.bipush (-3), 2) := by decide +kernel
theorem dX4_says_86 : decode cX4_says 86 = .ok (.invokevirtual 62, 3) := by decide +kernel
theorem dX4_says_89 : decode cX4_says 89 = .ok (.ireturn, 1) := by decide +kernel
theorem dX4_says_90 : decode cX4_says 90 = .ok (.aload_n 0, 1) := by decide +kernel
theorem dX4_says_91 : decode cX4_says 91 = .ok (.getfield 10, 3) := by decide +kernel
theorem dX4_says_94 : decode cX4_says 94 = .ok (.iload_n 2, 1) := by decide +kernel
theorem dX4_says_95 : decode cX4_says 95 = .ok (.iload 4, 2) := by decide +kernel
theorem dX4_says_97 : decode cX4_says 97 = .ok (.invokevirtual 114, 3) := by decide +kernel
theorem dX4_says_100 : decode cX4_says 100 = .ok (.ireturn, 1) := by decide +kernel
theorem dX4_player_0 : decode cX4_player 0 = .ok (.iload_n 1, 1) := by decide +kernel
theorem dX4_player_1 : decode cX4_player 1 = .ok (.iconst 0, 1) := by decide +kernel
theorem dX4_player_2 : decode cX4_player 2 = .ok (.iconst 5, 1) := by decide +kernel
theorem dX4_player_3 : decode cX4_player 3 = .ok (.invokestatic 58, 3) := by decide +kernel
theorem dX4_player_6 : decode cX4_player 6 = .ok (.ifCond .eq 27, 3) := by decide +kernel
theorem dX4_player_9 : decode cX4_player 9 = .ok (.iload_n 2, 1) := by decide +kernel
theorem dX4_player_10 : decode cX4_player 10 = .ok (.iconst 1, 1) := by decide +kernel
theorem dX4_player_11 : decode cX4_player 11 = .ok (.bipush 99, 2) := by decide +kernel
theorem dX4_player_13 : decode cX4_player 13 = .ok (.invokestatic 58, 3) := by decide +kernel
theorem dX4_player_16 : decode cX4_player 16 = .ok (.ifCond .eq 17, 3) := by decide +kernel
theorem dX4_player_19 : decode cX4_player 19 = .ok (.iload_n 3, 1) := by decide +kernel
theorem dX4_player_20 : decode cX4_player 20 = .ok (.iconst 0, 1) := by decide +kernel
theorem dX4_player_21 : decode cX4_player 21 = .ok (.bipush 9, 2) := by decide +kernel
theorem dX4_player_23 : decode cX4_player 23 = .ok (.invokestatic 58, 3) := by decide +kernel
theorem dX4_player_26 : decode cX4_player 26 = .ok (.ifCond .eq 7, 3) := by decide +kernel
theorem dX4_player_29 : decode cX4_player 29 = .ok (.iconst 1, 1) := by decide +kernel
theorem dX4_player_30 : decode cX4_player 30 = .ok (.goto 4, 3) := by decide +kernel
theorem dX4_player_33 : decode cX4_player 33 = .ok (.iconst 0, 1) := by decide +kernel
theorem dX4_player_34 : decode cX4_player 34 = .ok (.istore 4, 2) := by decide +kernel
theorem dX4_player_36 : decode cX4_player 36 = .ok (.iload 4, 2) := by decide +kernel
theorem dX4_player_38 : decode cX4_player 38 = .ok (.ifCond .ne 10, 3) := by decide +kernel
theorem dX4_player_41 : decode cX4_player 41 = .ok (.aload_n 0, 1) := by decide +kernel
theorem dX4_player_42 : decode cX4_player 42 = .ok (.bipush (-2), 2) := by decide +kernel
theorem dX4_player_44 : decode cX4_player 44 = .ok (.invokevirtual 62, 3) := by decide +kernel
theorem dX4_player_47 : decode cX4_player 47 = .ok (.ireturn, 1) := by decide +kernel
theorem dX4_player_48 : decode cX4_player 48 = .ok (.aload_n 0, 1) := by decide +kernel
theorem dX4_player_49 : decode cX4_player 49 = .ok (.getfield 10, 3) := by decide +kernel
theorem dX4_player_52 : decode cX4_player 52 = .ok (.invokevirtual 118, 3) := by decide +kernel
theorem dX4_player_55 : decode cX4_player 55 = .ok (.ifCond .ne 10, 3) := by decide +kernel
theorem dX4_player_58 : decode cX4_player 58 = .ok (.aload_n 0, 1) := by decide +kernel
theorem dX4_player_59 : decode cX4_player 59 = .ok (.bipush (-6), 2) := by decide +kernel
theorem dX4_player_61 : decode cX4_player 61 = .ok (.invokevirtual 62, 3) := by decide +kernel
theorem dX4_player_64 : decode cX4_player 64 = .ok (.ireturn, 1) := by decide +kernel
theorem dX4_player_65 : decode cX4_player 65 = .ok (.aload_n 0, 1) := by decide +kernel
theorem dX4_player_66 : decode cX4_player 66 = .ok (.getfield 10, 3) := by decide +kernel
theorem dX4_player_69 : decode cX4_player 69 = .ok (.iload_n 1, 1) := by decide +kernel
theorem dX4_player_70 : decode cX4_player 70 = .ok (.iload_n 2, 1) := by decide +kernel
theorem dX4_player_71 : decode cX4_player 71 = .ok (.iload_n 3, 1) := by decide +kernel
theorem dX4_player_72 : decode cX4_player 72 = .ok (.invokevirtual 121, 3) := by decide +kernel
theorem dX4_player_75 : decode cX4_player 75 = .ok (.ireturn, 1) := by decide +kernel
theorem dX4_tell_0 : decode cX4_tell 0 = .ok (.aload_n 0, 1) := by decide +kernel
theorem dX4_tell_1 : decode cX4_tell 1 = .ok (.getfield 10, 3) := by decide +kernel
theorem dX4_tell_4 : decode cX4_tell 4 = .ok (.iload_n 1, 1) := by decide +kernel
theorem dX4_tell_5 : decode cX4_tell 5 = .ok (.invokevirtual 106, 3) := by decide +kernel
theorem dX4_tell_8 : decode cX4_tell 8 = .ok (.ifCond .ne 10, 3) := by decide +kernel
theorem dX4_tell_11 : decode cX4_tell 11 = .ok (.aload_n 0, 1) := by decide +kernel
theorem dX4_tell_12 : decode cX4_tell 12 = .ok (.bipush (-2), 2) := by decide +kernel
theorem dX4_tell_14 : decode cX4_tell 14 = .ok (.invokevirtual 62, 3) := by decide +kernel
theorem dX4_tell_17 : decode cX4_tell 17 = .ok (.ireturn, 1) := by decide +kernel
theorem dX4_tell_18 : decode cX4_tell 18 = .ok (.iload_n 2, 1) := by decide +kernel
theorem dX4_tell_19 : decode cX4_tell 19 = .ok (.ifCond .ne 37, 3) := by decide +kernel
theorem dX4_tell_22 : decode cX4_tell 22 = .ok (.iload_n 3, 1) := by decide +kernel
theorem dX4_tell_23 : decode cX4_tell 23 = .ok (.iconst 1, 1) := by decide +kernel
theorem dX4_tell_24 : decode cX4_tell 24 = .ok (.bipush 99, 2) := by decide +kernel
theorem dX4_tell_26 : decode cX4_tell 26 = .ok (.invokestatic 58, 3) := by decide +kernel
theorem dX4_tell_29 : decode cX4_tell 29 = .ok (.ifCond .eq 27, 3) := by decide +kernel
theorem dX4_tell_32 : decode cX4_tell 32 = .ok (.aload_n 0, 1) := by decide +kernel
theorem dX4_tell_33 : decode cX4_tell 33 = .ok (.getfield 10, 3) := by decide +kernel
theorem dX4_tell_36 : decode cX4_tell 36 = .ok (.getfield 125, 3) := by decide +kernel
theorem dX4_tell_39 : decode cX4_tell 39 = .ok (.iload_n 1, 1) := by decide +kernel
theorem dX4_tell_40 : decode cX4_tell 40 = .ok (.iaload, 1) := by decide +kernel
theorem dX4_tell_41 : decode cX4_tell 41 = .ok (.istore 4, 2) := by decide +kernel
theorem dX4_tell_43 : decode cX4_tell 43 = .ok (.aload_n 0, 1) := by decide +kernel
theorem dX4_tell_44 : decode cX4_tell 44 = .ok (.getfield 10, 3) := by decide +kernel
theorem dX4_tell_47 : decode cX4_tell 47 = .ok (.getfield 125, 3) := by decide +kernel
theorem dX4_tell_50 : decode cX4_tell 50 = .ok (.iload_n 1, 1) := by decide +kernel
theorem dX4_tell_51 : decode cX4_tell 51 = .ok (.iload_n 3, 1) := by decide +kernel
theorem dX4_tell_52 : decode cX4_tell 52 = .ok (.iastore, 1) := by decide +kernel
theorem dX4_tell_53 : decode cX4_tell 53 = .ok (.iload 4, 2) := by decide +kernel
theorem dX4_tell_55 : decode cX4_tell 55 = .ok (.ireturn, 1) := by decide +kernel
theorem dX4_tell_56 : decode cX4_tell 56 = .ok (.iload_n 2, 1) := by decide +kernel
theorem dX4_tell_57 : decode cX4_tell 57 = .ok (.iconst 1, 1) := by decide +kernel
theorem dX4_tell_58 : decode cX4_tell 58 = .ok (.if_icmp .ne 37, 3) := by decide +kernel
theorem dX4_tell_61 : decode cX4_tell 61 = .ok (.iload_n 3, 1) := by decide +kernel
theorem dX4_tell_62 : decode cX4_tell 62 = .ok (.iconst 0, 1) := by decide +kernel
theorem dX4_tell_63 : decode cX4_tell 63 = .ok (.bipush 100, 2) := by decide +kernel
theorem dX4_tell_65 : decode cX4_tell 65 = .ok (.invokestatic 58, 3) := by decide +kernel
theorem dX4_tell_68 : decode cX4_tell 68 = .ok (.ifCond .eq 27, 3) := by decide +kernel
theorem dX4_tell_71 : decode cX4_tell 71 = .ok (.aload_n 0, 1) := by decide +kernel
theorem dX4_tell_72 : decode cX4_tell 72 = .ok (.getfield 10, 3) := by decide +kernel
theorem dX4_tell_75 : decode cX4_tell 75 = .ok (.getfield 128, 3) := by decide +kernel
theorem dX4_tell_78 : decode cX4_tell 78 = .ok (.iload_n 1, 1) := by decide +kernel
theorem dX4_tell_79 : decode cX4_tell 79 = .ok (.iaload, 1) := by decide +kernel
theorem dX4_tell_80 : decode cX4_tell 80 = .ok (.istore 4, 2) := by decide +kernel
theorem dX4_tell_82 : decode cX4_tell 82 = .ok (.aload_n 0, 1) := by decide +kernel
theorem dX4_tell_83 : decode cX4_tell 83 = .ok (.getfield 10, 3) := by decide +kernel
theorem dX4_tell_86 : decode cX4_tell 86 = .ok (.getfield 128, 3) := by decide +kernel
theorem dX4_tell_89 : decode cX4_tell 89 = .ok (.iload_n 1, 1) := by decide +kernel
theorem dX4_tell_90 : decode cX4_tell 90 = .ok (.iload_n 3, 1) := by decide +kernel
theorem dX4_tell_91 : decode cX4_tell 91 = .ok (.iastore, 1) := by decide +kernel
theorem dX4_tell_92 : decode cX4_tell 92 = .ok (.iload 4, 2) := by decide +kernel
theorem dX4_tell_94 : decode cX4_tell 94 = .ok (.ireturn, 1) := by decide +kernel
theorem dX4_tell_95 : decode cX4_tell 95 = .ok (.aload_n 0, 1) := by decide +kernel
theorem dX4_tell_96 : decode cX4_tell 96 = .ok (.bipush (-2), 2) := by decide +kernel
theorem dX4_tell_98 : decode cX4_tell 98 = .ok (.invokevirtual 62, 3) := by decide +kernel
theorem dX4_tell_101 : decode cX4_tell 101 = .ok (.ireturn, 1) := by decide +kernel
theorem dX4_line_0 : decode cX4_line 0 = .ok (.iload_n 1, 1) := by decide +kernel
theorem dX4_line_1 : decode cX4_line 1 = .ok (.invokestatic 131, 3) := by decide +kernel
theorem dX4_line_4 : decode cX4_line 4 = .ok (.ifCond .eq 30, 3) := by decide +kernel
theorem dX4_line_7 : decode cX4_line 7 = .ok (.iload_n 2, 1) := by decide +kernel
theorem dX4_line_8 : decode cX4_line 8 = .ok (.iconst 0, 1) := by decide +kernel
theorem dX4_line_9 : decode cX4_line 9 = .ok (.aload_n 0, 1) := by decide +kernel
theorem dX4_line_10 : decode cX4_line 10 = .ok (.getfield 10, 3) := by decide +kernel
theorem dX4_line_13 : decode cX4_line 13 = .ok (.invokevirtual 134, 3) := by decide +kernel
theorem dX4_line_16 : decode cX4_line 16 = .ok (.invokestatic 58, 3) := by decide +kernel
theorem dX4_line_19 : decode cX4_line 19 = .ok (.ifCond .eq 15, 3) := by decide +kernel
theorem dX4_line_22 : decode cX4_line 22 = .ok (.iload_n 2, 1) := by decide +kernel
theorem dX4_line_23 : decode cX4_line 23 = .ok (.invokestatic 137, 3) := by decide +kernel
theorem dX4_line_26 : decode cX4_line 26 = .ok (.iconst 5, 1) := by decide +kernel
theorem dX4_line_27 : decode cX4_line 27 = .ok (.if_icmp .gt 7, 3) := by decide +kernel
theorem dX4_line_30 : decode cX4_line 30 = .ok (.iconst 1, 1) := by decide +kernel
theorem dX4_line_31 : decode cX4_line 31 = .ok (.goto 4, 3) := by decide +kernel
theorem dX4_line_34 : decode cX4_line 34 = .ok (.iconst 0, 1) := by decide +kernel
theorem dX4_line_35 : decode cX4_line 35 = .ok (.istore_n 3, 1) := by decide +kernel
theorem dX4_line_36 : decode cX4_line 36 = .ok (.iload_n 3, 1) := by decide +kernel
theorem dX4_line_37 : decode cX4_line 37 = .ok (.ifCond .ne 10, 3) := by decide +kernel
theorem dX4_line_40 : decode cX4_line 40 = .ok (.aload_n 0, 1) := by decide +kernel
theorem dX4_line_41 : decode cX4_line 41 = .ok (.bipush (-2), 2) := by decide +kernel
theorem dX4_line_43 : decode cX4_line 43 = .ok (.invokevirtual 62, 3) := by decide +kernel
theorem dX4_line_46 : decode cX4_line 46 = .ok (.ireturn, 1) := by decide +kernel
theorem dX4_line_47 : decode cX4_line 47 = .ok (.aload_n 0, 1) := by decide +kernel
theorem dX4_line_48 : decode cX4_line 48 = .ok (.getfield 10, 3) := by decide +kernel
theorem dX4_line_51 : decode cX4_line 51 = .ok (.getfield 142, 3) := by decide +kernel
theorem dX4_line_54 : decode cX4_line 54 = .ok (.iload_n 1, 1) := by decide +kernel
theorem dX4_line_55 : decode cX4_line 55 = .ok (.iaload, 1) := by decide +kernel
theorem dX4_line_56 : decode cX4_line 56 = .ok (.istore 4, 2) := by decide +kernel
theorem dX4_line_58 : decode cX4_line 58 = .ok (.aload_n 0, 1) := by decide +kernel
theorem dX4_line_59 : decode cX4_line 59 = .ok (.getfield 10, 3) := by decide +kernel
theorem dX4_line_62 : decode cX4_line 62 = .ok (.getfield 142, 3) := by decide +kernel
theorem dX4_line_65 : decode cX4_line 65 = .ok (.iload_n 1, 1) := by decide +kernel
theorem dX4_line_66 : decode cX4_line 66 = .ok (.iload_n 2, 1) := by decide +kernel
theorem dX4_line_67 : decode cX4_line 67 = .ok (.iastore, 1) := by decide +kernel
theorem dX4_line_68 : decode cX4_line 68 = .ok (.iload 4, 2) := by decide +kernel
theorem dX4_line_70 : decode cX4_line 70 = .ok (.ireturn, 1) := by decide +kernel
theorem dX4_ask_0 : decode cX4_ask 0 = .ok (.iload_n 1, 1) := by decide +kernel
theorem dX4_ask_1 : decode cX4_ask 1 = .ok (.ifCond .ne 31, 3) := by decide +kernel
theorem dX4_ask_4 : decode cX4_ask 4 = .ok (.iload_n 2, 1) := by decide +kernel
theorem dX4_ask_5 : decode cX4_ask 5 = .ok (.iconst 0, 1) := by decide +kernel
theorem dX4_ask_6 : decode cX4_ask 6 = .ok (.iconst 2, 1) := by decide +kernel
theorem dX4_ask_7 : decode cX4_ask 7 = .ok (.invokestatic 58, 3) := by decide +kernel
theorem dX4_ask_10 : decode cX4_ask 10 = .ok (.ifCond .eq 22, 3) := by decide +kernel
theorem dX4_ask_13 : decode cX4_ask 13 = .ok (.aload_n 0, 1) := by decide +kernel
theorem dX4_ask_14 : decode cX4_ask 14 = .ok (.getfield 10, 3) := by decide +kernel
theorem dX4_ask_17 : decode cX4_ask 17 = .ok (.getfield 145, 3) := by decide +kernel
theorem dX4_ask_20 : decode cX4_ask 20 = .ok (.istore_n 3, 1) := by decide +kernel
theorem dX4_ask_21 : decode cX4_ask 21 = .ok (.aload_n 0, 1) := by decide +kernel
theorem dX4_ask_22 : decode cX4_ask 22 = .ok (.getfield 10, 3) := by decide +kernel
theorem dX4_ask_25 : decode cX4_ask 25 = .ok (.iload_n 2, 1) := by decide +kernel
theorem dX4_ask_26 : decode cX4_ask 26 = .ok (.putfield 145, 3) := by decide +kernel
theorem dX4_ask_29 : decode cX4_ask 29 = .ok (.goto 111, 3) := by decide +kernel
theorem dX4_ask_32 : decode cX4_ask 32 = .ok (.iload_n 1, 1) := by decide +kernel
theorem dX4_ask_33 : decode cX4_ask 33 = .ok (.iconst 1, 1) := by decide +kernel
theorem dX4_ask_34 : decode cX4_ask 34 = .ok (.if_icmp .ne 31, 3) := by decide +kernel
theorem dX4_ask_37 : decode cX4_ask 37 = .ok (.iload_n 2, 1) := by decide +kernel
theorem dX4_ask_38 : decode cX4_ask 38 = .ok (.iconst 0, 1) := by decide +kernel
theorem dX4_ask_39 : decode cX4_ask 39 = .ok (.iconst 1, 1) := by decide +kernel
theorem dX4_ask_40 : decode cX4_ask 40 = .ok (.invokestatic 58, 3) := by decide +kernel
theorem dX4_ask_43 : decode cX4_ask 43 = .ok (.ifCond .eq 22, 3) := by decide +kernel
theorem dX4_ask_46 : decode cX4_ask 46 = .ok (.aload_n 0, 1) := by decide +kernel
theorem dX4_ask_47 : decode cX4_ask 47 = .ok (.getfield 10, 3) := by decide +kernel
theorem dX4_ask_50 : decode cX4_ask 50 = .ok (.getfield 148, 3) := by decide +kernel
theorem dX4_ask_53 : decode cX4_ask 53 = .ok (.istore_n 3, 1) := by decide +kernel
theorem dX4_ask_54 : decode cX4_ask 54 = .ok (.aload_n 0, 1) := by decide +kernel
theorem dX4_ask_55 : decode cX4_ask 55 = .ok (.getfield 10, 3) := by decide +kernel
theorem dX4_ask_58 : decode cX4_ask 58 = .ok (.iload_n 2, 1) := by decide +kernel
theorem dX4_ask_59 : decode cX4_ask 59 = .ok (.putfield 148, 3) := by decide +kernel
theorem dX4_ask_62 : decode cX4_ask 62 = .ok (.goto 78, 3) := by decide +kernel
theorem dX4_ask_65 : decode cX4_ask 65 = .ok (.iload_n 1, 1) := by decide +kernel
theorem dX4_ask_66 : decode cX4_ask 66 = .ok (.iconst 2, 1) := by decide +kernel
theorem dX4_ask_67 : decode cX4_ask 67 = .ok (.if_icmp .ne 33, 3) := by decide +kernel
theorem dX4_ask_70 : decode cX4_ask 70 = .ok (.iload_n 2, 1) := by decide +kernel
theorem dX4_ask_71 : decode cX4_ask 71 = .ok (.iconst 1, 1) := by decide +kernel
theorem dX4_ask_72 : decode cX4_ask 72 = .ok (.sipush 999, 3) := by decide +kernel
theorem dX4_ask_75 : decode cX4_ask 75 = .ok (.invokestatic 58, 3) := by decide +kernel
theorem dX4_ask_78 : decode cX4_ask 78 = .ok (.ifCond .eq 22, 3) := by decide +kernel
theorem dX4_ask_81 : decode cX4_ask 81 = .ok (.aload_n 0, 1) := by decide +kernel
theorem dX4_ask_82 : decode cX4_ask 82 = .ok (.getfield 10, 3) := by decide +kernel
theorem dX4_ask_85 : decode cX4_ask 85 = .ok (.getfield 151, 3) := by decide +kernel
theorem dX4_ask_88 : decode cX4_ask 88 = .ok (.istore_n 3, 1) := by decide +kernel
theorem dX4_ask_89 : decode cX4_ask 89 = .ok (.aload_n 0, 1) := by decide +kernel
theorem dX4_ask_90 : decode cX4_ask 90 = .ok (.getfield 10, 3) := by decide +kernel
theorem dX4_ask_93 : decode cX4_ask 93 = .ok (.iload_n 2, 1) := by decide +kernel
theorem dX4_ask_94 : decode cX4_ask 94 = .ok (.putfield 151, 3) := by decide +kernel
theorem dX4_ask_97 : decode cX4_ask 97 = .ok (.goto 43, 3) := by decide +kernel
theorem dX4_ask_100 : decode cX4_ask 100 = .ok (.iload_n 1, 1) := by decide +kernel
theorem dX4_ask_101 : decode cX4_ask 101 = .ok (.iconst 3, 1) := by decide +kernel
theorem dX4_ask_102 : decode cX4_ask 102 = .ok (.if_icmp .ne 31, 3) := by decide +kernel
theorem dX4_ask_105 : decode cX4_ask 105 = .ok (.iload_n 2, 1) := by decide +kernel
theorem dX4_ask_106 : decode cX4_ask 106 = .ok (.iconst 0, 1) := by decide +kernel
theorem dX4_ask_107 : decode cX4_ask 107 = .ok (.iconst 1, 1) := by decide +kernel
theorem dX4_ask_108 : decode cX4_ask 108 = .ok (.invokestatic 58, 3) := by decide +kernel
theorem dX4_ask_111 : decode cX4_ask 111 = .ok (.ifCond .eq 22, 3) := by decide +kernel
theorem dX4_ask_114 : decode cX4_ask 114 = .ok (.aload_n 0, 1) := by decide +kernel
theorem dX4_ask_115 : decode cX4_ask 115 = .ok (.getfield 10, 3) := by decide +kernel
theorem dX4_ask_118 : decode cX4_ask 118 = .ok (.getfield 154, 3) := by decide +kernel
theorem dX4_ask_121 : decode cX4_ask 121 = .ok (.istore_n 3, 1) := by decide +kernel
theorem dX4_ask_122 : decode cX4_ask 122 = .ok (.aload_n 0, 1) := by decide +kernel
theorem dX4_ask_123 : decode cX4_ask 123 = .ok (.getfield 10, 3) := by decide +kernel
theorem dX4_ask_126 : decode cX4_ask 126 = .ok (.iload_n 2, 1) := by decide +kernel
theorem dX4_ask_127 : decode cX4_ask 127 = .ok (.putfield 154, 3) := by decide +kernel
theorem dX4_ask_130 : decode cX4_ask 130 = .ok (.goto 10, 3) := by decide +kernel
theorem dX4_ask_133 : decode cX4_ask 133 = .ok (.aload_n 0, 1) := by decide +kernel
theorem dX4_ask_134 : decode cX4_ask 134 = .ok (.bipush (-2), 2) := by decide +kernel
theorem dX4_ask_136 : decode cX4_ask 136 = .ok (.invokevirtual 62, 3) := by decide +kernel
theorem dX4_ask_139 : decode cX4_ask 139 = .ok (.istore_n 3, 1) := by decide +kernel
theorem dX4_ask_140 : decode cX4_ask 140 = .ok (.iload_n 3, 1) := by decide +kernel
theorem dX4_ask_141 : decode cX4_ask 141 = .ok (.ireturn, 1) := by decide +kernel
theorem dX4_feed_0 : decode cX4_feed 0 = .ok (.iload_n 1, 1) := by decide +kernel
theorem dX4_feed_1 : decode cX4_feed 1 = .ok (.iconst 0, 1) := by decide +kernel
theorem dX4_feed_2 : decode cX4_feed 2 = .ok (.sipush 255, 3) := by decide +kernel
theorem dX4_feed_5 : decode cX4_feed 5 = .ok (.invokestatic 58, 3) := by decide +kernel
theorem dX4_feed_8 : decode cX4_feed 8 = .ok (.ifCond .ne 10, 3) := by decide +kernel
theorem dX4_feed_11 : decode cX4_feed 11 = .ok (.aload_n 0, 1) := by decide +kernel
theorem dX4_feed_12 : decode cX4_feed 12 = .ok (.bipush (-2), 2) := by decide +kernel
theorem dX4_feed_14 : decode cX4_feed 14 = .ok (.invokevirtual 62, 3) := by decide +kernel
theorem dX4_feed_17 : decode cX4_feed 17 = .ok (.ireturn, 1) := by decide +kernel
theorem dX4_feed_18 : decode cX4_feed 18 = .ok (.aload_n 0, 1) := by decide +kernel
theorem dX4_feed_19 : decode cX4_feed 19 = .ok (.getfield 28, 3) := by decide +kernel
theorem dX4_feed_22 : decode cX4_feed 22 = .ok (.getfield 157, 3) := by decide +kernel
theorem dX4_feed_25 : decode cX4_feed 25 = .ok (.sipush 250, 3) := by decide +kernel
theorem dX4_feed_28 : decode cX4_feed 28 = .ok (.if_icmp .lt 10, 3) := by decide +kernel
theorem dX4_feed_31 : decode cX4_feed 31 = .ok (.aload_n 0, 1) := by decide +kernel
theorem dX4_feed_32 : decode cX4_feed 32 = .ok (.bipush (-6), 2) := by decide +kernel
theorem dX4_feed_34 : decode cX4_feed 34 = .ok (.invokevirtual 62, 3) := by decide +kernel
theorem dX4_feed_37 : decode cX4_feed 37 = .ok (.ireturn, 1) := by decide +kernel
theorem dX4_feed_38 : decode cX4_feed 38 = .ok (.aload_n 0, 1) := by decide +kernel
theorem dX4_feed_39 : decode cX4_feed 39 = .ok (.getfield 28, 3) := by decide +kernel
theorem dX4_feed_42 : decode cX4_feed 42 = .ok (.iload_n 1, 1) := by decide +kernel
theorem dX4_feed_43 : decode cX4_feed 43 = .ok (.invokevirtual 158, 3) := by decide +kernel
theorem dX4_feed_46 : decode cX4_feed 46 = .ok (.ireturn, 1) := by decide +kernel
theorem dX4_wipe_0 : decode cX4_wipe 0 = .ok (.aload_n 0, 1) := by decide +kernel
theorem dX4_wipe_1 : decode cX4_wipe 1 = .ok (.getfield 28, 3) := by decide +kernel
theorem dX4_wipe_4 : decode cX4_wipe 4 = .ok (.getfield 157, 3) := by decide +kernel
theorem dX4_wipe_7 : decode cX4_wipe 7 = .ok (.istore_n 1, 1) := by decide +kernel
theorem dX4_wipe_8 : decode cX4_wipe 8 = .ok (.aload_n 0, 1) := by decide +kernel
theorem dX4_wipe_9 : decode cX4_wipe 9 = .ok (.getfield 28, 3) := by decide +kernel
theorem dX4_wipe_12 : decode cX4_wipe 12 = .ok (.iconst 0, 1) := by decide +kernel
theorem dX4_wipe_13 : decode cX4_wipe 13 = .ok (.putfield 157, 3) := by decide +kernel
theorem dX4_wipe_16 : decode cX4_wipe 16 = .ok (.iload_n 1, 1) := by decide +kernel
theorem dX4_wipe_17 : decode cX4_wipe 17 = .ok (.ireturn, 1) := by decide +kernel
theorem dX4_rink_0 : decode cX4_rink 0 = .ok (.aload_n 0, 1) := by decide +kernel
theorem dX4_rink_1 : decode cX4_rink 1 = .ok (.getfield 22, 3) := by decide +kernel
theorem dX4_rink_4 : decode cX4_rink 4 = .ok (.aload_n 0, 1) := by decide +kernel
theorem dX4_rink_5 : decode cX4_rink 5 = .ok (.getfield 10, 3) := by decide +kernel
theorem dX4_rink_8 : decode cX4_rink 8 = .ok (.invokevirtual 161, 3) := by decide +kernel
theorem dX4_rink_11 : decode cX4_rink 11 = .ok (.aload_n 0, 1) := by decide +kernel
theorem dX4_rink_12 : decode cX4_rink 12 = .ok (.getfield 28, 3) := by decide +kernel
theorem dX4_rink_15 : decode cX4_rink 15 = .ok (.aload_n 0, 1) := by decide +kernel
theorem dX4_rink_16 : decode cX4_rink 16 = .ok (.getfield 10, 3) := by decide +kernel
theorem dX4_rink_19 : decode cX4_rink 19 = .ok (.invokevirtual 165, 3) := by decide +kernel
theorem dX4_rink_22 : decode cX4_rink 22 = .ok (.istore_n 1, 1) := by decide +kernel
theorem dX4_rink_23 : decode cX4_rink 23 = .ok (.aload_n 0, 1) := by decide +kernel
theorem dX4_rink_24 : decode cX4_rink 24 = .ok (.getfield 28, 3) := by decide +kernel
theorem dX4_rink_27 : decode cX4_rink 27 = .ok (.getfield 169, 3) := by decide +kernel
theorem dX4_rink_30 : decode cX4_rink 30 = .ok (.istore_n 2, 1) := by decide +kernel
theorem dX4_rink_31 : decode cX4_rink 31 = .ok (.aload_n 0, 1) := by decide +kernel
theorem dX4_rink_32 : decode cX4_rink 32 = .ok (.getfield 28, 3) := by decide +kernel
theorem dX4_rink_35 : decode cX4_rink 35 = .ok (.iconst 0, 1) := by decide +kernel
theorem dX4_rink_36 : decode cX4_rink 36 = .ok (.putfield 157, 3) := by decide +kernel
theorem dX4_rink_39 : decode cX4_rink 39 = .ok (.iload_n 1, 1) := by decide +kernel
theorem dX4_rink_40 : decode cX4_rink 40 = .ok (.iconst (-1), 1) := by decide +kernel
theorem dX4_rink_41 : decode cX4_rink 41 = .ok (.if_icmp .ne 26, 3) := by decide +kernel
theorem dX4_rink_44 : decode cX4_rink 44 = .ok (.aload_n 0, 1) := by decide +kernel
theorem dX4_rink_45 : decode cX4_rink 45 = .ok (.getfield 10, 3) := by decide +kernel
theorem dX4_rink_48 : decode cX4_rink 48 = .ok (.aload_n 0, 1) := by decide +kernel
theorem dX4_rink_49 : decode cX4_rink 49 = .ok (.getfield 22, 3) := by decide +kernel
theorem dX4_rink_52 : decode cX4_rink 52 = .ok (.invokevirtual 161, 3) := by decide +kernel
theorem dX4_rink_55 : decode cX4_rink 55 = .ok (.aload_n 0, 1) := by decide +kernel
theorem dX4_rink_56 : decode cX4_rink 56 = .ok (.bipush (-2), 2) := by decide +kernel
theorem dX4_rink_58 : decode cX4_rink 58 = .ok (.invokevirtual 62, 3) := by decide +kernel
theorem dX4_rink_61 : decode cX4_rink 61 = .ok (.pop, 1) := by decide +kernel
theorem dX4_rink_62 : decode cX4_rink 62 = .ok (.bipush (-20), 2) := by decide +kernel
theorem dX4_rink_64 : decode cX4_rink 64 = .ok (.iload_n 2, 1) := by decide +kernel
theorem dX4_rink_65 : decode cX4_rink 65 = .ok (.isub, 1) := by decide +kernel
theorem dX4_rink_66 : decode cX4_rink 66 = .ok (.ireturn, 1) := by decide +kernel
theorem dX4_rink_67 : decode cX4_rink 67 = .ok (.iload_n 1, 1) := by decide +kernel
theorem dX4_rink_68 : decode cX4_rink 68 = .ok (.ireturn, 1) := by decide +kernel
theorem dX4_playerOf_0 : decode cX4_playerOf 0 = .ok (.aload_n 0, 1) := by decide +kernel
theorem dX4_playerOf_1 : decode cX4_playerOf 1 = .ok (.getfield 10, 3) := by decide +kernel
theorem dX4_playerOf_4 : decode cX4_playerOf 4 = .ok (.iload_n 1, 1) := by decide +kernel
theorem dX4_playerOf_5 : decode cX4_playerOf 5 = .ok (.invokevirtual 106, 3) := by decide +kernel
theorem dX4_playerOf_8 : decode cX4_playerOf 8 = .ok (.ifCond .ne 10, 3) := by decide +kernel
theorem dX4_playerOf_11 : decode cX4_playerOf 11 = .ok (.aload_n 0, 1) := by decide +kernel
theorem dX4_playerOf_12 : decode cX4_playerOf 12 = .ok (.bipush (-2), 2) := by decide +kernel
theorem dX4_playerOf_14 : decode cX4_playerOf 14 = .ok (.invokevirtual 62, 3) := by decide +kernel
theorem dX4_playerOf_17 : decode cX4_playerOf 17 = .ok (.ireturn, 1) := by decide +kernel
theorem dX4_playerOf_18 : decode cX4_playerOf 18 = .ok (.iload_n 2, 1) := by decide +kernel
theorem dX4_playerOf_19 : decode cX4_playerOf 19 = .ok (.tableswitch 127 0 7 #[45, 55, 65, 75, 85, 97, 109, 118], 45) := by decide +kernel
theorem dX4_playerOf_64 : decode cX4_playerOf 64 = .ok (.aload_n 0, 1) := by decide +kernel
theorem dX4_playerOf_65 : decode cX4_playerOf 65 = .ok (.getfield 10, 3) := by decide +kernel
theorem dX4_playerOf_68 : decode cX4_playerOf 68 = .ok (.getfield 108, 3) := by decide +kernel
theorem dX4_playerOf_71 : decode cX4_playerOf 71 = .ok (.iload_n 1, 1) := by decide +kernel
theorem dX4_playerOf_72 : decode cX4_playerOf 72 = .ok (.iaload, 1) := by decide +kernel
theorem dX4_playerOf_73 : decode cX4_playerOf 73 = .ok (.ireturn, 1) := by decide +kernel
theorem dX4_playerOf_74 : decode cX4_playerOf 74 = .ok (.aload_n 0, 1) := by decide +kernel
theorem dX4_playerOf_75 : decode cX4_playerOf 75 = .ok (.getfield 10, 3) := by decide +kernel
theorem dX4_playerOf_78 : decode cX4_playerOf 78 = .ok (.getfield 125, 3) := by decide +kernel
theorem dX4_playerOf_81 : decode cX4_playerOf 81 = .ok (.iload_n 1, 1) := by decide +kernel
theorem dX4_playerOf_82 : decode cX4_playerOf 82 = .ok (.iaload, 1) := by decide +kernel
theorem dX4_playerOf_83 : decode cX4_playerOf 83 = .ok (.ireturn, 1) := by decide +kernel
theorem dX4_playerOf_84 : decode cX4_playerOf 84 = .ok (.aload_n 0, 1) := by decide +kernel
theorem dX4_playerOf_85 : decode cX4_playerOf 85 = .ok (.getfield 10, 3) := by decide +kernel
theorem dX4_playerOf_88 : decode cX4_playerOf 88 = .ok (.getfield 172, 3) := by decide +kernel
theorem dX4_playerOf_91 : decode cX4_playerOf 91 = .ok (.iload_n 1, 1) := by decide +kernel
theorem dX4_playerOf_92 : decode cX4_playerOf 92 = .ok (.iaload, 1) := by decide +kernel
theorem dX4_playerOf_93 : decode cX4_playerOf 93 = .ok (.ireturn, 1) := by decide +kernel
theorem dX4_playerOf_94 : decode cX4_playerOf 94 = .ok (.aload_n 0, 1) := by decide +kernel
theorem dX4_playerOf_95 : decode cX4_playerOf 95 = .ok (.getfield 10, 3) := by decide +kernel
theorem dX4_playerOf_98 : decode cX4_playerOf 98 = .ok (.getfield 128, 3) := by decide +kernel
theorem dX4_playerOf_101 : decode cX4_playerOf 101 = .ok (.iload_n 1, 1) := by decide +kernel
theorem dX4_playerOf_102 : decode cX4_playerOf 102 = .ok (.iaload, 1) := by decide +kernel
theorem dX4_playerOf_103 : decode cX4_playerOf 103 = .ok (.ireturn, 1) := by decide +kernel
theorem dX4_playerOf_104 : decode cX4_playerOf 104 = .ok (.aload_n 0, 1) := by decide +kernel
theorem dX4_playerOf_105 : decode cX4_playerOf 105 = .ok (.getfield 10, 3) := by decide +kernel
theorem dX4_playerOf_108 : decode cX4_playerOf 108 = .ok (.getfield 175, 3) := by decide +kernel
theorem dX4_playerOf_111 : decode cX4_playerOf 111 = .ok (.iload_n 1, 1) := by decide +kernel
theorem dX4_playerOf_112 : decode cX4_playerOf 112 = .ok (.invokestatic 178, 3) := by decide +kernel
theorem dX4_playerOf_115 : decode cX4_playerOf 115 = .ok (.ireturn, 1) := by decide +kernel
theorem dX4_playerOf_116 : decode cX4_playerOf 116 = .ok (.aload_n 0, 1) := by decide +kernel
theorem dX4_playerOf_117 : decode cX4_playerOf 117 = .ok (.getfield 10, 3) := by decide +kernel
theorem dX4_playerOf_120 : decode cX4_playerOf 120 = .ok (.getfield 181, 3) := by decide +kernel
theorem dX4_playerOf_123 : decode cX4_playerOf 123 = .ok (.iload_n 1, 1) := by decide +kernel
theorem dX4_playerOf_124 : decode cX4_playerOf 124 = .ok (.invokestatic 178, 3) := by decide +kernel
theorem dX4_playerOf_127 : decode cX4_playerOf 127 = .ok (.ireturn, 1) := by decide +kernel
theorem dX4_playerOf_128 : decode cX4_playerOf 128 = .ok (.aload_n 0, 1) := by decide +kernel
theorem dX4_playerOf_129 : decode cX4_playerOf 129 = .ok (.getfield 10, 3) := by decide +kernel
theorem dX4_playerOf_132 : decode cX4_playerOf 132 = .ok (.iload_n 1, 1) := by decide +kernel
theorem dX4_playerOf_133 : decode cX4_playerOf 133 = .ok (.invokevirtual 184, 3) := by decide +kernel
theorem dX4_playerOf_136 : decode cX4_playerOf 136 = .ok (.ireturn, 1) := by decide +kernel
theorem dX4_playerOf_137 : decode cX4_playerOf 137 = .ok (.aload_n 0, 1) := by decide +kernel
theorem dX4_playerOf_138 : decode cX4_playerOf 138 = .ok (.getfield 10, 3) := by decide +kernel
theorem dX4_playerOf_141 : decode cX4_playerOf 141 = .ok (.iload_n 1, 1) := by decide +kernel
theorem dX4_playerOf_142 : decode cX4_playerOf 142 = .ok (.invokevirtual 187, 3) := by decide +kernel
theorem dX4_playerOf_145 : decode cX4_playerOf 145 = .ok (.ireturn, 1) := by decide +kernel
theorem dX4_playerOf_146 : decode cX4_playerOf 146 = .ok (.aload_n 0, 1) := by decide +kernel
theorem dX4_playerOf_147 : decode cX4_playerOf 147 = .ok (.bipush (-2), 2) := by decide +kernel
theorem dX4_playerOf_149 : decode cX4_playerOf 149 = .ok (.invokevirtual 62, 3) := by decide +kernel
theorem dX4_playerOf_152 : decode cX4_playerOf 152 = .ok (.ireturn, 1) := by decide +kernel
theorem dX4_lineOf_0 : decode cX4_lineOf 0 = .ok (.iload_n 1, 1) := by decide +kernel
theorem dX4_lineOf_1 : decode cX4_lineOf 1 = .ok (.invokestatic 131, 3) := by decide +kernel
theorem dX4_lineOf_4 : decode cX4_lineOf 4 = .ok (.ifCond .ne 10, 3) := by decide +kernel
theorem dX4_lineOf_7 : decode cX4_lineOf 7 = .ok (.aload_n 0, 1) := by decide +kernel
theorem dX4_lineOf_8 : decode cX4_lineOf 8 = .ok (.bipush (-2), 2) := by decide +kernel
theorem dX4_lineOf_10 : decode cX4_lineOf 10 = .ok (.invokevirtual 62, 3) := by decide +kernel
theorem dX4_lineOf_13 : decode cX4_lineOf 13 = .ok (.ireturn, 1) := by decide +kernel
theorem dX4_lineOf_14 : decode cX4_lineOf 14 = .ok (.aload_n 0, 1) := by decide +kernel
theorem dX4_lineOf_15 : decode cX4_lineOf 15 = .ok (.getfield 10, 3) := by decide +kernel
theorem dX4_lineOf_18 : decode cX4_lineOf 18 = .ok (.getfield 142, 3) := by decide +kernel
theorem dX4_lineOf_21 : decode cX4_lineOf 21 = .ok (.iload_n 1, 1) := by decide +kernel
theorem dX4_lineOf_22 : decode cX4_lineOf 22 = .ok (.iaload, 1) := by decide +kernel
theorem dX4_lineOf_23 : decode cX4_lineOf 23 = .ok (.istore_n 3, 1) := by decide +kernel
theorem dX4_lineOf_24 : decode cX4_lineOf 24 = .ok (.iload_n 2, 1) := by decide +kernel
theorem dX4_lineOf_25 : decode cX4_lineOf 25 = .ok (.tableswitch 57 0 3 #[31, 33, 42, 51], 31) := by decide +kernel
theorem dX4_lineOf_56 : decode cX4_lineOf 56 = .ok (.iload_n 3, 1) := by decide +kernel
theorem dX4_lineOf_57 : decode cX4_lineOf 57 = .ok (.ireturn, 1) := by decide +kernel
theorem dX4_lineOf_58 : decode cX4_lineOf 58 = .ok (.aload_n 0, 1) := by decide +kernel
theorem dX4_lineOf_59 : decode cX4_lineOf 59 = .ok (.getfield 10, 3) := by decide +kernel
theorem dX4_lineOf_62 : decode cX4_lineOf 62 = .ok (.iload_n 3, 1) := by decide +kernel
theorem dX4_lineOf_63 : decode cX4_lineOf 63 = .ok (.invokevirtual 190, 3) := by decide +kernel
theorem dX4_lineOf_66 : decode cX4_lineOf 66 = .ok (.ireturn, 1) := by decide +kernel
theorem dX4_lineOf_67 : decode cX4_lineOf 67 = .ok (.aload_n 0, 1) := by decide +kernel
theorem dX4_lineOf_68 : decode cX4_lineOf 68 = .ok (.getfield 10, 3) := by decide +kernel
theorem dX4_lineOf_71 : decode cX4_lineOf 71 = .ok (.iload_n 3, 1) := by decide +kernel
theorem dX4_lineOf_72 : decode cX4_lineOf 72 = .ok (.invokevirtual 193, 3) := by decide +kernel
theorem dX4_lineOf_75 : decode cX4_lineOf 75 = .ok (.ireturn, 1) := by decide +kernel
theorem dX4_lineOf_76 : decode cX4_lineOf 76 = .ok (.aload_n 0, 1) := by decide +kernel
theorem dX4_lineOf_77 : decode cX4_lineOf 77 = .ok (.iload_n 3, 1) := by decide +kernel
theorem dX4_lineOf_78 : decode cX4_lineOf 78 = .ok (.invokevirtual 196, 3) := by decide +kernel
theorem dX4_lineOf_81 : decode cX4_lineOf 81 = .ok (.ireturn, 1) := by decide +kernel
theorem dX4_lineOf_82 : decode cX4_lineOf 82 = .ok (.aload_n 0, 1) := by decide +kernel
theorem dX4_lineOf_83 : decode cX4_lineOf 83 = .ok (.bipush (-2), 2) := by decide +kernel
theorem dX4_lineOf_85 : decode cX4_lineOf 85 = .ok (.invokevirtual 62, 3) := by decide +kernel
theorem dX4_lineOf_88 : decode cX4_lineOf 88 = .ok (.ireturn, 1) := by decide +kernel
theorem dX4_power_0 : decode cX4_power 0 = .ok (.aload_n 0, 1) := by decide +kernel
theorem dX4_power_1 : decode cX4_power 1 = .ok (.getfield 10, 3) := by decide +kernel
theorem dX4_power_4 : decode cX4_power 4 = .ok (.invokevirtual 199, 3) := by decide +kernel
theorem dX4_power_7 : decode cX4_power 7 = .ok (.ireturn, 1) := by decide +kernel
theorem dX4_odds_0 : decode cX4_odds 0 = .ok (.iload_n 1, 1) := by decide +kernel
theorem dX4_odds_1 : decode cX4_odds 1 = .ok (.lookupswitch 50 #[(0, 27), (1, 42)], 27) := by decide +kernel
theorem dX4_odds_28 : decode cX4_odds 28 = .ok (.aload_n 0, 1) := by decide +kernel
theorem dX4_odds_29 : decode cX4_odds 29 = .ok (.getfield 10, 3) := by decide +kernel
theorem dX4_odds_32 : decode cX4_odds 32 = .ok (.aload_n 0, 1) := by decide +kernel
theorem dX4_odds_33 : decode cX4_odds 33 = .ok (.getfield 10, 3) := by decide +kernel
theorem dX4_odds_36 : decode cX4_odds 36 = .ok (.invokevirtual 199, 3) := by decide +kernel
theorem dX4_odds_39 : decode cX4_odds 39 = .ok (.invokevirtual 202, 3) := by decide +kernel
theorem dX4_odds_42 : decode cX4_odds 42 = .ok (.ireturn, 1) := by decide +kernel
theorem dX4_odds_43 : decode cX4_odds 43 = .ok (.aload_n 0, 1) := by decide +kernel
theorem dX4_odds_44 : decode cX4_odds 44 = .ok (.getfield 10, 3) := by decide +kernel
theorem dX4_odds_47 : decode cX4_odds 47 = .ok (.invokevirtual 205, 3) := by decide +kernel
theorem dX4_odds_50 : decode cX4_odds 50 = .ok (.ireturn, 1) := by decide +kernel
theorem dX4_odds_51 : decode cX4_odds 51 = .ok (.aload_n 0, 1) := by decide +kernel
theorem dX4_odds_52 : decode cX4_odds 52 = .ok (.bipush (-2), 2) := by decide +kernel
theorem dX4_odds_54 : decode cX4_odds 54 = .ok (.invokevirtual 62, 3) := by decide +kernel
theorem dX4_odds_57 : decode cX4_odds 57 = .ok (.ireturn, 1) := by decide +kernel
theorem dX4_way_0 : decode cX4_way 0 = .ok (.aload_n 0, 1) := by decide +kernel
theorem dX4_way_1 : decode cX4_way 1 = .ok (.getfield 10, 3) := by decide +kernel
theorem dX4_way_4 : decode cX4_way 4 = .ok (.iload_n 1, 1) := by decide +kernel
theorem dX4_way_5 : decode cX4_way 5 = .ok (.invokevirtual 208, 3) := by decide +kernel
theorem dX4_way_8 : decode cX4_way 8 = .ok (.ifCond .ne 13, 3) := by decide +kernel
theorem dX4_way_11 : decode cX4_way 11 = .ok (.aload_n 0, 1) := by decide +kernel
theorem dX4_way_12 : decode cX4_way 12 = .ok (.aload_n 0, 1) := by decide +kernel
theorem dX4_way_13 : decode cX4_way 13 = .ok (.iload_n 1, 1) := by decide +kernel
theorem dX4_way_14 : decode cX4_way 14 = .ok (.invokevirtual 211, 3) := by decide +kernel
theorem dX4_way_17 : decode cX4_way 17 = .ok (.invokevirtual 62, 3) := by decide +kernel
theorem dX4_way_20 : decode cX4_way 20 = .ok (.ireturn, 1) := by decide +kernel
theorem dX4_way_21 : decode cX4_way 21 = .ok (.aload_n 0, 1) := by decide +kernel
theorem dX4_way_22 : decode cX4_way 22 = .ok (.getfield 10, 3) := by decide +kernel
theorem dX4_way_25 : decode cX4_way 25 = .ok (.iload_n 1, 1) := by decide +kernel
theorem dX4_way_26 : decode cX4_way 26 = .ok (.invokevirtual 214, 3) := by decide +kernel
theorem dX4_way_29 : decode cX4_way 29 = .ok (.ireturn, 1) := by decide +kernel
theorem dX4_best_0 : decode cX4_best 0 = .ok (.iload_n 1, 1) := by decide +kernel
theorem dX4_best_1 : decode cX4_best 1 = .ok (.iconst 0, 1) := by decide +kernel
theorem dX4_best_2 : decode cX4_best 2 = .ok (.iconst 1, 1) := by decide +kernel
theorem dX4_best_3 : decode cX4_best 3 = .ok (.invokestatic 58, 3) := by decide +kernel
theorem dX4_best_6 : decode cX4_best 6 = .ok (.ifCond .ne 10, 3) := by decide +kernel
theorem dX4_best_9 : decode cX4_best 9 = .ok (.aload_n 0, 1) := by decide +kernel
theorem dX4_best_10 : decode cX4_best 10 = .ok (.bipush (-2), 2) := by decide +kernel
theorem dX4_best_12 : decode cX4_best 12 = .ok (.invokevirtual 62, 3) := by decide +kernel
theorem dX4_best_15 : decode cX4_best 15 = .ok (.ireturn, 1) := by decide +kernel
theorem dX4_best_16 : decode cX4_best 16 = .ok (.aload_n 0, 1) := by decide +kernel
theorem dX4_best_17 : decode cX4_best 17 = .ok (.getfield 10, 3) := by decide +kernel
theorem dX4_best_20 : decode cX4_best 20 = .ok (.invokevirtual 217, 3) := by decide +kernel
theorem dX4_best_23 : decode cX4_best 23 = .ok (.iconst (-1), 1) := by decide +kernel
theorem dX4_best_24 : decode cX4_best 24 = .ok (.if_icmp .ne 10, 3) := by decide +kernel
theorem dX4_best_27 : decode cX4_best 27 = .ok (.aload_n 0, 1) := by decide +kernel
theorem dX4_best_28 : decode cX4_best 28 = .ok (.bipush (-5), 2) := by decide +kernel
theorem dX4_best_30 : decode cX4_best 30 = .ok (.invokevirtual 62, 3) := by decide +kernel
theorem dX4_best_33 : decode cX4_best 33 = .ok (.ireturn, 1) := by decide +kernel
theorem dX4_best_34 : decode cX4_best 34 = .ok (.iload_n 1, 1) := by decide +kernel
theorem dX4_best_35 : decode cX4_best 35 = .ok (.ifCond .ne 13, 3) := by decide +kernel
theorem dX4_best_38 : decode cX4_best 38 = .ok (.aload_n 0, 1) := by decide +kernel
theorem dX4_best_39 : decode cX4_best 39 = .ok (.getfield 10, 3) := by decide +kernel
theorem dX4_best_42 : decode cX4_best 42 = .ok (.invokevirtual 220, 3) := by decide +kernel
theorem dX4_best_45 : decode cX4_best 45 = .ok (.goto 7, 3) := by decide +kernel
theorem dX4_best_48 : decode cX4_best 48 = .ok (.aload_n 0, 1) := by decide +kernel
theorem dX4_best_49 : decode cX4_best 49 = .ok (.invokevirtual 223, 3) := by decide +kernel
theorem dX4_best_52 : decode cX4_best 52 = .ok (.ireturn, 1) := by decide +kernel
theorem dX4_rests_0 : decode cX4_rests 0 = .ok (.aload_n 0, 1) := by decide +kernel
theorem dX4_rests_1 : decode cX4_rests 1 = .ok (.getfield 10, 3) := by decide +kernel
theorem dX4_rests_4 : decode cX4_rests 4 = .ok (.iload_n 1, 1) := by decide +kernel
theorem dX4_rests_5 : decode cX4_rests 5 = .ok (.invokevirtual 106, 3) := by decide +kernel
theorem dX4_rests_8 : decode cX4_rests 8 = .ok (.ifCond .ne 10, 3) := by decide +kernel
theorem dX4_rests_11 : decode cX4_rests 11 = .ok (.aload_n 0, 1) := by decide +kernel
theorem dX4_rests_12 : decode cX4_rests 12 = .ok (.bipush (-2), 2) := by decide +kernel
theorem dX4_rests_14 : decode cX4_rests 14 = .ok (.invokevirtual 62, 3) := by decide +kernel
theorem dX4_rests_17 : decode cX4_rests 17 = .ok (.ireturn, 1) := by decide +kernel
theorem dX4_rests_18 : decode cX4_rests 18 = .ok (.aload_n 0, 1) := by decide +kernel
theorem dX4_rests_19 : decode cX4_rests 19 = .ok (.getfield 10, 3) := by decide +kernel
theorem dX4_rests_22 : decode cX4_rests 22 = .ok (.getfield 108, 3) := by decide +kernel
theorem dX4_rests_25 : decode cX4_rests 25 = .ok (.iload_n 1, 1) := by decide +kernel
theorem dX4_rests_26 : decode cX4_rests 26 = .ok (.iaload, 1) := by decide +kernel
theorem dX4_rests_27 : decode cX4_rests 27 = .ok (.invokestatic 226, 3) := by decide +kernel
theorem dX4_rests_30 : decode cX4_rests 30 = .ok (.istore_n 2, 1) := by decide +kernel
theorem dX4_rests_31 : decode cX4_rests 31 = .ok (.aload_n 0, 1) := by decide +kernel
theorem dX4_rests_32 : decode cX4_rests 32 = .ok (.getfield 10, 3) := by decide +kernel
theorem dX4_rests_35 : decode cX4_rests 35 = .ok (.getfield 128, 3) := by decide +kernel
theorem dX4_rests_38 : decode cX4_rests 38 = .ok (.iload_n 1, 1) := by decide +kernel
theorem dX4_rests_39 : decode cX4_rests 39 = .ok (.iaload, 1) := by decide +kernel
theorem dX4_rests_40 : decode cX4_rests 40 = .ok (.iload_n 2, 1) := by decide +kernel
theorem dX4_rests_41 : decode cX4_rests 41 = .ok (.iadd, 1) := by decide +kernel
theorem dX4_rests_42 : decode cX4_rests 42 = .ok (.iconst 1, 1) := by decide +kernel
theorem dX4_rests_43 : decode cX4_rests 43 = .ok (.isub, 1) := by decide +kernel
theorem dX4_rests_44 : decode cX4_rests 44 = .ok (.iload_n 2, 1) := by decide +kernel
theorem dX4_rests_45 : decode cX4_rests 45 = .ok (.idiv, 1) := by decide +kernel
theorem dX4_rests_46 : decode cX4_rests 46 = .ok (.ireturn, 1) := by decide +kernel
theorem dX4_five_0 : decode cX4_five 0 = .ok (.aload_n 0, 1) := by decide +kernel
theorem dX4_five_1 : decode cX4_five 1 = .ok (.getfield 10, 3) := by decide +kernel
theorem dX4_five_4 : decode cX4_five 4 = .ok (.getfield 229, 3) := by decide +kernel
theorem dX4_five_7 : decode cX4_five 7 = .ok (.ifCond .ne 10, 3) := by decide +kernel
theorem dX4_five_10 : decode cX4_five 10 = .ok (.aload_n 0, 1) := by decide +kernel
theorem dX4_five_11 : decode cX4_five 11 = .ok (.bipush (-5), 2) := by decide +kernel
theorem dX4_five_13 : decode cX4_five 13 = .ok (.invokevirtual 62, 3) := by decide +kernel
theorem dX4_five_16 : decode cX4_five 16 = .ok (.ireturn, 1) := by decide +kernel
theorem dX4_five_17 : decode cX4_five 17 = .ok (.iconst 5, 1) := by decide +kernel
theorem dX4_five_18 : decode cX4_five 18 = .ok (.aload_n 0, 1) := by decide +kernel
theorem dX4_five_19 : decode cX4_five 19 = .ok (.getfield 10, 3) := by decide +kernel
theorem dX4_five_22 : decode cX4_five 22 = .ok (.getfield 229, 3) := by decide +kernel
theorem dX4_five_25 : decode cX4_five 25 = .ok (.invokestatic 232, 3) := by decide +kernel
theorem dX4_five_28 : decode cX4_five 28 = .ok (.istore_n 1, 1) := by decide +kernel
theorem dX4_five_29 : decode cX4_five 29 = .ok (.aload_n 0, 1) := by decide +kernel
theorem dX4_five_30 : decode cX4_five 30 = .ok (.getfield 45, 3) := by decide +kernel
theorem dX4_five_33 : decode cX4_five 33 = .ok (.invokevirtual 237, 3) := by decide +kernel
theorem dX4_five_36 : decode cX4_five 36 = .ok (.iconst 1, 1) := by decide +kernel
theorem dX4_five_37 : decode cX4_five 37 = .ok (.istore_n 2, 1) := by decide +kernel
theorem dX4_five_38 : decode cX4_five 38 = .ok (.iload_n 2, 1) := by decide +kernel
theorem dX4_five_39 : decode cX4_five 39 = .ok (.aload_n 0, 1) := by decide +kernel
theorem dX4_five_40 : decode cX4_five 40 = .ok (.getfield 10, 3) := by decide +kernel
theorem dX4_five_43 : decode cX4_five 43 = .ok (.invokevirtual 134, 3) := by decide +kernel
theorem dX4_five_46 : decode cX4_five 46 = .ok (.if_icmp .gt 30, 3) := by decide +kernel
theorem dX4_five_49 : decode cX4_five 49 = .ok (.iload_n 2, 1) := by decide +kernel
theorem dX4_five_50 : decode cX4_five 50 = .ok (.invokestatic 137, 3) := by decide +kernel
theorem dX4_five_53 : decode cX4_five 53 = .ok (.iload_n 1, 1) := by decide +kernel
theorem dX4_five_54 : decode cX4_five 54 = .ok (.if_icmp .ne 16, 3) := by decide +kernel
theorem dX4_five_57 : decode cX4_five 57 = .ok (.aload_n 0, 1) := by decide +kernel
theorem dX4_five_58 : decode cX4_five 58 = .ok (.getfield 45, 3) := by decide +kernel
theorem dX4_five_61 : decode cX4_five 61 = .ok (.iload_n 2, 1) := by decide +kernel
theorem dX4_five_62 : decode cX4_five 62 = .ok (.aload_n 0, 1) := by decide +kernel
theorem dX4_five_63 : decode cX4_five 63 = .ok (.iload_n 2, 1) := by decide +kernel
theorem dX4_five_64 : decode cX4_five 64 = .ok (.invokevirtual 196, 3) := by decide +kernel
theorem dX4_five_67 : decode cX4_five 67 = .ok (.invokevirtual 240, 3) := by decide +kernel
theorem dX4_five_70 : decode cX4_five 70 = .ok (.iinc 2 1, 3) := by decide +kernel
theorem dX4_five_73 : decode cX4_five 73 = .ok (.goto (-35), 3) := by decide +kernel
theorem dX4_five_76 : decode cX4_five 76 = .ok (.aload_n 0, 1) := by decide +kernel
theorem dX4_five_77 : decode cX4_five 77 = .ok (.getfield 45, 3) := by decide +kernel
theorem dX4_five_80 : decode cX4_five 80 = .ok (.getfield 243, 3) := by decide +kernel
theorem dX4_five_83 : decode cX4_five 83 = .ok (.ireturn, 1) := by decide +kernel
theorem dX4_behind_0 : decode cX4_behind 0 = .ok (.iload_n 1, 1) := by decide +kernel
theorem dX4_behind_1 : decode cX4_behind 1 = .ok (.iconst 0, 1) := by decide +kernel
theorem dX4_behind_2 : decode cX4_behind 2 = .ok (.sipush 600, 3) := by decide +kernel
theorem dX4_behind_5 : decode cX4_behind 5 = .ok (.invokestatic 58, 3) := by decide +kernel
theorem dX4_behind_8 : decode cX4_behind 8 = .ok (.ifCond .eq 19, 3) := by decide +kernel
theorem dX4_behind_11 : decode cX4_behind 11 = .ok (.iload_n 2, 1) := by decide +kernel
theorem dX4_behind_12 : decode cX4_behind 12 = .ok (.iconst (-1), 1) := by decide +kernel
theorem dX4_behind_13 : decode cX4_behind 13 = .ok (.if_icmp .eq 21, 3) := by decide +kernel
theorem dX4_behind_16 : decode cX4_behind 16 = .ok (.aload_n 0, 1) := by decide +kernel
theorem dX4_behind_17 : decode cX4_behind 17 = .ok (.getfield 10, 3) := by decide +kernel
theorem dX4_behind_20 : decode cX4_behind 20 = .ok (.iload_n 2, 1) := by decide +kernel
theorem dX4_behind_21 : decode cX4_behind 21 = .ok (.invokevirtual 106, 3) := by decide +kernel
theorem dX4_behind_24 : decode cX4_behind 24 = .ok (.ifCond .ne 10, 3) := by decide +kernel
theorem dX4_behind_27 : decode cX4_behind 27 = .ok (.aload_n 0, 1) := by decide +kernel
theorem dX4_behind_28 : decode cX4_behind 28 = .ok (.bipush (-2), 2) := by decide +kernel
theorem dX4_behind_30 : decode cX4_behind 30 = .ok (.invokevirtual 62, 3) := by decide +kernel
theorem dX4_behind_33 : decode cX4_behind 33 = .ok (.ireturn, 1) := by decide +kernel
theorem dX4_behind_34 : decode cX4_behind 34 = .ok (.aload_n 0, 1) := by decide +kernel
theorem dX4_behind_35 : decode cX4_behind 35 = .ok (.getfield 16, 3) := by decide +kernel
theorem dX4_behind_38 : decode cX4_behind 38 = .ok (.aload_n 0, 1) := by decide +kernel
theorem dX4_behind_39 : decode cX4_behind 39 = .ok (.getfield 10, 3) := by decide +kernel
theorem dX4_behind_42 : decode cX4_behind 42 = .ok (.invokevirtual 161, 3) := by decide +kernel
theorem dX4_behind_45 : decode cX4_behind 45 = .ok (.aload_n 0, 1) := by decide +kernel
theorem dX4_behind_46 : decode cX4_behind 46 = .ok (.getfield 16, 3) := by decide +kernel
theorem dX4_behind_49 : decode cX4_behind 49 = .ok (.iload_n 1, 1) := by decide +kernel
theorem dX4_behind_50 : decode cX4_behind 50 = .ok (.invokevirtual 246, 3) := by decide +kernel
theorem dX4_behind_53 : decode cX4_behind 53 = .ok (.iload_n 2, 1) := by decide +kernel
theorem dX4_behind_54 : decode cX4_behind 54 = .ok (.iconst (-1), 1) := by decide +kernel
theorem dX4_behind_55 : decode cX4_behind 55 = .ok (.if_icmp .ne 13, 3) := by decide +kernel
theorem dX4_behind_58 : decode cX4_behind 58 = .ok (.aload_n 0, 1) := by decide +kernel
theorem dX4_behind_59 : decode cX4_behind 59 = .ok (.getfield 16, 3) := by decide +kernel
theorem dX4_behind_62 : decode cX4_behind 62 = .ok (.invokevirtual 199, 3) := by decide +kernel
theorem dX4_behind_65 : decode cX4_behind 65 = .ok (.goto 12, 3) := by decide +kernel
theorem dX4_behind_68 : decode cX4_behind 68 = .ok (.aload_n 0, 1) := by decide +kernel
theorem dX4_behind_69 : decode cX4_behind 69 = .ok (.getfield 16, 3) := by decide +kernel
theorem dX4_behind_72 : decode cX4_behind 72 = .ok (.getfield 128, 3) := by decide +kernel
theorem dX4_behind_75 : decode cX4_behind 75 = .ok (.iload_n 2, 1) := by decide +kernel
theorem dX4_behind_76 : decode cX4_behind 76 = .ok (.iaload, 1) := by decide +kernel
theorem dX4_behind_77 : decode cX4_behind 77 = .ok (.ireturn, 1) := by decide +kernel
theorem dX4_gains_0 : decode cX4_gains 0 = .ok (.iload_n 1, 1) := by decide +kernel
theorem dX4_gains_1 : decode cX4_gains 1 = .ok (.iconst 0, 1) := by decide +kernel
theorem dX4_gains_2 : decode cX4_gains 2 = .ok (.sipush 600, 3) := by decide +kernel
theorem dX4_gains_5 : decode cX4_gains 5 = .ok (.invokestatic 58, 3) := by decide +kernel
theorem dX4_gains_8 : decode cX4_gains 8 = .ok (.ifCond .ne 10, 3) := by decide +kernel
theorem dX4_gains_11 : decode cX4_gains 11 = .ok (.aload_n 0, 1) := by decide +kernel
theorem dX4_gains_12 : decode cX4_gains 12 = .ok (.bipush (-2), 2) := by decide +kernel
theorem dX4_gains_14 : decode cX4_gains 14 = .ok (.invokevirtual 250, 3) := by decide +kernel
theorem dX4_gains_17 : decode cX4_gains 17 = .ok (.ireturn, 1) := by decide +kernel
theorem dX4_gains_18 : decode cX4_gains 18 = .ok (.aload_n 0, 1) := by decide +kernel
theorem dX4_gains_19 : decode cX4_gains 19 = .ok (.getfield 16, 3) := by decide +kernel
theorem dX4_gains_22 : decode cX4_gains 22 = .ok (.aload_n 0, 1) := by decide +kernel
theorem dX4_gains_23 : decode cX4_gains 23 = .ok (.getfield 10, 3) := by decide +kernel
theorem dX4_gains_26 : decode cX4_gains 26 = .ok (.invokevirtual 161, 3) := by decide +kernel
theorem dX4_gains_29 : decode cX4_gains 29 = .ok (.aload_n 0, 1) := by decide +kernel
theorem dX4_gains_30 : decode cX4_gains 30 = .ok (.getfield 16, 3) := by decide +kernel
theorem dX4_gains_33 : decode cX4_gains 33 = .ok (.iload_n 1, 1) := by decide +kernel
theorem dX4_gains_34 : decode cX4_gains 34 = .ok (.invokevirtual 253, 3) := by decide +kernel
theorem dX4_gains_37 : decode cX4_gains 37 = .ok (.ireturn, 1) := by decide +kernel
theorem dX4_tiredest_0 : decode cX4_tiredest 0 = .ok (.iload_n 1, 1) := by decide +kernel
theorem dX4_tiredest_1 : decode cX4_tiredest 1 = .ok (.iconst 0, 1) := by decide +kernel
theorem dX4_tiredest_2 : decode cX4_tiredest 2 = .ok (.sipush 600, 3) := by decide +kernel
theorem dX4_tiredest_5 : decode cX4_tiredest 5 = .ok (.invokestatic 58, 3) := by decide +kernel
theorem dX4_tiredest_8 : decode cX4_tiredest 8 = .ok (.ifCond .ne 10, 3) := by decide +kernel
theorem dX4_tiredest_11 : decode cX4_tiredest 11 = .ok (.aload_n 0, 1) := by decide +kernel
theorem dX4_tiredest_12 : decode cX4_tiredest 12 = .ok (.bipush (-2), 2) := by decide +kernel
theorem dX4_tiredest_14 : decode cX4_tiredest 14 = .ok (.invokevirtual 62, 3) := by decide +kernel
theorem dX4_tiredest_17 : decode cX4_tiredest 17 = .ok (.ireturn, 1) := by decide +kernel
theorem dX4_tiredest_18 : decode cX4_tiredest 18 = .ok (.aload_n 0, 1) := by decide +kernel
theorem dX4_tiredest_19 : decode cX4_tiredest 19 = .ok (.getfield 10, 3) := by decide +kernel
theorem dX4_tiredest_22 : decode cX4_tiredest 22 = .ok (.getfield 229, 3) := by decide +kernel
theorem dX4_tiredest_25 : decode cX4_tiredest 25 = .ok (.ifCond .ne 10, 3) := by decide +kernel
theorem dX4_tiredest_28 : decode cX4_tiredest 28 = .ok (.aload_n 0, 1) := by decide +kernel
theorem dX4_tiredest_29 : decode cX4_tiredest 29 = .ok (.bipush (-5), 2) := by decide +kernel
theorem dX4_tiredest_31 : decode cX4_tiredest 31 = .ok (.invokevirtual 62, 3) := by decide +kernel
theorem dX4_tiredest_34 : decode cX4_tiredest 34 = .ok (.ireturn, 1) := by decide +kernel
theorem dX4_tiredest_35 : decode cX4_tiredest 35 = .ok (.aload_n 0, 1) := by decide +kernel
theorem dX4_tiredest_36 : decode cX4_tiredest 36 = .ok (.getfield 16, 3) := by decide +kernel
theorem dX4_tiredest_39 : decode cX4_tiredest 39 = .ok (.aload_n 0, 1) := by decide +kernel
theorem dX4_tiredest_40 : decode cX4_tiredest 40 = .ok (.getfield 10, 3) := by decide +kernel
theorem dX4_tiredest_43 : decode cX4_tiredest 43 = .ok (.invokevirtual 161, 3) := by decide +kernel
theorem dX4_tiredest_46 : decode cX4_tiredest 46 = .ok (.aload_n 0, 1) := by decide +kernel
theorem dX4_tiredest_47 : decode cX4_tiredest 47 = .ok (.getfield 16, 3) := by decide +kernel
theorem dX4_tiredest_50 : decode cX4_tiredest 50 = .ok (.iload_n 1, 1) := by decide +kernel
theorem dX4_tiredest_51 : decode cX4_tiredest 51 = .ok (.invokevirtual 246, 3) := by decide +kernel
theorem dX4_tiredest_54 : decode cX4_tiredest 54 = .ok (.aload_n 0, 1) := by decide +kernel
theorem dX4_tiredest_55 : decode cX4_tiredest 55 = .ok (.getfield 45, 3) := by decide +kernel
theorem dX4_tiredest_58 : decode cX4_tiredest 58 = .ok (.invokevirtual 237, 3) := by decide +kernel
theorem dX4_tiredest_61 : decode cX4_tiredest 61 = .ok (.iconst 0, 1) := by decide +kernel
theorem dX4_tiredest_62 : decode cX4_tiredest 62 = .ok (.istore_n 2, 1) := by decide +kernel
theorem dX4_tiredest_63 : decode cX4_tiredest 63 = .ok (.iload_n 2, 1) := by decide +kernel
theorem dX4_tiredest_64 : decode cX4_tiredest 64 = .ok (.aload_n 0, 1) := by decide +kernel
theorem dX4_tiredest_65 : decode cX4_tiredest 65 = .ok (.getfield 16, 3) := by decide +kernel
theorem dX4_tiredest_68 : decode cX4_tiredest 68 = .ok (.getfield 229, 3) := by decide +kernel
theorem dX4_tiredest_71 : decode cX4_tiredest 71 = .ok (.if_icmp .ge 26, 3) := by decide +kernel
theorem dX4_tiredest_74 : decode cX4_tiredest 74 = .ok (.aload_n 0, 1) := by decide +kernel
theorem dX4_tiredest_75 : decode cX4_tiredest 75 = .ok (.getfield 45, 3) := by decide +kernel
theorem dX4_tiredest_78 : decode cX4_tiredest 78 = .ok (.iload_n 2, 1) := by decide +kernel
theorem dX4_tiredest_79 : decode cX4_tiredest 79 = .ok (.aload_n 0, 1) := by decide +kernel
theorem dX4_tiredest_80 : decode cX4_tiredest 80 = .ok (.getfield 16, 3) := by decide +kernel
theorem dX4_tiredest_83 : decode cX4_tiredest 83 = .ok (.getfield 128, 3) := by decide +kernel
theorem dX4_tiredest_86 : decode cX4_tiredest 86 = .ok (.iload_n 2, 1) := by decide +kernel
theorem dX4_tiredest_87 : decode cX4_tiredest 87 = .ok (.iaload, 1) := by decide +kernel
theorem dX4_tiredest_88 : decode cX4_tiredest 88 = .ok (.invokevirtual 240, 3) := by decide +kernel
theorem dX4_tiredest_91 : decode cX4_tiredest 91 = .ok (.iinc 2 1, 3) := by decide +kernel
theorem dX4_tiredest_94 : decode cX4_tiredest 94 = .ok (.goto (-31), 3) := by decide +kernel
theorem dX4_tiredest_97 : decode cX4_tiredest 97 = .ok (.aload_n 0, 1) := by decide +kernel
theorem dX4_tiredest_98 : decode cX4_tiredest 98 = .ok (.getfield 45, 3) := by decide +kernel
theorem dX4_tiredest_101 : decode cX4_tiredest 101 = .ok (.getfield 243, 3) := by decide +kernel
theorem dX4_tiredest_104 : decode cX4_tiredest 104 = .ok (.ireturn, 1) := by decide +kernel
theorem dX4_fresh_0 : decode cX4_fresh 0 = .ok (.iload_n 1, 1) := by decide +kernel
theorem dX4_fresh_1 : decode cX4_fresh 1 = .ok (.invokestatic 131, 3) := by decide +kernel
theorem dX4_fresh_4 : decode cX4_fresh 4 = .ok (.ifCond .eq 14, 3) := by decide +kernel
theorem dX4_fresh_7 : decode cX4_fresh 7 = .ok (.iload_n 2, 1) := by decide +kernel
theorem dX4_fresh_8 : decode cX4_fresh 8 = .ok (.iconst 0, 1) := by decide +kernel
theorem dX4_fresh_9 : decode cX4_fresh 9 = .ok (.sipush 600, 3) := by decide +kernel
theorem dX4_fresh_12 : decode cX4_fresh 12 = .ok (.invokestatic 58, 3) := by decide +kernel
theorem dX4_fresh_15 : decode cX4_fresh 15 = .ok (.ifCond .ne 10, 3) := by decide +kernel
theorem dX4_fresh_18 : decode cX4_fresh 18 = .ok (.aload_n 0, 1) := by decide +kernel
theorem dX4_fresh_19 : decode cX4_fresh 19 = .ok (.bipush (-2), 2) := by decide +kernel
theorem dX4_fresh_21 : decode cX4_fresh 21 = .ok (.invokevirtual 62, 3) := by decide +kernel
theorem dX4_fresh_24 : decode cX4_fresh 24 = .ok (.ireturn, 1) := by decide +kernel
theorem dX4_fresh_25 : decode cX4_fresh 25 = .ok (.aload_n 0, 1) := by decide +kernel
theorem dX4_fresh_26 : decode cX4_fresh 26 = .ok (.getfield 10, 3) := by decide +kernel
theorem dX4_fresh_29 : decode cX4_fresh 29 = .ok (.iload_n 1, 1) := by decide +kernel
theorem dX4_fresh_30 : decode cX4_fresh 30 = .ok (.invokevirtual 208, 3) := by decide +kernel
theorem dX4_fresh_33 : decode cX4_fresh 33 = .ok (.ifCond .ne 10, 3) := by decide +kernel
theorem dX4_fresh_36 : decode cX4_fresh 36 = .ok (.aload_n 0, 1) := by decide +kernel
theorem dX4_fresh_37 : decode cX4_fresh 37 = .ok (.bipush (-5), 2) := by decide +kernel
theorem dX4_fresh_39 : decode cX4_fresh 39 = .ok (.invokevirtual 62, 3) := by decide +kernel
theorem dX4_fresh_42 : decode cX4_fresh 42 = .ok (.ireturn, 1) := by decide +kernel
theorem dX4_fresh_43 : decode cX4_fresh 43 = .ok (.aload_n 0, 1) := by decide +kernel
theorem dX4_fresh_44 : decode cX4_fresh 44 = .ok (.getfield 16, 3) := by decide +kernel
theorem dX4_fresh_47 : decode cX4_fresh 47 = .ok (.aload_n 0, 1) := by decide +kernel
theorem dX4_fresh_48 : decode cX4_fresh 48 = .ok (.getfield 10, 3) := by decide +kernel
theorem dX4_fresh_51 : decode cX4_fresh 51 = .ok (.invokevirtual 161, 3) := by decide +kernel
theorem dX4_fresh_54 : decode cX4_fresh 54 = .ok (.aload_n 0, 1) := by decide +kernel
theorem dX4_fresh_55 : decode cX4_fresh 55 = .ok (.getfield 16, 3) := by decide +kernel
theorem dX4_fresh_58 : decode cX4_fresh 58 = .ok (.iconst 0, 1) := by decide +kernel
theorem dX4_fresh_59 : decode cX4_fresh 59 = .ok (.invokevirtual 256, 3) := by decide +kernel
theorem dX4_fresh_62 : decode cX4_fresh 62 = .ok (.iconst 0, 1) := by decide +kernel
theorem dX4_fresh_63 : decode cX4_fresh 63 = .ok (.istore_n 3, 1) := by decide +kernel
theorem dX4_fresh_64 : decode cX4_fresh 64 = .ok (.iload_n 3, 1) := by decide +kernel
theorem dX4_fresh_65 : decode cX4_fresh 65 = .ok (.bipush 100, 2) := by decide +kernel
theorem dX4_fresh_67 : decode cX4_fresh 67 = .ok (.if_icmp .ge 37, 3) := by decide +kernel
theorem dX4_fresh_70 : decode cX4_fresh 70 = .ok (.aload_n 0, 1) := by decide +kernel
theorem dX4_fresh_71 : decode cX4_fresh 71 = .ok (.getfield 16, 3) := by decide +kernel
theorem dX4_fresh_74 : decode cX4_fresh 74 = .ok (.aload_n 0, 1) := by decide +kernel
theorem dX4_fresh_75 : decode cX4_fresh 75 = .ok (.getfield 16, 3) := by decide +kernel
theorem dX4_fresh_78 : decode cX4_fresh 78 = .ok (.getfield 142, 3) := by decide +kernel
theorem dX4_fresh_81 : decode cX4_fresh 81 = .ok (.iload_n 1, 1) := by decide +kernel
theorem dX4_fresh_82 : decode cX4_fresh 82 = .ok (.iaload, 1) := by decide +kernel
theorem dX4_fresh_83 : decode cX4_fresh 83 = .ok (.invokevirtual 190, 3) := by decide +kernel
theorem dX4_fresh_86 : decode cX4_fresh 86 = .ok (.iload_n 2, 1) := by decide +kernel
theorem dX4_fresh_87 : decode cX4_fresh 87 = .ok (.if_icmp .le 17, 3) := by decide +kernel
theorem dX4_fresh_90 : decode cX4_fresh 90 = .ok (.aload_n 0, 1) := by decide +kernel
theorem dX4_fresh_91 : decode cX4_fresh 91 = .ok (.getfield 16, 3) := by decide +kernel
theorem dX4_fresh_94 : decode cX4_fresh 94 = .ok (.iconst 1, 1) := by decide +kernel
theorem dX4_fresh_95 : decode cX4_fresh 95 = .ok (.invokevirtual 246, 3) := by decide +kernel
theorem dX4_fresh_98 : decode cX4_fresh 98 = .ok (.iinc 3 1, 3) := by decide +kernel
theorem dX4_fresh_101 : decode cX4_fresh 101 = .ok (.goto (-37), 3) := by decide +kernel
theorem dX4_fresh_104 : decode cX4_fresh 104 = .ok (.iload_n 3, 1) := by decide +kernel
theorem dX4_fresh_105 : decode cX4_fresh 105 = .ok (.ireturn, 1) := by decide +kernel
theorem dX4_third_0 : decode cX4_third 0 = .ok (.iload_n 1, 1) := by decide +kernel
theorem dX4_third_1 : decode cX4_third 1 = .ok (.iconst 0, 1) := by decide +kernel
theorem dX4_third_2 : decode cX4_third 2 = .ok (.sipush 600, 3) := by decide +kernel
theorem dX4_third_5 : decode cX4_third 5 = .ok (.invokestatic 58, 3) := by decide +kernel
theorem dX4_third_8 : decode cX4_third 8 = .ok (.ifCond .ne 10, 3) := by decide +kernel
theorem dX4_third_11 : decode cX4_third 11 = .ok (.aload_n 0, 1) := by decide +kernel
theorem dX4_third_12 : decode cX4_third 12 = .ok (.bipush (-2), 2) := by decide +kernel
theorem dX4_third_14 : decode cX4_third 14 = .ok (.invokevirtual 62, 3) := by decide +kernel
theorem dX4_third_17 : decode cX4_third 17 = .ok (.ireturn, 1) := by decide +kernel
theorem dX4_third_18 : decode cX4_third 18 = .ok (.aload_n 0, 1) := by decide +kernel
theorem dX4_third_19 : decode cX4_third 19 = .ok (.getfield 45, 3) := by decide +kernel
theorem dX4_third_22 : decode cX4_third 22 = .ok (.invokevirtual 237, 3) := by decide +kernel
theorem dX4_third_25 : decode cX4_third 25 = .ok (.iconst 0, 1) := by decide +kernel
theorem dX4_third_26 : decode cX4_third 26 = .ok (.istore_n 2, 1) := by decide +kernel
theorem dX4_third_27 : decode cX4_third 27 = .ok (.iload_n 2, 1) := by decide +kernel
theorem dX4_third_28 : decode cX4_third 28 = .ok (.iconst 3, 1) := by decide +kernel
theorem dX4_third_29 : decode cX4_third 29 = .ok (.if_icmp .ge 44, 3) := by decide +kernel
theorem dX4_third_32 : decode cX4_third 32 = .ok (.aload_n 0, 1) := by decide +kernel
theorem dX4_third_33 : decode cX4_third 33 = .ok (.getfield 16, 3) := by decide +kernel
theorem dX4_third_36 : decode cX4_third 36 = .ok (.aload_n 0, 1) := by decide +kernel
theorem dX4_third_37 : decode cX4_third 37 = .ok (.getfield 10, 3) := by decide +kernel
theorem dX4_third_40 : decode cX4_third 40 = .ok (.invokevirtual 161, 3) := by decide +kernel
theorem dX4_third_43 : decode cX4_third 43 = .ok (.aload_n 0, 1) := by decide +kernel
theorem dX4_third_44 : decode cX4_third 44 = .ok (.getfield 16, 3) := by decide +kernel
theorem dX4_third_47 : decode cX4_third 47 = .ok (.iload_n 2, 1) := by decide +kernel
theorem dX4_third_48 : decode cX4_third 48 = .ok (.putfield 145, 3) := by decide +kernel
theorem dX4_third_51 : decode cX4_third 51 = .ok (.aload_n 0, 1) := by decide +kernel
theorem dX4_third_52 : decode cX4_third 52 = .ok (.getfield 45, 3) := by decide +kernel
theorem dX4_third_55 : decode cX4_third 55 = .ok (.iload_n 2, 1) := by decide +kernel
theorem dX4_third_56 : decode cX4_third 56 = .ok (.aload_n 0, 1) := by decide +kernel
theorem dX4_third_57 : decode cX4_third 57 = .ok (.getfield 16, 3) := by decide +kernel
theorem dX4_third_60 : decode cX4_third 60 = .ok (.iload_n 1, 1) := by decide +kernel
theorem dX4_third_61 : decode cX4_third 61 = .ok (.invokevirtual 253, 3) := by decide +kernel
theorem dX4_third_64 : decode cX4_third 64 = .ok (.invokevirtual 240, 3) := by decide +kernel
theorem dX4_third_67 : decode cX4_third 67 = .ok (.iinc 2 1, 3) := by decide +kernel
theorem dX4_third_70 : decode cX4_third 70 = .ok (.goto (-43), 3) := by decide +kernel
theorem dX4_third_73 : decode cX4_third 73 = .ok (.aload_n 0, 1) := by decide +kernel
theorem dX4_third_74 : decode cX4_third 74 = .ok (.getfield 45, 3) := by decide +kernel
theorem dX4_third_77 : decode cX4_third 77 = .ok (.getfield 243, 3) := by decide +kernel
theorem dX4_third_80 : decode cX4_third 80 = .ok (.ireturn, 1) := by decide +kernel
theorem dX4_theirsFor_0 : decode cX4_theirsFor 0 = .ok (.iload_n 1, 1) := by decide +kernel
theorem dX4_theirsFor_1 : decode cX4_theirsFor 1 = .ok (.iconst 0, 1) := by decide +kernel
theorem dX4_theirsFor_2 : decode cX4_theirsFor 2 = .ok (.sipush 600, 3) := by decide +kernel
theorem dX4_theirsFor_5 : decode cX4_theirsFor 5 = .ok (.invokestatic 58, 3) := by decide +kernel
theorem dX4_theirsFor_8 : decode cX4_theirsFor 8 = .ok (.ifCond .ne 10, 3) := by decide +kernel
theorem dX4_theirsFor_11 : decode cX4_theirsFor 11 = .ok (.aload_n 0, 1) := by decide +kernel
theorem dX4_theirsFor_12 : decode cX4_theirsFor 12 = .ok (.bipush (-2), 2) := by decide +kernel
theorem dX4_theirsFor_14 : decode cX4_theirsFor 14 = .ok (.invokevirtual 62, 3) := by decide +kernel
theorem dX4_theirsFor_17 : decode cX4_theirsFor 17 = .ok (.ireturn, 1) := by decide +kernel
theorem dX4_theirsFor_18 : decode cX4_theirsFor 18 = .ok (.aload_n 0, 1) := by decide +kernel
theorem dX4_theirsFor_19 : decode cX4_theirsFor 19 = .ok (.getfield 16, 3) := by decide +kernel
theorem dX4_theirsFor_22 : decode cX4_theirsFor 22 = .ok (.aload_n 0, 1) := by decide +kernel
theorem dX4_theirsFor_23 : decode cX4_theirsFor 23 = .ok (.getfield 10, 3) := by decide +kernel
theorem dX4_theirsFor_26 : decode cX4_theirsFor 26 = .ok (.invokevirtual 161, 3) := by decide +kernel
theorem dX4_theirsFor_29 : decode cX4_theirsFor 29 = .ok (.aload_n 0, 1) := by decide +kernel
theorem dX4_theirsFor_30 : decode cX4_theirsFor 30 = .ok (.getfield 16, 3) := by decide +kernel
theorem dX4_theirsFor_33 : decode cX4_theirsFor 33 = .ok (.iload_n 1, 1) := by decide +kernel
theorem dX4_theirsFor_34 : decode cX4_theirsFor 34 = .ok (.invokevirtual 259, 3) := by decide +kernel
theorem dX4_theirsFor_37 : decode cX4_theirsFor 37 = .ok (.istore_n 2, 1) := by decide +kernel
theorem dX4_theirsFor_38 : decode cX4_theirsFor 38 = .ok (.sipush 999, 3) := by decide +kernel
theorem dX4_theirsFor_41 : decode cX4_theirsFor 41 = .ok (.istore_n 3, 1) := by decide +kernel
theorem dX4_theirsFor_42 : decode cX4_theirsFor 42 = .ok (.iload_n 3, 1) := by decide +kernel
theorem dX4_theirsFor_43 : decode cX4_theirsFor 43 = .ok (.iconst 1, 1) := by decide +kernel
theorem dX4_theirsFor_44 : decode cX4_theirsFor 44 = .ok (.if_icmp .lt 31, 3) := by decide +kernel
theorem dX4_theirsFor_47 : decode cX4_theirsFor 47 = .ok (.aload_n 0, 1) := by decide +kernel
theorem dX4_theirsFor_48 : decode cX4_theirsFor 48 = .ok (.getfield 16, 3) := by decide +kernel
theorem dX4_theirsFor_51 : decode cX4_theirsFor 51 = .ok (.iload_n 3, 1) := by decide +kernel
theorem dX4_theirsFor_52 : decode cX4_theirsFor 52 = .ok (.putfield 151, 3) := by decide +kernel
theorem dX4_theirsFor_55 : decode cX4_theirsFor 55 = .ok (.iload_n 2, 1) := by decide +kernel
theorem dX4_theirsFor_56 : decode cX4_theirsFor 56 = .ok (.aload_n 0, 1) := by decide +kernel
theorem dX4_theirsFor_57 : decode cX4_theirsFor 57 = .ok (.getfield 16, 3) := by decide +kernel
theorem dX4_theirsFor_60 : decode cX4_theirsFor 60 = .ok (.iload_n 1, 1) := by decide +kernel
theorem dX4_theirsFor_61 : decode cX4_theirsFor 61 = .ok (.invokevirtual 262, 3) := by decide +kernel
theorem dX4_theirsFor_64 : decode cX4_theirsFor 64 = .ok (.if_icmp .lt 5, 3) := by decide +kernel
theorem dX4_theirsFor_67 : decode cX4_theirsFor 67 = .ok (.iload_n 3, 1) := by decide +kernel
theorem dX4_theirsFor_68 : decode cX4_theirsFor 68 = .ok (.ireturn, 1) := by decide +kernel
theorem dX4_theirsFor_69 : decode cX4_theirsFor 69 = .ok (.iinc 3 (-1), 3) := by decide +kernel
theorem dX4_theirsFor_72 : decode cX4_theirsFor 72 = .ok (.goto (-30), 3) := by decide +kernel
theorem dX4_theirsFor_75 : decode cX4_theirsFor 75 = .ok (.iconst 0, 1) := by decide +kernel
theorem dX4_theirsFor_76 : decode cX4_theirsFor 76 = .ok (.ireturn, 1) := by decide +kernel
theorem dX4_two_0 : decode cX4_two 0 = .ok (.iload_n 1, 1) := by decide +kernel
theorem dX4_two_1 : decode cX4_two 1 = .ok (.invokestatic 131, 3) := by decide +kernel
theorem dX4_two_4 : decode cX4_two 4 = .ok (.ifCond .eq 21, 3) := by decide +kernel
theorem dX4_two_7 : decode cX4_two 7 = .ok (.iload_n 2, 1) := by decide +kernel
theorem dX4_two_8 : decode cX4_two 8 = .ok (.invokestatic 131, 3) := by decide +kernel
theorem dX4_two_11 : decode cX4_two 11 = .ok (.ifCond .eq 14, 3) := by decide +kernel
theorem dX4_two_14 : decode cX4_two 14 = .ok (.iload_n 3, 1) := by decide +kernel
theorem dX4_two_15 : decode cX4_two 15 = .ok (.iconst 0, 1) := by decide +kernel
theorem dX4_two_16 : decode cX4_two 16 = .ok (.sipush 600, 3) := by decide +kernel
theorem dX4_two_19 : decode cX4_two 19 = .ok (.invokestatic 58, 3) := by decide +kernel
theorem dX4_two_22 : decode cX4_two 22 = .ok (.ifCond .ne 10, 3) := by decide +kernel
theorem dX4_two_25 : decode cX4_two 25 = .ok (.aload_n 0, 1) := by decide +kernel
theorem dX4_two_26 : decode cX4_two 26 = .ok (.bipush (-2), 2) := by decide +kernel
theorem dX4_two_28 : decode cX4_two 28 = .ok (.invokevirtual 250, 3) := by decide +kernel
theorem dX4_two_31 : decode cX4_two 31 = .ok (.ireturn, 1) := by decide +kernel
theorem dX4_two_32 : decode cX4_two 32 = .ok (.aload_n 0, 1) := by decide +kernel
theorem dX4_two_33 : decode cX4_two 33 = .ok (.getfield 10, 3) := by decide +kernel
theorem dX4_two_36 : decode cX4_two 36 = .ok (.iload_n 1, 1) := by decide +kernel
theorem dX4_two_37 : decode cX4_two 37 = .ok (.invokevirtual 208, 3) := by decide +kernel
theorem dX4_two_40 : decode cX4_two 40 = .ok (.ifCond .eq 14, 3) := by decide +kernel
theorem dX4_two_43 : decode cX4_two 43 = .ok (.aload_n 0, 1) := by decide +kernel
theorem dX4_two_44 : decode cX4_two 44 = .ok (.getfield 10, 3) := by decide +kernel
theorem dX4_two_47 : decode cX4_two 47 = .ok (.iload_n 2, 1) := by decide +kernel
theorem dX4_two_48 : decode cX4_two 48 = .ok (.invokevirtual 208, 3) := by decide +kernel
theorem dX4_two_51 : decode cX4_two 51 = .ok (.ifCond .ne 10, 3) := by decide +kernel
theorem dX4_two_54 : decode cX4_two 54 = .ok (.aload_n 0, 1) := by decide +kernel
theorem dX4_two_55 : decode cX4_two 55 = .ok (.bipush (-5), 2) := by decide +kernel
theorem dX4_two_57 : decode cX4_two 57 = .ok (.invokevirtual 250, 3) := by decide +kernel
theorem dX4_two_60 : decode cX4_two 60 = .ok (.ireturn, 1) := by decide +kernel
theorem dX4_two_61 : decode cX4_two 61 = .ok (.aload_n 0, 1) := by decide +kernel
theorem dX4_two_62 : decode cX4_two 62 = .ok (.getfield 16, 3) := by decide +kernel
theorem dX4_two_65 : decode cX4_two 65 = .ok (.aload_n 0, 1) := by decide +kernel
theorem dX4_two_66 : decode cX4_two 66 = .ok (.getfield 10, 3) := by decide +kernel
theorem dX4_two_69 : decode cX4_two 69 = .ok (.invokevirtual 161, 3) := by decide +kernel
theorem dX4_two_72 : decode cX4_two 72 = .ok (.aload_n 0, 1) := by decide +kernel
theorem dX4_two_73 : decode cX4_two 73 = .ok (.getfield 16, 3) := by decide +kernel
theorem dX4_two_76 : decode cX4_two 76 = .ok (.aload_n 0, 1) := by decide +kernel
theorem dX4_two_77 : decode cX4_two 77 = .ok (.getfield 16, 3) := by decide +kernel
theorem dX4_two_80 : decode cX4_two 80 = .ok (.getfield 142, 3) := by decide +kernel
theorem dX4_two_83 : decode cX4_two 83 = .ok (.iload_n 1, 1) := by decide +kernel
theorem dX4_two_84 : decode cX4_two 84 = .ok (.iaload, 1) := by decide +kernel
theorem dX4_two_85 : decode cX4_two 85 = .ok (.invokevirtual 256, 3) := by decide +kernel
theorem dX4_two_88 : decode cX4_two 88 = .ok (.aload_n 0, 1) := by decide +kernel
theorem dX4_two_89 : decode cX4_two 89 = .ok (.getfield 16, 3) := by decide +kernel
theorem dX4_two_92 : decode cX4_two 92 = .ok (.iload_n 3, 1) := by decide +kernel
theorem dX4_two_93 : decode cX4_two 93 = .ok (.invokevirtual 253, 3) := by decide +kernel
theorem dX4_two_96 : decode cX4_two 96 = .ok (.istore 4, 2) := by decide +kernel
theorem dX4_two_98 : decode cX4_two 98 = .ok (.aload_n 0, 1) := by decide +kernel
theorem dX4_two_99 : decode cX4_two 99 = .ok (.getfield 16, 3) := by decide +kernel
theorem dX4_two_102 : decode cX4_two 102 = .ok (.iload_n 2, 1) := by decide +kernel
theorem dX4_two_103 : decode cX4_two 103 = .ok (.invokevirtual 265, 3) := by decide +kernel
theorem dX4_two_106 : decode cX4_two 106 = .ok (.pop, 1) := by decide +kernel
theorem dX4_two_107 : decode cX4_two 107 = .ok (.iload 4, 2) := by decide +kernel
theorem dX4_two_109 : decode cX4_two 109 = .ok (.aload_n 0, 1) := by decide +kernel
theorem dX4_two_110 : decode cX4_two 110 = .ok (.getfield 16, 3) := by decide +kernel
theorem dX4_two_113 : decode cX4_two 113 = .ok (.iload_n 3, 1) := by decide +kernel
theorem dX4_two_114 : decode cX4_two 114 = .ok (.invokevirtual 253, 3) := by decide +kernel
theorem dX4_two_117 : decode cX4_two 117 = .ok (.iadd, 1) := by decide +kernel
theorem dX4_two_118 : decode cX4_two 118 = .ok (.ireturn, 1) := by decide +kernel
theorem dX4_shifts_0 : decode cX4_shifts 0 = .ok (.iload_n 1, 1) := by decide +kernel
theorem dX4_shifts_1 : decode cX4_shifts 1 = .ok (.iconst 5, 1) := by decide +kernel
theorem dX4_shifts_2 : decode cX4_shifts 2 = .ok (.bipush 99, 2) := by decide +kernel
theorem dX4_shifts_4 : decode cX4_shifts 4 = .ok (.invokestatic 58, 3) := by decide +kernel
theorem dX4_shifts_7 : decode cX4_shifts 7 = .ok (.ifCond .eq 14, 3) := by decide +kernel
theorem dX4_shifts_10 : decode cX4_shifts 10 = .ok (.iload_n 2, 1) := by decide +kernel
theorem dX4_shifts_11 : decode cX4_shifts 11 = .ok (.iconst 0, 1) := by decide +kernel
theorem dX4_shifts_12 : decode cX4_shifts 12 = .ok (.sipush 600, 3) := by decide +kernel
theorem dX4_shifts_15 : decode cX4_shifts 15 = .ok (.invokestatic 58, 3) := by decide +kernel
theorem dX4_shifts_18 : decode cX4_shifts 18 = .ok (.ifCond .ne 10, 3) := by decide +kernel
theorem dX4_shifts_21 : decode cX4_shifts 21 = .ok (.aload_n 0, 1) := by decide +kernel
theorem dX4_shifts_22 : decode cX4_shifts 22 = .ok (.bipush (-2), 2) := by decide +kernel
theorem dX4_shifts_24 : decode cX4_shifts 24 = .ok (.invokevirtual 250, 3) := by decide +kernel
theorem dX4_shifts_27 : decode cX4_shifts 27 = .ok (.ireturn, 1) := by decide +kernel
theorem dX4_shifts_28 : decode cX4_shifts 28 = .ok (.aload_n 0, 1) := by decide +kernel
theorem dX4_shifts_29 : decode cX4_shifts 29 = .ok (.getfield 10, 3) := by decide +kernel
theorem dX4_shifts_32 : decode cX4_shifts 32 = .ok (.invokevirtual 217, 3) := by decide +kernel
theorem dX4_shifts_35 : decode cX4_shifts 35 = .ok (.iconst (-1), 1) := by decide +kernel
theorem dX4_shifts_36 : decode cX4_shifts 36 = .ok (.if_icmp .ne 10, 3) := by decide +kernel
theorem dX4_shifts_39 : decode cX4_shifts 39 = .ok (.aload_n 0, 1) := by decide +kernel
theorem dX4_shifts_40 : decode cX4_shifts 40 = .ok (.bipush (-5), 2) := by decide +kernel
theorem dX4_shifts_42 : decode cX4_shifts 42 = .ok (.invokevirtual 250, 3) := by decide +kernel
theorem dX4_shifts_45 : decode cX4_shifts 45 = .ok (.ireturn, 1) := by decide +kernel
theorem dX4_shifts_46 : decode cX4_shifts 46 = .ok (.aload_n 0, 1) := by decide +kernel
theorem dX4_shifts_47 : decode cX4_shifts 47 = .ok (.iload_n 1, 1) := by decide +kernel
theorem dX4_shifts_48 : decode cX4_shifts 48 = .ok (.iload_n 2, 1) := by decide +kernel
theorem dX4_shifts_49 : decode cX4_shifts 49 = .ok (.invokevirtual 268, 3) := by decide +kernel
theorem dX4_shifts_52 : decode cX4_shifts 52 = .ok (.ireturn, 1) := by decide +kernel
theorem dX4_bestShift_0 : decode cX4_bestShift 0 = .ok (.iload_n 1, 1) := by decide +kernel
theorem dX4_bestShift_1 : decode cX4_bestShift 1 = .ok (.iconst 0, 1) := by decide +kernel
theorem dX4_bestShift_2 : decode cX4_bestShift 2 = .ok (.sipush 600, 3) := by decide +kernel
theorem dX4_bestShift_5 : decode cX4_bestShift 5 = .ok (.invokestatic 58, 3) := by decide +kernel
theorem dX4_bestShift_8 : decode cX4_bestShift 8 = .ok (.ifCond .ne 10, 3) := by decide +kernel
theorem dX4_bestShift_11 : decode cX4_bestShift 11 = .ok (.aload_n 0, 1) := by decide +kernel
theorem dX4_bestShift_12 : decode cX4_bestShift 12 = .ok (.bipush (-2), 2) := by decide +kernel
theorem dX4_bestShift_14 : decode cX4_bestShift 14 = .ok (.invokevirtual 62, 3) := by decide +kernel
theorem dX4_bestShift_17 : decode cX4_bestShift 17 = .ok (.ireturn, 1) := by decide +kernel
theorem dX4_bestShift_18 : decode cX4_bestShift 18 = .ok (.aload_n 0, 1) := by decide +kernel
theorem dX4_bestShift_19 : decode cX4_bestShift 19 = .ok (.getfield 10, 3) := by decide +kernel
theorem dX4_bestShift_22 : decode cX4_bestShift 22 = .ok (.invokevirtual 217, 3) := by decide +kernel
theorem dX4_bestShift_25 : decode cX4_bestShift 25 = .ok (.iconst (-1), 1) := by decide +kernel
theorem dX4_bestShift_26 : decode cX4_bestShift 26 = .ok (.if_icmp .ne 10, 3) := by decide +kernel
theorem dX4_bestShift_29 : decode cX4_bestShift 29 = .ok (.aload_n 0, 1) := by decide +kernel
theorem dX4_bestShift_30 : decode cX4_bestShift 30 = .ok (.bipush (-5), 2) := by decide +kernel
theorem dX4_bestShift_32 : decode cX4_bestShift 32 = .ok (.invokevirtual 62, 3) := by decide +kernel
theorem dX4_bestShift_35 : decode cX4_bestShift 35 = .ok (.ireturn, 1) := by decide +kernel
theorem dX4_bestShift_36 : decode cX4_bestShift 36 = .ok (.aload_n 0, 1) := by decide +kernel
theorem dX4_bestShift_37 : decode cX4_bestShift 37 = .ok (.getfield 45, 3) := by decide +kernel
theorem dX4_bestShift_40 : decode cX4_bestShift 40 = .ok (.invokevirtual 237, 3) := by decide +kernel
theorem dX4_bestShift_43 : decode cX4_bestShift 43 = .ok (.iconst 5, 1) := by decide +kernel
theorem dX4_bestShift_44 : decode cX4_bestShift 44 = .ok (.istore_n 2, 1) := by decide +kernel
theorem dX4_bestShift_45 : decode cX4_bestShift 45 = .ok (.iload_n 2, 1) := by decide +kernel
theorem dX4_bestShift_46 : decode cX4_bestShift 46 = .ok (.bipush 99, 2) := by decide +kernel
theorem dX4_bestShift_48 : decode cX4_bestShift 48 = .ok (.if_icmp .gt 23, 3) := by decide +kernel
theorem dX4_bestShift_51 : decode cX4_bestShift 51 = .ok (.aload_n 0, 1) := by decide +kernel
theorem dX4_bestShift_52 : decode cX4_bestShift 52 = .ok (.getfield 45, 3) := by decide +kernel
theorem dX4_bestShift_55 : decode cX4_bestShift 55 = .ok (.iload_n 2, 1) := by decide +kernel
theorem dX4_bestShift_56 : decode cX4_bestShift 56 = .ok (.aload_n 0, 1) := by decide +kernel
theorem dX4_bestShift_57 : decode cX4_bestShift 57 = .ok (.iload_n 2, 1) := by decide +kernel
theorem dX4_bestShift_58 : decode cX4_bestShift 58 = .ok (.iload_n 1, 1) := by decide +kernel
theorem dX4_bestShift_59 : decode cX4_bestShift 59 = .ok (.invokevirtual 268, 3) := by decide +kernel
theorem dX4_bestShift_62 : decode cX4_bestShift 62 = .ok (.invokevirtual 240, 3) := by decide +kernel
theorem dX4_bestShift_65 : decode cX4_bestShift 65 = .ok (.iinc 2 1, 3) := by decide +kernel
theorem dX4_bestShift_68 : decode cX4_bestShift 68 = .ok (.goto (-23), 3) := by decide +kernel
theorem dX4_bestShift_71 : decode cX4_bestShift 71 = .ok (.aload_n 0, 1) := by decide +kernel
theorem dX4_bestShift_72 : decode cX4_bestShift 72 = .ok (.getfield 45, 3) := by decide +kernel
theorem dX4_bestShift_75 : decode cX4_bestShift 75 = .ok (.getfield 243, 3) := by decide +kernel
theorem dX4_bestShift_78 : decode cX4_bestShift 78 = .ok (.ireturn, 1) := by decide +kernel
theorem dX4_changeNow_0 : decode cX4_changeNow 0 = .ok (.iload_n 1, 1) := by decide +kernel
theorem dX4_changeNow_1 : decode cX4_changeNow 1 = .ok (.invokestatic 131, 3) := by decide +kernel
theorem dX4_changeNow_4 : decode cX4_changeNow 4 = .ok (.ifCond .eq 14, 3) := by decide +kernel
theorem dX4_changeNow_7 : decode cX4_changeNow 7 = .ok (.iload_n 2, 1) := by decide +kernel
theorem dX4_changeNow_8 : decode cX4_changeNow 8 = .ok (.iconst 0, 1) := by decide +kernel
theorem dX4_changeNow_9 : decode cX4_changeNow 9 = .ok (.sipush 600, 3) := by decide +kernel
theorem dX4_changeNow_12 : decode cX4_changeNow 12 = .ok (.invokestatic 58, 3) := by decide +kernel
theorem dX4_changeNow_15 : decode cX4_changeNow 15 = .ok (.ifCond .ne 10, 3) := by decide +kernel
theorem dX4_changeNow_18 : decode cX4_changeNow 18 = .ok (.aload_n 0, 1) := by decide +kernel
theorem dX4_changeNow_19 : decode cX4_changeNow 19 = .ok (.bipush (-2), 2) := by decide +kernel
theorem dX4_changeNow_21 : decode cX4_changeNow 21 = .ok (.invokevirtual 250, 3) := by decide +kernel
theorem dX4_changeNow_24 : decode cX4_changeNow 24 = .ok (.ireturn, 1) := by decide +kernel
theorem dX4_changeNow_25 : decode cX4_changeNow 25 = .ok (.aload_n 0, 1) := by decide +kernel
theorem dX4_changeNow_26 : decode cX4_changeNow 26 = .ok (.getfield 10, 3) := by decide +kernel
theorem dX4_changeNow_29 : decode cX4_changeNow 29 = .ok (.iload_n 1, 1) := by decide +kernel
theorem dX4_changeNow_30 : decode cX4_changeNow 30 = .ok (.invokevirtual 208, 3) := by decide +kernel
theorem dX4_changeNow_33 : decode cX4_changeNow 33 = .ok (.ifCond .ne 10, 3) := by decide +kernel
theorem dX4_changeNow_36 : decode cX4_changeNow 36 = .ok (.aload_n 0, 1) := by decide +kernel
theorem dX4_changeNow_37 : decode cX4_changeNow 37 = .ok (.bipush (-5), 2) := by decide +kernel
theorem dX4_changeNow_39 : decode cX4_changeNow 39 = .ok (.invokevirtual 250, 3) := by decide +kernel
theorem dX4_changeNow_42 : decode cX4_changeNow 42 = .ok (.ireturn, 1) := by decide +kernel
theorem dX4_changeNow_43 : decode cX4_changeNow 43 = .ok (.aload_n 0, 1) := by decide +kernel
theorem dX4_changeNow_44 : decode cX4_changeNow 44 = .ok (.iload_n 1, 1) := by decide +kernel
theorem dX4_changeNow_45 : decode cX4_changeNow 45 = .ok (.iload_n 2, 1) := by decide +kernel
theorem dX4_changeNow_46 : decode cX4_changeNow 46 = .ok (.aload_n 0, 1) := by decide +kernel
theorem dX4_changeNow_47 : decode cX4_changeNow 47 = .ok (.getfield 10, 3) := by decide +kernel
theorem dX4_changeNow_50 : decode cX4_changeNow 50 = .ok (.getfield 145, 3) := by decide +kernel
theorem dX4_changeNow_53 : decode cX4_changeNow 53 = .ok (.invokevirtual 271, 3) := by decide +kernel
theorem dX4_changeNow_56 : decode cX4_changeNow 56 = .ok (.ireturn, 1) := by decide +kernel
theorem dX4_where_0 : decode cX4_where 0 = .ok (.iload_n 1, 1) := by decide +kernel
theorem dX4_where_1 : decode cX4_where 1 = .ok (.invokestatic 131, 3) := by decide +kernel
theorem dX4_where_4 : decode cX4_where 4 = .ok (.ifCond .eq 14, 3) := by decide +kernel
theorem dX4_where_7 : decode cX4_where 7 = .ok (.iload_n 2, 1) := by decide +kernel
theorem dX4_where_8 : decode cX4_where 8 = .ok (.iconst 0, 1) := by decide +kernel
theorem dX4_where_9 : decode cX4_where 9 = .ok (.sipush 600, 3) := by decide +kernel
theorem dX4_where_12 : decode cX4_where 12 = .ok (.invokestatic 58, 3) := by decide +kernel
theorem dX4_where_15 : decode cX4_where 15 = .ok (.ifCond .ne 10, 3) := by decide +kernel
theorem dX4_where_18 : decode cX4_where 18 = .ok (.aload_n 0, 1) := by decide +kernel
theorem dX4_where_19 : decode cX4_where 19 = .ok (.bipush (-2), 2) := by decide +kernel
theorem dX4_where_21 : decode cX4_where 21 = .ok (.invokevirtual 62, 3) := by decide +kernel
theorem dX4_where_24 : decode cX4_where 24 = .ok (.ireturn, 1) := by decide +kernel
theorem dX4_where_25 : decode cX4_where 25 = .ok (.aload_n 0, 1) := by decide +kernel
theorem dX4_where_26 : decode cX4_where 26 = .ok (.getfield 10, 3) := by decide +kernel
theorem dX4_where_29 : decode cX4_where 29 = .ok (.iload_n 1, 1) := by decide +kernel
theorem dX4_where_30 : decode cX4_where 30 = .ok (.invokevirtual 208, 3) := by decide +kernel
theorem dX4_where_33 : decode cX4_where 33 = .ok (.ifCond .ne 10, 3) := by decide +kernel
theorem dX4_where_36 : decode cX4_where 36 = .ok (.aload_n 0, 1) := by decide +kernel
theorem dX4_where_37 : decode cX4_where 37 = .ok (.bipush (-5), 2) := by decide +kernel
theorem dX4_where_39 : decode cX4_where 39 = .ok (.invokevirtual 62, 3) := by decide +kernel
theorem dX4_where_42 : decode cX4_where 42 = .ok (.ireturn, 1) := by decide +kernel
theorem dX4_where_43 : decode cX4_where 43 = .ok (.aload_n 0, 1) := by decide +kernel
theorem dX4_where_44 : decode cX4_where 44 = .ok (.getfield 45, 3) := by decide +kernel
theorem dX4_where_47 : decode cX4_where 47 = .ok (.invokevirtual 237, 3) := by decide +kernel
theorem dX4_where_50 : decode cX4_where 50 = .ok (.iconst 0, 1) := by decide +kernel
theorem dX4_where_51 : decode cX4_where 51 = .ok (.istore_n 3, 1) := by decide +kernel
theorem dX4_where_52 : decode cX4_where 52 = .ok (.iload_n 3, 1) := by decide +kernel
theorem dX4_where_53 : decode cX4_where 53 = .ok (.iconst 3, 1) := by decide +kernel
theorem dX4_where_54 : decode cX4_where 54 = .ok (.if_icmp .ge 24, 3) := by decide +kernel
theorem dX4_where_57 : decode cX4_where 57 = .ok (.aload_n 0, 1) := by decide +kernel
theorem dX4_where_58 : decode cX4_where 58 = .ok (.getfield 45, 3) := by decide +kernel
theorem dX4_where_61 : decode cX4_where 61 = .ok (.iload_n 3, 1) := by decide +kernel
theorem dX4_where_62 : decode cX4_where 62 = .ok (.aload_n 0, 1) := by decide +kernel
theorem dX4_where_63 : decode cX4_where 63 = .ok (.iload_n 1, 1) := by decide +kernel
theorem dX4_where_64 : decode cX4_where 64 = .ok (.iload_n 2, 1) := by decide +kernel
theorem dX4_where_65 : decode cX4_where 65 = .ok (.iload_n 3, 1) := by decide +kernel
theorem dX4_where_66 : decode cX4_where 66 = .ok (.invokevirtual 271, 3) := by decide +kernel
theorem dX4_where_69 : decode cX4_where 69 = .ok (.invokevirtual 240, 3) := by decide +kernel
theorem dX4_where_72 : decode cX4_where 72 = .ok (.iinc 3 1, 3) := by decide +kernel
theorem dX4_where_75 : decode cX4_where 75 = .ok (.goto (-23), 3) := by decide +kernel
theorem dX4_where_78 : decode cX4_where 78 = .ok (.aload_n 0, 1) := by decide +kernel
theorem dX4_where_79 : decode cX4_where 79 = .ok (.getfield 45, 3) := by decide +kernel
theorem dX4_where_82 : decode cX4_where 82 = .ok (.getfield 243, 3) := by decide +kernel
theorem dX4_where_85 : decode cX4_where 85 = .ok (.ireturn, 1) := by decide +kernel
theorem dX4_meets_0 : decode cX4_meets 0 = .ok (.iload_n 1, 1) := by decide +kernel
theorem dX4_meets_1 : decode cX4_meets 1 = .ok (.invokestatic 131, 3) := by decide +kernel
theorem dX4_meets_4 : decode cX4_meets 4 = .ok (.ifCond .eq 14, 3) := by decide +kernel
theorem dX4_meets_7 : decode cX4_meets 7 = .ok (.iload_n 2, 1) := by decide +kernel
theorem dX4_meets_8 : decode cX4_meets 8 = .ok (.iconst 1, 1) := by decide +kernel
theorem dX4_meets_9 : decode cX4_meets 9 = .ok (.sipush 999, 3) := by decide +kernel
theorem dX4_meets_12 : decode cX4_meets 12 = .ok (.invokestatic 58, 3) := by decide +kernel
theorem dX4_meets_15 : decode cX4_meets 15 = .ok (.ifCond .ne 10, 3) := by decide +kernel
theorem dX4_meets_18 : decode cX4_meets 18 = .ok (.aload_n 0, 1) := by decide +kernel
theorem dX4_meets_19 : decode cX4_meets 19 = .ok (.bipush (-2), 2) := by decide +kernel
theorem dX4_meets_21 : decode cX4_meets 21 = .ok (.invokevirtual 250, 3) := by decide +kernel
theorem dX4_meets_24 : decode cX4_meets 24 = .ok (.ireturn, 1) := by decide +kernel
theorem dX4_meets_25 : decode cX4_meets 25 = .ok (.aload_n 0, 1) := by decide +kernel
theorem dX4_meets_26 : decode cX4_meets 26 = .ok (.getfield 10, 3) := by decide +kernel
theorem dX4_meets_29 : decode cX4_meets 29 = .ok (.iload_n 1, 1) := by decide +kernel
theorem dX4_meets_30 : decode cX4_meets 30 = .ok (.invokevirtual 208, 3) := by decide +kernel
theorem dX4_meets_33 : decode cX4_meets 33 = .ok (.ifCond .ne 10, 3) := by decide +kernel
theorem dX4_meets_36 : decode cX4_meets 36 = .ok (.aload_n 0, 1) := by decide +kernel
theorem dX4_meets_37 : decode cX4_meets 37 = .ok (.bipush (-5), 2) := by decide +kernel
theorem dX4_meets_39 : decode cX4_meets 39 = .ok (.invokevirtual 250, 3) := by decide +kernel
theorem dX4_meets_42 : decode cX4_meets 42 = .ok (.ireturn, 1) := by decide +kernel
theorem dX4_meets_43 : decode cX4_meets 43 = .ok (.aload_n 0, 1) := by decide +kernel
theorem dX4_meets_44 : decode cX4_meets 44 = .ok (.iload_n 1, 1) := by decide +kernel
theorem dX4_meets_45 : decode cX4_meets 45 = .ok (.iload_n 2, 1) := by decide +kernel
theorem dX4_meets_46 : decode cX4_meets 46 = .ok (.invokevirtual 274, 3) := by decide +kernel
theorem dX4_meets_49 : decode cX4_meets 49 = .ok (.ireturn, 1) := by decide +kernel
theorem dX4_match_0 : decode cX4_match 0 = .ok (.iload_n 1, 1) := by decide +kernel
theorem dX4_match_1 : decode cX4_match 1 = .ok (.invokestatic 54, 3) := by decide +kernel
theorem dX4_match_4 : decode cX4_match 4 = .ok (.ifCond .eq 22, 3) := by decide +kernel
theorem dX4_match_7 : decode cX4_match 7 = .ok (.iload_n 2, 1) := by decide +kernel
theorem dX4_match_8 : decode cX4_match 8 = .ok (.iconst 1, 1) := by decide +kernel
theorem dX4_match_9 : decode cX4_match 9 = .ok (.bipush 40, 2) := by decide +kernel
theorem dX4_match_11 : decode cX4_match 11 = .ok (.invokestatic 58, 3) := by decide +kernel
theorem dX4_match_14 : decode cX4_match 14 = .ok (.ifCond .eq 12, 3) := by decide +kernel
theorem dX4_match_17 : decode cX4_match 17 = .ok (.iload_n 3, 1) := by decide +kernel
theorem dX4_match_18 : decode cX4_match 18 = .ok (.iconst 0, 1) := by decide +kernel
theorem dX4_match_19 : decode cX4_match 19 = .ok (.iconst 1, 1) := by decide +kernel
theorem dX4_match_20 : decode cX4_match 20 = .ok (.invokestatic 58, 3) := by decide +kernel
theorem dX4_match_23 : decode cX4_match 23 = .ok (.ifCond .ne 10, 3) := by decide +kernel
theorem dX4_match_26 : decode cX4_match 26 = .ok (.aload_n 0, 1) := by decide +kernel
theorem dX4_match_27 : decode cX4_match 27 = .ok (.bipush (-2), 2) := by decide +kernel
theorem dX4_match_29 : decode cX4_match 29 = .ok (.invokevirtual 250, 3) := by decide +kernel
theorem dX4_match_32 : decode cX4_match 32 = .ok (.ireturn, 1) := by decide +kernel
theorem dX4_match_33 : decode cX4_match 33 = .ok (.aload_n 0, 1) := by decide +kernel
theorem dX4_match_34 : decode cX4_match 34 = .ok (.getfield 34, 3) := by decide +kernel
theorem dX4_match_37 : decode cX4_match 37 = .ok (.iload_n 1, 1) := by decide +kernel
theorem dX4_match_38 : decode cX4_match 38 = .ok (.aaload, 1) := by decide +kernel
theorem dX4_match_39 : decode cX4_match 39 = .ok (.astore 4, 2) := by decide +kernel
theorem dX4_match_41 : decode cX4_match 41 = .ok (.aload 4, 2) := by decide +kernel
theorem dX4_match_43 : decode cX4_match 43 = .ok (.invokevirtual 70, 3) := by decide +kernel
theorem dX4_match_46 : decode cX4_match 46 = .ok (.ifCond .ne 13, 3) := by decide +kernel
theorem dX4_match_49 : decode cX4_match 49 = .ok (.aload_n 0, 1) := by decide +kernel
theorem dX4_match_50 : decode cX4_match 50 = .ok (.aload 4, 2) := by decide +kernel
theorem dX4_match_52 : decode cX4_match 52 = .ok (.invokevirtual 74, 3) := by decide +kernel
theorem dX4_match_55 : decode cX4_match 55 = .ok (.invokevirtual 250, 3) := by decide +kernel
theorem dX4_match_58 : decode cX4_match 58 = .ok (.ireturn, 1) := by decide +kernel
theorem dX4_match_59 : decode cX4_match 59 = .ok (.aload 4, 2) := by decide +kernel
theorem dX4_match_61 : decode cX4_match 61 = .ok (.iconst 0, 1) := by decide +kernel
theorem dX4_match_62 : decode cX4_match 62 = .ok (.iload_n 2, 1) := by decide +kernel
theorem dX4_match_63 : decode cX4_match 63 = .ok (.invokevirtual 92, 3) := by decide +kernel
theorem dX4_match_66 : decode cX4_match 66 = .ok (.ifCond .eq 16, 3) := by decide +kernel
theorem dX4_match_69 : decode cX4_match 69 = .ok (.aload 4, 2) := by decide +kernel
theorem dX4_match_71 : decode cX4_match 71 = .ok (.iload_n 2, 1) := by decide +kernel
theorem dX4_match_72 : decode cX4_match 72 = .ok (.lconst 1, 1) := by decide +kernel
theorem dX4_match_73 : decode cX4_match 73 = .ok (.ldc2_w 277, 3) := by decide +kernel
theorem dX4_match_76 : decode cX4_match 76 = .ok (.invokevirtual 279, 3) := by decide +kernel
theorem dX4_match_79 : decode cX4_match 79 = .ok (.ifCond .ne 10, 3) := by decide +kernel
theorem dX4_match_82 : decode cX4_match 82 = .ok (.aload_n 0, 1) := by decide +kernel
theorem dX4_match_83 : decode cX4_match 83 = .ok (.bipush (-2), 2) := by decide +kernel
theorem dX4_match_85 : decode cX4_match 85 = .ok (.invokevirtual 250, 3) := by decide +kernel
theorem dX4_match_88 : decode cX4_match 88 = .ok (.ireturn, 1) := by decide +kernel
theorem dX4_match_89 : decode cX4_match 89 = .ok (.aload_n 0, 1) := by decide +kernel
theorem dX4_match_90 : decode cX4_match 90 = .ok (.getfield 10, 3) := by decide +kernel
theorem dX4_match_93 : decode cX4_match 93 = .ok (.invokevirtual 217, 3) := by decide +kernel
theorem dX4_match_96 : decode cX4_match 96 = .ok (.iconst (-1), 1) := by decide +kernel
theorem dX4_match_97 : decode cX4_match 97 = .ok (.if_icmp .ne 10, 3) := by decide +kernel
theorem dX4_match_100 : decode cX4_match 100 = .ok (.aload_n 0, 1) := by decide +kernel
theorem dX4_match_101 : decode cX4_match 101 = .ok (.bipush (-5), 2) := by decide +kernel
theorem dX4_match_103 : decode cX4_match 103 = .ok (.invokevirtual 250, 3) := by decide +kernel
theorem dX4_match_106 : decode cX4_match 106 = .ok (.ireturn, 1) := by decide +kernel
theorem dX4_match_107 : decode cX4_match 107 = .ok (.aload 4, 2) := by decide +kernel
theorem dX4_match_109 : decode cX4_match 109 = .ok (.iload_n 2, 1) := by decide +kernel
theorem dX4_match_110 : decode cX4_match 110 = .ok (.invokevirtual 283, 3) := by decide +kernel
theorem dX4_match_113 : decode cX4_match 113 = .ok (.istore 5, 2) := by decide +kernel
theorem dX4_match_115 : decode cX4_match 115 = .ok (.aload_n 0, 1) := by decide +kernel
theorem dX4_match_116 : decode cX4_match 116 = .ok (.getfield 45, 3) := by decide +kernel
theorem dX4_match_119 : decode cX4_match 119 = .ok (.invokevirtual 237, 3) := by decide +kernel
theorem dX4_match_122 : decode cX4_match 122 = .ok (.iconst 0, 1) := by decide +kernel
theorem dX4_match_123 : decode cX4_match 123 = .ok (.istore 6, 2) := by decide +kernel
theorem dX4_match_125 : decode cX4_match 125 = .ok (.iload 6, 2) := by decide +kernel
theorem dX4_match_127 : decode cX4_match 127 = .ok (.iconst 4, 1) := by decide +kernel
theorem dX4_match_128 : decode cX4_match 128 = .ok (.if_icmp .ge 38, 3) := by decide +kernel
theorem dX4_match_131 : decode cX4_match 131 = .ok (.aload_n 0, 1) := by decide +kernel
theorem dX4_match_132 : decode cX4_match 132 = .ok (.getfield 10, 3) := by decide +kernel
theorem dX4_match_135 : decode cX4_match 135 = .ok (.iload 6, 2) := by decide +kernel
theorem dX4_match_137 : decode cX4_match 137 = .ok (.invokevirtual 208, 3) := by decide +kernel
theorem dX4_match_140 : decode cX4_match 140 = .ok (.ifCond .eq 20, 3) := by decide +kernel
theorem dX4_match_143 : decode cX4_match 143 = .ok (.aload_n 0, 1) := by decide +kernel
theorem dX4_match_144 : decode cX4_match 144 = .ok (.getfield 45, 3) := by decide +kernel
theorem dX4_match_147 : decode cX4_match 147 = .ok (.iload 6, 2) := by decide +kernel
theorem dX4_match_149 : decode cX4_match 149 = .ok (.aload_n 0, 1) := by decide +kernel
theorem dX4_match_150 : decode cX4_match 150 = .ok (.iload 6, 2) := by decide +kernel
theorem dX4_match_152 : decode cX4_match 152 = .ok (.iload 5, 2) := by decide +kernel
theorem dX4_match_154 : decode cX4_match 154 = .ok (.invokevirtual 274, 3) := by decide +kernel
theorem dX4_match_157 : decode cX4_match 157 = .ok (.invokevirtual 240, 3) := by decide +kernel
theorem dX4_match_160 : decode cX4_match 160 = .ok (.iinc 6 1, 3) := by decide +kernel
theorem dX4_match_163 : decode cX4_match 163 = .ok (.goto (-38), 3) := by decide +kernel
theorem dX4_match_166 : decode cX4_match 166 = .ok (.iload_n 3, 1) := by decide +kernel
theorem dX4_match_167 : decode cX4_match 167 = .ok (.ifCond .ne 13, 3) := by decide +kernel
theorem dX4_match_170 : decode cX4_match 170 = .ok (.aload_n 0, 1) := by decide +kernel
theorem dX4_match_171 : decode cX4_match 171 = .ok (.getfield 45, 3) := by decide +kernel
theorem dX4_match_174 : decode cX4_match 174 = .ok (.getfield 243, 3) := by decide +kernel
theorem dX4_match_177 : decode cX4_match 177 = .ok (.goto 10, 3) := by decide +kernel
theorem dX4_match_180 : decode cX4_match 180 = .ok (.aload_n 0, 1) := by decide +kernel
theorem dX4_match_181 : decode cX4_match 181 = .ok (.getfield 45, 3) := by decide +kernel
theorem dX4_match_184 : decode cX4_match 184 = .ok (.getfield 286, 3) := by decide +kernel
theorem dX4_match_187 : decode cX4_match 187 = .ok (.ireturn, 1) := by decide +kernel
theorem dX4_pull_0 : decode cX4_pull 0 = .ok (.iload_n 1, 1) := by decide +kernel
theorem dX4_pull_1 : decode cX4_pull 1 = .ok (.iconst 0, 1) := by decide +kernel
theorem dX4_pull_2 : decode cX4_pull 2 = .ok (.sipush 600, 3) := by decide +kernel
theorem dX4_pull_5 : decode cX4_pull 5 = .ok (.invokestatic 58, 3) := by decide +kernel
theorem dX4_pull_8 : decode cX4_pull 8 = .ok (.ifCond .eq 13, 3) := by decide +kernel
theorem dX4_pull_11 : decode cX4_pull 11 = .ok (.iload_n 2, 1) := by decide +kernel
theorem dX4_pull_12 : decode cX4_pull 12 = .ok (.iconst 0, 1) := by decide +kernel
theorem dX4_pull_13 : decode cX4_pull 13 = .ok (.bipush 100, 2) := by decide +kernel
theorem dX4_pull_15 : decode cX4_pull 15 = .ok (.invokestatic 58, 3) := by decide +kernel
theorem dX4_pull_18 : decode cX4_pull 18 = .ok (.ifCond .ne 10, 3) := by decide +kernel
theorem dX4_pull_21 : decode cX4_pull 21 = .ok (.aload_n 0, 1) := by decide +kernel
theorem dX4_pull_22 : decode cX4_pull 22 = .ok (.bipush (-2), 2) := by decide +kernel
theorem dX4_pull_24 : decode cX4_pull 24 = .ok (.invokevirtual 250, 3) := by decide +kernel
theorem dX4_pull_27 : decode cX4_pull 27 = .ok (.ireturn, 1) := by decide +kernel
theorem dX4_pull_28 : decode cX4_pull 28 = .ok (.aload_n 0, 1) := by decide +kernel
theorem dX4_pull_29 : decode cX4_pull 29 = .ok (.getfield 16, 3) := by decide +kernel
theorem dX4_pull_32 : decode cX4_pull 32 = .ok (.aload_n 0, 1) := by decide +kernel
theorem dX4_pull_33 : decode cX4_pull 33 = .ok (.getfield 10, 3) := by decide +kernel
theorem dX4_pull_36 : decode cX4_pull 36 = .ok (.invokevirtual 161, 3) := by decide +kernel
theorem dX4_pull_39 : decode cX4_pull 39 = .ok (.aload_n 0, 1) := by decide +kernel
theorem dX4_pull_40 : decode cX4_pull 40 = .ok (.getfield 16, 3) := by decide +kernel
theorem dX4_pull_43 : decode cX4_pull 43 = .ok (.iconst 1, 1) := by decide +kernel
theorem dX4_pull_44 : decode cX4_pull 44 = .ok (.putfield 154, 3) := by decide +kernel
theorem dX4_pull_47 : decode cX4_pull 47 = .ok (.aload_n 0, 1) := by decide +kernel
theorem dX4_pull_48 : decode cX4_pull 48 = .ok (.getfield 16, 3) := by decide +kernel
theorem dX4_pull_51 : decode cX4_pull 51 = .ok (.iload_n 1, 1) := by decide +kernel
theorem dX4_pull_52 : decode cX4_pull 52 = .ok (.invokevirtual 259, 3) := by decide +kernel
theorem dX4_pull_55 : decode cX4_pull 55 = .ok (.istore_n 3, 1) := by decide +kernel
theorem dX4_pull_56 : decode cX4_pull 56 = .ok (.aload_n 0, 1) := by decide +kernel
theorem dX4_pull_57 : decode cX4_pull 57 = .ok (.getfield 16, 3) := by decide +kernel
theorem dX4_pull_60 : decode cX4_pull 60 = .ok (.iload_n 1, 1) := by decide +kernel
theorem dX4_pull_61 : decode cX4_pull 61 = .ok (.invokevirtual 262, 3) := by decide +kernel
theorem dX4_pull_64 : decode cX4_pull 64 = .ok (.istore 4, 2) := by decide +kernel
theorem dX4_pull_66 : decode cX4_pull 66 = .ok (.aload_n 0, 1) := by decide +kernel
theorem dX4_pull_67 : decode cX4_pull 67 = .ok (.getfield 16, 3) := by decide +kernel
theorem dX4_pull_70 : decode cX4_pull 70 = .ok (.aload_n 0, 1) := by decide +kernel
theorem dX4_pull_71 : decode cX4_pull 71 = .ok (.getfield 10, 3) := by decide +kernel
theorem dX4_pull_74 : decode cX4_pull 74 = .ok (.invokevirtual 161, 3) := by decide +kernel
theorem dX4_pull_77 : decode cX4_pull 77 = .ok (.aload_n 0, 1) := by decide +kernel
theorem dX4_pull_78 : decode cX4_pull 78 = .ok (.getfield 16, 3) := by decide +kernel
theorem dX4_pull_81 : decode cX4_pull 81 = .ok (.iconst 0, 1) := by decide +kernel
theorem dX4_pull_82 : decode cX4_pull 82 = .ok (.putfield 154, 3) := by decide +kernel
theorem dX4_pull_85 : decode cX4_pull 85 = .ok (.aload_n 0, 1) := by decide +kernel
theorem dX4_pull_86 : decode cX4_pull 86 = .ok (.getfield 16, 3) := by decide +kernel
theorem dX4_pull_89 : decode cX4_pull 89 = .ok (.iload_n 1, 1) := by decide +kernel
theorem dX4_pull_90 : decode cX4_pull 90 = .ok (.invokevirtual 259, 3) := by decide +kernel
theorem dX4_pull_93 : decode cX4_pull 93 = .ok (.istore 5, 2) := by decide +kernel
theorem dX4_pull_95 : decode cX4_pull 95 = .ok (.aload_n 0, 1) := by decide +kernel
theorem dX4_pull_96 : decode cX4_pull 96 = .ok (.getfield 16, 3) := by decide +kernel
theorem dX4_pull_99 : decode cX4_pull 99 = .ok (.iload_n 1, 1) := by decide +kernel
theorem dX4_pull_100 : decode cX4_pull 100 = .ok (.invokevirtual 262, 3) := by decide +kernel
theorem dX4_pull_103 : decode cX4_pull 103 = .ok (.istore 6, 2) := by decide +kernel
theorem dX4_pull_105 : decode cX4_pull 105 = .ok (.iload 5, 2) := by decide +kernel
theorem dX4_pull_107 : decode cX4_pull 107 = .ok (.iload_n 3, 1) := by decide +kernel
theorem dX4_pull_108 : decode cX4_pull 108 = .ok (.isub, 1) := by decide +kernel
theorem dX4_pull_109 : decode cX4_pull 109 = .ok (.iload_n 2, 1) := by decide +kernel
theorem dX4_pull_110 : decode cX4_pull 110 = .ok (.iload 6, 2) := by decide +kernel
theorem dX4_pull_112 : decode cX4_pull 112 = .ok (.iload 4, 2) := by decide +kernel
theorem dX4_pull_114 : decode cX4_pull 114 = .ok (.isub, 1) := by decide +kernel
theorem dX4_pull_115 : decode cX4_pull 115 = .ok (.imul, 1) := by decide +kernel
theorem dX4_pull_116 : decode cX4_pull 116 = .ok (.bipush 100, 2) := by decide +kernel
theorem dX4_pull_118 : decode cX4_pull 118 = .ok (.idiv, 1) := by decide +kernel
theorem dX4_pull_119 : decode cX4_pull 119 = .ok (.isub, 1) := by decide +kernel
theorem dX4_pull_120 : decode cX4_pull 120 = .ok (.ireturn, 1) := by decide +kernel
theorem dX4_minutes_0 : decode cX4_minutes 0 = .ok (.iload_n 1, 1) := by decide +kernel
theorem dX4_minutes_1 : decode cX4_minutes 1 = .ok (.iconst (-1), 1) := by decide +kernel
theorem dX4_minutes_2 : decode cX4_minutes 2 = .ok (.if_icmp .eq 17, 3) := by decide +kernel
theorem dX4_minutes_5 : decode cX4_minutes 5 = .ok (.iload_n 1, 1) := by decide +kernel
theorem dX4_minutes_6 : decode cX4_minutes 6 = .ok (.invokestatic 131, 3) := by decide +kernel
theorem dX4_minutes_9 : decode cX4_minutes 9 = .ok (.ifCond .ne 10, 3) := by decide +kernel
theorem dX4_minutes_12 : decode cX4_minutes 12 = .ok (.aload_n 0, 1) := by decide +kernel
theorem dX4_minutes_13 : decode cX4_minutes 13 = .ok (.bipush (-2), 2) := by decide +kernel
theorem dX4_minutes_15 : decode cX4_minutes 15 = .ok (.invokevirtual 250, 3) := by decide +kernel
theorem dX4_minutes_18 : decode cX4_minutes 18 = .ok (.ireturn, 1) := by decide +kernel
theorem dX4_minutes_19 : decode cX4_minutes 19 = .ok (.aload_n 0, 1) := by decide +kernel
theorem dX4_minutes_20 : decode cX4_minutes 20 = .ok (.getfield 10, 3) := by decide +kernel
theorem dX4_minutes_23 : decode cX4_minutes 23 = .ok (.invokevirtual 217, 3) := by decide +kernel
theorem dX4_minutes_26 : decode cX4_minutes 26 = .ok (.iconst (-1), 1) := by decide +kernel
theorem dX4_minutes_27 : decode cX4_minutes 27 = .ok (.if_icmp .ne 10, 3) := by decide +kernel
theorem dX4_minutes_30 : decode cX4_minutes 30 = .ok (.aload_n 0, 1) := by decide +kernel
theorem dX4_minutes_31 : decode cX4_minutes 31 = .ok (.bipush (-5), 2) := by decide +kernel
theorem dX4_minutes_33 : decode cX4_minutes 33 = .ok (.invokevirtual 250, 3) := by decide +kernel
theorem dX4_minutes_36 : decode cX4_minutes 36 = .ok (.ireturn, 1) := by decide +kernel
theorem dX4_minutes_37 : decode cX4_minutes 37 = .ok (.aload_n 0, 1) := by decide +kernel
theorem dX4_minutes_38 : decode cX4_minutes 38 = .ok (.getfield 45, 3) := by decide +kernel
theorem dX4_minutes_41 : decode cX4_minutes 41 = .ok (.invokevirtual 237, 3) := by decide +kernel
theorem dX4_minutes_44 : decode cX4_minutes 44 = .ok (.iconst 0, 1) := by decide +kernel
theorem dX4_minutes_45 : decode cX4_minutes 45 = .ok (.istore_n 2, 1) := by decide +kernel
theorem dX4_minutes_46 : decode cX4_minutes 46 = .ok (.iload_n 2, 1) := by decide +kernel
theorem dX4_minutes_47 : decode cX4_minutes 47 = .ok (.sipush 729, 3) := by decide +kernel
theorem dX4_minutes_50 : decode cX4_minutes 50 = .ok (.if_icmp .ge 30, 3) := by decide +kernel
theorem dX4_minutes_53 : decode cX4_minutes 53 = .ok (.aload_n 0, 1) := by decide +kernel
theorem dX4_minutes_54 : decode cX4_minutes 54 = .ok (.iload_n 2, 1) := by decide +kernel
theorem dX4_minutes_55 : decode cX4_minutes 55 = .ok (.invokevirtual 289, 3) := by decide +kernel
theorem dX4_minutes_58 : decode cX4_minutes 58 = .ok (.ifCond .eq 16, 3) := by decide +kernel
theorem dX4_minutes_61 : decode cX4_minutes 61 = .ok (.aload_n 0, 1) := by decide +kernel
theorem dX4_minutes_62 : decode cX4_minutes 62 = .ok (.getfield 45, 3) := by decide +kernel
theorem dX4_minutes_65 : decode cX4_minutes 65 = .ok (.iload_n 2, 1) := by decide +kernel
theorem dX4_minutes_66 : decode cX4_minutes 66 = .ok (.aload_n 0, 1) := by decide +kernel
theorem dX4_minutes_67 : decode cX4_minutes 67 = .ok (.iload_n 2, 1) := by decide +kernel
theorem dX4_minutes_68 : decode cX4_minutes 68 = .ok (.invokevirtual 292, 3) := by decide +kernel
theorem dX4_minutes_71 : decode cX4_minutes 71 = .ok (.invokevirtual 240, 3) := by decide +kernel
theorem dX4_minutes_74 : decode cX4_minutes 74 = .ok (.iinc 2 1, 3) := by decide +kernel
theorem dX4_minutes_77 : decode cX4_minutes 77 = .ok (.goto (-31), 3) := by decide +kernel
theorem dX4_minutes_80 : decode cX4_minutes 80 = .ok (.iload_n 1, 1) := by decide +kernel
theorem dX4_minutes_81 : decode cX4_minutes 81 = .ok (.iconst (-1), 1) := by decide +kernel
theorem dX4_minutes_82 : decode cX4_minutes 82 = .ok (.if_icmp .ne 13, 3) := by decide +kernel
theorem dX4_minutes_85 : decode cX4_minutes 85 = .ok (.aload_n 0, 1) := by decide +kernel
theorem dX4_minutes_86 : decode cX4_minutes 86 = .ok (.getfield 45, 3) := by decide +kernel
theorem dX4_minutes_89 : decode cX4_minutes 89 = .ok (.getfield 286, 3) := by decide +kernel
theorem dX4_minutes_92 : decode cX4_minutes 92 = .ok (.goto 14, 3) := by decide +kernel
theorem dX4_minutes_95 : decode cX4_minutes 95 = .ok (.aload_n 0, 1) := by decide +kernel
theorem dX4_minutes_96 : decode cX4_minutes 96 = .ok (.getfield 45, 3) := by decide +kernel
theorem dX4_minutes_99 : decode cX4_minutes 99 = .ok (.getfield 243, 3) := by decide +kernel
theorem dX4_minutes_102 : decode cX4_minutes 102 = .ok (.iload_n 1, 1) := by decide +kernel
theorem dX4_minutes_103 : decode cX4_minutes 103 = .ok (.invokestatic 295, 3) := by decide +kernel
theorem dX4_minutes_106 : decode cX4_minutes 106 = .ok (.ireturn, 1) := by decide +kernel
theorem dX4_penalty_0 : decode cX4_penalty 0 = .ok (.iload_n 1, 1) := by decide +kernel
theorem dX4_penalty_1 : decode cX4_penalty 1 = .ok (.iconst (-1), 1) := by decide +kernel
theorem dX4_penalty_2 : decode cX4_penalty 2 = .ok (.if_icmp .eq 21, 3) := by decide +kernel
theorem dX4_penalty_5 : decode cX4_penalty 5 = .ok (.iload_n 1, 1) := by decide +kernel
theorem dX4_penalty_6 : decode cX4_penalty 6 = .ok (.iconst 0, 1) := by decide +kernel
theorem dX4_penalty_7 : decode cX4_penalty 7 = .ok (.sipush 600, 3) := by decide +kernel
theorem dX4_penalty_10 : decode cX4_penalty 10 = .ok (.invokestatic 58, 3) := by decide +kernel
theorem dX4_penalty_13 : decode cX4_penalty 13 = .ok (.ifCond .ne 10, 3) := by decide +kernel
theorem dX4_penalty_16 : decode cX4_penalty 16 = .ok (.aload_n 0, 1) := by decide +kernel
theorem dX4_penalty_17 : decode cX4_penalty 17 = .ok (.bipush (-2), 2) := by decide +kernel
theorem dX4_penalty_19 : decode cX4_penalty 19 = .ok (.invokevirtual 250, 3) := by decide +kernel
theorem dX4_penalty_22 : decode cX4_penalty 22 = .ok (.ireturn, 1) := by decide +kernel
theorem dX4_penalty_23 : decode cX4_penalty 23 = .ok (.aload_n 0, 1) := by decide +kernel
theorem dX4_penalty_24 : decode cX4_penalty 24 = .ok (.getfield 10, 3) := by decide +kernel
theorem dX4_penalty_27 : decode cX4_penalty 27 = .ok (.getfield 175, 3) := by decide +kernel
theorem dX4_penalty_30 : decode cX4_penalty 30 = .ok (.ifCond .ne 10, 3) := by decide +kernel
theorem dX4_penalty_33 : decode cX4_penalty 33 = .ok (.aload_n 0, 1) := by decide +kernel
theorem dX4_penalty_34 : decode cX4_penalty 34 = .ok (.bipush (-5), 2) := by decide +kernel
theorem dX4_penalty_36 : decode cX4_penalty 36 = .ok (.invokevirtual 250, 3) := by decide +kernel
theorem dX4_penalty_39 : decode cX4_penalty 39 = .ok (.ireturn, 1) := by decide +kernel
theorem dX4_penalty_40 : decode cX4_penalty 40 = .ok (.aload_n 0, 1) := by decide +kernel
theorem dX4_penalty_41 : decode cX4_penalty 41 = .ok (.invokevirtual 298, 3) := by decide +kernel
theorem dX4_penalty_44 : decode cX4_penalty 44 = .ok (.istore_n 2, 1) := by decide +kernel
theorem dX4_penalty_45 : decode cX4_penalty 45 = .ok (.iload_n 1, 1) := by decide +kernel
theorem dX4_penalty_46 : decode cX4_penalty 46 = .ok (.iconst (-1), 1) := by decide +kernel
theorem dX4_penalty_47 : decode cX4_penalty 47 = .ok (.if_icmp .ne 5, 3) := by decide +kernel
theorem dX4_penalty_50 : decode cX4_penalty 50 = .ok (.iload_n 2, 1) := by decide +kernel
theorem dX4_penalty_51 : decode cX4_penalty 51 = .ok (.ireturn, 1) := by decide +kernel
theorem dX4_penalty_52 : decode cX4_penalty 52 = .ok (.aload_n 0, 1) := by decide +kernel
theorem dX4_penalty_53 : decode cX4_penalty 53 = .ok (.getfield 16, 3) := by decide +kernel
theorem dX4_penalty_56 : decode cX4_penalty 56 = .ok (.aload_n 0, 1) := by decide +kernel
theorem dX4_penalty_57 : decode cX4_penalty 57 = .ok (.getfield 10, 3) := by decide +kernel
theorem dX4_penalty_60 : decode cX4_penalty 60 = .ok (.invokevirtual 161, 3) := by decide +kernel
theorem dX4_penalty_63 : decode cX4_penalty 63 = .ok (.aload_n 0, 1) := by decide +kernel
theorem dX4_penalty_64 : decode cX4_penalty 64 = .ok (.getfield 16, 3) := by decide +kernel
theorem dX4_penalty_67 : decode cX4_penalty 67 = .ok (.iload_n 2, 1) := by decide +kernel
theorem dX4_penalty_68 : decode cX4_penalty 68 = .ok (.invokevirtual 301, 3) := by decide +kernel
theorem dX4_penalty_71 : decode cX4_penalty 71 = .ok (.aload_n 0, 1) := by decide +kernel
theorem dX4_penalty_72 : decode cX4_penalty 72 = .ok (.getfield 16, 3) := by decide +kernel
theorem dX4_penalty_75 : decode cX4_penalty 75 = .ok (.iload_n 1, 1) := by decide +kernel
theorem dX4_penalty_76 : decode cX4_penalty 76 = .ok (.invokevirtual 253, 3) := by decide +kernel
theorem dX4_penalty_79 : decode cX4_penalty 79 = .ok (.ireturn, 1) := by decide +kernel
theorem dX4_judge_0 : decode cX4_judge 0 = .ok (.iload_n 1, 1) := by decide +kernel
theorem dX4_judge_1 : decode cX4_judge 1 = .ok (.invokestatic 54, 3) := by decide +kernel
theorem dX4_judge_4 : decode cX4_judge 4 = .ok (.ifCond .eq 13, 3) := by decide +kernel
theorem dX4_judge_7 : decode cX4_judge 7 = .ok (.iload_n 2, 1) := by decide +kernel
theorem dX4_judge_8 : decode cX4_judge 8 = .ok (.iconst 0, 1) := by decide +kernel
theorem dX4_judge_9 : decode cX4_judge 9 = .ok (.bipush 40, 2) := by decide +kernel
theorem dX4_judge_11 : decode cX4_judge 11 = .ok (.invokestatic 58, 3) := by decide +kernel
theorem dX4_judge_14 : decode cX4_judge 14 = .ok (.ifCond .ne 10, 3) := by decide +kernel
theorem dX4_judge_17 : decode cX4_judge 17 = .ok (.aload_n 0, 1) := by decide +kernel
theorem dX4_judge_18 : decode cX4_judge 18 = .ok (.bipush (-2), 2) := by decide +kernel
theorem dX4_judge_20 : decode cX4_judge 20 = .ok (.invokevirtual 62, 3) := by decide +kernel
theorem dX4_judge_23 : decode cX4_judge 23 = .ok (.ireturn, 1) := by decide +kernel
theorem dX4_judge_24 : decode cX4_judge 24 = .ok (.aload_n 0, 1) := by decide +kernel
theorem dX4_judge_25 : decode cX4_judge 25 = .ok (.getfield 34, 3) := by decide +kernel
theorem dX4_judge_28 : decode cX4_judge 28 = .ok (.iload_n 1, 1) := by decide +kernel
theorem dX4_judge_29 : decode cX4_judge 29 = .ok (.aaload, 1) := by decide +kernel
theorem dX4_judge_30 : decode cX4_judge 30 = .ok (.astore_n 3, 1) := by decide +kernel
theorem dX4_judge_31 : decode cX4_judge 31 = .ok (.aload_n 3, 1) := by decide +kernel
theorem dX4_judge_32 : decode cX4_judge 32 = .ok (.invokevirtual 70, 3) := by decide +kernel
theorem dX4_judge_35 : decode cX4_judge 35 = .ok (.ifCond .ne 12, 3) := by decide +kernel
theorem dX4_judge_38 : decode cX4_judge 38 = .ok (.aload_n 0, 1) := by decide +kernel
theorem dX4_judge_39 : decode cX4_judge 39 = .ok (.aload_n 3, 1) := by decide +kernel
theorem dX4_judge_40 : decode cX4_judge 40 = .ok (.invokevirtual 74, 3) := by decide +kernel
theorem dX4_judge_43 : decode cX4_judge 43 = .ok (.invokevirtual 62, 3) := by decide +kernel
theorem dX4_judge_46 : decode cX4_judge 46 = .ok (.ireturn, 1) := by decide +kernel
theorem dX4_judge_47 : decode cX4_judge 47 = .ok (.aload_n 3, 1) := by decide +kernel
theorem dX4_judge_48 : decode cX4_judge 48 = .ok (.iconst 0, 1) := by decide +kernel
theorem dX4_judge_49 : decode cX4_judge 49 = .ok (.iload_n 2, 1) := by decide +kernel
theorem dX4_judge_50 : decode cX4_judge 50 = .ok (.invokevirtual 92, 3) := by decide +kernel
theorem dX4_judge_53 : decode cX4_judge 53 = .ok (.ifCond .ne 10, 3) := by decide +kernel
theorem dX4_judge_56 : decode cX4_judge 56 = .ok (.aload_n 0, 1) := by decide +kernel
theorem dX4_judge_57 : decode cX4_judge 57 = .ok (.bipush (-2), 2) := by decide +kernel
theorem dX4_judge_59 : decode cX4_judge 59 = .ok (.invokevirtual 62, 3) := by decide +kernel
theorem dX4_judge_62 : decode cX4_judge 62 = .ok (.ireturn, 1) := by decide +kernel
theorem dX4_judge_63 : decode cX4_judge 63 = .ok (.aload_n 0, 1) := by decide +kernel
theorem dX4_judge_64 : decode cX4_judge 64 = .ok (.aload_n 3, 1) := by decide +kernel
theorem dX4_judge_65 : decode cX4_judge 65 = .ok (.iload_n 2, 1) := by decide +kernel
theorem dX4_judge_66 : decode cX4_judge 66 = .ok (.invokevirtual 304, 3) := by decide +kernel
theorem dX4_judge_69 : decode cX4_judge 69 = .ok (.ireturn, 1) := by decide +kernel
theorem dX4_booked_0 : decode cX4_booked 0 = .ok (.iload_n 1, 1) := by decide +kernel
theorem dX4_booked_1 : decode cX4_booked 1 = .ok (.invokestatic 54, 3) := by decide +kernel
theorem dX4_booked_4 : decode cX4_booked 4 = .ok (.ifCond .eq 38, 3) := by decide +kernel
theorem dX4_booked_7 : decode cX4_booked 7 = .ok (.iload_n 2, 1) := by decide +kernel
theorem dX4_booked_8 : decode cX4_booked 8 = .ok (.iconst 0, 1) := by decide +kernel
theorem dX4_booked_9 : decode cX4_booked 9 = .ok (.bipush 40, 2) := by decide +kernel
theorem dX4_booked_11 : decode cX4_booked 11 = .ok (.invokestatic 58, 3) := by decide +kernel
theorem dX4_booked_14 : decode cX4_booked 14 = .ok (.ifCond .eq 28, 3) := by decide +kernel
theorem dX4_booked_17 : decode cX4_booked 17 = .ok (.aload_n 0, 1) := by decide +kernel
theorem dX4_booked_18 : decode cX4_booked 18 = .ok (.getfield 10, 3) := by decide +kernel
theorem dX4_booked_21 : decode cX4_booked 21 = .ok (.iload_n 3, 1) := by decide +kernel
theorem dX4_booked_22 : decode cX4_booked 22 = .ok (.invokevirtual 106, 3) := by decide +kernel
theorem dX4_booked_25 : decode cX4_booked 25 = .ok (.ifCond .eq 17, 3) := by decide +kernel
theorem dX4_booked_28 : decode cX4_booked 28 = .ok (.iload 4, 2) := by decide +kernel
theorem dX4_booked_30 : decode cX4_booked 30 = .ok (.iconst 0, 1) := by decide +kernel
theorem dX4_booked_31 : decode cX4_booked 31 = .ok (.iconst 1, 1) := by decide +kernel
theorem dX4_booked_32 : decode cX4_booked 32 = .ok (.invokestatic 58, 3) := by decide +kernel
theorem dX4_booked_35 : decode cX4_booked 35 = .ok (.ifCond .eq 7, 3) := by decide +kernel
theorem dX4_booked_38 : decode cX4_booked 38 = .ok (.iconst 1, 1) := by decide +kernel
theorem dX4_booked_39 : decode cX4_booked 39 = .ok (.goto 4, 3) := by decide +kernel
theorem dX4_booked_42 : decode cX4_booked 42 = .ok (.iconst 0, 1) := by decide +kernel
theorem dX4_booked_43 : decode cX4_booked 43 = .ok (.istore 5, 2) := by decide +kernel
theorem dX4_booked_45 : decode cX4_booked 45 = .ok (.iload 5, 2) := by decide +kernel
theorem dX4_booked_47 : decode cX4_booked 47 = .ok (.ifCond .ne 10, 3) := by decide +kernel
theorem dX4_booked_50 : decode cX4_booked 50 = .ok (.aload_n 0, 1) := by decide +kernel
theorem dX4_booked_51 : decode cX4_booked 51 = .ok (.bipush (-2), 2) := by decide +kernel
theorem dX4_booked_53 : decode cX4_booked 53 = .ok (.invokevirtual 62, 3) := by decide +kernel
theorem dX4_booked_56 : decode cX4_booked 56 = .ok (.ireturn, 1) := by decide +kernel
theorem dX4_booked_57 : decode cX4_booked 57 = .ok (.aload_n 0, 1) := by decide +kernel
theorem dX4_booked_58 : decode cX4_booked 58 = .ok (.getfield 34, 3) := by decide +kernel
theorem dX4_booked_61 : decode cX4_booked 61 = .ok (.iload_n 1, 1) := by decide +kernel
theorem dX4_booked_62 : decode cX4_booked 62 = .ok (.aaload, 1) := by decide +kernel
theorem dX4_booked_63 : decode cX4_booked 63 = .ok (.astore 6, 2) := by decide +kernel
theorem dX4_booked_65 : decode cX4_booked 65 = .ok (.aload 6, 2) := by decide +kernel
theorem dX4_booked_67 : decode cX4_booked 67 = .ok (.invokevirtual 70, 3) := by decide +kernel
theorem dX4_booked_70 : decode cX4_booked 70 = .ok (.ifCond .ne 13, 3) := by decide +kernel
theorem dX4_booked_73 : decode cX4_booked 73 = .ok (.aload_n 0, 1) := by decide +kernel
theorem dX4_booked_74 : decode cX4_booked 74 = .ok (.aload 6, 2) := by decide +kernel
theorem dX4_booked_76 : decode cX4_booked 76 = .ok (.invokevirtual 74, 3) := by decide +kernel
theorem dX4_booked_79 : decode cX4_booked 79 = .ok (.invokevirtual 62, 3) := by decide +kernel
theorem dX4_booked_82 : decode cX4_booked 82 = .ok (.ireturn, 1) := by decide +kernel
theorem dX4_booked_83 : decode cX4_booked 83 = .ok (.aload 6, 2) := by decide +kernel
theorem dX4_booked_85 : decode cX4_booked 85 = .ok (.iconst 0, 1) := by decide +kernel
theorem dX4_booked_86 : decode cX4_booked 86 = .ok (.iload_n 2, 1) := by decide +kernel
theorem dX4_booked_87 : decode cX4_booked 87 = .ok (.invokevirtual 92, 3) := by decide +kernel
theorem dX4_booked_90 : decode cX4_booked 90 = .ok (.ifCond .ne 10, 3) := by decide +kernel
theorem dX4_booked_93 : decode cX4_booked 93 = .ok (.aload_n 0, 1) := by decide +kernel
theorem dX4_booked_94 : decode cX4_booked 94 = .ok (.bipush (-2), 2) := by decide +kernel
theorem dX4_booked_96 : decode cX4_booked 96 = .ok (.invokevirtual 62, 3) := by decide +kernel
theorem dX4_booked_99 : decode cX4_booked 99 = .ok (.ireturn, 1) := by decide +kernel
theorem dX4_booked_100 : decode cX4_booked 100 = .ok (.aload_n 0, 1) := by decide +kernel
theorem dX4_booked_101 : decode cX4_booked 101 = .ok (.aload 6, 2) := by decide +kernel
theorem dX4_booked_103 : decode cX4_booked 103 = .ok (.iload_n 2, 1) := by decide +kernel
theorem dX4_booked_104 : decode cX4_booked 104 = .ok (.invokevirtual 304, 3) := by decide +kernel
theorem dX4_booked_107 : decode cX4_booked 107 = .ok (.iconst (-1), 1) := by decide +kernel
theorem dX4_booked_108 : decode cX4_booked 108 = .ok (.if_icmp .eq 10, 3) := by decide +kernel
theorem dX4_booked_111 : decode cX4_booked 111 = .ok (.aload_n 0, 1) := by decide +kernel
theorem dX4_booked_112 : decode cX4_booked 112 = .ok (.bipush (-5), 2) := by decide +kernel
theorem dX4_booked_114 : decode cX4_booked 114 = .ok (.invokevirtual 62, 3) := by decide +kernel
theorem dX4_booked_117 : decode cX4_booked 117 = .ok (.ireturn, 1) := by decide +kernel
theorem dX4_booked_118 : decode cX4_booked 118 = .ok (.iload 4, 2) := by decide +kernel
theorem dX4_booked_120 : decode cX4_booked 120 = .ok (.ifCond .ne 14, 3) := by decide +kernel
theorem dX4_booked_123 : decode cX4_booked 123 = .ok (.aload_n 0, 1) := by decide +kernel
theorem dX4_booked_124 : decode cX4_booked 124 = .ok (.aload 6, 2) := by decide +kernel
theorem dX4_booked_126 : decode cX4_booked 126 = .ok (.iload_n 2, 1) := by decide +kernel
theorem dX4_booked_127 : decode cX4_booked 127 = .ok (.iload_n 3, 1) := by decide +kernel
theorem dX4_booked_128 : decode cX4_booked 128 = .ok (.invokevirtual 308, 3) := by decide +kernel
theorem dX4_booked_131 : decode cX4_booked 131 = .ok (.goto 11, 3) := by decide +kernel
theorem dX4_booked_134 : decode cX4_booked 134 = .ok (.aload_n 0, 1) := by decide +kernel
theorem dX4_booked_135 : decode cX4_booked 135 = .ok (.aload 6, 2) := by decide +kernel
theorem dX4_booked_137 : decode cX4_booked 137 = .ok (.iload_n 2, 1) := by decide +kernel
theorem dX4_booked_138 : decode cX4_booked 138 = .ok (.iload_n 3, 1) := by decide +kernel
theorem dX4_booked_139 : decode cX4_booked 139 = .ok (.invokevirtual 312, 3) := by decide +kernel
theorem dX4_booked_142 : decode cX4_booked 142 = .ok (.ireturn, 1) := by decide +kernel
theorem dX4_whistle_0 : decode cX4_whistle 0 = .ok (.aload_n 0, 1) := by decide +kernel
theorem dX4_whistle_1 : decode cX4_whistle 1 = .ok (.getfield 10, 3) := by decide +kernel
theorem dX4_whistle_4 : decode cX4_whistle 4 = .ok (.iload_n 1, 1) := by decide +kernel
theorem dX4_whistle_5 : decode cX4_whistle 5 = .ok (.invokevirtual 208, 3) := by decide +kernel
theorem dX4_whistle_8 : decode cX4_whistle 8 = .ok (.ifCond .ne 13, 3) := by decide +kernel
theorem dX4_whistle_11 : decode cX4_whistle 11 = .ok (.aload_n 0, 1) := by decide +kernel
theorem dX4_whistle_12 : decode cX4_whistle 12 = .ok (.aload_n 0, 1) := by decide +kernel
theorem dX4_whistle_13 : decode cX4_whistle 13 = .ok (.iload_n 1, 1) := by decide +kernel
theorem dX4_whistle_14 : decode cX4_whistle 14 = .ok (.invokevirtual 211, 3) := by decide +kernel
theorem dX4_whistle_17 : decode cX4_whistle 17 = .ok (.invokevirtual 62, 3) := by decide +kernel
theorem dX4_whistle_20 : decode cX4_whistle 20 = .ok (.ireturn, 1) := by decide +kernel
theorem dX4_whistle_21 : decode cX4_whistle 21 = .ok (.aload_n 0, 1) := by decide +kernel
theorem dX4_whistle_22 : decode cX4_whistle 22 = .ok (.getfield 10, 3) := by decide +kernel
theorem dX4_whistle_25 : decode cX4_whistle 25 = .ok (.aload_n 0, 1) := by decide +kernel
theorem dX4_whistle_26 : decode cX4_whistle 26 = .ok (.getfield 10, 3) := by decide +kernel
theorem dX4_whistle_29 : decode cX4_whistle 29 = .ok (.getfield 142, 3) := by decide +kernel
theorem dX4_whistle_32 : decode cX4_whistle 32 = .ok (.iload_n 1, 1) := by decide +kernel
theorem dX4_whistle_33 : decode cX4_whistle 33 = .ok (.iaload, 1) := by decide +kernel
theorem dX4_whistle_34 : decode cX4_whistle 34 = .ok (.invokevirtual 256, 3) := by decide +kernel
theorem dX4_whistle_37 : decode cX4_whistle 37 = .ok (.aload_n 0, 1) := by decide +kernel
theorem dX4_whistle_38 : decode cX4_whistle 38 = .ok (.getfield 10, 3) := by decide +kernel
theorem dX4_whistle_41 : decode cX4_whistle 41 = .ok (.invokevirtual 199, 3) := by decide +kernel
theorem dX4_whistle_44 : decode cX4_whistle 44 = .ok (.ireturn, 1) := by decide +kernel
theorem dX4_change_0 : decode cX4_change 0 = .ok (.aload_n 0, 1) := by decide +kernel
theorem dX4_change_1 : decode cX4_change 1 = .ok (.getfield 10, 3) := by decide +kernel
theorem dX4_change_4 : decode cX4_change 4 = .ok (.iload_n 1, 1) := by decide +kernel
theorem dX4_change_5 : decode cX4_change 5 = .ok (.invokevirtual 208, 3) := by decide +kernel
theorem dX4_change_8 : decode cX4_change 8 = .ok (.ifCond .ne 13, 3) := by decide +kernel
theorem dX4_change_11 : decode cX4_change 11 = .ok (.aload_n 0, 1) := by decide +kernel
theorem dX4_change_12 : decode cX4_change 12 = .ok (.aload_n 0, 1) := by decide +kernel
theorem dX4_change_13 : decode cX4_change 13 = .ok (.iload_n 1, 1) := by decide +kernel
theorem dX4_change_14 : decode cX4_change 14 = .ok (.invokevirtual 211, 3) := by decide +kernel
theorem dX4_change_17 : decode cX4_change 17 = .ok (.invokevirtual 62, 3) := by decide +kernel
theorem dX4_change_20 : decode cX4_change 20 = .ok (.ireturn, 1) := by decide +kernel
theorem dX4_change_21 : decode cX4_change 21 = .ok (.aload_n 0, 1) := by decide +kernel
theorem dX4_change_22 : decode cX4_change 22 = .ok (.getfield 10, 3) := by decide +kernel
theorem dX4_change_25 : decode cX4_change 25 = .ok (.iload_n 1, 1) := by decide +kernel
theorem dX4_change_26 : decode cX4_change 26 = .ok (.invokevirtual 265, 3) := by decide +kernel
theorem dX4_change_29 : decode cX4_change 29 = .ok (.ireturn, 1) := by decide +kernel
theorem dX4_skate_0 : decode cX4_skate 0 = .ok (.iload_n 1, 1) := by decide +kernel
theorem dX4_skate_1 : decode cX4_skate 1 = .ok (.iconst 1, 1) := by decide +kernel
theorem dX4_skate_2 : decode cX4_skate 2 = .ok (.sipush 300, 3) := by decide +kernel
theorem dX4_skate_5 : decode cX4_skate 5 = .ok (.invokestatic 58, 3) := by decide +kernel
theorem dX4_skate_8 : decode cX4_skate 8 = .ok (.ifCond .ne 10, 3) := by decide +kernel
theorem dX4_skate_11 : decode cX4_skate 11 = .ok (.aload_n 0, 1) := by decide +kernel
theorem dX4_skate_12 : decode cX4_skate 12 = .ok (.bipush (-2), 2) := by decide +kernel
theorem dX4_skate_14 : decode cX4_skate 14 = .ok (.invokevirtual 62, 3) := by decide +kernel
theorem dX4_skate_17 : decode cX4_skate 17 = .ok (.ireturn, 1) := by decide +kernel
theorem dX4_skate_18 : decode cX4_skate 18 = .ok (.aload_n 0, 1) := by decide +kernel
theorem dX4_skate_19 : decode cX4_skate 19 = .ok (.getfield 10, 3) := by decide +kernel
theorem dX4_skate_22 : decode cX4_skate 22 = .ok (.iload_n 1, 1) := by decide +kernel
theorem dX4_skate_23 : decode cX4_skate 23 = .ok (.invokevirtual 315, 3) := by decide +kernel
theorem dX4_skate_26 : decode cX4_skate 26 = .ok (.ireturn, 1) := by decide +kernel
theorem dX4_game_0 : decode cX4_game 0 = .ok (.iload_n 1, 1) := by decide +kernel
theorem dX4_game_1 : decode cX4_game 1 = .ok (.iconst 1, 1) := by decide +kernel
theorem dX4_game_2 : decode cX4_game 2 = .ok (.bipush 20, 2) := by decide +kernel
theorem dX4_game_4 : decode cX4_game 4 = .ok (.invokestatic 58, 3) := by decide +kernel
theorem dX4_game_7 : decode cX4_game 7 = .ok (.ifCond .ne 10, 3) := by decide +kernel
theorem dX4_game_10 : decode cX4_game 10 = .ok (.aload_n 0, 1) := by decide +kernel
theorem dX4_game_11 : decode cX4_game 11 = .ok (.bipush (-2), 2) := by decide +kernel
theorem dX4_game_13 : decode cX4_game 13 = .ok (.invokevirtual 250, 3) := by decide +kernel
theorem dX4_game_16 : decode cX4_game 16 = .ok (.ireturn, 1) := by decide +kernel
theorem dX4_game_17 : decode cX4_game 17 = .ok (.aload_n 0, 1) := by decide +kernel
theorem dX4_game_18 : decode cX4_game 18 = .ok (.getfield 10, 3) := by decide +kernel
theorem dX4_game_21 : decode cX4_game 21 = .ok (.invokevirtual 217, 3) := by decide +kernel
theorem dX4_game_24 : decode cX4_game 24 = .ok (.iconst (-1), 1) := by decide +kernel
theorem dX4_game_25 : decode cX4_game 25 = .ok (.if_icmp .ne 10, 3) := by decide +kernel
theorem dX4_game_28 : decode cX4_game 28 = .ok (.aload_n 0, 1) := by decide +kernel
theorem dX4_game_29 : decode cX4_game 29 = .ok (.bipush (-5), 2) := by decide +kernel
theorem dX4_game_31 : decode cX4_game 31 = .ok (.invokevirtual 250, 3) := by decide +kernel
theorem dX4_game_34 : decode cX4_game 34 = .ok (.ireturn, 1) := by decide +kernel
theorem dX4_game_35 : decode cX4_game 35 = .ok (.aload_n 0, 1) := by decide +kernel
theorem dX4_game_36 : decode cX4_game 36 = .ok (.getfield 10, 3) := by decide +kernel
theorem dX4_game_39 : decode cX4_game 39 = .ok (.getfield 318, 3) := by decide +kernel
theorem dX4_game_42 : decode cX4_game 42 = .ok (.aload_n 0, 1) := by decide +kernel
theorem dX4_game_43 : decode cX4_game 43 = .ok (.getfield 10, 3) := by decide +kernel
theorem dX4_game_46 : decode cX4_game 46 = .ok (.getfield 321, 3) := by decide +kernel
theorem dX4_game_49 : decode cX4_game 49 = .ok (.isub, 1) := by decide +kernel
theorem dX4_game_50 : decode cX4_game 50 = .ok (.istore_n 2, 1) := by decide +kernel
theorem dX4_game_51 : decode cX4_game 51 = .ok (.iconst 0, 1) := by decide +kernel
theorem dX4_game_52 : decode cX4_game 52 = .ok (.istore_n 3, 1) := by decide +kernel
theorem dX4_game_53 : decode cX4_game 53 = .ok (.iload_n 3, 1) := by decide +kernel
theorem dX4_game_54 : decode cX4_game 54 = .ok (.iload_n 1, 1) := by decide +kernel
theorem dX4_game_55 : decode cX4_game 55 = .ok (.if_icmp .ge 49, 3) := by decide +kernel
theorem dX4_game_58 : decode cX4_game 58 = .ok (.aload_n 0, 1) := by decide +kernel
theorem dX4_game_59 : decode cX4_game 59 = .ok (.getfield 10, 3) := by decide +kernel
theorem dX4_game_62 : decode cX4_game 62 = .ok (.aload_n 0, 1) := by decide +kernel
theorem dX4_game_63 : decode cX4_game 63 = .ok (.getfield 10, 3) := by decide +kernel
theorem dX4_game_66 : decode cX4_game 66 = .ok (.iconst 3, 1) := by decide +kernel
theorem dX4_game_67 : decode cX4_game 67 = .ok (.invokevirtual 324, 3) := by decide +kernel
theorem dX4_game_70 : decode cX4_game 70 = .ok (.putfield 145, 3) := by decide +kernel
theorem dX4_game_73 : decode cX4_game 73 = .ok (.aload_n 0, 1) := by decide +kernel
theorem dX4_game_74 : decode cX4_game 74 = .ok (.getfield 10, 3) := by decide +kernel
theorem dX4_game_77 : decode cX4_game 77 = .ok (.aload_n 0, 1) := by decide +kernel
theorem dX4_game_78 : decode cX4_game 78 = .ok (.getfield 10, 3) := by decide +kernel
theorem dX4_game_81 : decode cX4_game 81 = .ok (.invokevirtual 220, 3) := by decide +kernel
theorem dX4_game_84 : decode cX4_game 84 = .ok (.invokevirtual 265, 3) := by decide +kernel
theorem dX4_game_87 : decode cX4_game 87 = .ok (.pop, 1) := by decide +kernel
theorem dX4_game_88 : decode cX4_game 88 = .ok (.aload_n 0, 1) := by decide +kernel
theorem dX4_game_89 : decode cX4_game 89 = .ok (.getfield 10, 3) := by decide +kernel
theorem dX4_game_92 : decode cX4_game 92 = .ok (.bipush 20, 2) := by decide +kernel
theorem dX4_game_94 : decode cX4_game 94 = .ok (.invokevirtual 315, 3) := by decide +kernel
theorem dX4_game_97 : decode cX4_game 97 = .ok (.pop, 1) := by decide +kernel
theorem dX4_game_98 : decode cX4_game 98 = .ok (.iinc 3 1, 3) := by decide +kernel
theorem dX4_game_101 : decode cX4_game 101 = .ok (.goto (-48), 3) := by decide +kernel
theorem dX4_game_104 : decode cX4_game 104 = .ok (.aload_n 0, 1) := by decide +kernel
theorem dX4_game_105 : decode cX4_game 105 = .ok (.getfield 10, 3) := by decide +kernel
theorem dX4_game_108 : decode cX4_game 108 = .ok (.getfield 318, 3) := by decide +kernel
theorem dX4_game_111 : decode cX4_game 111 = .ok (.aload_n 0, 1) := by decide +kernel
theorem dX4_game_112 : decode cX4_game 112 = .ok (.getfield 10, 3) := by decide +kernel
theorem dX4_game_115 : decode cX4_game 115 = .ok (.getfield 321, 3) := by decide +kernel
theorem dX4_game_118 : decode cX4_game 118 = .ok (.isub, 1) := by decide +kernel
theorem dX4_game_119 : decode cX4_game 119 = .ok (.iload_n 2, 1) := by decide +kernel
theorem dX4_game_120 : decode cX4_game 120 = .ok (.isub, 1) := by decide +kernel
theorem dX4_game_121 : decode cX4_game 121 = .ok (.ireturn, 1) := by decide +kernel
theorem dX4_pause_0 : decode cX4_pause 0 = .ok (.iload_n 1, 1) := by decide +kernel
theorem dX4_pause_1 : decode cX4_pause 1 = .ok (.iconst 1, 1) := by decide +kernel
theorem dX4_pause_2 : decode cX4_pause 2 = .ok (.bipush 100, 2) := by decide +kernel
theorem dX4_pause_4 : decode cX4_pause 4 = .ok (.invokestatic 58, 3) := by decide +kernel
theorem dX4_pause_7 : decode cX4_pause 7 = .ok (.ifCond .ne 10, 3) := by decide +kernel
theorem dX4_pause_10 : decode cX4_pause 10 = .ok (.aload_n 0, 1) := by decide +kernel
theorem dX4_pause_11 : decode cX4_pause 11 = .ok (.bipush (-2), 2) := by decide +kernel
theorem dX4_pause_13 : decode cX4_pause 13 = .ok (.invokevirtual 62, 3) := by decide +kernel
theorem dX4_pause_16 : decode cX4_pause 16 = .ok (.ireturn, 1) := by decide +kernel
theorem dX4_pause_17 : decode cX4_pause 17 = .ok (.iconst 0, 1) := by decide +kernel
theorem dX4_pause_18 : decode cX4_pause 18 = .ok (.istore_n 2, 1) := by decide +kernel
theorem dX4_pause_19 : decode cX4_pause 19 = .ok (.iconst 0, 1) := by decide +kernel
theorem dX4_pause_20 : decode cX4_pause 20 = .ok (.istore_n 3, 1) := by decide +kernel
theorem dX4_pause_21 : decode cX4_pause 21 = .ok (.iload_n 3, 1) := by decide +kernel
theorem dX4_pause_22 : decode cX4_pause 22 = .ok (.aload_n 0, 1) := by decide +kernel
theorem dX4_pause_23 : decode cX4_pause 23 = .ok (.getfield 10, 3) := by decide +kernel
theorem dX4_pause_26 : decode cX4_pause 26 = .ok (.getfield 229, 3) := by decide +kernel
theorem dX4_pause_29 : decode cX4_pause 29 = .ok (.if_icmp .ge 48, 3) := by decide +kernel
theorem dX4_pause_32 : decode cX4_pause 32 = .ok (.aload_n 0, 1) := by decide +kernel
theorem dX4_pause_33 : decode cX4_pause 33 = .ok (.getfield 10, 3) := by decide +kernel
theorem dX4_pause_36 : decode cX4_pause 36 = .ok (.getfield 128, 3) := by decide +kernel
theorem dX4_pause_39 : decode cX4_pause 39 = .ok (.iload_n 3, 1) := by decide +kernel
theorem dX4_pause_40 : decode cX4_pause 40 = .ok (.iconst 0, 1) := by decide +kernel
theorem dX4_pause_41 : decode cX4_pause 41 = .ok (.aload_n 0, 1) := by decide +kernel
theorem dX4_pause_42 : decode cX4_pause 42 = .ok (.getfield 10, 3) := by decide +kernel
theorem dX4_pause_45 : decode cX4_pause 45 = .ok (.getfield 128, 3) := by decide +kernel
theorem dX4_pause_48 : decode cX4_pause 48 = .ok (.iload_n 3, 1) := by decide +kernel
theorem dX4_pause_49 : decode cX4_pause 49 = .ok (.iaload, 1) := by decide +kernel
theorem dX4_pause_50 : decode cX4_pause 50 = .ok (.iload_n 1, 1) := by decide +kernel
theorem dX4_pause_51 : decode cX4_pause 51 = .ok (.isub, 1) := by decide +kernel
theorem dX4_pause_52 : decode cX4_pause 52 = .ok (.invokestatic 327, 3) := by decide +kernel
theorem dX4_pause_55 : decode cX4_pause 55 = .ok (.iastore, 1) := by decide +kernel
theorem dX4_pause_56 : decode cX4_pause 56 = .ok (.aload_n 0, 1) := by decide +kernel
theorem dX4_pause_57 : decode cX4_pause 57 = .ok (.getfield 10, 3) := by decide +kernel
theorem dX4_pause_60 : decode cX4_pause 60 = .ok (.getfield 128, 3) := by decide +kernel
theorem dX4_pause_63 : decode cX4_pause 63 = .ok (.iload_n 3, 1) := by decide +kernel
theorem dX4_pause_64 : decode cX4_pause 64 = .ok (.iaload, 1) := by decide +kernel
theorem dX4_pause_65 : decode cX4_pause 65 = .ok (.ifCond .le 6, 3) := by decide +kernel
theorem dX4_pause_68 : decode cX4_pause 68 = .ok (.iinc 2 1, 3) := by decide +kernel
theorem dX4_pause_71 : decode cX4_pause 71 = .ok (.iinc 3 1, 3) := by decide +kernel
theorem dX4_pause_74 : decode cX4_pause 74 = .ok (.goto (-53), 3) := by decide +kernel
theorem dX4_pause_77 : decode cX4_pause 77 = .ok (.iload_n 2, 1) := by decide +kernel
theorem dX4_pause_78 : decode cX4_pause 78 = .ok (.ireturn, 1) := by decide +kernel
theorem dX4_seed_0 : decode cX4_seed 0 = .ok (.aload_n 0, 1) := by decide +kernel
theorem dX4_seed_1 : decode cX4_seed 1 = .ok (.getfield 10, 3) := by decide +kernel
theorem dX4_seed_4 : decode cX4_seed 4 = .ok (.getfield 330, 3) := by decide +kernel
theorem dX4_seed_7 : decode cX4_seed 7 = .ok (.istore_n 2, 1) := by decide +kernel
theorem dX4_seed_8 : decode cX4_seed 8 = .ok (.aload_n 0, 1) := by decide +kernel
theorem dX4_seed_9 : decode cX4_seed 9 = .ok (.getfield 10, 3) := by decide +kernel
theorem dX4_seed_12 : decode cX4_seed 12 = .ok (.iload_n 1, 1) := by decide +kernel
theorem dX4_seed_13 : decode cX4_seed 13 = .ok (.putfield 330, 3) := by decide +kernel
theorem dX4_seed_16 : decode cX4_seed 16 = .ok (.iload_n 2, 1) := by decide +kernel
theorem dX4_seed_17 : decode cX4_seed 17 = .ok (.ireturn, 1) := by decide +kernel
theorem dX4_image_0 : decode cX4_image 0 = .ok (.aload_n 0, 1) := by decide +kernel
theorem dX4_image_1 : decode cX4_image 1 = .ok (.getfield 19, 3) := by decide +kernel
theorem dX4_image_4 : decode cX4_image 4 = .ok (.aload_n 0, 1) := by decide +kernel
theorem dX4_image_5 : decode cX4_image 5 = .ok (.getfield 10, 3) := by decide +kernel
theorem dX4_image_8 : decode cX4_image 8 = .ok (.invokevirtual 161, 3) := by decide +kernel
theorem dX4_image_11 : decode cX4_image 11 = .ok (.aload_n 0, 1) := by decide +kernel
theorem dX4_image_12 : decode cX4_image 12 = .ok (.iconst 1, 1) := by decide +kernel
theorem dX4_image_13 : decode cX4_image 13 = .ok (.putfield 49, 3) := by decide +kernel
theorem dX4_image_16 : decode cX4_image 16 = .ok (.iconst 1, 1) := by decide +kernel
theorem dX4_image_17 : decode cX4_image 17 = .ok (.ireturn, 1) := by decide +kernel
theorem dX4_back_0 : decode cX4_back 0 = .ok (.aload_n 0, 1) := by decide +kernel
theorem dX4_back_1 : decode cX4_back 1 = .ok (.getfield 49, 3) := by decide +kernel
theorem dX4_back_4 : decode cX4_back 4 = .ok (.ifCond .ne 10, 3) := by decide +kernel
theorem dX4_back_7 : decode cX4_back 7 = .ok (.aload_n 0, 1) := by decide +kernel
theorem dX4_back_8 : decode cX4_back 8 = .ok (.bipush (-5), 2) := by decide +kernel
theorem dX4_back_10 : decode cX4_back 10 = .ok (.invokevirtual 62, 3) := by decide +kernel
theorem dX4_back_13 : decode cX4_back 13 = .ok (.ireturn, 1) := by decide +kernel
theorem dX4_back_14 : decode cX4_back 14 = .ok (.aload_n 0, 1) := by decide +kernel
theorem dX4_back_15 : decode cX4_back 15 = .ok (.getfield 10, 3) := by decide +kernel
theorem dX4_back_18 : decode cX4_back 18 = .ok (.aload_n 0, 1) := by decide +kernel
theorem dX4_back_19 : decode cX4_back 19 = .ok (.getfield 19, 3) := by decide +kernel
theorem dX4_back_22 : decode cX4_back 22 = .ok (.invokevirtual 161, 3) := by decide +kernel
theorem dX4_back_25 : decode cX4_back 25 = .ok (.iconst 0, 1) := by decide +kernel
theorem dX4_back_26 : decode cX4_back 26 = .ok (.istore_n 1, 1) := by decide +kernel
theorem dX4_back_27 : decode cX4_back 27 = .ok (.iload_n 1, 1) := by decide +kernel
theorem dX4_back_28 : decode cX4_back 28 = .ok (.bipush 8, 2) := by decide +kernel
theorem dX4_back_30 : decode cX4_back 30 = .ok (.if_icmp .ge 53, 3) := by decide +kernel
theorem dX4_back_33 : decode cX4_back 33 = .ok (.aload_n 0, 1) := by decide +kernel
theorem dX4_back_34 : decode cX4_back 34 = .ok (.getfield 34, 3) := by decide +kernel
theorem dX4_back_37 : decode cX4_back 37 = .ok (.iload_n 1, 1) := by decide +kernel
theorem dX4_back_38 : decode cX4_back 38 = .ok (.aaload, 1) := by decide +kernel
theorem dX4_back_39 : decode cX4_back 39 = .ok (.invokevirtual 89, 3) := by decide +kernel
theorem dX4_back_42 : decode cX4_back 42 = .ok (.ifCond .eq 35, 3) := by decide +kernel
theorem dX4_back_45 : decode cX4_back 45 = .ok (.aload_n 0, 1) := by decide +kernel
theorem dX4_back_46 : decode cX4_back 46 = .ok (.getfield 10, 3) := by decide +kernel
theorem dX4_back_49 : decode cX4_back 49 = .ok (.aload_n 0, 1) := by decide +kernel
theorem dX4_back_50 : decode cX4_back 50 = .ok (.getfield 34, 3) := by decide +kernel
theorem dX4_back_53 : decode cX4_back 53 = .ok (.iload_n 1, 1) := by decide +kernel
theorem dX4_back_54 : decode cX4_back 54 = .ok (.aaload, 1) := by decide +kernel
theorem dX4_back_55 : decode cX4_back 55 = .ok (.getfield 86, 3) := by decide +kernel
theorem dX4_back_58 : decode cX4_back 58 = .ok (.bipush 10, 2) := by decide +kernel
theorem dX4_back_60 : decode cX4_back 60 = .ok (.isub, 1) := by decide +kernel
theorem dX4_back_61 : decode cX4_back 61 = .ok (.invokevirtual 106, 3) := by decide +kernel
theorem dX4_back_64 : decode cX4_back 64 = .ok (.ifCond .ne 13, 3) := by decide +kernel
theorem dX4_back_67 : decode cX4_back 67 = .ok (.aload_n 0, 1) := by decide +kernel
theorem dX4_back_68 : decode cX4_back 68 = .ok (.getfield 34, 3) := by decide +kernel
theorem dX4_back_71 : decode cX4_back 71 = .ok (.iload_n 1, 1) := by decide +kernel
theorem dX4_back_72 : decode cX4_back 72 = .ok (.aaload, 1) := by decide +kernel
theorem dX4_back_73 : decode cX4_back 73 = .ok (.iconst (-1), 1) := by decide +kernel
theorem dX4_back_74 : decode cX4_back 74 = .ok (.putfield 86, 3) := by decide +kernel
theorem dX4_back_77 : decode cX4_back 77 = .ok (.iinc 1 1, 3) := by decide +kernel
theorem dX4_back_80 : decode cX4_back 80 = .ok (.goto (-53), 3) := by decide +kernel
theorem dX4_back_83 : decode cX4_back 83 = .ok (.iconst 1, 1) := by decide +kernel
theorem dX4_back_84 : decode cX4_back 84 = .ok (.ireturn, 1) := by decide +kernel
theorem dX4_status_0 : decode cX4_status 0 = .ok (.iload_n 1, 1) := by decide +kernel
theorem dX4_status_1 : decode cX4_status 1 = .ok (.bipush 12, 2) := by decide +kernel
theorem dX4_status_3 : decode cX4_status 3 = .ok (.bipush 16, 2) := by decide +kernel
theorem dX4_status_5 : decode cX4_status 5 = .ok (.invokestatic 58, 3) := by decide +kernel
theorem dX4_status_8 : decode cX4_status 8 = .ok (.ifCond .eq 13, 3) := by decide +kernel
theorem dX4_status_11 : decode cX4_status 11 = .ok (.aload_n 0, 1) := by decide +kernel
theorem dX4_status_12 : decode cX4_status 12 = .ok (.getfield 38, 3) := by decide +kernel
theorem dX4_status_15 : decode cX4_status 15 = .ok (.iload_n 1, 1) := by decide +kernel
theorem dX4_status_16 : decode cX4_status 16 = .ok (.bipush 12, 2) := by decide +kernel
theorem dX4_status_18 : decode cX4_status 18 = .ok (.isub, 1) := by decide +kernel
theorem dX4_status_19 : decode cX4_status 19 = .ok (.iaload, 1) := by decide +kernel
theorem dX4_status_20 : decode cX4_status 20 = .ok (.ireturn, 1) := by decide +kernel
theorem dX4_status_21 : decode cX4_status 21 = .ok (.iload_n 1, 1) := by decide +kernel
theorem dX4_status_22 : decode cX4_status 22 = .ok (.tableswitch 211 0 19 #[94, 102, 110, 118, 126, 134, 142, 150, 158, 166, 174, 182, 211, 211, 211, 211, 211, 190, 198, 206], 94) := by decide +kernel
theorem dX4_status_116 : decode cX4_status 116 = .ok (.aload_n 0, 1) := by decide +kernel
theorem dX4_status_117 : decode cX4_status 117 = .ok (.getfield 10, 3) := by decide +kernel
theorem dX4_status_120 : decode cX4_status 120 = .ok (.getfield 229, 3) := by decide +kernel
theorem dX4_status_123 : decode cX4_status 123 = .ok (.ireturn, 1) := by decide +kernel
theorem dX4_status_124 : decode cX4_status 124 = .ok (.aload_n 0, 1) := by decide +kernel
theorem dX4_status_125 : decode cX4_status 125 = .ok (.getfield 10, 3) := by decide +kernel
theorem dX4_status_128 : decode cX4_status 128 = .ok (.getfield 175, 3) := by decide +kernel
theorem dX4_status_131 : decode cX4_status 131 = .ok (.ireturn, 1) := by decide +kernel
theorem dX4_status_132 : decode cX4_status 132 = .ok (.aload_n 0, 1) := by decide +kernel
theorem dX4_status_133 : decode cX4_status 133 = .ok (.getfield 10, 3) := by decide +kernel
theorem dX4_status_136 : decode cX4_status 136 = .ok (.getfield 181, 3) := by decide +kernel
theorem dX4_status_139 : decode cX4_status 139 = .ok (.ireturn, 1) := by decide +kernel
theorem dX4_status_140 : decode cX4_status 140 = .ok (.aload_n 0, 1) := by decide +kernel
theorem dX4_status_141 : decode cX4_status 141 = .ok (.getfield 10, 3) := by decide +kernel
theorem dX4_status_144 : decode cX4_status 144 = .ok (.getfield 333, 3) := by decide +kernel
theorem dX4_status_147 : decode cX4_status 147 = .ok (.ireturn, 1) := by decide +kernel
theorem dX4_status_148 : decode cX4_status 148 = .ok (.aload_n 0, 1) := by decide +kernel
theorem dX4_status_149 : decode cX4_status 149 = .ok (.getfield 10, 3) := by decide +kernel
theorem dX4_status_152 : decode cX4_status 152 = .ok (.getfield 145, 3) := by decide +kernel
theorem dX4_status_155 : decode cX4_status 155 = .ok (.ireturn, 1) := by decide +kernel
theorem dX4_status_156 : decode cX4_status 156 = .ok (.aload_n 0, 1) := by decide +kernel
theorem dX4_status_157 : decode cX4_status 157 = .ok (.getfield 10, 3) := by decide +kernel
theorem dX4_status_160 : decode cX4_status 160 = .ok (.getfield 148, 3) := by decide +kernel
theorem dX4_status_163 : decode cX4_status 163 = .ok (.ireturn, 1) := by decide +kernel
theorem dX4_status_164 : decode cX4_status 164 = .ok (.aload_n 0, 1) := by decide +kernel
theorem dX4_status_165 : decode cX4_status 165 = .ok (.getfield 10, 3) := by decide +kernel
theorem dX4_status_168 : decode cX4_status 168 = .ok (.getfield 151, 3) := by decide +kernel
theorem dX4_status_171 : decode cX4_status 171 = .ok (.ireturn, 1) := by decide +kernel
theorem dX4_status_172 : decode cX4_status 172 = .ok (.aload_n 0, 1) := by decide +kernel
theorem dX4_status_173 : decode cX4_status 173 = .ok (.getfield 10, 3) := by decide +kernel
theorem dX4_status_176 : decode cX4_status 176 = .ok (.getfield 154, 3) := by decide +kernel
theorem dX4_status_179 : decode cX4_status 179 = .ok (.ireturn, 1) := by decide +kernel
theorem dX4_status_180 : decode cX4_status 180 = .ok (.aload_n 0, 1) := by decide +kernel
theorem dX4_status_181 : decode cX4_status 181 = .ok (.getfield 10, 3) := by decide +kernel
theorem dX4_status_184 : decode cX4_status 184 = .ok (.getfield 336, 3) := by decide +kernel
theorem dX4_status_187 : decode cX4_status 187 = .ok (.ireturn, 1) := by decide +kernel
theorem dX4_status_188 : decode cX4_status 188 = .ok (.aload_n 0, 1) := by decide +kernel
theorem dX4_status_189 : decode cX4_status 189 = .ok (.getfield 10, 3) := by decide +kernel
theorem dX4_status_192 : decode cX4_status 192 = .ok (.getfield 339, 3) := by decide +kernel
theorem dX4_status_195 : decode cX4_status 195 = .ok (.ireturn, 1) := by decide +kernel
theorem dX4_status_196 : decode cX4_status 196 = .ok (.aload_n 0, 1) := by decide +kernel
theorem dX4_status_197 : decode cX4_status 197 = .ok (.getfield 10, 3) := by decide +kernel
theorem dX4_status_200 : decode cX4_status 200 = .ok (.getfield 318, 3) := by decide +kernel
theorem dX4_status_203 : decode cX4_status 203 = .ok (.ireturn, 1) := by decide +kernel
theorem dX4_status_204 : decode cX4_status 204 = .ok (.aload_n 0, 1) := by decide +kernel
theorem dX4_status_205 : decode cX4_status 205 = .ok (.getfield 10, 3) := by decide +kernel
theorem dX4_status_208 : decode cX4_status 208 = .ok (.getfield 321, 3) := by decide +kernel
theorem dX4_status_211 : decode cX4_status 211 = .ok (.ireturn, 1) := by decide +kernel
theorem dX4_status_212 : decode cX4_status 212 = .ok (.aload_n 0, 1) := by decide +kernel
theorem dX4_status_213 : decode cX4_status 213 = .ok (.getfield 28, 3) := by decide +kernel
theorem dX4_status_216 : decode cX4_status 216 = .ok (.getfield 157, 3) := by decide +kernel
theorem dX4_status_219 : decode cX4_status 219 = .ok (.ireturn, 1) := by decide +kernel
theorem dX4_status_220 : decode cX4_status 220 = .ok (.aload_n 0, 1) := by decide +kernel
theorem dX4_status_221 : decode cX4_status 221 = .ok (.getfield 10, 3) := by decide +kernel
theorem dX4_status_224 : decode cX4_status 224 = .ok (.getfield 330, 3) := by decide +kernel
theorem dX4_status_227 : decode cX4_status 227 = .ok (.ireturn, 1) := by decide +kernel
theorem dX4_status_228 : decode cX4_status 228 = .ok (.aload_n 0, 1) := by decide +kernel
theorem dX4_status_229 : decode cX4_status 229 = .ok (.invokevirtual 342, 3) := by decide +kernel
theorem dX4_status_232 : decode cX4_status 232 = .ok (.ireturn, 1) := by decide +kernel
theorem dX4_status_233 : decode cX4_status 233 = .ok (.iconst (-1), 1) := by decide +kernel
theorem dX4_status_234 : decode cX4_status 234 = .ok (.ireturn, 1) := by decide +kernel
theorem dX4_refuse_0 : decode cX4_refuse 0 = .ok (.bipush (-2), 2) := by decide +kernel
theorem dX4_refuse_2 : decode cX4_refuse 2 = .ok (.iload_n 1, 1) := by decide +kernel
theorem dX4_refuse_3 : decode cX4_refuse 3 = .ok (.isub, 1) := by decide +kernel
theorem dX4_refuse_4 : decode cX4_refuse 4 = .ok (.istore_n 2, 1) := by decide +kernel
theorem dX4_refuse_5 : decode cX4_refuse 5 = .ok (.iload_n 2, 1) := by decide +kernel
theorem dX4_refuse_6 : decode cX4_refuse 6 = .ok (.iconst 0, 1) := by decide +kernel
theorem dX4_refuse_7 : decode cX4_refuse 7 = .ok (.aload_n 0, 1) := by decide +kernel
theorem dX4_refuse_8 : decode cX4_refuse 8 = .ok (.getfield 38, 3) := by decide +kernel
theorem dX4_refuse_11 : decode cX4_refuse 11 = .ok (.arraylength, 1) := by decide +kernel
theorem dX4_refuse_12 : decode cX4_refuse 12 = .ok (.iconst 1, 1) := by decide +kernel
theorem dX4_refuse_13 : decode cX4_refuse 13 = .ok (.isub, 1) := by decide +kernel
theorem dX4_refuse_14 : decode cX4_refuse 14 = .ok (.invokestatic 58, 3) := by decide +kernel
theorem dX4_refuse_17 : decode cX4_refuse 17 = .ok (.ifCond .eq 13, 3) := by decide +kernel
theorem dX4_refuse_20 : decode cX4_refuse 20 = .ok (.aload_n 0, 1) := by decide +kernel
theorem dX4_refuse_21 : decode cX4_refuse 21 = .ok (.getfield 38, 3) := by decide +kernel
theorem dX4_refuse_24 : decode cX4_refuse 24 = .ok (.iload_n 2, 1) := by decide +kernel
theorem dX4_refuse_25 : decode cX4_refuse 25 = .ok (.dup2, 1) := by decide +kernel
theorem dX4_refuse_26 : decode cX4_refuse 26 = .ok (.iaload, 1) := by decide +kernel
theorem dX4_refuse_27 : decode cX4_refuse 27 = .ok (.iconst 1, 1) := by decide +kernel
theorem dX4_refuse_28 : decode cX4_refuse 28 = .ok (.iadd, 1) := by decide +kernel
theorem dX4_refuse_29 : decode cX4_refuse 29 = .ok (.iastore, 1) := by decide +kernel
theorem dX4_refuse_30 : decode cX4_refuse 30 = .ok (.iload_n 1, 1) := by decide +kernel
theorem dX4_refuse_31 : decode cX4_refuse 31 = .ok (.ireturn, 1) := by decide +kernel
theorem dX4_refuseGains_0 : decode cX4_refuseGains 0 = .ok (.ldc_w 345, 3) := by decide +kernel
theorem dX4_refuseGains_3 : decode cX4_refuseGains 3 = .ok (.aload_n 0, 1) := by decide +kernel
theorem dX4_refuseGains_4 : decode cX4_refuseGains 4 = .ok (.iload_n 1, 1) := by decide +kernel
theorem dX4_refuseGains_5 : decode cX4_refuseGains 5 = .ok (.invokevirtual 62, 3) := by decide +kernel
theorem dX4_refuseGains_8 : decode cX4_refuseGains 8 = .ok (.iadd, 1) := by decide +kernel
theorem dX4_refuseGains_9 : decode cX4_refuseGains 9 = .ok (.ireturn, 1) := by decide +kernel
theorem dX4_whyNoLine_0 : decode cX4_whyNoLine 0 = .ok (.iload_n 1, 1) := by decide +kernel
theorem dX4_whyNoLine_1 : decode cX4_whyNoLine 1 = .ok (.invokestatic 131, 3) := by decide +kernel
theorem dX4_whyNoLine_4 : decode cX4_whyNoLine 4 = .ok (.ifCond .eq 8, 3) := by decide +kernel
theorem dX4_whyNoLine_7 : decode cX4_whyNoLine 7 = .ok (.bipush (-5), 2) := by decide +kernel
theorem dX4_whyNoLine_9 : decode cX4_whyNoLine 9 = .ok (.goto 5, 3) := by decide +kernel
theorem dX4_whyNoLine_12 : decode cX4_whyNoLine 12 = .ok (.bipush (-2), 2) := by decide +kernel
theorem dX4_whyNoLine_14 : decode cX4_whyNoLine 14 = .ok (.ireturn, 1) := by decide +kernel
theorem dX4_fullShelves_0 : decode cX4_fullShelves 0 = .ok (.iconst 0, 1) := by decide +kernel
theorem dX4_fullShelves_1 : decode cX4_fullShelves 1 = .ok (.istore_n 1, 1) := by decide +kernel
theorem dX4_fullShelves_2 : decode cX4_fullShelves 2 = .ok (.iconst 0, 1) := by decide +kernel
theorem dX4_fullShelves_3 : decode cX4_fullShelves 3 = .ok (.istore_n 2, 1) := by decide +kernel
theorem dX4_fullShelves_4 : decode cX4_fullShelves 4 = .ok (.iload_n 2, 1) := by decide +kernel
theorem dX4_fullShelves_5 : decode cX4_fullShelves 5 = .ok (.bipush 8, 2) := by decide +kernel
theorem dX4_fullShelves_7 : decode cX4_fullShelves 7 = .ok (.if_icmp .ge 25, 3) := by decide +kernel
theorem dX4_fullShelves_10 : decode cX4_fullShelves 10 = .ok (.aload_n 0, 1) := by decide +kernel
theorem dX4_fullShelves_11 : decode cX4_fullShelves 11 = .ok (.getfield 34, 3) := by decide +kernel
theorem dX4_fullShelves_14 : decode cX4_fullShelves 14 = .ok (.iload_n 2, 1) := by decide +kernel
theorem dX4_fullShelves_15 : decode cX4_fullShelves 15 = .ok (.aaload, 1) := by decide +kernel
theorem dX4_fullShelves_16 : decode cX4_fullShelves 16 = .ok (.getfield 86, 3) := by decide +kernel
theorem dX4_fullShelves_19 : decode cX4_fullShelves 19 = .ok (.iconst (-1), 1) := by decide +kernel
theorem dX4_fullShelves_20 : decode cX4_fullShelves 20 = .ok (.if_icmp .eq 6, 3) := by decide +kernel
theorem dX4_fullShelves_23 : decode cX4_fullShelves 23 = .ok (.iinc 1 1, 3) := by decide +kernel
theorem dX4_fullShelves_26 : decode cX4_fullShelves 26 = .ok (.iinc 2 1, 3) := by decide +kernel
theorem dX4_fullShelves_29 : decode cX4_fullShelves 29 = .ok (.goto (-25), 3) := by decide +kernel
theorem dX4_fullShelves_32 : decode cX4_fullShelves 32 = .ok (.iload_n 1, 1) := by decide +kernel
theorem dX4_fullShelves_33 : decode cX4_fullShelves 33 = .ok (.ireturn, 1) := by decide +kernel
theorem dX4_powerWith_0 : decode cX4_powerWith 0 = .ok (.aload_n 0, 1) := by decide +kernel
theorem dX4_powerWith_1 : decode cX4_powerWith 1 = .ok (.getfield 16, 3) := by decide +kernel
theorem dX4_powerWith_4 : decode cX4_powerWith 4 = .ok (.aload_n 0, 1) := by decide +kernel
theorem dX4_powerWith_5 : decode cX4_powerWith 5 = .ok (.getfield 10, 3) := by decide +kernel
theorem dX4_powerWith_8 : decode cX4_powerWith 8 = .ok (.invokevirtual 161, 3) := by decide +kernel
theorem dX4_powerWith_11 : decode cX4_powerWith 11 = .ok (.aload_n 0, 1) := by decide +kernel
theorem dX4_powerWith_12 : decode cX4_powerWith 12 = .ok (.getfield 16, 3) := by decide +kernel
theorem dX4_powerWith_15 : decode cX4_powerWith 15 = .ok (.iload_n 1, 1) := by decide +kernel
theorem dX4_powerWith_16 : decode cX4_powerWith 16 = .ok (.invokevirtual 256, 3) := by decide +kernel
theorem dX4_powerWith_19 : decode cX4_powerWith 19 = .ok (.aload_n 0, 1) := by decide +kernel
theorem dX4_powerWith_20 : decode cX4_powerWith 20 = .ok (.getfield 16, 3) := by decide +kernel
theorem dX4_powerWith_23 : decode cX4_powerWith 23 = .ok (.invokevirtual 199, 3) := by decide +kernel
theorem dX4_powerWith_26 : decode cX4_powerWith 26 = .ok (.ireturn, 1) := by decide +kernel
theorem dX4_strongestLine_0 : decode cX4_strongestLine 0 = .ok (.aload_n 0, 1) := by decide +kernel
theorem dX4_strongestLine_1 : decode cX4_strongestLine 1 = .ok (.getfield 45, 3) := by decide +kernel
theorem dX4_strongestLine_4 : decode cX4_strongestLine 4 = .ok (.invokevirtual 237, 3) := by decide +kernel
theorem dX4_strongestLine_7 : decode cX4_strongestLine 7 = .ok (.iconst 0, 1) := by decide +kernel
theorem dX4_strongestLine_8 : decode cX4_strongestLine 8 = .ok (.istore_n 1, 1) := by decide +kernel
theorem dX4_strongestLine_9 : decode cX4_strongestLine 9 = .ok (.iload_n 1, 1) := by decide +kernel
theorem dX4_strongestLine_10 : decode cX4_strongestLine 10 = .ok (.iconst 4, 1) := by decide +kernel
theorem dX4_strongestLine_11 : decode cX4_strongestLine 11 = .ok (.if_icmp .ge 41, 3) := by decide +kernel
theorem dX4_strongestLine_14 : decode cX4_strongestLine 14 = .ok (.aload_n 0, 1) := by decide +kernel
theorem dX4_strongestLine_15 : decode cX4_strongestLine 15 = .ok (.getfield 10, 3) := by decide +kernel
theorem dX4_strongestLine_18 : decode cX4_strongestLine 18 = .ok (.iload_n 1, 1) := by decide +kernel
theorem dX4_strongestLine_19 : decode cX4_strongestLine 19 = .ok (.invokevirtual 208, 3) := by decide +kernel
theorem dX4_strongestLine_22 : decode cX4_strongestLine 22 = .ok (.ifCond .eq 24, 3) := by decide +kernel
theorem dX4_strongestLine_25 : decode cX4_strongestLine 25 = .ok (.aload_n 0, 1) := by decide +kernel
theorem dX4_strongestLine_26 : decode cX4_strongestLine 26 = .ok (.getfield 45, 3) := by decide +kernel
theorem dX4_strongestLine_29 : decode cX4_strongestLine 29 = .ok (.iload_n 1, 1) := by decide +kernel
theorem dX4_strongestLine_30 : decode cX4_strongestLine 30 = .ok (.aload_n 0, 1) := by decide +kernel
theorem dX4_strongestLine_31 : decode cX4_strongestLine 31 = .ok (.aload_n 0, 1) := by decide +kernel
theorem dX4_strongestLine_32 : decode cX4_strongestLine 32 = .ok (.getfield 10, 3) := by decide +kernel
theorem dX4_strongestLine_35 : decode cX4_strongestLine 35 = .ok (.getfield 142, 3) := by decide +kernel
theorem dX4_strongestLine_38 : decode cX4_strongestLine 38 = .ok (.iload_n 1, 1) := by decide +kernel
theorem dX4_strongestLine_39 : decode cX4_strongestLine 39 = .ok (.iaload, 1) := by decide +kernel
theorem dX4_strongestLine_40 : decode cX4_strongestLine 40 = .ok (.invokevirtual 196, 3) := by decide +kernel
theorem dX4_strongestLine_43 : decode cX4_strongestLine 43 = .ok (.invokevirtual 240, 3) := by decide +kernel
theorem dX4_strongestLine_46 : decode cX4_strongestLine 46 = .ok (.iinc 1 1, 3) := by decide +kernel
theorem dX4_strongestLine_49 : decode cX4_strongestLine 49 = .ok (.goto (-40), 3) := by decide +kernel
theorem dX4_strongestLine_52 : decode cX4_strongestLine 52 = .ok (.aload_n 0, 1) := by decide +kernel
theorem dX4_strongestLine_53 : decode cX4_strongestLine 53 = .ok (.getfield 45, 3) := by decide +kernel
theorem dX4_strongestLine_56 : decode cX4_strongestLine 56 = .ok (.getfield 243, 3) := by decide +kernel
theorem dX4_strongestLine_59 : decode cX4_strongestLine 59 = .ok (.ireturn, 1) := by decide +kernel
theorem dX4_gainsOfShifts_0 : decode cX4_gainsOfShifts 0 = .ok (.aload_n 0, 1) := by decide +kernel
theorem dX4_gainsOfShifts_1 : decode cX4_gainsOfShifts 1 = .ok (.getfield 16, 3) := by decide +kernel
theorem dX4_gainsOfShifts_4 : decode cX4_gainsOfShifts 4 = .ok (.aload_n 0, 1) := by decide +kernel
theorem dX4_gainsOfShifts_5 : decode cX4_gainsOfShifts 5 = .ok (.getfield 10, 3) := by decide +kernel
theorem dX4_gainsOfShifts_8 : decode cX4_gainsOfShifts 8 = .ok (.invokevirtual 161, 3) := by decide +kernel
theorem dX4_gainsOfShifts_11 : decode cX4_gainsOfShifts 11 = .ok (.aload_n 0, 1) := by decide +kernel
theorem dX4_gainsOfShifts_12 : decode cX4_gainsOfShifts 12 = .ok (.getfield 16, 3) := by decide +kernel
theorem dX4_gainsOfShifts_15 : decode cX4_gainsOfShifts 15 = .ok (.invokevirtual 217, 3) := by decide +kernel
theorem dX4_gainsOfShifts_18 : decode cX4_gainsOfShifts 18 = .ok (.istore_n 3, 1) := by decide +kernel
theorem dX4_gainsOfShifts_19 : decode cX4_gainsOfShifts 19 = .ok (.aload_n 0, 1) := by decide +kernel
theorem dX4_gainsOfShifts_20 : decode cX4_gainsOfShifts 20 = .ok (.getfield 16, 3) := by decide +kernel
theorem dX4_gainsOfShifts_23 : decode cX4_gainsOfShifts 23 = .ok (.aload_n 0, 1) := by decide +kernel
theorem dX4_gainsOfShifts_24 : decode cX4_gainsOfShifts 24 = .ok (.getfield 16, 3) := by decide +kernel
theorem dX4_gainsOfShifts_27 : decode cX4_gainsOfShifts 27 = .ok (.getfield 142, 3) := by decide +kernel
theorem dX4_gainsOfShifts_30 : decode cX4_gainsOfShifts 30 = .ok (.iload_n 3, 1) := by decide +kernel
theorem dX4_gainsOfShifts_31 : decode cX4_gainsOfShifts 31 = .ok (.iaload, 1) := by decide +kernel
theorem dX4_gainsOfShifts_32 : decode cX4_gainsOfShifts 32 = .ok (.invokevirtual 256, 3) := by decide +kernel
theorem dX4_gainsOfShifts_35 : decode cX4_gainsOfShifts 35 = .ok (.iconst 0, 1) := by decide +kernel
theorem dX4_gainsOfShifts_36 : decode cX4_gainsOfShifts 36 = .ok (.istore 4, 2) := by decide +kernel
theorem dX4_gainsOfShifts_38 : decode cX4_gainsOfShifts 38 = .ok (.iconst 0, 1) := by decide +kernel
theorem dX4_gainsOfShifts_39 : decode cX4_gainsOfShifts 39 = .ok (.istore 5, 2) := by decide +kernel
theorem dX4_gainsOfShifts_41 : decode cX4_gainsOfShifts 41 = .ok (.iload 5, 2) := by decide +kernel
theorem dX4_gainsOfShifts_43 : decode cX4_gainsOfShifts 43 = .ok (.iload_n 2, 1) := by decide +kernel
theorem dX4_gainsOfShifts_44 : decode cX4_gainsOfShifts 44 = .ok (.if_icmp .ge 59, 3) := by decide +kernel
theorem dX4_gainsOfShifts_47 : decode cX4_gainsOfShifts 47 = .ok (.iload 5, 2) := by decide +kernel
theorem dX4_gainsOfShifts_49 : decode cX4_gainsOfShifts 49 = .ok (.ifCond .le 21, 3) := by decide +kernel
theorem dX4_gainsOfShifts_52 : decode cX4_gainsOfShifts 52 = .ok (.aload_n 0, 1) := by decide +kernel
theorem dX4_gainsOfShifts_53 : decode cX4_gainsOfShifts 53 = .ok (.getfield 16, 3) := by decide +kernel
theorem dX4_gainsOfShifts_56 : decode cX4_gainsOfShifts 56 = .ok (.iload_n 3, 1) := by decide +kernel
theorem dX4_gainsOfShifts_57 : decode cX4_gainsOfShifts 57 = .ok (.invokevirtual 346, 3) := by decide +kernel
theorem dX4_gainsOfShifts_60 : decode cX4_gainsOfShifts 60 = .ok (.istore_n 3, 1) := by decide +kernel
theorem dX4_gainsOfShifts_61 : decode cX4_gainsOfShifts 61 = .ok (.aload_n 0, 1) := by decide +kernel
theorem dX4_gainsOfShifts_62 : decode cX4_gainsOfShifts 62 = .ok (.getfield 16, 3) := by decide +kernel
theorem dX4_gainsOfShifts_65 : decode cX4_gainsOfShifts 65 = .ok (.iload_n 3, 1) := by decide +kernel
theorem dX4_gainsOfShifts_66 : decode cX4_gainsOfShifts 66 = .ok (.invokevirtual 265, 3) := by decide +kernel
theorem dX4_gainsOfShifts_69 : decode cX4_gainsOfShifts 69 = .ok (.pop, 1) := by decide +kernel
theorem dX4_gainsOfShifts_70 : decode cX4_gainsOfShifts 70 = .ok (.iload 4, 2) := by decide +kernel
theorem dX4_gainsOfShifts_72 : decode cX4_gainsOfShifts 72 = .ok (.aload_n 0, 1) := by decide +kernel
theorem dX4_gainsOfShifts_73 : decode cX4_gainsOfShifts 73 = .ok (.getfield 16, 3) := by decide +kernel
theorem dX4_gainsOfShifts_76 : decode cX4_gainsOfShifts 76 = .ok (.iload_n 1, 1) := by decide +kernel
theorem dX4_gainsOfShifts_77 : decode cX4_gainsOfShifts 77 = .ok (.iload_n 2, 1) := by decide +kernel
theorem dX4_gainsOfShifts_78 : decode cX4_gainsOfShifts 78 = .ok (.iload 5, 2) := by decide +kernel
theorem dX4_gainsOfShifts_80 : decode cX4_gainsOfShifts 80 = .ok (.isub, 1) := by decide +kernel
theorem dX4_gainsOfShifts_81 : decode cX4_gainsOfShifts 81 = .ok (.invokestatic 232, 3) := by decide +kernel
theorem dX4_gainsOfShifts_84 : decode cX4_gainsOfShifts 84 = .ok (.invokevirtual 253, 3) := by decide +kernel
theorem dX4_gainsOfShifts_87 : decode cX4_gainsOfShifts 87 = .ok (.iadd, 1) := by decide +kernel
theorem dX4_gainsOfShifts_88 : decode cX4_gainsOfShifts 88 = .ok (.istore 4, 2) := by decide +kernel
theorem dX4_gainsOfShifts_90 : decode cX4_gainsOfShifts 90 = .ok (.iload 5, 2) := by decide +kernel
theorem dX4_gainsOfShifts_92 : decode cX4_gainsOfShifts 92 = .ok (.iconst 5, 1) := by decide +kernel
theorem dX4_gainsOfShifts_93 : decode cX4_gainsOfShifts 93 = .ok (.iload_n 1, 1) := by decide +kernel
theorem dX4_gainsOfShifts_94 : decode cX4_gainsOfShifts 94 = .ok (.invokestatic 327, 3) := by decide +kernel
theorem dX4_gainsOfShifts_97 : decode cX4_gainsOfShifts 97 = .ok (.iadd, 1) := by decide +kernel
theorem dX4_gainsOfShifts_98 : decode cX4_gainsOfShifts 98 = .ok (.istore 5, 2) := by decide +kernel
theorem dX4_gainsOfShifts_100 : decode cX4_gainsOfShifts 100 = .ok (.goto (-59), 3) := by decide +kernel
theorem dX4_gainsOfShifts_103 : decode cX4_gainsOfShifts 103 = .ok (.iload 4, 2) := by decide +kernel
theorem dX4_gainsOfShifts_105 : decode cX4_gainsOfShifts 105 = .ok (.ireturn, 1) := by decide +kernel
theorem dX4_gainsOfChange_0 : decode cX4_gainsOfChange 0 = .ok (.aload_n 0, 1) := by decide +kernel
theorem dX4_gainsOfChange_1 : decode cX4_gainsOfChange 1 = .ok (.getfield 16, 3) := by decide +kernel
theorem dX4_gainsOfChange_4 : decode cX4_gainsOfChange 4 = .ok (.aload_n 0, 1) := by decide +kernel
theorem dX4_gainsOfChange_5 : decode cX4_gainsOfChange 5 = .ok (.getfield 10, 3) := by decide +kernel
theorem dX4_gainsOfChange_8 : decode cX4_gainsOfChange 8 = .ok (.invokevirtual 161, 3) := by decide +kernel
theorem dX4_gainsOfChange_11 : decode cX4_gainsOfChange 11 = .ok (.aload_n 0, 1) := by decide +kernel
theorem dX4_gainsOfChange_12 : decode cX4_gainsOfChange 12 = .ok (.getfield 16, 3) := by decide +kernel
theorem dX4_gainsOfChange_15 : decode cX4_gainsOfChange 15 = .ok (.iload_n 3, 1) := by decide +kernel
theorem dX4_gainsOfChange_16 : decode cX4_gainsOfChange 16 = .ok (.putfield 145, 3) := by decide +kernel
theorem dX4_gainsOfChange_19 : decode cX4_gainsOfChange 19 = .ok (.aload_n 0, 1) := by decide +kernel
theorem dX4_gainsOfChange_20 : decode cX4_gainsOfChange 20 = .ok (.getfield 16, 3) := by decide +kernel
theorem dX4_gainsOfChange_23 : decode cX4_gainsOfChange 23 = .ok (.iload_n 2, 1) := by decide +kernel
theorem dX4_gainsOfChange_24 : decode cX4_gainsOfChange 24 = .ok (.invokevirtual 253, 3) := by decide +kernel
theorem dX4_gainsOfChange_27 : decode cX4_gainsOfChange 27 = .ok (.istore 4, 2) := by decide +kernel
theorem dX4_gainsOfChange_29 : decode cX4_gainsOfChange 29 = .ok (.aload_n 0, 1) := by decide +kernel
theorem dX4_gainsOfChange_30 : decode cX4_gainsOfChange 30 = .ok (.getfield 16, 3) := by decide +kernel
theorem dX4_gainsOfChange_33 : decode cX4_gainsOfChange 33 = .ok (.aload_n 0, 1) := by decide +kernel
theorem dX4_gainsOfChange_34 : decode cX4_gainsOfChange 34 = .ok (.getfield 10, 3) := by decide +kernel
theorem dX4_gainsOfChange_37 : decode cX4_gainsOfChange 37 = .ok (.invokevirtual 161, 3) := by decide +kernel
theorem dX4_gainsOfChange_40 : decode cX4_gainsOfChange 40 = .ok (.aload_n 0, 1) := by decide +kernel
theorem dX4_gainsOfChange_41 : decode cX4_gainsOfChange 41 = .ok (.getfield 16, 3) := by decide +kernel
theorem dX4_gainsOfChange_44 : decode cX4_gainsOfChange 44 = .ok (.iload_n 3, 1) := by decide +kernel
theorem dX4_gainsOfChange_45 : decode cX4_gainsOfChange 45 = .ok (.putfield 145, 3) := by decide +kernel
theorem dX4_gainsOfChange_48 : decode cX4_gainsOfChange 48 = .ok (.aload_n 0, 1) := by decide +kernel
theorem dX4_gainsOfChange_49 : decode cX4_gainsOfChange 49 = .ok (.getfield 16, 3) := by decide +kernel
theorem dX4_gainsOfChange_52 : decode cX4_gainsOfChange 52 = .ok (.iload_n 1, 1) := by decide +kernel
theorem dX4_gainsOfChange_53 : decode cX4_gainsOfChange 53 = .ok (.invokevirtual 265, 3) := by decide +kernel
theorem dX4_gainsOfChange_56 : decode cX4_gainsOfChange 56 = .ok (.pop, 1) := by decide +kernel
theorem dX4_gainsOfChange_57 : decode cX4_gainsOfChange 57 = .ok (.aload_n 0, 1) := by decide +kernel
theorem dX4_gainsOfChange_58 : decode cX4_gainsOfChange 58 = .ok (.getfield 16, 3) := by decide +kernel
theorem dX4_gainsOfChange_61 : decode cX4_gainsOfChange 61 = .ok (.iload_n 2, 1) := by decide +kernel
theorem dX4_gainsOfChange_62 : decode cX4_gainsOfChange 62 = .ok (.invokevirtual 253, 3) := by decide +kernel
theorem dX4_gainsOfChange_65 : decode cX4_gainsOfChange 65 = .ok (.iload 4, 2) := by decide +kernel
theorem dX4_gainsOfChange_67 : decode cX4_gainsOfChange 67 = .ok (.isub, 1) := by decide +kernel
theorem dX4_gainsOfChange_68 : decode cX4_gainsOfChange 68 = .ok (.ireturn, 1) := by decide +kernel
theorem dX4_gainsOfMeeting_0 : decode cX4_gainsOfMeeting 0 = .ok (.aload_n 0, 1) := by decide +kernel
theorem dX4_gainsOfMeeting_1 : decode cX4_gainsOfMeeting 1 = .ok (.getfield 16, 3) := by decide +kernel
theorem dX4_gainsOfMeeting_4 : decode cX4_gainsOfMeeting 4 = .ok (.aload_n 0, 1) := by decide +kernel
theorem dX4_gainsOfMeeting_5 : decode cX4_gainsOfMeeting 5 = .ok (.getfield 10, 3) := by decide +kernel
theorem dX4_gainsOfMeeting_8 : decode cX4_gainsOfMeeting 8 = .ok (.invokevirtual 161, 3) := by decide +kernel
theorem dX4_gainsOfMeeting_11 : decode cX4_gainsOfMeeting 11 = .ok (.aload_n 0, 1) := by decide +kernel
theorem dX4_gainsOfMeeting_12 : decode cX4_gainsOfMeeting 12 = .ok (.getfield 16, 3) := by decide +kernel
theorem dX4_gainsOfMeeting_15 : decode cX4_gainsOfMeeting 15 = .ok (.iload_n 2, 1) := by decide +kernel
theorem dX4_gainsOfMeeting_16 : decode cX4_gainsOfMeeting 16 = .ok (.putfield 151, 3) := by decide +kernel
theorem dX4_gainsOfMeeting_19 : decode cX4_gainsOfMeeting 19 = .ok (.aload_n 0, 1) := by decide +kernel
theorem dX4_gainsOfMeeting_20 : decode cX4_gainsOfMeeting 20 = .ok (.getfield 16, 3) := by decide +kernel
theorem dX4_gainsOfMeeting_23 : decode cX4_gainsOfMeeting 23 = .ok (.aload_n 0, 1) := by decide +kernel
theorem dX4_gainsOfMeeting_24 : decode cX4_gainsOfMeeting 24 = .ok (.getfield 16, 3) := by decide +kernel
theorem dX4_gainsOfMeeting_27 : decode cX4_gainsOfMeeting 27 = .ok (.getfield 142, 3) := by decide +kernel
theorem dX4_gainsOfMeeting_30 : decode cX4_gainsOfMeeting 30 = .ok (.iload_n 1, 1) := by decide +kernel
theorem dX4_gainsOfMeeting_31 : decode cX4_gainsOfMeeting 31 = .ok (.iaload, 1) := by decide +kernel
theorem dX4_gainsOfMeeting_32 : decode cX4_gainsOfMeeting 32 = .ok (.invokevirtual 256, 3) := by decide +kernel
theorem dX4_gainsOfMeeting_35 : decode cX4_gainsOfMeeting 35 = .ok (.aload_n 0, 1) := by decide +kernel
theorem dX4_gainsOfMeeting_36 : decode cX4_gainsOfMeeting 36 = .ok (.getfield 16, 3) := by decide +kernel
theorem dX4_gainsOfMeeting_39 : decode cX4_gainsOfMeeting 39 = .ok (.bipush 40, 2) := by decide +kernel
theorem dX4_gainsOfMeeting_41 : decode cX4_gainsOfMeeting 41 = .ok (.invokevirtual 253, 3) := by decide +kernel
theorem dX4_gainsOfMeeting_44 : decode cX4_gainsOfMeeting 44 = .ok (.ireturn, 1) := by decide +kernel
theorem dX4_mayShare_0 : decode cX4_mayShare 0 = .ok (.iconst 0, 1) := by decide +kernel
theorem dX4_mayShare_1 : decode cX4_mayShare 1 = .ok (.istore_n 2, 1) := by decide +kernel
theorem dX4_mayShare_2 : decode cX4_mayShare 2 = .ok (.iload_n 2, 1) := by decide +kernel
theorem dX4_mayShare_3 : decode cX4_mayShare 3 = .ok (.iconst 4, 1) := by decide +kernel
theorem dX4_mayShare_4 : decode cX4_mayShare 4 = .ok (.if_icmp .ge 36, 3) := by decide +kernel
theorem dX4_mayShare_7 : decode cX4_mayShare 7 = .ok (.iload_n 1, 1) := by decide +kernel
theorem dX4_mayShare_8 : decode cX4_mayShare 8 = .ok (.iload_n 2, 1) := by decide +kernel
theorem dX4_mayShare_9 : decode cX4_mayShare 9 = .ok (.invokestatic 295, 3) := by decide +kernel
theorem dX4_mayShare_12 : decode cX4_mayShare 12 = .ok (.istore_n 3, 1) := by decide +kernel
theorem dX4_mayShare_13 : decode cX4_mayShare 13 = .ok (.iload_n 3, 1) := by decide +kernel
theorem dX4_mayShare_14 : decode cX4_mayShare 14 = .ok (.ifCond .lt 18, 3) := by decide +kernel
theorem dX4_mayShare_17 : decode cX4_mayShare 17 = .ok (.iload_n 3, 1) := by decide +kernel
theorem dX4_mayShare_18 : decode cX4_mayShare 18 = .ok (.ifCond .le 16, 3) := by decide +kernel
theorem dX4_mayShare_21 : decode cX4_mayShare 21 = .ok (.aload_n 0, 1) := by decide +kernel
theorem dX4_mayShare_22 : decode cX4_mayShare 22 = .ok (.getfield 10, 3) := by decide +kernel
theorem dX4_mayShare_25 : decode cX4_mayShare 25 = .ok (.iload_n 2, 1) := by decide +kernel
theorem dX4_mayShare_26 : decode cX4_mayShare 26 = .ok (.invokevirtual 208, 3) := by decide +kernel
theorem dX4_mayShare_29 : decode cX4_mayShare 29 = .ok (.ifCond .ne 5, 3) := by decide +kernel
theorem dX4_mayShare_32 : decode cX4_mayShare 32 = .ok (.iconst 0, 1) := by decide +kernel
theorem dX4_mayShare_33 : decode cX4_mayShare 33 = .ok (.ireturn, 1) := by decide +kernel
theorem dX4_mayShare_34 : decode cX4_mayShare 34 = .ok (.iinc 2 1, 3) := by decide +kernel
theorem dX4_mayShare_37 : decode cX4_mayShare 37 = .ok (.goto (-35), 3) := by decide +kernel
theorem dX4_mayShare_40 : decode cX4_mayShare 40 = .ok (.iconst 1, 1) := by decide +kernel
theorem dX4_mayShare_41 : decode cX4_mayShare 41 = .ok (.ireturn, 1) := by decide +kernel
theorem dX4_gainsOfShare_0 : decode cX4_gainsOfShare 0 = .ok (.aload_n 0, 1) := by decide +kernel
theorem dX4_gainsOfShare_1 : decode cX4_gainsOfShare 1 = .ok (.getfield 16, 3) := by decide +kernel
theorem dX4_gainsOfShare_4 : decode cX4_gainsOfShare 4 = .ok (.aload_n 0, 1) := by decide +kernel
theorem dX4_gainsOfShare_5 : decode cX4_gainsOfShare 5 = .ok (.getfield 10, 3) := by decide +kernel
theorem dX4_gainsOfShare_8 : decode cX4_gainsOfShare 8 = .ok (.invokevirtual 161, 3) := by decide +kernel
theorem dX4_gainsOfShare_11 : decode cX4_gainsOfShare 11 = .ok (.iconst 0, 1) := by decide +kernel
theorem dX4_gainsOfShare_12 : decode cX4_gainsOfShare 12 = .ok (.istore_n 2, 1) := by decide +kernel
theorem dX4_gainsOfShare_13 : decode cX4_gainsOfShare 13 = .ok (.iconst 0, 1) := by decide +kernel
theorem dX4_gainsOfShare_14 : decode cX4_gainsOfShare 14 = .ok (.istore_n 3, 1) := by decide +kernel
theorem dX4_gainsOfShare_15 : decode cX4_gainsOfShare 15 = .ok (.iload_n 3, 1) := by decide +kernel
theorem dX4_gainsOfShare_16 : decode cX4_gainsOfShare 16 = .ok (.iconst 4, 1) := by decide +kernel
theorem dX4_gainsOfShare_17 : decode cX4_gainsOfShare 17 = .ok (.if_icmp .ge 52, 3) := by decide +kernel
theorem dX4_gainsOfShare_20 : decode cX4_gainsOfShare 20 = .ok (.iload_n 1, 1) := by decide +kernel
theorem dX4_gainsOfShare_21 : decode cX4_gainsOfShare 21 = .ok (.iload_n 3, 1) := by decide +kernel
theorem dX4_gainsOfShare_22 : decode cX4_gainsOfShare 22 = .ok (.invokestatic 295, 3) := by decide +kernel
theorem dX4_gainsOfShare_25 : decode cX4_gainsOfShare 25 = .ok (.istore 4, 2) := by decide +kernel
theorem dX4_gainsOfShare_27 : decode cX4_gainsOfShare 27 = .ok (.iload 4, 2) := by decide +kernel
theorem dX4_gainsOfShare_29 : decode cX4_gainsOfShare 29 = .ok (.ifCond .le 34, 3) := by decide +kernel
theorem dX4_gainsOfShare_32 : decode cX4_gainsOfShare 32 = .ok (.aload_n 0, 1) := by decide +kernel
theorem dX4_gainsOfShare_33 : decode cX4_gainsOfShare 33 = .ok (.getfield 16, 3) := by decide +kernel
theorem dX4_gainsOfShare_36 : decode cX4_gainsOfShare 36 = .ok (.aload_n 0, 1) := by decide +kernel
theorem dX4_gainsOfShare_37 : decode cX4_gainsOfShare 37 = .ok (.getfield 16, 3) := by decide +kernel
theorem dX4_gainsOfShare_40 : decode cX4_gainsOfShare 40 = .ok (.getfield 142, 3) := by decide +kernel
theorem dX4_gainsOfShare_43 : decode cX4_gainsOfShare 43 = .ok (.iload_n 3, 1) := by decide +kernel
theorem dX4_gainsOfShare_44 : decode cX4_gainsOfShare 44 = .ok (.iaload, 1) := by decide +kernel
theorem dX4_gainsOfShare_45 : decode cX4_gainsOfShare 45 = .ok (.invokevirtual 256, 3) := by decide +kernel
theorem dX4_gainsOfShare_48 : decode cX4_gainsOfShare 48 = .ok (.iload_n 2, 1) := by decide +kernel
theorem dX4_gainsOfShare_49 : decode cX4_gainsOfShare 49 = .ok (.aload_n 0, 1) := by decide +kernel
theorem dX4_gainsOfShare_50 : decode cX4_gainsOfShare 50 = .ok (.getfield 16, 3) := by decide +kernel
theorem dX4_gainsOfShare_53 : decode cX4_gainsOfShare 53 = .ok (.iload 4, 2) := by decide +kernel
theorem dX4_gainsOfShare_55 : decode cX4_gainsOfShare 55 = .ok (.bipush 40, 2) := by decide +kernel
theorem dX4_gainsOfShare_57 : decode cX4_gainsOfShare 57 = .ok (.imul, 1) := by decide +kernel
theorem dX4_gainsOfShare_58 : decode cX4_gainsOfShare 58 = .ok (.invokevirtual 253, 3) := by decide +kernel
theorem dX4_gainsOfShare_61 : decode cX4_gainsOfShare 61 = .ok (.iadd, 1) := by decide +kernel
theorem dX4_gainsOfShare_62 : decode cX4_gainsOfShare 62 = .ok (.istore_n 2, 1) := by decide +kernel
theorem dX4_gainsOfShare_63 : decode cX4_gainsOfShare 63 = .ok (.iinc 3 1, 3) := by decide +kernel
theorem dX4_gainsOfShare_66 : decode cX4_gainsOfShare 66 = .ok (.goto (-51), 3) := by decide +kernel
theorem dX4_gainsOfShare_69 : decode cX4_gainsOfShare 69 = .ok (.iload_n 2, 1) := by decide +kernel
theorem dX4_gainsOfShare_70 : decode cX4_gainsOfShare 70 = .ok (.ireturn, 1) := by decide +kernel
theorem dX4_leastMissed_0 : decode cX4_leastMissed 0 = .ok (.aload_n 0, 1) := by decide +kernel
theorem dX4_leastMissed_1 : decode cX4_leastMissed 1 = .ok (.getfield 45, 3) := by decide +kernel
theorem dX4_leastMissed_4 : decode cX4_leastMissed 4 = .ok (.invokevirtual 237, 3) := by decide +kernel
theorem dX4_leastMissed_7 : decode cX4_leastMissed 7 = .ok (.iconst 0, 1) := by decide +kernel
theorem dX4_leastMissed_8 : decode cX4_leastMissed 8 = .ok (.istore_n 1, 1) := by decide +kernel
theorem dX4_leastMissed_9 : decode cX4_leastMissed 9 = .ok (.iload_n 1, 1) := by decide +kernel
theorem dX4_leastMissed_10 : decode cX4_leastMissed 10 = .ok (.aload_n 0, 1) := by decide +kernel
theorem dX4_leastMissed_11 : decode cX4_leastMissed 11 = .ok (.getfield 10, 3) := by decide +kernel
theorem dX4_leastMissed_14 : decode cX4_leastMissed 14 = .ok (.getfield 229, 3) := by decide +kernel
theorem dX4_leastMissed_17 : decode cX4_leastMissed 17 = .ok (.if_icmp .ge 58, 3) := by decide +kernel
theorem dX4_leastMissed_20 : decode cX4_leastMissed 20 = .ok (.aload_n 0, 1) := by decide +kernel
theorem dX4_leastMissed_21 : decode cX4_leastMissed 21 = .ok (.getfield 10, 3) := by decide +kernel
theorem dX4_leastMissed_24 : decode cX4_leastMissed 24 = .ok (.getfield 175, 3) := by decide +kernel
theorem dX4_leastMissed_27 : decode cX4_leastMissed 27 = .ok (.iload_n 1, 1) := by decide +kernel
theorem dX4_leastMissed_28 : decode cX4_leastMissed 28 = .ok (.invokestatic 178, 3) := by decide +kernel
theorem dX4_leastMissed_31 : decode cX4_leastMissed 31 = .ok (.iconst 1, 1) := by decide +kernel
theorem dX4_leastMissed_32 : decode cX4_leastMissed 32 = .ok (.if_icmp .ne 37, 3) := by decide +kernel
theorem dX4_leastMissed_35 : decode cX4_leastMissed 35 = .ok (.aload_n 0, 1) := by decide +kernel
theorem dX4_leastMissed_36 : decode cX4_leastMissed 36 = .ok (.getfield 16, 3) := by decide +kernel
theorem dX4_leastMissed_39 : decode cX4_leastMissed 39 = .ok (.aload_n 0, 1) := by decide +kernel
theorem dX4_leastMissed_40 : decode cX4_leastMissed 40 = .ok (.getfield 10, 3) := by decide +kernel
theorem dX4_leastMissed_43 : decode cX4_leastMissed 43 = .ok (.invokevirtual 161, 3) := by decide +kernel
theorem dX4_leastMissed_46 : decode cX4_leastMissed 46 = .ok (.aload_n 0, 1) := by decide +kernel
theorem dX4_leastMissed_47 : decode cX4_leastMissed 47 = .ok (.getfield 16, 3) := by decide +kernel
theorem dX4_leastMissed_50 : decode cX4_leastMissed 50 = .ok (.iload_n 1, 1) := by decide +kernel
theorem dX4_leastMissed_51 : decode cX4_leastMissed 51 = .ok (.invokevirtual 301, 3) := by decide +kernel
theorem dX4_leastMissed_54 : decode cX4_leastMissed 54 = .ok (.aload_n 0, 1) := by decide +kernel
theorem dX4_leastMissed_55 : decode cX4_leastMissed 55 = .ok (.getfield 45, 3) := by decide +kernel
theorem dX4_leastMissed_58 : decode cX4_leastMissed 58 = .ok (.iload_n 1, 1) := by decide +kernel
theorem dX4_leastMissed_59 : decode cX4_leastMissed 59 = .ok (.aload_n 0, 1) := by decide +kernel
theorem dX4_leastMissed_60 : decode cX4_leastMissed 60 = .ok (.getfield 16, 3) := by decide +kernel
theorem dX4_leastMissed_63 : decode cX4_leastMissed 63 = .ok (.invokevirtual 199, 3) := by decide +kernel
theorem dX4_leastMissed_66 : decode cX4_leastMissed 66 = .ok (.invokevirtual 240, 3) := by decide +kernel
theorem dX4_leastMissed_69 : decode cX4_leastMissed 69 = .ok (.iinc 1 1, 3) := by decide +kernel
theorem dX4_leastMissed_72 : decode cX4_leastMissed 72 = .ok (.goto (-63), 3) := by decide +kernel
theorem dX4_leastMissed_75 : decode cX4_leastMissed 75 = .ok (.aload_n 0, 1) := by decide +kernel
theorem dX4_leastMissed_76 : decode cX4_leastMissed 76 = .ok (.getfield 45, 3) := by decide +kernel
theorem dX4_leastMissed_79 : decode cX4_leastMissed 79 = .ok (.getfield 243, 3) := by decide +kernel
theorem dX4_leastMissed_82 : decode cX4_leastMissed 82 = .ok (.ireturn, 1) := by decide +kernel
theorem dX4_firstWrong_0 : decode cX4_firstWrong 0 = .ok (.iconst 0, 1) := by decide +kernel
theorem dX4_firstWrong_1 : decode cX4_firstWrong 1 = .ok (.istore_n 3, 1) := by decide +kernel
theorem dX4_firstWrong_2 : decode cX4_firstWrong 2 = .ok (.iload_n 3, 1) := by decide +kernel
theorem dX4_firstWrong_3 : decode cX4_firstWrong 3 = .ok (.iload_n 2, 1) := by decide +kernel
theorem dX4_firstWrong_4 : decode cX4_firstWrong 4 = .ok (.if_icmp .ge 48, 3) := by decide +kernel
theorem dX4_firstWrong_7 : decode cX4_firstWrong 7 = .ok (.aload_n 1, 1) := by decide +kernel
theorem dX4_firstWrong_8 : decode cX4_firstWrong 8 = .ok (.getfield 96, 3) := by decide +kernel
theorem dX4_firstWrong_11 : decode cX4_firstWrong 11 = .ok (.iload_n 3, 1) := by decide +kernel
theorem dX4_firstWrong_12 : decode cX4_firstWrong 12 = .ok (.laload, 1) := by decide +kernel
theorem dX4_firstWrong_13 : decode cX4_firstWrong 13 = .ok (.lstore 4, 2) := by decide +kernel
theorem dX4_firstWrong_15 : decode cX4_firstWrong 15 = .ok (.lload 4, 2) := by decide +kernel
theorem dX4_firstWrong_17 : decode cX4_firstWrong 17 = .ok (.lconst 0, 1) := by decide +kernel
theorem dX4_firstWrong_18 : decode cX4_firstWrong 18 = .ok (.lcmp, 1) := by decide +kernel
theorem dX4_firstWrong_19 : decode cX4_firstWrong 19 = .ok (.ifCond .lt 25, 3) := by decide +kernel
theorem dX4_firstWrong_22 : decode cX4_firstWrong 22 = .ok (.lload 4, 2) := by decide +kernel
theorem dX4_firstWrong_24 : decode cX4_firstWrong 24 = .ok (.ldc2_w 349, 3) := by decide +kernel
theorem dX4_firstWrong_27 : decode cX4_firstWrong 27 = .ok (.lcmp, 1) := by decide +kernel
theorem dX4_firstWrong_28 : decode cX4_firstWrong 28 = .ok (.ifCond .ge 16, 3) := by decide +kernel
theorem dX4_firstWrong_31 : decode cX4_firstWrong 31 = .ok (.aload_n 0, 1) := by decide +kernel
theorem dX4_firstWrong_32 : decode cX4_firstWrong 32 = .ok (.getfield 10, 3) := by decide +kernel
theorem dX4_firstWrong_35 : decode cX4_firstWrong 35 = .ok (.lload 4, 2) := by decide +kernel
theorem dX4_firstWrong_37 : decode cX4_firstWrong 37 = .ok (.l2i, 1) := by decide +kernel
theorem dX4_firstWrong_38 : decode cX4_firstWrong 38 = .ok (.invokevirtual 208, 3) := by decide +kernel
theorem dX4_firstWrong_41 : decode cX4_firstWrong 41 = .ok (.ifCond .ne 5, 3) := by decide +kernel
theorem dX4_firstWrong_44 : decode cX4_firstWrong 44 = .ok (.iload_n 3, 1) := by decide +kernel
theorem dX4_firstWrong_45 : decode cX4_firstWrong 45 = .ok (.ireturn, 1) := by decide +kernel
theorem dX4_firstWrong_46 : decode cX4_firstWrong 46 = .ok (.iinc 3 1, 3) := by decide +kernel
theorem dX4_firstWrong_49 : decode cX4_firstWrong 49 = .ok (.goto (-47), 3) := by decide +kernel
theorem dX4_firstWrong_52 : decode cX4_firstWrong 52 = .ok (.iconst (-1), 1) := by decide +kernel
theorem dX4_firstWrong_53 : decode cX4_firstWrong 53 = .ok (.ireturn, 1) := by decide +kernel
theorem dX4_isOnBy_0 : decode cX4_isOnBy 0 = .ok (.aload_n 0, 1) := by decide +kernel
theorem dX4_isOnBy_1 : decode cX4_isOnBy 1 = .ok (.getfield 10, 3) := by decide +kernel
theorem dX4_isOnBy_4 : decode cX4_isOnBy 4 = .ok (.getfield 142, 3) := by decide +kernel
theorem dX4_isOnBy_7 : decode cX4_isOnBy 7 = .ok (.aload_n 1, 1) := by decide +kernel
theorem dX4_isOnBy_8 : decode cX4_isOnBy 8 = .ok (.getfield 96, 3) := by decide +kernel
theorem dX4_isOnBy_11 : decode cX4_isOnBy 11 = .ok (.iload_n 2, 1) := by decide +kernel
theorem dX4_isOnBy_12 : decode cX4_isOnBy 12 = .ok (.laload, 1) := by decide +kernel
theorem dX4_isOnBy_13 : decode cX4_isOnBy 13 = .ok (.l2i, 1) := by decide +kernel
theorem dX4_isOnBy_14 : decode cX4_isOnBy 14 = .ok (.iaload, 1) := by decide +kernel
theorem dX4_isOnBy_15 : decode cX4_isOnBy 15 = .ok (.iload_n 3, 1) := by decide +kernel
theorem dX4_isOnBy_16 : decode cX4_isOnBy 16 = .ok (.invokestatic 178, 3) := by decide +kernel
theorem dX4_isOnBy_19 : decode cX4_isOnBy 19 = .ok (.iconst 1, 1) := by decide +kernel
theorem dX4_isOnBy_20 : decode cX4_isOnBy 20 = .ok (.if_icmp .ne 7, 3) := by decide +kernel
theorem dX4_isOnBy_23 : decode cX4_isOnBy 23 = .ok (.iconst 1, 1) := by decide +kernel
theorem dX4_isOnBy_24 : decode cX4_isOnBy 24 = .ok (.goto 4, 3) := by decide +kernel
theorem dX4_isOnBy_27 : decode cX4_isOnBy 27 = .ok (.iconst 0, 1) := by decide +kernel
theorem dX4_isOnBy_28 : decode cX4_isOnBy 28 = .ok (.ireturn, 1) := by decide +kernel
theorem dX4_longestOn_0 : decode cX4_longestOn 0 = .ok (.iconst 0, 1) := by decide +kernel
theorem dX4_longestOn_1 : decode cX4_longestOn 1 = .ok (.istore 4, 2) := by decide +kernel
theorem dX4_longestOn_3 : decode cX4_longestOn 3 = .ok (.iconst 0, 1) := by decide +kernel
theorem dX4_longestOn_4 : decode cX4_longestOn 4 = .ok (.istore 5, 2) := by decide +kernel
theorem dX4_longestOn_6 : decode cX4_longestOn 6 = .ok (.iconst 0, 1) := by decide +kernel
theorem dX4_longestOn_7 : decode cX4_longestOn 7 = .ok (.istore 6, 2) := by decide +kernel
theorem dX4_longestOn_9 : decode cX4_longestOn 9 = .ok (.iload 6, 2) := by decide +kernel
theorem dX4_longestOn_11 : decode cX4_longestOn 11 = .ok (.iload_n 2, 1) := by decide +kernel
theorem dX4_longestOn_12 : decode cX4_longestOn 12 = .ok (.if_icmp .ge 40, 3) := by decide +kernel
theorem dX4_longestOn_15 : decode cX4_longestOn 15 = .ok (.aload_n 0, 1) := by decide +kernel
theorem dX4_longestOn_16 : decode cX4_longestOn 16 = .ok (.aload_n 1, 1) := by decide +kernel
theorem dX4_longestOn_17 : decode cX4_longestOn 17 = .ok (.iload 6, 2) := by decide +kernel
theorem dX4_longestOn_19 : decode cX4_longestOn 19 = .ok (.iload_n 3, 1) := by decide +kernel
theorem dX4_longestOn_20 : decode cX4_longestOn 20 = .ok (.invokevirtual 351, 3) := by decide +kernel
theorem dX4_longestOn_23 : decode cX4_longestOn 23 = .ok (.ifCond .eq 11, 3) := by decide +kernel
theorem dX4_longestOn_26 : decode cX4_longestOn 26 = .ok (.iload 5, 2) := by decide +kernel
theorem dX4_longestOn_28 : decode cX4_longestOn 28 = .ok (.bipush 20, 2) := by decide +kernel
theorem dX4_longestOn_30 : decode cX4_longestOn 30 = .ok (.iadd, 1) := by decide +kernel
theorem dX4_longestOn_31 : decode cX4_longestOn 31 = .ok (.goto 4, 3) := by decide +kernel
theorem dX4_longestOn_34 : decode cX4_longestOn 34 = .ok (.iconst 0, 1) := by decide +kernel
theorem dX4_longestOn_35 : decode cX4_longestOn 35 = .ok (.istore 5, 2) := by decide +kernel
theorem dX4_longestOn_37 : decode cX4_longestOn 37 = .ok (.iload 4, 2) := by decide +kernel
theorem dX4_longestOn_39 : decode cX4_longestOn 39 = .ok (.iload 5, 2) := by decide +kernel
theorem dX4_longestOn_41 : decode cX4_longestOn 41 = .ok (.invokestatic 327, 3) := by decide +kernel
theorem dX4_longestOn_44 : decode cX4_longestOn 44 = .ok (.istore 4, 2) := by decide +kernel
theorem dX4_longestOn_46 : decode cX4_longestOn 46 = .ok (.iinc 6 1, 3) := by decide +kernel
theorem dX4_longestOn_49 : decode cX4_longestOn 49 = .ok (.goto (-40), 3) := by decide +kernel
theorem dX4_longestOn_52 : decode cX4_longestOn 52 = .ok (.iload 4, 2) := by decide +kernel
theorem dX4_longestOn_54 : decode cX4_longestOn 54 = .ok (.ireturn, 1) := by decide +kernel
theorem dX4_costOf_0 : decode cX4_costOf 0 = .ok (.aload_n 0, 1) := by decide +kernel
theorem dX4_costOf_1 : decode cX4_costOf 1 = .ok (.getfield 16, 3) := by decide +kernel
theorem dX4_costOf_4 : decode cX4_costOf 4 = .ok (.aload_n 0, 1) := by decide +kernel
theorem dX4_costOf_5 : decode cX4_costOf 5 = .ok (.getfield 10, 3) := by decide +kernel
theorem dX4_costOf_8 : decode cX4_costOf 8 = .ok (.invokevirtual 161, 3) := by decide +kernel
theorem dX4_costOf_11 : decode cX4_costOf 11 = .ok (.aload_n 0, 1) := by decide +kernel
theorem dX4_costOf_12 : decode cX4_costOf 12 = .ok (.getfield 16, 3) := by decide +kernel
theorem dX4_costOf_15 : decode cX4_costOf 15 = .ok (.getfield 128, 3) := by decide +kernel
theorem dX4_costOf_18 : decode cX4_costOf 18 = .ok (.iload_n 3, 1) := by decide +kernel
theorem dX4_costOf_19 : decode cX4_costOf 19 = .ok (.iconst 0, 1) := by decide +kernel
theorem dX4_costOf_20 : decode cX4_costOf 20 = .ok (.iastore, 1) := by decide +kernel
theorem dX4_costOf_21 : decode cX4_costOf 21 = .ok (.iconst 0, 1) := by decide +kernel
theorem dX4_costOf_22 : decode cX4_costOf 22 = .ok (.istore 4, 2) := by decide +kernel
theorem dX4_costOf_24 : decode cX4_costOf 24 = .ok (.iload 4, 2) := by decide +kernel
theorem dX4_costOf_26 : decode cX4_costOf 26 = .ok (.iload_n 2, 1) := by decide +kernel
theorem dX4_costOf_27 : decode cX4_costOf 27 = .ok (.if_icmp .ge 41, 3) := by decide +kernel
theorem dX4_costOf_30 : decode cX4_costOf 30 = .ok (.aload_n 0, 1) := by decide +kernel
theorem dX4_costOf_31 : decode cX4_costOf 31 = .ok (.getfield 16, 3) := by decide +kernel
theorem dX4_costOf_34 : decode cX4_costOf 34 = .ok (.aload_n 0, 1) := by decide +kernel
theorem dX4_costOf_35 : decode cX4_costOf 35 = .ok (.getfield 16, 3) := by decide +kernel
theorem dX4_costOf_38 : decode cX4_costOf 38 = .ok (.getfield 142, 3) := by decide +kernel
theorem dX4_costOf_41 : decode cX4_costOf 41 = .ok (.aload_n 1, 1) := by decide +kernel
theorem dX4_costOf_42 : decode cX4_costOf 42 = .ok (.getfield 96, 3) := by decide +kernel
theorem dX4_costOf_45 : decode cX4_costOf 45 = .ok (.iload 4, 2) := by decide +kernel
theorem dX4_costOf_47 : decode cX4_costOf 47 = .ok (.laload, 1) := by decide +kernel
theorem dX4_costOf_48 : decode cX4_costOf 48 = .ok (.l2i, 1) := by decide +kernel
theorem dX4_costOf_49 : decode cX4_costOf 49 = .ok (.iaload, 1) := by decide +kernel
theorem dX4_costOf_50 : decode cX4_costOf 50 = .ok (.invokevirtual 256, 3) := by decide +kernel
theorem dX4_costOf_53 : decode cX4_costOf 53 = .ok (.aload_n 0, 1) := by decide +kernel
theorem dX4_costOf_54 : decode cX4_costOf 54 = .ok (.getfield 16, 3) := by decide +kernel
theorem dX4_costOf_57 : decode cX4_costOf 57 = .ok (.bipush 20, 2) := by decide +kernel
theorem dX4_costOf_59 : decode cX4_costOf 59 = .ok (.invokevirtual 246, 3) := by decide +kernel
theorem dX4_costOf_62 : decode cX4_costOf 62 = .ok (.iinc 4 1, 3) := by decide +kernel
theorem dX4_costOf_65 : decode cX4_costOf 65 = .ok (.goto (-41), 3) := by decide +kernel
theorem dX4_costOf_68 : decode cX4_costOf 68 = .ok (.aload_n 0, 1) := by decide +kernel
theorem dX4_costOf_69 : decode cX4_costOf 69 = .ok (.getfield 16, 3) := by decide +kernel
theorem dX4_costOf_72 : decode cX4_costOf 72 = .ok (.getfield 125, 3) := by decide +kernel
theorem dX4_costOf_75 : decode cX4_costOf 75 = .ok (.iload_n 3, 1) := by decide +kernel
theorem dX4_costOf_76 : decode cX4_costOf 76 = .ok (.iaload, 1) := by decide +kernel
theorem dX4_costOf_77 : decode cX4_costOf 77 = .ok (.aload_n 0, 1) := by decide +kernel
theorem dX4_costOf_78 : decode cX4_costOf 78 = .ok (.getfield 16, 3) := by decide +kernel
theorem dX4_costOf_81 : decode cX4_costOf 81 = .ok (.iload_n 3, 1) := by decide +kernel
theorem dX4_costOf_82 : decode cX4_costOf 82 = .ok (.invokevirtual 184, 3) := by decide +kernel
theorem dX4_costOf_85 : decode cX4_costOf 85 = .ok (.isub, 1) := by decide +kernel
theorem dX4_costOf_86 : decode cX4_costOf 86 = .ok (.ireturn, 1) := by decide +kernel
theorem dX4_spellsIn_0 : decode cX4_spellsIn 0 = .ok (.iload_n 1, 1) := by decide +kernel
theorem dX4_spellsIn_1 : decode cX4_spellsIn 1 = .ok (.tableswitch 45 0 2 #[27, 32, 40], 27) := by decide +kernel
theorem dX4_spellsIn_28 : decode cX4_spellsIn 28 = .ok (.iload_n 0, 1) := by decide +kernel
theorem dX4_spellsIn_29 : decode cX4_spellsIn 29 = .ok (.bipush 81, 2) := by decide +kernel
theorem dX4_spellsIn_31 : decode cX4_spellsIn 31 = .ok (.idiv, 1) := by decide +kernel
theorem dX4_spellsIn_32 : decode cX4_spellsIn 32 = .ok (.ireturn, 1) := by decide +kernel
theorem dX4_spellsIn_33 : decode cX4_spellsIn 33 = .ok (.iload_n 0, 1) := by decide +kernel
theorem dX4_spellsIn_34 : decode cX4_spellsIn 34 = .ok (.bipush 9, 2) := by decide +kernel
theorem dX4_spellsIn_36 : decode cX4_spellsIn 36 = .ok (.idiv, 1) := by decide +kernel
theorem dX4_spellsIn_37 : decode cX4_spellsIn 37 = .ok (.bipush 9, 2) := by decide +kernel
theorem dX4_spellsIn_39 : decode cX4_spellsIn 39 = .ok (.irem, 1) := by decide +kernel
theorem dX4_spellsIn_40 : decode cX4_spellsIn 40 = .ok (.ireturn, 1) := by decide +kernel
theorem dX4_spellsIn_41 : decode cX4_spellsIn 41 = .ok (.iload_n 0, 1) := by decide +kernel
theorem dX4_spellsIn_42 : decode cX4_spellsIn 42 = .ok (.bipush 9, 2) := by decide +kernel
theorem dX4_spellsIn_44 : decode cX4_spellsIn 44 = .ok (.irem, 1) := by decide +kernel
theorem dX4_spellsIn_45 : decode cX4_spellsIn 45 = .ok (.ireturn, 1) := by decide +kernel
theorem dX4_spellsIn_46 : decode cX4_spellsIn 46 = .ok (.bipush 8, 2) := by decide +kernel
theorem dX4_spellsIn_48 : decode cX4_spellsIn 48 = .ok (.iload_n 0, 1) := by decide +kernel
theorem dX4_spellsIn_49 : decode cX4_spellsIn 49 = .ok (.bipush 81, 2) := by decide +kernel
theorem dX4_spellsIn_51 : decode cX4_spellsIn 51 = .ok (.idiv, 1) := by decide +kernel
theorem dX4_spellsIn_52 : decode cX4_spellsIn 52 = .ok (.isub, 1) := by decide +kernel
theorem dX4_spellsIn_53 : decode cX4_spellsIn 53 = .ok (.iload_n 0, 1) := by decide +kernel
theorem dX4_spellsIn_54 : decode cX4_spellsIn 54 = .ok (.bipush 9, 2) := by decide +kernel
theorem dX4_spellsIn_56 : decode cX4_spellsIn 56 = .ok (.idiv, 1) := by decide +kernel
theorem dX4_spellsIn_57 : decode cX4_spellsIn 57 = .ok (.bipush 9, 2) := by decide +kernel
theorem dX4_spellsIn_59 : decode cX4_spellsIn 59 = .ok (.irem, 1) := by decide +kernel
theorem dX4_spellsIn_60 : decode cX4_spellsIn 60 = .ok (.isub, 1) := by decide +kernel
theorem dX4_spellsIn_61 : decode cX4_spellsIn 61 = .ok (.iload_n 0, 1) := by decide +kernel
theorem dX4_spellsIn_62 : decode cX4_spellsIn 62 = .ok (.bipush 9, 2) := by decide +kernel
theorem dX4_spellsIn_64 : decode cX4_spellsIn 64 = .ok (.irem, 1) := by decide +kernel
theorem dX4_spellsIn_65 : decode cX4_spellsIn 65 = .ok (.isub, 1) := by decide +kernel
theorem dX4_spellsIn_66 : decode cX4_spellsIn 66 = .ok (.ireturn, 1) := by decide +kernel
theorem dX4_isIn_0 : decode cX4_isIn 0 = .ok (.iload_n 1, 1) := by decide +kernel
theorem dX4_isIn_1 : decode cX4_isIn 1 = .ok (.iload_n 0, 1) := by decide +kernel
theorem dX4_isIn_2 : decode cX4_isIn 2 = .ok (.if_icmp .gt 12, 3) := by decide +kernel
theorem dX4_isIn_5 : decode cX4_isIn 5 = .ok (.iload_n 0, 1) := by decide +kernel
theorem dX4_isIn_6 : decode cX4_isIn 6 = .ok (.iload_n 2, 1) := by decide +kernel
theorem dX4_isIn_7 : decode cX4_isIn 7 = .ok (.if_icmp .gt 7, 3) := by decide +kernel
theorem dX4_isIn_10 : decode cX4_isIn 10 = .ok (.iconst 1, 1) := by decide +kernel
theorem dX4_isIn_11 : decode cX4_isIn 11 = .ok (.goto 4, 3) := by decide +kernel
theorem dX4_isIn_14 : decode cX4_isIn 14 = .ok (.iconst 0, 1) := by decide +kernel
theorem dX4_isIn_15 : decode cX4_isIn 15 = .ok (.ireturn, 1) := by decide +kernel
theorem dX4_isShelf_0 : decode cX4_isShelf 0 = .ok (.iload_n 0, 1) := by decide +kernel
theorem dX4_isShelf_1 : decode cX4_isShelf 1 = .ok (.iconst 0, 1) := by decide +kernel
theorem dX4_isShelf_2 : decode cX4_isShelf 2 = .ok (.bipush 7, 2) := by decide +kernel
theorem dX4_isShelf_4 : decode cX4_isShelf 4 = .ok (.invokestatic 58, 3) := by decide +kernel
theorem dX4_isShelf_7 : decode cX4_isShelf 7 = .ok (.ireturn, 1) := by decide +kernel
theorem dX4_isLine_0 : decode cX4_isLine 0 = .ok (.iload_n 0, 1) := by decide +kernel
theorem dX4_isLine_1 : decode cX4_isLine 1 = .ok (.iconst 0, 1) := by decide +kernel
theorem dX4_isLine_2 : decode cX4_isLine 2 = .ok (.iconst 3, 1) := by decide +kernel
theorem dX4_isLine_3 : decode cX4_isLine 3 = .ok (.invokestatic 58, 3) := by decide +kernel
theorem dX4_isLine_6 : decode cX4_isLine 6 = .ok (.ireturn, 1) := by decide +kernel
theorem dX4_bit_0 : decode cX4_bit 0 = .ok (.iload_n 0, 1) := by decide +kernel
theorem dX4_bit_1 : decode cX4_bit 1 = .ok (.iload_n 1, 1) := by decide +kernel
theorem dX4_bit_2 : decode cX4_bit 2 = .ok (.ishr, 1) := by decide +kernel
theorem dX4_bit_3 : decode cX4_bit 3 = .ok (.iconst 1, 1) := by decide +kernel
theorem dX4_bit_4 : decode cX4_bit 4 = .ok (.iand, 1) := by decide +kernel
theorem dX4_bit_5 : decode cX4_bit 5 = .ok (.ireturn, 1) := by decide +kernel
theorem dX4_isUnder_0 : decode cX4_isUnder 0 = .ok (.iload_n 1, 1) := by decide +kernel
theorem dX4_isUnder_1 : decode cX4_isUnder 1 = .ok (.ifCond .eq 28, 3) := by decide +kernel
theorem dX4_isUnder_4 : decode cX4_isUnder 4 = .ok (.iload_n 0, 1) := by decide +kernel
theorem dX4_isUnder_5 : decode cX4_isUnder 5 = .ok (.iload_n 1, 1) := by decide +kernel
theorem dX4_isUnder_6 : decode cX4_isUnder 6 = .ok (.if_icmp .eq 23, 3) := by decide +kernel
theorem dX4_isUnder_9 : decode cX4_isUnder 9 = .ok (.iload_n 0, 1) := by decide +kernel
theorem dX4_isUnder_10 : decode cX4_isUnder 10 = .ok (.iconst 3, 1) := by decide +kernel
theorem dX4_isUnder_11 : decode cX4_isUnder 11 = .ok (.if_icmp .ne 8, 3) := by decide +kernel
theorem dX4_isUnder_14 : decode cX4_isUnder 14 = .ok (.iload_n 1, 1) := by decide +kernel
theorem dX4_isUnder_15 : decode cX4_isUnder 15 = .ok (.iconst 1, 1) := by decide +kernel
theorem dX4_isUnder_16 : decode cX4_isUnder 16 = .ok (.if_icmp .eq 13, 3) := by decide +kernel
theorem dX4_isUnder_19 : decode cX4_isUnder 19 = .ok (.iload_n 0, 1) := by decide +kernel
theorem dX4_isUnder_20 : decode cX4_isUnder 20 = .ok (.iconst 5, 1) := by decide +kernel
theorem dX4_isUnder_21 : decode cX4_isUnder 21 = .ok (.if_icmp .ne 12, 3) := by decide +kernel
theorem dX4_isUnder_24 : decode cX4_isUnder 24 = .ok (.iload_n 1, 1) := by decide +kernel
theorem dX4_isUnder_25 : decode cX4_isUnder 25 = .ok (.iconst 4, 1) := by decide +kernel
theorem dX4_isUnder_26 : decode cX4_isUnder 26 = .ok (.if_icmp .ne 7, 3) := by decide +kernel
theorem dX4_isUnder_29 : decode cX4_isUnder 29 = .ok (.iconst 1, 1) := by decide +kernel
theorem dX4_isUnder_30 : decode cX4_isUnder 30 = .ok (.goto 4, 3) := by decide +kernel
theorem dX4_isUnder_33 : decode cX4_isUnder 33 = .ok (.iconst 0, 1) := by decide +kernel
theorem dX4_isUnder_34 : decode cX4_isUnder 34 = .ok (.ireturn, 1) := by decide +kernel
theorem dX4_tiresBy_0 : decode cX4_tiresBy 0 = .ok (.iload_n 0, 1) := by decide +kernel
theorem dX4_tiresBy_1 : decode cX4_tiresBy 1 = .ok (.iconst 1, 1) := by decide +kernel
theorem dX4_tiresBy_2 : decode cX4_tiresBy 2 = .ok (.if_icmp .eq 8, 3) := by decide +kernel
theorem dX4_tiresBy_5 : decode cX4_tiresBy 5 = .ok (.iload_n 0, 1) := by decide +kernel
theorem dX4_tiresBy_6 : decode cX4_tiresBy 6 = .ok (.iconst 3, 1) := by decide +kernel
theorem dX4_tiresBy_7 : decode cX4_tiresBy 7 = .ok (.if_icmp .ne 7, 3) := by decide +kernel
theorem dX4_tiresBy_10 : decode cX4_tiresBy 10 = .ok (.iconst 3, 1) := by decide +kernel
theorem dX4_tiresBy_11 : decode cX4_tiresBy 11 = .ok (.goto 4, 3) := by decide +kernel
theorem dX4_tiresBy_14 : decode cX4_tiresBy 14 = .ok (.iconst 2, 1) := by decide +kernel
theorem dX4_tiresBy_15 : decode cX4_tiresBy 15 = .ok (.ireturn, 1) := by decide +kernel
theorem dX4_restsBy_0 : decode cX4_restsBy 0 = .ok (.iload_n 0, 1) := by decide +kernel
theorem dX4_restsBy_1 : decode cX4_restsBy 1 = .ok (.iconst 3, 1) := by decide +kernel
theorem dX4_restsBy_2 : decode cX4_restsBy 2 = .ok (.if_icmp .ne 7, 3) := by decide +kernel
theorem dX4_restsBy_5 : decode cX4_restsBy 5 = .ok (.iconst 2, 1) := by decide +kernel
theorem dX4_restsBy_6 : decode cX4_restsBy 6 = .ok (.goto 4, 3) := by decide +kernel
theorem dX4_restsBy_9 : decode cX4_restsBy 9 = .ok (.iconst 1, 1) := by decide +kernel
theorem dX4_restsBy_10 : decode cX4_restsBy 10 = .ok (.ireturn, 1) := by decide +kernel
theorem dJ6_bitCount_0f7a4_0 : decode cJ6_bitCount_0f7a4 0 = .ok (.iload_n 0, 1) := by decide +kernel
theorem dJ6_bitCount_0f7a4_1 : decode cJ6_bitCount_0f7a4 1 = .ok (.iload_n 0, 1) := by decide +kernel
theorem dJ6_bitCount_0f7a4_2 : decode cJ6_bitCount_0f7a4 2 = .ok (.iconst 1, 1) := by decide +kernel
theorem dJ6_bitCount_0f7a4_3 : decode cJ6_bitCount_0f7a4 3 = .ok (.iushr, 1) := by decide +kernel
theorem dJ6_bitCount_0f7a4_4 : decode cJ6_bitCount_0f7a4 4 = .ok (.ldc_w 265, 3) := by decide +kernel
theorem dJ6_bitCount_0f7a4_7 : decode cJ6_bitCount_0f7a4 7 = .ok (.iand, 1) := by decide +kernel
theorem dJ6_bitCount_0f7a4_8 : decode cJ6_bitCount_0f7a4 8 = .ok (.isub, 1) := by decide +kernel
theorem dJ6_bitCount_0f7a4_9 : decode cJ6_bitCount_0f7a4 9 = .ok (.istore_n 0, 1) := by decide +kernel
theorem dJ6_bitCount_0f7a4_10 : decode cJ6_bitCount_0f7a4 10 = .ok (.iload_n 0, 1) := by decide +kernel
theorem dJ6_bitCount_0f7a4_11 : decode cJ6_bitCount_0f7a4 11 = .ok (.ldc_w 266, 3) := by decide +kernel
theorem dJ6_bitCount_0f7a4_14 : decode cJ6_bitCount_0f7a4 14 = .ok (.iand, 1) := by decide +kernel
theorem dJ6_bitCount_0f7a4_15 : decode cJ6_bitCount_0f7a4 15 = .ok (.iload_n 0, 1) := by decide +kernel
theorem dJ6_bitCount_0f7a4_16 : decode cJ6_bitCount_0f7a4 16 = .ok (.iconst 2, 1) := by decide +kernel
theorem dJ6_bitCount_0f7a4_17 : decode cJ6_bitCount_0f7a4 17 = .ok (.iushr, 1) := by decide +kernel
theorem dJ6_bitCount_0f7a4_18 : decode cJ6_bitCount_0f7a4 18 = .ok (.ldc_w 266, 3) := by decide +kernel
theorem dJ6_bitCount_0f7a4_21 : decode cJ6_bitCount_0f7a4 21 = .ok (.iand, 1) := by decide +kernel
theorem dJ6_bitCount_0f7a4_22 : decode cJ6_bitCount_0f7a4 22 = .ok (.iadd, 1) := by decide +kernel
theorem dJ6_bitCount_0f7a4_23 : decode cJ6_bitCount_0f7a4 23 = .ok (.istore_n 0, 1) := by decide +kernel
theorem dJ6_bitCount_0f7a4_24 : decode cJ6_bitCount_0f7a4 24 = .ok (.iload_n 0, 1) := by decide +kernel
theorem dJ6_bitCount_0f7a4_25 : decode cJ6_bitCount_0f7a4 25 = .ok (.iload_n 0, 1) := by decide +kernel
theorem dJ6_bitCount_0f7a4_26 : decode cJ6_bitCount_0f7a4 26 = .ok (.iconst 4, 1) := by decide +kernel
theorem dJ6_bitCount_0f7a4_27 : decode cJ6_bitCount_0f7a4 27 = .ok (.iushr, 1) := by decide +kernel
theorem dJ6_bitCount_0f7a4_28 : decode cJ6_bitCount_0f7a4 28 = .ok (.iadd, 1) := by decide +kernel
theorem dJ6_bitCount_0f7a4_29 : decode cJ6_bitCount_0f7a4 29 = .ok (.ldc_w 267, 3) := by decide +kernel
theorem dJ6_bitCount_0f7a4_32 : decode cJ6_bitCount_0f7a4 32 = .ok (.iand, 1) := by decide +kernel
theorem dJ6_bitCount_0f7a4_33 : decode cJ6_bitCount_0f7a4 33 = .ok (.istore_n 0, 1) := by decide +kernel
theorem dJ6_bitCount_0f7a4_34 : decode cJ6_bitCount_0f7a4 34 = .ok (.iload_n 0, 1) := by decide +kernel
theorem dJ6_bitCount_0f7a4_35 : decode cJ6_bitCount_0f7a4 35 = .ok (.iload_n 0, 1) := by decide +kernel
theorem dJ6_bitCount_0f7a4_36 : decode cJ6_bitCount_0f7a4 36 = .ok (.bipush 8, 2) := by decide +kernel
theorem dJ6_bitCount_0f7a4_38 : decode cJ6_bitCount_0f7a4 38 = .ok (.iushr, 1) := by decide +kernel
theorem dJ6_bitCount_0f7a4_39 : decode cJ6_bitCount_0f7a4 39 = .ok (.iadd, 1) := by decide +kernel
theorem dJ6_bitCount_0f7a4_40 : decode cJ6_bitCount_0f7a4 40 = .ok (.istore_n 0, 1) := by decide +kernel
theorem dJ6_bitCount_0f7a4_41 : decode cJ6_bitCount_0f7a4 41 = .ok (.iload_n 0, 1) := by decide +kernel
theorem dJ6_bitCount_0f7a4_42 : decode cJ6_bitCount_0f7a4 42 = .ok (.iload_n 0, 1) := by decide +kernel
theorem dJ6_bitCount_0f7a4_43 : decode cJ6_bitCount_0f7a4 43 = .ok (.bipush 16, 2) := by decide +kernel
theorem dJ6_bitCount_0f7a4_45 : decode cJ6_bitCount_0f7a4 45 = .ok (.iushr, 1) := by decide +kernel
theorem dJ6_bitCount_0f7a4_46 : decode cJ6_bitCount_0f7a4 46 = .ok (.iadd, 1) := by decide +kernel
theorem dJ6_bitCount_0f7a4_47 : decode cJ6_bitCount_0f7a4 47 = .ok (.istore_n 0, 1) := by decide +kernel
theorem dJ6_bitCount_0f7a4_48 : decode cJ6_bitCount_0f7a4 48 = .ok (.iload_n 0, 1) := by decide +kernel
theorem dJ6_bitCount_0f7a4_49 : decode cJ6_bitCount_0f7a4 49 = .ok (.bipush 63, 2) := by decide +kernel
theorem dJ6_bitCount_0f7a4_51 : decode cJ6_bitCount_0f7a4 51 = .ok (.iand, 1) := by decide +kernel
theorem dJ6_bitCount_0f7a4_52 : decode cJ6_bitCount_0f7a4 52 = .ok (.ireturn, 1) := by decide +kernel
theorem dJ9_max_7cf53_0 : decode cJ9_max_7cf53 0 = .ok (.iload_n 0, 1) := by decide +kernel
theorem dJ9_max_7cf53_1 : decode cJ9_max_7cf53 1 = .ok (.iload_n 1, 1) := by decide +kernel
theorem dJ9_max_7cf53_2 : decode cJ9_max_7cf53 2 = .ok (.if_icmp .lt 7, 3) := by decide +kernel
theorem dJ9_max_7cf53_5 : decode cJ9_max_7cf53 5 = .ok (.iload_n 0, 1) := by decide +kernel
theorem dJ9_max_7cf53_6 : decode cJ9_max_7cf53 6 = .ok (.goto 4, 3) := by decide +kernel
theorem dJ9_max_7cf53_9 : decode cJ9_max_7cf53 9 = .ok (.iload_n 1, 1) := by decide +kernel
theorem dJ9_max_7cf53_10 : decode cJ9_max_7cf53 10 = .ok (.ireturn, 1) := by decide +kernel
theorem dJ9_max_f86c9_0 : decode cJ9_max_f86c9 0 = .ok (.lload_n 0, 1) := by decide +kernel
theorem dJ9_max_f86c9_1 : decode cJ9_max_f86c9 1 = .ok (.lload_n 2, 1) := by decide +kernel
theorem dJ9_max_f86c9_2 : decode cJ9_max_f86c9 2 = .ok (.lcmp, 1) := by decide +kernel
theorem dJ9_max_f86c9_3 : decode cJ9_max_f86c9 3 = .ok (.ifCond .lt 7, 3) := by decide +kernel
theorem dJ9_max_f86c9_6 : decode cJ9_max_f86c9 6 = .ok (.lload_n 0, 1) := by decide +kernel
theorem dJ9_max_f86c9_7 : decode cJ9_max_f86c9 7 = .ok (.goto 4, 3) := by decide +kernel
theorem dJ9_max_f86c9_10 : decode cJ9_max_f86c9 10 = .ok (.lload_n 2, 1) := by decide +kernel
theorem dJ9_max_f86c9_11 : decode cJ9_max_f86c9 11 = .ok (.lreturn, 1) := by decide +kernel
theorem dJ9_min_7cf53_0 : decode cJ9_min_7cf53 0 = .ok (.iload_n 0, 1) := by decide +kernel
theorem dJ9_min_7cf53_1 : decode cJ9_min_7cf53 1 = .ok (.iload_n 1, 1) := by decide +kernel
theorem dJ9_min_7cf53_2 : decode cJ9_min_7cf53 2 = .ok (.if_icmp .gt 7, 3) := by decide +kernel
theorem dJ9_min_7cf53_5 : decode cJ9_min_7cf53 5 = .ok (.iload_n 0, 1) := by decide +kernel
theorem dJ9_min_7cf53_6 : decode cJ9_min_7cf53 6 = .ok (.goto 4, 3) := by decide +kernel
theorem dJ9_min_7cf53_9 : decode cJ9_min_7cf53 9 = .ok (.iload_n 1, 1) := by decide +kernel
theorem dJ9_min_7cf53_10 : decode cJ9_min_7cf53 10 = .ok (.ireturn, 1) := by decide +kernel
theorem dJ0_length_8abf5_0 : decode cJ0_length_8abf5 0 = .ok (.aload_n 0, 1) := by decide +kernel
theorem dJ0_length_8abf5_1 : decode cJ0_length_8abf5 1 = .ok (.getfield 9, 3) := by decide +kernel
theorem dJ0_length_8abf5_4 : decode cJ0_length_8abf5 4 = .ok (.arraylength, 1) := by decide +kernel
theorem dJ0_length_8abf5_5 : decode cJ0_length_8abf5 5 = .ok (.aload_n 0, 1) := by decide +kernel
theorem dJ0_length_8abf5_6 : decode cJ0_length_8abf5 6 = .ok (.invokevirtual 335, 3) := by decide +kernel
theorem dJ0_length_8abf5_9 : decode cJ0_length_8abf5 9 = .ok (.ishr, 1) := by decide +kernel
theorem dJ0_length_8abf5_10 : decode cJ0_length_8abf5 10 = .ok (.ireturn, 1) := by decide +kernel
theorem dJ0_charAt_5068e_0 : decode cJ0_charAt_5068e 0 = .ok (.aload_n 0, 1) := by decide +kernel
theorem dJ0_charAt_5068e_1 : decode cJ0_charAt_5068e 1 = .ok (.invokevirtual 492, 3) := by decide +kernel
theorem dJ0_charAt_5068e_4 : decode cJ0_charAt_5068e 4 = .ok (.ifCond .eq 12, 3) := by decide +kernel
theorem dJ0_charAt_5068e_7 : decode cJ0_charAt_5068e 7 = .ok (.aload_n 0, 1) := by decide +kernel
theorem dJ0_charAt_5068e_8 : decode cJ0_charAt_5068e 8 = .ok (.getfield 9, 3) := by decide +kernel
theorem dJ0_charAt_5068e_11 : decode cJ0_charAt_5068e 11 = .ok (.iload_n 1, 1) := by decide +kernel
theorem dJ0_charAt_5068e_12 : decode cJ0_charAt_5068e 12 = .ok (.invokestatic 495, 3) := by decide +kernel
theorem dJ0_charAt_5068e_15 : decode cJ0_charAt_5068e 15 = .ok (.ireturn, 1) := by decide +kernel
theorem dJ0_charAt_5068e_16 : decode cJ0_charAt_5068e 16 = .ok (.aload_n 0, 1) := by decide +kernel
theorem dJ0_charAt_5068e_17 : decode cJ0_charAt_5068e 17 = .ok (.getfield 9, 3) := by decide +kernel
theorem dJ0_charAt_5068e_20 : decode cJ0_charAt_5068e 20 = .ok (.iload_n 1, 1) := by decide +kernel
theorem dJ0_charAt_5068e_21 : decode cJ0_charAt_5068e 21 = .ok (.invokestatic 498, 3) := by decide +kernel
theorem dJ0_charAt_5068e_24 : decode cJ0_charAt_5068e 24 = .ok (.ireturn, 1) := by decide +kernel
theorem dJ0_coder_7d493_0 : decode cJ0_coder_7d493 0 = .ok (.getstatic 38, 3) := by decide +kernel
theorem dJ0_coder_7d493_3 : decode cJ0_coder_7d493 3 = .ok (.ifCond .eq 10, 3) := by decide +kernel
theorem dJ0_coder_7d493_6 : decode cJ0_coder_7d493 6 = .ok (.aload_n 0, 1) := by decide +kernel
theorem dJ0_coder_7d493_7 : decode cJ0_coder_7d493 7 = .ok (.getfield 15, 3) := by decide +kernel
theorem dJ0_coder_7d493_10 : decode cJ0_coder_7d493 10 = .ok (.goto 4, 3) := by decide +kernel
theorem dJ0_coder_7d493_13 : decode cJ0_coder_7d493 13 = .ok (.iconst 1, 1) := by decide +kernel
theorem dJ0_coder_7d493_14 : decode cJ0_coder_7d493 14 = .ok (.ireturn, 1) := by decide +kernel
theorem dJ0_isLatin1_aae02_0 : decode cJ0_isLatin1_aae02 0 = .ok (.getstatic 38, 3) := by decide +kernel
theorem dJ0_isLatin1_aae02_3 : decode cJ0_isLatin1_aae02 3 = .ok (.ifCond .eq 14, 3) := by decide +kernel
theorem dJ0_isLatin1_aae02_6 : decode cJ0_isLatin1_aae02 6 = .ok (.aload_n 0, 1) := by decide +kernel
theorem dJ0_isLatin1_aae02_7 : decode cJ0_isLatin1_aae02 7 = .ok (.getfield 15, 3) := by decide +kernel
theorem dJ0_isLatin1_aae02_10 : decode cJ0_isLatin1_aae02 10 = .ok (.ifCond .ne 7, 3) := by decide +kernel
theorem dJ0_isLatin1_aae02_13 : decode cJ0_isLatin1_aae02 13 = .ok (.iconst 1, 1) := by decide +kernel
theorem dJ0_isLatin1_aae02_14 : decode cJ0_isLatin1_aae02 14 = .ok (.goto 4, 3) := by decide +kernel
theorem dJ0_isLatin1_aae02_17 : decode cJ0_isLatin1_aae02 17 = .ok (.iconst 0, 1) := by decide +kernel
theorem dJ0_isLatin1_aae02_18 : decode cJ0_isLatin1_aae02 18 = .ok (.ireturn, 1) := by decide +kernel
theorem dJ0_checkIndex_df160_0 : decode cJ0_checkIndex_df160 0 = .ok (.iload_n 0, 1) := by decide +kernel
theorem dJ0_checkIndex_df160_1 : decode cJ0_checkIndex_df160 1 = .ok (.iload_n 1, 1) := by decide +kernel
theorem dJ0_checkIndex_df160_2 : decode cJ0_checkIndex_df160 2 = .ok (.getstatic 1053, 3) := by decide +kernel
theorem dJ0_checkIndex_df160_5 : decode cJ0_checkIndex_df160 5 = .ok (.invokestatic 1059, 3) := by decide +kernel
theorem dJ0_checkIndex_df160_8 : decode cJ0_checkIndex_df160 8 = .ok (.pop, 1) := by decide +kernel
theorem dJ0_checkIndex_df160_9 : decode cJ0_checkIndex_df160 9 = .ok (.return_, 1) := by decide +kernel
theorem dJ1_charAt_3b067_0 : decode cJ1_charAt_3b067 0 = .ok (.iload_n 1, 1) := by decide +kernel
theorem dJ1_charAt_3b067_1 : decode cJ1_charAt_3b067 1 = .ok (.aload_n 0, 1) := by decide +kernel
theorem dJ1_charAt_3b067_2 : decode cJ1_charAt_3b067 2 = .ok (.arraylength, 1) := by decide +kernel
theorem dJ1_charAt_3b067_3 : decode cJ1_charAt_3b067 3 = .ok (.invokestatic 9, 3) := by decide +kernel
theorem dJ1_charAt_3b067_6 : decode cJ1_charAt_3b067 6 = .ok (.aload_n 0, 1) := by decide +kernel
theorem dJ1_charAt_3b067_7 : decode cJ1_charAt_3b067 7 = .ok (.iload_n 1, 1) := by decide +kernel
theorem dJ1_charAt_3b067_8 : decode cJ1_charAt_3b067 8 = .ok (.baload, 1) := by decide +kernel
theorem dJ1_charAt_3b067_9 : decode cJ1_charAt_3b067 9 = .ok (.sipush 255, 3) := by decide +kernel
theorem dJ1_charAt_3b067_12 : decode cJ1_charAt_3b067 12 = .ok (.iand, 1) := by decide +kernel
theorem dJ1_charAt_3b067_13 : decode cJ1_charAt_3b067 13 = .ok (.i2c, 1) := by decide +kernel
theorem dJ1_charAt_3b067_14 : decode cJ1_charAt_3b067 14 = .ok (.ireturn, 1) := by decide +kernel
theorem dJ2_getChar_3b067_0 : decode cJ2_getChar_3b067 0 = .ok (.getstatic 44, 3) := by decide +kernel
theorem dJ2_getChar_3b067_3 : decode cJ2_getChar_3b067 3 = .ok (.ifCond .ne 25, 3) := by decide +kernel
theorem dJ2_getChar_3b067_6 : decode cJ2_getChar_3b067 6 = .ok (.iload_n 1, 1) := by decide +kernel
theorem dJ2_getChar_3b067_7 : decode cJ2_getChar_3b067 7 = .ok (.ifCond .lt 11, 3) := by decide +kernel
theorem dJ2_getChar_3b067_10 : decode cJ2_getChar_3b067 10 = .ok (.iload_n 1, 1) := by decide +kernel
theorem dJ2_getChar_3b067_11 : decode cJ2_getChar_3b067 11 = .ok (.aload_n 0, 1) := by decide +kernel
theorem dJ2_getChar_3b067_12 : decode cJ2_getChar_3b067 12 = .ok (.invokestatic 48, 3) := by decide +kernel
theorem dJ2_getChar_3b067_15 : decode cJ2_getChar_3b067 15 = .ok (.if_icmp .lt 13, 3) := by decide +kernel
theorem dJ2_getChar_3b067_18 : decode cJ2_getChar_3b067 18 = .ok (.new 52, 3) := by decide +kernel
theorem dJ2_getChar_3b067_21 : decode cJ2_getChar_3b067 21 = .ok (.dup, 1) := by decide +kernel
theorem dJ2_getChar_3b067_22 : decode cJ2_getChar_3b067 22 = .ok (.ldc 54, 2) := by decide +kernel
theorem dJ2_getChar_3b067_24 : decode cJ2_getChar_3b067 24 = .ok (.invokespecial 56, 3) := by decide +kernel
theorem dJ2_getChar_3b067_27 : decode cJ2_getChar_3b067 27 = .ok (.athrow, 1) := by decide +kernel
theorem dJ2_getChar_3b067_28 : decode cJ2_getChar_3b067 28 = .ok (.iload_n 1, 1) := by decide +kernel
theorem dJ2_getChar_3b067_29 : decode cJ2_getChar_3b067 29 = .ok (.iconst 1, 1) := by decide +kernel
theorem dJ2_getChar_3b067_30 : decode cJ2_getChar_3b067 30 = .ok (.ishl, 1) := by decide +kernel
theorem dJ2_getChar_3b067_31 : decode cJ2_getChar_3b067 31 = .ok (.istore_n 1, 1) := by decide +kernel
theorem dJ2_getChar_3b067_32 : decode cJ2_getChar_3b067 32 = .ok (.aload_n 0, 1) := by decide +kernel
theorem dJ2_getChar_3b067_33 : decode cJ2_getChar_3b067 33 = .ok (.iload_n 1, 1) := by decide +kernel
theorem dJ2_getChar_3b067_34 : decode cJ2_getChar_3b067 34 = .ok (.iinc 1 1, 3) := by decide +kernel
theorem dJ2_getChar_3b067_37 : decode cJ2_getChar_3b067 37 = .ok (.baload, 1) := by decide +kernel
theorem dJ2_getChar_3b067_38 : decode cJ2_getChar_3b067 38 = .ok (.sipush 255, 3) := by decide +kernel
theorem dJ2_getChar_3b067_41 : decode cJ2_getChar_3b067 41 = .ok (.iand, 1) := by decide +kernel
theorem dJ2_getChar_3b067_42 : decode cJ2_getChar_3b067 42 = .ok (.getstatic 59, 3) := by decide +kernel
theorem dJ2_getChar_3b067_45 : decode cJ2_getChar_3b067 45 = .ok (.ishl, 1) := by decide +kernel
theorem dJ2_getChar_3b067_46 : decode cJ2_getChar_3b067 46 = .ok (.aload_n 0, 1) := by decide +kernel
theorem dJ2_getChar_3b067_47 : decode cJ2_getChar_3b067 47 = .ok (.iload_n 1, 1) := by decide +kernel
theorem dJ2_getChar_3b067_48 : decode cJ2_getChar_3b067 48 = .ok (.baload, 1) := by decide +kernel
theorem dJ2_getChar_3b067_49 : decode cJ2_getChar_3b067 49 = .ok (.sipush 255, 3) := by decide +kernel
theorem dJ2_getChar_3b067_52 : decode cJ2_getChar_3b067 52 = .ok (.iand, 1) := by decide +kernel
theorem dJ2_getChar_3b067_53 : decode cJ2_getChar_3b067 53 = .ok (.getstatic 63, 3) := by decide +kernel
theorem dJ2_getChar_3b067_56 : decode cJ2_getChar_3b067 56 = .ok (.ishl, 1) := by decide +kernel
theorem dJ2_getChar_3b067_57 : decode cJ2_getChar_3b067 57 = .ok (.ior, 1) := by decide +kernel
theorem dJ2_getChar_3b067_58 : decode cJ2_getChar_3b067 58 = .ok (.i2c, 1) := by decide +kernel
theorem dJ2_getChar_3b067_59 : decode cJ2_getChar_3b067 59 = .ok (.ireturn, 1) := by decide +kernel
theorem dJ2_length_9d52b_0 : decode cJ2_length_9d52b 0 = .ok (.aload_n 0, 1) := by decide +kernel
theorem dJ2_length_9d52b_1 : decode cJ2_length_9d52b 1 = .ok (.arraylength, 1) := by decide +kernel
theorem dJ2_length_9d52b_2 : decode cJ2_length_9d52b 2 = .ok (.iconst 1, 1) := by decide +kernel
theorem dJ2_length_9d52b_3 : decode cJ2_length_9d52b 3 = .ok (.ishr, 1) := by decide +kernel
theorem dJ2_length_9d52b_4 : decode cJ2_length_9d52b 4 = .ok (.ireturn, 1) := by decide +kernel
theorem dJ2_charAt_3b067_0 : decode cJ2_charAt_3b067 0 = .ok (.iload_n 1, 1) := by decide +kernel
theorem dJ2_charAt_3b067_1 : decode cJ2_charAt_3b067 1 = .ok (.aload_n 0, 1) := by decide +kernel
theorem dJ2_charAt_3b067_2 : decode cJ2_charAt_3b067 2 = .ok (.invokestatic 67, 3) := by decide +kernel
theorem dJ2_charAt_3b067_5 : decode cJ2_charAt_3b067 5 = .ok (.aload_n 0, 1) := by decide +kernel
theorem dJ2_charAt_3b067_6 : decode cJ2_charAt_3b067 6 = .ok (.iload_n 1, 1) := by decide +kernel
theorem dJ2_charAt_3b067_7 : decode cJ2_charAt_3b067 7 = .ok (.invokestatic 71, 3) := by decide +kernel
theorem dJ2_charAt_3b067_10 : decode cJ2_charAt_3b067 10 = .ok (.ireturn, 1) := by decide +kernel
theorem dJ2_checkIndex_2214a_0 : decode cJ2_checkIndex_2214a 0 = .ok (.iload_n 0, 1) := by decide +kernel
theorem dJ2_checkIndex_2214a_1 : decode cJ2_checkIndex_2214a 1 = .ok (.aload_n 1, 1) := by decide +kernel
theorem dJ2_checkIndex_2214a_2 : decode cJ2_checkIndex_2214a 2 = .ok (.invokestatic 48, 3) := by decide +kernel
theorem dJ2_checkIndex_2214a_5 : decode cJ2_checkIndex_2214a 5 = .ok (.invokestatic 414, 3) := by decide +kernel
theorem dJ2_checkIndex_2214a_8 : decode cJ2_checkIndex_2214a 8 = .ok (.return_, 1) := by decide +kernel
theorem dJ7_fill_d0a16_0 : decode cJ7_fill_d0a16 0 = .ok (.iconst 0, 1) := by decide +kernel
theorem dJ7_fill_d0a16_1 : decode cJ7_fill_d0a16 1 = .ok (.istore_n 3, 1) := by decide +kernel
theorem dJ7_fill_d0a16_2 : decode cJ7_fill_d0a16 2 = .ok (.aload_n 0, 1) := by decide +kernel
theorem dJ7_fill_d0a16_3 : decode cJ7_fill_d0a16 3 = .ok (.arraylength, 1) := by decide +kernel
theorem dJ7_fill_d0a16_4 : decode cJ7_fill_d0a16 4 = .ok (.istore 4, 2) := by decide +kernel
theorem dJ7_fill_d0a16_6 : decode cJ7_fill_d0a16 6 = .ok (.iload_n 3, 1) := by decide +kernel
theorem dJ7_fill_d0a16_7 : decode cJ7_fill_d0a16 7 = .ok (.iload 4, 2) := by decide +kernel
theorem dJ7_fill_d0a16_9 : decode cJ7_fill_d0a16 9 = .ok (.if_icmp .ge 13, 3) := by decide +kernel
theorem dJ7_fill_d0a16_12 : decode cJ7_fill_d0a16 12 = .ok (.aload_n 0, 1) := by decide +kernel
theorem dJ7_fill_d0a16_13 : decode cJ7_fill_d0a16 13 = .ok (.iload_n 3, 1) := by decide +kernel
theorem dJ7_fill_d0a16_14 : decode cJ7_fill_d0a16 14 = .ok (.lload_n 1, 1) := by decide +kernel
theorem dJ7_fill_d0a16_15 : decode cJ7_fill_d0a16 15 = .ok (.lastore, 1) := by decide +kernel
theorem dJ7_fill_d0a16_16 : decode cJ7_fill_d0a16 16 = .ok (.iinc 3 1, 3) := by decide +kernel
theorem dJ7_fill_d0a16_19 : decode cJ7_fill_d0a16 19 = .ok (.goto (-13), 3) := by decide +kernel
theorem dJ7_fill_d0a16_22 : decode cJ7_fill_d0a16 22 = .ok (.return_, 1) := by decide +kernel
theorem dJ3_checkIndex_8e157_0 : decode cJ3_checkIndex_8e157 0 = .ok (.iload_n 0, 1) := by decide +kernel
theorem dJ3_checkIndex_8e157_1 : decode cJ3_checkIndex_8e157 1 = .ok (.ifCond .lt 8, 3) := by decide +kernel
theorem dJ3_checkIndex_8e157_4 : decode cJ3_checkIndex_8e157 4 = .ok (.iload_n 0, 1) := by decide +kernel
theorem dJ3_checkIndex_8e157_5 : decode cJ3_checkIndex_8e157 5 = .ok (.iload_n 1, 1) := by decide +kernel
theorem dJ3_checkIndex_8e157_6 : decode cJ3_checkIndex_8e157 6 = .ok (.if_icmp .lt 10, 3) := by decide +kernel
theorem dJ3_checkIndex_8e157_9 : decode cJ3_checkIndex_8e157 9 = .ok (.aload_n 2, 1) := by decide +kernel
theorem dJ3_checkIndex_8e157_10 : decode cJ3_checkIndex_8e157 10 = .ok (.iload_n 0, 1) := by decide +kernel
theorem dJ3_checkIndex_8e157_11 : decode cJ3_checkIndex_8e157 11 = .ok (.iload_n 1, 1) := by decide +kernel
theorem dJ3_checkIndex_8e157_12 : decode cJ3_checkIndex_8e157 12 = .ok (.invokestatic 95, 3) := by decide +kernel
theorem dJ3_checkIndex_8e157_15 : decode cJ3_checkIndex_8e157 15 = .ok (.athrow, 1) := by decide +kernel
theorem dJ3_checkIndex_8e157_16 : decode cJ3_checkIndex_8e157 16 = .ok (.iload_n 0, 1) := by decide +kernel
theorem dJ3_checkIndex_8e157_17 : decode cJ3_checkIndex_8e157 17 = .ok (.ireturn, 1) := by decide +kernel
