theorem dX6_init_0 : decode cX6_init 0 = .ok (.aload_n 0, 1) := by decide +kernel
theorem dX6_init_1 : decode cX6_init 1 = .ok (.invokespecial 1, 3) := by decide +kernel
theorem dX6_init_4 : decode cX6_init 4 = .ok (.aload_n 0, 1) := by decide +kernel
theorem dX6_init_5 : decode cX6_init 5 = .ok (.bipush 8, 2) := by decide +kernel
theorem dX6_init_7 : decode cX6_init 7 = .ok (.newarray .int, 2) := by decide +kernel
theorem dX6_init_9 : decode cX6_init 9 = .ok (.putfield 7, 3) := by decide +kernel
theorem dX6_init_12 : decode cX6_init 12 = .ok (.aload_n 0, 1) := by decide +kernel
theorem dX6_init_13 : decode cX6_init 13 = .ok (.bipush 8, 2) := by decide +kernel
theorem dX6_init_15 : decode cX6_init 15 = .ok (.newarray .int, 2) := by decide +kernel
theorem dX6_init_17 : decode cX6_init 17 = .ok (.putfield 13, 3) := by decide +kernel
theorem dX6_init_20 : decode cX6_init 20 = .ok (.aload_n 0, 1) := by decide +kernel
theorem dX6_init_21 : decode cX6_init 21 = .ok (.bipush 6, 2) := by decide +kernel
theorem dX6_init_23 : decode cX6_init 23 = .ok (.newarray .int, 2) := by decide +kernel
theorem dX6_init_25 : decode cX6_init 25 = .ok (.putfield 16, 3) := by decide +kernel
theorem dX6_init_28 : decode cX6_init 28 = .ok (.aload_n 0, 1) := by decide +kernel
theorem dX6_init_29 : decode cX6_init 29 = .ok (.bipush 6, 2) := by decide +kernel
theorem dX6_init_31 : decode cX6_init 31 = .ok (.newarray .int, 2) := by decide +kernel
theorem dX6_init_33 : decode cX6_init 33 = .ok (.putfield 19, 3) := by decide +kernel
theorem dX6_init_36 : decode cX6_init 36 = .ok (.aload_n 0, 1) := by decide +kernel
theorem dX6_init_37 : decode cX6_init 37 = .ok (.bipush 6, 2) := by decide +kernel
theorem dX6_init_39 : decode cX6_init 39 = .ok (.newarray .int, 2) := by decide +kernel
theorem dX6_init_41 : decode cX6_init 41 = .ok (.putfield 22, 3) := by decide +kernel
theorem dX6_init_44 : decode cX6_init 44 = .ok (.aload_n 0, 1) := by decide +kernel
theorem dX6_init_45 : decode cX6_init 45 = .ok (.bipush 18, 2) := by decide +kernel
theorem dX6_init_47 : decode cX6_init 47 = .ok (.newarray .byte, 2) := by decide +kernel
theorem dX6_init_49 : decode cX6_init 49 = .ok (.putfield 25, 3) := by decide +kernel
theorem dX6_init_52 : decode cX6_init 52 = .ok (.aload_n 0, 1) := by decide +kernel
theorem dX6_init_53 : decode cX6_init 53 = .ok (.bipush 72, 2) := by decide +kernel
theorem dX6_init_55 : decode cX6_init 55 = .ok (.newarray .int, 2) := by decide +kernel
theorem dX6_init_57 : decode cX6_init 57 = .ok (.putfield 29, 3) := by decide +kernel
theorem dX6_init_60 : decode cX6_init 60 = .ok (.aload_n 0, 1) := by decide +kernel
theorem dX6_init_61 : decode cX6_init 61 = .ok (.bipush 9, 2) := by decide +kernel
theorem dX6_init_63 : decode cX6_init 63 = .ok (.newarray .int, 2) := by decide +kernel
theorem dX6_init_65 : decode cX6_init 65 = .ok (.putfield 32, 3) := by decide +kernel
theorem dX6_init_68 : decode cX6_init 68 = .ok (.aload_n 0, 1) := by decide +kernel
theorem dX6_init_69 : decode cX6_init 69 = .ok (.bipush 9, 2) := by decide +kernel
theorem dX6_init_71 : decode cX6_init 71 = .ok (.newarray .int, 2) := by decide +kernel
theorem dX6_init_73 : decode cX6_init 73 = .ok (.putfield 35, 3) := by decide +kernel
theorem dX6_init_76 : decode cX6_init 76 = .ok (.aload_n 0, 1) := by decide +kernel
theorem dX6_init_77 : decode cX6_init 77 = .ok (.bipush 9, 2) := by decide +kernel
theorem dX6_init_79 : decode cX6_init 79 = .ok (.newarray .int, 2) := by decide +kernel
theorem dX6_init_81 : decode cX6_init 81 = .ok (.putfield 38, 3) := by decide +kernel
theorem dX6_init_84 : decode cX6_init 84 = .ok (.aload_n 0, 1) := by decide +kernel
theorem dX6_init_85 : decode cX6_init 85 = .ok (.bipush 9, 2) := by decide +kernel
theorem dX6_init_87 : decode cX6_init 87 = .ok (.newarray .int, 2) := by decide +kernel
theorem dX6_init_89 : decode cX6_init 89 = .ok (.putfield 41, 3) := by decide +kernel
theorem dX6_init_92 : decode cX6_init 92 = .ok (.aload_n 0, 1) := by decide +kernel
theorem dX6_init_93 : decode cX6_init 93 = .ok (.bipush 9, 2) := by decide +kernel
theorem dX6_init_95 : decode cX6_init 95 = .ok (.newarray .int, 2) := by decide +kernel
theorem dX6_init_97 : decode cX6_init 97 = .ok (.putfield 44, 3) := by decide +kernel
theorem dX6_init_100 : decode cX6_init 100 = .ok (.aload_n 0, 1) := by decide +kernel
theorem dX6_init_101 : decode cX6_init 101 = .ok (.bipush 9, 2) := by decide +kernel
theorem dX6_init_103 : decode cX6_init 103 = .ok (.newarray .int, 2) := by decide +kernel
theorem dX6_init_105 : decode cX6_init 105 = .ok (.putfield 47, 3) := by decide +kernel
theorem dX6_init_108 : decode cX6_init 108 = .ok (.aload_n 0, 1) := by decide +kernel
theorem dX6_init_109 : decode cX6_init 109 = .ok (.bipush 9, 2) := by decide +kernel
theorem dX6_init_111 : decode cX6_init 111 = .ok (.newarray .int, 2) := by decide +kernel
theorem dX6_init_113 : decode cX6_init 113 = .ok (.putfield 50, 3) := by decide +kernel
theorem dX6_init_116 : decode cX6_init 116 = .ok (.aload_n 0, 1) := by decide +kernel
theorem dX6_init_117 : decode cX6_init 117 = .ok (.bipush 9, 2) := by decide +kernel
theorem dX6_init_119 : decode cX6_init 119 = .ok (.newarray .int, 2) := by decide +kernel
theorem dX6_init_121 : decode cX6_init 121 = .ok (.putfield 53, 3) := by decide +kernel
theorem dX6_init_124 : decode cX6_init 124 = .ok (.aload_n 0, 1) := by decide +kernel
theorem dX6_init_125 : decode cX6_init 125 = .ok (.bipush 9, 2) := by decide +kernel
theorem dX6_init_127 : decode cX6_init 127 = .ok (.newarray .int, 2) := by decide +kernel
theorem dX6_init_129 : decode cX6_init 129 = .ok (.putfield 56, 3) := by decide +kernel
theorem dX6_init_132 : decode cX6_init 132 = .ok (.aload_n 0, 1) := by decide +kernel
theorem dX6_init_133 : decode cX6_init 133 = .ok (.bipush 9, 2) := by decide +kernel
theorem dX6_init_135 : decode cX6_init 135 = .ok (.newarray .int, 2) := by decide +kernel
theorem dX6_init_137 : decode cX6_init 137 = .ok (.putfield 59, 3) := by decide +kernel
theorem dX6_init_140 : decode cX6_init 140 = .ok (.aload_n 0, 1) := by decide +kernel
theorem dX6_init_141 : decode cX6_init 141 = .ok (.bipush 8, 2) := by decide +kernel
theorem dX6_init_143 : decode cX6_init 143 = .ok (.newarray .int, 2) := by decide +kernel
theorem dX6_init_145 : decode cX6_init 145 = .ok (.putfield 62, 3) := by decide +kernel
theorem dX6_init_148 : decode cX6_init 148 = .ok (.aload_n 0, 1) := by decide +kernel
theorem dX6_init_149 : decode cX6_init 149 = .ok (.bipush 8, 2) := by decide +kernel
theorem dX6_init_151 : decode cX6_init 151 = .ok (.newarray .int, 2) := by decide +kernel
theorem dX6_init_153 : decode cX6_init 153 = .ok (.putfield 65, 3) := by decide +kernel
theorem dX6_init_156 : decode cX6_init 156 = .ok (.aload_n 0, 1) := by decide +kernel
theorem dX6_init_157 : decode cX6_init 157 = .ok (.bipush 6, 2) := by decide +kernel
theorem dX6_init_159 : decode cX6_init 159 = .ok (.newarray .int, 2) := by decide +kernel
theorem dX6_init_161 : decode cX6_init 161 = .ok (.putfield 68, 3) := by decide +kernel
theorem dX6_init_164 : decode cX6_init 164 = .ok (.aload_n 0, 1) := by decide +kernel
theorem dX6_init_165 : decode cX6_init 165 = .ok (.bipush 6, 2) := by decide +kernel
theorem dX6_init_167 : decode cX6_init 167 = .ok (.newarray .int, 2) := by decide +kernel
theorem dX6_init_169 : decode cX6_init 169 = .ok (.putfield 71, 3) := by decide +kernel
theorem dX6_init_172 : decode cX6_init 172 = .ok (.aload_n 0, 1) := by decide +kernel
theorem dX6_init_173 : decode cX6_init 173 = .ok (.bipush 6, 2) := by decide +kernel
theorem dX6_init_175 : decode cX6_init 175 = .ok (.newarray .int, 2) := by decide +kernel
theorem dX6_init_177 : decode cX6_init 177 = .ok (.putfield 74, 3) := by decide +kernel
theorem dX6_init_180 : decode cX6_init 180 = .ok (.return_, 1) := by decide +kernel
theorem dX6_within_0 : decode cX6_within 0 = .ok (.iload_n 0, 1) := by decide +kernel
theorem dX6_within_1 : decode cX6_within 1 = .ok (.iload_n 1, 1) := by decide +kernel
theorem dX6_within_2 : decode cX6_within 2 = .ok (.if_icmp .lt 12, 3) := by decide +kernel
theorem dX6_within_5 : decode cX6_within 5 = .ok (.iload_n 0, 1) := by decide +kernel
theorem dX6_within_6 : decode cX6_within 6 = .ok (.iload_n 2, 1) := by decide +kernel
theorem dX6_within_7 : decode cX6_within 7 = .ok (.if_icmp .gt 7, 3) := by decide +kernel
theorem dX6_within_10 : decode cX6_within 10 = .ok (.iconst 1, 1) := by decide +kernel
theorem dX6_within_11 : decode cX6_within 11 = .ok (.goto 4, 3) := by decide +kernel
theorem dX6_within_14 : decode cX6_within 14 = .ok (.iconst 0, 1) := by decide +kernel
theorem dX6_within_15 : decode cX6_within 15 = .ok (.ireturn, 1) := by decide +kernel
theorem dX6_isIn_0 : decode cX6_isIn 0 = .ok (.iload_n 0, 1) := by decide +kernel
theorem dX6_isIn_1 : decode cX6_isIn 1 = .ok (.iload_n 1, 1) := by decide +kernel
theorem dX6_isIn_2 : decode cX6_isIn 2 = .ok (.ishr, 1) := by decide +kernel
theorem dX6_isIn_3 : decode cX6_isIn 3 = .ok (.iconst 1, 1) := by decide +kernel
theorem dX6_isIn_4 : decode cX6_isIn 4 = .ok (.iand, 1) := by decide +kernel
theorem dX6_isIn_5 : decode cX6_isIn 5 = .ok (.iconst 1, 1) := by decide +kernel
theorem dX6_isIn_6 : decode cX6_isIn 6 = .ok (.if_icmp .ne 7, 3) := by decide +kernel
theorem dX6_isIn_9 : decode cX6_isIn 9 = .ok (.iconst 1, 1) := by decide +kernel
theorem dX6_isIn_10 : decode cX6_isIn 10 = .ok (.goto 4, 3) := by decide +kernel
theorem dX6_isIn_13 : decode cX6_isIn 13 = .ok (.iconst 0, 1) := by decide +kernel
theorem dX6_isIn_14 : decode cX6_isIn 14 = .ok (.ireturn, 1) := by decide +kernel
theorem dX6_size_0 : decode cX6_size 0 = .ok (.iconst 0, 1) := by decide +kernel
theorem dX6_size_1 : decode cX6_size 1 = .ok (.istore_n 1, 1) := by decide +kernel
theorem dX6_size_2 : decode cX6_size 2 = .ok (.iconst 0, 1) := by decide +kernel
theorem dX6_size_3 : decode cX6_size 3 = .ok (.istore_n 2, 1) := by decide +kernel
theorem dX6_size_4 : decode cX6_size 4 = .ok (.iload_n 2, 1) := by decide +kernel
theorem dX6_size_5 : decode cX6_size 5 = .ok (.bipush 12, 2) := by decide +kernel
theorem dX6_size_7 : decode cX6_size 7 = .ok (.if_icmp .ge 17, 3) := by decide +kernel
theorem dX6_size_10 : decode cX6_size 10 = .ok (.iload_n 1, 1) := by decide +kernel
theorem dX6_size_11 : decode cX6_size 11 = .ok (.iload_n 0, 1) := by decide +kernel
theorem dX6_size_12 : decode cX6_size 12 = .ok (.iload_n 2, 1) := by decide +kernel
theorem dX6_size_13 : decode cX6_size 13 = .ok (.ishr, 1) := by decide +kernel
theorem dX6_size_14 : decode cX6_size 14 = .ok (.iconst 1, 1) := by decide +kernel
theorem dX6_size_15 : decode cX6_size 15 = .ok (.iand, 1) := by decide +kernel
theorem dX6_size_16 : decode cX6_size 16 = .ok (.iadd, 1) := by decide +kernel
theorem dX6_size_17 : decode cX6_size 17 = .ok (.istore_n 1, 1) := by decide +kernel
theorem dX6_size_18 : decode cX6_size 18 = .ok (.iinc 2 1, 3) := by decide +kernel
theorem dX6_size_21 : decode cX6_size 21 = .ok (.goto (-17), 3) := by decide +kernel
theorem dX6_size_24 : decode cX6_size 24 = .ok (.iload_n 1, 1) := by decide +kernel
theorem dX6_size_25 : decode cX6_size 25 = .ok (.ireturn, 1) := by decide +kernel
set_option maxRecDepth 20000 in
theorem ggX6_letter_X6_within : GoodIn wsX6_letter wsX6_within := goodIn_r _ [6] (by decide +kernel) (by decide +kernel)
set_option maxRecDepth 20000 in
theorem gX6_letter_X6_within : GoodIn wsX6_letter (va_wsS RX6 77 yX6_within wsX6_within) := goodIn_app (goodIn_of _ (by decide +kernel)) ggX6_letter_X6_within
theorem dX6_letter_0 : decode cX6_letter 0 = .ok (.iload_n 1, 1) := by decide +kernel
theorem dX6_letter_1 : decode cX6_letter 1 = .ok (.bipush 32, 2) := by decide +kernel
theorem dX6_letter_3 : decode cX6_letter 3 = .ok (.bipush 126, 2) := by decide +kernel
theorem dX6_letter_5 : decode cX6_letter 5 = .ok (.invokestatic 77, 3) := by decide +kernel
theorem dX6_letter_8 : decode cX6_letter 8 = .ok (.ifCond .ne 6, 3) := by decide +kernel
theorem dX6_letter_11 : decode cX6_letter 11 = .ok (.bipush (-102), 2) := by decide +kernel
theorem dX6_letter_13 : decode cX6_letter 13 = .ok (.ireturn, 1) := by decide +kernel
theorem dX6_letter_14 : decode cX6_letter 14 = .ok (.aload_n 0, 1) := by decide +kernel
theorem dX6_letter_15 : decode cX6_letter 15 = .ok (.getfield 81, 3) := by decide +kernel
theorem dX6_letter_18 : decode cX6_letter 18 = .ok (.bipush 18, 2) := by decide +kernel
theorem dX6_letter_20 : decode cX6_letter 20 = .ok (.if_icmp .ne 6, 3) := by decide +kernel
theorem dX6_letter_23 : decode cX6_letter 23 = .ok (.bipush (-104), 2) := by decide +kernel
theorem dX6_letter_25 : decode cX6_letter 25 = .ok (.ireturn, 1) := by decide +kernel
theorem dX6_letter_26 : decode cX6_letter 26 = .ok (.aload_n 0, 1) := by decide +kernel
theorem dX6_letter_27 : decode cX6_letter 27 = .ok (.getfield 25, 3) := by decide +kernel
theorem dX6_letter_30 : decode cX6_letter 30 = .ok (.aload_n 0, 1) := by decide +kernel
theorem dX6_letter_31 : decode cX6_letter 31 = .ok (.getfield 81, 3) := by decide +kernel
theorem dX6_letter_34 : decode cX6_letter 34 = .ok (.iload_n 1, 1) := by decide +kernel
theorem dX6_letter_35 : decode cX6_letter 35 = .ok (.i2b, 1) := by decide +kernel
theorem dX6_letter_36 : decode cX6_letter 36 = .ok (.bastore, 1) := by decide +kernel
theorem dX6_letter_37 : decode cX6_letter 37 = .ok (.aload_n 0, 1) := by decide +kernel
theorem dX6_letter_38 : decode cX6_letter 38 = .ok (.dup, 1) := by decide +kernel
theorem dX6_letter_39 : decode cX6_letter 39 = .ok (.getfield 81, 3) := by decide +kernel
theorem dX6_letter_42 : decode cX6_letter 42 = .ok (.iconst 1, 1) := by decide +kernel
theorem dX6_letter_43 : decode cX6_letter 43 = .ok (.iadd, 1) := by decide +kernel
theorem dX6_letter_44 : decode cX6_letter 44 = .ok (.putfield 81, 3) := by decide +kernel
theorem dX6_letter_47 : decode cX6_letter 47 = .ok (.aload_n 0, 1) := by decide +kernel
theorem dX6_letter_48 : decode cX6_letter 48 = .ok (.getfield 81, 3) := by decide +kernel
theorem dX6_letter_51 : decode cX6_letter 51 = .ok (.ireturn, 1) := by decide +kernel
theorem dX6_blank_0 : decode cX6_blank 0 = .ok (.aload_n 0, 1) := by decide +kernel
theorem dX6_blank_1 : decode cX6_blank 1 = .ok (.getfield 81, 3) := by decide +kernel
theorem dX6_blank_4 : decode cX6_blank 4 = .ok (.istore_n 1, 1) := by decide +kernel
theorem dX6_blank_5 : decode cX6_blank 5 = .ok (.aload_n 0, 1) := by decide +kernel
theorem dX6_blank_6 : decode cX6_blank 6 = .ok (.iconst 0, 1) := by decide +kernel
theorem dX6_blank_7 : decode cX6_blank 7 = .ok (.putfield 81, 3) := by decide +kernel
theorem dX6_blank_10 : decode cX6_blank 10 = .ok (.iload_n 1, 1) := by decide +kernel
theorem dX6_blank_11 : decode cX6_blank 11 = .ok (.ireturn, 1) := by decide +kernel
theorem dX6_kindBy_0 : decode cX6_kindBy 0 = .ok (.iload_n 0, 1) := by decide +kernel
theorem dX6_kindBy_1 : decode cX6_kindBy 1 = .ok (.lookupswitch 61 #[(98, 59), (102, 57), (112, 51), (115, 55), (120, 53)], 51) := by decide +kernel
theorem dX6_kindBy_52 : decode cX6_kindBy 52 = .ok (.iconst 0, 1) := by decide +kernel
theorem dX6_kindBy_53 : decode cX6_kindBy 53 = .ok (.ireturn, 1) := by decide +kernel
theorem dX6_kindBy_54 : decode cX6_kindBy 54 = .ok (.iconst 1, 1) := by decide +kernel
theorem dX6_kindBy_55 : decode cX6_kindBy 55 = .ok (.ireturn, 1) := by decide +kernel
theorem dX6_kindBy_56 : decode cX6_kindBy 56 = .ok (.iconst 2, 1) := by decide +kernel
theorem dX6_kindBy_57 : decode cX6_kindBy 57 = .ok (.ireturn, 1) := by decide +kernel
theorem dX6_kindBy_58 : decode cX6_kindBy 58 = .ok (.iconst 3, 1) := by decide +kernel
theorem dX6_kindBy_59 : decode cX6_kindBy 59 = .ok (.ireturn, 1) := by decide +kernel
theorem dX6_kindBy_60 : decode cX6_kindBy 60 = .ok (.iconst 4, 1) := by decide +kernel
theorem dX6_kindBy_61 : decode cX6_kindBy 61 = .ok (.ireturn, 1) := by decide +kernel
theorem dX6_kindBy_62 : decode cX6_kindBy 62 = .ok (.iconst (-1), 1) := by decide +kernel
theorem dX6_kindBy_63 : decode cX6_kindBy 63 = .ok (.ireturn, 1) := by decide +kernel
theorem dX6_at_0 : decode cX6_at 0 = .ok (.iload_n 1, 1) := by decide +kernel
theorem dX6_at_1 : decode cX6_at 1 = .ok (.aload_n 0, 1) := by decide +kernel
theorem dX6_at_2 : decode cX6_at 2 = .ok (.getfield 81, 3) := by decide +kernel
theorem dX6_at_5 : decode cX6_at 5 = .ok (.if_icmp .ge 12, 3) := by decide +kernel
theorem dX6_at_8 : decode cX6_at 8 = .ok (.aload_n 0, 1) := by decide +kernel
theorem dX6_at_9 : decode cX6_at 9 = .ok (.getfield 25, 3) := by decide +kernel
theorem dX6_at_12 : decode cX6_at 12 = .ok (.iload_n 1, 1) := by decide +kernel
theorem dX6_at_13 : decode cX6_at 13 = .ok (.baload, 1) := by decide +kernel
theorem dX6_at_14 : decode cX6_at 14 = .ok (.goto 4, 3) := by decide +kernel
theorem dX6_at_17 : decode cX6_at 17 = .ok (.iconst 0, 1) := by decide +kernel
theorem dX6_at_18 : decode cX6_at 18 = .ok (.ireturn, 1) := by decide +kernel
set_option maxRecDepth 20000 in
theorem ggX6_readPlaces_X6_at : GoodIn wsX6_readPlaces wsX6_at := goodIn_r _ [8, 2, 9, 13, 14, 15, 16, 17, 18, 19, 20, 21, 22, 23, 24, 25, 26, 27, 28, 29, 30, 31, 32, 33, 34, 35, 36, 37, 38, 39, 40, 41, 42, 43, 44, 45, 46, 47, 48, 49, 50, 51, 52] (by decide +kernel) (by decide +kernel)
set_option maxRecDepth 20000 in
theorem gX6_readPlaces_X6_at : GoodIn wsX6_readPlaces (wsV RX6 85 RX6 yX6_at wsX6_at) := goodIn_app (goodIn_of _ (by decide +kernel)) ggX6_readPlaces_X6_at
set_option maxRecDepth 20000 in
theorem ggX6_readPlaces_X6_kindBy : GoodIn wsX6_readPlaces wsX6_kindBy := goodIn_r _ [12] (by decide +kernel) (by decide +kernel)
set_option maxRecDepth 20000 in
theorem gX6_readPlaces_X6_kindBy : GoodIn wsX6_readPlaces (va_wsS RX6 89 yX6_kindBy wsX6_kindBy) := goodIn_app (goodIn_of _ (by decide +kernel)) ggX6_readPlaces_X6_kindBy
theorem dX6_readPlaces_0 : decode cX6_readPlaces 0 = .ok (.iconst 3, 1) := by decide +kernel
theorem dX6_readPlaces_1 : decode cX6_readPlaces 1 = .ok (.istore_n 2, 1) := by decide +kernel
theorem dX6_readPlaces_2 : decode cX6_readPlaces 2 = .ok (.iload_n 2, 1) := by decide +kernel
theorem dX6_readPlaces_3 : decode cX6_readPlaces 3 = .ok (.iconst 3, 1) := by decide +kernel
theorem dX6_readPlaces_4 : decode cX6_readPlaces 4 = .ok (.iload_n 1, 1) := by decide +kernel
theorem dX6_readPlaces_5 : decode cX6_readPlaces 5 = .ok (.iadd, 1) := by decide +kernel
theorem dX6_readPlaces_6 : decode cX6_readPlaces 6 = .ok (.if_icmp .ge 84, 3) := by decide +kernel
theorem dX6_readPlaces_9 : decode cX6_readPlaces 9 = .ok (.aload_n 0, 1) := by decide +kernel
theorem dX6_readPlaces_10 : decode cX6_readPlaces 10 = .ok (.iload_n 2, 1) := by decide +kernel
theorem dX6_readPlaces_11 : decode cX6_readPlaces 11 = .ok (.invokevirtual 85, 3) := by decide +kernel
theorem dX6_readPlaces_14 : decode cX6_readPlaces 14 = .ok (.invokestatic 89, 3) := by decide +kernel
theorem dX6_readPlaces_17 : decode cX6_readPlaces 17 = .ok (.iconst (-1), 1) := by decide +kernel
theorem dX6_readPlaces_18 : decode cX6_readPlaces 18 = .ok (.if_icmp .eq 7, 3) := by decide +kernel
theorem dX6_readPlaces_21 : decode cX6_readPlaces 21 = .ok (.iconst 1, 1) := by decide +kernel
theorem dX6_readPlaces_22 : decode cX6_readPlaces 22 = .ok (.goto 4, 3) := by decide +kernel
theorem dX6_readPlaces_25 : decode cX6_readPlaces 25 = .ok (.iconst 0, 1) := by decide +kernel
theorem dX6_readPlaces_26 : decode cX6_readPlaces 26 = .ok (.istore_n 3, 1) := by decide +kernel
theorem dX6_readPlaces_27 : decode cX6_readPlaces 27 = .ok (.iload_n 3, 1) := by decide +kernel
theorem dX6_readPlaces_28 : decode cX6_readPlaces 28 = .ok (.ifCond .ne 23, 3) := by decide +kernel
theorem dX6_readPlaces_31 : decode cX6_readPlaces 31 = .ok (.aload_n 0, 1) := by decide +kernel
theorem dX6_readPlaces_32 : decode cX6_readPlaces 32 = .ok (.iload_n 2, 1) := by decide +kernel
theorem dX6_readPlaces_33 : decode cX6_readPlaces 33 = .ok (.invokevirtual 85, 3) := by decide +kernel
theorem dX6_readPlaces_36 : decode cX6_readPlaces 36 = .ok (.bipush 46, 2) := by decide +kernel
theorem dX6_readPlaces_38 : decode cX6_readPlaces 38 = .ok (.if_icmp .eq 13, 3) := by decide +kernel
theorem dX6_readPlaces_41 : decode cX6_readPlaces 41 = .ok (.aload_n 0, 1) := by decide +kernel
theorem dX6_readPlaces_42 : decode cX6_readPlaces 42 = .ok (.iload_n 2, 1) := by decide +kernel
theorem dX6_readPlaces_43 : decode cX6_readPlaces 43 = .ok (.invokevirtual 85, 3) := by decide +kernel
theorem dX6_readPlaces_46 : decode cX6_readPlaces 46 = .ok (.bipush 35, 2) := by decide +kernel
theorem dX6_readPlaces_48 : decode cX6_readPlaces 48 = .ok (.if_icmp .ne 16, 3) := by decide +kernel
theorem dX6_readPlaces_51 : decode cX6_readPlaces 51 = .ok (.iload_n 3, 1) := by decide +kernel
theorem dX6_readPlaces_52 : decode cX6_readPlaces 52 = .ok (.ifCond .eq 14, 3) := by decide +kernel
theorem dX6_readPlaces_55 : decode cX6_readPlaces 55 = .ok (.aload_n 0, 1) := by decide +kernel
theorem dX6_readPlaces_56 : decode cX6_readPlaces 56 = .ok (.getfield 92, 3) := by decide +kernel
theorem dX6_readPlaces_59 : decode cX6_readPlaces 59 = .ok (.bipush 7, 2) := by decide +kernel
theorem dX6_readPlaces_61 : decode cX6_readPlaces 61 = .ok (.if_icmp .ne 5, 3) := by decide +kernel
theorem dX6_readPlaces_64 : decode cX6_readPlaces 64 = .ok (.iload_n 2, 1) := by decide +kernel
theorem dX6_readPlaces_65 : decode cX6_readPlaces 65 = .ok (.ireturn, 1) := by decide +kernel
theorem dX6_readPlaces_66 : decode cX6_readPlaces 66 = .ok (.aload_n 0, 1) := by decide +kernel
theorem dX6_readPlaces_67 : decode cX6_readPlaces 67 = .ok (.dup, 1) := by decide +kernel
theorem dX6_readPlaces_68 : decode cX6_readPlaces 68 = .ok (.getfield 92, 3) := by decide +kernel
theorem dX6_readPlaces_71 : decode cX6_readPlaces 71 = .ok (.iload_n 3, 1) := by decide +kernel
theorem dX6_readPlaces_72 : decode cX6_readPlaces 72 = .ok (.ifCond .eq 7, 3) := by decide +kernel
theorem dX6_readPlaces_75 : decode cX6_readPlaces 75 = .ok (.iconst 1, 1) := by decide +kernel
theorem dX6_readPlaces_76 : decode cX6_readPlaces 76 = .ok (.goto 4, 3) := by decide +kernel
theorem dX6_readPlaces_79 : decode cX6_readPlaces 79 = .ok (.iconst 0, 1) := by decide +kernel
theorem dX6_readPlaces_80 : decode cX6_readPlaces 80 = .ok (.iadd, 1) := by decide +kernel
theorem dX6_readPlaces_81 : decode cX6_readPlaces 81 = .ok (.putfield 92, 3) := by decide +kernel
theorem dX6_readPlaces_84 : decode cX6_readPlaces 84 = .ok (.iinc 2 1, 3) := by decide +kernel
theorem dX6_readPlaces_87 : decode cX6_readPlaces 87 = .ok (.goto (-85), 3) := by decide +kernel
theorem dX6_readPlaces_90 : decode cX6_readPlaces 90 = .ok (.aload_n 0, 1) := by decide +kernel
theorem dX6_readPlaces_91 : decode cX6_readPlaces 91 = .ok (.aload_n 0, 1) := by decide +kernel
theorem dX6_readPlaces_92 : decode cX6_readPlaces 92 = .ok (.getfield 92, 3) := by decide +kernel
theorem dX6_readPlaces_95 : decode cX6_readPlaces 95 = .ok (.ifCond .le 15, 3) := by decide +kernel
theorem dX6_readPlaces_98 : decode cX6_readPlaces 98 = .ok (.iload_n 2, 1) := by decide +kernel
theorem dX6_readPlaces_99 : decode cX6_readPlaces 99 = .ok (.aload_n 0, 1) := by decide +kernel
theorem dX6_readPlaces_100 : decode cX6_readPlaces 100 = .ok (.getfield 81, 3) := by decide +kernel
theorem dX6_readPlaces_103 : decode cX6_readPlaces 103 = .ok (.if_icmp .ne 7, 3) := by decide +kernel
theorem dX6_readPlaces_106 : decode cX6_readPlaces 106 = .ok (.iconst 1, 1) := by decide +kernel
theorem dX6_readPlaces_107 : decode cX6_readPlaces 107 = .ok (.goto 4, 3) := by decide +kernel
theorem dX6_readPlaces_110 : decode cX6_readPlaces 110 = .ok (.iconst 0, 1) := by decide +kernel
theorem dX6_readPlaces_111 : decode cX6_readPlaces 111 = .ok (.putfield 95, 3) := by decide +kernel
theorem dX6_readPlaces_114 : decode cX6_readPlaces 114 = .ok (.iload_n 2, 1) := by decide +kernel
theorem dX6_readPlaces_115 : decode cX6_readPlaces 115 = .ok (.ireturn, 1) := by decide +kernel
set_option maxRecDepth 20000 in
theorem ggX6_read_X6_at : GoodIn wsX6_read wsX6_at := goodIn_r _ [7, 8, 9, 20, 21, 22, 23, 24, 25, 26, 27, 28, 29, 30, 31, 32, 33, 34, 35, 36, 37, 38, 39, 40, 41, 42, 43, 44, 45, 46, 47, 48, 49, 50, 51, 52, 53, 54, 55, 56, 57, 58, 59] (by decide +kernel) (by decide +kernel)
set_option maxRecDepth 20000 in
theorem gX6_read_X6_at : GoodIn wsX6_read (wsV RX6 85 RX6 yX6_at wsX6_at) := goodIn_app (goodIn_of _ (by decide +kernel)) ggX6_read_X6_at
set_option maxRecDepth 20000 in
theorem ggX6_read_X6_within : GoodIn wsX6_read wsX6_within := goodIn_r _ [12] (by decide +kernel) (by decide +kernel)
set_option maxRecDepth 20000 in
theorem gX6_read_X6_within : GoodIn wsX6_read (va_wsS RX6 77 yX6_within wsX6_within) := goodIn_app (goodIn_of _ (by decide +kernel)) ggX6_read_X6_within
set_option maxRecDepth 20000 in
theorem ggX6_read_X6_readPlaces : GoodIn wsX6_read wsX6_readPlaces := goodIn_r _ [16, 2, 8, 1, 3, 4, 5, 6, 7, 9, 17, 18, 19, 20, 21, 22, 23, 24, 25, 26, 27, 28, 29, 30, 31, 32, 33, 34, 35, 36, 37, 38, 39, 40, 41, 42, 43, 44, 45, 46, 47, 48, 49, 50, 51, 52, 53, 54, 55, 56, 57, 58, 59] (by decide +kernel) (by decide +kernel)
set_option maxRecDepth 20000 in
theorem gX6_read_X6_readPlaces : GoodIn wsX6_read (wsV RX6 99 RX6 yX6_readPlaces wsX6_readPlaces) := goodIn_app (goodIn_of _ (by decide +kernel)) ggX6_read_X6_readPlaces
theorem dX6_read_0 : decode cX6_read 0 = .ok (.aload_n 0, 1) := by decide +kernel
theorem dX6_read_1 : decode cX6_read 1 = .ok (.iconst 0, 1) := by decide +kernel
theorem dX6_read_2 : decode cX6_read 2 = .ok (.putfield 95, 3) := by decide +kernel
theorem dX6_read_5 : decode cX6_read 5 = .ok (.aload_n 0, 1) := by decide +kernel
theorem dX6_read_6 : decode cX6_read 6 = .ok (.iconst 0, 1) := by decide +kernel
theorem dX6_read_7 : decode cX6_read 7 = .ok (.putfield 92, 3) := by decide +kernel
theorem dX6_read_10 : decode cX6_read 10 = .ok (.aload_n 0, 1) := by decide +kernel
theorem dX6_read_11 : decode cX6_read 11 = .ok (.iconst 0, 1) := by decide +kernel
theorem dX6_read_12 : decode cX6_read 12 = .ok (.invokevirtual 85, 3) := by decide +kernel
theorem dX6_read_15 : decode cX6_read 15 = .ok (.bipush 48, 2) := by decide +kernel
theorem dX6_read_17 : decode cX6_read 17 = .ok (.isub, 1) := by decide +kernel
theorem dX6_read_18 : decode cX6_read 18 = .ok (.istore_n 1, 1) := by decide +kernel
theorem dX6_read_19 : decode cX6_read 19 = .ok (.aload_n 0, 1) := by decide +kernel
theorem dX6_read_20 : decode cX6_read 20 = .ok (.iconst 1, 1) := by decide +kernel
theorem dX6_read_21 : decode cX6_read 21 = .ok (.invokevirtual 85, 3) := by decide +kernel
theorem dX6_read_24 : decode cX6_read 24 = .ok (.bipush 48, 2) := by decide +kernel
theorem dX6_read_26 : decode cX6_read 26 = .ok (.isub, 1) := by decide +kernel
theorem dX6_read_27 : decode cX6_read 27 = .ok (.istore_n 2, 1) := by decide +kernel
theorem dX6_read_28 : decode cX6_read 28 = .ok (.iload_n 1, 1) := by decide +kernel
theorem dX6_read_29 : decode cX6_read 29 = .ok (.iconst 2, 1) := by decide +kernel
theorem dX6_read_30 : decode cX6_read 30 = .ok (.iconst 4, 1) := by decide +kernel
theorem dX6_read_31 : decode cX6_read 31 = .ok (.invokestatic 77, 3) := by decide +kernel
theorem dX6_read_34 : decode cX6_read 34 = .ok (.ifCond .ne 5, 3) := by decide +kernel
theorem dX6_read_37 : decode cX6_read 37 = .ok (.iconst 0, 1) := by decide +kernel
theorem dX6_read_38 : decode cX6_read 38 = .ok (.ireturn, 1) := by decide +kernel
theorem dX6_read_39 : decode cX6_read 39 = .ok (.iload_n 2, 1) := by decide +kernel
theorem dX6_read_40 : decode cX6_read 40 = .ok (.iconst 2, 1) := by decide +kernel
theorem dX6_read_41 : decode cX6_read 41 = .ok (.iconst 4, 1) := by decide +kernel
theorem dX6_read_42 : decode cX6_read 42 = .ok (.invokestatic 77, 3) := by decide +kernel
theorem dX6_read_45 : decode cX6_read 45 = .ok (.ifCond .eq 11, 3) := by decide +kernel
theorem dX6_read_48 : decode cX6_read 48 = .ok (.iload_n 1, 1) := by decide +kernel
theorem dX6_read_49 : decode cX6_read 49 = .ok (.iload_n 2, 1) := by decide +kernel
theorem dX6_read_50 : decode cX6_read 50 = .ok (.imul, 1) := by decide +kernel
theorem dX6_read_51 : decode cX6_read 51 = .ok (.bipush 12, 2) := by decide +kernel
theorem dX6_read_53 : decode cX6_read 53 = .ok (.if_icmp .le 5, 3) := by decide +kernel
theorem dX6_read_56 : decode cX6_read 56 = .ok (.iconst 1, 1) := by decide +kernel
theorem dX6_read_57 : decode cX6_read 57 = .ok (.ireturn, 1) := by decide +kernel
theorem dX6_read_58 : decode cX6_read 58 = .ok (.aload_n 0, 1) := by decide +kernel
theorem dX6_read_59 : decode cX6_read 59 = .ok (.iconst 2, 1) := by decide +kernel
theorem dX6_read_60 : decode cX6_read 60 = .ok (.invokevirtual 85, 3) := by decide +kernel
theorem dX6_read_63 : decode cX6_read 63 = .ok (.bipush 59, 2) := by decide +kernel
theorem dX6_read_65 : decode cX6_read 65 = .ok (.if_icmp .eq 5, 3) := by decide +kernel
theorem dX6_read_68 : decode cX6_read 68 = .ok (.iconst 2, 1) := by decide +kernel
theorem dX6_read_69 : decode cX6_read 69 = .ok (.ireturn, 1) := by decide +kernel
theorem dX6_read_70 : decode cX6_read 70 = .ok (.aload_n 0, 1) := by decide +kernel
theorem dX6_read_71 : decode cX6_read 71 = .ok (.iload_n 1, 1) := by decide +kernel
theorem dX6_read_72 : decode cX6_read 72 = .ok (.iload_n 2, 1) := by decide +kernel
theorem dX6_read_73 : decode cX6_read 73 = .ok (.imul, 1) := by decide +kernel
theorem dX6_read_74 : decode cX6_read 74 = .ok (.invokevirtual 99, 3) := by decide +kernel
theorem dX6_read_77 : decode cX6_read 77 = .ok (.ireturn, 1) := by decide +kernel
set_option maxRecDepth 20000 in
theorem ggX6_fault_X6_read : GoodIn wsX6_fault wsX6_read := goodIn_r _ [5, 6, 7, 8, 9, 10, 4, 11, 12, 13, 14, 15, 16, 17, 18, 19, 20, 21, 22, 23, 24, 25, 26, 27, 28, 29, 30, 31, 32, 33, 34, 35, 36, 37, 38, 39, 40, 41, 42, 43, 44, 45, 46, 47, 48, 49, 50, 51, 52, 53, 54, 55, 56, 57, 58, 59, 60, 61, 62, 63] (by decide +kernel) (by decide +kernel)
set_option maxRecDepth 20000 in
theorem gX6_fault_X6_read : GoodIn wsX6_fault (wsV RX6 102 RX6 yX6_read wsX6_read) := goodIn_app (goodIn_of _ (by decide +kernel)) ggX6_fault_X6_read
theorem dX6_fault_0 : decode cX6_fault 0 = .ok (.aload_n 0, 1) := by decide +kernel
theorem dX6_fault_1 : decode cX6_fault 1 = .ok (.invokevirtual 102, 3) := by decide +kernel
theorem dX6_fault_4 : decode cX6_fault 4 = .ok (.ireturn, 1) := by decide +kernel
set_option maxRecDepth 20000 in
theorem ggX6_board_X6_read : GoodIn wsX6_board wsX6_read := goodIn_r _ [17, 1, 18, 19, 20, 21, 16, 22, 12, 2, 23, 24, 25, 26, 27, 28, 29, 30, 31, 32, 37, 38, 39, 40, 41, 42, 43, 44, 45, 46, 47, 48, 49, 50, 51, 52, 53, 54, 55, 56, 57, 58, 59, 60, 61, 62, 63, 64, 65, 66, 67, 68, 69, 70, 71, 72, 73, 74, 75, 76] (by decide +kernel) (by decide +kernel)
set_option maxRecDepth 20000 in
theorem gX6_board_X6_read : GoodIn wsX6_board (wsV RX6 102 RX6 yX6_read wsX6_read) := goodIn_app (goodIn_of _ (by decide +kernel)) ggX6_board_X6_read
set_option maxRecDepth 20000 in
theorem ggX6_board_X6_places : GoodIn wsX6_board wsX6_places := goodIn_r _ [36, 3, 4, 37, 38, 39, 40, 41, 42, 43, 44, 45, 46, 47, 48, 49, 50, 51, 52, 53, 54, 55, 56, 57, 58, 59, 60, 61, 62, 63, 64, 65, 66, 67, 68, 69, 70, 71, 72, 73, 74, 75, 76] (by decide +kernel) (by decide +kernel)
set_option maxRecDepth 20000 in
theorem gX6_board_X6_places : GoodIn wsX6_board (wsV RX6 118 RX6 yX6_places wsX6_places) := goodIn_app (goodIn_of _ (by decide +kernel)) ggX6_board_X6_places
set_option maxRecDepth 20000 in
theorem ggX6_board_X6_kindBy : GoodIn wsX6_board wsX6_kindBy := goodIn_r _ [32] (by decide +kernel) (by decide +kernel)
set_option maxRecDepth 20000 in
theorem gX6_board_X6_kindBy : GoodIn wsX6_board (va_wsS RX6 89 yX6_kindBy wsX6_kindBy) := goodIn_app (goodIn_of _ (by decide +kernel)) ggX6_board_X6_kindBy
theorem dX6_board_0 : decode cX6_board 0 = .ok (.aload_n 0, 1) := by decide +kernel
theorem dX6_board_1 : decode cX6_board 1 = .ok (.invokevirtual 102, 3) := by decide +kernel
theorem dX6_board_4 : decode cX6_board 4 = .ok (.pop, 1) := by decide +kernel
theorem dX6_board_5 : decode cX6_board 5 = .ok (.aload_n 0, 1) := by decide +kernel
theorem dX6_board_6 : decode cX6_board 6 = .ok (.getfield 95, 3) := by decide +kernel
theorem dX6_board_9 : decode cX6_board 9 = .ok (.ifCond .ne 6, 3) := by decide +kernel
theorem dX6_board_12 : decode cX6_board 12 = .ok (.bipush (-103), 2) := by decide +kernel
theorem dX6_board_14 : decode cX6_board 14 = .ok (.ireturn, 1) := by decide +kernel
theorem dX6_board_15 : decode cX6_board 15 = .ok (.aload_n 0, 1) := by decide +kernel
theorem dX6_board_16 : decode cX6_board 16 = .ok (.aload_n 0, 1) := by decide +kernel
theorem dX6_board_17 : decode cX6_board 17 = .ok (.getfield 25, 3) := by decide +kernel
theorem dX6_board_20 : decode cX6_board 20 = .ok (.iconst 0, 1) := by decide +kernel
theorem dX6_board_21 : decode cX6_board 21 = .ok (.baload, 1) := by decide +kernel
theorem dX6_board_22 : decode cX6_board 22 = .ok (.bipush 48, 2) := by decide +kernel
theorem dX6_board_24 : decode cX6_board 24 = .ok (.isub, 1) := by decide +kernel
theorem dX6_board_25 : decode cX6_board 25 = .ok (.putfield 106, 3) := by decide +kernel
theorem dX6_board_28 : decode cX6_board 28 = .ok (.aload_n 0, 1) := by decide +kernel
theorem dX6_board_29 : decode cX6_board 29 = .ok (.aload_n 0, 1) := by decide +kernel
theorem dX6_board_30 : decode cX6_board 30 = .ok (.getfield 25, 3) := by decide +kernel
theorem dX6_board_33 : decode cX6_board 33 = .ok (.iconst 1, 1) := by decide +kernel
theorem dX6_board_34 : decode cX6_board 34 = .ok (.baload, 1) := by decide +kernel
theorem dX6_board_35 : decode cX6_board 35 = .ok (.bipush 48, 2) := by decide +kernel
theorem dX6_board_37 : decode cX6_board 37 = .ok (.isub, 1) := by decide +kernel
theorem dX6_board_38 : decode cX6_board 38 = .ok (.putfield 109, 3) := by decide +kernel
theorem dX6_board_41 : decode cX6_board 41 = .ok (.aload_n 0, 1) := by decide +kernel
theorem dX6_board_42 : decode cX6_board 42 = .ok (.iconst 0, 1) := by decide +kernel
theorem dX6_board_43 : decode cX6_board 43 = .ok (.putfield 112, 3) := by decide +kernel
theorem dX6_board_46 : decode cX6_board 46 = .ok (.aload_n 0, 1) := by decide +kernel
theorem dX6_board_47 : decode cX6_board 47 = .ok (.iconst 0, 1) := by decide +kernel
theorem dX6_board_48 : decode cX6_board 48 = .ok (.putfield 115, 3) := by decide +kernel
theorem dX6_board_51 : decode cX6_board 51 = .ok (.iconst 0, 1) := by decide +kernel
theorem dX6_board_52 : decode cX6_board 52 = .ok (.istore_n 1, 1) := by decide +kernel
theorem dX6_board_53 : decode cX6_board 53 = .ok (.iload_n 1, 1) := by decide +kernel
theorem dX6_board_54 : decode cX6_board 54 = .ok (.aload_n 0, 1) := by decide +kernel
theorem dX6_board_55 : decode cX6_board 55 = .ok (.invokevirtual 118, 3) := by decide +kernel
theorem dX6_board_58 : decode cX6_board 58 = .ok (.if_icmp .ge 81, 3) := by decide +kernel
theorem dX6_board_61 : decode cX6_board 61 = .ok (.aload_n 0, 1) := by decide +kernel
theorem dX6_board_62 : decode cX6_board 62 = .ok (.getfield 25, 3) := by decide +kernel
theorem dX6_board_65 : decode cX6_board 65 = .ok (.iconst 3, 1) := by decide +kernel
theorem dX6_board_66 : decode cX6_board 66 = .ok (.iload_n 1, 1) := by decide +kernel
theorem dX6_board_67 : decode cX6_board 67 = .ok (.iadd, 1) := by decide +kernel
theorem dX6_board_68 : decode cX6_board 68 = .ok (.baload, 1) := by decide +kernel
theorem dX6_board_69 : decode cX6_board 69 = .ok (.istore_n 2, 1) := by decide +kernel
theorem dX6_board_70 : decode cX6_board 70 = .ok (.aload_n 0, 1) := by decide +kernel
theorem dX6_board_71 : decode cX6_board 71 = .ok (.dup, 1) := by decide +kernel
theorem dX6_board_72 : decode cX6_board 72 = .ok (.getfield 112, 3) := by decide +kernel
theorem dX6_board_75 : decode cX6_board 75 = .ok (.iload_n 2, 1) := by decide +kernel
theorem dX6_board_76 : decode cX6_board 76 = .ok (.bipush 35, 2) := by decide +kernel
theorem dX6_board_78 : decode cX6_board 78 = .ok (.if_icmp .ne 7, 3) := by decide +kernel
theorem dX6_board_81 : decode cX6_board 81 = .ok (.iconst 0, 1) := by decide +kernel
theorem dX6_board_82 : decode cX6_board 82 = .ok (.goto 6, 3) := by decide +kernel
theorem dX6_board_85 : decode cX6_board 85 = .ok (.iconst 1, 1) := by decide +kernel
theorem dX6_board_86 : decode cX6_board 86 = .ok (.iload_n 1, 1) := by decide +kernel
theorem dX6_board_87 : decode cX6_board 87 = .ok (.ishl, 1) := by decide +kernel
theorem dX6_board_88 : decode cX6_board 88 = .ok (.ior, 1) := by decide +kernel
theorem dX6_board_89 : decode cX6_board 89 = .ok (.putfield 112, 3) := by decide +kernel
theorem dX6_board_92 : decode cX6_board 92 = .ok (.iload_n 2, 1) := by decide +kernel
theorem dX6_board_93 : decode cX6_board 93 = .ok (.invokestatic 89, 3) := by decide +kernel
theorem dX6_board_96 : decode cX6_board 96 = .ok (.iconst (-1), 1) := by decide +kernel
theorem dX6_board_97 : decode cX6_board 97 = .ok (.if_icmp .eq 36, 3) := by decide +kernel
theorem dX6_board_100 : decode cX6_board 100 = .ok (.aload_n 0, 1) := by decide +kernel
theorem dX6_board_101 : decode cX6_board 101 = .ok (.getfield 7, 3) := by decide +kernel
theorem dX6_board_104 : decode cX6_board 104 = .ok (.aload_n 0, 1) := by decide +kernel
theorem dX6_board_105 : decode cX6_board 105 = .ok (.getfield 115, 3) := by decide +kernel
theorem dX6_board_108 : decode cX6_board 108 = .ok (.iload_n 2, 1) := by decide +kernel
theorem dX6_board_109 : decode cX6_board 109 = .ok (.invokestatic 89, 3) := by decide +kernel
theorem dX6_board_112 : decode cX6_board 112 = .ok (.iastore, 1) := by decide +kernel
theorem dX6_board_113 : decode cX6_board 113 = .ok (.aload_n 0, 1) := by decide +kernel
theorem dX6_board_114 : decode cX6_board 114 = .ok (.getfield 13, 3) := by decide +kernel
theorem dX6_board_117 : decode cX6_board 117 = .ok (.aload_n 0, 1) := by decide +kernel
theorem dX6_board_118 : decode cX6_board 118 = .ok (.getfield 115, 3) := by decide +kernel
theorem dX6_board_121 : decode cX6_board 121 = .ok (.iload_n 1, 1) := by decide +kernel
theorem dX6_board_122 : decode cX6_board 122 = .ok (.iastore, 1) := by decide +kernel
theorem dX6_board_123 : decode cX6_board 123 = .ok (.aload_n 0, 1) := by decide +kernel
theorem dX6_board_124 : decode cX6_board 124 = .ok (.dup, 1) := by decide +kernel
theorem dX6_board_125 : decode cX6_board 125 = .ok (.getfield 115, 3) := by decide +kernel
theorem dX6_board_128 : decode cX6_board 128 = .ok (.iconst 1, 1) := by decide +kernel
theorem dX6_board_129 : decode cX6_board 129 = .ok (.iadd, 1) := by decide +kernel
theorem dX6_board_130 : decode cX6_board 130 = .ok (.putfield 115, 3) := by decide +kernel
theorem dX6_board_133 : decode cX6_board 133 = .ok (.iinc 1 1, 3) := by decide +kernel
theorem dX6_board_136 : decode cX6_board 136 = .ok (.goto (-83), 3) := by decide +kernel
theorem dX6_board_139 : decode cX6_board 139 = .ok (.aload_n 0, 1) := by decide +kernel
theorem dX6_board_140 : decode cX6_board 140 = .ok (.iconst 0, 1) := by decide +kernel
theorem dX6_board_141 : decode cX6_board 141 = .ok (.putfield 121, 3) := by decide +kernel
theorem dX6_board_144 : decode cX6_board 144 = .ok (.aload_n 0, 1) := by decide +kernel
theorem dX6_board_145 : decode cX6_board 145 = .ok (.dup, 1) := by decide +kernel
theorem dX6_board_146 : decode cX6_board 146 = .ok (.getfield 124, 3) := by decide +kernel
theorem dX6_board_149 : decode cX6_board 149 = .ok (.iconst 1, 1) := by decide +kernel
theorem dX6_board_150 : decode cX6_board 150 = .ok (.iadd, 1) := by decide +kernel
theorem dX6_board_151 : decode cX6_board 151 = .ok (.putfield 124, 3) := by decide +kernel
theorem dX6_board_154 : decode cX6_board 154 = .ok (.aload_n 0, 1) := by decide +kernel
theorem dX6_board_155 : decode cX6_board 155 = .ok (.iconst 0, 1) := by decide +kernel
theorem dX6_board_156 : decode cX6_board 156 = .ok (.putfield 127, 3) := by decide +kernel
theorem dX6_board_159 : decode cX6_board 159 = .ok (.aload_n 0, 1) := by decide +kernel
theorem dX6_board_160 : decode cX6_board 160 = .ok (.iconst 0, 1) := by decide +kernel
theorem dX6_board_161 : decode cX6_board 161 = .ok (.putfield 81, 3) := by decide +kernel
theorem dX6_board_164 : decode cX6_board 164 = .ok (.aload_n 0, 1) := by decide +kernel
theorem dX6_board_165 : decode cX6_board 165 = .ok (.getfield 115, 3) := by decide +kernel
theorem dX6_board_168 : decode cX6_board 168 = .ok (.ireturn, 1) := by decide +kernel
theorem dX6_places_0 : decode cX6_places 0 = .ok (.aload_n 0, 1) := by decide +kernel
theorem dX6_places_1 : decode cX6_places 1 = .ok (.getfield 106, 3) := by decide +kernel
theorem dX6_places_4 : decode cX6_places 4 = .ok (.aload_n 0, 1) := by decide +kernel
theorem dX6_places_5 : decode cX6_places 5 = .ok (.getfield 109, 3) := by decide +kernel
theorem dX6_places_8 : decode cX6_places 8 = .ok (.imul, 1) := by decide +kernel
theorem dX6_places_9 : decode cX6_places 9 = .ok (.ireturn, 1) := by decide +kernel
set_option maxRecDepth 20000 in
theorem ggX6_isPeg_X6_within : GoodIn wsX6_isPeg wsX6_within := goodIn_r _ [5] (by decide +kernel) (by decide +kernel)
set_option maxRecDepth 20000 in
theorem gX6_isPeg_X6_within : GoodIn wsX6_isPeg (va_wsS RX6 77 yX6_within wsX6_within) := goodIn_app (goodIn_of _ (by decide +kernel)) ggX6_isPeg_X6_within
theorem dX6_isPeg_0 : decode cX6_isPeg 0 = .ok (.iload_n 1, 1) := by decide +kernel
theorem dX6_isPeg_1 : decode cX6_isPeg 1 = .ok (.iconst 0, 1) := by decide +kernel
theorem dX6_isPeg_2 : decode cX6_isPeg 2 = .ok (.aload_n 0, 1) := by decide +kernel
theorem dX6_isPeg_3 : decode cX6_isPeg 3 = .ok (.getfield 115, 3) := by decide +kernel
theorem dX6_isPeg_6 : decode cX6_isPeg 6 = .ok (.iconst 1, 1) := by decide +kernel
theorem dX6_isPeg_7 : decode cX6_isPeg 7 = .ok (.isub, 1) := by decide +kernel
theorem dX6_isPeg_8 : decode cX6_isPeg 8 = .ok (.invokestatic 77, 3) := by decide +kernel
theorem dX6_isPeg_11 : decode cX6_isPeg 11 = .ok (.ireturn, 1) := by decide +kernel
set_option maxRecDepth 20000 in
theorem ggX6_isPlace_X6_places : GoodIn wsX6_isPlace wsX6_places := goodIn_r _ [5, 6, 7, 11, 12, 13, 14, 15, 16, 17, 18, 19, 20, 21, 22, 23, 24, 25, 26, 27, 28, 29, 30, 31, 32, 33, 34, 35, 36, 37, 38, 39, 40, 41, 42, 43, 44, 45, 46, 47, 48, 49, 50] (by decide +kernel) (by decide +kernel)
set_option maxRecDepth 20000 in
theorem gX6_isPlace_X6_places : GoodIn wsX6_isPlace (wsV RX6 118 RX6 yX6_places wsX6_places) := goodIn_app (goodIn_of _ (by decide +kernel)) ggX6_isPlace_X6_places
set_option maxRecDepth 20000 in
theorem ggX6_isPlace_X6_within : GoodIn wsX6_isPlace wsX6_within := goodIn_r _ [10] (by decide +kernel) (by decide +kernel)
set_option maxRecDepth 20000 in
theorem gX6_isPlace_X6_within : GoodIn wsX6_isPlace (va_wsS RX6 77 yX6_within wsX6_within) := goodIn_app (goodIn_of _ (by decide +kernel)) ggX6_isPlace_X6_within
theorem dX6_isPlace_0 : decode cX6_isPlace 0 = .ok (.iload_n 1, 1) := by decide +kernel
theorem dX6_isPlace_1 : decode cX6_isPlace 1 = .ok (.iconst 0, 1) := by decide +kernel
theorem dX6_isPlace_2 : decode cX6_isPlace 2 = .ok (.aload_n 0, 1) := by decide +kernel
theorem dX6_isPlace_3 : decode cX6_isPlace 3 = .ok (.invokevirtual 118, 3) := by decide +kernel
theorem dX6_isPlace_6 : decode cX6_isPlace 6 = .ok (.iconst 1, 1) := by decide +kernel
theorem dX6_isPlace_7 : decode cX6_isPlace 7 = .ok (.isub, 1) := by decide +kernel
theorem dX6_isPlace_8 : decode cX6_isPlace 8 = .ok (.invokestatic 77, 3) := by decide +kernel
theorem dX6_isPlace_11 : decode cX6_isPlace 11 = .ok (.ireturn, 1) := by decide +kernel
theorem dX6_putDeep_0 : decode cX6_putDeep 0 = .ok (.iconst 0, 1) := by decide +kernel
theorem dX6_putDeep_1 : decode cX6_putDeep 1 = .ok (.istore_n 1, 1) := by decide +kernel
theorem dX6_putDeep_2 : decode cX6_putDeep 2 = .ok (.iload_n 1, 1) := by decide +kernel
theorem dX6_putDeep_3 : decode cX6_putDeep 3 = .ok (.bipush 8, 2) := by decide +kernel
theorem dX6_putDeep_5 : decode cX6_putDeep 5 = .ok (.if_icmp .ge 33, 3) := by decide +kernel
theorem dX6_putDeep_8 : decode cX6_putDeep 8 = .ok (.aload_n 0, 1) := by decide +kernel
theorem dX6_putDeep_9 : decode cX6_putDeep 9 = .ok (.getfield 29, 3) := by decide +kernel
theorem dX6_putDeep_12 : decode cX6_putDeep 12 = .ok (.iload_n 1, 1) := by decide +kernel
theorem dX6_putDeep_13 : decode cX6_putDeep 13 = .ok (.iload_n 1, 1) := by decide +kernel
theorem dX6_putDeep_14 : decode cX6_putDeep 14 = .ok (.aload_n 0, 1) := by decide +kernel
theorem dX6_putDeep_15 : decode cX6_putDeep 15 = .ok (.getfield 115, 3) := by decide +kernel
theorem dX6_putDeep_18 : decode cX6_putDeep 18 = .ok (.if_icmp .ge 12, 3) := by decide +kernel
theorem dX6_putDeep_21 : decode cX6_putDeep 21 = .ok (.aload_n 0, 1) := by decide +kernel
theorem dX6_putDeep_22 : decode cX6_putDeep 22 = .ok (.getfield 13, 3) := by decide +kernel
theorem dX6_putDeep_25 : decode cX6_putDeep 25 = .ok (.iload_n 1, 1) := by decide +kernel
theorem dX6_putDeep_26 : decode cX6_putDeep 26 = .ok (.iaload, 1) := by decide +kernel
theorem dX6_putDeep_27 : decode cX6_putDeep 27 = .ok (.goto 4, 3) := by decide +kernel
theorem dX6_putDeep_30 : decode cX6_putDeep 30 = .ok (.iconst (-1), 1) := by decide +kernel
theorem dX6_putDeep_31 : decode cX6_putDeep 31 = .ok (.iastore, 1) := by decide +kernel
theorem dX6_putDeep_32 : decode cX6_putDeep 32 = .ok (.iinc 1 1, 3) := by decide +kernel
theorem dX6_putDeep_35 : decode cX6_putDeep 35 = .ok (.goto (-33), 3) := by decide +kernel
theorem dX6_putDeep_38 : decode cX6_putDeep 38 = .ok (.return_, 1) := by decide +kernel
theorem dX6_whoAt_0 : decode cX6_whoAt 0 = .ok (.iconst (-1), 1) := by decide +kernel
theorem dX6_whoAt_1 : decode cX6_whoAt 1 = .ok (.istore_n 3, 1) := by decide +kernel
theorem dX6_whoAt_2 : decode cX6_whoAt 2 = .ok (.iconst 0, 1) := by decide +kernel
theorem dX6_whoAt_3 : decode cX6_whoAt 3 = .ok (.istore 4, 2) := by decide +kernel
theorem dX6_whoAt_5 : decode cX6_whoAt 5 = .ok (.iload 4, 2) := by decide +kernel
theorem dX6_whoAt_7 : decode cX6_whoAt 7 = .ok (.aload_n 0, 1) := by decide +kernel
theorem dX6_whoAt_8 : decode cX6_whoAt 8 = .ok (.getfield 115, 3) := by decide +kernel
theorem dX6_whoAt_11 : decode cX6_whoAt 11 = .ok (.if_icmp .ge 32, 3) := by decide +kernel
theorem dX6_whoAt_14 : decode cX6_whoAt 14 = .ok (.aload_n 0, 1) := by decide +kernel
theorem dX6_whoAt_15 : decode cX6_whoAt 15 = .ok (.getfield 29, 3) := by decide +kernel
theorem dX6_whoAt_18 : decode cX6_whoAt 18 = .ok (.bipush 8, 2) := by decide +kernel
theorem dX6_whoAt_20 : decode cX6_whoAt 20 = .ok (.iload_n 1, 1) := by decide +kernel
theorem dX6_whoAt_21 : decode cX6_whoAt 21 = .ok (.imul, 1) := by decide +kernel
theorem dX6_whoAt_22 : decode cX6_whoAt 22 = .ok (.iload 4, 2) := by decide +kernel
theorem dX6_whoAt_24 : decode cX6_whoAt 24 = .ok (.iadd, 1) := by decide +kernel
theorem dX6_whoAt_25 : decode cX6_whoAt 25 = .ok (.iaload, 1) := by decide +kernel
theorem dX6_whoAt_26 : decode cX6_whoAt 26 = .ok (.iload_n 2, 1) := by decide +kernel
theorem dX6_whoAt_27 : decode cX6_whoAt 27 = .ok (.if_icmp .ne 8, 3) := by decide +kernel
theorem dX6_whoAt_30 : decode cX6_whoAt 30 = .ok (.iload 4, 2) := by decide +kernel
theorem dX6_whoAt_32 : decode cX6_whoAt 32 = .ok (.goto 4, 3) := by decide +kernel
theorem dX6_whoAt_35 : decode cX6_whoAt 35 = .ok (.iload_n 3, 1) := by decide +kernel
theorem dX6_whoAt_36 : decode cX6_whoAt 36 = .ok (.istore_n 3, 1) := by decide +kernel
theorem dX6_whoAt_37 : decode cX6_whoAt 37 = .ok (.iinc 4 1, 3) := by decide +kernel
theorem dX6_whoAt_40 : decode cX6_whoAt 40 = .ok (.goto (-35), 3) := by decide +kernel
theorem dX6_whoAt_43 : decode cX6_whoAt 43 = .ok (.iload_n 3, 1) := by decide +kernel
theorem dX6_whoAt_44 : decode cX6_whoAt 44 = .ok (.ireturn, 1) := by decide +kernel
theorem dX6_apart_0 : decode cX6_apart 0 = .ok (.iload_n 0, 1) := by decide +kernel
theorem dX6_apart_1 : decode cX6_apart 1 = .ok (.iload_n 1, 1) := by decide +kernel
theorem dX6_apart_2 : decode cX6_apart 2 = .ok (.if_icmp .le 9, 3) := by decide +kernel
theorem dX6_apart_5 : decode cX6_apart 5 = .ok (.iload_n 0, 1) := by decide +kernel
theorem dX6_apart_6 : decode cX6_apart 6 = .ok (.iload_n 1, 1) := by decide +kernel
theorem dX6_apart_7 : decode cX6_apart 7 = .ok (.isub, 1) := by decide +kernel
theorem dX6_apart_8 : decode cX6_apart 8 = .ok (.goto 6, 3) := by decide +kernel
theorem dX6_apart_11 : decode cX6_apart 11 = .ok (.iload_n 1, 1) := by decide +kernel
theorem dX6_apart_12 : decode cX6_apart 12 = .ok (.iload_n 0, 1) := by decide +kernel
theorem dX6_apart_13 : decode cX6_apart 13 = .ok (.isub, 1) := by decide +kernel
theorem dX6_apart_14 : decode cX6_apart 14 = .ok (.ireturn, 1) := by decide +kernel
theorem dX6_goesBy_0 : decode cX6_goesBy 0 = .ok (.iload_n 2, 1) := by decide +kernel
theorem dX6_goesBy_1 : decode cX6_goesBy 1 = .ok (.iload_n 3, 1) := by decide +kernel
theorem dX6_goesBy_2 : decode cX6_goesBy 2 = .ok (.iadd, 1) := by decide +kernel
theorem dX6_goesBy_3 : decode cX6_goesBy 3 = .ok (.iconst 2, 1) := by decide +kernel
theorem dX6_goesBy_4 : decode cX6_goesBy 4 = .ok (.if_icmp .ne 12, 3) := by decide +kernel
theorem dX6_goesBy_7 : decode cX6_goesBy 7 = .ok (.iload_n 2, 1) := by decide +kernel
theorem dX6_goesBy_8 : decode cX6_goesBy 8 = .ok (.iload_n 3, 1) := by decide +kernel
theorem dX6_goesBy_9 : decode cX6_goesBy 9 = .ok (.if_icmp .eq 7, 3) := by decide +kernel
theorem dX6_goesBy_12 : decode cX6_goesBy 12 = .ok (.iconst 1, 1) := by decide +kernel
theorem dX6_goesBy_13 : decode cX6_goesBy 13 = .ok (.goto 4, 3) := by decide +kernel
theorem dX6_goesBy_16 : decode cX6_goesBy 16 = .ok (.iconst 0, 1) := by decide +kernel
theorem dX6_goesBy_17 : decode cX6_goesBy 17 = .ok (.istore 4, 2) := by decide +kernel
theorem dX6_goesBy_19 : decode cX6_goesBy 19 = .ok (.iload_n 2, 1) := by decide +kernel
theorem dX6_goesBy_20 : decode cX6_goesBy 20 = .ok (.iconst 2, 1) := by decide +kernel
theorem dX6_goesBy_21 : decode cX6_goesBy 21 = .ok (.if_icmp .ne 12, 3) := by decide +kernel
theorem dX6_goesBy_24 : decode cX6_goesBy 24 = .ok (.iload_n 3, 1) := by decide +kernel
theorem dX6_goesBy_25 : decode cX6_goesBy 25 = .ok (.iconst 2, 1) := by decide +kernel
theorem dX6_goesBy_26 : decode cX6_goesBy 26 = .ok (.if_icmp .ne 7, 3) := by decide +kernel
theorem dX6_goesBy_29 : decode cX6_goesBy 29 = .ok (.iconst 1, 1) := by decide +kernel
theorem dX6_goesBy_30 : decode cX6_goesBy 30 = .ok (.goto 4, 3) := by decide +kernel
theorem dX6_goesBy_33 : decode cX6_goesBy 33 = .ok (.iconst 0, 1) := by decide +kernel
theorem dX6_goesBy_34 : decode cX6_goesBy 34 = .ok (.istore 5, 2) := by decide +kernel
theorem dX6_goesBy_36 : decode cX6_goesBy 36 = .ok (.iload_n 1, 1) := by decide +kernel
theorem dX6_goesBy_37 : decode cX6_goesBy 37 = .ok (.iconst 1, 1) := by decide +kernel
theorem dX6_goesBy_38 : decode cX6_goesBy 38 = .ok (.if_icmp .ne 8, 3) := by decide +kernel
theorem dX6_goesBy_41 : decode cX6_goesBy 41 = .ok (.iload 5, 2) := by decide +kernel
theorem dX6_goesBy_43 : decode cX6_goesBy 43 = .ok (.goto 28, 3) := by decide +kernel
theorem dX6_goesBy_46 : decode cX6_goesBy 46 = .ok (.iload_n 1, 1) := by decide +kernel
theorem dX6_goesBy_47 : decode cX6_goesBy 47 = .ok (.iconst 4, 1) := by decide +kernel
theorem dX6_goesBy_48 : decode cX6_goesBy 48 = .ok (.if_icmp .ne 21, 3) := by decide +kernel
theorem dX6_goesBy_51 : decode cX6_goesBy 51 = .ok (.iload 4, 2) := by decide +kernel
theorem dX6_goesBy_53 : decode cX6_goesBy 53 = .ok (.ifCond .ne 8, 3) := by decide +kernel
theorem dX6_goesBy_56 : decode cX6_goesBy 56 = .ok (.iload 5, 2) := by decide +kernel
theorem dX6_goesBy_58 : decode cX6_goesBy 58 = .ok (.ifCond .eq 7, 3) := by decide +kernel
theorem dX6_goesBy_61 : decode cX6_goesBy 61 = .ok (.iconst 1, 1) := by decide +kernel
theorem dX6_goesBy_62 : decode cX6_goesBy 62 = .ok (.goto 9, 3) := by decide +kernel
theorem dX6_goesBy_65 : decode cX6_goesBy 65 = .ok (.iconst 0, 1) := by decide +kernel
theorem dX6_goesBy_66 : decode cX6_goesBy 66 = .ok (.goto 5, 3) := by decide +kernel
theorem dX6_goesBy_69 : decode cX6_goesBy 69 = .ok (.iload 4, 2) := by decide +kernel
theorem dX6_goesBy_71 : decode cX6_goesBy 71 = .ok (.ireturn, 1) := by decide +kernel
set_option maxRecDepth 20000 in
theorem ggX6_overBy_X6_isIn : GoodIn wsX6_overBy wsX6_isIn := goodIn_r _ [8] (by decide +kernel) (by decide +kernel)
set_option maxRecDepth 20000 in
theorem gX6_overBy_X6_isIn : GoodIn wsX6_overBy (va_wsS RX6 130 yX6_isIn wsX6_isIn) := goodIn_app (goodIn_of _ (by decide +kernel)) ggX6_overBy_X6_isIn
set_option maxRecDepth 20000 in
theorem ggX6_overBy_X6_whoAt : GoodIn wsX6_overBy wsX6_whoAt := goodIn_r _ [12, 13, 1, 21, 22, 23, 24, 25, 26, 27, 28, 29, 30, 31, 32, 33, 34, 35, 36, 37, 38, 39, 40, 41, 42, 43, 44, 45, 46, 47, 48, 49, 50, 51, 52, 53, 54, 55, 56, 57, 58, 59, 60] (by decide +kernel) (by decide +kernel)
set_option maxRecDepth 20000 in
theorem gX6_overBy_X6_whoAt : GoodIn wsX6_overBy (wsV RX6 134 RX6 yX6_whoAt wsX6_whoAt) := goodIn_app (goodIn_of _ (by decide +kernel)) ggX6_overBy_X6_whoAt
set_option maxRecDepth 20000 in
theorem ggX6_overBy_X6_apart : GoodIn wsX6_overBy wsX6_apart := goodIn_r _ [16] (by decide +kernel) (by decide +kernel)
set_option maxRecDepth 20000 in
theorem gX6_overBy_X6_apart : GoodIn wsX6_overBy (va_wsS RX6 138 yX6_apart wsX6_apart) := goodIn_app (goodIn_of _ (by decide +kernel)) ggX6_overBy_X6_apart
set_option maxRecDepth 20000 in
theorem ggX6_overBy_X6_goesBy : GoodIn wsX6_overBy wsX6_goesBy := goodIn_r _ [20] (by decide +kernel) (by decide +kernel)
set_option maxRecDepth 20000 in
theorem gX6_overBy_X6_goesBy : GoodIn wsX6_overBy (wsV RX6 141 RX6 yX6_goesBy wsX6_goesBy) := goodIn_app (goodIn_of _ (by decide +kernel)) ggX6_overBy_X6_goesBy
theorem dX6_overBy_0 : decode cX6_overBy 0 = .ok (.aload_n 0, 1) := by decide +kernel
theorem dX6_overBy_1 : decode cX6_overBy 1 = .ok (.getfield 29, 3) := by decide +kernel
theorem dX6_overBy_4 : decode cX6_overBy 4 = .ok (.bipush 8, 2) := by decide +kernel
theorem dX6_overBy_6 : decode cX6_overBy 6 = .ok (.iload_n 1, 1) := by decide +kernel
theorem dX6_overBy_7 : decode cX6_overBy 7 = .ok (.imul, 1) := by decide +kernel
theorem dX6_overBy_8 : decode cX6_overBy 8 = .ok (.iload_n 2, 1) := by decide +kernel
theorem dX6_overBy_9 : decode cX6_overBy 9 = .ok (.iadd, 1) := by decide +kernel
theorem dX6_overBy_10 : decode cX6_overBy 10 = .ok (.iaload, 1) := by decide +kernel
theorem dX6_overBy_11 : decode cX6_overBy 11 = .ok (.istore 4, 2) := by decide +kernel
theorem dX6_overBy_13 : decode cX6_overBy 13 = .ok (.iload 4, 2) := by decide +kernel
theorem dX6_overBy_15 : decode cX6_overBy 15 = .ok (.iconst (-1), 1) := by decide +kernel
theorem dX6_overBy_16 : decode cX6_overBy 16 = .ok (.if_icmp .eq 24, 3) := by decide +kernel
theorem dX6_overBy_19 : decode cX6_overBy 19 = .ok (.aload_n 0, 1) := by decide +kernel
theorem dX6_overBy_20 : decode cX6_overBy 20 = .ok (.getfield 112, 3) := by decide +kernel
theorem dX6_overBy_23 : decode cX6_overBy 23 = .ok (.iload_n 3, 1) := by decide +kernel
theorem dX6_overBy_24 : decode cX6_overBy 24 = .ok (.invokestatic 130, 3) := by decide +kernel
theorem dX6_overBy_27 : decode cX6_overBy 27 = .ok (.ifCond .eq 13, 3) := by decide +kernel
theorem dX6_overBy_30 : decode cX6_overBy 30 = .ok (.aload_n 0, 1) := by decide +kernel
theorem dX6_overBy_31 : decode cX6_overBy 31 = .ok (.iload_n 1, 1) := by decide +kernel
theorem dX6_overBy_32 : decode cX6_overBy 32 = .ok (.iload_n 3, 1) := by decide +kernel
theorem dX6_overBy_33 : decode cX6_overBy 33 = .ok (.invokevirtual 134, 3) := by decide +kernel
theorem dX6_overBy_36 : decode cX6_overBy 36 = .ok (.iconst (-1), 1) := by decide +kernel
theorem dX6_overBy_37 : decode cX6_overBy 37 = .ok (.if_icmp .eq 5, 3) := by decide +kernel
theorem dX6_overBy_40 : decode cX6_overBy 40 = .ok (.iconst (-1), 1) := by decide +kernel
theorem dX6_overBy_41 : decode cX6_overBy 41 = .ok (.ireturn, 1) := by decide +kernel
theorem dX6_overBy_42 : decode cX6_overBy 42 = .ok (.aload_n 0, 1) := by decide +kernel
theorem dX6_overBy_43 : decode cX6_overBy 43 = .ok (.aload_n 0, 1) := by decide +kernel
theorem dX6_overBy_44 : decode cX6_overBy 44 = .ok (.getfield 7, 3) := by decide +kernel
theorem dX6_overBy_47 : decode cX6_overBy 47 = .ok (.iload_n 2, 1) := by decide +kernel
theorem dX6_overBy_48 : decode cX6_overBy 48 = .ok (.iaload, 1) := by decide +kernel
theorem dX6_overBy_49 : decode cX6_overBy 49 = .ok (.iload 4, 2) := by decide +kernel
theorem dX6_overBy_51 : decode cX6_overBy 51 = .ok (.aload_n 0, 1) := by decide +kernel
theorem dX6_overBy_52 : decode cX6_overBy 52 = .ok (.getfield 109, 3) := by decide +kernel
theorem dX6_overBy_55 : decode cX6_overBy 55 = .ok (.idiv, 1) := by decide +kernel
theorem dX6_overBy_56 : decode cX6_overBy 56 = .ok (.iload_n 3, 1) := by decide +kernel
theorem dX6_overBy_57 : decode cX6_overBy 57 = .ok (.aload_n 0, 1) := by decide +kernel
theorem dX6_overBy_58 : decode cX6_overBy 58 = .ok (.getfield 109, 3) := by decide +kernel
theorem dX6_overBy_61 : decode cX6_overBy 61 = .ok (.idiv, 1) := by decide +kernel
theorem dX6_overBy_62 : decode cX6_overBy 62 = .ok (.invokestatic 138, 3) := by decide +kernel
theorem dX6_overBy_65 : decode cX6_overBy 65 = .ok (.iload 4, 2) := by decide +kernel
theorem dX6_overBy_67 : decode cX6_overBy 67 = .ok (.aload_n 0, 1) := by decide +kernel
theorem dX6_overBy_68 : decode cX6_overBy 68 = .ok (.getfield 109, 3) := by decide +kernel
theorem dX6_overBy_71 : decode cX6_overBy 71 = .ok (.irem, 1) := by decide +kernel
theorem dX6_overBy_72 : decode cX6_overBy 72 = .ok (.iload_n 3, 1) := by decide +kernel
theorem dX6_overBy_73 : decode cX6_overBy 73 = .ok (.aload_n 0, 1) := by decide +kernel
theorem dX6_overBy_74 : decode cX6_overBy 74 = .ok (.getfield 109, 3) := by decide +kernel
theorem dX6_overBy_77 : decode cX6_overBy 77 = .ok (.irem, 1) := by decide +kernel
theorem dX6_overBy_78 : decode cX6_overBy 78 = .ok (.invokestatic 138, 3) := by decide +kernel
theorem dX6_overBy_81 : decode cX6_overBy 81 = .ok (.invokevirtual 141, 3) := by decide +kernel
theorem dX6_overBy_84 : decode cX6_overBy 84 = .ok (.ifCond .ne 5, 3) := by decide +kernel
theorem dX6_overBy_87 : decode cX6_overBy 87 = .ok (.iconst (-1), 1) := by decide +kernel
theorem dX6_overBy_88 : decode cX6_overBy 88 = .ok (.ireturn, 1) := by decide +kernel
theorem dX6_overBy_89 : decode cX6_overBy 89 = .ok (.aload_n 0, 1) := by decide +kernel
theorem dX6_overBy_90 : decode cX6_overBy 90 = .ok (.iload_n 1, 1) := by decide +kernel
theorem dX6_overBy_91 : decode cX6_overBy 91 = .ok (.iload 4, 2) := by decide +kernel
theorem dX6_overBy_93 : decode cX6_overBy 93 = .ok (.iload_n 3, 1) := by decide +kernel
theorem dX6_overBy_94 : decode cX6_overBy 94 = .ok (.iadd, 1) := by decide +kernel
theorem dX6_overBy_95 : decode cX6_overBy 95 = .ok (.iconst 2, 1) := by decide +kernel
theorem dX6_overBy_96 : decode cX6_overBy 96 = .ok (.idiv, 1) := by decide +kernel
theorem dX6_overBy_97 : decode cX6_overBy 97 = .ok (.invokevirtual 134, 3) := by decide +kernel
theorem dX6_overBy_100 : decode cX6_overBy 100 = .ok (.istore 5, 2) := by decide +kernel
theorem dX6_overBy_102 : decode cX6_overBy 102 = .ok (.iload 5, 2) := by decide +kernel
theorem dX6_overBy_104 : decode cX6_overBy 104 = .ok (.iconst (-1), 1) := by decide +kernel
theorem dX6_overBy_105 : decode cX6_overBy 105 = .ok (.if_icmp .eq 14, 3) := by decide +kernel
theorem dX6_overBy_108 : decode cX6_overBy 108 = .ok (.aload_n 0, 1) := by decide +kernel
theorem dX6_overBy_109 : decode cX6_overBy 109 = .ok (.getfield 7, 3) := by decide +kernel
theorem dX6_overBy_112 : decode cX6_overBy 112 = .ok (.iload 5, 2) := by decide +kernel
theorem dX6_overBy_114 : decode cX6_overBy 114 = .ok (.iaload, 1) := by decide +kernel
theorem dX6_overBy_115 : decode cX6_overBy 115 = .ok (.iconst 2, 1) := by decide +kernel
theorem dX6_overBy_116 : decode cX6_overBy 116 = .ok (.if_icmp .ne 7, 3) := by decide +kernel
theorem dX6_overBy_119 : decode cX6_overBy 119 = .ok (.iconst (-1), 1) := by decide +kernel
theorem dX6_overBy_120 : decode cX6_overBy 120 = .ok (.goto 5, 3) := by decide +kernel
theorem dX6_overBy_123 : decode cX6_overBy 123 = .ok (.iload 5, 2) := by decide +kernel
theorem dX6_overBy_125 : decode cX6_overBy 125 = .ok (.ireturn, 1) := by decide +kernel
set_option maxRecDepth 20000 in
theorem ggX6_isJump_X6_overBy : GoodIn wsX6_isJump wsX6_overBy := goodIn_r _ [5, 6, 7, 8, 9, 10, 11, 4, 12, 13, 14, 15, 16, 17, 18, 19, 20, 21, 22, 23, 24, 25, 26, 27, 28, 29, 30, 31, 32, 33, 34, 35, 36, 37, 38, 39, 40, 41, 42, 43, 44, 45, 46, 47, 48, 49, 50, 51, 52, 53, 54, 55, 56, 57, 58, 59, 60, 61, 62, 63, 64] (by decide +kernel) (by decide +kernel)
set_option maxRecDepth 20000 in
theorem gX6_isJump_X6_overBy : GoodIn wsX6_isJump (wsV RX6 144 RX6 yX6_overBy wsX6_overBy) := goodIn_app (goodIn_of _ (by decide +kernel)) ggX6_isJump_X6_overBy
theorem dX6_isJump_0 : decode cX6_isJump 0 = .ok (.aload_n 0, 1) := by decide +kernel
theorem dX6_isJump_1 : decode cX6_isJump 1 = .ok (.iload_n 1, 1) := by decide +kernel
theorem dX6_isJump_2 : decode cX6_isJump 2 = .ok (.iload_n 2, 1) := by decide +kernel
theorem dX6_isJump_3 : decode cX6_isJump 3 = .ok (.iload_n 3, 1) := by decide +kernel
theorem dX6_isJump_4 : decode cX6_isJump 4 = .ok (.invokevirtual 144, 3) := by decide +kernel
theorem dX6_isJump_7 : decode cX6_isJump 7 = .ok (.iconst (-1), 1) := by decide +kernel
theorem dX6_isJump_8 : decode cX6_isJump 8 = .ok (.if_icmp .eq 7, 3) := by decide +kernel
theorem dX6_isJump_11 : decode cX6_isJump 11 = .ok (.iconst 1, 1) := by decide +kernel
theorem dX6_isJump_12 : decode cX6_isJump 12 = .ok (.goto 4, 3) := by decide +kernel
theorem dX6_isJump_15 : decode cX6_isJump 15 = .ok (.iconst 0, 1) := by decide +kernel
theorem dX6_isJump_16 : decode cX6_isJump 16 = .ok (.ireturn, 1) := by decide +kernel
set_option maxRecDepth 20000 in
theorem ggX6_goDeep_X6_overBy : GoodIn wsX6_goDeep wsX6_overBy := goodIn_r _ [7, 1, 8, 2, 9, 10, 11, 6, 12, 13, 14, 15, 16, 17, 18, 19, 20, 21, 22, 23, 24, 25, 26, 27, 28, 29, 30, 31, 32, 33, 34, 35, 36, 37, 38, 39, 40, 41, 42, 43, 44, 45, 46, 47, 48, 49, 50, 51, 52, 53, 54, 55, 56, 57, 58, 59, 60, 61, 62, 63, 64] (by decide +kernel) (by decide +kernel)
set_option maxRecDepth 20000 in
theorem gX6_goDeep_X6_overBy : GoodIn wsX6_goDeep (wsV RX6 144 RX6 yX6_overBy wsX6_overBy) := goodIn_app (goodIn_of _ (by decide +kernel)) ggX6_goDeep_X6_overBy
theorem dX6_goDeep_0 : decode cX6_goDeep 0 = .ok (.aload_n 0, 1) := by decide +kernel
theorem dX6_goDeep_1 : decode cX6_goDeep 1 = .ok (.iload_n 1, 1) := by decide +kernel
theorem dX6_goDeep_2 : decode cX6_goDeep 2 = .ok (.iload_n 2, 1) := by decide +kernel
theorem dX6_goDeep_3 : decode cX6_goDeep 3 = .ok (.iload_n 3, 1) := by decide +kernel
theorem dX6_goDeep_4 : decode cX6_goDeep 4 = .ok (.invokevirtual 144, 3) := by decide +kernel
theorem dX6_goDeep_7 : decode cX6_goDeep 7 = .ok (.istore 4, 2) := by decide +kernel
theorem dX6_goDeep_9 : decode cX6_goDeep 9 = .ok (.iconst 0, 1) := by decide +kernel
theorem dX6_goDeep_10 : decode cX6_goDeep 10 = .ok (.istore 5, 2) := by decide +kernel
theorem dX6_goDeep_12 : decode cX6_goDeep 12 = .ok (.iload 5, 2) := by decide +kernel
theorem dX6_goDeep_14 : decode cX6_goDeep 14 = .ok (.bipush 8, 2) := by decide +kernel
theorem dX6_goDeep_16 : decode cX6_goDeep 16 = .ok (.if_icmp .ge 36, 3) := by decide +kernel
theorem dX6_goDeep_19 : decode cX6_goDeep 19 = .ok (.aload_n 0, 1) := by decide +kernel
theorem dX6_goDeep_20 : decode cX6_goDeep 20 = .ok (.getfield 29, 3) := by decide +kernel
theorem dX6_goDeep_23 : decode cX6_goDeep 23 = .ok (.bipush 8, 2) := by decide +kernel
theorem dX6_goDeep_25 : decode cX6_goDeep 25 = .ok (.iload_n 1, 1) := by decide +kernel
theorem dX6_goDeep_26 : decode cX6_goDeep 26 = .ok (.imul, 1) := by decide +kernel
theorem dX6_goDeep_27 : decode cX6_goDeep 27 = .ok (.bipush 8, 2) := by decide +kernel
theorem dX6_goDeep_29 : decode cX6_goDeep 29 = .ok (.iadd, 1) := by decide +kernel
theorem dX6_goDeep_30 : decode cX6_goDeep 30 = .ok (.iload 5, 2) := by decide +kernel
theorem dX6_goDeep_32 : decode cX6_goDeep 32 = .ok (.iadd, 1) := by decide +kernel
theorem dX6_goDeep_33 : decode cX6_goDeep 33 = .ok (.aload_n 0, 1) := by decide +kernel
theorem dX6_goDeep_34 : decode cX6_goDeep 34 = .ok (.getfield 29, 3) := by decide +kernel
theorem dX6_goDeep_37 : decode cX6_goDeep 37 = .ok (.bipush 8, 2) := by decide +kernel
theorem dX6_goDeep_39 : decode cX6_goDeep 39 = .ok (.iload_n 1, 1) := by decide +kernel
theorem dX6_goDeep_40 : decode cX6_goDeep 40 = .ok (.imul, 1) := by decide +kernel
theorem dX6_goDeep_41 : decode cX6_goDeep 41 = .ok (.iload 5, 2) := by decide +kernel
theorem dX6_goDeep_43 : decode cX6_goDeep 43 = .ok (.iadd, 1) := by decide +kernel
theorem dX6_goDeep_44 : decode cX6_goDeep 44 = .ok (.iaload, 1) := by decide +kernel
theorem dX6_goDeep_45 : decode cX6_goDeep 45 = .ok (.iastore, 1) := by decide +kernel
theorem dX6_goDeep_46 : decode cX6_goDeep 46 = .ok (.iinc 5 1, 3) := by decide +kernel
theorem dX6_goDeep_49 : decode cX6_goDeep 49 = .ok (.goto (-37), 3) := by decide +kernel
theorem dX6_goDeep_52 : decode cX6_goDeep 52 = .ok (.aload_n 0, 1) := by decide +kernel
theorem dX6_goDeep_53 : decode cX6_goDeep 53 = .ok (.getfield 29, 3) := by decide +kernel
theorem dX6_goDeep_56 : decode cX6_goDeep 56 = .ok (.bipush 8, 2) := by decide +kernel
theorem dX6_goDeep_58 : decode cX6_goDeep 58 = .ok (.iload_n 1, 1) := by decide +kernel
theorem dX6_goDeep_59 : decode cX6_goDeep 59 = .ok (.imul, 1) := by decide +kernel
theorem dX6_goDeep_60 : decode cX6_goDeep 60 = .ok (.bipush 8, 2) := by decide +kernel
theorem dX6_goDeep_62 : decode cX6_goDeep 62 = .ok (.iadd, 1) := by decide +kernel
theorem dX6_goDeep_63 : decode cX6_goDeep 63 = .ok (.iload_n 2, 1) := by decide +kernel
theorem dX6_goDeep_64 : decode cX6_goDeep 64 = .ok (.iadd, 1) := by decide +kernel
theorem dX6_goDeep_65 : decode cX6_goDeep 65 = .ok (.aload_n 0, 1) := by decide +kernel
theorem dX6_goDeep_66 : decode cX6_goDeep 66 = .ok (.getfield 7, 3) := by decide +kernel
theorem dX6_goDeep_69 : decode cX6_goDeep 69 = .ok (.iload_n 2, 1) := by decide +kernel
theorem dX6_goDeep_70 : decode cX6_goDeep 70 = .ok (.iaload, 1) := by decide +kernel
theorem dX6_goDeep_71 : decode cX6_goDeep 71 = .ok (.iconst 3, 1) := by decide +kernel
theorem dX6_goDeep_72 : decode cX6_goDeep 72 = .ok (.if_icmp .ne 7, 3) := by decide +kernel
theorem dX6_goDeep_75 : decode cX6_goDeep 75 = .ok (.iconst (-1), 1) := by decide +kernel
theorem dX6_goDeep_76 : decode cX6_goDeep 76 = .ok (.goto 4, 3) := by decide +kernel
theorem dX6_goDeep_79 : decode cX6_goDeep 79 = .ok (.iload_n 3, 1) := by decide +kernel
theorem dX6_goDeep_80 : decode cX6_goDeep 80 = .ok (.iastore, 1) := by decide +kernel
theorem dX6_goDeep_81 : decode cX6_goDeep 81 = .ok (.aload_n 0, 1) := by decide +kernel
theorem dX6_goDeep_82 : decode cX6_goDeep 82 = .ok (.getfield 29, 3) := by decide +kernel
theorem dX6_goDeep_85 : decode cX6_goDeep 85 = .ok (.bipush 8, 2) := by decide +kernel
theorem dX6_goDeep_87 : decode cX6_goDeep 87 = .ok (.iload_n 1, 1) := by decide +kernel
theorem dX6_goDeep_88 : decode cX6_goDeep 88 = .ok (.imul, 1) := by decide +kernel
theorem dX6_goDeep_89 : decode cX6_goDeep 89 = .ok (.bipush 8, 2) := by decide +kernel
theorem dX6_goDeep_91 : decode cX6_goDeep 91 = .ok (.iadd, 1) := by decide +kernel
theorem dX6_goDeep_92 : decode cX6_goDeep 92 = .ok (.iload 4, 2) := by decide +kernel
theorem dX6_goDeep_94 : decode cX6_goDeep 94 = .ok (.iadd, 1) := by decide +kernel
theorem dX6_goDeep_95 : decode cX6_goDeep 95 = .ok (.iconst (-1), 1) := by decide +kernel
theorem dX6_goDeep_96 : decode cX6_goDeep 96 = .ok (.iastore, 1) := by decide +kernel
theorem dX6_goDeep_97 : decode cX6_goDeep 97 = .ok (.return_, 1) := by decide +kernel
theorem dX6_onBoard_0 : decode cX6_onBoard 0 = .ok (.iconst 0, 1) := by decide +kernel
theorem dX6_onBoard_1 : decode cX6_onBoard 1 = .ok (.istore_n 2, 1) := by decide +kernel
theorem dX6_onBoard_2 : decode cX6_onBoard 2 = .ok (.iconst 0, 1) := by decide +kernel
theorem dX6_onBoard_3 : decode cX6_onBoard 3 = .ok (.istore_n 3, 1) := by decide +kernel
theorem dX6_onBoard_4 : decode cX6_onBoard 4 = .ok (.iload_n 3, 1) := by decide +kernel
theorem dX6_onBoard_5 : decode cX6_onBoard 5 = .ok (.aload_n 0, 1) := by decide +kernel
theorem dX6_onBoard_6 : decode cX6_onBoard 6 = .ok (.getfield 115, 3) := by decide +kernel
theorem dX6_onBoard_9 : decode cX6_onBoard 9 = .ok (.if_icmp .ge 32, 3) := by decide +kernel
theorem dX6_onBoard_12 : decode cX6_onBoard 12 = .ok (.iload_n 2, 1) := by decide +kernel
theorem dX6_onBoard_13 : decode cX6_onBoard 13 = .ok (.aload_n 0, 1) := by decide +kernel
theorem dX6_onBoard_14 : decode cX6_onBoard 14 = .ok (.getfield 29, 3) := by decide +kernel
theorem dX6_onBoard_17 : decode cX6_onBoard 17 = .ok (.bipush 8, 2) := by decide +kernel
theorem dX6_onBoard_19 : decode cX6_onBoard 19 = .ok (.iload_n 1, 1) := by decide +kernel
theorem dX6_onBoard_20 : decode cX6_onBoard 20 = .ok (.imul, 1) := by decide +kernel
theorem dX6_onBoard_21 : decode cX6_onBoard 21 = .ok (.iload_n 3, 1) := by decide +kernel
theorem dX6_onBoard_22 : decode cX6_onBoard 22 = .ok (.iadd, 1) := by decide +kernel
theorem dX6_onBoard_23 : decode cX6_onBoard 23 = .ok (.iaload, 1) := by decide +kernel
theorem dX6_onBoard_24 : decode cX6_onBoard 24 = .ok (.iconst (-1), 1) := by decide +kernel
theorem dX6_onBoard_25 : decode cX6_onBoard 25 = .ok (.if_icmp .ne 7, 3) := by decide +kernel
theorem dX6_onBoard_28 : decode cX6_onBoard 28 = .ok (.iconst 0, 1) := by decide +kernel
theorem dX6_onBoard_29 : decode cX6_onBoard 29 = .ok (.goto 4, 3) := by decide +kernel
theorem dX6_onBoard_32 : decode cX6_onBoard 32 = .ok (.iconst 1, 1) := by decide +kernel
theorem dX6_onBoard_33 : decode cX6_onBoard 33 = .ok (.iadd, 1) := by decide +kernel
theorem dX6_onBoard_34 : decode cX6_onBoard 34 = .ok (.istore_n 2, 1) := by decide +kernel
theorem dX6_onBoard_35 : decode cX6_onBoard 35 = .ok (.iinc 3 1, 3) := by decide +kernel
theorem dX6_onBoard_38 : decode cX6_onBoard 38 = .ok (.goto (-34), 3) := by decide +kernel
theorem dX6_onBoard_41 : decode cX6_onBoard 41 = .ok (.iload_n 2, 1) := by decide +kernel
theorem dX6_onBoard_42 : decode cX6_onBoard 42 = .ok (.ireturn, 1) := by decide +kernel
set_option maxRecDepth 20000 in
theorem ggX6_goes_X6_places : GoodIn wsX6_goes wsX6_places := goodIn_r _ [5, 6, 7, 34, 35, 36, 37, 38, 39, 40, 41, 42, 43, 44, 45, 46, 47, 48, 49, 50, 51, 52, 53, 54, 55, 56, 57, 58, 59, 60, 61, 62, 63, 64, 65, 66, 67, 68, 69, 70, 71, 72, 73] (by decide +kernel) (by decide +kernel)
set_option maxRecDepth 20000 in
theorem gX6_goes_X6_places : GoodIn wsX6_goes (wsV RX6 118 RX6 yX6_places wsX6_places) := goodIn_app (goodIn_of _ (by decide +kernel)) ggX6_goes_X6_places
set_option maxRecDepth 20000 in
theorem ggX6_goes_X6_isJump : GoodIn wsX6_goes wsX6_isJump := goodIn_r _ [11, 12, 13, 14, 4, 15, 16, 17, 18, 7, 19, 20, 21, 22, 23, 24, 25, 26, 27, 28, 29, 30, 31, 32, 33, 34, 35, 36, 37, 38, 39, 40, 41, 42, 43, 44, 45, 46, 47, 48, 49, 50, 51, 52, 53, 54, 55, 56, 57, 58, 59, 60, 61, 62, 63, 64, 65, 66, 67, 68, 69, 70, 71, 72, 73] (by decide +kernel) (by decide +kernel)
set_option maxRecDepth 20000 in
theorem gX6_goes_X6_isJump : GoodIn wsX6_goes (wsV RX6 148 RX6 yX6_isJump wsX6_isJump) := goodIn_app (goodIn_of _ (by decide +kernel)) ggX6_goes_X6_isJump
theorem dX6_goes_0 : decode cX6_goes 0 = .ok (.iconst 0, 1) := by decide +kernel
theorem dX6_goes_1 : decode cX6_goes 1 = .ok (.istore_n 3, 1) := by decide +kernel
theorem dX6_goes_2 : decode cX6_goes 2 = .ok (.iconst 0, 1) := by decide +kernel
theorem dX6_goes_3 : decode cX6_goes 3 = .ok (.istore 4, 2) := by decide +kernel
theorem dX6_goes_5 : decode cX6_goes 5 = .ok (.iload 4, 2) := by decide +kernel
theorem dX6_goes_7 : decode cX6_goes 7 = .ok (.aload_n 0, 1) := by decide +kernel
theorem dX6_goes_8 : decode cX6_goes 8 = .ok (.invokevirtual 118, 3) := by decide +kernel
theorem dX6_goes_11 : decode cX6_goes 11 = .ok (.if_icmp .ge 31, 3) := by decide +kernel
theorem dX6_goes_14 : decode cX6_goes 14 = .ok (.iload_n 3, 1) := by decide +kernel
theorem dX6_goes_15 : decode cX6_goes 15 = .ok (.aload_n 0, 1) := by decide +kernel
theorem dX6_goes_16 : decode cX6_goes 16 = .ok (.iload_n 1, 1) := by decide +kernel
theorem dX6_goes_17 : decode cX6_goes 17 = .ok (.iload_n 2, 1) := by decide +kernel
theorem dX6_goes_18 : decode cX6_goes 18 = .ok (.iload 4, 2) := by decide +kernel
theorem dX6_goes_20 : decode cX6_goes 20 = .ok (.invokevirtual 148, 3) := by decide +kernel
theorem dX6_goes_23 : decode cX6_goes 23 = .ok (.ifCond .eq 10, 3) := by decide +kernel
theorem dX6_goes_26 : decode cX6_goes 26 = .ok (.iconst 1, 1) := by decide +kernel
theorem dX6_goes_27 : decode cX6_goes 27 = .ok (.iload 4, 2) := by decide +kernel
theorem dX6_goes_29 : decode cX6_goes 29 = .ok (.ishl, 1) := by decide +kernel
theorem dX6_goes_30 : decode cX6_goes 30 = .ok (.goto 4, 3) := by decide +kernel
theorem dX6_goes_33 : decode cX6_goes 33 = .ok (.iconst 0, 1) := by decide +kernel
theorem dX6_goes_34 : decode cX6_goes 34 = .ok (.ior, 1) := by decide +kernel
theorem dX6_goes_35 : decode cX6_goes 35 = .ok (.istore_n 3, 1) := by decide +kernel
theorem dX6_goes_36 : decode cX6_goes 36 = .ok (.iinc 4 1, 3) := by decide +kernel
theorem dX6_goes_39 : decode cX6_goes 39 = .ok (.goto (-34), 3) := by decide +kernel
theorem dX6_goes_42 : decode cX6_goes 42 = .ok (.iload_n 3, 1) := by decide +kernel
theorem dX6_goes_43 : decode cX6_goes 43 = .ok (.ireturn, 1) := by decide +kernel
set_option maxRecDepth 20000 in
theorem ggX6_jumpsNow_X6_goes : GoodIn wsX6_jumpsNow wsX6_goes := goodIn_r _ [6, 7, 8, 9, 5, 10, 11, 12, 13, 14, 15, 16, 17, 18, 19, 20, 21, 22, 23, 24, 25, 26, 27, 28, 29, 30, 1, 31, 32, 33, 34, 35, 36, 37, 41, 42, 43, 44, 45, 46, 47, 48, 49, 50, 51, 52, 53, 54, 55, 56, 57, 58, 59, 60, 61, 62, 63, 64, 65, 66, 67, 68, 69, 70, 71, 72, 73, 74, 75, 76, 77, 78, 79, 80] (by decide +kernel) (by decide +kernel)
set_option maxRecDepth 20000 in
theorem gX6_jumpsNow_X6_goes : GoodIn wsX6_jumpsNow (wsV RX6 151 RX6 yX6_goes wsX6_goes) := goodIn_app (goodIn_of _ (by decide +kernel)) ggX6_jumpsNow_X6_goes
set_option maxRecDepth 20000 in
theorem ggX6_jumpsNow_X6_size : GoodIn wsX6_jumpsNow wsX6_size := goodIn_r _ [40] (by decide +kernel) (by decide +kernel)
set_option maxRecDepth 20000 in
theorem gX6_jumpsNow_X6_size : GoodIn wsX6_jumpsNow (va_wsS RX6 154 yX6_size wsX6_size) := goodIn_app (goodIn_of _ (by decide +kernel)) ggX6_jumpsNow_X6_size
theorem dX6_jumpsNow_0 : decode cX6_jumpsNow 0 = .ok (.iconst 0, 1) := by decide +kernel
theorem dX6_jumpsNow_1 : decode cX6_jumpsNow 1 = .ok (.istore_n 2, 1) := by decide +kernel
theorem dX6_jumpsNow_2 : decode cX6_jumpsNow 2 = .ok (.iconst 0, 1) := by decide +kernel
theorem dX6_jumpsNow_3 : decode cX6_jumpsNow 3 = .ok (.istore_n 3, 1) := by decide +kernel
theorem dX6_jumpsNow_4 : decode cX6_jumpsNow 4 = .ok (.iload_n 3, 1) := by decide +kernel
theorem dX6_jumpsNow_5 : decode cX6_jumpsNow 5 = .ok (.aload_n 0, 1) := by decide +kernel
theorem dX6_jumpsNow_6 : decode cX6_jumpsNow 6 = .ok (.getfield 115, 3) := by decide +kernel
theorem dX6_jumpsNow_9 : decode cX6_jumpsNow 9 = .ok (.if_icmp .ge 21, 3) := by decide +kernel
theorem dX6_jumpsNow_12 : decode cX6_jumpsNow 12 = .ok (.iload_n 2, 1) := by decide +kernel
theorem dX6_jumpsNow_13 : decode cX6_jumpsNow 13 = .ok (.aload_n 0, 1) := by decide +kernel
theorem dX6_jumpsNow_14 : decode cX6_jumpsNow 14 = .ok (.iload_n 1, 1) := by decide +kernel
theorem dX6_jumpsNow_15 : decode cX6_jumpsNow 15 = .ok (.iload_n 3, 1) := by decide +kernel
theorem dX6_jumpsNow_16 : decode cX6_jumpsNow 16 = .ok (.invokevirtual 151, 3) := by decide +kernel
theorem dX6_jumpsNow_19 : decode cX6_jumpsNow 19 = .ok (.invokestatic 154, 3) := by decide +kernel
theorem dX6_jumpsNow_22 : decode cX6_jumpsNow 22 = .ok (.iadd, 1) := by decide +kernel
theorem dX6_jumpsNow_23 : decode cX6_jumpsNow 23 = .ok (.istore_n 2, 1) := by decide +kernel
theorem dX6_jumpsNow_24 : decode cX6_jumpsNow 24 = .ok (.iinc 3 1, 3) := by decide +kernel
theorem dX6_jumpsNow_27 : decode cX6_jumpsNow 27 = .ok (.goto (-23), 3) := by decide +kernel
theorem dX6_jumpsNow_30 : decode cX6_jumpsNow 30 = .ok (.iload_n 2, 1) := by decide +kernel
theorem dX6_jumpsNow_31 : decode cX6_jumpsNow 31 = .ok (.ireturn, 1) := by decide +kernel
set_option maxRecDepth 20000 in
theorem ggX6_pegNow_X6_putDeep : GoodIn wsX6_pegNow wsX6_putDeep := goodIn_r _ [7, 8, 9, 2, 62, 63, 64, 65, 66, 67, 68, 69, 70, 71, 72, 73, 74, 75, 76, 77, 78, 79, 80, 81, 82, 83, 84, 85, 86, 87, 88, 89, 90, 91, 92, 93, 94, 95, 96, 97, 98, 99, 100, 101] (by decide +kernel) (by decide +kernel)
set_option maxRecDepth 20000 in
theorem gX6_pegNow_X6_putDeep : GoodIn wsX6_pegNow (wsV RX6 157 RX6 yX6_putDeep wsX6_putDeep) := goodIn_app (goodIn_of _ (by decide +kernel)) ggX6_pegNow_X6_putDeep
set_option maxRecDepth 20000 in
theorem ggX6_pegNow_X6_goes : GoodIn wsX6_pegNow wsX6_goes := goodIn_r _ [13, 14, 15, 16, 6, 17, 18, 19, 20, 21, 22, 23, 24, 25, 26, 27, 8, 28, 1, 29, 30, 31, 32, 33, 34, 35, 9, 36, 37, 38, 39, 40, 41, 42, 62, 63, 64, 65, 66, 67, 68, 69, 70, 71, 72, 73, 74, 75, 76, 77, 78, 79, 80, 81, 82, 83, 84, 85, 86, 87, 88, 89, 90, 91, 92, 93, 94, 95, 96, 97, 98, 99, 100, 101] (by decide +kernel) (by decide +kernel)
set_option maxRecDepth 20000 in
theorem gX6_pegNow_X6_goes : GoodIn wsX6_pegNow (wsV RX6 151 RX6 yX6_goes wsX6_goes) := goodIn_app (goodIn_of _ (by decide +kernel)) ggX6_pegNow_X6_goes
set_option maxRecDepth 20000 in
theorem ggX6_pegNow_X6_sortsOf : GoodIn wsX6_pegNow wsX6_sortsOf := goodIn_r _ [46, 47, 48, 49, 50, 51, 52, 6, 53, 62, 63, 64, 65, 66, 67, 68, 69, 70, 71, 72, 73, 74, 75, 76, 77, 78, 79, 80, 81, 82, 83, 84, 85, 86, 87, 88, 89, 90, 91, 92, 93, 94, 95, 96, 97, 98, 99, 100, 101] (by decide +kernel) (by decide +kernel)
set_option maxRecDepth 20000 in
theorem gX6_pegNow_X6_sortsOf : GoodIn wsX6_pegNow (wsV RX6 160 RX6 yX6_sortsOf wsX6_sortsOf) := goodIn_app (goodIn_of _ (by decide +kernel)) ggX6_pegNow_X6_sortsOf
set_option maxRecDepth 20000 in
theorem ggX6_pegNow_X6_askOf : GoodIn wsX6_pegNow wsX6_askOf := goodIn_r _ [57, 58, 43, 44, 45, 6, 46, 47, 48, 49, 50, 51, 52, 53, 29, 30, 31, 59, 60, 61, 62, 63, 64, 65, 66, 67, 68, 69, 70, 71, 72, 73, 74, 75, 76, 77, 78, 79, 80, 81, 82, 83, 84, 85, 86, 87, 88, 89, 90, 91, 92, 93, 94, 95, 96, 97, 98, 99, 100, 101] (by decide +kernel) (by decide +kernel)
set_option maxRecDepth 20000 in
theorem gX6_pegNow_X6_askOf : GoodIn wsX6_pegNow (wsV RX6 163 RX6 yX6_askOf wsX6_askOf) := goodIn_app (goodIn_of _ (by decide +kernel)) ggX6_pegNow_X6_askOf
theorem dX6_pegNow_0 : decode cX6_pegNow 0 = .ok (.iload_n 2, 1) := by decide +kernel
theorem dX6_pegNow_1 : decode cX6_pegNow 1 = .ok (.tableswitch 62 0 3 #[31, 38, 45, 56], 31) := by decide +kernel
theorem dX6_pegNow_32 : decode cX6_pegNow 32 = .ok (.aload_n 0, 1) := by decide +kernel
theorem dX6_pegNow_33 : decode cX6_pegNow 33 = .ok (.getfield 7, 3) := by decide +kernel
theorem dX6_pegNow_36 : decode cX6_pegNow 36 = .ok (.iload_n 1, 1) := by decide +kernel
theorem dX6_pegNow_37 : decode cX6_pegNow 37 = .ok (.iaload, 1) := by decide +kernel
theorem dX6_pegNow_38 : decode cX6_pegNow 38 = .ok (.ireturn, 1) := by decide +kernel
theorem dX6_pegNow_39 : decode cX6_pegNow 39 = .ok (.aload_n 0, 1) := by decide +kernel
theorem dX6_pegNow_40 : decode cX6_pegNow 40 = .ok (.getfield 13, 3) := by decide +kernel
theorem dX6_pegNow_43 : decode cX6_pegNow 43 = .ok (.iload_n 1, 1) := by decide +kernel
theorem dX6_pegNow_44 : decode cX6_pegNow 44 = .ok (.iaload, 1) := by decide +kernel
theorem dX6_pegNow_45 : decode cX6_pegNow 45 = .ok (.ireturn, 1) := by decide +kernel
theorem dX6_pegNow_46 : decode cX6_pegNow 46 = .ok (.aload_n 0, 1) := by decide +kernel
theorem dX6_pegNow_47 : decode cX6_pegNow 47 = .ok (.invokevirtual 157, 3) := by decide +kernel
theorem dX6_pegNow_50 : decode cX6_pegNow 50 = .ok (.aload_n 0, 1) := by decide +kernel
theorem dX6_pegNow_51 : decode cX6_pegNow 51 = .ok (.iconst 0, 1) := by decide +kernel
theorem dX6_pegNow_52 : decode cX6_pegNow 52 = .ok (.iload_n 1, 1) := by decide +kernel
theorem dX6_pegNow_53 : decode cX6_pegNow 53 = .ok (.invokevirtual 151, 3) := by decide +kernel
theorem dX6_pegNow_56 : decode cX6_pegNow 56 = .ok (.ireturn, 1) := by decide +kernel
theorem dX6_pegNow_57 : decode cX6_pegNow 57 = .ok (.aload_n 0, 1) := by decide +kernel
theorem dX6_pegNow_58 : decode cX6_pegNow 58 = .ok (.iload_n 1, 1) := by decide +kernel
theorem dX6_pegNow_59 : decode cX6_pegNow 59 = .ok (.invokevirtual 160, 3) := by decide +kernel
theorem dX6_pegNow_62 : decode cX6_pegNow 62 = .ok (.ireturn, 1) := by decide +kernel
theorem dX6_pegNow_63 : decode cX6_pegNow 63 = .ok (.aload_n 0, 1) := by decide +kernel
theorem dX6_pegNow_64 : decode cX6_pegNow 64 = .ok (.iload_n 1, 1) := by decide +kernel
theorem dX6_pegNow_65 : decode cX6_pegNow 65 = .ok (.invokevirtual 163, 3) := by decide +kernel
theorem dX6_pegNow_68 : decode cX6_pegNow 68 = .ok (.ireturn, 1) := by decide +kernel
set_option maxRecDepth 20000 in
theorem ggX6_peg_X6_isPeg : GoodIn wsX6_peg wsX6_isPeg := goodIn_r _ [5, 6, 7, 8, 4, 9, 73, 74, 75, 76, 77, 78, 79, 80, 81, 82, 83, 84, 85, 86, 87, 88, 89, 90, 91, 92, 93, 94, 95, 96, 97, 98, 99, 100, 101, 102, 103, 104, 105, 106, 107, 108, 109, 110, 111, 112] (by decide +kernel) (by decide +kernel)
set_option maxRecDepth 20000 in
theorem gX6_peg_X6_isPeg : GoodIn wsX6_peg (wsV RX6 166 RX6 yX6_isPeg wsX6_isPeg) := goodIn_app (goodIn_of _ (by decide +kernel)) ggX6_peg_X6_isPeg
set_option maxRecDepth 20000 in
theorem ggX6_peg_X6_within : GoodIn wsX6_peg wsX6_within := goodIn_r _ [9] (by decide +kernel) (by decide +kernel)
set_option maxRecDepth 20000 in
theorem gX6_peg_X6_within : GoodIn wsX6_peg (va_wsS RX6 77 yX6_within wsX6_within) := goodIn_app (goodIn_of _ (by decide +kernel)) ggX6_peg_X6_within
set_option maxRecDepth 20000 in
theorem ggX6_peg_X6_pegNow : GoodIn wsX6_peg wsX6_pegNow := goodIn_r _ [13, 14, 15, 16, 17, 18, 4, 19, 20, 6, 21, 22, 23, 24, 25, 26, 27, 28, 29, 30, 31, 32, 33, 34, 35, 36, 37, 38, 39, 40, 41, 42, 43, 44, 45, 46, 47, 48, 49, 50, 51, 52, 53, 54, 55, 56, 57, 58, 59, 60, 61, 62, 63, 64, 65, 66, 67, 68, 69, 70, 71, 72, 73, 74, 75, 76, 77, 78, 79, 80, 81, 82, 83, 84, 85, 86, 87, 88, 89, 90, 91, 92, 93, 94, 95, 96, 97, 98, 99, 100, 101, 102, 103, 104, 105, 106, 107, 108, 109, 110, 111, 112] (by decide +kernel) (by decide +kernel)
set_option maxRecDepth 20000 in
theorem gX6_peg_X6_pegNow : GoodIn wsX6_peg (wsV RX6 170 RX6 yX6_pegNow wsX6_pegNow) := goodIn_app (goodIn_of _ (by decide +kernel)) ggX6_peg_X6_pegNow
theorem dX6_peg_0 : decode cX6_peg 0 = .ok (.aload_n 0, 1) := by decide +kernel
theorem dX6_peg_1 : decode cX6_peg 1 = .ok (.iload_n 1, 1) := by decide +kernel
theorem dX6_peg_2 : decode cX6_peg 2 = .ok (.invokevirtual 166, 3) := by decide +kernel
theorem dX6_peg_5 : decode cX6_peg 5 = .ok (.ifCond .ne 8, 3) := by decide +kernel
theorem dX6_peg_8 : decode cX6_peg 8 = .ok (.bipush (-101), 2) := by decide +kernel
theorem dX6_peg_10 : decode cX6_peg 10 = .ok (.goto 23, 3) := by decide +kernel
theorem dX6_peg_13 : decode cX6_peg 13 = .ok (.iload_n 2, 1) := by decide +kernel
theorem dX6_peg_14 : decode cX6_peg 14 = .ok (.iconst 0, 1) := by decide +kernel
theorem dX6_peg_15 : decode cX6_peg 15 = .ok (.iconst 4, 1) := by decide +kernel
theorem dX6_peg_16 : decode cX6_peg 16 = .ok (.invokestatic 77, 3) := by decide +kernel
theorem dX6_peg_19 : decode cX6_peg 19 = .ok (.ifCond .eq 12, 3) := by decide +kernel
theorem dX6_peg_22 : decode cX6_peg 22 = .ok (.aload_n 0, 1) := by decide +kernel
theorem dX6_peg_23 : decode cX6_peg 23 = .ok (.iload_n 1, 1) := by decide +kernel
theorem dX6_peg_24 : decode cX6_peg 24 = .ok (.iload_n 2, 1) := by decide +kernel
theorem dX6_peg_25 : decode cX6_peg 25 = .ok (.invokevirtual 170, 3) := by decide +kernel
theorem dX6_peg_28 : decode cX6_peg 28 = .ok (.goto 5, 3) := by decide +kernel
theorem dX6_peg_31 : decode cX6_peg 31 = .ok (.bipush (-102), 2) := by decide +kernel
theorem dX6_peg_33 : decode cX6_peg 33 = .ok (.ireturn, 1) := by decide +kernel
set_option maxRecDepth 20000 in
theorem ggX6_as_X6_isPeg : GoodIn wsX6_as wsX6_isPeg := goodIn_r _ [6, 7, 8, 9, 5, 10, 11, 12, 13, 14, 15, 16, 17, 18, 19, 20, 21, 22, 23, 24, 25, 26, 27, 28, 29, 30, 31, 32, 33, 34, 35, 36, 37, 38, 39, 40, 41, 42, 43, 44, 45, 46, 47, 48, 49, 50] (by decide +kernel) (by decide +kernel)
set_option maxRecDepth 20000 in
theorem gX6_as_X6_isPeg : GoodIn wsX6_as (wsV RX6 166 RX6 yX6_isPeg wsX6_isPeg) := goodIn_app (goodIn_of _ (by decide +kernel)) ggX6_as_X6_isPeg
set_option maxRecDepth 20000 in
theorem ggX6_as_X6_within : GoodIn wsX6_as wsX6_within := goodIn_r _ [10] (by decide +kernel) (by decide +kernel)
set_option maxRecDepth 20000 in
theorem gX6_as_X6_within : GoodIn wsX6_as (va_wsS RX6 77 yX6_within wsX6_within) := goodIn_app (goodIn_of _ (by decide +kernel)) ggX6_as_X6_within
theorem dX6_as_0 : decode cX6_as 0 = .ok (.aload_n 0, 1) := by decide +kernel
theorem dX6_as_1 : decode cX6_as 1 = .ok (.iload_n 1, 1) := by decide +kernel
theorem dX6_as_2 : decode cX6_as 2 = .ok (.invokevirtual 166, 3) := by decide +kernel
theorem dX6_as_5 : decode cX6_as 5 = .ok (.ifCond .ne 6, 3) := by decide +kernel
theorem dX6_as_8 : decode cX6_as 8 = .ok (.bipush (-101), 2) := by decide +kernel
theorem dX6_as_10 : decode cX6_as 10 = .ok (.ireturn, 1) := by decide +kernel
theorem dX6_as_11 : decode cX6_as 11 = .ok (.iload_n 2, 1) := by decide +kernel
theorem dX6_as_12 : decode cX6_as 12 = .ok (.iconst 0, 1) := by decide +kernel
theorem dX6_as_13 : decode cX6_as 13 = .ok (.iconst 4, 1) := by decide +kernel
theorem dX6_as_14 : decode cX6_as 14 = .ok (.invokestatic 77, 3) := by decide +kernel
theorem dX6_as_17 : decode cX6_as 17 = .ok (.ifCond .ne 6, 3) := by decide +kernel
theorem dX6_as_20 : decode cX6_as 20 = .ok (.bipush (-102), 2) := by decide +kernel
theorem dX6_as_22 : decode cX6_as 22 = .ok (.ireturn, 1) := by decide +kernel
theorem dX6_as_23 : decode cX6_as 23 = .ok (.aload_n 0, 1) := by decide +kernel
theorem dX6_as_24 : decode cX6_as 24 = .ok (.getfield 7, 3) := by decide +kernel
theorem dX6_as_27 : decode cX6_as 27 = .ok (.iload_n 1, 1) := by decide +kernel
theorem dX6_as_28 : decode cX6_as 28 = .ok (.iaload, 1) := by decide +kernel
theorem dX6_as_29 : decode cX6_as 29 = .ok (.istore_n 3, 1) := by decide +kernel
theorem dX6_as_30 : decode cX6_as 30 = .ok (.iload_n 2, 1) := by decide +kernel
theorem dX6_as_31 : decode cX6_as 31 = .ok (.ifCond .eq 18, 3) := by decide +kernel
theorem dX6_as_34 : decode cX6_as 34 = .ok (.iload_n 3, 1) := by decide +kernel
theorem dX6_as_35 : decode cX6_as 35 = .ok (.iload_n 2, 1) := by decide +kernel
theorem dX6_as_36 : decode cX6_as 36 = .ok (.if_icmp .eq 13, 3) := by decide +kernel
theorem dX6_as_39 : decode cX6_as 39 = .ok (.iload_n 2, 1) := by decide +kernel
theorem dX6_as_40 : decode cX6_as 40 = .ok (.iconst 1, 1) := by decide +kernel
theorem dX6_as_41 : decode cX6_as 41 = .ok (.if_icmp .ne 12, 3) := by decide +kernel
theorem dX6_as_44 : decode cX6_as 44 = .ok (.iload_n 3, 1) := by decide +kernel
theorem dX6_as_45 : decode cX6_as 45 = .ok (.iconst 4, 1) := by decide +kernel
theorem dX6_as_46 : decode cX6_as 46 = .ok (.if_icmp .ne 7, 3) := by decide +kernel
theorem dX6_as_49 : decode cX6_as 49 = .ok (.iload_n 1, 1) := by decide +kernel
theorem dX6_as_50 : decode cX6_as 50 = .ok (.goto 4, 3) := by decide +kernel
theorem dX6_as_53 : decode cX6_as 53 = .ok (.iconst (-1), 1) := by decide +kernel
theorem dX6_as_54 : decode cX6_as 54 = .ok (.ireturn, 1) := by decide +kernel
set_option maxRecDepth 20000 in
theorem ggX6_placeNow_X6_putDeep : GoodIn wsX6_placeNow wsX6_putDeep := goodIn_r _ [6, 7, 8, 9, 14, 15, 16, 17, 18, 19, 20, 21, 22, 23, 24, 25, 26, 27, 28, 29, 30, 31, 32, 33, 34, 35, 36, 37, 38, 39, 40, 41, 42, 43, 44, 45, 46, 47, 48, 49, 50, 51, 52, 53] (by decide +kernel) (by decide +kernel)
set_option maxRecDepth 20000 in
theorem gX6_placeNow_X6_putDeep : GoodIn wsX6_placeNow (wsV RX6 157 RX6 yX6_putDeep wsX6_putDeep) := goodIn_app (goodIn_of _ (by decide +kernel)) ggX6_placeNow_X6_putDeep
set_option maxRecDepth 20000 in
theorem ggX6_placeNow_X6_whoAt : GoodIn wsX6_placeNow wsX6_whoAt := goodIn_r _ [13, 8, 7, 14, 15, 16, 17, 18, 19, 20, 21, 22, 23, 24, 25, 26, 27, 28, 29, 30, 31, 32, 33, 34, 35, 36, 37, 38, 39, 40, 41, 42, 43, 44, 45, 46, 47, 48, 49, 50, 51, 52, 53] (by decide +kernel) (by decide +kernel)
set_option maxRecDepth 20000 in
theorem gX6_placeNow_X6_whoAt : GoodIn wsX6_placeNow (wsV RX6 134 RX6 yX6_whoAt wsX6_whoAt) := goodIn_app (goodIn_of _ (by decide +kernel)) ggX6_placeNow_X6_whoAt
theorem dX6_placeNow_0 : decode cX6_placeNow 0 = .ok (.aload_n 0, 1) := by decide +kernel
theorem dX6_placeNow_1 : decode cX6_placeNow 1 = .ok (.invokevirtual 157, 3) := by decide +kernel
theorem dX6_placeNow_4 : decode cX6_placeNow 4 = .ok (.iload_n 2, 1) := by decide +kernel
theorem dX6_placeNow_5 : decode cX6_placeNow 5 = .ok (.ifCond .ne 14, 3) := by decide +kernel
theorem dX6_placeNow_8 : decode cX6_placeNow 8 = .ok (.aload_n 0, 1) := by decide +kernel
theorem dX6_placeNow_9 : decode cX6_placeNow 9 = .ok (.getfield 112, 3) := by decide +kernel
theorem dX6_placeNow_12 : decode cX6_placeNow 12 = .ok (.iload_n 1, 1) := by decide +kernel
theorem dX6_placeNow_13 : decode cX6_placeNow 13 = .ok (.ishr, 1) := by decide +kernel
theorem dX6_placeNow_14 : decode cX6_placeNow 14 = .ok (.iconst 1, 1) := by decide +kernel
theorem dX6_placeNow_15 : decode cX6_placeNow 15 = .ok (.iand, 1) := by decide +kernel
theorem dX6_placeNow_16 : decode cX6_placeNow 16 = .ok (.goto 9, 3) := by decide +kernel
theorem dX6_placeNow_19 : decode cX6_placeNow 19 = .ok (.aload_n 0, 1) := by decide +kernel
theorem dX6_placeNow_20 : decode cX6_placeNow 20 = .ok (.iconst 0, 1) := by decide +kernel
theorem dX6_placeNow_21 : decode cX6_placeNow 21 = .ok (.iload_n 1, 1) := by decide +kernel
theorem dX6_placeNow_22 : decode cX6_placeNow 22 = .ok (.invokevirtual 134, 3) := by decide +kernel
theorem dX6_placeNow_25 : decode cX6_placeNow 25 = .ok (.ireturn, 1) := by decide +kernel
set_option maxRecDepth 20000 in
theorem ggX6_place_X6_isPlace : GoodIn wsX6_place wsX6_isPlace := goodIn_r _ [5, 6, 7, 8, 4, 9, 10, 11, 12, 13, 14, 31, 32, 33, 34, 35, 36, 37, 38, 39, 40, 41, 42, 43, 44, 45, 46, 47, 48, 49, 50, 51, 52, 53, 54, 55, 56, 57, 58, 59, 60, 61, 62, 63, 64, 65, 66, 67, 68, 69, 70] (by decide +kernel) (by decide +kernel)
set_option maxRecDepth 20000 in
theorem gX6_place_X6_isPlace : GoodIn wsX6_place (wsV RX6 173 RX6 yX6_isPlace wsX6_isPlace) := goodIn_app (goodIn_of _ (by decide +kernel)) ggX6_place_X6_isPlace
set_option maxRecDepth 20000 in
theorem ggX6_place_X6_within : GoodIn wsX6_place wsX6_within := goodIn_r _ [14] (by decide +kernel) (by decide +kernel)
set_option maxRecDepth 20000 in
theorem gX6_place_X6_within : GoodIn wsX6_place (va_wsS RX6 77 yX6_within wsX6_within) := goodIn_app (goodIn_of _ (by decide +kernel)) ggX6_place_X6_within
set_option maxRecDepth 20000 in
theorem ggX6_place_X6_placeNow : GoodIn wsX6_place wsX6_placeNow := goodIn_r _ [18, 19, 20, 21, 22, 4, 23, 24, 25, 26, 27, 28, 29, 30, 31, 32, 33, 34, 35, 36, 37, 38, 39, 40, 41, 42, 43, 44, 45, 46, 47, 48, 49, 50, 51, 52, 53, 54, 55, 56, 57, 58, 59, 60, 61, 62, 63, 64, 65, 66, 67, 68, 69, 70] (by decide +kernel) (by decide +kernel)
set_option maxRecDepth 20000 in
theorem gX6_place_X6_placeNow : GoodIn wsX6_place (wsV RX6 176 RX6 yX6_placeNow wsX6_placeNow) := goodIn_app (goodIn_of _ (by decide +kernel)) ggX6_place_X6_placeNow
theorem dX6_place_0 : decode cX6_place 0 = .ok (.aload_n 0, 1) := by decide +kernel
theorem dX6_place_1 : decode cX6_place 1 = .ok (.iload_n 1, 1) := by decide +kernel
theorem dX6_place_2 : decode cX6_place 2 = .ok (.invokevirtual 173, 3) := by decide +kernel
theorem dX6_place_5 : decode cX6_place 5 = .ok (.ifCond .ne 8, 3) := by decide +kernel
theorem dX6_place_8 : decode cX6_place 8 = .ok (.bipush (-101), 2) := by decide +kernel
theorem dX6_place_10 : decode cX6_place 10 = .ok (.goto 23, 3) := by decide +kernel
theorem dX6_place_13 : decode cX6_place 13 = .ok (.iload_n 2, 1) := by decide +kernel
theorem dX6_place_14 : decode cX6_place 14 = .ok (.iconst 0, 1) := by decide +kernel
theorem dX6_place_15 : decode cX6_place 15 = .ok (.iconst 1, 1) := by decide +kernel
theorem dX6_place_16 : decode cX6_place 16 = .ok (.invokestatic 77, 3) := by decide +kernel
theorem dX6_place_19 : decode cX6_place 19 = .ok (.ifCond .eq 12, 3) := by decide +kernel
theorem dX6_place_22 : decode cX6_place 22 = .ok (.aload_n 0, 1) := by decide +kernel
theorem dX6_place_23 : decode cX6_place 23 = .ok (.iload_n 1, 1) := by decide +kernel
theorem dX6_place_24 : decode cX6_place 24 = .ok (.iload_n 2, 1) := by decide +kernel
theorem dX6_place_25 : decode cX6_place 25 = .ok (.invokevirtual 176, 3) := by decide +kernel
theorem dX6_place_28 : decode cX6_place 28 = .ok (.goto 5, 3) := by decide +kernel
theorem dX6_place_31 : decode cX6_place 31 = .ok (.bipush (-102), 2) := by decide +kernel
theorem dX6_place_33 : decode cX6_place 33 = .ok (.ireturn, 1) := by decide +kernel
set_option maxRecDepth 20000 in
theorem ggX6_jump_X6_isPeg : GoodIn wsX6_jump wsX6_isPeg := goodIn_r _ [9, 2, 10, 11, 8, 12, 59, 60, 61, 62, 63, 64, 65, 66, 67, 68, 69, 70, 71, 72, 73, 74, 75, 76, 77, 78, 79, 80, 81, 82, 83, 84, 85, 86, 87, 88, 89, 90, 91, 92, 93, 94, 95, 96, 97, 98] (by decide +kernel) (by decide +kernel)
set_option maxRecDepth 20000 in
theorem gX6_jump_X6_isPeg : GoodIn wsX6_jump (wsV RX6 166 RX6 yX6_isPeg wsX6_isPeg) := goodIn_app (goodIn_of _ (by decide +kernel)) ggX6_jump_X6_isPeg
set_option maxRecDepth 20000 in
theorem ggX6_jump_X6_isPlace : GoodIn wsX6_jump wsX6_isPlace := goodIn_r _ [16, 17, 18, 19, 8, 20, 21, 22, 10, 11, 12, 59, 60, 61, 62, 63, 64, 65, 66, 67, 68, 69, 70, 71, 72, 73, 74, 75, 76, 77, 78, 79, 80, 81, 82, 83, 84, 85, 86, 87, 88, 89, 90, 91, 92, 93, 94, 95, 96, 97, 98] (by decide +kernel) (by decide +kernel)
set_option maxRecDepth 20000 in
theorem gX6_jump_X6_isPlace : GoodIn wsX6_jump (wsV RX6 173 RX6 yX6_isPlace wsX6_isPlace) := goodIn_app (goodIn_of _ (by decide +kernel)) ggX6_jump_X6_isPlace
set_option maxRecDepth 20000 in
theorem ggX6_jump_X6_putDeep : GoodIn wsX6_jump wsX6_putDeep := goodIn_r _ [26, 4, 2, 3, 59, 60, 61, 62, 63, 64, 65, 66, 67, 68, 69, 70, 71, 72, 73, 74, 75, 76, 77, 78, 79, 80, 81, 82, 83, 84, 85, 86, 87, 88, 89, 90, 91, 92, 93, 94, 95, 96, 97, 98] (by decide +kernel) (by decide +kernel)
set_option maxRecDepth 20000 in
theorem gX6_jump_X6_putDeep : GoodIn wsX6_jump (wsV RX6 157 RX6 yX6_putDeep wsX6_putDeep) := goodIn_app (goodIn_of _ (by decide +kernel)) ggX6_jump_X6_putDeep
set_option maxRecDepth 20000 in
theorem ggX6_jump_X6_isJump : GoodIn wsX6_jump wsX6_isJump := goodIn_r _ [30, 31, 32, 33, 8, 34, 4, 35, 36, 22, 37, 38, 39, 40, 41, 42, 43, 2, 44, 45, 46, 47, 48, 49, 50, 59, 60, 61, 62, 63, 64, 65, 66, 67, 68, 69, 70, 71, 72, 73, 74, 75, 76, 77, 78, 79, 80, 81, 82, 83, 84, 85, 86, 87, 88, 89, 90, 91, 92, 93, 94, 95, 96, 97, 98] (by decide +kernel) (by decide +kernel)
set_option maxRecDepth 20000 in
theorem gX6_jump_X6_isJump : GoodIn wsX6_jump (wsV RX6 148 RX6 yX6_isJump wsX6_isJump) := goodIn_app (goodIn_of _ (by decide +kernel)) ggX6_jump_X6_isJump
set_option maxRecDepth 20000 in
theorem ggX6_jump_X6_goDeep : GoodIn wsX6_jump wsX6_goDeep := goodIn_r _ [54, 4, 36, 31, 32, 33, 8, 34, 35, 22, 37, 38, 39, 40, 41, 42, 43, 2, 44, 45, 46, 47, 48, 49, 50, 59, 60, 61, 62, 63, 64, 65, 66, 67, 68, 69, 70, 71, 72, 73, 74, 75, 76, 77, 78, 79, 80, 81, 82, 83, 84, 85, 86, 87, 88, 89, 90, 91, 92, 93, 94, 95, 96, 97, 98] (by decide +kernel) (by decide +kernel)
set_option maxRecDepth 20000 in
theorem gX6_jump_X6_goDeep : GoodIn wsX6_jump (wsV RX6 179 RX6 yX6_goDeep wsX6_goDeep) := goodIn_app (goodIn_of _ (by decide +kernel)) ggX6_jump_X6_goDeep
set_option maxRecDepth 20000 in
theorem ggX6_jump_X6_onBoard : GoodIn wsX6_jump wsX6_onBoard := goodIn_r _ [58, 2, 4, 59, 60, 61, 62, 63, 64, 65, 66, 67, 68, 69, 70, 71, 72, 73, 74, 75, 76, 77, 78, 79, 80, 81, 82, 83, 84, 85, 86, 87, 88, 89, 90, 91, 92, 93, 94, 95, 96, 97, 98] (by decide +kernel) (by decide +kernel)
set_option maxRecDepth 20000 in
theorem gX6_jump_X6_onBoard : GoodIn wsX6_jump (wsV RX6 183 RX6 yX6_onBoard wsX6_onBoard) := goodIn_app (goodIn_of _ (by decide +kernel)) ggX6_jump_X6_onBoard
