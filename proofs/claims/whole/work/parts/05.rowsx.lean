theorem dX0_init_0 : decode cX0_init 0 = .ok (.aload_n 0, 1) := by decide +kernel
theorem dX0_init_1 : decode cX0_init 1 = .ok (.invokespecial 3, 3) := by decide +kernel
theorem dX0_init_4 : decode cX0_init 4 = .ok (.aload_n 0, 1) := by decide +kernel
theorem dX0_init_5 : decode cX0_init 5 = .ok (.bipush 96, 2) := by decide +kernel
theorem dX0_init_7 : decode cX0_init 7 = .ok (.newarray .int, 2) := by decide +kernel
theorem dX0_init_9 : decode cX0_init 9 = .ok (.putfield 9, 3) := by decide +kernel
theorem dX0_init_12 : decode cX0_init 12 = .ok (.return_, 1) := by decide +kernel
set_option maxRecDepth 20000 in
theorem ggX0_lay_X0_placeAt : GoodIn wsX0_lay wsX0_placeAt := goodIn_r _ [9, 1, 2, 10, 11, 12, 13] (by decide +kernel) (by decide +kernel)
set_option maxRecDepth 20000 in
theorem gX0_lay_X0_placeAt : GoodIn wsX0_lay (wsV RX0 31 RX0 yX0_placeAt wsX0_placeAt) := goodIn_app (goodIn_of _ (by decide +kernel)) ggX0_lay_X0_placeAt
theorem dX0_lay_0 : decode cX0_lay 0 = .ok (.iload_n 1, 1) := by decide +kernel
theorem dX0_lay_1 : decode cX0_lay 1 = .ok (.ifCond .le 21, 3) := by decide +kernel
theorem dX0_lay_4 : decode cX0_lay 4 = .ok (.iload_n 1, 1) := by decide +kernel
theorem dX0_lay_5 : decode cX0_lay 5 = .ok (.iconst 4, 1) := by decide +kernel
theorem dX0_lay_6 : decode cX0_lay 6 = .ok (.if_icmp .gt 16, 3) := by decide +kernel
theorem dX0_lay_9 : decode cX0_lay 9 = .ok (.iload_n 2, 1) := by decide +kernel
theorem dX0_lay_10 : decode cX0_lay 10 = .ok (.ifCond .le 12, 3) := by decide +kernel
theorem dX0_lay_13 : decode cX0_lay 13 = .ok (.iload_n 2, 1) := by decide +kernel
theorem dX0_lay_14 : decode cX0_lay 14 = .ok (.iconst 4, 1) := by decide +kernel
theorem dX0_lay_15 : decode cX0_lay 15 = .ok (.if_icmp .gt 7, 3) := by decide +kernel
theorem dX0_lay_18 : decode cX0_lay 18 = .ok (.iconst 1, 1) := by decide +kernel
theorem dX0_lay_19 : decode cX0_lay 19 = .ok (.goto 4, 3) := by decide +kernel
theorem dX0_lay_22 : decode cX0_lay 22 = .ok (.iconst 0, 1) := by decide +kernel
theorem dX0_lay_23 : decode cX0_lay 23 = .ok (.istore_n 3, 1) := by decide +kernel
theorem dX0_lay_24 : decode cX0_lay 24 = .ok (.iload_n 3, 1) := by decide +kernel
theorem dX0_lay_25 : decode cX0_lay 25 = .ok (.ifCond .eq 11, 3) := by decide +kernel
theorem dX0_lay_28 : decode cX0_lay 28 = .ok (.iload_n 1, 1) := by decide +kernel
theorem dX0_lay_29 : decode cX0_lay 29 = .ok (.iload_n 2, 1) := by decide +kernel
theorem dX0_lay_30 : decode cX0_lay 30 = .ok (.imul, 1) := by decide +kernel
theorem dX0_lay_31 : decode cX0_lay 31 = .ok (.bipush 12, 2) := by decide +kernel
theorem dX0_lay_33 : decode cX0_lay 33 = .ok (.if_icmp .le 4, 3) := by decide +kernel
theorem dX0_lay_36 : decode cX0_lay 36 = .ok (.return_, 1) := by decide +kernel
theorem dX0_lay_37 : decode cX0_lay 37 = .ok (.aload_n 0, 1) := by decide +kernel
theorem dX0_lay_38 : decode cX0_lay 38 = .ok (.iload_n 1, 1) := by decide +kernel
theorem dX0_lay_39 : decode cX0_lay 39 = .ok (.putfield 15, 3) := by decide +kernel
theorem dX0_lay_42 : decode cX0_lay 42 = .ok (.aload_n 0, 1) := by decide +kernel
theorem dX0_lay_43 : decode cX0_lay 43 = .ok (.iload_n 2, 1) := by decide +kernel
theorem dX0_lay_44 : decode cX0_lay 44 = .ok (.putfield 19, 3) := by decide +kernel
theorem dX0_lay_47 : decode cX0_lay 47 = .ok (.aload_n 0, 1) := by decide +kernel
theorem dX0_lay_48 : decode cX0_lay 48 = .ok (.iload_n 1, 1) := by decide +kernel
theorem dX0_lay_49 : decode cX0_lay 49 = .ok (.iload_n 2, 1) := by decide +kernel
theorem dX0_lay_50 : decode cX0_lay 50 = .ok (.imul, 1) := by decide +kernel
theorem dX0_lay_51 : decode cX0_lay 51 = .ok (.putfield 22, 3) := by decide +kernel
theorem dX0_lay_54 : decode cX0_lay 54 = .ok (.iconst 0, 1) := by decide +kernel
theorem dX0_lay_55 : decode cX0_lay 55 = .ok (.istore 4, 2) := by decide +kernel
theorem dX0_lay_57 : decode cX0_lay 57 = .ok (.iload 4, 2) := by decide +kernel
theorem dX0_lay_59 : decode cX0_lay 59 = .ok (.aload_n 0, 1) := by decide +kernel
theorem dX0_lay_60 : decode cX0_lay 60 = .ok (.getfield 15, 3) := by decide +kernel
theorem dX0_lay_63 : decode cX0_lay 63 = .ok (.if_icmp .ge 86, 3) := by decide +kernel
theorem dX0_lay_66 : decode cX0_lay 66 = .ok (.iconst 0, 1) := by decide +kernel
theorem dX0_lay_67 : decode cX0_lay 67 = .ok (.istore 5, 2) := by decide +kernel
theorem dX0_lay_69 : decode cX0_lay 69 = .ok (.iload 5, 2) := by decide +kernel
theorem dX0_lay_71 : decode cX0_lay 71 = .ok (.aload_n 0, 1) := by decide +kernel
theorem dX0_lay_72 : decode cX0_lay 72 = .ok (.getfield 19, 3) := by decide +kernel
theorem dX0_lay_75 : decode cX0_lay 75 = .ok (.if_icmp .ge 68, 3) := by decide +kernel
theorem dX0_lay_78 : decode cX0_lay 78 = .ok (.iconst 0, 1) := by decide +kernel
theorem dX0_lay_79 : decode cX0_lay 79 = .ok (.istore 6, 2) := by decide +kernel
theorem dX0_lay_81 : decode cX0_lay 81 = .ok (.iload 6, 2) := by decide +kernel
theorem dX0_lay_83 : decode cX0_lay 83 = .ok (.bipush 8, 2) := by decide +kernel
theorem dX0_lay_85 : decode cX0_lay 85 = .ok (.if_icmp .ge 52, 3) := by decide +kernel
theorem dX0_lay_88 : decode cX0_lay 88 = .ok (.aload_n 0, 1) := by decide +kernel
theorem dX0_lay_89 : decode cX0_lay 89 = .ok (.getfield 9, 3) := by decide +kernel
theorem dX0_lay_92 : decode cX0_lay 92 = .ok (.iload 4, 2) := by decide +kernel
theorem dX0_lay_94 : decode cX0_lay 94 = .ok (.aload_n 0, 1) := by decide +kernel
theorem dX0_lay_95 : decode cX0_lay 95 = .ok (.getfield 19, 3) := by decide +kernel
theorem dX0_lay_98 : decode cX0_lay 98 = .ok (.imul, 1) := by decide +kernel
theorem dX0_lay_99 : decode cX0_lay 99 = .ok (.iload 5, 2) := by decide +kernel
theorem dX0_lay_101 : decode cX0_lay 101 = .ok (.iadd, 1) := by decide +kernel
theorem dX0_lay_102 : decode cX0_lay 102 = .ok (.bipush 8, 2) := by decide +kernel
theorem dX0_lay_104 : decode cX0_lay 104 = .ok (.imul, 1) := by decide +kernel
theorem dX0_lay_105 : decode cX0_lay 105 = .ok (.iload 6, 2) := by decide +kernel
theorem dX0_lay_107 : decode cX0_lay 107 = .ok (.iadd, 1) := by decide +kernel
theorem dX0_lay_108 : decode cX0_lay 108 = .ok (.aload_n 0, 1) := by decide +kernel
theorem dX0_lay_109 : decode cX0_lay 109 = .ok (.iload 4, 2) := by decide +kernel
theorem dX0_lay_111 : decode cX0_lay 111 = .ok (.getstatic 25, 3) := by decide +kernel
theorem dX0_lay_114 : decode cX0_lay 114 = .ok (.iload 6, 2) := by decide +kernel
theorem dX0_lay_116 : decode cX0_lay 116 = .ok (.iaload, 1) := by decide +kernel
theorem dX0_lay_117 : decode cX0_lay 117 = .ok (.iadd, 1) := by decide +kernel
theorem dX0_lay_118 : decode cX0_lay 118 = .ok (.iload 5, 2) := by decide +kernel
theorem dX0_lay_120 : decode cX0_lay 120 = .ok (.getstatic 28, 3) := by decide +kernel
theorem dX0_lay_123 : decode cX0_lay 123 = .ok (.iload 6, 2) := by decide +kernel
theorem dX0_lay_125 : decode cX0_lay 125 = .ok (.iaload, 1) := by decide +kernel
theorem dX0_lay_126 : decode cX0_lay 126 = .ok (.iadd, 1) := by decide +kernel
theorem dX0_lay_127 : decode cX0_lay 127 = .ok (.invokevirtual 31, 3) := by decide +kernel
theorem dX0_lay_130 : decode cX0_lay 130 = .ok (.iastore, 1) := by decide +kernel
theorem dX0_lay_131 : decode cX0_lay 131 = .ok (.iinc 6 1, 3) := by decide +kernel
theorem dX0_lay_134 : decode cX0_lay 134 = .ok (.goto (-53), 3) := by decide +kernel
theorem dX0_lay_137 : decode cX0_lay 137 = .ok (.iinc 5 1, 3) := by decide +kernel
theorem dX0_lay_140 : decode cX0_lay 140 = .ok (.goto (-71), 3) := by decide +kernel
theorem dX0_lay_143 : decode cX0_lay 143 = .ok (.iinc 4 1, 3) := by decide +kernel
theorem dX0_lay_146 : decode cX0_lay 146 = .ok (.goto (-89), 3) := by decide +kernel
theorem dX0_lay_149 : decode cX0_lay 149 = .ok (.return_, 1) := by decide +kernel
theorem dX0_placeAt_0 : decode cX0_placeAt 0 = .ok (.iload_n 1, 1) := by decide +kernel
theorem dX0_placeAt_1 : decode cX0_placeAt 1 = .ok (.ifCond .lt 27, 3) := by decide +kernel
theorem dX0_placeAt_4 : decode cX0_placeAt 4 = .ok (.iload_n 1, 1) := by decide +kernel
theorem dX0_placeAt_5 : decode cX0_placeAt 5 = .ok (.aload_n 0, 1) := by decide +kernel
theorem dX0_placeAt_6 : decode cX0_placeAt 6 = .ok (.getfield 15, 3) := by decide +kernel
theorem dX0_placeAt_9 : decode cX0_placeAt 9 = .ok (.if_icmp .ge 19, 3) := by decide +kernel
theorem dX0_placeAt_12 : decode cX0_placeAt 12 = .ok (.iload_n 2, 1) := by decide +kernel
theorem dX0_placeAt_13 : decode cX0_placeAt 13 = .ok (.ifCond .lt 15, 3) := by decide +kernel
theorem dX0_placeAt_16 : decode cX0_placeAt 16 = .ok (.iload_n 2, 1) := by decide +kernel
theorem dX0_placeAt_17 : decode cX0_placeAt 17 = .ok (.aload_n 0, 1) := by decide +kernel
theorem dX0_placeAt_18 : decode cX0_placeAt 18 = .ok (.getfield 19, 3) := by decide +kernel
theorem dX0_placeAt_21 : decode cX0_placeAt 21 = .ok (.if_icmp .ge 7, 3) := by decide +kernel
theorem dX0_placeAt_24 : decode cX0_placeAt 24 = .ok (.iconst 1, 1) := by decide +kernel
theorem dX0_placeAt_25 : decode cX0_placeAt 25 = .ok (.goto 4, 3) := by decide +kernel
theorem dX0_placeAt_28 : decode cX0_placeAt 28 = .ok (.iconst 0, 1) := by decide +kernel
theorem dX0_placeAt_29 : decode cX0_placeAt 29 = .ok (.istore_n 3, 1) := by decide +kernel
theorem dX0_placeAt_30 : decode cX0_placeAt 30 = .ok (.iload_n 3, 1) := by decide +kernel
theorem dX0_placeAt_31 : decode cX0_placeAt 31 = .ok (.ifCond .eq 14, 3) := by decide +kernel
theorem dX0_placeAt_34 : decode cX0_placeAt 34 = .ok (.iload_n 1, 1) := by decide +kernel
theorem dX0_placeAt_35 : decode cX0_placeAt 35 = .ok (.aload_n 0, 1) := by decide +kernel
theorem dX0_placeAt_36 : decode cX0_placeAt 36 = .ok (.getfield 19, 3) := by decide +kernel
theorem dX0_placeAt_39 : decode cX0_placeAt 39 = .ok (.imul, 1) := by decide +kernel
theorem dX0_placeAt_40 : decode cX0_placeAt 40 = .ok (.iload_n 2, 1) := by decide +kernel
theorem dX0_placeAt_41 : decode cX0_placeAt 41 = .ok (.iadd, 1) := by decide +kernel
theorem dX0_placeAt_42 : decode cX0_placeAt 42 = .ok (.goto 4, 3) := by decide +kernel
theorem dX0_placeAt_45 : decode cX0_placeAt 45 = .ok (.iconst (-1), 1) := by decide +kernel
theorem dX0_placeAt_46 : decode cX0_placeAt 46 = .ok (.ireturn, 1) := by decide +kernel
theorem dX0_has_0 : decode cX0_has 0 = .ok (.iload_n 1, 1) := by decide +kernel
theorem dX0_has_1 : decode cX0_has 1 = .ok (.ifCond .lt 21, 3) := by decide +kernel
theorem dX0_has_4 : decode cX0_has 4 = .ok (.iload_n 1, 1) := by decide +kernel
theorem dX0_has_5 : decode cX0_has 5 = .ok (.bipush 12, 2) := by decide +kernel
theorem dX0_has_7 : decode cX0_has 7 = .ok (.if_icmp .ge 15, 3) := by decide +kernel
theorem dX0_has_10 : decode cX0_has 10 = .ok (.iload_n 1, 1) := by decide +kernel
theorem dX0_has_11 : decode cX0_has 11 = .ok (.aload_n 0, 1) := by decide +kernel
theorem dX0_has_12 : decode cX0_has 12 = .ok (.getfield 22, 3) := by decide +kernel
theorem dX0_has_15 : decode cX0_has 15 = .ok (.if_icmp .ge 7, 3) := by decide +kernel
theorem dX0_has_18 : decode cX0_has 18 = .ok (.iconst 1, 1) := by decide +kernel
theorem dX0_has_19 : decode cX0_has 19 = .ok (.goto 4, 3) := by decide +kernel
theorem dX0_has_22 : decode cX0_has 22 = .ok (.iconst 0, 1) := by decide +kernel
theorem dX0_has_23 : decode cX0_has 23 = .ok (.ireturn, 1) := by decide +kernel
set_option maxRecDepth 20000 in
theorem ggX0_next_X0_has : GoodIn wsX0_next wsX0_has := goodIn_r _ [6, 7, 8, 9, 10, 11] (by decide +kernel) (by decide +kernel)
set_option maxRecDepth 20000 in
theorem gX0_next_X0_has : GoodIn wsX0_next (wsV RX0 35 RX0 yX0_has wsX0_has) := goodIn_app (goodIn_of _ (by decide +kernel)) ggX0_next_X0_has
theorem dX0_next_0 : decode cX0_next 0 = .ok (.aload_n 0, 1) := by decide +kernel
theorem dX0_next_1 : decode cX0_next 1 = .ok (.iload_n 1, 1) := by decide +kernel
theorem dX0_next_2 : decode cX0_next 2 = .ok (.invokevirtual 35, 3) := by decide +kernel
theorem dX0_next_5 : decode cX0_next 5 = .ok (.ifCond .eq 17, 3) := by decide +kernel
theorem dX0_next_8 : decode cX0_next 8 = .ok (.iload_n 2, 1) := by decide +kernel
theorem dX0_next_9 : decode cX0_next 9 = .ok (.ifCond .lt 13, 3) := by decide +kernel
theorem dX0_next_12 : decode cX0_next 12 = .ok (.iload_n 2, 1) := by decide +kernel
theorem dX0_next_13 : decode cX0_next 13 = .ok (.bipush 8, 2) := by decide +kernel
theorem dX0_next_15 : decode cX0_next 15 = .ok (.if_icmp .ge 7, 3) := by decide +kernel
theorem dX0_next_18 : decode cX0_next 18 = .ok (.iconst 1, 1) := by decide +kernel
theorem dX0_next_19 : decode cX0_next 19 = .ok (.goto 4, 3) := by decide +kernel
theorem dX0_next_22 : decode cX0_next 22 = .ok (.iconst 0, 1) := by decide +kernel
theorem dX0_next_23 : decode cX0_next 23 = .ok (.istore_n 3, 1) := by decide +kernel
theorem dX0_next_24 : decode cX0_next 24 = .ok (.iload_n 3, 1) := by decide +kernel
theorem dX0_next_25 : decode cX0_next 25 = .ok (.ifCond .eq 17, 3) := by decide +kernel
theorem dX0_next_28 : decode cX0_next 28 = .ok (.aload_n 0, 1) := by decide +kernel
theorem dX0_next_29 : decode cX0_next 29 = .ok (.getfield 9, 3) := by decide +kernel
theorem dX0_next_32 : decode cX0_next 32 = .ok (.iload_n 1, 1) := by decide +kernel
theorem dX0_next_33 : decode cX0_next 33 = .ok (.bipush 8, 2) := by decide +kernel
theorem dX0_next_35 : decode cX0_next 35 = .ok (.imul, 1) := by decide +kernel
theorem dX0_next_36 : decode cX0_next 36 = .ok (.iload_n 2, 1) := by decide +kernel
theorem dX0_next_37 : decode cX0_next 37 = .ok (.iadd, 1) := by decide +kernel
theorem dX0_next_38 : decode cX0_next 38 = .ok (.iaload, 1) := by decide +kernel
theorem dX0_next_39 : decode cX0_next 39 = .ok (.goto 4, 3) := by decide +kernel
theorem dX0_next_42 : decode cX0_next 42 = .ok (.iconst (-1), 1) := by decide +kernel
theorem dX0_next_43 : decode cX0_next 43 = .ok (.ireturn, 1) := by decide +kernel
theorem dX1_init_0 : decode cX1_init 0 = .ok (.aload_n 0, 1) := by decide +kernel
theorem dX1_init_1 : decode cX1_init 1 = .ok (.invokespecial 3, 3) := by decide +kernel
theorem dX1_init_4 : decode cX1_init 4 = .ok (.return_, 1) := by decide +kernel
theorem dX1_begin_0 : decode cX1_begin 0 = .ok (.aload_n 0, 1) := by decide +kernel
theorem dX1_begin_1 : decode cX1_begin 1 = .ok (.iconst 0, 1) := by decide +kernel
theorem dX1_begin_2 : decode cX1_begin 2 = .ok (.putfield 9, 3) := by decide +kernel
theorem dX1_begin_5 : decode cX1_begin 5 = .ok (.aload_n 0, 1) := by decide +kernel
theorem dX1_begin_6 : decode cX1_begin 6 = .ok (.iconst 0, 1) := by decide +kernel
theorem dX1_begin_7 : decode cX1_begin 7 = .ok (.putfield 15, 3) := by decide +kernel
theorem dX1_begin_10 : decode cX1_begin 10 = .ok (.aload_n 0, 1) := by decide +kernel
theorem dX1_begin_11 : decode cX1_begin 11 = .ok (.iconst (-1), 1) := by decide +kernel
theorem dX1_begin_12 : decode cX1_begin 12 = .ok (.putfield 18, 3) := by decide +kernel
theorem dX1_begin_15 : decode cX1_begin 15 = .ok (.aload_n 0, 1) := by decide +kernel
theorem dX1_begin_16 : decode cX1_begin 16 = .ok (.iconst 0, 1) := by decide +kernel
theorem dX1_begin_17 : decode cX1_begin 17 = .ok (.putfield 21, 3) := by decide +kernel
theorem dX1_begin_20 : decode cX1_begin 20 = .ok (.aload_n 0, 1) := by decide +kernel
theorem dX1_begin_21 : decode cX1_begin 21 = .ok (.iconst 0, 1) := by decide +kernel
theorem dX1_begin_22 : decode cX1_begin 22 = .ok (.putfield 24, 3) := by decide +kernel
theorem dX1_begin_25 : decode cX1_begin 25 = .ok (.aload_n 0, 1) := by decide +kernel
theorem dX1_begin_26 : decode cX1_begin 26 = .ok (.iconst 0, 1) := by decide +kernel
theorem dX1_begin_27 : decode cX1_begin 27 = .ok (.putfield 27, 3) := by decide +kernel
theorem dX1_begin_30 : decode cX1_begin 30 = .ok (.aload_n 0, 1) := by decide +kernel
theorem dX1_begin_31 : decode cX1_begin 31 = .ok (.iconst 0, 1) := by decide +kernel
theorem dX1_begin_32 : decode cX1_begin 32 = .ok (.putfield 30, 3) := by decide +kernel
theorem dX1_begin_35 : decode cX1_begin 35 = .ok (.aload_n 0, 1) := by decide +kernel
theorem dX1_begin_36 : decode cX1_begin 36 = .ok (.iconst (-1), 1) := by decide +kernel
theorem dX1_begin_37 : decode cX1_begin 37 = .ok (.putfield 33, 3) := by decide +kernel
theorem dX1_begin_40 : decode cX1_begin 40 = .ok (.aload_n 0, 1) := by decide +kernel
theorem dX1_begin_41 : decode cX1_begin 41 = .ok (.iconst 0, 1) := by decide +kernel
theorem dX1_begin_42 : decode cX1_begin 42 = .ok (.putfield 36, 3) := by decide +kernel
theorem dX1_begin_45 : decode cX1_begin 45 = .ok (.return_, 1) := by decide +kernel
theorem dX1_take_0 : decode cX1_take 0 = .ok (.aload_n 0, 1) := by decide +kernel
theorem dX1_take_1 : decode cX1_take 1 = .ok (.getfield 9, 3) := by decide +kernel
theorem dX1_take_4 : decode cX1_take 4 = .ok (.ifCond .eq 14, 3) := by decide +kernel
theorem dX1_take_7 : decode cX1_take 7 = .ok (.aload_n 2, 1) := by decide +kernel
theorem dX1_take_8 : decode cX1_take 8 = .ok (.getfield 15, 3) := by decide +kernel
theorem dX1_take_11 : decode cX1_take 11 = .ok (.aload_n 0, 1) := by decide +kernel
theorem dX1_take_12 : decode cX1_take 12 = .ok (.getfield 15, 3) := by decide +kernel
theorem dX1_take_15 : decode cX1_take 15 = .ok (.if_icmp .ge 16, 3) := by decide +kernel
theorem dX1_take_18 : decode cX1_take 18 = .ok (.aload_n 0, 1) := by decide +kernel
theorem dX1_take_19 : decode cX1_take 19 = .ok (.aload_n 2, 1) := by decide +kernel
theorem dX1_take_20 : decode cX1_take 20 = .ok (.getfield 15, 3) := by decide +kernel
theorem dX1_take_23 : decode cX1_take 23 = .ok (.putfield 15, 3) := by decide +kernel
theorem dX1_take_26 : decode cX1_take 26 = .ok (.aload_n 0, 1) := by decide +kernel
theorem dX1_take_27 : decode cX1_take 27 = .ok (.iload_n 1, 1) := by decide +kernel
theorem dX1_take_28 : decode cX1_take 28 = .ok (.putfield 18, 3) := by decide +kernel
theorem dX1_take_31 : decode cX1_take 31 = .ok (.aload_n 0, 1) := by decide +kernel
theorem dX1_take_32 : decode cX1_take 32 = .ok (.getfield 9, 3) := by decide +kernel
theorem dX1_take_35 : decode cX1_take 35 = .ok (.ifCond .eq 16, 3) := by decide +kernel
theorem dX1_take_38 : decode cX1_take 38 = .ok (.aload_n 2, 1) := by decide +kernel
theorem dX1_take_39 : decode cX1_take 39 = .ok (.getfield 27, 3) := by decide +kernel
theorem dX1_take_42 : decode cX1_take 42 = .ok (.iconst 1, 1) := by decide +kernel
theorem dX1_take_43 : decode cX1_take 43 = .ok (.iadd, 1) := by decide +kernel
theorem dX1_take_44 : decode cX1_take 44 = .ok (.aload_n 0, 1) := by decide +kernel
theorem dX1_take_45 : decode cX1_take 45 = .ok (.getfield 27, 3) := by decide +kernel
theorem dX1_take_48 : decode cX1_take 48 = .ok (.if_icmp .ge 13, 3) := by decide +kernel
theorem dX1_take_51 : decode cX1_take 51 = .ok (.aload_n 0, 1) := by decide +kernel
theorem dX1_take_52 : decode cX1_take 52 = .ok (.aload_n 2, 1) := by decide +kernel
theorem dX1_take_53 : decode cX1_take 53 = .ok (.getfield 27, 3) := by decide +kernel
theorem dX1_take_56 : decode cX1_take 56 = .ok (.iconst 1, 1) := by decide +kernel
theorem dX1_take_57 : decode cX1_take 57 = .ok (.iadd, 1) := by decide +kernel
theorem dX1_take_58 : decode cX1_take 58 = .ok (.putfield 27, 3) := by decide +kernel
theorem dX1_take_61 : decode cX1_take 61 = .ok (.aload_n 0, 1) := by decide +kernel
theorem dX1_take_62 : decode cX1_take 62 = .ok (.aload_n 0, 1) := by decide +kernel
theorem dX1_take_63 : decode cX1_take 63 = .ok (.getfield 24, 3) := by decide +kernel
theorem dX1_take_66 : decode cX1_take 66 = .ok (.aload_n 2, 1) := by decide +kernel
theorem dX1_take_67 : decode cX1_take 67 = .ok (.getfield 24, 3) := by decide +kernel
theorem dX1_take_70 : decode cX1_take 70 = .ok (.iconst 1, 1) := by decide +kernel
theorem dX1_take_71 : decode cX1_take 71 = .ok (.iadd, 1) := by decide +kernel
theorem dX1_take_72 : decode cX1_take 72 = .ok (.invokestatic 39, 3) := by decide +kernel
theorem dX1_take_75 : decode cX1_take 75 = .ok (.putfield 24, 3) := by decide +kernel
theorem dX1_take_78 : decode cX1_take 78 = .ok (.aload_n 0, 1) := by decide +kernel
theorem dX1_take_79 : decode cX1_take 79 = .ok (.dup, 1) := by decide +kernel
theorem dX1_take_80 : decode cX1_take 80 = .ok (.getfield 21, 3) := by decide +kernel
theorem dX1_take_83 : decode cX1_take 83 = .ok (.aload_n 2, 1) := by decide +kernel
theorem dX1_take_84 : decode cX1_take 84 = .ok (.getfield 21, 3) := by decide +kernel
theorem dX1_take_87 : decode cX1_take 87 = .ok (.iadd, 1) := by decide +kernel
theorem dX1_take_88 : decode cX1_take 88 = .ok (.putfield 21, 3) := by decide +kernel
theorem dX1_take_91 : decode cX1_take 91 = .ok (.aload_n 0, 1) := by decide +kernel
theorem dX1_take_92 : decode cX1_take 92 = .ok (.dup, 1) := by decide +kernel
theorem dX1_take_93 : decode cX1_take 93 = .ok (.getfield 30, 3) := by decide +kernel
theorem dX1_take_96 : decode cX1_take 96 = .ok (.aload_n 2, 1) := by decide +kernel
theorem dX1_take_97 : decode cX1_take 97 = .ok (.getfield 30, 3) := by decide +kernel
theorem dX1_take_100 : decode cX1_take 100 = .ok (.ior, 1) := by decide +kernel
theorem dX1_take_101 : decode cX1_take 101 = .ok (.putfield 30, 3) := by decide +kernel
theorem dX1_take_104 : decode cX1_take 104 = .ok (.aload_n 0, 1) := by decide +kernel
theorem dX1_take_105 : decode cX1_take 105 = .ok (.getfield 33, 3) := by decide +kernel
theorem dX1_take_108 : decode cX1_take 108 = .ok (.iconst (-1), 1) := by decide +kernel
theorem dX1_take_109 : decode cX1_take 109 = .ok (.if_icmp .ne 16, 3) := by decide +kernel
theorem dX1_take_112 : decode cX1_take 112 = .ok (.aload_n 2, 1) := by decide +kernel
theorem dX1_take_113 : decode cX1_take 113 = .ok (.getfield 33, 3) := by decide +kernel
theorem dX1_take_116 : decode cX1_take 116 = .ok (.iconst (-1), 1) := by decide +kernel
theorem dX1_take_117 : decode cX1_take 117 = .ok (.if_icmp .ne 8, 3) := by decide +kernel
theorem dX1_take_120 : decode cX1_take 120 = .ok (.aload_n 0, 1) := by decide +kernel
theorem dX1_take_121 : decode cX1_take 121 = .ok (.iload_n 1, 1) := by decide +kernel
theorem dX1_take_122 : decode cX1_take 122 = .ok (.putfield 33, 3) := by decide +kernel
theorem dX1_take_125 : decode cX1_take 125 = .ok (.aload_n 0, 1) := by decide +kernel
theorem dX1_take_126 : decode cX1_take 126 = .ok (.dup, 1) := by decide +kernel
theorem dX1_take_127 : decode cX1_take 127 = .ok (.getfield 36, 3) := by decide +kernel
theorem dX1_take_130 : decode cX1_take 130 = .ok (.aload_n 2, 1) := by decide +kernel
theorem dX1_take_131 : decode cX1_take 131 = .ok (.getfield 36, 3) := by decide +kernel
theorem dX1_take_134 : decode cX1_take 134 = .ok (.iadd, 1) := by decide +kernel
theorem dX1_take_135 : decode cX1_take 135 = .ok (.putfield 36, 3) := by decide +kernel
theorem dX1_take_138 : decode cX1_take 138 = .ok (.aload_n 0, 1) := by decide +kernel
theorem dX1_take_139 : decode cX1_take 139 = .ok (.dup, 1) := by decide +kernel
theorem dX1_take_140 : decode cX1_take 140 = .ok (.getfield 9, 3) := by decide +kernel
theorem dX1_take_143 : decode cX1_take 143 = .ok (.iconst 1, 1) := by decide +kernel
theorem dX1_take_144 : decode cX1_take 144 = .ok (.iadd, 1) := by decide +kernel
theorem dX1_take_145 : decode cX1_take 145 = .ok (.putfield 9, 3) := by decide +kernel
theorem dX1_take_148 : decode cX1_take 148 = .ok (.return_, 1) := by decide +kernel
theorem dX1_end_0 : decode cX1_end 0 = .ok (.aload_n 0, 1) := by decide +kernel
theorem dX1_end_1 : decode cX1_end 1 = .ok (.getfield 9, 3) := by decide +kernel
theorem dX1_end_4 : decode cX1_end 4 = .ok (.ifCond .le 19, 3) := by decide +kernel
theorem dX1_end_7 : decode cX1_end 7 = .ok (.aload_n 0, 1) := by decide +kernel
theorem dX1_end_8 : decode cX1_end 8 = .ok (.dup, 1) := by decide +kernel
theorem dX1_end_9 : decode cX1_end 9 = .ok (.getfield 36, 3) := by decide +kernel
theorem dX1_end_12 : decode cX1_end 12 = .ok (.aload_n 0, 1) := by decide +kernel
theorem dX1_end_13 : decode cX1_end 13 = .ok (.getfield 9, 3) := by decide +kernel
theorem dX1_end_16 : decode cX1_end 16 = .ok (.idiv, 1) := by decide +kernel
theorem dX1_end_17 : decode cX1_end 17 = .ok (.putfield 36, 3) := by decide +kernel
theorem dX1_end_20 : decode cX1_end 20 = .ok (.goto 27, 3) := by decide +kernel
theorem dX1_end_23 : decode cX1_end 23 = .ok (.aload_n 0, 1) := by decide +kernel
theorem dX1_end_24 : decode cX1_end 24 = .ok (.iload_n 1, 1) := by decide +kernel
theorem dX1_end_25 : decode cX1_end 25 = .ok (.putfield 15, 3) := by decide +kernel
theorem dX1_end_28 : decode cX1_end 28 = .ok (.aload_n 0, 1) := by decide +kernel
theorem dX1_end_29 : decode cX1_end 29 = .ok (.iconst 1, 1) := by decide +kernel
theorem dX1_end_30 : decode cX1_end 30 = .ok (.putfield 21, 3) := by decide +kernel
theorem dX1_end_33 : decode cX1_end 33 = .ok (.aload_n 0, 1) := by decide +kernel
theorem dX1_end_34 : decode cX1_end 34 = .ok (.iload_n 2, 1) := by decide +kernel
theorem dX1_end_35 : decode cX1_end 35 = .ok (.putfield 30, 3) := by decide +kernel
theorem dX1_end_38 : decode cX1_end 38 = .ok (.aload_n 0, 1) := by decide +kernel
theorem dX1_end_39 : decode cX1_end 39 = .ok (.sipush 1000, 3) := by decide +kernel
theorem dX1_end_42 : decode cX1_end 42 = .ok (.iload_n 1, 1) := by decide +kernel
theorem dX1_end_43 : decode cX1_end 43 = .ok (.imul, 1) := by decide +kernel
theorem dX1_end_44 : decode cX1_end 44 = .ok (.putfield 36, 3) := by decide +kernel
theorem dX1_end_47 : decode cX1_end 47 = .ok (.return_, 1) := by decide +kernel
theorem dX2_init_0 : decode cX2_init 0 = .ok (.aload_n 0, 1) := by decide +kernel
theorem dX2_init_1 : decode cX2_init 1 = .ok (.invokespecial 3, 3) := by decide +kernel
theorem dX2_init_4 : decode cX2_init 4 = .ok (.aload_n 0, 1) := by decide +kernel
theorem dX2_init_5 : decode cX2_init 5 = .ok (.bipush 18, 2) := by decide +kernel
theorem dX2_init_7 : decode cX2_init 7 = .ok (.newarray .int, 2) := by decide +kernel
theorem dX2_init_9 : decode cX2_init 9 = .ok (.putfield 9, 3) := by decide +kernel
theorem dX2_init_12 : decode cX2_init 12 = .ok (.return_, 1) := by decide +kernel
theorem dX2_append_0 : decode cX2_append 0 = .ok (.aload_n 0, 1) := by decide +kernel
theorem dX2_append_1 : decode cX2_append 1 = .ok (.getfield 15, 3) := by decide +kernel
theorem dX2_append_4 : decode cX2_append 4 = .ok (.ifCond .lt 15, 3) := by decide +kernel
theorem dX2_append_7 : decode cX2_append 7 = .ok (.aload_n 0, 1) := by decide +kernel
theorem dX2_append_8 : decode cX2_append 8 = .ok (.getfield 15, 3) := by decide +kernel
theorem dX2_append_11 : decode cX2_append 11 = .ok (.aload_n 0, 1) := by decide +kernel
theorem dX2_append_12 : decode cX2_append 12 = .ok (.getfield 9, 3) := by decide +kernel
theorem dX2_append_15 : decode cX2_append 15 = .ok (.arraylength, 1) := by decide +kernel
theorem dX2_append_16 : decode cX2_append 16 = .ok (.if_icmp .lt 5, 3) := by decide +kernel
theorem dX2_append_19 : decode cX2_append 19 = .ok (.iconst 0, 1) := by decide +kernel
theorem dX2_append_20 : decode cX2_append 20 = .ok (.ireturn, 1) := by decide +kernel
theorem dX2_append_21 : decode cX2_append 21 = .ok (.aload_n 0, 1) := by decide +kernel
theorem dX2_append_22 : decode cX2_append 22 = .ok (.getfield 9, 3) := by decide +kernel
theorem dX2_append_25 : decode cX2_append 25 = .ok (.aload_n 0, 1) := by decide +kernel
theorem dX2_append_26 : decode cX2_append 26 = .ok (.getfield 15, 3) := by decide +kernel
theorem dX2_append_29 : decode cX2_append 29 = .ok (.iload_n 1, 1) := by decide +kernel
theorem dX2_append_30 : decode cX2_append 30 = .ok (.iastore, 1) := by decide +kernel
theorem dX2_append_31 : decode cX2_append 31 = .ok (.aload_n 0, 1) := by decide +kernel
theorem dX2_append_32 : decode cX2_append 32 = .ok (.dup, 1) := by decide +kernel
theorem dX2_append_33 : decode cX2_append 33 = .ok (.getfield 15, 3) := by decide +kernel
theorem dX2_append_36 : decode cX2_append 36 = .ok (.iconst 1, 1) := by decide +kernel
theorem dX2_append_37 : decode cX2_append 37 = .ok (.iadd, 1) := by decide +kernel
theorem dX2_append_38 : decode cX2_append 38 = .ok (.putfield 15, 3) := by decide +kernel
theorem dX2_append_41 : decode cX2_append 41 = .ok (.iconst 1, 1) := by decide +kernel
theorem dX2_append_42 : decode cX2_append 42 = .ok (.ireturn, 1) := by decide +kernel
theorem dX2_codeAt_0 : decode cX2_codeAt 0 = .ok (.iload_n 1, 1) := by decide +kernel
theorem dX2_codeAt_1 : decode cX2_codeAt 1 = .ok (.ifCond .lt 29, 3) := by decide +kernel
theorem dX2_codeAt_4 : decode cX2_codeAt 4 = .ok (.iload_n 1, 1) := by decide +kernel
theorem dX2_codeAt_5 : decode cX2_codeAt 5 = .ok (.aload_n 0, 1) := by decide +kernel
theorem dX2_codeAt_6 : decode cX2_codeAt 6 = .ok (.getfield 15, 3) := by decide +kernel
theorem dX2_codeAt_9 : decode cX2_codeAt 9 = .ok (.if_icmp .ge 21, 3) := by decide +kernel
theorem dX2_codeAt_12 : decode cX2_codeAt 12 = .ok (.iload_n 1, 1) := by decide +kernel
theorem dX2_codeAt_13 : decode cX2_codeAt 13 = .ok (.aload_n 0, 1) := by decide +kernel
theorem dX2_codeAt_14 : decode cX2_codeAt 14 = .ok (.getfield 9, 3) := by decide +kernel
theorem dX2_codeAt_17 : decode cX2_codeAt 17 = .ok (.arraylength, 1) := by decide +kernel
theorem dX2_codeAt_18 : decode cX2_codeAt 18 = .ok (.if_icmp .ge 12, 3) := by decide +kernel
theorem dX2_codeAt_21 : decode cX2_codeAt 21 = .ok (.aload_n 0, 1) := by decide +kernel
theorem dX2_codeAt_22 : decode cX2_codeAt 22 = .ok (.getfield 9, 3) := by decide +kernel
theorem dX2_codeAt_25 : decode cX2_codeAt 25 = .ok (.iload_n 1, 1) := by decide +kernel
theorem dX2_codeAt_26 : decode cX2_codeAt 26 = .ok (.iaload, 1) := by decide +kernel
theorem dX2_codeAt_27 : decode cX2_codeAt 27 = .ok (.goto 4, 3) := by decide +kernel
theorem dX2_codeAt_30 : decode cX2_codeAt 30 = .ok (.iconst (-1), 1) := by decide +kernel
theorem dX2_codeAt_31 : decode cX2_codeAt 31 = .ok (.ireturn, 1) := by decide +kernel
set_option maxRecDepth 20000 in
theorem ggX2_digitAt_X2_codeAt : GoodIn wsX2_digitAt wsX2_codeAt := goodIn_r _ [5, 6, 7, 8, 9] (by decide +kernel) (by decide +kernel)
set_option maxRecDepth 20000 in
theorem gX2_digitAt_X2_codeAt : GoodIn wsX2_digitAt (wsV RX2 19 RX2 yX2_codeAt wsX2_codeAt) := goodIn_app (goodIn_of _ (by decide +kernel)) ggX2_digitAt_X2_codeAt
theorem dX2_digitAt_0 : decode cX2_digitAt 0 = .ok (.aload_n 0, 1) := by decide +kernel
theorem dX2_digitAt_1 : decode cX2_digitAt 1 = .ok (.iload_n 1, 1) := by decide +kernel
theorem dX2_digitAt_2 : decode cX2_digitAt 2 = .ok (.invokevirtual 19, 3) := by decide +kernel
theorem dX2_digitAt_5 : decode cX2_digitAt 5 = .ok (.bipush 48, 2) := by decide +kernel
theorem dX2_digitAt_7 : decode cX2_digitAt 7 = .ok (.isub, 1) := by decide +kernel
theorem dX2_digitAt_8 : decode cX2_digitAt 8 = .ok (.istore_n 2, 1) := by decide +kernel
theorem dX2_digitAt_9 : decode cX2_digitAt 9 = .ok (.iload_n 2, 1) := by decide +kernel
theorem dX2_digitAt_10 : decode cX2_digitAt 10 = .ok (.iconst 2, 1) := by decide +kernel
theorem dX2_digitAt_11 : decode cX2_digitAt 11 = .ok (.if_icmp .lt 12, 3) := by decide +kernel
theorem dX2_digitAt_14 : decode cX2_digitAt 14 = .ok (.iload_n 2, 1) := by decide +kernel
theorem dX2_digitAt_15 : decode cX2_digitAt 15 = .ok (.iconst 4, 1) := by decide +kernel
theorem dX2_digitAt_16 : decode cX2_digitAt 16 = .ok (.if_icmp .gt 7, 3) := by decide +kernel
theorem dX2_digitAt_19 : decode cX2_digitAt 19 = .ok (.iload_n 2, 1) := by decide +kernel
theorem dX2_digitAt_20 : decode cX2_digitAt 20 = .ok (.goto 4, 3) := by decide +kernel
theorem dX2_digitAt_23 : decode cX2_digitAt 23 = .ok (.iconst 0, 1) := by decide +kernel
theorem dX2_digitAt_24 : decode cX2_digitAt 24 = .ok (.ireturn, 1) := by decide +kernel
set_option maxRecDepth 20000 in
theorem ggX2_kindAt_X2_codeAt : GoodIn wsX2_kindAt wsX2_codeAt := goodIn_r _ [5, 6, 7, 8, 9] (by decide +kernel) (by decide +kernel)
set_option maxRecDepth 20000 in
theorem gX2_kindAt_X2_codeAt : GoodIn wsX2_kindAt (wsV RX2 19 RX2 yX2_codeAt wsX2_codeAt) := goodIn_app (goodIn_of _ (by decide +kernel)) ggX2_kindAt_X2_codeAt
theorem dX2_kindAt_0 : decode cX2_kindAt 0 = .ok (.aload_n 0, 1) := by decide +kernel
theorem dX2_kindAt_1 : decode cX2_kindAt 1 = .ok (.iload_n 1, 1) := by decide +kernel
theorem dX2_kindAt_2 : decode cX2_kindAt 2 = .ok (.invokevirtual 19, 3) := by decide +kernel
theorem dX2_kindAt_5 : decode cX2_kindAt 5 = .ok (.istore_n 2, 1) := by decide +kernel
theorem dX2_kindAt_6 : decode cX2_kindAt 6 = .ok (.iconst 0, 1) := by decide +kernel
theorem dX2_kindAt_7 : decode cX2_kindAt 7 = .ok (.istore_n 3, 1) := by decide +kernel
theorem dX2_kindAt_8 : decode cX2_kindAt 8 = .ok (.iload_n 3, 1) := by decide +kernel
theorem dX2_kindAt_9 : decode cX2_kindAt 9 = .ok (.getstatic 23, 3) := by decide +kernel
theorem dX2_kindAt_12 : decode cX2_kindAt 12 = .ok (.arraylength, 1) := by decide +kernel
theorem dX2_kindAt_13 : decode cX2_kindAt 13 = .ok (.if_icmp .ge 20, 3) := by decide +kernel
theorem dX2_kindAt_16 : decode cX2_kindAt 16 = .ok (.getstatic 23, 3) := by decide +kernel
theorem dX2_kindAt_19 : decode cX2_kindAt 19 = .ok (.iload_n 3, 1) := by decide +kernel
theorem dX2_kindAt_20 : decode cX2_kindAt 20 = .ok (.caload, 1) := by decide +kernel
theorem dX2_kindAt_21 : decode cX2_kindAt 21 = .ok (.iload_n 2, 1) := by decide +kernel
theorem dX2_kindAt_22 : decode cX2_kindAt 22 = .ok (.if_icmp .ne 5, 3) := by decide +kernel
theorem dX2_kindAt_25 : decode cX2_kindAt 25 = .ok (.iload_n 3, 1) := by decide +kernel
theorem dX2_kindAt_26 : decode cX2_kindAt 26 = .ok (.ireturn, 1) := by decide +kernel
theorem dX2_kindAt_27 : decode cX2_kindAt 27 = .ok (.iinc 3 1, 3) := by decide +kernel
theorem dX2_kindAt_30 : decode cX2_kindAt 30 = .ok (.goto (-22), 3) := by decide +kernel
theorem dX2_kindAt_33 : decode cX2_kindAt 33 = .ok (.iconst (-1), 1) := by decide +kernel
theorem dX2_kindAt_34 : decode cX2_kindAt 34 = .ok (.ireturn, 1) := by decide +kernel
set_option maxRecDepth 20000 in
theorem ggX2_placesTold_X2_digitAt : GoodIn wsX2_placesTold wsX2_digitAt := goodIn_r _ [5, 6, 7, 8, 4, 9, 10, 11, 12, 13] (by decide +kernel) (by decide +kernel)
set_option maxRecDepth 20000 in
theorem gX2_placesTold_X2_digitAt : GoodIn wsX2_placesTold (wsV RX2 27 RX2 yX2_digitAt wsX2_digitAt) := goodIn_app (goodIn_of _ (by decide +kernel)) ggX2_placesTold_X2_digitAt
theorem dX2_placesTold_0 : decode cX2_placesTold 0 = .ok (.aload_n 0, 1) := by decide +kernel
theorem dX2_placesTold_1 : decode cX2_placesTold 1 = .ok (.iconst 0, 1) := by decide +kernel
theorem dX2_placesTold_2 : decode cX2_placesTold 2 = .ok (.invokevirtual 27, 3) := by decide +kernel
theorem dX2_placesTold_5 : decode cX2_placesTold 5 = .ok (.aload_n 0, 1) := by decide +kernel
theorem dX2_placesTold_6 : decode cX2_placesTold 6 = .ok (.iconst 1, 1) := by decide +kernel
theorem dX2_placesTold_7 : decode cX2_placesTold 7 = .ok (.invokevirtual 27, 3) := by decide +kernel
theorem dX2_placesTold_10 : decode cX2_placesTold 10 = .ok (.imul, 1) := by decide +kernel
theorem dX2_placesTold_11 : decode cX2_placesTold 11 = .ok (.ireturn, 1) := by decide +kernel
set_option maxRecDepth 20000 in
theorem ggX2_pegsBefore_X2_kindAt : GoodIn wsX2_pegsBefore wsX2_kindAt := goodIn_r _ [5, 6, 7, 8, 4, 9, 10, 11, 12, 13] (by decide +kernel) (by decide +kernel)
set_option maxRecDepth 20000 in
theorem gX2_pegsBefore_X2_kindAt : GoodIn wsX2_pegsBefore (wsV RX2 30 RX2 yX2_kindAt wsX2_kindAt) := goodIn_app (goodIn_of _ (by decide +kernel)) ggX2_pegsBefore_X2_kindAt
theorem dX2_pegsBefore_0 : decode cX2_pegsBefore 0 = .ok (.iconst 0, 1) := by decide +kernel
theorem dX2_pegsBefore_1 : decode cX2_pegsBefore 1 = .ok (.istore_n 2, 1) := by decide +kernel
theorem dX2_pegsBefore_2 : decode cX2_pegsBefore 2 = .ok (.iconst 3, 1) := by decide +kernel
theorem dX2_pegsBefore_3 : decode cX2_pegsBefore 3 = .ok (.istore_n 3, 1) := by decide +kernel
theorem dX2_pegsBefore_4 : decode cX2_pegsBefore 4 = .ok (.iload_n 3, 1) := by decide +kernel
theorem dX2_pegsBefore_5 : decode cX2_pegsBefore 5 = .ok (.iload_n 1, 1) := by decide +kernel
theorem dX2_pegsBefore_6 : decode cX2_pegsBefore 6 = .ok (.if_icmp .ge 21, 3) := by decide +kernel
theorem dX2_pegsBefore_9 : decode cX2_pegsBefore 9 = .ok (.aload_n 0, 1) := by decide +kernel
theorem dX2_pegsBefore_10 : decode cX2_pegsBefore 10 = .ok (.iload_n 3, 1) := by decide +kernel
theorem dX2_pegsBefore_11 : decode cX2_pegsBefore 11 = .ok (.invokevirtual 30, 3) := by decide +kernel
theorem dX2_pegsBefore_14 : decode cX2_pegsBefore 14 = .ok (.iconst (-1), 1) := by decide +kernel
theorem dX2_pegsBefore_15 : decode cX2_pegsBefore 15 = .ok (.if_icmp .eq 6, 3) := by decide +kernel
theorem dX2_pegsBefore_18 : decode cX2_pegsBefore 18 = .ok (.iinc 2 1, 3) := by decide +kernel
theorem dX2_pegsBefore_21 : decode cX2_pegsBefore 21 = .ok (.iinc 3 1, 3) := by decide +kernel
theorem dX2_pegsBefore_24 : decode cX2_pegsBefore 24 = .ok (.goto (-20), 3) := by decide +kernel
theorem dX2_pegsBefore_27 : decode cX2_pegsBefore 27 = .ok (.iload_n 2, 1) := by decide +kernel
theorem dX2_pegsBefore_28 : decode cX2_pegsBefore 28 = .ok (.ireturn, 1) := by decide +kernel
set_option maxRecDepth 20000 in
theorem ggX2_fits_X2_digitAt : GoodIn wsX2_fits wsX2_digitAt := goodIn_r _ [5, 6, 7, 8, 4, 9, 10, 11, 24, 25] (by decide +kernel) (by decide +kernel)
set_option maxRecDepth 20000 in
theorem gX2_fits_X2_digitAt : GoodIn wsX2_fits (wsV RX2 27 RX2 yX2_digitAt wsX2_digitAt) := goodIn_app (goodIn_of _ (by decide +kernel)) ggX2_fits_X2_digitAt
set_option maxRecDepth 20000 in
theorem ggX2_fits_X2_placesTold : GoodIn wsX2_fits wsX2_placesTold := goodIn_r _ [15, 1, 2, 3, 4, 5, 6, 7, 8, 9, 10, 11, 24, 25] (by decide +kernel) (by decide +kernel)
set_option maxRecDepth 20000 in
theorem gX2_fits_X2_placesTold : GoodIn wsX2_fits (wsV RX2 33 RX2 yX2_placesTold wsX2_placesTold) := goodIn_app (goodIn_of _ (by decide +kernel)) ggX2_fits_X2_placesTold
set_option maxRecDepth 20000 in
theorem ggX2_fits_X2_codeAt : GoodIn wsX2_fits wsX2_codeAt := goodIn_r _ [9, 10, 11, 24, 25] (by decide +kernel) (by decide +kernel)
set_option maxRecDepth 20000 in
theorem gX2_fits_X2_codeAt : GoodIn wsX2_fits (wsV RX2 19 RX2 yX2_codeAt wsX2_codeAt) := goodIn_app (goodIn_of _ (by decide +kernel)) ggX2_fits_X2_codeAt
set_option maxRecDepth 20000 in
theorem ggX2_fits_X2_kindAt : GoodIn wsX2_fits wsX2_kindAt := goodIn_r _ [19, 6, 7, 8, 4, 9, 10, 11, 24, 25] (by decide +kernel) (by decide +kernel)
set_option maxRecDepth 20000 in
theorem gX2_fits_X2_kindAt : GoodIn wsX2_fits (wsV RX2 30 RX2 yX2_kindAt wsX2_kindAt) := goodIn_app (goodIn_of _ (by decide +kernel)) ggX2_fits_X2_kindAt
set_option maxRecDepth 20000 in
theorem ggX2_fits_X2_pegsBefore : GoodIn wsX2_fits wsX2_pegsBefore := goodIn_r _ [23, 16, 17, 18, 4, 19, 6, 7, 8, 9, 10, 11, 24, 25] (by decide +kernel) (by decide +kernel)
set_option maxRecDepth 20000 in
theorem gX2_fits_X2_pegsBefore : GoodIn wsX2_fits (wsV RX2 37 RX2 yX2_pegsBefore wsX2_pegsBefore) := goodIn_app (goodIn_of _ (by decide +kernel)) ggX2_fits_X2_pegsBefore
theorem dX2_fits_0 : decode cX2_fits 0 = .ok (.iload_n 1, 1) := by decide +kernel
theorem dX2_fits_1 : decode cX2_fits 1 = .ok (.ifCond .ne 17, 3) := by decide +kernel
theorem dX2_fits_4 : decode cX2_fits 4 = .ok (.aload_n 0, 1) := by decide +kernel
theorem dX2_fits_5 : decode cX2_fits 5 = .ok (.iconst 0, 1) := by decide +kernel
theorem dX2_fits_6 : decode cX2_fits 6 = .ok (.invokevirtual 27, 3) := by decide +kernel
theorem dX2_fits_9 : decode cX2_fits 9 = .ok (.ifCond .le 7, 3) := by decide +kernel
theorem dX2_fits_12 : decode cX2_fits 12 = .ok (.iconst 1, 1) := by decide +kernel
theorem dX2_fits_13 : decode cX2_fits 13 = .ok (.goto 4, 3) := by decide +kernel
theorem dX2_fits_16 : decode cX2_fits 16 = .ok (.iconst 0, 1) := by decide +kernel
theorem dX2_fits_17 : decode cX2_fits 17 = .ok (.ireturn, 1) := by decide +kernel
theorem dX2_fits_18 : decode cX2_fits 18 = .ok (.iload_n 1, 1) := by decide +kernel
theorem dX2_fits_19 : decode cX2_fits 19 = .ok (.iconst 1, 1) := by decide +kernel
theorem dX2_fits_20 : decode cX2_fits 20 = .ok (.if_icmp .ne 26, 3) := by decide +kernel
theorem dX2_fits_23 : decode cX2_fits 23 = .ok (.aload_n 0, 1) := by decide +kernel
theorem dX2_fits_24 : decode cX2_fits 24 = .ok (.iconst 1, 1) := by decide +kernel
theorem dX2_fits_25 : decode cX2_fits 25 = .ok (.invokevirtual 27, 3) := by decide +kernel
theorem dX2_fits_28 : decode cX2_fits 28 = .ok (.ifCond .le 16, 3) := by decide +kernel
theorem dX2_fits_31 : decode cX2_fits 31 = .ok (.aload_n 0, 1) := by decide +kernel
theorem dX2_fits_32 : decode cX2_fits 32 = .ok (.invokevirtual 33, 3) := by decide +kernel
theorem dX2_fits_35 : decode cX2_fits 35 = .ok (.bipush 12, 2) := by decide +kernel
theorem dX2_fits_37 : decode cX2_fits 37 = .ok (.if_icmp .gt 7, 3) := by decide +kernel
theorem dX2_fits_40 : decode cX2_fits 40 = .ok (.iconst 1, 1) := by decide +kernel
theorem dX2_fits_41 : decode cX2_fits 41 = .ok (.goto 4, 3) := by decide +kernel
theorem dX2_fits_44 : decode cX2_fits 44 = .ok (.iconst 0, 1) := by decide +kernel
theorem dX2_fits_45 : decode cX2_fits 45 = .ok (.ireturn, 1) := by decide +kernel
theorem dX2_fits_46 : decode cX2_fits 46 = .ok (.aload_n 0, 1) := by decide +kernel
theorem dX2_fits_47 : decode cX2_fits 47 = .ok (.iload_n 1, 1) := by decide +kernel
theorem dX2_fits_48 : decode cX2_fits 48 = .ok (.invokevirtual 19, 3) := by decide +kernel
theorem dX2_fits_51 : decode cX2_fits 51 = .ok (.istore_n 2, 1) := by decide +kernel
theorem dX2_fits_52 : decode cX2_fits 52 = .ok (.iload_n 1, 1) := by decide +kernel
theorem dX2_fits_53 : decode cX2_fits 53 = .ok (.iconst 2, 1) := by decide +kernel
theorem dX2_fits_54 : decode cX2_fits 54 = .ok (.if_icmp .ne 15, 3) := by decide +kernel
theorem dX2_fits_57 : decode cX2_fits 57 = .ok (.iload_n 2, 1) := by decide +kernel
theorem dX2_fits_58 : decode cX2_fits 58 = .ok (.bipush 59, 2) := by decide +kernel
theorem dX2_fits_60 : decode cX2_fits 60 = .ok (.if_icmp .ne 7, 3) := by decide +kernel
theorem dX2_fits_63 : decode cX2_fits 63 = .ok (.iconst 1, 1) := by decide +kernel
theorem dX2_fits_64 : decode cX2_fits 64 = .ok (.goto 4, 3) := by decide +kernel
theorem dX2_fits_67 : decode cX2_fits 67 = .ok (.iconst 0, 1) := by decide +kernel
theorem dX2_fits_68 : decode cX2_fits 68 = .ok (.ireturn, 1) := by decide +kernel
theorem dX2_fits_69 : decode cX2_fits 69 = .ok (.iload_n 1, 1) := by decide +kernel
theorem dX2_fits_70 : decode cX2_fits 70 = .ok (.iconst 3, 1) := by decide +kernel
theorem dX2_fits_71 : decode cX2_fits 71 = .ok (.aload_n 0, 1) := by decide +kernel
theorem dX2_fits_72 : decode cX2_fits 72 = .ok (.invokevirtual 33, 3) := by decide +kernel
theorem dX2_fits_75 : decode cX2_fits 75 = .ok (.iadd, 1) := by decide +kernel
theorem dX2_fits_76 : decode cX2_fits 76 = .ok (.if_icmp .lt 5, 3) := by decide +kernel
theorem dX2_fits_79 : decode cX2_fits 79 = .ok (.iconst 0, 1) := by decide +kernel
theorem dX2_fits_80 : decode cX2_fits 80 = .ok (.ireturn, 1) := by decide +kernel
theorem dX2_fits_81 : decode cX2_fits 81 = .ok (.iload_n 2, 1) := by decide +kernel
theorem dX2_fits_82 : decode cX2_fits 82 = .ok (.bipush 35, 2) := by decide +kernel
theorem dX2_fits_84 : decode cX2_fits 84 = .ok (.if_icmp .eq 28, 3) := by decide +kernel
theorem dX2_fits_87 : decode cX2_fits 87 = .ok (.iload_n 2, 1) := by decide +kernel
theorem dX2_fits_88 : decode cX2_fits 88 = .ok (.bipush 46, 2) := by decide +kernel
theorem dX2_fits_90 : decode cX2_fits 90 = .ok (.if_icmp .eq 22, 3) := by decide +kernel
theorem dX2_fits_93 : decode cX2_fits 93 = .ok (.aload_n 0, 1) := by decide +kernel
theorem dX2_fits_94 : decode cX2_fits 94 = .ok (.iload_n 1, 1) := by decide +kernel
theorem dX2_fits_95 : decode cX2_fits 95 = .ok (.invokevirtual 30, 3) := by decide +kernel
theorem dX2_fits_98 : decode cX2_fits 98 = .ok (.iconst (-1), 1) := by decide +kernel
theorem dX2_fits_99 : decode cX2_fits 99 = .ok (.if_icmp .eq 17, 3) := by decide +kernel
theorem dX2_fits_102 : decode cX2_fits 102 = .ok (.aload_n 0, 1) := by decide +kernel
theorem dX2_fits_103 : decode cX2_fits 103 = .ok (.iload_n 1, 1) := by decide +kernel
theorem dX2_fits_104 : decode cX2_fits 104 = .ok (.invokevirtual 37, 3) := by decide +kernel
theorem dX2_fits_107 : decode cX2_fits 107 = .ok (.bipush 7, 2) := by decide +kernel
theorem dX2_fits_109 : decode cX2_fits 109 = .ok (.if_icmp .ge 7, 3) := by decide +kernel
theorem dX2_fits_112 : decode cX2_fits 112 = .ok (.iconst 1, 1) := by decide +kernel
theorem dX2_fits_113 : decode cX2_fits 113 = .ok (.goto 4, 3) := by decide +kernel
theorem dX2_fits_116 : decode cX2_fits 116 = .ok (.iconst 0, 1) := by decide +kernel
theorem dX2_fits_117 : decode cX2_fits 117 = .ok (.ireturn, 1) := by decide +kernel
set_option maxRecDepth 20000 in
theorem ggX2_firstFault_X2_fits : GoodIn wsX2_firstFault wsX2_fits := goodIn_r _ [6, 7, 8, 9, 5, 10, 11, 12, 13, 14, 1, 15, 16, 17, 18, 19, 20, 21, 22, 23, 24, 25, 26, 27, 28, 29] (by decide +kernel) (by decide +kernel)
set_option maxRecDepth 20000 in
theorem gX2_firstFault_X2_fits : GoodIn wsX2_firstFault (wsV RX2 40 RX2 yX2_fits wsX2_fits) := goodIn_app (goodIn_of _ (by decide +kernel)) ggX2_firstFault_X2_fits
theorem dX2_firstFault_0 : decode cX2_firstFault 0 = .ok (.iconst 0, 1) := by decide +kernel
theorem dX2_firstFault_1 : decode cX2_firstFault 1 = .ok (.istore_n 1, 1) := by decide +kernel
theorem dX2_firstFault_2 : decode cX2_firstFault 2 = .ok (.iload_n 1, 1) := by decide +kernel
theorem dX2_firstFault_3 : decode cX2_firstFault 3 = .ok (.aload_n 0, 1) := by decide +kernel
theorem dX2_firstFault_4 : decode cX2_firstFault 4 = .ok (.getfield 15, 3) := by decide +kernel
theorem dX2_firstFault_7 : decode cX2_firstFault 7 = .ok (.if_icmp .ge 19, 3) := by decide +kernel
theorem dX2_firstFault_10 : decode cX2_firstFault 10 = .ok (.aload_n 0, 1) := by decide +kernel
theorem dX2_firstFault_11 : decode cX2_firstFault 11 = .ok (.iload_n 1, 1) := by decide +kernel
theorem dX2_firstFault_12 : decode cX2_firstFault 12 = .ok (.invokevirtual 40, 3) := by decide +kernel
theorem dX2_firstFault_15 : decode cX2_firstFault 15 = .ok (.ifCond .ne 5, 3) := by decide +kernel
theorem dX2_firstFault_18 : decode cX2_firstFault 18 = .ok (.iload_n 1, 1) := by decide +kernel
theorem dX2_firstFault_19 : decode cX2_firstFault 19 = .ok (.ireturn, 1) := by decide +kernel
theorem dX2_firstFault_20 : decode cX2_firstFault 20 = .ok (.iinc 1 1, 3) := by decide +kernel
theorem dX2_firstFault_23 : decode cX2_firstFault 23 = .ok (.goto (-21), 3) := by decide +kernel
theorem dX2_firstFault_26 : decode cX2_firstFault 26 = .ok (.aload_n 0, 1) := by decide +kernel
theorem dX2_firstFault_27 : decode cX2_firstFault 27 = .ok (.getfield 15, 3) := by decide +kernel
theorem dX2_firstFault_30 : decode cX2_firstFault 30 = .ok (.ireturn, 1) := by decide +kernel
set_option maxRecDepth 20000 in
theorem ggX2_isBoard_X2_placesTold : GoodIn wsX2_isBoard wsX2_placesTold := goodIn_r _ [6, 7, 8, 9, 5, 10, 11, 12, 13, 14, 1, 15, 32, 33] (by decide +kernel) (by decide +kernel)
set_option maxRecDepth 20000 in
theorem gX2_isBoard_X2_placesTold : GoodIn wsX2_isBoard (wsV RX2 33 RX2 yX2_placesTold wsX2_placesTold) := goodIn_app (goodIn_of _ (by decide +kernel)) ggX2_isBoard_X2_placesTold
set_option maxRecDepth 20000 in
theorem ggX2_isBoard_X2_firstFault : GoodIn wsX2_isBoard wsX2_firstFault := goodIn_r _ [19, 1, 20, 21, 22, 5, 23, 7, 8, 9, 10, 11, 12, 13, 14, 15, 2, 3, 4, 6, 24, 25, 26, 27, 28, 29, 30, 31, 32, 33] (by decide +kernel) (by decide +kernel)
set_option maxRecDepth 20000 in
theorem gX2_isBoard_X2_firstFault : GoodIn wsX2_isBoard (wsV RX2 44 RX2 yX2_firstFault wsX2_firstFault) := goodIn_app (goodIn_of _ (by decide +kernel)) ggX2_isBoard_X2_firstFault
set_option maxRecDepth 20000 in
theorem ggX2_isBoard_X2_pegsBefore : GoodIn wsX2_isBoard wsX2_pegsBefore := goodIn_r _ [31, 24, 25, 26, 5, 27, 11, 12, 13, 14, 1, 15, 32, 33] (by decide +kernel) (by decide +kernel)
set_option maxRecDepth 20000 in
theorem gX2_isBoard_X2_pegsBefore : GoodIn wsX2_isBoard (wsV RX2 37 RX2 yX2_pegsBefore wsX2_pegsBefore) := goodIn_app (goodIn_of _ (by decide +kernel)) ggX2_isBoard_X2_pegsBefore
theorem dX2_isBoard_0 : decode cX2_isBoard 0 = .ok (.aload_n 0, 1) := by decide +kernel
theorem dX2_isBoard_1 : decode cX2_isBoard 1 = .ok (.getfield 15, 3) := by decide +kernel
theorem dX2_isBoard_4 : decode cX2_isBoard 4 = .ok (.iconst 3, 1) := by decide +kernel
theorem dX2_isBoard_5 : decode cX2_isBoard 5 = .ok (.aload_n 0, 1) := by decide +kernel
theorem dX2_isBoard_6 : decode cX2_isBoard 6 = .ok (.invokevirtual 33, 3) := by decide +kernel
theorem dX2_isBoard_9 : decode cX2_isBoard 9 = .ok (.iadd, 1) := by decide +kernel
theorem dX2_isBoard_10 : decode cX2_isBoard 10 = .ok (.if_icmp .ne 29, 3) := by decide +kernel
theorem dX2_isBoard_13 : decode cX2_isBoard 13 = .ok (.aload_n 0, 1) := by decide +kernel
theorem dX2_isBoard_14 : decode cX2_isBoard 14 = .ok (.invokevirtual 44, 3) := by decide +kernel
theorem dX2_isBoard_17 : decode cX2_isBoard 17 = .ok (.aload_n 0, 1) := by decide +kernel
theorem dX2_isBoard_18 : decode cX2_isBoard 18 = .ok (.getfield 15, 3) := by decide +kernel
theorem dX2_isBoard_21 : decode cX2_isBoard 21 = .ok (.if_icmp .ne 18, 3) := by decide +kernel
theorem dX2_isBoard_24 : decode cX2_isBoard 24 = .ok (.aload_n 0, 1) := by decide +kernel
theorem dX2_isBoard_25 : decode cX2_isBoard 25 = .ok (.aload_n 0, 1) := by decide +kernel
theorem dX2_isBoard_26 : decode cX2_isBoard 26 = .ok (.getfield 15, 3) := by decide +kernel
theorem dX2_isBoard_29 : decode cX2_isBoard 29 = .ok (.invokevirtual 37, 3) := by decide +kernel
theorem dX2_isBoard_32 : decode cX2_isBoard 32 = .ok (.ifCond .le 7, 3) := by decide +kernel
theorem dX2_isBoard_35 : decode cX2_isBoard 35 = .ok (.iconst 1, 1) := by decide +kernel
theorem dX2_isBoard_36 : decode cX2_isBoard 36 = .ok (.goto 4, 3) := by decide +kernel
theorem dX2_isBoard_39 : decode cX2_isBoard 39 = .ok (.iconst 0, 1) := by decide +kernel
theorem dX2_isBoard_40 : decode cX2_isBoard 40 = .ok (.ireturn, 1) := by decide +kernel
theorem dX3_init_0 : decode cX3_init 0 = .ok (.aload_n 0, 1) := by decide +kernel
theorem dX3_init_1 : decode cX3_init 1 = .ok (.invokespecial 3, 3) := by decide +kernel
theorem dX3_init_4 : decode cX3_init 4 = .ok (.aload_n 0, 1) := by decide +kernel
theorem dX3_init_5 : decode cX3_init 5 = .ok (.bipush 6, 2) := by decide +kernel
theorem dX3_init_7 : decode cX3_init 7 = .ok (.newarray .int, 2) := by decide +kernel
theorem dX3_init_9 : decode cX3_init 9 = .ok (.putfield 9, 3) := by decide +kernel
theorem dX3_init_12 : decode cX3_init 12 = .ok (.aload_n 0, 1) := by decide +kernel
theorem dX3_init_13 : decode cX3_init 13 = .ok (.bipush 6, 2) := by decide +kernel
theorem dX3_init_15 : decode cX3_init 15 = .ok (.newarray .int, 2) := by decide +kernel
theorem dX3_init_17 : decode cX3_init 17 = .ok (.putfield 15, 3) := by decide +kernel
theorem dX3_init_20 : decode cX3_init 20 = .ok (.return_, 1) := by decide +kernel
theorem dX3_append_0 : decode cX3_append 0 = .ok (.aload_n 0, 1) := by decide +kernel
theorem dX3_append_1 : decode cX3_append 1 = .ok (.getfield 18, 3) := by decide +kernel
theorem dX3_append_4 : decode cX3_append 4 = .ok (.ifCond .lt 12, 3) := by decide +kernel
theorem dX3_append_7 : decode cX3_append 7 = .ok (.aload_n 0, 1) := by decide +kernel
theorem dX3_append_8 : decode cX3_append 8 = .ok (.getfield 18, 3) := by decide +kernel
theorem dX3_append_11 : decode cX3_append 11 = .ok (.bipush 6, 2) := by decide +kernel
theorem dX3_append_13 : decode cX3_append 13 = .ok (.if_icmp .lt 5, 3) := by decide +kernel
theorem dX3_append_16 : decode cX3_append 16 = .ok (.iconst 0, 1) := by decide +kernel
theorem dX3_append_17 : decode cX3_append 17 = .ok (.ireturn, 1) := by decide +kernel
theorem dX3_append_18 : decode cX3_append 18 = .ok (.aload_n 0, 1) := by decide +kernel
theorem dX3_append_19 : decode cX3_append 19 = .ok (.getfield 9, 3) := by decide +kernel
theorem dX3_append_22 : decode cX3_append 22 = .ok (.aload_n 0, 1) := by decide +kernel
theorem dX3_append_23 : decode cX3_append 23 = .ok (.getfield 18, 3) := by decide +kernel
theorem dX3_append_26 : decode cX3_append 26 = .ok (.iload_n 1, 1) := by decide +kernel
theorem dX3_append_27 : decode cX3_append 27 = .ok (.iastore, 1) := by decide +kernel
theorem dX3_append_28 : decode cX3_append 28 = .ok (.aload_n 0, 1) := by decide +kernel
theorem dX3_append_29 : decode cX3_append 29 = .ok (.getfield 15, 3) := by decide +kernel
theorem dX3_append_32 : decode cX3_append 32 = .ok (.aload_n 0, 1) := by decide +kernel
theorem dX3_append_33 : decode cX3_append 33 = .ok (.getfield 18, 3) := by decide +kernel
theorem dX3_append_36 : decode cX3_append 36 = .ok (.iload_n 2, 1) := by decide +kernel
theorem dX3_append_37 : decode cX3_append 37 = .ok (.iastore, 1) := by decide +kernel
theorem dX3_append_38 : decode cX3_append 38 = .ok (.aload_n 0, 1) := by decide +kernel
theorem dX3_append_39 : decode cX3_append 39 = .ok (.dup, 1) := by decide +kernel
theorem dX3_append_40 : decode cX3_append 40 = .ok (.getfield 18, 3) := by decide +kernel
theorem dX3_append_43 : decode cX3_append 43 = .ok (.iconst 1, 1) := by decide +kernel
theorem dX3_append_44 : decode cX3_append 44 = .ok (.iadd, 1) := by decide +kernel
theorem dX3_append_45 : decode cX3_append 45 = .ok (.putfield 18, 3) := by decide +kernel
theorem dX3_append_48 : decode cX3_append 48 = .ok (.iconst 1, 1) := by decide +kernel
theorem dX3_append_49 : decode cX3_append 49 = .ok (.ireturn, 1) := by decide +kernel
theorem dX3_sortsOf_0 : decode cX3_sortsOf 0 = .ok (.bipush 31, 2) := by decide +kernel
theorem dX3_sortsOf_2 : decode cX3_sortsOf 2 = .ok (.istore_n 2, 1) := by decide +kernel
theorem dX3_sortsOf_3 : decode cX3_sortsOf 3 = .ok (.iconst 0, 1) := by decide +kernel
theorem dX3_sortsOf_4 : decode cX3_sortsOf 4 = .ok (.istore_n 3, 1) := by decide +kernel
theorem dX3_sortsOf_5 : decode cX3_sortsOf 5 = .ok (.iload_n 3, 1) := by decide +kernel
theorem dX3_sortsOf_6 : decode cX3_sortsOf 6 = .ok (.aload_n 0, 1) := by decide +kernel
theorem dX3_sortsOf_7 : decode cX3_sortsOf 7 = .ok (.getfield 18, 3) := by decide +kernel
theorem dX3_sortsOf_10 : decode cX3_sortsOf 10 = .ok (.if_icmp .ge 34, 3) := by decide +kernel
theorem dX3_sortsOf_13 : decode cX3_sortsOf 13 = .ok (.iload_n 3, 1) := by decide +kernel
theorem dX3_sortsOf_14 : decode cX3_sortsOf 14 = .ok (.bipush 6, 2) := by decide +kernel
theorem dX3_sortsOf_16 : decode cX3_sortsOf 16 = .ok (.if_icmp .ge 28, 3) := by decide +kernel
theorem dX3_sortsOf_19 : decode cX3_sortsOf 19 = .ok (.aload_n 0, 1) := by decide +kernel
theorem dX3_sortsOf_20 : decode cX3_sortsOf 20 = .ok (.getfield 9, 3) := by decide +kernel
theorem dX3_sortsOf_23 : decode cX3_sortsOf 23 = .ok (.iload_n 3, 1) := by decide +kernel
theorem dX3_sortsOf_24 : decode cX3_sortsOf 24 = .ok (.iaload, 1) := by decide +kernel
theorem dX3_sortsOf_25 : decode cX3_sortsOf 25 = .ok (.iload_n 1, 1) := by decide +kernel
theorem dX3_sortsOf_26 : decode cX3_sortsOf 26 = .ok (.if_icmp .ne 12, 3) := by decide +kernel
theorem dX3_sortsOf_29 : decode cX3_sortsOf 29 = .ok (.iload_n 2, 1) := by decide +kernel
theorem dX3_sortsOf_30 : decode cX3_sortsOf 30 = .ok (.aload_n 0, 1) := by decide +kernel
theorem dX3_sortsOf_31 : decode cX3_sortsOf 31 = .ok (.getfield 15, 3) := by decide +kernel
theorem dX3_sortsOf_34 : decode cX3_sortsOf 34 = .ok (.iload_n 3, 1) := by decide +kernel
theorem dX3_sortsOf_35 : decode cX3_sortsOf 35 = .ok (.iaload, 1) := by decide +kernel
theorem dX3_sortsOf_36 : decode cX3_sortsOf 36 = .ok (.iand, 1) := by decide +kernel
theorem dX3_sortsOf_37 : decode cX3_sortsOf 37 = .ok (.istore_n 2, 1) := by decide +kernel
theorem dX3_sortsOf_38 : decode cX3_sortsOf 38 = .ok (.iinc 3 1, 3) := by decide +kernel
theorem dX3_sortsOf_41 : decode cX3_sortsOf 41 = .ok (.goto (-36), 3) := by decide +kernel
theorem dX3_sortsOf_44 : decode cX3_sortsOf 44 = .ok (.iload_n 2, 1) := by decide +kernel
theorem dX3_sortsOf_45 : decode cX3_sortsOf 45 = .ok (.ireturn, 1) := by decide +kernel
theorem dX3_copyFrom_0 : decode cX3_copyFrom 0 = .ok (.aload_n 0, 1) := by decide +kernel
theorem dX3_copyFrom_1 : decode cX3_copyFrom 1 = .ok (.aload_n 1, 1) := by decide +kernel
theorem dX3_copyFrom_2 : decode cX3_copyFrom 2 = .ok (.getfield 18, 3) := by decide +kernel
theorem dX3_copyFrom_5 : decode cX3_copyFrom 5 = .ok (.putfield 18, 3) := by decide +kernel
theorem dX3_copyFrom_8 : decode cX3_copyFrom 8 = .ok (.iconst 0, 1) := by decide +kernel
theorem dX3_copyFrom_9 : decode cX3_copyFrom 9 = .ok (.istore_n 2, 1) := by decide +kernel
theorem dX3_copyFrom_10 : decode cX3_copyFrom 10 = .ok (.iload_n 2, 1) := by decide +kernel
theorem dX3_copyFrom_11 : decode cX3_copyFrom 11 = .ok (.bipush 6, 2) := by decide +kernel
theorem dX3_copyFrom_13 : decode cX3_copyFrom 13 = .ok (.if_icmp .ge 33, 3) := by decide +kernel
theorem dX3_copyFrom_16 : decode cX3_copyFrom 16 = .ok (.aload_n 0, 1) := by decide +kernel
theorem dX3_copyFrom_17 : decode cX3_copyFrom 17 = .ok (.getfield 9, 3) := by decide +kernel
theorem dX3_copyFrom_20 : decode cX3_copyFrom 20 = .ok (.iload_n 2, 1) := by decide +kernel
theorem dX3_copyFrom_21 : decode cX3_copyFrom 21 = .ok (.aload_n 1, 1) := by decide +kernel
theorem dX3_copyFrom_22 : decode cX3_copyFrom 22 = .ok (.getfield 9, 3) := by decide +kernel
theorem dX3_copyFrom_25 : decode cX3_copyFrom 25 = .ok (.iload_n 2, 1) := by decide +kernel
theorem dX3_copyFrom_26 : decode cX3_copyFrom 26 = .ok (.iaload, 1) := by decide +kernel
theorem dX3_copyFrom_27 : decode cX3_copyFrom 27 = .ok (.iastore, 1) := by decide +kernel
theorem dX3_copyFrom_28 : decode cX3_copyFrom 28 = .ok (.aload_n 0, 1) := by decide +kernel
theorem dX3_copyFrom_29 : decode cX3_copyFrom 29 = .ok (.getfield 15, 3) := by decide +kernel
theorem dX3_copyFrom_32 : decode cX3_copyFrom 32 = .ok (.iload_n 2, 1) := by decide +kernel
theorem dX3_copyFrom_33 : decode cX3_copyFrom 33 = .ok (.aload_n 1, 1) := by decide +kernel
theorem dX3_copyFrom_34 : decode cX3_copyFrom 34 = .ok (.getfield 15, 3) := by decide +kernel
theorem dX3_copyFrom_37 : decode cX3_copyFrom 37 = .ok (.iload_n 2, 1) := by decide +kernel
theorem dX3_copyFrom_38 : decode cX3_copyFrom 38 = .ok (.iaload, 1) := by decide +kernel
theorem dX3_copyFrom_39 : decode cX3_copyFrom 39 = .ok (.iastore, 1) := by decide +kernel
theorem dX3_copyFrom_40 : decode cX3_copyFrom 40 = .ok (.iinc 2 1, 3) := by decide +kernel
theorem dX3_copyFrom_43 : decode cX3_copyFrom 43 = .ok (.goto (-33), 3) := by decide +kernel
theorem dX3_copyFrom_46 : decode cX3_copyFrom 46 = .ok (.return_, 1) := by decide +kernel
theorem dX4_init_0 : decode cX4_init 0 = .ok (.aload_n 0, 1) := by decide +kernel
theorem dX4_init_1 : decode cX4_init 1 = .ok (.invokespecial 3, 3) := by decide +kernel
theorem dX4_init_4 : decode cX4_init 4 = .ok (.aload_n 0, 1) := by decide +kernel
theorem dX4_init_5 : decode cX4_init 5 = .ok (.bipush 8, 2) := by decide +kernel
theorem dX4_init_7 : decode cX4_init 7 = .ok (.newarray .int, 2) := by decide +kernel
theorem dX4_init_9 : decode cX4_init 9 = .ok (.putfield 9, 3) := by decide +kernel
theorem dX4_init_12 : decode cX4_init 12 = .ok (.aload_n 0, 1) := by decide +kernel
theorem dX4_init_13 : decode cX4_init 13 = .ok (.bipush 8, 2) := by decide +kernel
theorem dX4_init_15 : decode cX4_init 15 = .ok (.newarray .int, 2) := by decide +kernel
theorem dX4_init_17 : decode cX4_init 17 = .ok (.putfield 15, 3) := by decide +kernel
theorem dX4_init_20 : decode cX4_init 20 = .ok (.aload_n 0, 1) := by decide +kernel
theorem dX4_init_21 : decode cX4_init 21 = .ok (.bipush 12, 2) := by decide +kernel
theorem dX4_init_23 : decode cX4_init 23 = .ok (.newarray .int, 2) := by decide +kernel
theorem dX4_init_25 : decode cX4_init 25 = .ok (.putfield 18, 3) := by decide +kernel
theorem dX4_init_28 : decode cX4_init 28 = .ok (.aload_n 0, 1) := by decide +kernel
theorem dX4_init_29 : decode cX4_init 29 = .ok (.aload_n 1, 1) := by decide +kernel
theorem dX4_init_30 : decode cX4_init 30 = .ok (.putfield 21, 3) := by decide +kernel
theorem dX4_init_33 : decode cX4_init 33 = .ok (.return_, 1) := by decide +kernel
set_option maxRecDepth 20000 in
theorem ggX4_read_X2_codeAt : GoodIn wsX4_read wsX2_codeAt := goodIn_r _ [11, 12, 13, 52, 53] (by decide +kernel) (by decide +kernel)
set_option maxRecDepth 20000 in
theorem gX4_read_X2_codeAt : GoodIn wsX4_read (wsV RX4 43 RX2 yX2_codeAt wsX2_codeAt) := goodIn_app (goodIn_of _ (by decide +kernel)) ggX4_read_X2_codeAt
set_option maxRecDepth 20000 in
theorem ggX4_read_X2_kindAt : GoodIn wsX4_read wsX2_kindAt := goodIn_r _ [17, 18, 8, 9, 10, 11, 12, 13, 52, 53] (by decide +kernel) (by decide +kernel)
set_option maxRecDepth 20000 in
theorem gX4_read_X2_kindAt : GoodIn wsX4_read (wsV RX4 49 RX2 yX2_kindAt wsX2_kindAt) := goodIn_app (goodIn_of _ (by decide +kernel)) ggX4_read_X2_kindAt
set_option maxRecDepth 20000 in
theorem ggX4_read_X4_addPeg : GoodIn wsX4_read wsX4_addPeg := goodIn_r _ [23, 2, 24, 25, 26, 27, 28, 22, 29, 6, 5, 3, 30, 31, 32, 33, 34, 35, 36, 37, 38, 39, 40, 41, 42, 43, 44, 45, 46, 47, 48, 49, 50, 51] (by decide +kernel) (by decide +kernel)
set_option maxRecDepth 20000 in
theorem gX4_read_X4_addPeg : GoodIn wsX4_read (wsV RX4 52 RX4 yX4_addPeg wsX4_addPeg) := goodIn_app (goodIn_of _ (by decide +kernel)) ggX4_read_X4_addPeg
theorem dX4_read_0 : decode cX4_read 0 = .ok (.aload_n 0, 1) := by decide +kernel
theorem dX4_read_1 : decode cX4_read 1 = .ok (.iconst 0, 1) := by decide +kernel
theorem dX4_read_2 : decode cX4_read 2 = .ok (.putfield 25, 3) := by decide +kernel
theorem dX4_read_5 : decode cX4_read 5 = .ok (.aload_n 0, 1) := by decide +kernel
theorem dX4_read_6 : decode cX4_read 6 = .ok (.iconst 0, 1) := by decide +kernel
theorem dX4_read_7 : decode cX4_read 7 = .ok (.putfield 29, 3) := by decide +kernel
theorem dX4_read_10 : decode cX4_read 10 = .ok (.aload_n 0, 1) := by decide +kernel
theorem dX4_read_11 : decode cX4_read 11 = .ok (.iconst 0, 1) := by decide +kernel
theorem dX4_read_12 : decode cX4_read 12 = .ok (.putfield 32, 3) := by decide +kernel
theorem dX4_read_15 : decode cX4_read 15 = .ok (.aload_n 0, 1) := by decide +kernel
theorem dX4_read_16 : decode cX4_read 16 = .ok (.iconst 0, 1) := by decide +kernel
theorem dX4_read_17 : decode cX4_read 17 = .ok (.putfield 35, 3) := by decide +kernel
theorem dX4_read_20 : decode cX4_read 20 = .ok (.iconst 0, 1) := by decide +kernel
theorem dX4_read_21 : decode cX4_read 21 = .ok (.istore_n 2, 1) := by decide +kernel
theorem dX4_read_22 : decode cX4_read 22 = .ok (.iload_n 2, 1) := by decide +kernel
theorem dX4_read_23 : decode cX4_read 23 = .ok (.bipush 12, 2) := by decide +kernel
theorem dX4_read_25 : decode cX4_read 25 = .ok (.if_icmp .ge 63, 3) := by decide +kernel
theorem dX4_read_28 : decode cX4_read 28 = .ok (.aload_n 0, 1) := by decide +kernel
theorem dX4_read_29 : decode cX4_read 29 = .ok (.getfield 18, 3) := by decide +kernel
theorem dX4_read_32 : decode cX4_read 32 = .ok (.iload_n 2, 1) := by decide +kernel
theorem dX4_read_33 : decode cX4_read 33 = .ok (.iconst (-1), 1) := by decide +kernel
theorem dX4_read_34 : decode cX4_read 34 = .ok (.iastore, 1) := by decide +kernel
theorem dX4_read_35 : decode cX4_read 35 = .ok (.iload_n 2, 1) := by decide +kernel
theorem dX4_read_36 : decode cX4_read 36 = .ok (.aload_n 0, 1) := by decide +kernel
theorem dX4_read_37 : decode cX4_read 37 = .ok (.getfield 21, 3) := by decide +kernel
theorem dX4_read_40 : decode cX4_read 40 = .ok (.getfield 38, 3) := by decide +kernel
theorem dX4_read_43 : decode cX4_read 43 = .ok (.if_icmp .ge 39, 3) := by decide +kernel
theorem dX4_read_46 : decode cX4_read 46 = .ok (.aload_n 1, 1) := by decide +kernel
theorem dX4_read_47 : decode cX4_read 47 = .ok (.iconst 3, 1) := by decide +kernel
theorem dX4_read_48 : decode cX4_read 48 = .ok (.iload_n 2, 1) := by decide +kernel
theorem dX4_read_49 : decode cX4_read 49 = .ok (.iadd, 1) := by decide +kernel
theorem dX4_read_50 : decode cX4_read 50 = .ok (.invokevirtual 43, 3) := by decide +kernel
theorem dX4_read_53 : decode cX4_read 53 = .ok (.bipush 35, 2) := by decide +kernel
theorem dX4_read_55 : decode cX4_read 55 = .ok (.if_icmp .eq 27, 3) := by decide +kernel
theorem dX4_read_58 : decode cX4_read 58 = .ok (.aload_n 0, 1) := by decide +kernel
theorem dX4_read_59 : decode cX4_read 59 = .ok (.dup, 1) := by decide +kernel
theorem dX4_read_60 : decode cX4_read 60 = .ok (.getfield 25, 3) := by decide +kernel
theorem dX4_read_63 : decode cX4_read 63 = .ok (.iconst 1, 1) := by decide +kernel
theorem dX4_read_64 : decode cX4_read 64 = .ok (.iload_n 2, 1) := by decide +kernel
theorem dX4_read_65 : decode cX4_read 65 = .ok (.ishl, 1) := by decide +kernel
theorem dX4_read_66 : decode cX4_read 66 = .ok (.ior, 1) := by decide +kernel
theorem dX4_read_67 : decode cX4_read 67 = .ok (.putfield 25, 3) := by decide +kernel
theorem dX4_read_70 : decode cX4_read 70 = .ok (.aload_n 0, 1) := by decide +kernel
theorem dX4_read_71 : decode cX4_read 71 = .ok (.aload_n 1, 1) := by decide +kernel
theorem dX4_read_72 : decode cX4_read 72 = .ok (.iconst 3, 1) := by decide +kernel
theorem dX4_read_73 : decode cX4_read 73 = .ok (.iload_n 2, 1) := by decide +kernel
theorem dX4_read_74 : decode cX4_read 74 = .ok (.iadd, 1) := by decide +kernel
theorem dX4_read_75 : decode cX4_read 75 = .ok (.invokevirtual 49, 3) := by decide +kernel
theorem dX4_read_78 : decode cX4_read 78 = .ok (.iload_n 2, 1) := by decide +kernel
theorem dX4_read_79 : decode cX4_read 79 = .ok (.invokevirtual 52, 3) := by decide +kernel
theorem dX4_read_82 : decode cX4_read 82 = .ok (.iinc 2 1, 3) := by decide +kernel
theorem dX4_read_85 : decode cX4_read 85 = .ok (.goto (-63), 3) := by decide +kernel
theorem dX4_read_88 : decode cX4_read 88 = .ok (.return_, 1) := by decide +kernel
set_option maxRecDepth 20000 in
theorem ggX4_addPlain_X4_addPeg : GoodIn wsX4_addPlain wsX4_addPeg := goodIn_r _ [5, 6, 7, 8, 9, 10, 11, 4, 12, 13, 14, 15, 16, 17, 18, 19, 20, 21, 22, 23, 24, 25, 26, 27, 28, 29, 30, 31, 32, 33, 34, 35, 36, 37] (by decide +kernel) (by decide +kernel)
set_option maxRecDepth 20000 in
theorem gX4_addPlain_X4_addPeg : GoodIn wsX4_addPlain (wsV RX4 52 RX4 yX4_addPeg wsX4_addPeg) := goodIn_app (goodIn_of _ (by decide +kernel)) ggX4_addPlain_X4_addPeg
theorem dX4_addPlain_0 : decode cX4_addPlain 0 = .ok (.aload_n 0, 1) := by decide +kernel
theorem dX4_addPlain_1 : decode cX4_addPlain 1 = .ok (.iconst 0, 1) := by decide +kernel
theorem dX4_addPlain_2 : decode cX4_addPlain 2 = .ok (.iload_n 1, 1) := by decide +kernel
theorem dX4_addPlain_3 : decode cX4_addPlain 3 = .ok (.invokevirtual 52, 3) := by decide +kernel
theorem dX4_addPlain_6 : decode cX4_addPlain 6 = .ok (.return_, 1) := by decide +kernel
set_option maxRecDepth 20000 in
theorem ggX4_addPeg_X4_set : GoodIn wsX4_addPeg wsX4_set := goodIn_r _ [8, 9, 3, 10, 11, 12, 13, 14, 7, 15, 1, 16, 17, 18, 19, 20, 21, 22, 23, 24, 25, 26, 27, 28, 29, 30, 31, 32, 33] (by decide +kernel) (by decide +kernel)
set_option maxRecDepth 20000 in
theorem gX4_addPeg_X4_set : GoodIn wsX4_addPeg (wsV RX4 56 RX4 yX4_set wsX4_set) := goodIn_app (goodIn_of _ (by decide +kernel)) ggX4_addPeg_X4_set
theorem dX4_addPeg_0 : decode cX4_addPeg 0 = .ok (.iload_n 1, 1) := by decide +kernel
theorem dX4_addPeg_1 : decode cX4_addPeg 1 = .ok (.iconst (-1), 1) := by decide +kernel
theorem dX4_addPeg_2 : decode cX4_addPeg 2 = .ok (.if_icmp .eq 22, 3) := by decide +kernel
theorem dX4_addPeg_5 : decode cX4_addPeg 5 = .ok (.aload_n 0, 1) := by decide +kernel
theorem dX4_addPeg_6 : decode cX4_addPeg 6 = .ok (.getfield 29, 3) := by decide +kernel
theorem dX4_addPeg_9 : decode cX4_addPeg 9 = .ok (.ifCond .lt 15, 3) := by decide +kernel
theorem dX4_addPeg_12 : decode cX4_addPeg 12 = .ok (.aload_n 0, 1) := by decide +kernel
theorem dX4_addPeg_13 : decode cX4_addPeg 13 = .ok (.getfield 29, 3) := by decide +kernel
theorem dX4_addPeg_16 : decode cX4_addPeg 16 = .ok (.aload_n 0, 1) := by decide +kernel
theorem dX4_addPeg_17 : decode cX4_addPeg 17 = .ok (.getfield 9, 3) := by decide +kernel
theorem dX4_addPeg_20 : decode cX4_addPeg 20 = .ok (.arraylength, 1) := by decide +kernel
theorem dX4_addPeg_21 : decode cX4_addPeg 21 = .ok (.if_icmp .lt 4, 3) := by decide +kernel
theorem dX4_addPeg_24 : decode cX4_addPeg 24 = .ok (.return_, 1) := by decide +kernel
theorem dX4_addPeg_25 : decode cX4_addPeg 25 = .ok (.aload_n 0, 1) := by decide +kernel
theorem dX4_addPeg_26 : decode cX4_addPeg 26 = .ok (.getfield 29, 3) := by decide +kernel
theorem dX4_addPeg_29 : decode cX4_addPeg 29 = .ok (.istore_n 3, 1) := by decide +kernel
theorem dX4_addPeg_30 : decode cX4_addPeg 30 = .ok (.aload_n 0, 1) := by decide +kernel
theorem dX4_addPeg_31 : decode cX4_addPeg 31 = .ok (.dup, 1) := by decide +kernel
theorem dX4_addPeg_32 : decode cX4_addPeg 32 = .ok (.getfield 29, 3) := by decide +kernel
theorem dX4_addPeg_35 : decode cX4_addPeg 35 = .ok (.iconst 1, 1) := by decide +kernel
theorem dX4_addPeg_36 : decode cX4_addPeg 36 = .ok (.iadd, 1) := by decide +kernel
theorem dX4_addPeg_37 : decode cX4_addPeg 37 = .ok (.putfield 29, 3) := by decide +kernel
theorem dX4_addPeg_40 : decode cX4_addPeg 40 = .ok (.aload_n 0, 1) := by decide +kernel
theorem dX4_addPeg_41 : decode cX4_addPeg 41 = .ok (.getfield 9, 3) := by decide +kernel
theorem dX4_addPeg_44 : decode cX4_addPeg 44 = .ok (.iload_n 3, 1) := by decide +kernel
theorem dX4_addPeg_45 : decode cX4_addPeg 45 = .ok (.iload_n 1, 1) := by decide +kernel
theorem dX4_addPeg_46 : decode cX4_addPeg 46 = .ok (.iastore, 1) := by decide +kernel
theorem dX4_addPeg_47 : decode cX4_addPeg 47 = .ok (.aload_n 0, 1) := by decide +kernel
theorem dX4_addPeg_48 : decode cX4_addPeg 48 = .ok (.getfield 15, 3) := by decide +kernel
theorem dX4_addPeg_51 : decode cX4_addPeg 51 = .ok (.iload_n 3, 1) := by decide +kernel
theorem dX4_addPeg_52 : decode cX4_addPeg 52 = .ok (.iconst (-1), 1) := by decide +kernel
theorem dX4_addPeg_53 : decode cX4_addPeg 53 = .ok (.iastore, 1) := by decide +kernel
theorem dX4_addPeg_54 : decode cX4_addPeg 54 = .ok (.aload_n 0, 1) := by decide +kernel
theorem dX4_addPeg_55 : decode cX4_addPeg 55 = .ok (.iload_n 3, 1) := by decide +kernel
theorem dX4_addPeg_56 : decode cX4_addPeg 56 = .ok (.iload_n 2, 1) := by decide +kernel
theorem dX4_addPeg_57 : decode cX4_addPeg 57 = .ok (.invokevirtual 56, 3) := by decide +kernel
theorem dX4_addPeg_60 : decode cX4_addPeg 60 = .ok (.return_, 1) := by decide +kernel
theorem dX4_copyFrom_0 : decode cX4_copyFrom 0 = .ok (.aload_n 0, 1) := by decide +kernel
theorem dX4_copyFrom_1 : decode cX4_copyFrom 1 = .ok (.aload_n 1, 1) := by decide +kernel
theorem dX4_copyFrom_2 : decode cX4_copyFrom 2 = .ok (.getfield 25, 3) := by decide +kernel
theorem dX4_copyFrom_5 : decode cX4_copyFrom 5 = .ok (.putfield 25, 3) := by decide +kernel
theorem dX4_copyFrom_8 : decode cX4_copyFrom 8 = .ok (.aload_n 0, 1) := by decide +kernel
theorem dX4_copyFrom_9 : decode cX4_copyFrom 9 = .ok (.aload_n 1, 1) := by decide +kernel
theorem dX4_copyFrom_10 : decode cX4_copyFrom 10 = .ok (.getfield 29, 3) := by decide +kernel
theorem dX4_copyFrom_13 : decode cX4_copyFrom 13 = .ok (.putfield 29, 3) := by decide +kernel
theorem dX4_copyFrom_16 : decode cX4_copyFrom 16 = .ok (.aload_n 0, 1) := by decide +kernel
theorem dX4_copyFrom_17 : decode cX4_copyFrom 17 = .ok (.aload_n 1, 1) := by decide +kernel
theorem dX4_copyFrom_18 : decode cX4_copyFrom 18 = .ok (.getfield 32, 3) := by decide +kernel
theorem dX4_copyFrom_21 : decode cX4_copyFrom 21 = .ok (.putfield 32, 3) := by decide +kernel
theorem dX4_copyFrom_24 : decode cX4_copyFrom 24 = .ok (.aload_n 0, 1) := by decide +kernel
theorem dX4_copyFrom_25 : decode cX4_copyFrom 25 = .ok (.aload_n 1, 1) := by decide +kernel
theorem dX4_copyFrom_26 : decode cX4_copyFrom 26 = .ok (.getfield 35, 3) := by decide +kernel
theorem dX4_copyFrom_29 : decode cX4_copyFrom 29 = .ok (.putfield 35, 3) := by decide +kernel
theorem dX4_copyFrom_32 : decode cX4_copyFrom 32 = .ok (.iconst 0, 1) := by decide +kernel
theorem dX4_copyFrom_33 : decode cX4_copyFrom 33 = .ok (.istore_n 2, 1) := by decide +kernel
theorem dX4_copyFrom_34 : decode cX4_copyFrom 34 = .ok (.iload_n 2, 1) := by decide +kernel
theorem dX4_copyFrom_35 : decode cX4_copyFrom 35 = .ok (.bipush 8, 2) := by decide +kernel
theorem dX4_copyFrom_37 : decode cX4_copyFrom 37 = .ok (.if_icmp .ge 33, 3) := by decide +kernel
theorem dX4_copyFrom_40 : decode cX4_copyFrom 40 = .ok (.aload_n 0, 1) := by decide +kernel
theorem dX4_copyFrom_41 : decode cX4_copyFrom 41 = .ok (.getfield 9, 3) := by decide +kernel
theorem dX4_copyFrom_44 : decode cX4_copyFrom 44 = .ok (.iload_n 2, 1) := by decide +kernel
theorem dX4_copyFrom_45 : decode cX4_copyFrom 45 = .ok (.aload_n 1, 1) := by decide +kernel
theorem dX4_copyFrom_46 : decode cX4_copyFrom 46 = .ok (.getfield 9, 3) := by decide +kernel
theorem dX4_copyFrom_49 : decode cX4_copyFrom 49 = .ok (.iload_n 2, 1) := by decide +kernel
theorem dX4_copyFrom_50 : decode cX4_copyFrom 50 = .ok (.iaload, 1) := by decide +kernel
theorem dX4_copyFrom_51 : decode cX4_copyFrom 51 = .ok (.iastore, 1) := by decide +kernel
theorem dX4_copyFrom_52 : decode cX4_copyFrom 52 = .ok (.aload_n 0, 1) := by decide +kernel
theorem dX4_copyFrom_53 : decode cX4_copyFrom 53 = .ok (.getfield 15, 3) := by decide +kernel
theorem dX4_copyFrom_56 : decode cX4_copyFrom 56 = .ok (.iload_n 2, 1) := by decide +kernel
theorem dX4_copyFrom_57 : decode cX4_copyFrom 57 = .ok (.aload_n 1, 1) := by decide +kernel
theorem dX4_copyFrom_58 : decode cX4_copyFrom 58 = .ok (.getfield 15, 3) := by decide +kernel
theorem dX4_copyFrom_61 : decode cX4_copyFrom 61 = .ok (.iload_n 2, 1) := by decide +kernel
theorem dX4_copyFrom_62 : decode cX4_copyFrom 62 = .ok (.iaload, 1) := by decide +kernel
theorem dX4_copyFrom_63 : decode cX4_copyFrom 63 = .ok (.iastore, 1) := by decide +kernel
theorem dX4_copyFrom_64 : decode cX4_copyFrom 64 = .ok (.iinc 2 1, 3) := by decide +kernel
theorem dX4_copyFrom_67 : decode cX4_copyFrom 67 = .ok (.goto (-33), 3) := by decide +kernel
theorem dX4_copyFrom_70 : decode cX4_copyFrom 70 = .ok (.iconst 0, 1) := by decide +kernel
theorem dX4_copyFrom_71 : decode cX4_copyFrom 71 = .ok (.istore_n 2, 1) := by decide +kernel
theorem dX4_copyFrom_72 : decode cX4_copyFrom 72 = .ok (.iload_n 2, 1) := by decide +kernel
theorem dX4_copyFrom_73 : decode cX4_copyFrom 73 = .ok (.bipush 12, 2) := by decide +kernel
theorem dX4_copyFrom_75 : decode cX4_copyFrom 75 = .ok (.if_icmp .ge 21, 3) := by decide +kernel
theorem dX4_copyFrom_78 : decode cX4_copyFrom 78 = .ok (.aload_n 0, 1) := by decide +kernel
theorem dX4_copyFrom_79 : decode cX4_copyFrom 79 = .ok (.getfield 18, 3) := by decide +kernel
theorem dX4_copyFrom_82 : decode cX4_copyFrom 82 = .ok (.iload_n 2, 1) := by decide +kernel
theorem dX4_copyFrom_83 : decode cX4_copyFrom 83 = .ok (.aload_n 1, 1) := by decide +kernel
theorem dX4_copyFrom_84 : decode cX4_copyFrom 84 = .ok (.getfield 18, 3) := by decide +kernel
theorem dX4_copyFrom_87 : decode cX4_copyFrom 87 = .ok (.iload_n 2, 1) := by decide +kernel
theorem dX4_copyFrom_88 : decode cX4_copyFrom 88 = .ok (.iaload, 1) := by decide +kernel
theorem dX4_copyFrom_89 : decode cX4_copyFrom 89 = .ok (.iastore, 1) := by decide +kernel
theorem dX4_copyFrom_90 : decode cX4_copyFrom 90 = .ok (.iinc 2 1, 3) := by decide +kernel
theorem dX4_copyFrom_93 : decode cX4_copyFrom 93 = .ok (.goto (-21), 3) := by decide +kernel
theorem dX4_copyFrom_96 : decode cX4_copyFrom 96 = .ok (.return_, 1) := by decide +kernel
theorem dX4_isPeg_0 : decode cX4_isPeg 0 = .ok (.iload_n 1, 1) := by decide +kernel
theorem dX4_isPeg_1 : decode cX4_isPeg 1 = .ok (.ifCond .lt 21, 3) := by decide +kernel
theorem dX4_isPeg_4 : decode cX4_isPeg 4 = .ok (.iload_n 1, 1) := by decide +kernel
theorem dX4_isPeg_5 : decode cX4_isPeg 5 = .ok (.bipush 8, 2) := by decide +kernel
theorem dX4_isPeg_7 : decode cX4_isPeg 7 = .ok (.if_icmp .ge 15, 3) := by decide +kernel
theorem dX4_isPeg_10 : decode cX4_isPeg 10 = .ok (.iload_n 1, 1) := by decide +kernel
theorem dX4_isPeg_11 : decode cX4_isPeg 11 = .ok (.aload_n 0, 1) := by decide +kernel
theorem dX4_isPeg_12 : decode cX4_isPeg 12 = .ok (.getfield 29, 3) := by decide +kernel
theorem dX4_isPeg_15 : decode cX4_isPeg 15 = .ok (.if_icmp .ge 7, 3) := by decide +kernel
theorem dX4_isPeg_18 : decode cX4_isPeg 18 = .ok (.iconst 1, 1) := by decide +kernel
theorem dX4_isPeg_19 : decode cX4_isPeg 19 = .ok (.goto 4, 3) := by decide +kernel
theorem dX4_isPeg_22 : decode cX4_isPeg 22 = .ok (.iconst 0, 1) := by decide +kernel
theorem dX4_isPeg_23 : decode cX4_isPeg 23 = .ok (.ireturn, 1) := by decide +kernel
set_option maxRecDepth 20000 in
theorem ggX4_kindOf_X4_isPeg : GoodIn wsX4_kindOf wsX4_isPeg := goodIn_r _ [6, 7, 8, 9, 10, 11, 12, 13, 14, 15] (by decide +kernel) (by decide +kernel)
set_option maxRecDepth 20000 in
theorem gX4_kindOf_X4_isPeg : GoodIn wsX4_kindOf (wsV RX4 59 RX4 yX4_isPeg wsX4_isPeg) := goodIn_app (goodIn_of _ (by decide +kernel)) ggX4_kindOf_X4_isPeg
theorem dX4_kindOf_0 : decode cX4_kindOf 0 = .ok (.aload_n 0, 1) := by decide +kernel
theorem dX4_kindOf_1 : decode cX4_kindOf 1 = .ok (.iload_n 1, 1) := by decide +kernel
theorem dX4_kindOf_2 : decode cX4_kindOf 2 = .ok (.invokevirtual 59, 3) := by decide +kernel
theorem dX4_kindOf_5 : decode cX4_kindOf 5 = .ok (.ifCond .eq 12, 3) := by decide +kernel
theorem dX4_kindOf_8 : decode cX4_kindOf 8 = .ok (.aload_n 0, 1) := by decide +kernel
theorem dX4_kindOf_9 : decode cX4_kindOf 9 = .ok (.getfield 9, 3) := by decide +kernel
theorem dX4_kindOf_12 : decode cX4_kindOf 12 = .ok (.iload_n 1, 1) := by decide +kernel
theorem dX4_kindOf_13 : decode cX4_kindOf 13 = .ok (.iaload, 1) := by decide +kernel
theorem dX4_kindOf_14 : decode cX4_kindOf 14 = .ok (.goto 4, 3) := by decide +kernel
theorem dX4_kindOf_17 : decode cX4_kindOf 17 = .ok (.iconst (-1), 1) := by decide +kernel
theorem dX4_kindOf_18 : decode cX4_kindOf 18 = .ok (.ireturn, 1) := by decide +kernel
set_option maxRecDepth 20000 in
theorem ggX4_homeOf_X4_isPeg : GoodIn wsX4_homeOf wsX4_isPeg := goodIn_r _ [6, 7, 8, 9, 10, 11, 12, 13, 14, 15] (by decide +kernel) (by decide +kernel)
set_option maxRecDepth 20000 in
theorem gX4_homeOf_X4_isPeg : GoodIn wsX4_homeOf (wsV RX4 59 RX4 yX4_isPeg wsX4_isPeg) := goodIn_app (goodIn_of _ (by decide +kernel)) ggX4_homeOf_X4_isPeg
theorem dX4_homeOf_0 : decode cX4_homeOf 0 = .ok (.aload_n 0, 1) := by decide +kernel
theorem dX4_homeOf_1 : decode cX4_homeOf 1 = .ok (.iload_n 1, 1) := by decide +kernel
theorem dX4_homeOf_2 : decode cX4_homeOf 2 = .ok (.invokevirtual 59, 3) := by decide +kernel
theorem dX4_homeOf_5 : decode cX4_homeOf 5 = .ok (.ifCond .eq 12, 3) := by decide +kernel
theorem dX4_homeOf_8 : decode cX4_homeOf 8 = .ok (.aload_n 0, 1) := by decide +kernel
theorem dX4_homeOf_9 : decode cX4_homeOf 9 = .ok (.getfield 15, 3) := by decide +kernel
theorem dX4_homeOf_12 : decode cX4_homeOf 12 = .ok (.iload_n 1, 1) := by decide +kernel
theorem dX4_homeOf_13 : decode cX4_homeOf 13 = .ok (.iaload, 1) := by decide +kernel
theorem dX4_homeOf_14 : decode cX4_homeOf 14 = .ok (.goto 4, 3) := by decide +kernel
theorem dX4_homeOf_17 : decode cX4_homeOf 17 = .ok (.iconst (-1), 1) := by decide +kernel
theorem dX4_homeOf_18 : decode cX4_homeOf 18 = .ok (.ireturn, 1) := by decide +kernel
set_option maxRecDepth 20000 in
theorem ggX4_turn_X4_isPeg : GoodIn wsX4_turn wsX4_isPeg := goodIn_r _ [6, 7, 8, 9, 10, 11, 12, 13, 14, 15] (by decide +kernel) (by decide +kernel)
set_option maxRecDepth 20000 in
theorem gX4_turn_X4_isPeg : GoodIn wsX4_turn (wsV RX4 59 RX4 yX4_isPeg wsX4_isPeg) := goodIn_app (goodIn_of _ (by decide +kernel)) ggX4_turn_X4_isPeg
theorem dX4_turn_0 : decode cX4_turn 0 = .ok (.aload_n 0, 1) := by decide +kernel
theorem dX4_turn_1 : decode cX4_turn 1 = .ok (.iload_n 1, 1) := by decide +kernel
theorem dX4_turn_2 : decode cX4_turn 2 = .ok (.invokevirtual 59, 3) := by decide +kernel
theorem dX4_turn_5 : decode cX4_turn 5 = .ok (.ifCond .eq 10, 3) := by decide +kernel
theorem dX4_turn_8 : decode cX4_turn 8 = .ok (.aload_n 0, 1) := by decide +kernel
theorem dX4_turn_9 : decode cX4_turn 9 = .ok (.getfield 9, 3) := by decide +kernel
theorem dX4_turn_12 : decode cX4_turn 12 = .ok (.iload_n 1, 1) := by decide +kernel
theorem dX4_turn_13 : decode cX4_turn 13 = .ok (.iload_n 2, 1) := by decide +kernel
theorem dX4_turn_14 : decode cX4_turn 14 = .ok (.iastore, 1) := by decide +kernel
theorem dX4_turn_15 : decode cX4_turn 15 = .ok (.return_, 1) := by decide +kernel
set_option maxRecDepth 20000 in
theorem ggX4_isHole_X0_has : GoodIn wsX4_isHole wsX0_has := goodIn_r _ [7, 8, 20, 21, 22, 23] (by decide +kernel) (by decide +kernel)
set_option maxRecDepth 20000 in
theorem gX4_isHole_X0_has : GoodIn wsX4_isHole (wsV RX4 63 RX0 yX0_has wsX0_has) := goodIn_app (goodIn_of _ (by decide +kernel)) ggX4_isHole_X0_has
set_option maxRecDepth 20000 in
theorem ggX4_isHole_X5_hasBit : GoodIn wsX4_isHole wsX5_hasBit := goodIn_r _ [11] (by decide +kernel) (by decide +kernel)
set_option maxRecDepth 20000 in
theorem gX4_isHole_X5_hasBit_n66 : GoodIn wsX4_isHole (wsX5_hasBit) := ggX4_isHole_X5_hasBit
theorem dX4_isHole_0 : decode cX4_isHole 0 = .ok (.aload_n 0, 1) := by decide +kernel
theorem dX4_isHole_1 : decode cX4_isHole 1 = .ok (.getfield 21, 3) := by decide +kernel
theorem dX4_isHole_4 : decode cX4_isHole 4 = .ok (.iload_n 1, 1) := by decide +kernel
theorem dX4_isHole_5 : decode cX4_isHole 5 = .ok (.invokevirtual 63, 3) := by decide +kernel
theorem dX4_isHole_8 : decode cX4_isHole 8 = .ok (.ifCond .eq 18, 3) := by decide +kernel
theorem dX4_isHole_11 : decode cX4_isHole 11 = .ok (.aload_n 0, 1) := by decide +kernel
theorem dX4_isHole_12 : decode cX4_isHole 12 = .ok (.getfield 25, 3) := by decide +kernel
theorem dX4_isHole_15 : decode cX4_isHole 15 = .ok (.iload_n 1, 1) := by decide +kernel
theorem dX4_isHole_16 : decode cX4_isHole 16 = .ok (.invokestatic 66, 3) := by decide +kernel
theorem dX4_isHole_19 : decode cX4_isHole 19 = .ok (.ifCond .eq 7, 3) := by decide +kernel
theorem dX4_isHole_22 : decode cX4_isHole 22 = .ok (.iconst 1, 1) := by decide +kernel
theorem dX4_isHole_23 : decode cX4_isHole 23 = .ok (.goto 4, 3) := by decide +kernel
theorem dX4_isHole_26 : decode cX4_isHole 26 = .ok (.iconst 0, 1) := by decide +kernel
theorem dX4_isHole_27 : decode cX4_isHole 27 = .ok (.ireturn, 1) := by decide +kernel
set_option maxRecDepth 20000 in
theorem ggX4_pegIn_X0_has : GoodIn wsX4_pegIn wsX0_has := goodIn_r _ [7, 8, 17, 18, 19, 20] (by decide +kernel) (by decide +kernel)
set_option maxRecDepth 20000 in
theorem gX4_pegIn_X0_has : GoodIn wsX4_pegIn (wsV RX4 63 RX0 yX0_has wsX0_has) := goodIn_app (goodIn_of _ (by decide +kernel)) ggX4_pegIn_X0_has
theorem dX4_pegIn_0 : decode cX4_pegIn 0 = .ok (.aload_n 0, 1) := by decide +kernel
theorem dX4_pegIn_1 : decode cX4_pegIn 1 = .ok (.getfield 21, 3) := by decide +kernel
theorem dX4_pegIn_4 : decode cX4_pegIn 4 = .ok (.iload_n 1, 1) := by decide +kernel
theorem dX4_pegIn_5 : decode cX4_pegIn 5 = .ok (.invokevirtual 63, 3) := by decide +kernel
theorem dX4_pegIn_8 : decode cX4_pegIn 8 = .ok (.ifCond .eq 12, 3) := by decide +kernel
theorem dX4_pegIn_11 : decode cX4_pegIn 11 = .ok (.aload_n 0, 1) := by decide +kernel
theorem dX4_pegIn_12 : decode cX4_pegIn 12 = .ok (.getfield 18, 3) := by decide +kernel
theorem dX4_pegIn_15 : decode cX4_pegIn 15 = .ok (.iload_n 1, 1) := by decide +kernel
theorem dX4_pegIn_16 : decode cX4_pegIn 16 = .ok (.iaload, 1) := by decide +kernel
theorem dX4_pegIn_17 : decode cX4_pegIn 17 = .ok (.goto 4, 3) := by decide +kernel
theorem dX4_pegIn_20 : decode cX4_pegIn 20 = .ok (.iconst (-1), 1) := by decide +kernel
theorem dX4_pegIn_21 : decode cX4_pegIn 21 = .ok (.ireturn, 1) := by decide +kernel
set_option maxRecDepth 20000 in
theorem ggX4_isEmptyHole_X0_has : GoodIn wsX4_isEmptyHole wsX0_has := goodIn_r _ [8, 9, 21, 22, 23, 24] (by decide +kernel) (by decide +kernel)
set_option maxRecDepth 20000 in
theorem gX4_isEmptyHole_X0_has : GoodIn wsX4_isEmptyHole (wsV RX4 63 RX0 yX0_has wsX0_has) := goodIn_app (goodIn_of _ (by decide +kernel)) ggX4_isEmptyHole_X0_has
set_option maxRecDepth 20000 in
theorem ggX4_isEmptyHole_X5_hasBit : GoodIn wsX4_isEmptyHole wsX5_hasBit := goodIn_r _ [12] (by decide +kernel) (by decide +kernel)
set_option maxRecDepth 20000 in
theorem gX4_isEmptyHole_X5_hasBit_n66 : GoodIn wsX4_isEmptyHole (wsX5_hasBit) := ggX4_isEmptyHole_X5_hasBit
theorem dX4_isEmptyHole_0 : decode cX4_isEmptyHole 0 = .ok (.aload_n 0, 1) := by decide +kernel
theorem dX4_isEmptyHole_1 : decode cX4_isEmptyHole 1 = .ok (.getfield 21, 3) := by decide +kernel
theorem dX4_isEmptyHole_4 : decode cX4_isEmptyHole 4 = .ok (.iload_n 1, 1) := by decide +kernel
theorem dX4_isEmptyHole_5 : decode cX4_isEmptyHole 5 = .ok (.invokevirtual 63, 3) := by decide +kernel
theorem dX4_isEmptyHole_8 : decode cX4_isEmptyHole 8 = .ok (.ifCond .eq 28, 3) := by decide +kernel
theorem dX4_isEmptyHole_11 : decode cX4_isEmptyHole 11 = .ok (.aload_n 0, 1) := by decide +kernel
theorem dX4_isEmptyHole_12 : decode cX4_isEmptyHole 12 = .ok (.getfield 25, 3) := by decide +kernel
theorem dX4_isEmptyHole_15 : decode cX4_isEmptyHole 15 = .ok (.iload_n 1, 1) := by decide +kernel
theorem dX4_isEmptyHole_16 : decode cX4_isEmptyHole 16 = .ok (.invokestatic 66, 3) := by decide +kernel
theorem dX4_isEmptyHole_19 : decode cX4_isEmptyHole 19 = .ok (.ifCond .eq 17, 3) := by decide +kernel
theorem dX4_isEmptyHole_22 : decode cX4_isEmptyHole 22 = .ok (.aload_n 0, 1) := by decide +kernel
theorem dX4_isEmptyHole_23 : decode cX4_isEmptyHole 23 = .ok (.getfield 18, 3) := by decide +kernel
theorem dX4_isEmptyHole_26 : decode cX4_isEmptyHole 26 = .ok (.iload_n 1, 1) := by decide +kernel
theorem dX4_isEmptyHole_27 : decode cX4_isEmptyHole 27 = .ok (.iaload, 1) := by decide +kernel
theorem dX4_isEmptyHole_28 : decode cX4_isEmptyHole 28 = .ok (.iconst (-1), 1) := by decide +kernel
theorem dX4_isEmptyHole_29 : decode cX4_isEmptyHole 29 = .ok (.if_icmp .ne 7, 3) := by decide +kernel
theorem dX4_isEmptyHole_32 : decode cX4_isEmptyHole 32 = .ok (.iconst 1, 1) := by decide +kernel
theorem dX4_isEmptyHole_33 : decode cX4_isEmptyHole 33 = .ok (.goto 4, 3) := by decide +kernel
theorem dX4_isEmptyHole_36 : decode cX4_isEmptyHole 36 = .ok (.iconst 0, 1) := by decide +kernel
theorem dX4_isEmptyHole_37 : decode cX4_isEmptyHole 37 = .ok (.ireturn, 1) := by decide +kernel
set_option maxRecDepth 20000 in
theorem ggX4_set_X4_isPeg : GoodIn wsX4_set wsX4_isPeg := goodIn_r _ [9, 10, 17, 18, 19, 20, 21, 22, 23, 24] (by decide +kernel) (by decide +kernel)
set_option maxRecDepth 20000 in
theorem gX4_set_X4_isPeg : GoodIn wsX4_set (wsV RX4 59 RX4 yX4_isPeg wsX4_isPeg) := goodIn_app (goodIn_of _ (by decide +kernel)) ggX4_set_X4_isPeg
set_option maxRecDepth 20000 in
theorem ggX4_set_X0_has : GoodIn wsX4_set wsX0_has := goodIn_r _ [15, 16, 25, 26, 27, 28] (by decide +kernel) (by decide +kernel)
set_option maxRecDepth 20000 in
theorem gX4_set_X0_has : GoodIn wsX4_set (wsV RX4 63 RX0 yX0_has wsX0_has) := goodIn_app (goodIn_of _ (by decide +kernel)) ggX4_set_X0_has
theorem dX4_set_0 : decode cX4_set 0 = .ok (.aload_n 0, 1) := by decide +kernel
theorem dX4_set_1 : decode cX4_set 1 = .ok (.iload_n 1, 1) := by decide +kernel
theorem dX4_set_2 : decode cX4_set 2 = .ok (.invokevirtual 59, 3) := by decide +kernel
theorem dX4_set_5 : decode cX4_set 5 = .ok (.ifCond .eq 38, 3) := by decide +kernel
theorem dX4_set_8 : decode cX4_set 8 = .ok (.aload_n 0, 1) := by decide +kernel
theorem dX4_set_9 : decode cX4_set 9 = .ok (.getfield 21, 3) := by decide +kernel
theorem dX4_set_12 : decode cX4_set 12 = .ok (.iload_n 2, 1) := by decide +kernel
theorem dX4_set_13 : decode cX4_set 13 = .ok (.invokevirtual 63, 3) := by decide +kernel
theorem dX4_set_16 : decode cX4_set 16 = .ok (.ifCond .eq 27, 3) := by decide +kernel
theorem dX4_set_19 : decode cX4_set 19 = .ok (.aload_n 0, 1) := by decide +kernel
theorem dX4_set_20 : decode cX4_set 20 = .ok (.getfield 15, 3) := by decide +kernel
theorem dX4_set_23 : decode cX4_set 23 = .ok (.iload_n 1, 1) := by decide +kernel
theorem dX4_set_24 : decode cX4_set 24 = .ok (.iload_n 2, 1) := by decide +kernel
theorem dX4_set_25 : decode cX4_set 25 = .ok (.iastore, 1) := by decide +kernel
theorem dX4_set_26 : decode cX4_set 26 = .ok (.aload_n 0, 1) := by decide +kernel
theorem dX4_set_27 : decode cX4_set 27 = .ok (.getfield 18, 3) := by decide +kernel
theorem dX4_set_30 : decode cX4_set 30 = .ok (.iload_n 2, 1) := by decide +kernel
theorem dX4_set_31 : decode cX4_set 31 = .ok (.iload_n 1, 1) := by decide +kernel
theorem dX4_set_32 : decode cX4_set 32 = .ok (.iastore, 1) := by decide +kernel
theorem dX4_set_33 : decode cX4_set 33 = .ok (.aload_n 0, 1) := by decide +kernel
theorem dX4_set_34 : decode cX4_set 34 = .ok (.dup, 1) := by decide +kernel
theorem dX4_set_35 : decode cX4_set 35 = .ok (.getfield 32, 3) := by decide +kernel
theorem dX4_set_38 : decode cX4_set 38 = .ok (.iconst 1, 1) := by decide +kernel
theorem dX4_set_39 : decode cX4_set 39 = .ok (.iadd, 1) := by decide +kernel
theorem dX4_set_40 : decode cX4_set 40 = .ok (.putfield 32, 3) := by decide +kernel
theorem dX4_set_43 : decode cX4_set 43 = .ok (.return_, 1) := by decide +kernel
set_option maxRecDepth 20000 in
theorem ggX4_lift_X4_isPeg : GoodIn wsX4_lift wsX4_isPeg := goodIn_r _ [9, 10, 17, 18, 19, 20, 21, 22, 23, 24] (by decide +kernel) (by decide +kernel)
set_option maxRecDepth 20000 in
theorem gX4_lift_X4_isPeg : GoodIn wsX4_lift (wsV RX4 59 RX4 yX4_isPeg wsX4_isPeg) := goodIn_app (goodIn_of _ (by decide +kernel)) ggX4_lift_X4_isPeg
set_option maxRecDepth 20000 in
theorem ggX4_lift_X0_has : GoodIn wsX4_lift wsX0_has := goodIn_r _ [15, 16, 25, 26, 27, 28] (by decide +kernel) (by decide +kernel)
set_option maxRecDepth 20000 in
theorem gX4_lift_X0_has : GoodIn wsX4_lift (wsV RX4 63 RX0 yX0_has wsX0_has) := goodIn_app (goodIn_of _ (by decide +kernel)) ggX4_lift_X0_has
theorem dX4_lift_0 : decode cX4_lift 0 = .ok (.aload_n 0, 1) := by decide +kernel
theorem dX4_lift_1 : decode cX4_lift 1 = .ok (.iload_n 1, 1) := by decide +kernel
theorem dX4_lift_2 : decode cX4_lift 2 = .ok (.invokevirtual 59, 3) := by decide +kernel
theorem dX4_lift_5 : decode cX4_lift 5 = .ok (.ifCond .eq 48, 3) := by decide +kernel
theorem dX4_lift_8 : decode cX4_lift 8 = .ok (.aload_n 0, 1) := by decide +kernel
theorem dX4_lift_9 : decode cX4_lift 9 = .ok (.getfield 21, 3) := by decide +kernel
theorem dX4_lift_12 : decode cX4_lift 12 = .ok (.aload_n 0, 1) := by decide +kernel
theorem dX4_lift_13 : decode cX4_lift 13 = .ok (.getfield 15, 3) := by decide +kernel
theorem dX4_lift_16 : decode cX4_lift 16 = .ok (.iload_n 1, 1) := by decide +kernel
theorem dX4_lift_17 : decode cX4_lift 17 = .ok (.iaload, 1) := by decide +kernel
theorem dX4_lift_18 : decode cX4_lift 18 = .ok (.invokevirtual 63, 3) := by decide +kernel
theorem dX4_lift_21 : decode cX4_lift 21 = .ok (.ifCond .eq 32, 3) := by decide +kernel
theorem dX4_lift_24 : decode cX4_lift 24 = .ok (.aload_n 0, 1) := by decide +kernel
theorem dX4_lift_25 : decode cX4_lift 25 = .ok (.getfield 18, 3) := by decide +kernel
theorem dX4_lift_28 : decode cX4_lift 28 = .ok (.aload_n 0, 1) := by decide +kernel
theorem dX4_lift_29 : decode cX4_lift 29 = .ok (.getfield 15, 3) := by decide +kernel
theorem dX4_lift_32 : decode cX4_lift 32 = .ok (.iload_n 1, 1) := by decide +kernel
theorem dX4_lift_33 : decode cX4_lift 33 = .ok (.iaload, 1) := by decide +kernel
theorem dX4_lift_34 : decode cX4_lift 34 = .ok (.iconst (-1), 1) := by decide +kernel
theorem dX4_lift_35 : decode cX4_lift 35 = .ok (.iastore, 1) := by decide +kernel
theorem dX4_lift_36 : decode cX4_lift 36 = .ok (.aload_n 0, 1) := by decide +kernel
theorem dX4_lift_37 : decode cX4_lift 37 = .ok (.getfield 15, 3) := by decide +kernel
theorem dX4_lift_40 : decode cX4_lift 40 = .ok (.iload_n 1, 1) := by decide +kernel
theorem dX4_lift_41 : decode cX4_lift 41 = .ok (.iconst (-1), 1) := by decide +kernel
theorem dX4_lift_42 : decode cX4_lift 42 = .ok (.iastore, 1) := by decide +kernel
theorem dX4_lift_43 : decode cX4_lift 43 = .ok (.aload_n 0, 1) := by decide +kernel
theorem dX4_lift_44 : decode cX4_lift 44 = .ok (.dup, 1) := by decide +kernel
theorem dX4_lift_45 : decode cX4_lift 45 = .ok (.getfield 32, 3) := by decide +kernel
theorem dX4_lift_48 : decode cX4_lift 48 = .ok (.iconst 1, 1) := by decide +kernel
theorem dX4_lift_49 : decode cX4_lift 49 = .ok (.isub, 1) := by decide +kernel
theorem dX4_lift_50 : decode cX4_lift 50 = .ok (.putfield 32, 3) := by decide +kernel
theorem dX4_lift_53 : decode cX4_lift 53 = .ok (.return_, 1) := by decide +kernel
set_option maxRecDepth 20000 in
theorem ggX4_neighbourOf_X4_homeOf : GoodIn wsX4_neighbourOf wsX4_homeOf := goodIn_r _ [6, 7, 8, 9, 10, 5, 11, 12, 30, 31, 32, 33, 34, 35, 36, 37] (by decide +kernel) (by decide +kernel)
set_option maxRecDepth 20000 in
theorem gX4_neighbourOf_X4_homeOf : GoodIn wsX4_neighbourOf (wsV RX4 70 RX4 yX4_homeOf wsX4_homeOf) := goodIn_app (goodIn_of _ (by decide +kernel)) ggX4_neighbourOf_X4_homeOf
set_option maxRecDepth 20000 in
theorem ggX4_neighbourOf_X0_next : GoodIn wsX4_neighbourOf wsX0_next := goodIn_r _ [17, 18, 19, 20, 21, 16, 22, 23, 38, 39, 40, 41] (by decide +kernel) (by decide +kernel)
set_option maxRecDepth 20000 in
theorem gX4_neighbourOf_X0_next : GoodIn wsX4_neighbourOf (wsV RX4 73 RX0 yX0_next wsX0_next) := goodIn_app (goodIn_of _ (by decide +kernel)) ggX4_neighbourOf_X0_next
set_option maxRecDepth 20000 in
theorem ggX4_neighbourOf_X4_pegIn : GoodIn wsX4_neighbourOf wsX4_pegIn := goodIn_r _ [27, 1, 28, 29, 20, 21, 16, 22, 23, 30, 31, 32, 33, 34, 35, 36, 37, 38, 39, 40, 41] (by decide +kernel) (by decide +kernel)
set_option maxRecDepth 20000 in
theorem gX4_neighbourOf_X4_pegIn : GoodIn wsX4_neighbourOf (wsV RX4 77 RX4 yX4_pegIn wsX4_pegIn) := goodIn_app (goodIn_of _ (by decide +kernel)) ggX4_neighbourOf_X4_pegIn
theorem dX4_neighbourOf_0 : decode cX4_neighbourOf 0 = .ok (.aload_n 0, 1) := by decide +kernel
theorem dX4_neighbourOf_1 : decode cX4_neighbourOf 1 = .ok (.aload_n 0, 1) := by decide +kernel
theorem dX4_neighbourOf_2 : decode cX4_neighbourOf 2 = .ok (.getfield 21, 3) := by decide +kernel
theorem dX4_neighbourOf_5 : decode cX4_neighbourOf 5 = .ok (.aload_n 0, 1) := by decide +kernel
theorem dX4_neighbourOf_6 : decode cX4_neighbourOf 6 = .ok (.iload_n 1, 1) := by decide +kernel
theorem dX4_neighbourOf_7 : decode cX4_neighbourOf 7 = .ok (.invokevirtual 70, 3) := by decide +kernel
theorem dX4_neighbourOf_10 : decode cX4_neighbourOf 10 = .ok (.iload_n 2, 1) := by decide +kernel
theorem dX4_neighbourOf_11 : decode cX4_neighbourOf 11 = .ok (.invokevirtual 73, 3) := by decide +kernel
theorem dX4_neighbourOf_14 : decode cX4_neighbourOf 14 = .ok (.invokevirtual 77, 3) := by decide +kernel
theorem dX4_neighbourOf_17 : decode cX4_neighbourOf 17 = .ok (.ireturn, 1) := by decide +kernel
set_option maxRecDepth 20000 in
theorem ggX4_targetOf_X4_homeOf : GoodIn wsX4_targetOf wsX4_homeOf := goodIn_r _ [6, 7, 8, 9, 10, 5, 11, 12, 50, 51, 52, 53, 54, 55, 56, 57] (by decide +kernel) (by decide +kernel)
set_option maxRecDepth 20000 in
theorem gX4_targetOf_X4_homeOf : GoodIn wsX4_targetOf (wsV RX4 70 RX4 yX4_homeOf wsX4_homeOf) := goodIn_app (goodIn_of _ (by decide +kernel)) ggX4_targetOf_X4_homeOf
set_option maxRecDepth 20000 in
theorem ggX4_targetOf_X0_next : GoodIn wsX4_targetOf wsX0_next := goodIn_r _ [17, 18, 19, 20, 21, 16, 22, 23, 58, 59, 60, 61] (by decide +kernel) (by decide +kernel)
set_option maxRecDepth 20000 in
theorem gX4_targetOf_X0_next : GoodIn wsX4_targetOf (wsV RX4 73 RX0 yX0_next wsX0_next) := goodIn_app (goodIn_of _ (by decide +kernel)) ggX4_targetOf_X0_next
set_option maxRecDepth 20000 in
theorem ggX4_targetOf_X4_pegIn : GoodIn wsX4_targetOf wsX4_pegIn := goodIn_r _ [27, 1, 28, 29, 20, 21, 16, 22, 23, 50, 51, 52, 53, 54, 55, 56, 57, 58, 59, 60, 61] (by decide +kernel) (by decide +kernel)
set_option maxRecDepth 20000 in
theorem gX4_targetOf_X4_pegIn : GoodIn wsX4_targetOf (wsV RX4 77 RX4 yX4_pegIn wsX4_pegIn) := goodIn_app (goodIn_of _ (by decide +kernel)) ggX4_targetOf_X4_pegIn
set_option maxRecDepth 20000 in
theorem ggX4_targetOf_X4_kindOf : GoodIn wsX4_targetOf wsX4_kindOf := goodIn_r _ [33, 34, 8, 9, 10, 5, 11, 12, 50, 51, 52, 53, 54, 55, 56, 57] (by decide +kernel) (by decide +kernel)
set_option maxRecDepth 20000 in
theorem gX4_targetOf_X4_kindOf : GoodIn wsX4_targetOf (wsV RX4 80 RX4 yX4_kindOf wsX4_kindOf) := goodIn_app (goodIn_of _ (by decide +kernel)) ggX4_targetOf_X4_kindOf
set_option maxRecDepth 20000 in
theorem ggX4_targetOf_X5_kindGoes : GoodIn wsX4_targetOf wsX5_kindGoes := goodIn_r _ [37, 38, 39, 40, 36, 41] (by decide +kernel) (by decide +kernel)
set_option maxRecDepth 20000 in
theorem gX4_targetOf_X5_kindGoes_n83 : GoodIn wsX4_targetOf (wsX5_kindGoes) := ggX4_targetOf_X5_kindGoes
set_option maxRecDepth 20000 in
theorem ggX4_targetOf_X5_kindCould : GoodIn wsX4_targetOf wsX5_kindCould := goodIn_r _ [43, 44, 39, 40, 36, 41] (by decide +kernel) (by decide +kernel)
set_option maxRecDepth 20000 in
theorem gX4_targetOf_X5_kindCould_n86 : GoodIn wsX4_targetOf (wsX5_kindCould) := ggX4_targetOf_X5_kindCould
set_option maxRecDepth 20000 in
theorem ggX4_targetOf_X4_isEmptyHole : GoodIn wsX4_targetOf wsX4_isEmptyHole := goodIn_r _ [48, 1, 49, 28, 29, 20, 21, 16, 22, 23, 40, 36, 41, 50, 51, 52, 53, 54, 55, 56, 57, 58, 59, 60, 61] (by decide +kernel) (by decide +kernel)
set_option maxRecDepth 20000 in
theorem gX4_targetOf_X4_isEmptyHole : GoodIn wsX4_targetOf (wsV RX4 89 RX4 yX4_isEmptyHole wsX4_isEmptyHole) := goodIn_app (goodIn_of _ (by decide +kernel)) ggX4_targetOf_X4_isEmptyHole
theorem dX4_targetOf_0 : decode cX4_targetOf 0 = .ok (.aload_n 0, 1) := by decide +kernel
theorem dX4_targetOf_1 : decode cX4_targetOf 1 = .ok (.getfield 21, 3) := by decide +kernel
theorem dX4_targetOf_4 : decode cX4_targetOf 4 = .ok (.aload_n 0, 1) := by decide +kernel
theorem dX4_targetOf_5 : decode cX4_targetOf 5 = .ok (.iload_n 1, 1) := by decide +kernel
theorem dX4_targetOf_6 : decode cX4_targetOf 6 = .ok (.invokevirtual 70, 3) := by decide +kernel
theorem dX4_targetOf_9 : decode cX4_targetOf 9 = .ok (.iload_n 2, 1) := by decide +kernel
theorem dX4_targetOf_10 : decode cX4_targetOf 10 = .ok (.invokevirtual 73, 3) := by decide +kernel
theorem dX4_targetOf_13 : decode cX4_targetOf 13 = .ok (.istore_n 3, 1) := by decide +kernel
theorem dX4_targetOf_14 : decode cX4_targetOf 14 = .ok (.aload_n 0, 1) := by decide +kernel
theorem dX4_targetOf_15 : decode cX4_targetOf 15 = .ok (.iload_n 3, 1) := by decide +kernel
theorem dX4_targetOf_16 : decode cX4_targetOf 16 = .ok (.invokevirtual 77, 3) := by decide +kernel
theorem dX4_targetOf_19 : decode cX4_targetOf 19 = .ok (.istore 4, 2) := by decide +kernel
theorem dX4_targetOf_21 : decode cX4_targetOf 21 = .ok (.iload 4, 2) := by decide +kernel
theorem dX4_targetOf_23 : decode cX4_targetOf 23 = .ok (.iconst (-1), 1) := by decide +kernel
theorem dX4_targetOf_24 : decode cX4_targetOf 24 = .ok (.if_icmp .eq 28, 3) := by decide +kernel
theorem dX4_targetOf_27 : decode cX4_targetOf 27 = .ok (.aload_n 0, 1) := by decide +kernel
theorem dX4_targetOf_28 : decode cX4_targetOf 28 = .ok (.iload_n 1, 1) := by decide +kernel
theorem dX4_targetOf_29 : decode cX4_targetOf 29 = .ok (.invokevirtual 80, 3) := by decide +kernel
theorem dX4_targetOf_32 : decode cX4_targetOf 32 = .ok (.iload_n 2, 1) := by decide +kernel
theorem dX4_targetOf_33 : decode cX4_targetOf 33 = .ok (.invokestatic 83, 3) := by decide +kernel
theorem dX4_targetOf_36 : decode cX4_targetOf 36 = .ok (.ifCond .eq 16, 3) := by decide +kernel
theorem dX4_targetOf_39 : decode cX4_targetOf 39 = .ok (.aload_n 0, 1) := by decide +kernel
theorem dX4_targetOf_40 : decode cX4_targetOf 40 = .ok (.iload 4, 2) := by decide +kernel
theorem dX4_targetOf_42 : decode cX4_targetOf 42 = .ok (.invokevirtual 80, 3) := by decide +kernel
theorem dX4_targetOf_45 : decode cX4_targetOf 45 = .ok (.iconst 2, 1) := by decide +kernel
theorem dX4_targetOf_46 : decode cX4_targetOf 46 = .ok (.invokestatic 86, 3) := by decide +kernel
theorem dX4_targetOf_49 : decode cX4_targetOf 49 = .ok (.ifCond .ne 5, 3) := by decide +kernel
theorem dX4_targetOf_52 : decode cX4_targetOf 52 = .ok (.iconst (-1), 1) := by decide +kernel
theorem dX4_targetOf_53 : decode cX4_targetOf 53 = .ok (.ireturn, 1) := by decide +kernel
theorem dX4_targetOf_54 : decode cX4_targetOf 54 = .ok (.aload_n 0, 1) := by decide +kernel
theorem dX4_targetOf_55 : decode cX4_targetOf 55 = .ok (.getfield 21, 3) := by decide +kernel
theorem dX4_targetOf_58 : decode cX4_targetOf 58 = .ok (.iload_n 3, 1) := by decide +kernel
theorem dX4_targetOf_59 : decode cX4_targetOf 59 = .ok (.iload_n 2, 1) := by decide +kernel
theorem dX4_targetOf_60 : decode cX4_targetOf 60 = .ok (.invokevirtual 73, 3) := by decide +kernel
theorem dX4_targetOf_63 : decode cX4_targetOf 63 = .ok (.istore 5, 2) := by decide +kernel
theorem dX4_targetOf_65 : decode cX4_targetOf 65 = .ok (.aload_n 0, 1) := by decide +kernel
theorem dX4_targetOf_66 : decode cX4_targetOf 66 = .ok (.iload 5, 2) := by decide +kernel
theorem dX4_targetOf_68 : decode cX4_targetOf 68 = .ok (.invokevirtual 89, 3) := by decide +kernel
theorem dX4_targetOf_71 : decode cX4_targetOf 71 = .ok (.ifCond .eq 8, 3) := by decide +kernel
theorem dX4_targetOf_74 : decode cX4_targetOf 74 = .ok (.iload 5, 2) := by decide +kernel
theorem dX4_targetOf_76 : decode cX4_targetOf 76 = .ok (.goto 4, 3) := by decide +kernel
theorem dX4_targetOf_79 : decode cX4_targetOf 79 = .ok (.iconst (-1), 1) := by decide +kernel
theorem dX4_targetOf_80 : decode cX4_targetOf 80 = .ok (.ireturn, 1) := by decide +kernel
set_option maxRecDepth 20000 in
theorem ggX4_targetsOf_X4_targetOf : GoodIn wsX4_targetsOf wsX4_targetOf := goodIn_r _ [5, 6, 7, 8, 9, 4, 10, 11, 12, 13, 14, 15, 16, 17, 18, 19, 20, 21, 22, 23, 24, 25, 26, 27, 28, 29, 30, 31, 32, 33, 34, 35, 36, 37, 38, 39, 40, 41, 42, 43, 44, 45, 46, 47, 48, 49, 50, 51, 52, 53, 54, 55, 56, 57, 58, 59, 60, 61, 62, 63, 64, 65] (by decide +kernel) (by decide +kernel)
set_option maxRecDepth 20000 in
theorem gX4_targetsOf_X4_targetOf : GoodIn wsX4_targetsOf (wsV RX4 92 RX4 yX4_targetOf wsX4_targetOf) := goodIn_app (goodIn_of _ (by decide +kernel)) ggX4_targetsOf_X4_targetOf
theorem dX4_targetsOf_0 : decode cX4_targetsOf 0 = .ok (.iconst 0, 1) := by decide +kernel
theorem dX4_targetsOf_1 : decode cX4_targetsOf 1 = .ok (.istore_n 2, 1) := by decide +kernel
theorem dX4_targetsOf_2 : decode cX4_targetsOf 2 = .ok (.iconst 0, 1) := by decide +kernel
theorem dX4_targetsOf_3 : decode cX4_targetsOf 3 = .ok (.istore_n 3, 1) := by decide +kernel
theorem dX4_targetsOf_4 : decode cX4_targetsOf 4 = .ok (.iload_n 3, 1) := by decide +kernel
theorem dX4_targetsOf_5 : decode cX4_targetsOf 5 = .ok (.bipush 8, 2) := by decide +kernel
theorem dX4_targetsOf_7 : decode cX4_targetsOf 7 = .ok (.if_icmp .ge 30, 3) := by decide +kernel
theorem dX4_targetsOf_10 : decode cX4_targetsOf 10 = .ok (.aload_n 0, 1) := by decide +kernel
theorem dX4_targetsOf_11 : decode cX4_targetsOf 11 = .ok (.iload_n 1, 1) := by decide +kernel
theorem dX4_targetsOf_12 : decode cX4_targetsOf 12 = .ok (.iload_n 3, 1) := by decide +kernel
theorem dX4_targetsOf_13 : decode cX4_targetsOf 13 = .ok (.invokevirtual 92, 3) := by decide +kernel
theorem dX4_targetsOf_16 : decode cX4_targetsOf 16 = .ok (.istore 4, 2) := by decide +kernel
theorem dX4_targetsOf_18 : decode cX4_targetsOf 18 = .ok (.iload 4, 2) := by decide +kernel
theorem dX4_targetsOf_20 : decode cX4_targetsOf 20 = .ok (.iconst (-1), 1) := by decide +kernel
theorem dX4_targetsOf_21 : decode cX4_targetsOf 21 = .ok (.if_icmp .eq 10, 3) := by decide +kernel
theorem dX4_targetsOf_24 : decode cX4_targetsOf 24 = .ok (.iload_n 2, 1) := by decide +kernel
theorem dX4_targetsOf_25 : decode cX4_targetsOf 25 = .ok (.iconst 1, 1) := by decide +kernel
theorem dX4_targetsOf_26 : decode cX4_targetsOf 26 = .ok (.iload 4, 2) := by decide +kernel
theorem dX4_targetsOf_28 : decode cX4_targetsOf 28 = .ok (.ishl, 1) := by decide +kernel
theorem dX4_targetsOf_29 : decode cX4_targetsOf 29 = .ok (.ior, 1) := by decide +kernel
theorem dX4_targetsOf_30 : decode cX4_targetsOf 30 = .ok (.istore_n 2, 1) := by decide +kernel
theorem dX4_targetsOf_31 : decode cX4_targetsOf 31 = .ok (.iinc 3 1, 3) := by decide +kernel
theorem dX4_targetsOf_34 : decode cX4_targetsOf 34 = .ok (.goto (-30), 3) := by decide +kernel
theorem dX4_targetsOf_37 : decode cX4_targetsOf 37 = .ok (.iload_n 2, 1) := by decide +kernel
theorem dX4_targetsOf_38 : decode cX4_targetsOf 38 = .ok (.ireturn, 1) := by decide +kernel
set_option maxRecDepth 20000 in
theorem ggX4_directionTo_X4_targetOf : GoodIn wsX4_directionTo wsX4_targetOf := goodIn_r _ [5, 6, 7, 8, 9, 4, 10, 11, 12, 13, 14, 15, 16, 17, 18, 19, 20, 21, 22, 23, 24, 25, 26, 27, 28, 29, 30, 31, 32, 33, 34, 35, 36, 37, 38, 39, 40, 41, 42, 43, 44, 45, 46, 47, 48, 49, 50, 51, 52, 53, 54, 55, 56, 57, 58, 59, 60, 61, 62, 63, 64, 65] (by decide +kernel) (by decide +kernel)
set_option maxRecDepth 20000 in
theorem gX4_directionTo_X4_targetOf : GoodIn wsX4_directionTo (wsV RX4 92 RX4 yX4_targetOf wsX4_targetOf) := goodIn_app (goodIn_of _ (by decide +kernel)) ggX4_directionTo_X4_targetOf
theorem dX4_directionTo_0 : decode cX4_directionTo 0 = .ok (.iconst 0, 1) := by decide +kernel
theorem dX4_directionTo_1 : decode cX4_directionTo 1 = .ok (.istore_n 3, 1) := by decide +kernel
theorem dX4_directionTo_2 : decode cX4_directionTo 2 = .ok (.iload_n 3, 1) := by decide +kernel
theorem dX4_directionTo_3 : decode cX4_directionTo 3 = .ok (.bipush 8, 2) := by decide +kernel
theorem dX4_directionTo_5 : decode cX4_directionTo 5 = .ok (.if_icmp .ge 26, 3) := by decide +kernel
theorem dX4_directionTo_8 : decode cX4_directionTo 8 = .ok (.iload_n 2, 1) := by decide +kernel
theorem dX4_directionTo_9 : decode cX4_directionTo 9 = .ok (.iconst (-1), 1) := by decide +kernel
theorem dX4_directionTo_10 : decode cX4_directionTo 10 = .ok (.if_icmp .eq 15, 3) := by decide +kernel
theorem dX4_directionTo_13 : decode cX4_directionTo 13 = .ok (.aload_n 0, 1) := by decide +kernel
theorem dX4_directionTo_14 : decode cX4_directionTo 14 = .ok (.iload_n 1, 1) := by decide +kernel
theorem dX4_directionTo_15 : decode cX4_directionTo 15 = .ok (.iload_n 3, 1) := by decide +kernel
theorem dX4_directionTo_16 : decode cX4_directionTo 16 = .ok (.invokevirtual 92, 3) := by decide +kernel
theorem dX4_directionTo_19 : decode cX4_directionTo 19 = .ok (.iload_n 2, 1) := by decide +kernel
theorem dX4_directionTo_20 : decode cX4_directionTo 20 = .ok (.if_icmp .ne 5, 3) := by decide +kernel
theorem dX4_directionTo_23 : decode cX4_directionTo 23 = .ok (.iload_n 3, 1) := by decide +kernel
theorem dX4_directionTo_24 : decode cX4_directionTo 24 = .ok (.ireturn, 1) := by decide +kernel
theorem dX4_directionTo_25 : decode cX4_directionTo 25 = .ok (.iinc 3 1, 3) := by decide +kernel
theorem dX4_directionTo_28 : decode cX4_directionTo 28 = .ok (.goto (-26), 3) := by decide +kernel
theorem dX4_directionTo_31 : decode cX4_directionTo 31 = .ok (.iconst (-1), 1) := by decide +kernel
theorem dX4_directionTo_32 : decode cX4_directionTo 32 = .ok (.ireturn, 1) := by decide +kernel
set_option maxRecDepth 20000 in
theorem ggX4_choices_X4_targetsOf : GoodIn wsX4_choices wsX4_targetsOf := goodIn_r _ [6, 7, 8, 9, 5, 10, 11, 12, 13, 14, 15, 16, 17, 18, 19, 20, 1, 21, 22, 23, 24, 25, 26, 27, 28, 29, 30, 31, 32, 33, 34, 35, 36, 37, 38, 39, 40, 41, 42, 43, 44, 45, 46, 47, 48, 49, 50, 51, 52, 53, 54, 55, 56, 57, 65, 66, 67, 68, 69, 70, 71, 72, 73, 74, 75, 76] (by decide +kernel) (by decide +kernel)
set_option maxRecDepth 20000 in
theorem gX4_choices_X4_targetsOf : GoodIn wsX4_choices (wsV RX4 95 RX4 yX4_targetsOf wsX4_targetsOf) := goodIn_app (goodIn_of _ (by decide +kernel)) ggX4_choices_X4_targetsOf
set_option maxRecDepth 20000 in
theorem ggX4_choices_J6_bitCount_0f7a4 : GoodIn wsX4_choices wsJ6_bitCount_0f7a4 := goodIn_r _ [61, 62, 63, 64] (by decide +kernel) (by decide +kernel)
set_option maxRecDepth 20000 in
theorem gX4_choices_J6_bitCount_0f7a4 : GoodIn wsX4_choices (va_wsS RX4 98 yJ6_bitCount_0f7a4 wsJ6_bitCount_0f7a4) := goodIn_app (goodIn_of _ (by decide +kernel)) ggX4_choices_J6_bitCount_0f7a4
theorem dX4_choices_0 : decode cX4_choices 0 = .ok (.iconst 0, 1) := by decide +kernel
theorem dX4_choices_1 : decode cX4_choices 1 = .ok (.istore_n 1, 1) := by decide +kernel
theorem dX4_choices_2 : decode cX4_choices 2 = .ok (.iconst 0, 1) := by decide +kernel
theorem dX4_choices_3 : decode cX4_choices 3 = .ok (.istore_n 2, 1) := by decide +kernel
theorem dX4_choices_4 : decode cX4_choices 4 = .ok (.iload_n 2, 1) := by decide +kernel
theorem dX4_choices_5 : decode cX4_choices 5 = .ok (.aload_n 0, 1) := by decide +kernel
theorem dX4_choices_6 : decode cX4_choices 6 = .ok (.getfield 29, 3) := by decide +kernel
theorem dX4_choices_9 : decode cX4_choices 9 = .ok (.if_icmp .ge 20, 3) := by decide +kernel
theorem dX4_choices_12 : decode cX4_choices 12 = .ok (.iload_n 1, 1) := by decide +kernel
theorem dX4_choices_13 : decode cX4_choices 13 = .ok (.aload_n 0, 1) := by decide +kernel
theorem dX4_choices_14 : decode cX4_choices 14 = .ok (.iload_n 2, 1) := by decide +kernel
theorem dX4_choices_15 : decode cX4_choices 15 = .ok (.invokevirtual 95, 3) := by decide +kernel
theorem dX4_choices_18 : decode cX4_choices 18 = .ok (.invokestatic 98, 3) := by decide +kernel
theorem dX4_choices_21 : decode cX4_choices 21 = .ok (.iadd, 1) := by decide +kernel
theorem dX4_choices_22 : decode cX4_choices 22 = .ok (.istore_n 1, 1) := by decide +kernel
theorem dX4_choices_23 : decode cX4_choices 23 = .ok (.iinc 2 1, 3) := by decide +kernel
theorem dX4_choices_26 : decode cX4_choices 26 = .ok (.goto (-22), 3) := by decide +kernel
theorem dX4_choices_29 : decode cX4_choices 29 = .ok (.iload_n 1, 1) := by decide +kernel
theorem dX4_choices_30 : decode cX4_choices 30 = .ok (.ireturn, 1) := by decide +kernel
set_option maxRecDepth 20000 in
theorem ggX4_leapByChoice_X4_targetOf : GoodIn wsX4_leapByChoice wsX4_targetOf := goodIn_r _ [6, 7, 8, 9, 10, 5, 11, 12, 13, 14, 15, 16, 1, 17, 18, 19, 20, 21, 22, 23, 24, 25, 26, 27, 28, 29, 30, 31, 32, 33, 34, 35, 36, 37, 38, 39, 40, 41, 42, 43, 44, 45, 46, 47, 48, 49, 50, 51, 52, 53, 71, 72, 73, 74, 75, 76, 77, 78, 79, 80, 81, 82] (by decide +kernel) (by decide +kernel)
set_option maxRecDepth 20000 in
theorem gX4_leapByChoice_X4_targetOf : GoodIn wsX4_leapByChoice (wsV RX4 92 RX4 yX4_targetOf wsX4_targetOf) := goodIn_app (goodIn_of _ (by decide +kernel)) ggX4_leapByChoice_X4_targetOf
set_option maxRecDepth 20000 in
theorem ggX4_leapByChoice_X4_neighbourOf : GoodIn wsX4_leapByChoice wsX4_neighbourOf := goodIn_r _ [57, 7, 8, 9, 10, 5, 11, 12, 13, 14, 15, 16, 1, 17, 18, 19, 20, 21, 22, 23, 24, 25, 26, 27, 28, 29, 30, 31, 32, 33, 71, 72, 73, 74, 75, 76, 77, 78, 79, 80, 81, 82] (by decide +kernel) (by decide +kernel)
set_option maxRecDepth 20000 in
theorem gX4_leapByChoice_X4_neighbourOf : GoodIn wsX4_leapByChoice (wsV RX4 103 RX4 yX4_neighbourOf wsX4_neighbourOf) := goodIn_app (goodIn_of _ (by decide +kernel)) ggX4_leapByChoice_X4_neighbourOf
set_option maxRecDepth 20000 in
theorem ggX4_leapByChoice_X4_leap : GoodIn wsX4_leapByChoice wsX4_leap := goodIn_r _ [61, 62, 63, 64, 5, 65, 7, 12, 32, 66, 13, 14, 15, 16, 1, 33, 24, 25, 20, 26, 27, 34, 35, 36, 37, 38, 46, 40, 47, 48, 43, 44, 45, 67, 68, 69, 70, 71, 72, 73, 74, 75, 76, 77, 78, 79, 80, 81, 82] (by decide +kernel) (by decide +kernel)
set_option maxRecDepth 20000 in
theorem gX4_leapByChoice_X4_leap : GoodIn wsX4_leapByChoice (wsV RX4 106 RX4 yX4_leap wsX4_leap) := goodIn_app (goodIn_of _ (by decide +kernel)) ggX4_leapByChoice_X4_leap
theorem dX4_leapByChoice_0 : decode cX4_leapByChoice 0 = .ok (.iload_n 1, 1) := by decide +kernel
theorem dX4_leapByChoice_1 : decode cX4_leapByChoice 1 = .ok (.istore_n 2, 1) := by decide +kernel
theorem dX4_leapByChoice_2 : decode cX4_leapByChoice 2 = .ok (.iconst 0, 1) := by decide +kernel
theorem dX4_leapByChoice_3 : decode cX4_leapByChoice 3 = .ok (.istore_n 3, 1) := by decide +kernel
theorem dX4_leapByChoice_4 : decode cX4_leapByChoice 4 = .ok (.iload_n 3, 1) := by decide +kernel
theorem dX4_leapByChoice_5 : decode cX4_leapByChoice 5 = .ok (.aload_n 0, 1) := by decide +kernel
theorem dX4_leapByChoice_6 : decode cX4_leapByChoice 6 = .ok (.getfield 29, 3) := by decide +kernel
theorem dX4_leapByChoice_9 : decode cX4_leapByChoice 9 = .ok (.if_icmp .ge 68, 3) := by decide +kernel
theorem dX4_leapByChoice_12 : decode cX4_leapByChoice 12 = .ok (.iconst 0, 1) := by decide +kernel
theorem dX4_leapByChoice_13 : decode cX4_leapByChoice 13 = .ok (.istore 4, 2) := by decide +kernel
theorem dX4_leapByChoice_15 : decode cX4_leapByChoice 15 = .ok (.iload 4, 2) := by decide +kernel
theorem dX4_leapByChoice_17 : decode cX4_leapByChoice 17 = .ok (.bipush 8, 2) := by decide +kernel
theorem dX4_leapByChoice_19 : decode cX4_leapByChoice 19 = .ok (.if_icmp .ge 52, 3) := by decide +kernel
theorem dX4_leapByChoice_22 : decode cX4_leapByChoice 22 = .ok (.aload_n 0, 1) := by decide +kernel
theorem dX4_leapByChoice_23 : decode cX4_leapByChoice 23 = .ok (.iload_n 3, 1) := by decide +kernel
theorem dX4_leapByChoice_24 : decode cX4_leapByChoice 24 = .ok (.iload 4, 2) := by decide +kernel
theorem dX4_leapByChoice_26 : decode cX4_leapByChoice 26 = .ok (.invokevirtual 92, 3) := by decide +kernel
theorem dX4_leapByChoice_29 : decode cX4_leapByChoice 29 = .ok (.istore 5, 2) := by decide +kernel
theorem dX4_leapByChoice_31 : decode cX4_leapByChoice 31 = .ok (.iload 5, 2) := by decide +kernel
theorem dX4_leapByChoice_33 : decode cX4_leapByChoice 33 = .ok (.iconst (-1), 1) := by decide +kernel
theorem dX4_leapByChoice_34 : decode cX4_leapByChoice 34 = .ok (.if_icmp .eq 22, 3) := by decide +kernel
theorem dX4_leapByChoice_37 : decode cX4_leapByChoice 37 = .ok (.iload_n 2, 1) := by decide +kernel
theorem dX4_leapByChoice_38 : decode cX4_leapByChoice 38 = .ok (.ifCond .ne 18, 3) := by decide +kernel
theorem dX4_leapByChoice_41 : decode cX4_leapByChoice 41 = .ok (.aload_n 0, 1) := by decide +kernel
theorem dX4_leapByChoice_42 : decode cX4_leapByChoice 42 = .ok (.iload_n 3, 1) := by decide +kernel
theorem dX4_leapByChoice_43 : decode cX4_leapByChoice 43 = .ok (.aload_n 0, 1) := by decide +kernel
theorem dX4_leapByChoice_44 : decode cX4_leapByChoice 44 = .ok (.iload_n 3, 1) := by decide +kernel
theorem dX4_leapByChoice_45 : decode cX4_leapByChoice 45 = .ok (.iload 4, 2) := by decide +kernel
theorem dX4_leapByChoice_47 : decode cX4_leapByChoice 47 = .ok (.invokevirtual 103, 3) := by decide +kernel
theorem dX4_leapByChoice_50 : decode cX4_leapByChoice 50 = .ok (.iload 5, 2) := by decide +kernel
theorem dX4_leapByChoice_52 : decode cX4_leapByChoice 52 = .ok (.invokevirtual 106, 3) := by decide +kernel
theorem dX4_leapByChoice_55 : decode cX4_leapByChoice 55 = .ok (.return_, 1) := by decide +kernel
theorem dX4_leapByChoice_56 : decode cX4_leapByChoice 56 = .ok (.iload 5, 2) := by decide +kernel
theorem dX4_leapByChoice_58 : decode cX4_leapByChoice 58 = .ok (.iconst (-1), 1) := by decide +kernel
theorem dX4_leapByChoice_59 : decode cX4_leapByChoice 59 = .ok (.if_icmp .eq 6, 3) := by decide +kernel
theorem dX4_leapByChoice_62 : decode cX4_leapByChoice 62 = .ok (.iinc 2 (-1), 3) := by decide +kernel
theorem dX4_leapByChoice_65 : decode cX4_leapByChoice 65 = .ok (.iinc 4 1, 3) := by decide +kernel
theorem dX4_leapByChoice_68 : decode cX4_leapByChoice 68 = .ok (.goto (-53), 3) := by decide +kernel
theorem dX4_leapByChoice_71 : decode cX4_leapByChoice 71 = .ok (.iinc 3 1, 3) := by decide +kernel
theorem dX4_leapByChoice_74 : decode cX4_leapByChoice 74 = .ok (.goto (-70), 3) := by decide +kernel
theorem dX4_leapByChoice_77 : decode cX4_leapByChoice 77 = .ok (.return_, 1) := by decide +kernel
set_option maxRecDepth 20000 in
theorem ggX4_leap_X4_lift : GoodIn wsX4_leap wsX4_lift := goodIn_r _ [5, 6, 7, 8, 9, 10, 11, 12, 4, 13, 14, 15, 16, 17, 18, 19, 20, 37, 38, 39, 40, 41, 42, 43, 44, 45, 46, 47, 48] (by decide +kernel) (by decide +kernel)
set_option maxRecDepth 20000 in
theorem gX4_leap_X4_lift : GoodIn wsX4_leap (wsV RX4 110 RX4 yX4_lift wsX4_lift) := goodIn_app (goodIn_of _ (by decide +kernel)) ggX4_leap_X4_lift
set_option maxRecDepth 20000 in
theorem ggX4_leap_X4_kindOf : GoodIn wsX4_leap wsX4_kindOf := goodIn_r _ [24, 25, 10, 11, 12, 4, 13, 14, 37, 38, 39, 40, 41, 42, 43, 44] (by decide +kernel) (by decide +kernel)
set_option maxRecDepth 20000 in
theorem gX4_leap_X4_kindOf : GoodIn wsX4_leap (wsV RX4 80 RX4 yX4_kindOf wsX4_kindOf) := goodIn_app (goodIn_of _ (by decide +kernel)) ggX4_leap_X4_kindOf
set_option maxRecDepth 20000 in
theorem ggX4_leap_X5_kindCould : GoodIn wsX4_leap wsX5_kindCould := goodIn_r _ [28, 29, 30, 31, 27, 32] (by decide +kernel) (by decide +kernel)
set_option maxRecDepth 20000 in
theorem gX4_leap_X5_kindCould_n86 : GoodIn wsX4_leap (wsX5_kindCould) := ggX4_leap_X5_kindCould
set_option maxRecDepth 20000 in
theorem ggX4_leap_X4_set : GoodIn wsX4_leap wsX4_set := goodIn_r _ [36, 6, 7, 8, 9, 10, 11, 12, 4, 13, 14, 15, 16, 17, 18, 19, 20, 37, 38, 39, 40, 41, 42, 43, 44, 45, 46, 47, 48] (by decide +kernel) (by decide +kernel)
set_option maxRecDepth 20000 in
theorem gX4_leap_X4_set : GoodIn wsX4_leap (wsV RX4 56 RX4 yX4_set wsX4_set) := goodIn_app (goodIn_of _ (by decide +kernel)) ggX4_leap_X4_set
theorem dX4_leap_0 : decode cX4_leap 0 = .ok (.aload_n 0, 1) := by decide +kernel
theorem dX4_leap_1 : decode cX4_leap 1 = .ok (.iload_n 2, 1) := by decide +kernel
theorem dX4_leap_2 : decode cX4_leap 2 = .ok (.invokevirtual 110, 3) := by decide +kernel
theorem dX4_leap_5 : decode cX4_leap 5 = .ok (.aload_n 0, 1) := by decide +kernel
theorem dX4_leap_6 : decode cX4_leap 6 = .ok (.iload_n 1, 1) := by decide +kernel
theorem dX4_leap_7 : decode cX4_leap 7 = .ok (.invokevirtual 110, 3) := by decide +kernel
theorem dX4_leap_10 : decode cX4_leap 10 = .ok (.aload_n 0, 1) := by decide +kernel
theorem dX4_leap_11 : decode cX4_leap 11 = .ok (.iload_n 1, 1) := by decide +kernel
theorem dX4_leap_12 : decode cX4_leap 12 = .ok (.invokevirtual 80, 3) := by decide +kernel
theorem dX4_leap_15 : decode cX4_leap 15 = .ok (.iconst 3, 1) := by decide +kernel
theorem dX4_leap_16 : decode cX4_leap 16 = .ok (.invokestatic 86, 3) := by decide +kernel
theorem dX4_leap_19 : decode cX4_leap 19 = .ok (.ifCond .eq 9, 3) := by decide +kernel
theorem dX4_leap_22 : decode cX4_leap 22 = .ok (.aload_n 0, 1) := by decide +kernel
theorem dX4_leap_23 : decode cX4_leap 23 = .ok (.iload_n 1, 1) := by decide +kernel
theorem dX4_leap_24 : decode cX4_leap 24 = .ok (.iload_n 3, 1) := by decide +kernel
theorem dX4_leap_25 : decode cX4_leap 25 = .ok (.invokevirtual 56, 3) := by decide +kernel
theorem dX4_leap_28 : decode cX4_leap 28 = .ok (.return_, 1) := by decide +kernel
set_option maxRecDepth 20000 in
theorem ggX4_takeBack_X4_lift : GoodIn wsX4_takeBack wsX4_lift := goodIn_r _ [6, 1, 7, 8, 9, 10, 11, 12, 5, 13, 14, 15, 16, 17, 18, 19, 20, 31, 32, 33, 34, 35, 36, 37, 38, 39, 40, 41, 42] (by decide +kernel) (by decide +kernel)
set_option maxRecDepth 20000 in
theorem gX4_takeBack_X4_lift : GoodIn wsX4_takeBack (wsV RX4 110 RX4 yX4_lift wsX4_lift) := goodIn_app (goodIn_of _ (by decide +kernel)) ggX4_takeBack_X4_lift
set_option maxRecDepth 20000 in
theorem ggX4_takeBack_X4_set : GoodIn wsX4_takeBack wsX4_set := goodIn_r _ [24, 1, 7, 8, 9, 10, 11, 12, 5, 13, 14, 15, 16, 17, 18, 19, 20, 31, 32, 33, 34, 35, 36, 37, 38, 39, 40, 41, 42] (by decide +kernel) (by decide +kernel)
set_option maxRecDepth 20000 in
theorem gX4_takeBack_X4_set : GoodIn wsX4_takeBack (wsV RX4 56 RX4 yX4_set wsX4_set) := goodIn_app (goodIn_of _ (by decide +kernel)) ggX4_takeBack_X4_set
set_option maxRecDepth 20000 in
theorem ggX4_takeBack_X0_next : GoodIn wsX4_takeBack wsX0_next := goodIn_r _ [28, 29, 30, 16, 17, 18, 19, 20, 39, 40, 41, 42] (by decide +kernel) (by decide +kernel)
set_option maxRecDepth 20000 in
theorem gX4_takeBack_X0_next : GoodIn wsX4_takeBack (wsV RX4 73 RX0 yX0_next wsX0_next) := goodIn_app (goodIn_of _ (by decide +kernel)) ggX4_takeBack_X0_next
theorem dX4_takeBack_0 : decode cX4_takeBack 0 = .ok (.aload_n 0, 1) := by decide +kernel
theorem dX4_takeBack_1 : decode cX4_takeBack 1 = .ok (.iload_n 1, 1) := by decide +kernel
theorem dX4_takeBack_2 : decode cX4_takeBack 2 = .ok (.invokevirtual 110, 3) := by decide +kernel
theorem dX4_takeBack_5 : decode cX4_takeBack 5 = .ok (.aload_n 0, 1) := by decide +kernel
theorem dX4_takeBack_6 : decode cX4_takeBack 6 = .ok (.iload_n 1, 1) := by decide +kernel
theorem dX4_takeBack_7 : decode cX4_takeBack 7 = .ok (.iload_n 2, 1) := by decide +kernel
theorem dX4_takeBack_8 : decode cX4_takeBack 8 = .ok (.invokevirtual 56, 3) := by decide +kernel
theorem dX4_takeBack_11 : decode cX4_takeBack 11 = .ok (.aload_n 0, 1) := by decide +kernel
theorem dX4_takeBack_12 : decode cX4_takeBack 12 = .ok (.iload_n 3, 1) := by decide +kernel
theorem dX4_takeBack_13 : decode cX4_takeBack 13 = .ok (.aload_n 0, 1) := by decide +kernel
theorem dX4_takeBack_14 : decode cX4_takeBack 14 = .ok (.getfield 21, 3) := by decide +kernel
theorem dX4_takeBack_17 : decode cX4_takeBack 17 = .ok (.iload_n 2, 1) := by decide +kernel
theorem dX4_takeBack_18 : decode cX4_takeBack 18 = .ok (.iload 4, 2) := by decide +kernel
theorem dX4_takeBack_20 : decode cX4_takeBack 20 = .ok (.invokevirtual 73, 3) := by decide +kernel
theorem dX4_takeBack_23 : decode cX4_takeBack 23 = .ok (.invokevirtual 56, 3) := by decide +kernel
theorem dX4_takeBack_26 : decode cX4_takeBack 26 = .ok (.return_, 1) := by decide +kernel
set_option maxRecDepth 20000 in
theorem ggX4_aloneBit_X4_homeOf : GoodIn wsX4_aloneBit wsX4_homeOf := goodIn_r _ [7, 8, 9, 10, 11, 6, 12, 2, 13, 14, 15, 16, 17, 18, 19, 20] (by decide +kernel) (by decide +kernel)
set_option maxRecDepth 20000 in
theorem gX4_aloneBit_X4_homeOf : GoodIn wsX4_aloneBit (wsV RX4 70 RX4 yX4_homeOf wsX4_homeOf) := goodIn_app (goodIn_of _ (by decide +kernel)) ggX4_aloneBit_X4_homeOf
theorem dX4_aloneBit_0 : decode cX4_aloneBit 0 = .ok (.aload_n 0, 1) := by decide +kernel
theorem dX4_aloneBit_1 : decode cX4_aloneBit 1 = .ok (.getfield 32, 3) := by decide +kernel
theorem dX4_aloneBit_4 : decode cX4_aloneBit 4 = .ok (.iconst 1, 1) := by decide +kernel
theorem dX4_aloneBit_5 : decode cX4_aloneBit 5 = .ok (.if_icmp .eq 5, 3) := by decide +kernel
theorem dX4_aloneBit_8 : decode cX4_aloneBit 8 = .ok (.iconst 0, 1) := by decide +kernel
theorem dX4_aloneBit_9 : decode cX4_aloneBit 9 = .ok (.ireturn, 1) := by decide +kernel
theorem dX4_aloneBit_10 : decode cX4_aloneBit 10 = .ok (.iconst 0, 1) := by decide +kernel
theorem dX4_aloneBit_11 : decode cX4_aloneBit 11 = .ok (.istore_n 1, 1) := by decide +kernel
theorem dX4_aloneBit_12 : decode cX4_aloneBit 12 = .ok (.iconst 0, 1) := by decide +kernel
theorem dX4_aloneBit_13 : decode cX4_aloneBit 13 = .ok (.istore_n 2, 1) := by decide +kernel
theorem dX4_aloneBit_14 : decode cX4_aloneBit 14 = .ok (.iload_n 2, 1) := by decide +kernel
theorem dX4_aloneBit_15 : decode cX4_aloneBit 15 = .ok (.aload_n 0, 1) := by decide +kernel
theorem dX4_aloneBit_16 : decode cX4_aloneBit 16 = .ok (.getfield 29, 3) := by decide +kernel
theorem dX4_aloneBit_19 : decode cX4_aloneBit 19 = .ok (.if_icmp .ge 24, 3) := by decide +kernel
theorem dX4_aloneBit_22 : decode cX4_aloneBit 22 = .ok (.aload_n 0, 1) := by decide +kernel
theorem dX4_aloneBit_23 : decode cX4_aloneBit 23 = .ok (.iload_n 2, 1) := by decide +kernel
theorem dX4_aloneBit_24 : decode cX4_aloneBit 24 = .ok (.invokevirtual 70, 3) := by decide +kernel
theorem dX4_aloneBit_27 : decode cX4_aloneBit 27 = .ok (.istore_n 3, 1) := by decide +kernel
theorem dX4_aloneBit_28 : decode cX4_aloneBit 28 = .ok (.iload_n 3, 1) := by decide +kernel
theorem dX4_aloneBit_29 : decode cX4_aloneBit 29 = .ok (.iconst (-1), 1) := by decide +kernel
theorem dX4_aloneBit_30 : decode cX4_aloneBit 30 = .ok (.if_icmp .eq 7, 3) := by decide +kernel
theorem dX4_aloneBit_33 : decode cX4_aloneBit 33 = .ok (.iconst 1, 1) := by decide +kernel
theorem dX4_aloneBit_34 : decode cX4_aloneBit 34 = .ok (.iload_n 3, 1) := by decide +kernel
theorem dX4_aloneBit_35 : decode cX4_aloneBit 35 = .ok (.ishl, 1) := by decide +kernel
theorem dX4_aloneBit_36 : decode cX4_aloneBit 36 = .ok (.istore_n 1, 1) := by decide +kernel
theorem dX4_aloneBit_37 : decode cX4_aloneBit 37 = .ok (.iinc 2 1, 3) := by decide +kernel
theorem dX4_aloneBit_40 : decode cX4_aloneBit 40 = .ok (.goto (-26), 3) := by decide +kernel
theorem dX4_aloneBit_43 : decode cX4_aloneBit 43 = .ok (.iload_n 1, 1) := by decide +kernel
theorem dX4_aloneBit_44 : decode cX4_aloneBit 44 = .ok (.ireturn, 1) := by decide +kernel
set_option maxRecDepth 20000 in
theorem ggX5_init_X2_init : GoodIn wsX5_init wsX2_init := goodIn_r _ [29, 30, 2, 3, 31, 32, 53, 54] (by decide +kernel) (by decide +kernel)
set_option maxRecDepth 20000 in
theorem gX5_init_X2_init_n11 : GoodIn wsX5_init (wsX2_init) := ggX5_init_X2_init
set_option maxRecDepth 20000 in
theorem ggX5_init_X0_init : GoodIn wsX5_init wsX0_init := goodIn_r _ [34, 35, 2, 3, 31, 36, 68, 69, 70, 71] (by decide +kernel) (by decide +kernel)
set_option maxRecDepth 20000 in
theorem gX5_init_X0_init_n18 : GoodIn wsX5_init (wsX0_init) := ggX5_init_X0_init
set_option maxRecDepth 20000 in
theorem ggX5_init_X4_init : GoodIn wsX5_init wsX4_init := goodIn_r _ [39, 40, 2, 3, 31, 41, 42, 43, 44, 72, 73, 74, 75, 76, 77, 78, 79] (by decide +kernel) (by decide +kernel)
set_option maxRecDepth 20000 in
theorem gX5_init_X4_init : GoodIn wsX5_init (wsX4_init) := ggX5_init_X4_init
set_option maxRecDepth 20000 in
theorem ggX5_init_X3_init : GoodIn wsX5_init wsX3_init := goodIn_r _ [46, 47, 2, 3, 31, 48, 49, 80, 81, 82] (by decide +kernel) (by decide +kernel)
set_option maxRecDepth 20000 in
theorem gX5_init_X3_init_n34 : GoodIn wsX5_init (wsX3_init) := ggX5_init_X3_init
set_option maxRecDepth 20000 in
theorem ggX5_init_X1_init : GoodIn wsX5_init wsX1_init := goodIn_r _ [51, 52, 2, 3] (by decide +kernel) (by decide +kernel)
set_option maxRecDepth 20000 in
theorem gX5_init_X1_init_n50 : GoodIn wsX5_init (wsX1_init) := ggX5_init_X1_init
theorem dX5_init_0 : decode cX5_init 0 = .ok (.aload_n 0, 1) := by decide +kernel
theorem dX5_init_1 : decode cX5_init 1 = .ok (.invokespecial 3, 3) := by decide +kernel
theorem dX5_init_4 : decode cX5_init 4 = .ok (.aload_n 0, 1) := by decide +kernel
theorem dX5_init_5 : decode cX5_init 5 = .ok (.new 9, 3) := by decide +kernel
theorem dX5_init_8 : decode cX5_init 8 = .ok (.dup, 1) := by decide +kernel
theorem dX5_init_9 : decode cX5_init 9 = .ok (.invokespecial 11, 3) := by decide +kernel
theorem dX5_init_12 : decode cX5_init 12 = .ok (.putfield 12, 3) := by decide +kernel
theorem dX5_init_15 : decode cX5_init 15 = .ok (.aload_n 0, 1) := by decide +kernel
theorem dX5_init_16 : decode cX5_init 16 = .ok (.new 16, 3) := by decide +kernel
theorem dX5_init_19 : decode cX5_init 19 = .ok (.dup, 1) := by decide +kernel
theorem dX5_init_20 : decode cX5_init 20 = .ok (.invokespecial 18, 3) := by decide +kernel
theorem dX5_init_23 : decode cX5_init 23 = .ok (.putfield 19, 3) := by decide +kernel
theorem dX5_init_26 : decode cX5_init 26 = .ok (.aload_n 0, 1) := by decide +kernel
theorem dX5_init_27 : decode cX5_init 27 = .ok (.new 23, 3) := by decide +kernel
theorem dX5_init_30 : decode cX5_init 30 = .ok (.dup, 1) := by decide +kernel
theorem dX5_init_31 : decode cX5_init 31 = .ok (.aload_n 0, 1) := by decide +kernel
theorem dX5_init_32 : decode cX5_init 32 = .ok (.getfield 19, 3) := by decide +kernel
theorem dX5_init_35 : decode cX5_init 35 = .ok (.invokespecial 25, 3) := by decide +kernel
theorem dX5_init_38 : decode cX5_init 38 = .ok (.putfield 28, 3) := by decide +kernel
theorem dX5_init_41 : decode cX5_init 41 = .ok (.aload_n 0, 1) := by decide +kernel
theorem dX5_init_42 : decode cX5_init 42 = .ok (.new 32, 3) := by decide +kernel
theorem dX5_init_45 : decode cX5_init 45 = .ok (.dup, 1) := by decide +kernel
theorem dX5_init_46 : decode cX5_init 46 = .ok (.invokespecial 34, 3) := by decide +kernel
theorem dX5_init_49 : decode cX5_init 49 = .ok (.putfield 35, 3) := by decide +kernel
theorem dX5_init_52 : decode cX5_init 52 = .ok (.aload_n 0, 1) := by decide +kernel
theorem dX5_init_53 : decode cX5_init 53 = .ok (.new 23, 3) := by decide +kernel
theorem dX5_init_56 : decode cX5_init 56 = .ok (.dup, 1) := by decide +kernel
theorem dX5_init_57 : decode cX5_init 57 = .ok (.aload_n 0, 1) := by decide +kernel
theorem dX5_init_58 : decode cX5_init 58 = .ok (.getfield 19, 3) := by decide +kernel
theorem dX5_init_61 : decode cX5_init 61 = .ok (.invokespecial 25, 3) := by decide +kernel
theorem dX5_init_64 : decode cX5_init 64 = .ok (.putfield 39, 3) := by decide +kernel
theorem dX5_init_67 : decode cX5_init 67 = .ok (.aload_n 0, 1) := by decide +kernel
theorem dX5_init_68 : decode cX5_init 68 = .ok (.new 32, 3) := by decide +kernel
theorem dX5_init_71 : decode cX5_init 71 = .ok (.dup, 1) := by decide +kernel
theorem dX5_init_72 : decode cX5_init 72 = .ok (.invokespecial 34, 3) := by decide +kernel
theorem dX5_init_75 : decode cX5_init 75 = .ok (.putfield 42, 3) := by decide +kernel
theorem dX5_init_78 : decode cX5_init 78 = .ok (.aload_n 0, 1) := by decide +kernel
theorem dX5_init_79 : decode cX5_init 79 = .ok (.new 23, 3) := by decide +kernel
theorem dX5_init_82 : decode cX5_init 82 = .ok (.dup, 1) := by decide +kernel
theorem dX5_init_83 : decode cX5_init 83 = .ok (.aload_n 0, 1) := by decide +kernel
theorem dX5_init_84 : decode cX5_init 84 = .ok (.getfield 19, 3) := by decide +kernel
theorem dX5_init_87 : decode cX5_init 87 = .ok (.invokespecial 25, 3) := by decide +kernel
theorem dX5_init_90 : decode cX5_init 90 = .ok (.putfield 45, 3) := by decide +kernel
theorem dX5_init_93 : decode cX5_init 93 = .ok (.aload_n 0, 1) := by decide +kernel
theorem dX5_init_94 : decode cX5_init 94 = .ok (.new 48, 3) := by decide +kernel
theorem dX5_init_97 : decode cX5_init 97 = .ok (.dup, 1) := by decide +kernel
theorem dX5_init_98 : decode cX5_init 98 = .ok (.invokespecial 50, 3) := by decide +kernel
theorem dX5_init_101 : decode cX5_init 101 = .ok (.putfield 51, 3) := by decide +kernel
theorem dX5_init_104 : decode cX5_init 104 = .ok (.aload_n 0, 1) := by decide +kernel
theorem dX5_init_105 : decode cX5_init 105 = .ok (.bipush 9, 2) := by decide +kernel
theorem dX5_init_107 : decode cX5_init 107 = .ok (.anewarray 48, 3) := by decide +kernel
theorem dX5_init_110 : decode cX5_init 110 = .ok (.putfield 55, 3) := by decide +kernel
theorem dX5_init_113 : decode cX5_init 113 = .ok (.aload_n 0, 1) := by decide +kernel
theorem dX5_init_114 : decode cX5_init 114 = .ok (.getfield 55, 3) := by decide +kernel
theorem dX5_init_117 : decode cX5_init 117 = .ok (.iconst 0, 1) := by decide +kernel
theorem dX5_init_118 : decode cX5_init 118 = .ok (.aload_n 0, 1) := by decide +kernel
theorem dX5_init_119 : decode cX5_init 119 = .ok (.getfield 51, 3) := by decide +kernel
theorem dX5_init_122 : decode cX5_init 122 = .ok (.aastore, 1) := by decide +kernel
theorem dX5_init_123 : decode cX5_init 123 = .ok (.iconst 1, 1) := by decide +kernel
theorem dX5_init_124 : decode cX5_init 124 = .ok (.istore_n 1, 1) := by decide +kernel
theorem dX5_init_125 : decode cX5_init 125 = .ok (.iload_n 1, 1) := by decide +kernel
theorem dX5_init_126 : decode cX5_init 126 = .ok (.aload_n 0, 1) := by decide +kernel
theorem dX5_init_127 : decode cX5_init 127 = .ok (.getfield 55, 3) := by decide +kernel
theorem dX5_init_130 : decode cX5_init 130 = .ok (.arraylength, 1) := by decide +kernel
theorem dX5_init_131 : decode cX5_init 131 = .ok (.if_icmp .ge 22, 3) := by decide +kernel
theorem dX5_init_134 : decode cX5_init 134 = .ok (.aload_n 0, 1) := by decide +kernel
theorem dX5_init_135 : decode cX5_init 135 = .ok (.getfield 55, 3) := by decide +kernel
theorem dX5_init_138 : decode cX5_init 138 = .ok (.iload_n 1, 1) := by decide +kernel
theorem dX5_init_139 : decode cX5_init 139 = .ok (.new 48, 3) := by decide +kernel
theorem dX5_init_142 : decode cX5_init 142 = .ok (.dup, 1) := by decide +kernel
theorem dX5_init_143 : decode cX5_init 143 = .ok (.invokespecial 50, 3) := by decide +kernel
theorem dX5_init_146 : decode cX5_init 146 = .ok (.aastore, 1) := by decide +kernel
theorem dX5_init_147 : decode cX5_init 147 = .ok (.iinc 1 1, 3) := by decide +kernel
theorem dX5_init_150 : decode cX5_init 150 = .ok (.goto (-25), 3) := by decide +kernel
theorem dX5_init_153 : decode cX5_init 153 = .ok (.return_, 1) := by decide +kernel
set_option maxRecDepth 20000 in
theorem ggX5_letter_X2_append : GoodIn wsX5_letter wsX2_append := goodIn_r _ [6, 7, 8, 22, 23] (by decide +kernel) (by decide +kernel)
set_option maxRecDepth 20000 in
theorem gX5_letter_X2_append : GoodIn wsX5_letter (wsV RX5 59 RX2 yX2_append wsX2_append) := goodIn_app (goodIn_of _ (by decide +kernel)) ggX5_letter_X2_append
theorem dX5_letter_0 : decode cX5_letter 0 = .ok (.iload_n 1, 1) := by decide +kernel
theorem dX5_letter_1 : decode cX5_letter 1 = .ok (.bipush 32, 2) := by decide +kernel
theorem dX5_letter_3 : decode cX5_letter 3 = .ok (.if_icmp .lt 9, 3) := by decide +kernel
theorem dX5_letter_6 : decode cX5_letter 6 = .ok (.iload_n 1, 1) := by decide +kernel
theorem dX5_letter_7 : decode cX5_letter 7 = .ok (.bipush 126, 2) := by decide +kernel
theorem dX5_letter_9 : decode cX5_letter 9 = .ok (.if_icmp .le 6, 3) := by decide +kernel
theorem dX5_letter_12 : decode cX5_letter 12 = .ok (.bipush (-102), 2) := by decide +kernel
theorem dX5_letter_14 : decode cX5_letter 14 = .ok (.ireturn, 1) := by decide +kernel
theorem dX5_letter_15 : decode cX5_letter 15 = .ok (.aload_n 0, 1) := by decide +kernel
theorem dX5_letter_16 : decode cX5_letter 16 = .ok (.getfield 12, 3) := by decide +kernel
theorem dX5_letter_19 : decode cX5_letter 19 = .ok (.iload_n 1, 1) := by decide +kernel
theorem dX5_letter_20 : decode cX5_letter 20 = .ok (.invokevirtual 59, 3) := by decide +kernel
theorem dX5_letter_23 : decode cX5_letter 23 = .ok (.ifCond .eq 13, 3) := by decide +kernel
theorem dX5_letter_26 : decode cX5_letter 26 = .ok (.aload_n 0, 1) := by decide +kernel
theorem dX5_letter_27 : decode cX5_letter 27 = .ok (.getfield 12, 3) := by decide +kernel
theorem dX5_letter_30 : decode cX5_letter 30 = .ok (.getfield 63, 3) := by decide +kernel
theorem dX5_letter_33 : decode cX5_letter 33 = .ok (.goto 5, 3) := by decide +kernel
theorem dX5_letter_36 : decode cX5_letter 36 = .ok (.bipush (-104), 2) := by decide +kernel
theorem dX5_letter_38 : decode cX5_letter 38 = .ok (.ireturn, 1) := by decide +kernel
theorem dX5_blank_0 : decode cX5_blank 0 = .ok (.aload_n 0, 1) := by decide +kernel
theorem dX5_blank_1 : decode cX5_blank 1 = .ok (.getfield 12, 3) := by decide +kernel
theorem dX5_blank_4 : decode cX5_blank 4 = .ok (.getfield 63, 3) := by decide +kernel
theorem dX5_blank_7 : decode cX5_blank 7 = .ok (.istore_n 1, 1) := by decide +kernel
theorem dX5_blank_8 : decode cX5_blank 8 = .ok (.aload_n 0, 1) := by decide +kernel
theorem dX5_blank_9 : decode cX5_blank 9 = .ok (.getfield 12, 3) := by decide +kernel
theorem dX5_blank_12 : decode cX5_blank 12 = .ok (.iconst 0, 1) := by decide +kernel
theorem dX5_blank_13 : decode cX5_blank 13 = .ok (.putfield 63, 3) := by decide +kernel
theorem dX5_blank_16 : decode cX5_blank 16 = .ok (.iload_n 1, 1) := by decide +kernel
theorem dX5_blank_17 : decode cX5_blank 17 = .ok (.ireturn, 1) := by decide +kernel
set_option maxRecDepth 20000 in
theorem ggX5_fault_X2_firstFault : GoodIn wsX5_fault wsX2_firstFault := goodIn_r _ [6, 7, 8, 9, 10, 5, 11, 12, 13, 14, 15, 16, 17, 18, 19, 20, 21, 22, 23, 24, 25, 26, 27, 28, 29, 30, 31, 32, 46, 47] (by decide +kernel) (by decide +kernel)
set_option maxRecDepth 20000 in
theorem gX5_fault_X2_firstFault : GoodIn wsX5_fault (wsV RX5 67 RX2 yX2_firstFault wsX2_firstFault) := goodIn_app (goodIn_of _ (by decide +kernel)) ggX5_fault_X2_firstFault
theorem dX5_fault_0 : decode cX5_fault 0 = .ok (.aload_n 0, 1) := by decide +kernel
theorem dX5_fault_1 : decode cX5_fault 1 = .ok (.getfield 12, 3) := by decide +kernel
theorem dX5_fault_4 : decode cX5_fault 4 = .ok (.invokevirtual 67, 3) := by decide +kernel
theorem dX5_fault_7 : decode cX5_fault 7 = .ok (.ireturn, 1) := by decide +kernel
set_option maxRecDepth 20000 in
theorem ggX5_board_X2_isBoard : GoodIn wsX5_board wsX2_isBoard := goodIn_r _ [12, 13, 14, 15, 16, 11, 17, 18, 19, 20, 21, 22, 23, 24, 25, 26, 27, 28, 29, 30, 31, 32, 33, 34, 35, 36, 37, 38, 39, 40, 41, 42, 104, 105] (by decide +kernel) (by decide +kernel)
set_option maxRecDepth 20000 in
theorem gX5_board_X2_isBoard : GoodIn wsX5_board (wsV RX5 71 RX2 yX2_isBoard wsX2_isBoard) := goodIn_app (goodIn_of _ (by decide +kernel)) ggX5_board_X2_isBoard
set_option maxRecDepth 20000 in
theorem ggX5_board_X2_digitAt : GoodIn wsX5_board wsX2_digitAt := goodIn_r _ [21, 22, 23, 24, 11, 25, 13, 26, 104, 105] (by decide +kernel) (by decide +kernel)
set_option maxRecDepth 20000 in
theorem gX5_board_X2_digitAt : GoodIn wsX5_board (wsV RX5 75 RX2 yX2_digitAt wsX2_digitAt) := goodIn_app (goodIn_of _ (by decide +kernel)) ggX5_board_X2_digitAt
set_option maxRecDepth 20000 in
theorem ggX5_board_X0_lay : GoodIn wsX5_board wsX0_lay := goodIn_r _ [48, 49, 50, 51, 52, 53, 54, 55, 47, 56, 114, 115, 116, 117] (by decide +kernel) (by decide +kernel)
set_option maxRecDepth 20000 in
theorem gX5_board_X0_lay : GoodIn wsX5_board (wsV RX5 79 RX0 yX0_lay wsX0_lay) := goodIn_app (goodIn_of _ (by decide +kernel)) ggX5_board_X0_lay
set_option maxRecDepth 20000 in
theorem ggX5_board_X4_read : GoodIn wsX5_board wsX4_read := goodIn_r _ [61, 62, 63, 64, 65, 66, 67, 68, 23, 24, 11, 25, 13, 26, 69, 36, 37, 38, 22, 70, 71, 72, 60, 73, 74, 75, 76, 77, 78, 79, 80, 81, 82, 83, 84, 85, 86, 47, 87, 51, 106, 107, 108, 109, 110, 111, 112, 113, 114, 115, 116, 117, 104, 105] (by decide +kernel) (by decide +kernel)
set_option maxRecDepth 20000 in
theorem gX5_board_X4_read : GoodIn wsX5_board (wsV RX5 83 RX4 yX4_read wsX4_read) := goodIn_app (goodIn_of _ (by decide +kernel)) ggX5_board_X4_read
theorem dX5_board_0 : decode cX5_board 0 = .ok (.aload_n 0, 1) := by decide +kernel
theorem dX5_board_1 : decode cX5_board 1 = .ok (.getfield 12, 3) := by decide +kernel
theorem dX5_board_4 : decode cX5_board 4 = .ok (.invokevirtual 71, 3) := by decide +kernel
theorem dX5_board_7 : decode cX5_board 7 = .ok (.ifCond .ne 6, 3) := by decide +kernel
theorem dX5_board_10 : decode cX5_board 10 = .ok (.bipush (-103), 2) := by decide +kernel
theorem dX5_board_12 : decode cX5_board 12 = .ok (.ireturn, 1) := by decide +kernel
theorem dX5_board_13 : decode cX5_board 13 = .ok (.aload_n 0, 1) := by decide +kernel
theorem dX5_board_14 : decode cX5_board 14 = .ok (.getfield 19, 3) := by decide +kernel
theorem dX5_board_17 : decode cX5_board 17 = .ok (.aload_n 0, 1) := by decide +kernel
theorem dX5_board_18 : decode cX5_board 18 = .ok (.getfield 12, 3) := by decide +kernel
theorem dX5_board_21 : decode cX5_board 21 = .ok (.iconst 0, 1) := by decide +kernel
theorem dX5_board_22 : decode cX5_board 22 = .ok (.invokevirtual 75, 3) := by decide +kernel
theorem dX5_board_25 : decode cX5_board 25 = .ok (.aload_n 0, 1) := by decide +kernel
theorem dX5_board_26 : decode cX5_board 26 = .ok (.getfield 12, 3) := by decide +kernel
theorem dX5_board_29 : decode cX5_board 29 = .ok (.iconst 1, 1) := by decide +kernel
theorem dX5_board_30 : decode cX5_board 30 = .ok (.invokevirtual 75, 3) := by decide +kernel
theorem dX5_board_33 : decode cX5_board 33 = .ok (.invokevirtual 79, 3) := by decide +kernel
theorem dX5_board_36 : decode cX5_board 36 = .ok (.aload_n 0, 1) := by decide +kernel
theorem dX5_board_37 : decode cX5_board 37 = .ok (.getfield 28, 3) := by decide +kernel
theorem dX5_board_40 : decode cX5_board 40 = .ok (.aload_n 0, 1) := by decide +kernel
theorem dX5_board_41 : decode cX5_board 41 = .ok (.getfield 12, 3) := by decide +kernel
theorem dX5_board_44 : decode cX5_board 44 = .ok (.invokevirtual 83, 3) := by decide +kernel
theorem dX5_board_47 : decode cX5_board 47 = .ok (.aload_n 0, 1) := by decide +kernel
theorem dX5_board_48 : decode cX5_board 48 = .ok (.getfield 35, 3) := by decide +kernel
theorem dX5_board_51 : decode cX5_board 51 = .ok (.iconst 0, 1) := by decide +kernel
theorem dX5_board_52 : decode cX5_board 52 = .ok (.putfield 87, 3) := by decide +kernel
theorem dX5_board_55 : decode cX5_board 55 = .ok (.aload_n 0, 1) := by decide +kernel
theorem dX5_board_56 : decode cX5_board 56 = .ok (.getfield 12, 3) := by decide +kernel
theorem dX5_board_59 : decode cX5_board 59 = .ok (.iconst 0, 1) := by decide +kernel
theorem dX5_board_60 : decode cX5_board 60 = .ok (.putfield 63, 3) := by decide +kernel
theorem dX5_board_63 : decode cX5_board 63 = .ok (.aload_n 0, 1) := by decide +kernel
theorem dX5_board_64 : decode cX5_board 64 = .ok (.iconst 0, 1) := by decide +kernel
theorem dX5_board_65 : decode cX5_board 65 = .ok (.putfield 88, 3) := by decide +kernel
theorem dX5_board_68 : decode cX5_board 68 = .ok (.aload_n 0, 1) := by decide +kernel
theorem dX5_board_69 : decode cX5_board 69 = .ok (.iconst 0, 1) := by decide +kernel
theorem dX5_board_70 : decode cX5_board 70 = .ok (.putfield 92, 3) := by decide +kernel
theorem dX5_board_73 : decode cX5_board 73 = .ok (.aload_n 0, 1) := by decide +kernel
theorem dX5_board_74 : decode cX5_board 74 = .ok (.dup, 1) := by decide +kernel
theorem dX5_board_75 : decode cX5_board 75 = .ok (.getfield 95, 3) := by decide +kernel
theorem dX5_board_78 : decode cX5_board 78 = .ok (.iconst 1, 1) := by decide +kernel
theorem dX5_board_79 : decode cX5_board 79 = .ok (.iadd, 1) := by decide +kernel
theorem dX5_board_80 : decode cX5_board 80 = .ok (.putfield 95, 3) := by decide +kernel
theorem dX5_board_83 : decode cX5_board 83 = .ok (.aload_n 0, 1) := by decide +kernel
theorem dX5_board_84 : decode cX5_board 84 = .ok (.getfield 28, 3) := by decide +kernel
theorem dX5_board_87 : decode cX5_board 87 = .ok (.getfield 98, 3) := by decide +kernel
theorem dX5_board_90 : decode cX5_board 90 = .ok (.ireturn, 1) := by decide +kernel
set_option maxRecDepth 20000 in
theorem ggX5_peg_X4_isPeg : GoodIn wsX5_peg wsX4_isPeg := goodIn_r _ [7, 8, 98, 99, 100, 101, 102, 103, 104, 105] (by decide +kernel) (by decide +kernel)
set_option maxRecDepth 20000 in
theorem gX5_peg_X4_isPeg : GoodIn wsX5_peg (wsV RX5 101 RX4 yX4_isPeg wsX4_isPeg) := goodIn_app (goodIn_of _ (by decide +kernel)) ggX5_peg_X4_isPeg
set_option maxRecDepth 20000 in
theorem ggX5_peg_X4_kindOf : GoodIn wsX5_peg wsX4_kindOf := goodIn_r _ [12, 13, 14, 4, 5, 6, 7, 8, 98, 99, 100, 101, 102, 103, 104, 105] (by decide +kernel) (by decide +kernel)
set_option maxRecDepth 20000 in
theorem gX5_peg_X4_kindOf : GoodIn wsX5_peg (wsV RX5 104 RX4 yX4_kindOf wsX4_kindOf) := goodIn_app (goodIn_of _ (by decide +kernel)) ggX5_peg_X4_kindOf
set_option maxRecDepth 20000 in
theorem ggX5_peg_X4_homeOf : GoodIn wsX5_peg wsX4_homeOf := goodIn_r _ [18, 19, 14, 4, 5, 6, 7, 8, 98, 99, 100, 101, 102, 103, 104, 105] (by decide +kernel) (by decide +kernel)
set_option maxRecDepth 20000 in
theorem gX5_peg_X4_homeOf : GoodIn wsX5_peg (wsV RX5 107 RX4 yX4_homeOf wsX4_homeOf) := goodIn_app (goodIn_of _ (by decide +kernel)) ggX5_peg_X4_homeOf
set_option maxRecDepth 20000 in
theorem ggX5_peg_X4_targetsOf : GoodIn wsX5_peg wsX4_targetsOf := goodIn_r _ [23, 24, 25, 26, 6, 27, 28, 29, 16, 17, 18, 19, 14, 4, 5, 7, 8, 30, 31, 32, 33, 34, 35, 36, 37, 38, 39, 40, 41, 42, 43, 44, 45, 46, 47, 10, 11, 12, 13, 48, 49, 50, 51, 52, 53, 54, 55, 56, 57, 58, 59, 60, 61, 62, 98, 99, 100, 101, 102, 103, 104, 105, 106, 107, 108, 109] (by decide +kernel) (by decide +kernel)
set_option maxRecDepth 20000 in
theorem gX5_peg_X4_targetsOf : GoodIn wsX5_peg (wsV RX5 110 RX4 yX4_targetsOf wsX4_targetsOf) := goodIn_app (goodIn_of _ (by decide +kernel)) ggX5_peg_X4_targetsOf
set_option maxRecDepth 20000 in
theorem ggX5_peg_X3_sortsOf : GoodIn wsX5_peg wsX3_sortsOf := goodIn_r _ [67, 68, 69, 70, 110, 111, 112] (by decide +kernel) (by decide +kernel)
set_option maxRecDepth 20000 in
theorem gX5_peg_X3_sortsOf : GoodIn wsX5_peg (wsV RX5 113 RX3 yX3_sortsOf wsX3_sortsOf) := goodIn_app (goodIn_of _ (by decide +kernel)) ggX5_peg_X3_sortsOf
set_option maxRecDepth 20000 in
theorem ggX5_peg_X5_bestQuestion : GoodIn wsX5_peg wsX5_bestQuestion := goodIn_r _ [73, 57, 74, 75, 76, 77, 78, 79, 80, 81, 82, 83, 84] (by decide +kernel) (by decide +kernel)
set_option maxRecDepth 20000 in
theorem gX5_peg_X5_bestQuestion : GoodIn wsX5_peg (va_wsS RX5 116 yX5_bestQuestion wsX5_bestQuestion) := goodIn_app (goodIn_of _ (by decide +kernel)) ggX5_peg_X5_bestQuestion
theorem dX5_peg_0 : decode cX5_peg 0 = .ok (.aload_n 0, 1) := by decide +kernel
theorem dX5_peg_1 : decode cX5_peg 1 = .ok (.getfield 28, 3) := by decide +kernel
theorem dX5_peg_4 : decode cX5_peg 4 = .ok (.iload_n 1, 1) := by decide +kernel
theorem dX5_peg_5 : decode cX5_peg 5 = .ok (.invokevirtual 101, 3) := by decide +kernel
theorem dX5_peg_8 : decode cX5_peg 8 = .ok (.ifCond .ne 6, 3) := by decide +kernel
theorem dX5_peg_11 : decode cX5_peg 11 = .ok (.bipush (-101), 2) := by decide +kernel
theorem dX5_peg_13 : decode cX5_peg 13 = .ok (.ireturn, 1) := by decide +kernel
theorem dX5_peg_14 : decode cX5_peg 14 = .ok (.iload_n 2, 1) := by decide +kernel
theorem dX5_peg_15 : decode cX5_peg 15 = .ok (.tableswitch 81 0 4 #[33, 42, 51, 60, 69], 33) := by decide +kernel
theorem dX5_peg_48 : decode cX5_peg 48 = .ok (.aload_n 0, 1) := by decide +kernel
theorem dX5_peg_49 : decode cX5_peg 49 = .ok (.getfield 28, 3) := by decide +kernel
theorem dX5_peg_52 : decode cX5_peg 52 = .ok (.iload_n 1, 1) := by decide +kernel
theorem dX5_peg_53 : decode cX5_peg 53 = .ok (.invokevirtual 104, 3) := by decide +kernel
theorem dX5_peg_56 : decode cX5_peg 56 = .ok (.ireturn, 1) := by decide +kernel
theorem dX5_peg_57 : decode cX5_peg 57 = .ok (.aload_n 0, 1) := by decide +kernel
theorem dX5_peg_58 : decode cX5_peg 58 = .ok (.getfield 28, 3) := by decide +kernel
theorem dX5_peg_61 : decode cX5_peg 61 = .ok (.iload_n 1, 1) := by decide +kernel
theorem dX5_peg_62 : decode cX5_peg 62 = .ok (.invokevirtual 107, 3) := by decide +kernel
theorem dX5_peg_65 : decode cX5_peg 65 = .ok (.ireturn, 1) := by decide +kernel
theorem dX5_peg_66 : decode cX5_peg 66 = .ok (.aload_n 0, 1) := by decide +kernel
theorem dX5_peg_67 : decode cX5_peg 67 = .ok (.getfield 28, 3) := by decide +kernel
theorem dX5_peg_70 : decode cX5_peg 70 = .ok (.iload_n 1, 1) := by decide +kernel
theorem dX5_peg_71 : decode cX5_peg 71 = .ok (.invokevirtual 110, 3) := by decide +kernel
theorem dX5_peg_74 : decode cX5_peg 74 = .ok (.ireturn, 1) := by decide +kernel
theorem dX5_peg_75 : decode cX5_peg 75 = .ok (.aload_n 0, 1) := by decide +kernel
theorem dX5_peg_76 : decode cX5_peg 76 = .ok (.getfield 35, 3) := by decide +kernel
theorem dX5_peg_79 : decode cX5_peg 79 = .ok (.iload_n 1, 1) := by decide +kernel
theorem dX5_peg_80 : decode cX5_peg 80 = .ok (.invokevirtual 113, 3) := by decide +kernel
theorem dX5_peg_83 : decode cX5_peg 83 = .ok (.ireturn, 1) := by decide +kernel
theorem dX5_peg_84 : decode cX5_peg 84 = .ok (.aload_n 0, 1) := by decide +kernel
theorem dX5_peg_85 : decode cX5_peg 85 = .ok (.getfield 35, 3) := by decide +kernel
theorem dX5_peg_88 : decode cX5_peg 88 = .ok (.iload_n 1, 1) := by decide +kernel
theorem dX5_peg_89 : decode cX5_peg 89 = .ok (.invokevirtual 113, 3) := by decide +kernel
theorem dX5_peg_92 : decode cX5_peg 92 = .ok (.invokestatic 116, 3) := by decide +kernel
theorem dX5_peg_95 : decode cX5_peg 95 = .ok (.ireturn, 1) := by decide +kernel
theorem dX5_peg_96 : decode cX5_peg 96 = .ok (.bipush (-102), 2) := by decide +kernel
theorem dX5_peg_98 : decode cX5_peg 98 = .ok (.ireturn, 1) := by decide +kernel
set_option maxRecDepth 20000 in
theorem ggX5_as_X4_isPeg : GoodIn wsX5_as wsX4_isPeg := goodIn_r _ [7, 8, 32, 33, 34, 35, 36, 37, 38, 39] (by decide +kernel) (by decide +kernel)
set_option maxRecDepth 20000 in
theorem gX5_as_X4_isPeg : GoodIn wsX5_as (wsV RX5 101 RX4 yX4_isPeg wsX4_isPeg) := goodIn_app (goodIn_of _ (by decide +kernel)) ggX5_as_X4_isPeg
set_option maxRecDepth 20000 in
theorem ggX5_as_X4_kindOf : GoodIn wsX5_as wsX4_kindOf := goodIn_r _ [12, 13, 14, 4, 5, 6, 7, 8, 32, 33, 34, 35, 36, 37, 38, 39] (by decide +kernel) (by decide +kernel)
set_option maxRecDepth 20000 in
theorem gX5_as_X4_kindOf : GoodIn wsX5_as (wsV RX5 104 RX4 yX4_kindOf wsX4_kindOf) := goodIn_app (goodIn_of _ (by decide +kernel)) ggX5_as_X4_kindOf
set_option maxRecDepth 20000 in
theorem ggX5_as_X5_hasBit : GoodIn wsX5_as wsX5_hasBit := goodIn_r _ [18] (by decide +kernel) (by decide +kernel)
set_option maxRecDepth 20000 in
theorem gX5_as_X5_hasBit : GoodIn wsX5_as (va_wsS RX5 123 yX5_hasBit wsX5_hasBit) := goodIn_app (goodIn_of _ (by decide +kernel)) ggX5_as_X5_hasBit
theorem dX5_as_0 : decode cX5_as 0 = .ok (.aload_n 0, 1) := by decide +kernel
theorem dX5_as_1 : decode cX5_as 1 = .ok (.getfield 28, 3) := by decide +kernel
theorem dX5_as_4 : decode cX5_as 4 = .ok (.iload_n 1, 1) := by decide +kernel
theorem dX5_as_5 : decode cX5_as 5 = .ok (.invokevirtual 101, 3) := by decide +kernel
theorem dX5_as_8 : decode cX5_as 8 = .ok (.ifCond .ne 6, 3) := by decide +kernel
theorem dX5_as_11 : decode cX5_as 11 = .ok (.bipush (-101), 2) := by decide +kernel
theorem dX5_as_13 : decode cX5_as 13 = .ok (.ireturn, 1) := by decide +kernel
theorem dX5_as_14 : decode cX5_as 14 = .ok (.iload_n 2, 1) := by decide +kernel
theorem dX5_as_15 : decode cX5_as 15 = .ok (.ifCond .lt 8, 3) := by decide +kernel
theorem dX5_as_18 : decode cX5_as 18 = .ok (.iload_n 2, 1) := by decide +kernel
theorem dX5_as_19 : decode cX5_as 19 = .ok (.iconst 5, 1) := by decide +kernel
theorem dX5_as_20 : decode cX5_as 20 = .ok (.if_icmp .lt 6, 3) := by decide +kernel
theorem dX5_as_23 : decode cX5_as 23 = .ok (.bipush (-102), 2) := by decide +kernel
theorem dX5_as_25 : decode cX5_as 25 = .ok (.ireturn, 1) := by decide +kernel
theorem dX5_as_26 : decode cX5_as 26 = .ok (.getstatic 119, 3) := by decide +kernel
theorem dX5_as_29 : decode cX5_as 29 = .ok (.iload_n 2, 1) := by decide +kernel
theorem dX5_as_30 : decode cX5_as 30 = .ok (.iaload, 1) := by decide +kernel
theorem dX5_as_31 : decode cX5_as 31 = .ok (.aload_n 0, 1) := by decide +kernel
theorem dX5_as_32 : decode cX5_as 32 = .ok (.getfield 28, 3) := by decide +kernel
theorem dX5_as_35 : decode cX5_as 35 = .ok (.iload_n 1, 1) := by decide +kernel
theorem dX5_as_36 : decode cX5_as 36 = .ok (.invokevirtual 104, 3) := by decide +kernel
theorem dX5_as_39 : decode cX5_as 39 = .ok (.invokestatic 123, 3) := by decide +kernel
theorem dX5_as_42 : decode cX5_as 42 = .ok (.ifCond .eq 7, 3) := by decide +kernel
theorem dX5_as_45 : decode cX5_as 45 = .ok (.iload_n 1, 1) := by decide +kernel
theorem dX5_as_46 : decode cX5_as 46 = .ok (.goto 4, 3) := by decide +kernel
theorem dX5_as_49 : decode cX5_as 49 = .ok (.iconst (-1), 1) := by decide +kernel
theorem dX5_as_50 : decode cX5_as 50 = .ok (.ireturn, 1) := by decide +kernel
set_option maxRecDepth 20000 in
theorem ggX5_place_X0_has : GoodIn wsX5_place wsX0_has := goodIn_r _ [7, 8, 38, 39, 40, 41] (by decide +kernel) (by decide +kernel)
set_option maxRecDepth 20000 in
theorem gX5_place_X0_has : GoodIn wsX5_place (wsV RX5 127 RX0 yX0_has wsX0_has) := goodIn_app (goodIn_of _ (by decide +kernel)) ggX5_place_X0_has
set_option maxRecDepth 20000 in
theorem ggX5_place_X4_isHole : GoodIn wsX5_place wsX4_isHole := goodIn_r _ [13, 14, 15, 16, 4, 5, 6, 7, 8, 17, 18, 19, 42, 43, 44, 45, 46, 47, 48, 49, 38, 39, 40, 41] (by decide +kernel) (by decide +kernel)
set_option maxRecDepth 20000 in
theorem gX5_place_X4_isHole : GoodIn wsX5_place (wsV RX5 130 RX4 yX4_isHole wsX4_isHole) := goodIn_app (goodIn_of _ (by decide +kernel)) ggX5_place_X4_isHole
set_option maxRecDepth 20000 in
theorem ggX5_place_X4_pegIn : GoodIn wsX5_place wsX4_pegIn := goodIn_r _ [23, 14, 24, 16, 4, 5, 6, 7, 8, 42, 43, 44, 45, 46, 47, 48, 49, 38, 39, 40, 41] (by decide +kernel) (by decide +kernel)
set_option maxRecDepth 20000 in
theorem gX5_place_X4_pegIn : GoodIn wsX5_place (wsV RX5 133 RX4 yX4_pegIn wsX4_pegIn) := goodIn_app (goodIn_of _ (by decide +kernel)) ggX5_place_X4_pegIn
theorem dX5_place_0 : decode cX5_place 0 = .ok (.aload_n 0, 1) := by decide +kernel
theorem dX5_place_1 : decode cX5_place 1 = .ok (.getfield 19, 3) := by decide +kernel
theorem dX5_place_4 : decode cX5_place 4 = .ok (.iload_n 1, 1) := by decide +kernel
theorem dX5_place_5 : decode cX5_place 5 = .ok (.invokevirtual 127, 3) := by decide +kernel
theorem dX5_place_8 : decode cX5_place 8 = .ok (.ifCond .ne 6, 3) := by decide +kernel
theorem dX5_place_11 : decode cX5_place 11 = .ok (.bipush (-101), 2) := by decide +kernel
theorem dX5_place_13 : decode cX5_place 13 = .ok (.ireturn, 1) := by decide +kernel
theorem dX5_place_14 : decode cX5_place 14 = .ok (.iload_n 2, 1) := by decide +kernel
theorem dX5_place_15 : decode cX5_place 15 = .ok (.lookupswitch 51 #[(0, 25), (1, 42)], 25) := by decide +kernel
theorem dX5_place_40 : decode cX5_place 40 = .ok (.aload_n 0, 1) := by decide +kernel
theorem dX5_place_41 : decode cX5_place 41 = .ok (.getfield 28, 3) := by decide +kernel
theorem dX5_place_44 : decode cX5_place 44 = .ok (.iload_n 1, 1) := by decide +kernel
theorem dX5_place_45 : decode cX5_place 45 = .ok (.invokevirtual 130, 3) := by decide +kernel
theorem dX5_place_48 : decode cX5_place 48 = .ok (.ifCond .eq 7, 3) := by decide +kernel
theorem dX5_place_51 : decode cX5_place 51 = .ok (.iconst 1, 1) := by decide +kernel
theorem dX5_place_52 : decode cX5_place 52 = .ok (.goto 4, 3) := by decide +kernel
theorem dX5_place_55 : decode cX5_place 55 = .ok (.iconst 0, 1) := by decide +kernel
theorem dX5_place_56 : decode cX5_place 56 = .ok (.ireturn, 1) := by decide +kernel
theorem dX5_place_57 : decode cX5_place 57 = .ok (.aload_n 0, 1) := by decide +kernel
theorem dX5_place_58 : decode cX5_place 58 = .ok (.getfield 28, 3) := by decide +kernel
theorem dX5_place_61 : decode cX5_place 61 = .ok (.iload_n 1, 1) := by decide +kernel
theorem dX5_place_62 : decode cX5_place 62 = .ok (.invokevirtual 133, 3) := by decide +kernel
theorem dX5_place_65 : decode cX5_place 65 = .ok (.ireturn, 1) := by decide +kernel
theorem dX5_place_66 : decode cX5_place 66 = .ok (.bipush (-102), 2) := by decide +kernel
theorem dX5_place_68 : decode cX5_place 68 = .ok (.ireturn, 1) := by decide +kernel
set_option maxRecDepth 20000 in
theorem ggX5_jump_X4_isPeg : GoodIn wsX5_jump wsX4_isPeg := goodIn_r _ [8, 9, 93, 94, 95, 96, 97, 98, 99, 100] (by decide +kernel) (by decide +kernel)
set_option maxRecDepth 20000 in
theorem gX5_jump_X4_isPeg : GoodIn wsX5_jump (wsV RX5 101 RX4 yX4_isPeg wsX4_isPeg) := goodIn_app (goodIn_of _ (by decide +kernel)) ggX5_jump_X4_isPeg
set_option maxRecDepth 20000 in
theorem ggX5_jump_X0_has : GoodIn wsX5_jump wsX0_has := goodIn_r _ [14, 15, 101, 102, 103, 104] (by decide +kernel) (by decide +kernel)
set_option maxRecDepth 20000 in
theorem gX5_jump_X0_has : GoodIn wsX5_jump (wsV RX5 127 RX0 yX0_has wsX0_has) := goodIn_app (goodIn_of _ (by decide +kernel)) ggX5_jump_X0_has
set_option maxRecDepth 20000 in
theorem ggX5_jump_X4_directionTo : GoodIn wsX5_jump wsX4_directionTo := goodIn_r _ [19, 20, 21, 22, 7, 23, 24, 25, 26, 27, 28, 29, 30, 5, 6, 8, 9, 31, 32, 33, 13, 34, 35, 36, 11, 12, 14, 15, 37, 38, 39, 40, 41, 42, 43, 44, 45, 46, 47, 48, 49, 50, 51, 52, 53, 54, 55, 56, 57, 58, 59, 60, 61, 62, 93, 94, 95, 96, 97, 98, 99, 100, 101, 102, 103, 104] (by decide +kernel) (by decide +kernel)
set_option maxRecDepth 20000 in
theorem gX5_jump_X4_directionTo : GoodIn wsX5_jump (wsV RX5 136 RX4 yX4_directionTo wsX4_directionTo) := goodIn_app (goodIn_of _ (by decide +kernel)) ggX5_jump_X4_directionTo
set_option maxRecDepth 20000 in
theorem ggX5_jump_X4_neighbourOf : GoodIn wsX5_jump wsX4_neighbourOf := goodIn_r _ [66, 24, 25, 26, 27, 7, 28, 29, 30, 5, 6, 8, 9, 31, 32, 33, 13, 34, 35, 36, 11, 12, 14, 15, 37, 38, 39, 40, 41, 42, 93, 94, 95, 96, 97, 98, 99, 100, 101, 102, 103, 104] (by decide +kernel) (by decide +kernel)
set_option maxRecDepth 20000 in
theorem gX5_jump_X4_neighbourOf : GoodIn wsX5_jump (wsV RX5 143 RX4 yX4_neighbourOf wsX4_neighbourOf) := goodIn_app (goodIn_of _ (by decide +kernel)) ggX5_jump_X4_neighbourOf
set_option maxRecDepth 20000 in
theorem ggX5_jump_X4_leap : GoodIn wsX5_jump wsX4_leap := goodIn_r _ [70, 71, 72, 73, 7, 74, 24, 29, 41, 75, 30, 5, 6, 8, 9, 42, 11, 12, 13, 14, 15, 43, 44, 45, 46, 47, 55, 49, 56, 57, 52, 53, 54, 76, 77, 78, 79, 93, 94, 95, 96, 97, 98, 99, 100, 101, 102, 103, 104] (by decide +kernel) (by decide +kernel)
set_option maxRecDepth 20000 in
theorem gX5_jump_X4_leap : GoodIn wsX5_jump (wsV RX5 146 RX4 yX4_leap wsX4_leap) := goodIn_app (goodIn_of _ (by decide +kernel)) ggX5_jump_X4_leap
theorem dX5_jump_0 : decode cX5_jump 0 = .ok (.aload_n 0, 1) := by decide +kernel
theorem dX5_jump_1 : decode cX5_jump 1 = .ok (.getfield 28, 3) := by decide +kernel
theorem dX5_jump_4 : decode cX5_jump 4 = .ok (.iload_n 1, 1) := by decide +kernel
theorem dX5_jump_5 : decode cX5_jump 5 = .ok (.invokevirtual 101, 3) := by decide +kernel
theorem dX5_jump_8 : decode cX5_jump 8 = .ok (.ifCond .eq 14, 3) := by decide +kernel
theorem dX5_jump_11 : decode cX5_jump 11 = .ok (.aload_n 0, 1) := by decide +kernel
theorem dX5_jump_12 : decode cX5_jump 12 = .ok (.getfield 19, 3) := by decide +kernel
theorem dX5_jump_15 : decode cX5_jump 15 = .ok (.iload_n 2, 1) := by decide +kernel
theorem dX5_jump_16 : decode cX5_jump 16 = .ok (.invokevirtual 127, 3) := by decide +kernel
theorem dX5_jump_19 : decode cX5_jump 19 = .ok (.ifCond .ne 6, 3) := by decide +kernel
theorem dX5_jump_22 : decode cX5_jump 22 = .ok (.bipush (-101), 2) := by decide +kernel
theorem dX5_jump_24 : decode cX5_jump 24 = .ok (.ireturn, 1) := by decide +kernel
theorem dX5_jump_25 : decode cX5_jump 25 = .ok (.aload_n 0, 1) := by decide +kernel
theorem dX5_jump_26 : decode cX5_jump 26 = .ok (.getfield 28, 3) := by decide +kernel
theorem dX5_jump_29 : decode cX5_jump 29 = .ok (.iload_n 1, 1) := by decide +kernel
theorem dX5_jump_30 : decode cX5_jump 30 = .ok (.iload_n 2, 1) := by decide +kernel
theorem dX5_jump_31 : decode cX5_jump 31 = .ok (.invokevirtual 136, 3) := by decide +kernel
theorem dX5_jump_34 : decode cX5_jump 34 = .ok (.istore_n 3, 1) := by decide +kernel
theorem dX5_jump_35 : decode cX5_jump 35 = .ok (.iload_n 3, 1) := by decide +kernel
theorem dX5_jump_36 : decode cX5_jump 36 = .ok (.iconst (-1), 1) := by decide +kernel
theorem dX5_jump_37 : decode cX5_jump 37 = .ok (.if_icmp .ne 6, 3) := by decide +kernel
theorem dX5_jump_40 : decode cX5_jump 40 = .ok (.bipush (-103), 2) := by decide +kernel
theorem dX5_jump_42 : decode cX5_jump 42 = .ok (.ireturn, 1) := by decide +kernel
theorem dX5_jump_43 : decode cX5_jump 43 = .ok (.aload_n 0, 1) := by decide +kernel
theorem dX5_jump_44 : decode cX5_jump 44 = .ok (.getfield 28, 3) := by decide +kernel
theorem dX5_jump_47 : decode cX5_jump 47 = .ok (.getfield 140, 3) := by decide +kernel
theorem dX5_jump_50 : decode cX5_jump 50 = .ok (.sipush 999, 3) := by decide +kernel
theorem dX5_jump_53 : decode cX5_jump 53 = .ok (.if_icmp .lt 6, 3) := by decide +kernel
theorem dX5_jump_56 : decode cX5_jump 56 = .ok (.bipush (-104), 2) := by decide +kernel
theorem dX5_jump_58 : decode cX5_jump 58 = .ok (.ireturn, 1) := by decide +kernel
theorem dX5_jump_59 : decode cX5_jump 59 = .ok (.aload_n 0, 1) := by decide +kernel
theorem dX5_jump_60 : decode cX5_jump 60 = .ok (.getfield 28, 3) := by decide +kernel
theorem dX5_jump_63 : decode cX5_jump 63 = .ok (.iload_n 1, 1) := by decide +kernel
theorem dX5_jump_64 : decode cX5_jump 64 = .ok (.aload_n 0, 1) := by decide +kernel
theorem dX5_jump_65 : decode cX5_jump 65 = .ok (.getfield 28, 3) := by decide +kernel
theorem dX5_jump_68 : decode cX5_jump 68 = .ok (.iload_n 1, 1) := by decide +kernel
theorem dX5_jump_69 : decode cX5_jump 69 = .ok (.iload_n 3, 1) := by decide +kernel
theorem dX5_jump_70 : decode cX5_jump 70 = .ok (.invokevirtual 143, 3) := by decide +kernel
theorem dX5_jump_73 : decode cX5_jump 73 = .ok (.iload_n 2, 1) := by decide +kernel
theorem dX5_jump_74 : decode cX5_jump 74 = .ok (.invokevirtual 146, 3) := by decide +kernel
theorem dX5_jump_77 : decode cX5_jump 77 = .ok (.aload_n 0, 1) := by decide +kernel
theorem dX5_jump_78 : decode cX5_jump 78 = .ok (.getfield 28, 3) := by decide +kernel
theorem dX5_jump_81 : decode cX5_jump 81 = .ok (.dup, 1) := by decide +kernel
theorem dX5_jump_82 : decode cX5_jump 82 = .ok (.getfield 140, 3) := by decide +kernel
theorem dX5_jump_85 : decode cX5_jump 85 = .ok (.iconst 1, 1) := by decide +kernel
theorem dX5_jump_86 : decode cX5_jump 86 = .ok (.iadd, 1) := by decide +kernel
theorem dX5_jump_87 : decode cX5_jump 87 = .ok (.putfield 140, 3) := by decide +kernel
theorem dX5_jump_90 : decode cX5_jump 90 = .ok (.aload_n 0, 1) := by decide +kernel
theorem dX5_jump_91 : decode cX5_jump 91 = .ok (.iconst 0, 1) := by decide +kernel
theorem dX5_jump_92 : decode cX5_jump 92 = .ok (.putfield 92, 3) := by decide +kernel
theorem dX5_jump_95 : decode cX5_jump 95 = .ok (.aload_n 0, 1) := by decide +kernel
theorem dX5_jump_96 : decode cX5_jump 96 = .ok (.getfield 28, 3) := by decide +kernel
theorem dX5_jump_99 : decode cX5_jump 99 = .ok (.getfield 150, 3) := by decide +kernel
theorem dX5_jump_102 : decode cX5_jump 102 = .ok (.ireturn, 1) := by decide +kernel
set_option maxRecDepth 20000 in
theorem ggX5_put_X4_isPeg : GoodIn wsX5_put wsX4_isPeg := goodIn_r _ [8, 9, 51, 52, 53, 54, 55, 56, 57, 58] (by decide +kernel) (by decide +kernel)
set_option maxRecDepth 20000 in
theorem gX5_put_X4_isPeg : GoodIn wsX5_put (wsV RX5 101 RX4 yX4_isPeg wsX4_isPeg) := goodIn_app (goodIn_of _ (by decide +kernel)) ggX5_put_X4_isPeg
set_option maxRecDepth 20000 in
theorem ggX5_put_X0_has : GoodIn wsX5_put wsX0_has := goodIn_r _ [14, 15, 59, 60, 61, 62] (by decide +kernel) (by decide +kernel)
set_option maxRecDepth 20000 in
theorem gX5_put_X0_has : GoodIn wsX5_put (wsV RX5 127 RX0 yX0_has wsX0_has) := goodIn_app (goodIn_of _ (by decide +kernel)) ggX5_put_X0_has
set_option maxRecDepth 20000 in
theorem ggX5_put_X4_homeOf : GoodIn wsX5_put wsX4_homeOf := goodIn_r _ [19, 20, 21, 5, 6, 7, 8, 9, 51, 52, 53, 54, 55, 56, 57, 58] (by decide +kernel) (by decide +kernel)
set_option maxRecDepth 20000 in
theorem gX5_put_X4_homeOf : GoodIn wsX5_put (wsV RX5 107 RX4 yX4_homeOf wsX4_homeOf) := goodIn_app (goodIn_of _ (by decide +kernel)) ggX5_put_X4_homeOf
set_option maxRecDepth 20000 in
theorem ggX5_put_X4_isEmptyHole : GoodIn wsX5_put wsX4_isEmptyHole := goodIn_r _ [25, 26, 27, 28, 29, 11, 12, 13, 14, 15, 30, 31, 32, 51, 52, 53, 54, 55, 56, 57, 58, 59, 60, 61, 62] (by decide +kernel) (by decide +kernel)
set_option maxRecDepth 20000 in
theorem gX5_put_X4_isEmptyHole : GoodIn wsX5_put (wsV RX5 153 RX4 yX4_isEmptyHole wsX4_isEmptyHole) := goodIn_app (goodIn_of _ (by decide +kernel)) ggX5_put_X4_isEmptyHole
set_option maxRecDepth 20000 in
theorem ggX5_put_X4_set : GoodIn wsX5_put wsX4_set := goodIn_r _ [36, 26, 20, 28, 37, 21, 5, 6, 7, 8, 9, 29, 11, 12, 13, 14, 15, 51, 52, 53, 54, 55, 56, 57, 58, 59, 60, 61, 62] (by decide +kernel) (by decide +kernel)
set_option maxRecDepth 20000 in
theorem gX5_put_X4_set : GoodIn wsX5_put (wsV RX5 156 RX4 yX4_set wsX4_set) := goodIn_app (goodIn_of _ (by decide +kernel)) ggX5_put_X4_set
theorem dX5_put_0 : decode cX5_put 0 = .ok (.aload_n 0, 1) := by decide +kernel
theorem dX5_put_1 : decode cX5_put 1 = .ok (.getfield 28, 3) := by decide +kernel
theorem dX5_put_4 : decode cX5_put 4 = .ok (.iload_n 1, 1) := by decide +kernel
theorem dX5_put_5 : decode cX5_put 5 = .ok (.invokevirtual 101, 3) := by decide +kernel
theorem dX5_put_8 : decode cX5_put 8 = .ok (.ifCond .eq 14, 3) := by decide +kernel
theorem dX5_put_11 : decode cX5_put 11 = .ok (.aload_n 0, 1) := by decide +kernel
theorem dX5_put_12 : decode cX5_put 12 = .ok (.getfield 19, 3) := by decide +kernel
theorem dX5_put_15 : decode cX5_put 15 = .ok (.iload_n 2, 1) := by decide +kernel
theorem dX5_put_16 : decode cX5_put 16 = .ok (.invokevirtual 127, 3) := by decide +kernel
theorem dX5_put_19 : decode cX5_put 19 = .ok (.ifCond .ne 6, 3) := by decide +kernel
theorem dX5_put_22 : decode cX5_put 22 = .ok (.bipush (-101), 2) := by decide +kernel
theorem dX5_put_24 : decode cX5_put 24 = .ok (.ireturn, 1) := by decide +kernel
theorem dX5_put_25 : decode cX5_put 25 = .ok (.aload_n 0, 1) := by decide +kernel
theorem dX5_put_26 : decode cX5_put 26 = .ok (.getfield 28, 3) := by decide +kernel
theorem dX5_put_29 : decode cX5_put 29 = .ok (.iload_n 1, 1) := by decide +kernel
theorem dX5_put_30 : decode cX5_put 30 = .ok (.invokevirtual 107, 3) := by decide +kernel
theorem dX5_put_33 : decode cX5_put 33 = .ok (.iconst (-1), 1) := by decide +kernel
theorem dX5_put_34 : decode cX5_put 34 = .ok (.if_icmp .ne 14, 3) := by decide +kernel
theorem dX5_put_37 : decode cX5_put 37 = .ok (.aload_n 0, 1) := by decide +kernel
theorem dX5_put_38 : decode cX5_put 38 = .ok (.getfield 28, 3) := by decide +kernel
theorem dX5_put_41 : decode cX5_put 41 = .ok (.iload_n 2, 1) := by decide +kernel
theorem dX5_put_42 : decode cX5_put 42 = .ok (.invokevirtual 153, 3) := by decide +kernel
theorem dX5_put_45 : decode cX5_put 45 = .ok (.ifCond .ne 6, 3) := by decide +kernel
theorem dX5_put_48 : decode cX5_put 48 = .ok (.bipush (-103), 2) := by decide +kernel
theorem dX5_put_50 : decode cX5_put 50 = .ok (.ireturn, 1) := by decide +kernel
theorem dX5_put_51 : decode cX5_put 51 = .ok (.aload_n 0, 1) := by decide +kernel
theorem dX5_put_52 : decode cX5_put 52 = .ok (.getfield 28, 3) := by decide +kernel
theorem dX5_put_55 : decode cX5_put 55 = .ok (.iload_n 1, 1) := by decide +kernel
theorem dX5_put_56 : decode cX5_put 56 = .ok (.iload_n 2, 1) := by decide +kernel
theorem dX5_put_57 : decode cX5_put 57 = .ok (.invokevirtual 156, 3) := by decide +kernel
theorem dX5_put_60 : decode cX5_put 60 = .ok (.aload_n 0, 1) := by decide +kernel
theorem dX5_put_61 : decode cX5_put 61 = .ok (.iconst 0, 1) := by decide +kernel
theorem dX5_put_62 : decode cX5_put 62 = .ok (.putfield 92, 3) := by decide +kernel
theorem dX5_put_65 : decode cX5_put 65 = .ok (.aload_n 0, 1) := by decide +kernel
theorem dX5_put_66 : decode cX5_put 66 = .ok (.getfield 28, 3) := by decide +kernel
theorem dX5_put_69 : decode cX5_put 69 = .ok (.getfield 150, 3) := by decide +kernel
theorem dX5_put_72 : decode cX5_put 72 = .ok (.ireturn, 1) := by decide +kernel
set_option maxRecDepth 20000 in
theorem ggX5_plug_X0_has : GoodIn wsX5_plug wsX0_has := goodIn_r _ [8, 9, 50, 51, 52, 53] (by decide +kernel) (by decide +kernel)
set_option maxRecDepth 20000 in
theorem gX5_plug_X0_has : GoodIn wsX5_plug (wsV RX5 127 RX0 yX0_has wsX0_has) := goodIn_app (goodIn_of _ (by decide +kernel)) ggX5_plug_X0_has
set_option maxRecDepth 20000 in
theorem ggX5_plug_X4_isEmptyHole : GoodIn wsX5_plug wsX4_isEmptyHole := goodIn_r _ [14, 15, 16, 17, 18, 5, 6, 7, 8, 9, 19, 20, 21, 42, 43, 44, 45, 46, 47, 48, 49, 50, 51, 52, 53] (by decide +kernel) (by decide +kernel)
set_option maxRecDepth 20000 in
theorem gX5_plug_X4_isEmptyHole : GoodIn wsX5_plug (wsV RX5 153 RX4 yX4_isEmptyHole wsX4_isEmptyHole) := goodIn_app (goodIn_of _ (by decide +kernel)) ggX5_plug_X4_isEmptyHole
set_option maxRecDepth 20000 in
theorem ggX5_plug_J6_bitCount_0f7a4 : GoodIn wsX5_plug wsJ6_bitCount_0f7a4 := goodIn_r _ [25, 26, 27, 28] (by decide +kernel) (by decide +kernel)
set_option maxRecDepth 20000 in
theorem gX5_plug_J6_bitCount_0f7a4 : GoodIn wsX5_plug (va_wsS RX5 162 yJ6_bitCount_0f7a4 wsJ6_bitCount_0f7a4) := goodIn_app (goodIn_of _ (by decide +kernel)) ggX5_plug_J6_bitCount_0f7a4
theorem dX5_plug_0 : decode cX5_plug 0 = .ok (.aload_n 0, 1) := by decide +kernel
theorem dX5_plug_1 : decode cX5_plug 1 = .ok (.getfield 19, 3) := by decide +kernel
theorem dX5_plug_4 : decode cX5_plug 4 = .ok (.iload_n 1, 1) := by decide +kernel
theorem dX5_plug_5 : decode cX5_plug 5 = .ok (.invokevirtual 127, 3) := by decide +kernel
theorem dX5_plug_8 : decode cX5_plug 8 = .ok (.ifCond .ne 6, 3) := by decide +kernel
theorem dX5_plug_11 : decode cX5_plug 11 = .ok (.bipush (-101), 2) := by decide +kernel
theorem dX5_plug_13 : decode cX5_plug 13 = .ok (.ireturn, 1) := by decide +kernel
theorem dX5_plug_14 : decode cX5_plug 14 = .ok (.aload_n 0, 1) := by decide +kernel
theorem dX5_plug_15 : decode cX5_plug 15 = .ok (.getfield 28, 3) := by decide +kernel
theorem dX5_plug_18 : decode cX5_plug 18 = .ok (.iload_n 1, 1) := by decide +kernel
theorem dX5_plug_19 : decode cX5_plug 19 = .ok (.invokevirtual 153, 3) := by decide +kernel
theorem dX5_plug_22 : decode cX5_plug 22 = .ok (.ifCond .ne 6, 3) := by decide +kernel
theorem dX5_plug_25 : decode cX5_plug 25 = .ok (.bipush (-103), 2) := by decide +kernel
theorem dX5_plug_27 : decode cX5_plug 27 = .ok (.ireturn, 1) := by decide +kernel
theorem dX5_plug_28 : decode cX5_plug 28 = .ok (.aload_n 0, 1) := by decide +kernel
theorem dX5_plug_29 : decode cX5_plug 29 = .ok (.getfield 28, 3) := by decide +kernel
theorem dX5_plug_32 : decode cX5_plug 32 = .ok (.dup, 1) := by decide +kernel
theorem dX5_plug_33 : decode cX5_plug 33 = .ok (.getfield 159, 3) := by decide +kernel
theorem dX5_plug_36 : decode cX5_plug 36 = .ok (.iconst 1, 1) := by decide +kernel
theorem dX5_plug_37 : decode cX5_plug 37 = .ok (.iload_n 1, 1) := by decide +kernel
theorem dX5_plug_38 : decode cX5_plug 38 = .ok (.ishl, 1) := by decide +kernel
theorem dX5_plug_39 : decode cX5_plug 39 = .ok (.iconst (-1), 1) := by decide +kernel
theorem dX5_plug_40 : decode cX5_plug 40 = .ok (.ixor, 1) := by decide +kernel
theorem dX5_plug_41 : decode cX5_plug 41 = .ok (.iand, 1) := by decide +kernel
theorem dX5_plug_42 : decode cX5_plug 42 = .ok (.putfield 159, 3) := by decide +kernel
theorem dX5_plug_45 : decode cX5_plug 45 = .ok (.aload_n 0, 1) := by decide +kernel
theorem dX5_plug_46 : decode cX5_plug 46 = .ok (.iconst 0, 1) := by decide +kernel
theorem dX5_plug_47 : decode cX5_plug 47 = .ok (.putfield 92, 3) := by decide +kernel
theorem dX5_plug_50 : decode cX5_plug 50 = .ok (.aload_n 0, 1) := by decide +kernel
theorem dX5_plug_51 : decode cX5_plug 51 = .ok (.getfield 28, 3) := by decide +kernel
theorem dX5_plug_54 : decode cX5_plug 54 = .ok (.getfield 159, 3) := by decide +kernel
theorem dX5_plug_57 : decode cX5_plug 57 = .ok (.invokestatic 162, 3) := by decide +kernel
theorem dX5_plug_60 : decode cX5_plug 60 = .ok (.ireturn, 1) := by decide +kernel
set_option maxRecDepth 20000 in
theorem ggX5_bore_X0_has : GoodIn wsX5_bore wsX0_has := goodIn_r _ [8, 9, 49, 50, 51, 52] (by decide +kernel) (by decide +kernel)
set_option maxRecDepth 20000 in
theorem gX5_bore_X0_has : GoodIn wsX5_bore (wsV RX5 127 RX0 yX0_has wsX0_has) := goodIn_app (goodIn_of _ (by decide +kernel)) ggX5_bore_X0_has
set_option maxRecDepth 20000 in
theorem ggX5_bore_X4_isHole : GoodIn wsX5_bore wsX4_isHole := goodIn_r _ [14, 15, 16, 17, 5, 6, 7, 8, 9, 18, 19, 20, 41, 42, 43, 44, 45, 46, 47, 48, 49, 50, 51, 52] (by decide +kernel) (by decide +kernel)
set_option maxRecDepth 20000 in
theorem gX5_bore_X4_isHole : GoodIn wsX5_bore (wsV RX5 130 RX4 yX4_isHole wsX4_isHole) := goodIn_app (goodIn_of _ (by decide +kernel)) ggX5_bore_X4_isHole
set_option maxRecDepth 20000 in
theorem ggX5_bore_J6_bitCount_0f7a4 : GoodIn wsX5_bore wsJ6_bitCount_0f7a4 := goodIn_r _ [24, 25, 26, 27] (by decide +kernel) (by decide +kernel)
set_option maxRecDepth 20000 in
theorem gX5_bore_J6_bitCount_0f7a4 : GoodIn wsX5_bore (va_wsS RX5 162 yJ6_bitCount_0f7a4 wsJ6_bitCount_0f7a4) := goodIn_app (goodIn_of _ (by decide +kernel)) ggX5_bore_J6_bitCount_0f7a4
theorem dX5_bore_0 : decode cX5_bore 0 = .ok (.aload_n 0, 1) := by decide +kernel
theorem dX5_bore_1 : decode cX5_bore 1 = .ok (.getfield 19, 3) := by decide +kernel
theorem dX5_bore_4 : decode cX5_bore 4 = .ok (.iload_n 1, 1) := by decide +kernel
theorem dX5_bore_5 : decode cX5_bore 5 = .ok (.invokevirtual 127, 3) := by decide +kernel
theorem dX5_bore_8 : decode cX5_bore 8 = .ok (.ifCond .ne 6, 3) := by decide +kernel
theorem dX5_bore_11 : decode cX5_bore 11 = .ok (.bipush (-101), 2) := by decide +kernel
theorem dX5_bore_13 : decode cX5_bore 13 = .ok (.ireturn, 1) := by decide +kernel
theorem dX5_bore_14 : decode cX5_bore 14 = .ok (.aload_n 0, 1) := by decide +kernel
theorem dX5_bore_15 : decode cX5_bore 15 = .ok (.getfield 28, 3) := by decide +kernel
theorem dX5_bore_18 : decode cX5_bore 18 = .ok (.iload_n 1, 1) := by decide +kernel
theorem dX5_bore_19 : decode cX5_bore 19 = .ok (.invokevirtual 130, 3) := by decide +kernel
theorem dX5_bore_22 : decode cX5_bore 22 = .ok (.ifCond .eq 6, 3) := by decide +kernel
theorem dX5_bore_25 : decode cX5_bore 25 = .ok (.bipush (-103), 2) := by decide +kernel
theorem dX5_bore_27 : decode cX5_bore 27 = .ok (.ireturn, 1) := by decide +kernel
theorem dX5_bore_28 : decode cX5_bore 28 = .ok (.aload_n 0, 1) := by decide +kernel
theorem dX5_bore_29 : decode cX5_bore 29 = .ok (.getfield 28, 3) := by decide +kernel
theorem dX5_bore_32 : decode cX5_bore 32 = .ok (.dup, 1) := by decide +kernel
theorem dX5_bore_33 : decode cX5_bore 33 = .ok (.getfield 159, 3) := by decide +kernel
theorem dX5_bore_36 : decode cX5_bore 36 = .ok (.iconst 1, 1) := by decide +kernel
theorem dX5_bore_37 : decode cX5_bore 37 = .ok (.iload_n 1, 1) := by decide +kernel
theorem dX5_bore_38 : decode cX5_bore 38 = .ok (.ishl, 1) := by decide +kernel
theorem dX5_bore_39 : decode cX5_bore 39 = .ok (.ior, 1) := by decide +kernel
theorem dX5_bore_40 : decode cX5_bore 40 = .ok (.putfield 159, 3) := by decide +kernel
theorem dX5_bore_43 : decode cX5_bore 43 = .ok (.aload_n 0, 1) := by decide +kernel
theorem dX5_bore_44 : decode cX5_bore 44 = .ok (.iconst 0, 1) := by decide +kernel
theorem dX5_bore_45 : decode cX5_bore 45 = .ok (.putfield 92, 3) := by decide +kernel
theorem dX5_bore_48 : decode cX5_bore 48 = .ok (.aload_n 0, 1) := by decide +kernel
theorem dX5_bore_49 : decode cX5_bore 49 = .ok (.getfield 28, 3) := by decide +kernel
theorem dX5_bore_52 : decode cX5_bore 52 = .ok (.getfield 159, 3) := by decide +kernel
theorem dX5_bore_55 : decode cX5_bore 55 = .ok (.invokestatic 162, 3) := by decide +kernel
theorem dX5_bore_58 : decode cX5_bore 58 = .ok (.ireturn, 1) := by decide +kernel
set_option maxRecDepth 20000 in
theorem ggX5_be_X4_isPeg : GoodIn wsX5_be wsX4_isPeg := goodIn_r _ [7, 8, 32, 33, 34, 35, 36, 37, 38, 39] (by decide +kernel) (by decide +kernel)
set_option maxRecDepth 20000 in
theorem gX5_be_X4_isPeg : GoodIn wsX5_be (wsV RX5 101 RX4 yX4_isPeg wsX4_isPeg) := goodIn_app (goodIn_of _ (by decide +kernel)) ggX5_be_X4_isPeg
set_option maxRecDepth 20000 in
theorem ggX5_be_X4_kindOf : GoodIn wsX5_be wsX4_kindOf := goodIn_r _ [12, 13, 14, 4, 5, 6, 7, 8, 32, 33, 34, 35, 36, 37, 38, 39] (by decide +kernel) (by decide +kernel)
set_option maxRecDepth 20000 in
theorem gX5_be_X4_kindOf : GoodIn wsX5_be (wsV RX5 104 RX4 yX4_kindOf wsX4_kindOf) := goodIn_app (goodIn_of _ (by decide +kernel)) ggX5_be_X4_kindOf
set_option maxRecDepth 20000 in
theorem ggX5_be_X4_turn : GoodIn wsX5_be wsX4_turn := goodIn_r _ [18, 13, 14, 4, 5, 6, 7, 8, 32, 33, 34, 35, 36, 37, 38, 39] (by decide +kernel) (by decide +kernel)
set_option maxRecDepth 20000 in
theorem gX5_be_X4_turn : GoodIn wsX5_be (wsV RX5 167 RX4 yX4_turn wsX4_turn) := goodIn_app (goodIn_of _ (by decide +kernel)) ggX5_be_X4_turn
theorem dX5_be_0 : decode cX5_be 0 = .ok (.aload_n 0, 1) := by decide +kernel
theorem dX5_be_1 : decode cX5_be 1 = .ok (.getfield 28, 3) := by decide +kernel
theorem dX5_be_4 : decode cX5_be 4 = .ok (.iload_n 1, 1) := by decide +kernel
theorem dX5_be_5 : decode cX5_be 5 = .ok (.invokevirtual 101, 3) := by decide +kernel
theorem dX5_be_8 : decode cX5_be 8 = .ok (.ifCond .ne 6, 3) := by decide +kernel
theorem dX5_be_11 : decode cX5_be 11 = .ok (.bipush (-101), 2) := by decide +kernel
theorem dX5_be_13 : decode cX5_be 13 = .ok (.ireturn, 1) := by decide +kernel
theorem dX5_be_14 : decode cX5_be 14 = .ok (.iload_n 2, 1) := by decide +kernel
theorem dX5_be_15 : decode cX5_be 15 = .ok (.ifCond .lt 8, 3) := by decide +kernel
theorem dX5_be_18 : decode cX5_be 18 = .ok (.iload_n 2, 1) := by decide +kernel
theorem dX5_be_19 : decode cX5_be 19 = .ok (.iconst 5, 1) := by decide +kernel
theorem dX5_be_20 : decode cX5_be 20 = .ok (.if_icmp .lt 6, 3) := by decide +kernel
theorem dX5_be_23 : decode cX5_be 23 = .ok (.bipush (-102), 2) := by decide +kernel
theorem dX5_be_25 : decode cX5_be 25 = .ok (.ireturn, 1) := by decide +kernel
theorem dX5_be_26 : decode cX5_be 26 = .ok (.aload_n 0, 1) := by decide +kernel
theorem dX5_be_27 : decode cX5_be 27 = .ok (.getfield 28, 3) := by decide +kernel
theorem dX5_be_30 : decode cX5_be 30 = .ok (.iload_n 1, 1) := by decide +kernel
theorem dX5_be_31 : decode cX5_be 31 = .ok (.invokevirtual 104, 3) := by decide +kernel
theorem dX5_be_34 : decode cX5_be 34 = .ok (.istore_n 3, 1) := by decide +kernel
theorem dX5_be_35 : decode cX5_be 35 = .ok (.aload_n 0, 1) := by decide +kernel
theorem dX5_be_36 : decode cX5_be 36 = .ok (.getfield 28, 3) := by decide +kernel
theorem dX5_be_39 : decode cX5_be 39 = .ok (.iload_n 1, 1) := by decide +kernel
theorem dX5_be_40 : decode cX5_be 40 = .ok (.iload_n 2, 1) := by decide +kernel
theorem dX5_be_41 : decode cX5_be 41 = .ok (.invokevirtual 167, 3) := by decide +kernel
theorem dX5_be_44 : decode cX5_be 44 = .ok (.aload_n 0, 1) := by decide +kernel
theorem dX5_be_45 : decode cX5_be 45 = .ok (.iconst 0, 1) := by decide +kernel
theorem dX5_be_46 : decode cX5_be 46 = .ok (.putfield 92, 3) := by decide +kernel
theorem dX5_be_49 : decode cX5_be 49 = .ok (.iload_n 3, 1) := by decide +kernel
theorem dX5_be_50 : decode cX5_be 50 = .ok (.ireturn, 1) := by decide +kernel
set_option maxRecDepth 20000 in
theorem ggX5_courses_X5_lookAhead : GoodIn wsX5_courses wsX5_lookAhead := goodIn_r _ [7, 8, 9, 10, 11, 12, 13, 14, 15, 16, 17, 18, 19, 20, 21, 22, 23, 24, 25, 6, 26, 27, 28, 29, 30, 31, 32, 33, 34, 35, 36, 37, 38, 39, 40, 41, 42, 43, 44, 45, 46, 47, 48, 49, 50, 51, 52, 53, 54, 55, 56, 57, 58, 59, 60, 61, 62, 63, 64, 65, 66, 67, 68, 69, 70, 71, 72, 73, 74, 75, 76, 77, 78, 79, 80, 81, 82, 83, 84, 85, 86, 87, 88, 89, 90, 91, 92, 93, 94, 95, 96, 97, 98, 99, 100, 101, 102, 103, 104, 105, 106, 107, 108, 109, 110, 111, 112, 113, 114, 115, 116, 117, 118, 119, 120, 121, 122, 123, 124, 125, 126, 127, 128, 129, 130, 131, 132, 133, 134, 135, 136, 146, 147, 148, 149, 150, 151, 152, 153, 137, 138, 139, 140, 141, 142, 143, 144, 145, 154, 155, 156, 157] (by decide +kernel) (by decide +kernel)
set_option maxRecDepth 20000 in
theorem gX5_courses_X5_lookAhead : GoodIn wsX5_courses (wsV RX5 170 RX5 yX5_lookAhead wsX5_lookAhead) := goodIn_app (goodIn_of _ (by decide +kernel)) ggX5_courses_X5_lookAhead
theorem dX5_courses_0 : decode cX5_courses 0 = .ok (.iload_n 1, 1) := by decide +kernel
theorem dX5_courses_1 : decode cX5_courses 1 = .ok (.ifCond .lt 8, 3) := by decide +kernel
theorem dX5_courses_4 : decode cX5_courses 4 = .ok (.iload_n 1, 1) := by decide +kernel
theorem dX5_courses_5 : decode cX5_courses 5 = .ok (.iconst 5, 1) := by decide +kernel
theorem dX5_courses_6 : decode cX5_courses 6 = .ok (.if_icmp .le 6, 3) := by decide +kernel
theorem dX5_courses_9 : decode cX5_courses 9 = .ok (.bipush (-102), 2) := by decide +kernel
theorem dX5_courses_11 : decode cX5_courses 11 = .ok (.ireturn, 1) := by decide +kernel
theorem dX5_courses_12 : decode cX5_courses 12 = .ok (.aload_n 0, 1) := by decide +kernel
theorem dX5_courses_13 : decode cX5_courses 13 = .ok (.getfield 95, 3) := by decide +kernel
theorem dX5_courses_16 : decode cX5_courses 16 = .ok (.ifCond .ne 6, 3) := by decide +kernel
theorem dX5_courses_19 : decode cX5_courses 19 = .ok (.bipush (-103), 2) := by decide +kernel
theorem dX5_courses_21 : decode cX5_courses 21 = .ok (.ireturn, 1) := by decide +kernel
theorem dX5_courses_22 : decode cX5_courses 22 = .ok (.aload_n 0, 1) := by decide +kernel
theorem dX5_courses_23 : decode cX5_courses 23 = .ok (.invokevirtual 170, 3) := by decide +kernel
theorem dX5_courses_26 : decode cX5_courses 26 = .ok (.iload_n 1, 1) := by decide +kernel
theorem dX5_courses_27 : decode cX5_courses 27 = .ok (.tableswitch 73 0 4 #[33, 41, 49, 57, 65], 33) := by decide +kernel
theorem dX5_courses_60 : decode cX5_courses 60 = .ok (.aload_n 0, 1) := by decide +kernel
theorem dX5_courses_61 : decode cX5_courses 61 = .ok (.getfield 51, 3) := by decide +kernel
theorem dX5_courses_64 : decode cX5_courses 64 = .ok (.getfield 173, 3) := by decide +kernel
theorem dX5_courses_67 : decode cX5_courses 67 = .ok (.ireturn, 1) := by decide +kernel
theorem dX5_courses_68 : decode cX5_courses 68 = .ok (.aload_n 0, 1) := by decide +kernel
theorem dX5_courses_69 : decode cX5_courses 69 = .ok (.getfield 51, 3) := by decide +kernel
theorem dX5_courses_72 : decode cX5_courses 72 = .ok (.getfield 176, 3) := by decide +kernel
theorem dX5_courses_75 : decode cX5_courses 75 = .ok (.ireturn, 1) := by decide +kernel
theorem dX5_courses_76 : decode cX5_courses 76 = .ok (.aload_n 0, 1) := by decide +kernel
theorem dX5_courses_77 : decode cX5_courses 77 = .ok (.getfield 51, 3) := by decide +kernel
theorem dX5_courses_80 : decode cX5_courses 80 = .ok (.getfield 179, 3) := by decide +kernel
theorem dX5_courses_83 : decode cX5_courses 83 = .ok (.ireturn, 1) := by decide +kernel
theorem dX5_courses_84 : decode cX5_courses 84 = .ok (.aload_n 0, 1) := by decide +kernel
theorem dX5_courses_85 : decode cX5_courses 85 = .ok (.getfield 51, 3) := by decide +kernel
theorem dX5_courses_88 : decode cX5_courses 88 = .ok (.getfield 182, 3) := by decide +kernel
theorem dX5_courses_91 : decode cX5_courses 91 = .ok (.ireturn, 1) := by decide +kernel
theorem dX5_courses_92 : decode cX5_courses 92 = .ok (.aload_n 0, 1) := by decide +kernel
theorem dX5_courses_93 : decode cX5_courses 93 = .ok (.getfield 51, 3) := by decide +kernel
theorem dX5_courses_96 : decode cX5_courses 96 = .ok (.getfield 185, 3) := by decide +kernel
theorem dX5_courses_99 : decode cX5_courses 99 = .ok (.ireturn, 1) := by decide +kernel
theorem dX5_courses_100 : decode cX5_courses 100 = .ok (.aload_n 0, 1) := by decide +kernel
theorem dX5_courses_101 : decode cX5_courses 101 = .ok (.getfield 51, 3) := by decide +kernel
theorem dX5_courses_104 : decode cX5_courses 104 = .ok (.getfield 188, 3) := by decide +kernel
theorem dX5_courses_107 : decode cX5_courses 107 = .ok (.ireturn, 1) := by decide +kernel
set_option maxRecDepth 20000 in
theorem ggX5_wins_X5_lookAhead : GoodIn wsX5_wins wsX5_lookAhead := goodIn_r _ [7, 8, 9, 10, 11, 12, 13, 14, 15, 16, 17, 18, 19, 20, 21, 22, 23, 24, 25, 6, 26, 27, 28, 29, 30, 31, 32, 33, 34, 35, 36, 37, 38, 39, 40, 41, 42, 43, 44, 45, 46, 47, 48, 49, 50, 51, 52, 53, 54, 55, 56, 57, 58, 59, 60, 61, 62, 63, 64, 65, 66, 67, 68, 69, 70, 71, 72, 73, 74, 75, 76, 77, 78, 79, 80, 81, 82, 83, 84, 85, 86, 87, 88, 89, 90, 91, 92, 93, 94, 95, 96, 97, 98, 99, 100, 101, 102, 103, 104, 105, 106, 107, 108, 109, 110, 111, 112, 113, 114, 115, 116, 117, 118, 119, 120, 121, 122, 123, 124, 125, 126, 127, 128, 129, 130, 131, 132, 133, 134, 135, 136, 146, 147, 148, 149, 150, 151, 152, 153, 137, 138, 139, 140, 141, 142, 143, 144, 145, 154, 155, 156, 157] (by decide +kernel) (by decide +kernel)
set_option maxRecDepth 20000 in
theorem gX5_wins_X5_lookAhead : GoodIn wsX5_wins (wsV RX5 170 RX5 yX5_lookAhead wsX5_lookAhead) := goodIn_app (goodIn_of _ (by decide +kernel)) ggX5_wins_X5_lookAhead
theorem dX5_wins_0 : decode cX5_wins 0 = .ok (.iload_n 1, 1) := by decide +kernel
theorem dX5_wins_1 : decode cX5_wins 1 = .ok (.ifCond .lt 8, 3) := by decide +kernel
theorem dX5_wins_4 : decode cX5_wins 4 = .ok (.iload_n 1, 1) := by decide +kernel
theorem dX5_wins_5 : decode cX5_wins 5 = .ok (.iconst 1, 1) := by decide +kernel
theorem dX5_wins_6 : decode cX5_wins 6 = .ok (.if_icmp .le 6, 3) := by decide +kernel
theorem dX5_wins_9 : decode cX5_wins 9 = .ok (.bipush (-102), 2) := by decide +kernel
theorem dX5_wins_11 : decode cX5_wins 11 = .ok (.ireturn, 1) := by decide +kernel
theorem dX5_wins_12 : decode cX5_wins 12 = .ok (.aload_n 0, 1) := by decide +kernel
theorem dX5_wins_13 : decode cX5_wins 13 = .ok (.getfield 95, 3) := by decide +kernel
theorem dX5_wins_16 : decode cX5_wins 16 = .ok (.ifCond .ne 6, 3) := by decide +kernel
theorem dX5_wins_19 : decode cX5_wins 19 = .ok (.bipush (-103), 2) := by decide +kernel
theorem dX5_wins_21 : decode cX5_wins 21 = .ok (.ireturn, 1) := by decide +kernel
theorem dX5_wins_22 : decode cX5_wins 22 = .ok (.aload_n 0, 1) := by decide +kernel
theorem dX5_wins_23 : decode cX5_wins 23 = .ok (.invokevirtual 170, 3) := by decide +kernel
theorem dX5_wins_26 : decode cX5_wins 26 = .ok (.iload_n 1, 1) := by decide +kernel
theorem dX5_wins_27 : decode cX5_wins 27 = .ok (.iconst 1, 1) := by decide +kernel
theorem dX5_wins_28 : decode cX5_wins 28 = .ok (.if_icmp .ne 11, 3) := by decide +kernel
theorem dX5_wins_31 : decode cX5_wins 31 = .ok (.aload_n 0, 1) := by decide +kernel
theorem dX5_wins_32 : decode cX5_wins 32 = .ok (.getfield 51, 3) := by decide +kernel
theorem dX5_wins_35 : decode cX5_wins 35 = .ok (.getfield 191, 3) := by decide +kernel
theorem dX5_wins_38 : decode cX5_wins 38 = .ok (.ireturn, 1) := by decide +kernel
theorem dX5_wins_39 : decode cX5_wins 39 = .ok (.aload_n 0, 1) := by decide +kernel
theorem dX5_wins_40 : decode cX5_wins 40 = .ok (.getfield 51, 3) := by decide +kernel
theorem dX5_wins_43 : decode cX5_wins 43 = .ok (.getfield 191, 3) := by decide +kernel
theorem dX5_wins_46 : decode cX5_wins 46 = .ok (.iconst (-1), 1) := by decide +kernel
theorem dX5_wins_47 : decode cX5_wins 47 = .ok (.if_icmp .ne 7, 3) := by decide +kernel
theorem dX5_wins_50 : decode cX5_wins 50 = .ok (.iconst 0, 1) := by decide +kernel
theorem dX5_wins_51 : decode cX5_wins 51 = .ok (.goto 4, 3) := by decide +kernel
theorem dX5_wins_54 : decode cX5_wins 54 = .ok (.iconst 1, 1) := by decide +kernel
theorem dX5_wins_55 : decode cX5_wins 55 = .ok (.ireturn, 1) := by decide +kernel
set_option maxRecDepth 20000 in
theorem ggX5_add_X4_isEmptyHole : GoodIn wsX5_add wsX4_isEmptyHole := goodIn_r _ [9, 10, 11, 12, 13, 14, 15, 16, 17, 18, 19, 20, 21, 147, 148, 149, 150, 151, 152, 153, 154, 155, 156, 157, 158] (by decide +kernel) (by decide +kernel)
set_option maxRecDepth 20000 in
theorem gX5_add_X4_isEmptyHole : GoodIn wsX5_add (wsV RX5 153 RX4 yX4_isEmptyHole wsX4_isEmptyHole) := goodIn_app (goodIn_of _ (by decide +kernel)) ggX5_add_X4_isEmptyHole
set_option maxRecDepth 20000 in
theorem ggX5_add_X5_fewestWithOneMore : GoodIn wsX5_add wsX5_fewestWithOneMore := goodIn_r _ [25, 26, 4, 27, 28, 29, 30, 31, 8, 32, 11, 33, 34, 35, 36, 37, 12, 38, 39, 40, 41, 42, 43, 44, 45, 46, 47, 48, 49, 10, 50, 51, 52, 53, 13, 14, 15, 16, 17, 18, 54, 55, 20, 56, 57, 58, 59, 60, 61, 62, 63, 64, 65, 66, 67, 68, 69, 70, 71, 72, 73, 74, 75, 76, 77, 78, 79, 80, 81, 82, 83, 84, 85, 86, 87, 88, 89, 90, 91, 92, 93, 94, 95, 96, 19, 21, 97, 98, 99, 100, 6, 7, 9, 101, 102, 103, 104, 105, 106, 107, 108, 109, 110, 111, 112, 113, 114, 115, 116, 117, 118, 119, 120, 121, 122, 123, 124, 125, 126, 127, 128, 129, 130, 131, 132, 133, 134, 135, 136, 137, 138, 139, 140, 141, 142, 143, 144, 145, 146, 159, 160, 161, 162, 163, 164, 165, 166, 167, 147, 148, 149, 150, 151, 152, 153, 154, 155, 156, 157, 158] (by decide +kernel) (by decide +kernel)
set_option maxRecDepth 20000 in
theorem gX5_add_X5_fewestWithOneMore : GoodIn wsX5_add (wsV RX5 197 RX5 yX5_fewestWithOneMore wsX5_fewestWithOneMore) := goodIn_app (goodIn_of _ (by decide +kernel)) ggX5_add_X5_fewestWithOneMore
theorem dX5_add_0 : decode cX5_add 0 = .ok (.aload_n 0, 1) := by decide +kernel
theorem dX5_add_1 : decode cX5_add 1 = .ok (.getfield 95, 3) := by decide +kernel
theorem dX5_add_4 : decode cX5_add 4 = .ok (.ifCond .eq 12, 3) := by decide +kernel
theorem dX5_add_7 : decode cX5_add 7 = .ok (.aload_n 0, 1) := by decide +kernel
theorem dX5_add_8 : decode cX5_add 8 = .ok (.getfield 194, 3) := by decide +kernel
theorem dX5_add_11 : decode cX5_add 11 = .ok (.bipush 12, 2) := by decide +kernel
theorem dX5_add_13 : decode cX5_add 13 = .ok (.if_icmp .lt 6, 3) := by decide +kernel
theorem dX5_add_16 : decode cX5_add 16 = .ok (.bipush (-103), 2) := by decide +kernel
theorem dX5_add_18 : decode cX5_add 18 = .ok (.ireturn, 1) := by decide +kernel
theorem dX5_add_19 : decode cX5_add 19 = .ok (.aload_n 0, 1) := by decide +kernel
theorem dX5_add_20 : decode cX5_add 20 = .ok (.dup, 1) := by decide +kernel
theorem dX5_add_21 : decode cX5_add 21 = .ok (.getfield 194, 3) := by decide +kernel
theorem dX5_add_24 : decode cX5_add 24 = .ok (.iconst 1, 1) := by decide +kernel
theorem dX5_add_25 : decode cX5_add 25 = .ok (.iadd, 1) := by decide +kernel
theorem dX5_add_26 : decode cX5_add 26 = .ok (.putfield 194, 3) := by decide +kernel
theorem dX5_add_29 : decode cX5_add 29 = .ok (.aload_n 0, 1) := by decide +kernel
theorem dX5_add_30 : decode cX5_add 30 = .ok (.iconst 0, 1) := by decide +kernel
theorem dX5_add_31 : decode cX5_add 31 = .ok (.putfield 92, 3) := by decide +kernel
theorem dX5_add_34 : decode cX5_add 34 = .ok (.iconst 0, 1) := by decide +kernel
theorem dX5_add_35 : decode cX5_add 35 = .ok (.istore_n 1, 1) := by decide +kernel
theorem dX5_add_36 : decode cX5_add 36 = .ok (.iload_n 1, 1) := by decide +kernel
theorem dX5_add_37 : decode cX5_add 37 = .ok (.bipush 12, 2) := by decide +kernel
theorem dX5_add_39 : decode cX5_add 39 = .ok (.if_icmp .ge 31, 3) := by decide +kernel
theorem dX5_add_42 : decode cX5_add 42 = .ok (.aload_n 0, 1) := by decide +kernel
theorem dX5_add_43 : decode cX5_add 43 = .ok (.getfield 28, 3) := by decide +kernel
theorem dX5_add_46 : decode cX5_add 46 = .ok (.iload_n 1, 1) := by decide +kernel
theorem dX5_add_47 : decode cX5_add 47 = .ok (.invokevirtual 153, 3) := by decide +kernel
theorem dX5_add_50 : decode cX5_add 50 = .ok (.ifCond .eq 14, 3) := by decide +kernel
theorem dX5_add_53 : decode cX5_add 53 = .ok (.aload_n 0, 1) := by decide +kernel
theorem dX5_add_54 : decode cX5_add 54 = .ok (.iload_n 1, 1) := by decide +kernel
theorem dX5_add_55 : decode cX5_add 55 = .ok (.invokevirtual 197, 3) := by decide +kernel
theorem dX5_add_58 : decode cX5_add 58 = .ok (.iconst 1, 1) := by decide +kernel
theorem dX5_add_59 : decode cX5_add 59 = .ok (.if_icmp .ne 5, 3) := by decide +kernel
theorem dX5_add_62 : decode cX5_add 62 = .ok (.iload_n 1, 1) := by decide +kernel
theorem dX5_add_63 : decode cX5_add 63 = .ok (.ireturn, 1) := by decide +kernel
theorem dX5_add_64 : decode cX5_add 64 = .ok (.iinc 1 1, 3) := by decide +kernel
theorem dX5_add_67 : decode cX5_add 67 = .ok (.goto (-31), 3) := by decide +kernel
theorem dX5_add_70 : decode cX5_add 70 = .ok (.iconst (-1), 1) := by decide +kernel
theorem dX5_add_71 : decode cX5_add 71 = .ok (.ireturn, 1) := by decide +kernel
set_option maxRecDepth 20000 in
theorem ggX5_mean_X5_lookAhead : GoodIn wsX5_mean wsX5_lookAhead := goodIn_r _ [7, 8, 9, 10, 11, 12, 13, 14, 15, 16, 17, 18, 19, 20, 21, 22, 23, 24, 25, 6, 26, 27, 28, 29, 30, 31, 32, 33, 34, 35, 36, 37, 38, 39, 40, 41, 42, 43, 44, 45, 46, 47, 48, 49, 50, 51, 52, 53, 54, 55, 56, 57, 58, 59, 60, 61, 62, 63, 64, 65, 66, 67, 68, 69, 70, 71, 72, 73, 74, 75, 76, 77, 78, 79, 80, 81, 82, 83, 84, 85, 86, 87, 88, 89, 90, 91, 92, 93, 94, 95, 96, 97, 98, 99, 100, 101, 102, 103, 104, 105, 106, 107, 108, 109, 110, 111, 112, 113, 114, 115, 116, 117, 118, 119, 120, 121, 122, 123, 124, 125, 126, 127, 128, 129, 130, 131, 132, 133, 134, 135, 136, 146, 147, 148, 149, 150, 151, 152, 153, 137, 138, 139, 140, 141, 142, 143, 144, 145, 154, 155, 156, 157] (by decide +kernel) (by decide +kernel)
set_option maxRecDepth 20000 in
theorem gX5_mean_X5_lookAhead : GoodIn wsX5_mean (wsV RX5 170 RX5 yX5_lookAhead wsX5_lookAhead) := goodIn_app (goodIn_of _ (by decide +kernel)) ggX5_mean_X5_lookAhead
theorem dX5_mean_0 : decode cX5_mean 0 = .ok (.aload_n 0, 1) := by decide +kernel
theorem dX5_mean_1 : decode cX5_mean 1 = .ok (.getfield 95, 3) := by decide +kernel
theorem dX5_mean_4 : decode cX5_mean 4 = .ok (.ifCond .ne 6, 3) := by decide +kernel
theorem dX5_mean_7 : decode cX5_mean 7 = .ok (.bipush (-103), 2) := by decide +kernel
theorem dX5_mean_9 : decode cX5_mean 9 = .ok (.ireturn, 1) := by decide +kernel
theorem dX5_mean_10 : decode cX5_mean 10 = .ok (.aload_n 0, 1) := by decide +kernel
theorem dX5_mean_11 : decode cX5_mean 11 = .ok (.invokevirtual 170, 3) := by decide +kernel
theorem dX5_mean_14 : decode cX5_mean 14 = .ok (.aload_n 0, 1) := by decide +kernel
theorem dX5_mean_15 : decode cX5_mean 15 = .ok (.getfield 51, 3) := by decide +kernel
theorem dX5_mean_18 : decode cX5_mean 18 = .ok (.getfield 200, 3) := by decide +kernel
theorem dX5_mean_21 : decode cX5_mean 21 = .ok (.ireturn, 1) := by decide +kernel
set_option maxRecDepth 20000 in
theorem ggX5_see_X4_isPeg : GoodIn wsX5_see wsX4_isPeg := goodIn_r _ [8, 9, 34, 35, 36, 37, 38, 39, 40, 41] (by decide +kernel) (by decide +kernel)
set_option maxRecDepth 20000 in
theorem gX5_see_X4_isPeg : GoodIn wsX5_see (wsV RX5 101 RX4 yX4_isPeg wsX4_isPeg) := goodIn_app (goodIn_of _ (by decide +kernel)) ggX5_see_X4_isPeg
set_option maxRecDepth 20000 in
theorem ggX5_see_X3_append : GoodIn wsX5_see wsX3_append := goodIn_r _ [14, 15, 16, 17, 31, 32, 33] (by decide +kernel) (by decide +kernel)
set_option maxRecDepth 20000 in
theorem gX5_see_X3_append : GoodIn wsX5_see (wsV RX5 206 RX3 yX3_append wsX3_append) := goodIn_app (goodIn_of _ (by decide +kernel)) ggX5_see_X3_append
theorem dX5_see_0 : decode cX5_see 0 = .ok (.aload_n 0, 1) := by decide +kernel
theorem dX5_see_1 : decode cX5_see 1 = .ok (.getfield 28, 3) := by decide +kernel
theorem dX5_see_4 : decode cX5_see 4 = .ok (.iload_n 1, 1) := by decide +kernel
theorem dX5_see_5 : decode cX5_see 5 = .ok (.invokevirtual 101, 3) := by decide +kernel
theorem dX5_see_8 : decode cX5_see 8 = .ok (.ifCond .ne 6, 3) := by decide +kernel
theorem dX5_see_11 : decode cX5_see 11 = .ok (.bipush (-101), 2) := by decide +kernel
theorem dX5_see_13 : decode cX5_see 13 = .ok (.ireturn, 1) := by decide +kernel
theorem dX5_see_14 : decode cX5_see 14 = .ok (.iload_n 2, 1) := by decide +kernel
theorem dX5_see_15 : decode cX5_see 15 = .ok (.ifCond .lt 8, 3) := by decide +kernel
theorem dX5_see_18 : decode cX5_see 18 = .ok (.iload_n 2, 1) := by decide +kernel
theorem dX5_see_19 : decode cX5_see 19 = .ok (.iconst 4, 1) := by decide +kernel
theorem dX5_see_20 : decode cX5_see 20 = .ok (.if_icmp .lt 6, 3) := by decide +kernel
theorem dX5_see_23 : decode cX5_see 23 = .ok (.bipush (-102), 2) := by decide +kernel
theorem dX5_see_25 : decode cX5_see 25 = .ok (.ireturn, 1) := by decide +kernel
theorem dX5_see_26 : decode cX5_see 26 = .ok (.iload_n 3, 1) := by decide +kernel
theorem dX5_see_27 : decode cX5_see 27 = .ok (.ifCond .eq 11, 3) := by decide +kernel
theorem dX5_see_30 : decode cX5_see 30 = .ok (.getstatic 203, 3) := by decide +kernel
theorem dX5_see_33 : decode cX5_see 33 = .ok (.iload_n 2, 1) := by decide +kernel
theorem dX5_see_34 : decode cX5_see 34 = .ok (.iaload, 1) := by decide +kernel
theorem dX5_see_35 : decode cX5_see 35 = .ok (.goto 13, 3) := by decide +kernel
theorem dX5_see_38 : decode cX5_see 38 = .ok (.bipush 31, 2) := by decide +kernel
theorem dX5_see_40 : decode cX5_see 40 = .ok (.getstatic 203, 3) := by decide +kernel
theorem dX5_see_43 : decode cX5_see 43 = .ok (.iload_n 2, 1) := by decide +kernel
theorem dX5_see_44 : decode cX5_see 44 = .ok (.iaload, 1) := by decide +kernel
theorem dX5_see_45 : decode cX5_see 45 = .ok (.iconst (-1), 1) := by decide +kernel
theorem dX5_see_46 : decode cX5_see 46 = .ok (.ixor, 1) := by decide +kernel
theorem dX5_see_47 : decode cX5_see 47 = .ok (.iand, 1) := by decide +kernel
theorem dX5_see_48 : decode cX5_see 48 = .ok (.istore 4, 2) := by decide +kernel
theorem dX5_see_50 : decode cX5_see 50 = .ok (.aload_n 0, 1) := by decide +kernel
theorem dX5_see_51 : decode cX5_see 51 = .ok (.getfield 35, 3) := by decide +kernel
theorem dX5_see_54 : decode cX5_see 54 = .ok (.iload_n 1, 1) := by decide +kernel
theorem dX5_see_55 : decode cX5_see 55 = .ok (.iload 4, 2) := by decide +kernel
theorem dX5_see_57 : decode cX5_see 57 = .ok (.invokevirtual 206, 3) := by decide +kernel
theorem dX5_see_60 : decode cX5_see 60 = .ok (.ifCond .eq 13, 3) := by decide +kernel
theorem dX5_see_63 : decode cX5_see 63 = .ok (.aload_n 0, 1) := by decide +kernel
theorem dX5_see_64 : decode cX5_see 64 = .ok (.getfield 35, 3) := by decide +kernel
theorem dX5_see_67 : decode cX5_see 67 = .ok (.getfield 87, 3) := by decide +kernel
theorem dX5_see_70 : decode cX5_see 70 = .ok (.goto 5, 3) := by decide +kernel
theorem dX5_see_73 : decode cX5_see 73 = .ok (.bipush (-104), 2) := by decide +kernel
theorem dX5_see_75 : decode cX5_see 75 = .ok (.ireturn, 1) := by decide +kernel
theorem dX5_forget_0 : decode cX5_forget 0 = .ok (.aload_n 0, 1) := by decide +kernel
theorem dX5_forget_1 : decode cX5_forget 1 = .ok (.getfield 35, 3) := by decide +kernel
theorem dX5_forget_4 : decode cX5_forget 4 = .ok (.getfield 87, 3) := by decide +kernel
theorem dX5_forget_7 : decode cX5_forget 7 = .ok (.istore_n 1, 1) := by decide +kernel
theorem dX5_forget_8 : decode cX5_forget 8 = .ok (.aload_n 0, 1) := by decide +kernel
theorem dX5_forget_9 : decode cX5_forget 9 = .ok (.getfield 35, 3) := by decide +kernel
theorem dX5_forget_12 : decode cX5_forget 12 = .ok (.iconst 0, 1) := by decide +kernel
theorem dX5_forget_13 : decode cX5_forget 13 = .ok (.putfield 87, 3) := by decide +kernel
theorem dX5_forget_16 : decode cX5_forget 16 = .ok (.iload_n 1, 1) := by decide +kernel
theorem dX5_forget_17 : decode cX5_forget 17 = .ok (.ireturn, 1) := by decide +kernel
set_option maxRecDepth 20000 in
theorem ggX5_runs_X4_copyFrom : GoodIn wsX5_runs wsX4_copyFrom := goodIn_r _ [9, 10, 11, 12, 13, 14, 15, 16, 118, 119, 120, 121, 122, 123, 124, 125] (by decide +kernel) (by decide +kernel)
set_option maxRecDepth 20000 in
theorem gX5_runs_X4_copyFrom : GoodIn wsX5_runs (wsV RX5 208 RX4 yX4_copyFrom wsX4_copyFrom) := goodIn_app (goodIn_of _ (by decide +kernel)) ggX5_runs_X4_copyFrom
set_option maxRecDepth 20000 in
theorem ggX5_runs_X4_choices : GoodIn wsX5_runs wsX4_choices := goodIn_r _ [20, 11, 21, 22, 23, 8, 24, 25, 26, 27, 28, 29, 30, 31, 32, 33, 15, 34, 35, 36, 37, 38, 39, 40, 41, 42, 43, 44, 45, 46, 47, 48, 49, 50, 51, 52, 16, 53, 54, 55, 56, 57, 14, 58, 59, 60, 61, 62, 63, 64, 65, 66, 67, 68, 69, 70, 71, 10, 72, 73, 74, 75, 76, 77, 78, 118, 119, 120, 121, 122, 123, 124, 125, 126, 127, 128, 129] (by decide +kernel) (by decide +kernel)
set_option maxRecDepth 20000 in
theorem gX5_runs_X4_choices : GoodIn wsX5_runs (wsV RX5 212 RX4 yX4_choices wsX4_choices) := goodIn_app (goodIn_of _ (by decide +kernel)) ggX5_runs_X4_choices
set_option maxRecDepth 20000 in
theorem ggX5_runs_X5_nextSeed : GoodIn wsX5_runs wsX5_nextSeed := goodIn_r _ [81, 82, 83, 84] (by decide +kernel) (by decide +kernel)
set_option maxRecDepth 20000 in
theorem gX5_runs_X5_nextSeed : GoodIn wsX5_runs (va_wsS RX5 215 yX5_nextSeed wsX5_nextSeed) := goodIn_app (goodIn_of _ (by decide +kernel)) ggX5_runs_X5_nextSeed
set_option maxRecDepth 20000 in
theorem ggX5_runs_X4_leapByChoice : GoodIn wsX5_runs wsX4_leapByChoice := goodIn_r _ [88, 11, 25, 26, 27, 8, 28, 29, 30, 31, 32, 33, 15, 34, 35, 36, 37, 38, 39, 40, 41, 42, 43, 44, 45, 46, 47, 48, 49, 50, 51, 52, 16, 53, 54, 55, 56, 57, 14, 58, 59, 60, 61, 62, 63, 64, 65, 66, 67, 68, 69, 70, 71, 10, 89, 90, 91, 92, 93, 94, 95, 96, 97, 98, 99, 100, 12, 101, 102, 103, 104, 118, 119, 120, 121, 122, 123, 124, 125, 126, 127, 128, 129] (by decide +kernel) (by decide +kernel)
set_option maxRecDepth 20000 in
theorem gX5_runs_X4_leapByChoice : GoodIn wsX5_runs (wsV RX5 221 RX4 yX4_leapByChoice wsX4_leapByChoice) := goodIn_app (goodIn_of _ (by decide +kernel)) ggX5_runs_X4_leapByChoice
theorem dX5_runs_0 : decode cX5_runs 0 = .ok (.iload_n 1, 1) := by decide +kernel
theorem dX5_runs_1 : decode cX5_runs 1 = .ok (.iconst 1, 1) := by decide +kernel
theorem dX5_runs_2 : decode cX5_runs 2 = .ok (.if_icmp .lt 22, 3) := by decide +kernel
theorem dX5_runs_5 : decode cX5_runs 5 = .ok (.iload_n 1, 1) := by decide +kernel
theorem dX5_runs_6 : decode cX5_runs 6 = .ok (.bipush 40, 2) := by decide +kernel
theorem dX5_runs_8 : decode cX5_runs 8 = .ok (.if_icmp .gt 16, 3) := by decide +kernel
theorem dX5_runs_11 : decode cX5_runs 11 = .ok (.iload_n 2, 1) := by decide +kernel
theorem dX5_runs_12 : decode cX5_runs 12 = .ok (.ifCond .lt 12, 3) := by decide +kernel
theorem dX5_runs_15 : decode cX5_runs 15 = .ok (.iload_n 3, 1) := by decide +kernel
theorem dX5_runs_16 : decode cX5_runs 16 = .ok (.ifCond .lt 8, 3) := by decide +kernel
theorem dX5_runs_19 : decode cX5_runs 19 = .ok (.iload_n 3, 1) := by decide +kernel
theorem dX5_runs_20 : decode cX5_runs 20 = .ok (.iconst 2, 1) := by decide +kernel
theorem dX5_runs_21 : decode cX5_runs 21 = .ok (.if_icmp .le 6, 3) := by decide +kernel
theorem dX5_runs_24 : decode cX5_runs 24 = .ok (.bipush (-102), 2) := by decide +kernel
theorem dX5_runs_26 : decode cX5_runs 26 = .ok (.ireturn, 1) := by decide +kernel
theorem dX5_runs_27 : decode cX5_runs 27 = .ok (.aload_n 0, 1) := by decide +kernel
theorem dX5_runs_28 : decode cX5_runs 28 = .ok (.getfield 95, 3) := by decide +kernel
theorem dX5_runs_31 : decode cX5_runs 31 = .ok (.ifCond .ne 6, 3) := by decide +kernel
theorem dX5_runs_34 : decode cX5_runs 34 = .ok (.bipush (-103), 2) := by decide +kernel
theorem dX5_runs_36 : decode cX5_runs 36 = .ok (.ireturn, 1) := by decide +kernel
theorem dX5_runs_37 : decode cX5_runs 37 = .ok (.iload_n 2, 1) := by decide +kernel
theorem dX5_runs_38 : decode cX5_runs 38 = .ok (.i2l, 1) := by decide +kernel
theorem dX5_runs_39 : decode cX5_runs 39 = .ok (.lstore 4, 2) := by decide +kernel
theorem dX5_runs_41 : decode cX5_runs 41 = .ok (.iconst 0, 1) := by decide +kernel
theorem dX5_runs_42 : decode cX5_runs 42 = .ok (.istore 6, 2) := by decide +kernel
theorem dX5_runs_44 : decode cX5_runs 44 = .ok (.iconst 0, 1) := by decide +kernel
theorem dX5_runs_45 : decode cX5_runs 45 = .ok (.istore 7, 2) := by decide +kernel
theorem dX5_runs_47 : decode cX5_runs 47 = .ok (.iconst 0, 1) := by decide +kernel
theorem dX5_runs_48 : decode cX5_runs 48 = .ok (.istore 8, 2) := by decide +kernel
theorem dX5_runs_50 : decode cX5_runs 50 = .ok (.iload 8, 2) := by decide +kernel
theorem dX5_runs_52 : decode cX5_runs 52 = .ok (.iload_n 1, 1) := by decide +kernel
theorem dX5_runs_53 : decode cX5_runs 53 = .ok (.if_icmp .ge 101, 3) := by decide +kernel
theorem dX5_runs_56 : decode cX5_runs 56 = .ok (.aload_n 0, 1) := by decide +kernel
theorem dX5_runs_57 : decode cX5_runs 57 = .ok (.getfield 45, 3) := by decide +kernel
theorem dX5_runs_60 : decode cX5_runs 60 = .ok (.aload_n 0, 1) := by decide +kernel
theorem dX5_runs_61 : decode cX5_runs 61 = .ok (.getfield 28, 3) := by decide +kernel
theorem dX5_runs_64 : decode cX5_runs 64 = .ok (.invokevirtual 208, 3) := by decide +kernel
theorem dX5_runs_67 : decode cX5_runs 67 = .ok (.aload_n 0, 1) := by decide +kernel
theorem dX5_runs_68 : decode cX5_runs 68 = .ok (.getfield 45, 3) := by decide +kernel
theorem dX5_runs_71 : decode cX5_runs 71 = .ok (.invokevirtual 212, 3) := by decide +kernel
theorem dX5_runs_74 : decode cX5_runs 74 = .ok (.istore 9, 2) := by decide +kernel
theorem dX5_runs_76 : decode cX5_runs 76 = .ok (.iconst 0, 1) := by decide +kernel
theorem dX5_runs_77 : decode cX5_runs 77 = .ok (.istore 10, 2) := by decide +kernel
theorem dX5_runs_79 : decode cX5_runs 79 = .ok (.iload 10, 2) := by decide +kernel
theorem dX5_runs_81 : decode cX5_runs 81 = .ok (.bipush 7, 2) := by decide +kernel
theorem dX5_runs_83 : decode cX5_runs 83 = .ok (.if_icmp .ge 51, 3) := by decide +kernel
theorem dX5_runs_86 : decode cX5_runs 86 = .ok (.iload 9, 2) := by decide +kernel
theorem dX5_runs_88 : decode cX5_runs 88 = .ok (.ifCond .le 46, 3) := by decide +kernel
theorem dX5_runs_91 : decode cX5_runs 91 = .ok (.lload 4, 2) := by decide +kernel
theorem dX5_runs_93 : decode cX5_runs 93 = .ok (.invokestatic 215, 3) := by decide +kernel
theorem dX5_runs_96 : decode cX5_runs 96 = .ok (.lstore 4, 2) := by decide +kernel
theorem dX5_runs_98 : decode cX5_runs 98 = .ok (.aload_n 0, 1) := by decide +kernel
theorem dX5_runs_99 : decode cX5_runs 99 = .ok (.getfield 45, 3) := by decide +kernel
theorem dX5_runs_102 : decode cX5_runs 102 = .ok (.lload 4, 2) := by decide +kernel
theorem dX5_runs_104 : decode cX5_runs 104 = .ok (.ldc2_w 219, 3) := by decide +kernel
theorem dX5_runs_107 : decode cX5_runs 107 = .ok (.ldiv, 1) := by decide +kernel
theorem dX5_runs_108 : decode cX5_runs 108 = .ok (.iload 9, 2) := by decide +kernel
theorem dX5_runs_110 : decode cX5_runs 110 = .ok (.i2l, 1) := by decide +kernel
theorem dX5_runs_111 : decode cX5_runs 111 = .ok (.lrem, 1) := by decide +kernel
theorem dX5_runs_112 : decode cX5_runs 112 = .ok (.l2i, 1) := by decide +kernel
theorem dX5_runs_113 : decode cX5_runs 113 = .ok (.invokevirtual 221, 3) := by decide +kernel
theorem dX5_runs_116 : decode cX5_runs 116 = .ok (.iinc 6 1, 3) := by decide +kernel
theorem dX5_runs_119 : decode cX5_runs 119 = .ok (.aload_n 0, 1) := by decide +kernel
theorem dX5_runs_120 : decode cX5_runs 120 = .ok (.getfield 45, 3) := by decide +kernel
theorem dX5_runs_123 : decode cX5_runs 123 = .ok (.invokevirtual 212, 3) := by decide +kernel
theorem dX5_runs_126 : decode cX5_runs 126 = .ok (.istore 9, 2) := by decide +kernel
theorem dX5_runs_128 : decode cX5_runs 128 = .ok (.iinc 10 1, 3) := by decide +kernel
theorem dX5_runs_131 : decode cX5_runs 131 = .ok (.goto (-52), 3) := by decide +kernel
theorem dX5_runs_134 : decode cX5_runs 134 = .ok (.aload_n 0, 1) := by decide +kernel
theorem dX5_runs_135 : decode cX5_runs 135 = .ok (.getfield 45, 3) := by decide +kernel
theorem dX5_runs_138 : decode cX5_runs 138 = .ok (.getfield 150, 3) := by decide +kernel
theorem dX5_runs_141 : decode cX5_runs 141 = .ok (.iconst 1, 1) := by decide +kernel
theorem dX5_runs_142 : decode cX5_runs 142 = .ok (.if_icmp .ne 6, 3) := by decide +kernel
theorem dX5_runs_145 : decode cX5_runs 145 = .ok (.iinc 7 1, 3) := by decide +kernel
theorem dX5_runs_148 : decode cX5_runs 148 = .ok (.iinc 8 1, 3) := by decide +kernel
theorem dX5_runs_151 : decode cX5_runs 151 = .ok (.goto (-101), 3) := by decide +kernel
theorem dX5_runs_154 : decode cX5_runs 154 = .ok (.iload_n 3, 1) := by decide +kernel
theorem dX5_runs_155 : decode cX5_runs 155 = .ok (.ifCond .ne 8, 3) := by decide +kernel
theorem dX5_runs_158 : decode cX5_runs 158 = .ok (.iload 6, 2) := by decide +kernel
theorem dX5_runs_160 : decode cX5_runs 160 = .ok (.goto 16, 3) := by decide +kernel
theorem dX5_runs_163 : decode cX5_runs 163 = .ok (.iload_n 3, 1) := by decide +kernel
theorem dX5_runs_164 : decode cX5_runs 164 = .ok (.iconst 1, 1) := by decide +kernel
theorem dX5_runs_165 : decode cX5_runs 165 = .ok (.if_icmp .ne 8, 3) := by decide +kernel
theorem dX5_runs_168 : decode cX5_runs 168 = .ok (.iload 7, 2) := by decide +kernel
theorem dX5_runs_170 : decode cX5_runs 170 = .ok (.goto 6, 3) := by decide +kernel
theorem dX5_runs_173 : decode cX5_runs 173 = .ok (.lload 4, 2) := by decide +kernel
theorem dX5_runs_175 : decode cX5_runs 175 = .ok (.l2i, 1) := by decide +kernel
theorem dX5_runs_176 : decode cX5_runs 176 = .ok (.ireturn, 1) := by decide +kernel
set_option maxRecDepth 20000 in
theorem ggX5_image_X4_copyFrom : GoodIn wsX5_image wsX4_copyFrom := goodIn_r _ [11, 12, 13, 14, 15, 16, 17, 18, 40, 41, 42, 43, 44, 45, 46, 47] (by decide +kernel) (by decide +kernel)
set_option maxRecDepth 20000 in
theorem gX5_image_X4_copyFrom : GoodIn wsX5_image (wsV RX5 208 RX4 yX4_copyFrom wsX4_copyFrom) := goodIn_app (goodIn_of _ (by decide +kernel)) ggX5_image_X4_copyFrom
set_option maxRecDepth 20000 in
theorem ggX5_image_X3_copyFrom : GoodIn wsX5_image wsX3_copyFrom := goodIn_r _ [23, 24, 25, 26, 48, 49, 50] (by decide +kernel) (by decide +kernel)
set_option maxRecDepth 20000 in
theorem gX5_image_X3_copyFrom : GoodIn wsX5_image (wsV RX5 225 RX3 yX3_copyFrom wsX3_copyFrom) := goodIn_app (goodIn_of _ (by decide +kernel)) ggX5_image_X3_copyFrom
theorem dX5_image_0 : decode cX5_image 0 = .ok (.aload_n 0, 1) := by decide +kernel
theorem dX5_image_1 : decode cX5_image 1 = .ok (.getfield 95, 3) := by decide +kernel
theorem dX5_image_4 : decode cX5_image 4 = .ok (.ifCond .ne 6, 3) := by decide +kernel
theorem dX5_image_7 : decode cX5_image 7 = .ok (.bipush (-103), 2) := by decide +kernel
theorem dX5_image_9 : decode cX5_image 9 = .ok (.ireturn, 1) := by decide +kernel
theorem dX5_image_10 : decode cX5_image 10 = .ok (.aload_n 0, 1) := by decide +kernel
theorem dX5_image_11 : decode cX5_image 11 = .ok (.getfield 39, 3) := by decide +kernel
theorem dX5_image_14 : decode cX5_image 14 = .ok (.aload_n 0, 1) := by decide +kernel
theorem dX5_image_15 : decode cX5_image 15 = .ok (.getfield 28, 3) := by decide +kernel
theorem dX5_image_18 : decode cX5_image 18 = .ok (.invokevirtual 208, 3) := by decide +kernel
theorem dX5_image_21 : decode cX5_image 21 = .ok (.aload_n 0, 1) := by decide +kernel
theorem dX5_image_22 : decode cX5_image 22 = .ok (.getfield 42, 3) := by decide +kernel
theorem dX5_image_25 : decode cX5_image 25 = .ok (.aload_n 0, 1) := by decide +kernel
theorem dX5_image_26 : decode cX5_image 26 = .ok (.getfield 35, 3) := by decide +kernel
theorem dX5_image_29 : decode cX5_image 29 = .ok (.invokevirtual 225, 3) := by decide +kernel
theorem dX5_image_32 : decode cX5_image 32 = .ok (.aload_n 0, 1) := by decide +kernel
theorem dX5_image_33 : decode cX5_image 33 = .ok (.iconst 1, 1) := by decide +kernel
theorem dX5_image_34 : decode cX5_image 34 = .ok (.putfield 88, 3) := by decide +kernel
theorem dX5_image_37 : decode cX5_image 37 = .ok (.aload_n 0, 1) := by decide +kernel
theorem dX5_image_38 : decode cX5_image 38 = .ok (.getfield 28, 3) := by decide +kernel
theorem dX5_image_41 : decode cX5_image 41 = .ok (.getfield 140, 3) := by decide +kernel
theorem dX5_image_44 : decode cX5_image 44 = .ok (.ireturn, 1) := by decide +kernel
set_option maxRecDepth 20000 in
theorem ggX5_restore_X4_copyFrom : GoodIn wsX5_restore wsX4_copyFrom := goodIn_r _ [11, 12, 13, 14, 15, 16, 17, 18, 40, 41, 42, 43, 44, 45, 46, 47] (by decide +kernel) (by decide +kernel)
set_option maxRecDepth 20000 in
theorem gX5_restore_X4_copyFrom : GoodIn wsX5_restore (wsV RX5 208 RX4 yX4_copyFrom wsX4_copyFrom) := goodIn_app (goodIn_of _ (by decide +kernel)) ggX5_restore_X4_copyFrom
set_option maxRecDepth 20000 in
theorem ggX5_restore_X3_copyFrom : GoodIn wsX5_restore wsX3_copyFrom := goodIn_r _ [23, 24, 25, 26, 48, 49, 50] (by decide +kernel) (by decide +kernel)
set_option maxRecDepth 20000 in
theorem gX5_restore_X3_copyFrom : GoodIn wsX5_restore (wsV RX5 225 RX3 yX3_copyFrom wsX3_copyFrom) := goodIn_app (goodIn_of _ (by decide +kernel)) ggX5_restore_X3_copyFrom
theorem dX5_restore_0 : decode cX5_restore 0 = .ok (.aload_n 0, 1) := by decide +kernel
theorem dX5_restore_1 : decode cX5_restore 1 = .ok (.getfield 88, 3) := by decide +kernel
theorem dX5_restore_4 : decode cX5_restore 4 = .ok (.ifCond .ne 6, 3) := by decide +kernel
theorem dX5_restore_7 : decode cX5_restore 7 = .ok (.bipush (-103), 2) := by decide +kernel
theorem dX5_restore_9 : decode cX5_restore 9 = .ok (.ireturn, 1) := by decide +kernel
theorem dX5_restore_10 : decode cX5_restore 10 = .ok (.aload_n 0, 1) := by decide +kernel
theorem dX5_restore_11 : decode cX5_restore 11 = .ok (.getfield 28, 3) := by decide +kernel
theorem dX5_restore_14 : decode cX5_restore 14 = .ok (.aload_n 0, 1) := by decide +kernel
theorem dX5_restore_15 : decode cX5_restore 15 = .ok (.getfield 39, 3) := by decide +kernel
theorem dX5_restore_18 : decode cX5_restore 18 = .ok (.invokevirtual 208, 3) := by decide +kernel
theorem dX5_restore_21 : decode cX5_restore 21 = .ok (.aload_n 0, 1) := by decide +kernel
theorem dX5_restore_22 : decode cX5_restore 22 = .ok (.getfield 35, 3) := by decide +kernel
theorem dX5_restore_25 : decode cX5_restore 25 = .ok (.aload_n 0, 1) := by decide +kernel
theorem dX5_restore_26 : decode cX5_restore 26 = .ok (.getfield 42, 3) := by decide +kernel
theorem dX5_restore_29 : decode cX5_restore 29 = .ok (.invokevirtual 225, 3) := by decide +kernel
theorem dX5_restore_32 : decode cX5_restore 32 = .ok (.aload_n 0, 1) := by decide +kernel
theorem dX5_restore_33 : decode cX5_restore 33 = .ok (.iconst 0, 1) := by decide +kernel
theorem dX5_restore_34 : decode cX5_restore 34 = .ok (.putfield 92, 3) := by decide +kernel
theorem dX5_restore_37 : decode cX5_restore 37 = .ok (.aload_n 0, 1) := by decide +kernel
theorem dX5_restore_38 : decode cX5_restore 38 = .ok (.getfield 28, 3) := by decide +kernel
theorem dX5_restore_41 : decode cX5_restore 41 = .ok (.getfield 140, 3) := by decide +kernel
theorem dX5_restore_44 : decode cX5_restore 44 = .ok (.ireturn, 1) := by decide +kernel
set_option maxRecDepth 20000 in
theorem ggX5_count_J6_bitCount_0f7a4 : GoodIn wsX5_count wsJ6_bitCount_0f7a4 := goodIn_r _ [10, 11, 12, 13] (by decide +kernel) (by decide +kernel)
set_option maxRecDepth 20000 in
theorem gX5_count_J6_bitCount_0f7a4 : GoodIn wsX5_count (va_wsS RX5 162 yJ6_bitCount_0f7a4 wsJ6_bitCount_0f7a4) := goodIn_app (goodIn_of _ (by decide +kernel)) ggX5_count_J6_bitCount_0f7a4
set_option maxRecDepth 20000 in
theorem ggX5_count_X4_choices : GoodIn wsX5_count wsX4_choices := goodIn_r _ [18, 19, 20, 21, 22, 17, 23, 24, 25, 26, 27, 28, 29, 30, 31, 32, 33, 34, 35, 36, 37, 38, 39, 40, 41, 42, 43, 44, 45, 46, 47, 48, 49, 50, 51, 52, 53, 54, 55, 56, 57, 58, 59, 60, 61, 62, 63, 64, 65, 66, 67, 68, 69, 70, 71, 72, 73, 74, 75, 8, 9, 10, 11, 12, 13, 93, 94, 95, 96, 97, 98, 99, 100, 89, 90, 91, 92] (by decide +kernel) (by decide +kernel)
set_option maxRecDepth 20000 in
theorem gX5_count_X4_choices : GoodIn wsX5_count (wsV RX5 212 RX4 yX4_choices wsX4_choices) := goodIn_app (goodIn_of _ (by decide +kernel)) ggX5_count_X4_choices
theorem dX5_count_0 : decode cX5_count 0 = .ok (.iload_n 1, 1) := by decide +kernel
theorem dX5_count_1 : decode cX5_count 1 = .ok (.tableswitch 144 0 10 #[59, 67, 75, 86, 94, 102, 110, 118, 126, 134, 139], 59) := by decide +kernel
theorem dX5_count_60 : decode cX5_count 60 = .ok (.aload_n 0, 1) := by decide +kernel
theorem dX5_count_61 : decode cX5_count 61 = .ok (.getfield 19, 3) := by decide +kernel
theorem dX5_count_64 : decode cX5_count 64 = .ok (.getfield 228, 3) := by decide +kernel
theorem dX5_count_67 : decode cX5_count 67 = .ok (.ireturn, 1) := by decide +kernel
theorem dX5_count_68 : decode cX5_count 68 = .ok (.aload_n 0, 1) := by decide +kernel
theorem dX5_count_69 : decode cX5_count 69 = .ok (.getfield 19, 3) := by decide +kernel
theorem dX5_count_72 : decode cX5_count 72 = .ok (.getfield 231, 3) := by decide +kernel
theorem dX5_count_75 : decode cX5_count 75 = .ok (.ireturn, 1) := by decide +kernel
theorem dX5_count_76 : decode cX5_count 76 = .ok (.aload_n 0, 1) := by decide +kernel
theorem dX5_count_77 : decode cX5_count 77 = .ok (.getfield 28, 3) := by decide +kernel
theorem dX5_count_80 : decode cX5_count 80 = .ok (.getfield 159, 3) := by decide +kernel
theorem dX5_count_83 : decode cX5_count 83 = .ok (.invokestatic 162, 3) := by decide +kernel
theorem dX5_count_86 : decode cX5_count 86 = .ok (.ireturn, 1) := by decide +kernel
theorem dX5_count_87 : decode cX5_count 87 = .ok (.aload_n 0, 1) := by decide +kernel
theorem dX5_count_88 : decode cX5_count 88 = .ok (.getfield 28, 3) := by decide +kernel
theorem dX5_count_91 : decode cX5_count 91 = .ok (.getfield 98, 3) := by decide +kernel
theorem dX5_count_94 : decode cX5_count 94 = .ok (.ireturn, 1) := by decide +kernel
theorem dX5_count_95 : decode cX5_count 95 = .ok (.aload_n 0, 1) := by decide +kernel
theorem dX5_count_96 : decode cX5_count 96 = .ok (.getfield 28, 3) := by decide +kernel
theorem dX5_count_99 : decode cX5_count 99 = .ok (.getfield 150, 3) := by decide +kernel
theorem dX5_count_102 : decode cX5_count 102 = .ok (.ireturn, 1) := by decide +kernel
theorem dX5_count_103 : decode cX5_count 103 = .ok (.aload_n 0, 1) := by decide +kernel
theorem dX5_count_104 : decode cX5_count 104 = .ok (.getfield 28, 3) := by decide +kernel
theorem dX5_count_107 : decode cX5_count 107 = .ok (.invokevirtual 212, 3) := by decide +kernel
theorem dX5_count_110 : decode cX5_count 110 = .ok (.ireturn, 1) := by decide +kernel
theorem dX5_count_111 : decode cX5_count 111 = .ok (.aload_n 0, 1) := by decide +kernel
theorem dX5_count_112 : decode cX5_count 112 = .ok (.getfield 28, 3) := by decide +kernel
theorem dX5_count_115 : decode cX5_count 115 = .ok (.getfield 140, 3) := by decide +kernel
theorem dX5_count_118 : decode cX5_count 118 = .ok (.ireturn, 1) := by decide +kernel
theorem dX5_count_119 : decode cX5_count 119 = .ok (.aload_n 0, 1) := by decide +kernel
theorem dX5_count_120 : decode cX5_count 120 = .ok (.getfield 35, 3) := by decide +kernel
theorem dX5_count_123 : decode cX5_count 123 = .ok (.getfield 87, 3) := by decide +kernel
theorem dX5_count_126 : decode cX5_count 126 = .ok (.ireturn, 1) := by decide +kernel
theorem dX5_count_127 : decode cX5_count 127 = .ok (.aload_n 0, 1) := by decide +kernel
theorem dX5_count_128 : decode cX5_count 128 = .ok (.getfield 12, 3) := by decide +kernel
theorem dX5_count_131 : decode cX5_count 131 = .ok (.getfield 63, 3) := by decide +kernel
theorem dX5_count_134 : decode cX5_count 134 = .ok (.ireturn, 1) := by decide +kernel
theorem dX5_count_135 : decode cX5_count 135 = .ok (.aload_n 0, 1) := by decide +kernel
theorem dX5_count_136 : decode cX5_count 136 = .ok (.getfield 95, 3) := by decide +kernel
theorem dX5_count_139 : decode cX5_count 139 = .ok (.ireturn, 1) := by decide +kernel
theorem dX5_count_140 : decode cX5_count 140 = .ok (.aload_n 0, 1) := by decide +kernel
theorem dX5_count_141 : decode cX5_count 141 = .ok (.getfield 194, 3) := by decide +kernel
theorem dX5_count_144 : decode cX5_count 144 = .ok (.ireturn, 1) := by decide +kernel
theorem dX5_count_145 : decode cX5_count 145 = .ok (.bipush (-102), 2) := by decide +kernel
theorem dX5_count_147 : decode cX5_count 147 = .ok (.ireturn, 1) := by decide +kernel
set_option maxRecDepth 20000 in
theorem ggX5_digest_X5_peg : GoodIn wsX5_digest wsX5_peg := goodIn_r _ [11, 2, 12, 13, 14, 15, 16, 17, 18, 19, 20, 21, 22, 23, 24, 25, 26, 27, 28, 29, 30, 31, 32, 33, 34, 35, 36, 37, 38, 39, 40, 41, 42, 43, 44, 45, 46, 47, 48, 49, 50, 51, 52, 53, 54, 55, 56, 57, 58, 10, 59, 60, 61, 62, 63, 64, 65, 66, 67, 68, 69, 70, 71, 72, 73, 74, 75, 76, 77, 78, 79, 80, 81, 82, 83, 84, 85, 86, 87, 88, 89, 90, 91, 92, 93, 199, 200, 201, 202, 203, 204, 205, 206, 207, 208, 209, 210, 211, 212, 213, 214, 215, 216, 217, 218, 219, 220, 221, 222, 223, 226, 227, 228] (by decide +kernel) (by decide +kernel)
set_option maxRecDepth 20000 in
theorem gX5_digest_X5_peg : GoodIn wsX5_digest (wsV RX5 238 RX5 yX5_peg wsX5_peg) := goodIn_app (goodIn_of _ (by decide +kernel)) ggX5_digest_X5_peg
set_option maxRecDepth 20000 in
theorem ggX5_digest_X5_place : GoodIn wsX5_digest wsX5_place := goodIn_r _ [97, 4, 2, 98, 47, 48, 43, 49, 50, 99, 100, 101, 16, 102, 38, 71, 56, 62, 10, 63, 103, 52, 53, 54, 55, 199, 200, 201, 202, 203, 204, 205, 206, 207, 208, 209, 210, 211, 220, 221, 222, 223, 212, 213, 214, 215, 216, 217, 218, 219] (by decide +kernel) (by decide +kernel)
set_option maxRecDepth 20000 in
theorem gX5_digest_X5_place : GoodIn wsX5_digest (wsV RX5 244 RX5 yX5_place wsX5_place) := goodIn_app (goodIn_of _ (by decide +kernel)) ggX5_digest_X5_place
set_option maxRecDepth 20000 in
theorem ggX5_digest_X5_courses : GoodIn wsX5_digest wsX5_courses := goodIn_r _ [107, 5, 108, 109, 110, 111, 10, 112, 113, 114, 2, 115, 116, 117, 118, 16, 119, 71, 18, 120, 121, 23, 29, 55, 122, 123, 124, 125, 126, 127, 128, 129, 130, 131, 132, 133, 134, 135, 136, 137, 138, 139, 35, 36, 37, 38, 39, 26, 27, 28, 24, 14, 15, 17, 40, 41, 42, 43, 44, 45, 46, 47, 48, 49, 50, 51, 52, 53, 54, 56, 57, 20, 21, 22, 58, 59, 60, 61, 62, 63, 64, 65, 66, 67, 68, 69, 70, 25, 140, 141, 142, 143, 144, 145, 146, 147, 148, 149, 150, 151, 152, 153, 154, 155, 156, 157, 158, 159, 160, 161, 162, 163, 164, 84, 85, 86, 165, 166, 167, 168, 169, 170, 171, 172, 199, 200, 201, 202, 203, 204, 205, 206, 207, 208, 209, 210, 211, 229, 230, 231, 232, 233, 234, 235, 236, 237, 212, 213, 214, 215, 216, 217, 218, 219, 220, 221, 222, 223] (by decide +kernel) (by decide +kernel)
set_option maxRecDepth 20000 in
theorem gX5_digest_X5_courses : GoodIn wsX5_digest (wsV RX5 247 RX5 yX5_courses wsX5_courses) := goodIn_app (goodIn_of _ (by decide +kernel)) ggX5_digest_X5_courses
set_option maxRecDepth 20000 in
theorem ggX5_digest_X5_wins : GoodIn wsX5_digest wsX5_wins := goodIn_r _ [176, 5, 108, 109, 110, 111, 10, 112, 113, 114, 2, 115, 116, 117, 118, 16, 119, 71, 18, 120, 121, 23, 29, 55, 122, 123, 124, 125, 126, 127, 128, 129, 130, 131, 132, 133, 134, 135, 136, 137, 138, 139, 35, 36, 37, 38, 39, 26, 27, 28, 24, 14, 15, 17, 40, 41, 42, 43, 44, 45, 46, 47, 48, 49, 50, 51, 52, 53, 54, 56, 57, 20, 21, 22, 58, 59, 60, 61, 62, 63, 64, 65, 66, 67, 68, 69, 70, 25, 140, 141, 142, 143, 144, 145, 146, 147, 148, 149, 150, 151, 152, 153, 154, 155, 156, 157, 158, 159, 160, 161, 162, 163, 164, 84, 85, 86, 165, 166, 167, 168, 169, 170, 171, 172, 199, 200, 201, 202, 203, 204, 205, 206, 207, 208, 209, 210, 211, 229, 230, 231, 232, 233, 234, 235, 236, 237, 212, 213, 214, 215, 216, 217, 218, 219, 220, 221, 222, 223] (by decide +kernel) (by decide +kernel)
set_option maxRecDepth 20000 in
theorem gX5_digest_X5_wins : GoodIn wsX5_digest (wsV RX5 250 RX5 yX5_wins wsX5_wins) := goodIn_app (goodIn_of _ (by decide +kernel)) ggX5_digest_X5_wins
set_option maxRecDepth 20000 in
theorem ggX5_digest_X5_mean : GoodIn wsX5_digest wsX5_mean := goodIn_r _ [180, 5, 108, 109, 110, 111, 10, 112, 113, 114, 2, 115, 116, 117, 118, 16, 119, 71, 18, 120, 121, 23, 29, 55, 122, 123, 124, 125, 126, 127, 128, 129, 130, 131, 132, 133, 134, 135, 136, 137, 138, 139, 35, 36, 37, 38, 39, 26, 27, 28, 24, 14, 15, 17, 40, 41, 42, 43, 44, 45, 46, 47, 48, 49, 50, 51, 52, 53, 54, 56, 57, 20, 21, 22, 58, 59, 60, 61, 62, 63, 64, 65, 66, 67, 68, 69, 70, 25, 140, 141, 142, 143, 144, 145, 146, 147, 148, 149, 150, 151, 152, 153, 154, 155, 156, 157, 158, 159, 160, 161, 162, 163, 164, 84, 85, 86, 165, 166, 167, 168, 169, 170, 171, 172, 199, 200, 201, 202, 203, 204, 205, 206, 207, 208, 209, 210, 211, 229, 230, 231, 232, 233, 234, 235, 236, 237, 212, 213, 214, 215, 216, 217, 218, 219, 220, 221, 222, 223] (by decide +kernel) (by decide +kernel)
set_option maxRecDepth 20000 in
theorem gX5_digest_X5_mean : GoodIn wsX5_digest (wsV RX5 253 RX5 yX5_mean wsX5_mean) := goodIn_app (goodIn_of _ (by decide +kernel)) ggX5_digest_X5_mean
set_option maxRecDepth 20000 in
theorem ggX5_digest_X2_codeAt : GoodIn wsX5_digest wsX2_codeAt := goodIn_r _ [185, 186, 187, 224, 225] (by decide +kernel) (by decide +kernel)
set_option maxRecDepth 20000 in
theorem gX5_digest_X2_codeAt : GoodIn wsX5_digest (wsV RX5 255 RX2 yX2_codeAt wsX2_codeAt) := goodIn_app (goodIn_of _ (by decide +kernel)) ggX5_digest_X2_codeAt
set_option maxRecDepth 20000 in
theorem ggX5_digest_X5_count : GoodIn wsX5_digest wsX5_count := goodIn_r _ [191, 4, 2, 12, 6, 5, 192, 87, 88, 89, 90, 91, 92, 93, 193, 194, 195, 16, 196, 18, 197, 31, 32, 33, 34, 35, 36, 37, 38, 39, 26, 27, 28, 29, 24, 14, 15, 17, 40, 41, 42, 43, 44, 45, 46, 47, 48, 49, 50, 51, 52, 53, 54, 55, 56, 57, 20, 21, 22, 23, 58, 10, 59, 60, 61, 62, 63, 64, 65, 66, 67, 68, 69, 70, 71, 198, 199, 200, 201, 202, 203, 204, 205, 206, 207, 208, 209, 210, 211, 220, 221, 222, 223, 212, 213, 214, 215, 216, 217, 218, 219, 226, 227, 228, 224, 225] (by decide +kernel) (by decide +kernel)
set_option maxRecDepth 20000 in
theorem gX5_digest_X5_count : GoodIn wsX5_digest (wsV RX5 258 RX5 yX5_count wsX5_count) := goodIn_app (goodIn_of _ (by decide +kernel)) ggX5_digest_X5_count
theorem dX5_digest_0 : decode cX5_digest 0 = .ok (.ldc2_w 234, 3) := by decide +kernel
theorem dX5_digest_3 : decode cX5_digest 3 = .ok (.lstore_n 1, 1) := by decide +kernel
theorem dX5_digest_4 : decode cX5_digest 4 = .ok (.iconst 0, 1) := by decide +kernel
theorem dX5_digest_5 : decode cX5_digest 5 = .ok (.istore_n 3, 1) := by decide +kernel
theorem dX5_digest_6 : decode cX5_digest 6 = .ok (.iload_n 3, 1) := by decide +kernel
theorem dX5_digest_7 : decode cX5_digest 7 = .ok (.aload_n 0, 1) := by decide +kernel
theorem dX5_digest_8 : decode cX5_digest 8 = .ok (.getfield 28, 3) := by decide +kernel
theorem dX5_digest_11 : decode cX5_digest 11 = .ok (.getfield 98, 3) := by decide +kernel
theorem dX5_digest_14 : decode cX5_digest 14 = .ok (.if_icmp .ge 39, 3) := by decide +kernel
theorem dX5_digest_17 : decode cX5_digest 17 = .ok (.iconst 0, 1) := by decide +kernel
theorem dX5_digest_18 : decode cX5_digest 18 = .ok (.istore 4, 2) := by decide +kernel
theorem dX5_digest_20 : decode cX5_digest 20 = .ok (.iload 4, 2) := by decide +kernel
theorem dX5_digest_22 : decode cX5_digest 22 = .ok (.iconst 4, 1) := by decide +kernel
theorem dX5_digest_23 : decode cX5_digest 23 = .ok (.if_icmp .gt 24, 3) := by decide +kernel
theorem dX5_digest_26 : decode cX5_digest 26 = .ok (.ldc2_w 236, 3) := by decide +kernel
theorem dX5_digest_29 : decode cX5_digest 29 = .ok (.lload_n 1, 1) := by decide +kernel
theorem dX5_digest_30 : decode cX5_digest 30 = .ok (.lmul, 1) := by decide +kernel
theorem dX5_digest_31 : decode cX5_digest 31 = .ok (.aload_n 0, 1) := by decide +kernel
theorem dX5_digest_32 : decode cX5_digest 32 = .ok (.iload_n 3, 1) := by decide +kernel
theorem dX5_digest_33 : decode cX5_digest 33 = .ok (.iload 4, 2) := by decide +kernel
theorem dX5_digest_35 : decode cX5_digest 35 = .ok (.invokevirtual 238, 3) := by decide +kernel
theorem dX5_digest_38 : decode cX5_digest 38 = .ok (.i2l, 1) := by decide +kernel
theorem dX5_digest_39 : decode cX5_digest 39 = .ok (.ladd, 1) := by decide +kernel
theorem dX5_digest_40 : decode cX5_digest 40 = .ok (.lstore_n 1, 1) := by decide +kernel
theorem dX5_digest_41 : decode cX5_digest 41 = .ok (.iinc 4 1, 3) := by decide +kernel
theorem dX5_digest_44 : decode cX5_digest 44 = .ok (.goto (-24), 3) := by decide +kernel
theorem dX5_digest_47 : decode cX5_digest 47 = .ok (.iinc 3 1, 3) := by decide +kernel
theorem dX5_digest_50 : decode cX5_digest 50 = .ok (.goto (-44), 3) := by decide +kernel
theorem dX5_digest_53 : decode cX5_digest 53 = .ok (.iconst 0, 1) := by decide +kernel
theorem dX5_digest_54 : decode cX5_digest 54 = .ok (.istore_n 3, 1) := by decide +kernel
theorem dX5_digest_55 : decode cX5_digest 55 = .ok (.iload_n 3, 1) := by decide +kernel
theorem dX5_digest_56 : decode cX5_digest 56 = .ok (.aload_n 0, 1) := by decide +kernel
theorem dX5_digest_57 : decode cX5_digest 57 = .ok (.getfield 19, 3) := by decide +kernel
theorem dX5_digest_60 : decode cX5_digest 60 = .ok (.getfield 241, 3) := by decide +kernel
theorem dX5_digest_63 : decode cX5_digest 63 = .ok (.if_icmp .ge 37, 3) := by decide +kernel
theorem dX5_digest_66 : decode cX5_digest 66 = .ok (.ldc2_w 236, 3) := by decide +kernel
theorem dX5_digest_69 : decode cX5_digest 69 = .ok (.lload_n 1, 1) := by decide +kernel
theorem dX5_digest_70 : decode cX5_digest 70 = .ok (.lmul, 1) := by decide +kernel
theorem dX5_digest_71 : decode cX5_digest 71 = .ok (.aload_n 0, 1) := by decide +kernel
theorem dX5_digest_72 : decode cX5_digest 72 = .ok (.iload_n 3, 1) := by decide +kernel
theorem dX5_digest_73 : decode cX5_digest 73 = .ok (.iconst 0, 1) := by decide +kernel
theorem dX5_digest_74 : decode cX5_digest 74 = .ok (.invokevirtual 244, 3) := by decide +kernel
theorem dX5_digest_77 : decode cX5_digest 77 = .ok (.i2l, 1) := by decide +kernel
theorem dX5_digest_78 : decode cX5_digest 78 = .ok (.ladd, 1) := by decide +kernel
theorem dX5_digest_79 : decode cX5_digest 79 = .ok (.lstore_n 1, 1) := by decide +kernel
theorem dX5_digest_80 : decode cX5_digest 80 = .ok (.ldc2_w 236, 3) := by decide +kernel
theorem dX5_digest_83 : decode cX5_digest 83 = .ok (.lload_n 1, 1) := by decide +kernel
theorem dX5_digest_84 : decode cX5_digest 84 = .ok (.lmul, 1) := by decide +kernel
theorem dX5_digest_85 : decode cX5_digest 85 = .ok (.aload_n 0, 1) := by decide +kernel
theorem dX5_digest_86 : decode cX5_digest 86 = .ok (.iload_n 3, 1) := by decide +kernel
theorem dX5_digest_87 : decode cX5_digest 87 = .ok (.iconst 1, 1) := by decide +kernel
theorem dX5_digest_88 : decode cX5_digest 88 = .ok (.invokevirtual 244, 3) := by decide +kernel
theorem dX5_digest_91 : decode cX5_digest 91 = .ok (.i2l, 1) := by decide +kernel
theorem dX5_digest_92 : decode cX5_digest 92 = .ok (.ladd, 1) := by decide +kernel
theorem dX5_digest_93 : decode cX5_digest 93 = .ok (.lstore_n 1, 1) := by decide +kernel
theorem dX5_digest_94 : decode cX5_digest 94 = .ok (.iinc 3 1, 3) := by decide +kernel
theorem dX5_digest_97 : decode cX5_digest 97 = .ok (.goto (-42), 3) := by decide +kernel
theorem dX5_digest_100 : decode cX5_digest 100 = .ok (.aload_n 0, 1) := by decide +kernel
theorem dX5_digest_101 : decode cX5_digest 101 = .ok (.getfield 95, 3) := by decide +kernel
theorem dX5_digest_104 : decode cX5_digest 104 = .ok (.ifCond .le 67, 3) := by decide +kernel
theorem dX5_digest_107 : decode cX5_digest 107 = .ok (.iconst 0, 1) := by decide +kernel
theorem dX5_digest_108 : decode cX5_digest 108 = .ok (.istore_n 3, 1) := by decide +kernel
theorem dX5_digest_109 : decode cX5_digest 109 = .ok (.iload_n 3, 1) := by decide +kernel
theorem dX5_digest_110 : decode cX5_digest 110 = .ok (.iconst 5, 1) := by decide +kernel
theorem dX5_digest_111 : decode cX5_digest 111 = .ok (.if_icmp .gt 22, 3) := by decide +kernel
theorem dX5_digest_114 : decode cX5_digest 114 = .ok (.ldc2_w 236, 3) := by decide +kernel
theorem dX5_digest_117 : decode cX5_digest 117 = .ok (.lload_n 1, 1) := by decide +kernel
theorem dX5_digest_118 : decode cX5_digest 118 = .ok (.lmul, 1) := by decide +kernel
theorem dX5_digest_119 : decode cX5_digest 119 = .ok (.aload_n 0, 1) := by decide +kernel
theorem dX5_digest_120 : decode cX5_digest 120 = .ok (.iload_n 3, 1) := by decide +kernel
theorem dX5_digest_121 : decode cX5_digest 121 = .ok (.invokevirtual 247, 3) := by decide +kernel
theorem dX5_digest_124 : decode cX5_digest 124 = .ok (.i2l, 1) := by decide +kernel
theorem dX5_digest_125 : decode cX5_digest 125 = .ok (.ladd, 1) := by decide +kernel
theorem dX5_digest_126 : decode cX5_digest 126 = .ok (.lstore_n 1, 1) := by decide +kernel
theorem dX5_digest_127 : decode cX5_digest 127 = .ok (.iinc 3 1, 3) := by decide +kernel
theorem dX5_digest_130 : decode cX5_digest 130 = .ok (.goto (-21), 3) := by decide +kernel
theorem dX5_digest_133 : decode cX5_digest 133 = .ok (.ldc2_w 236, 3) := by decide +kernel
theorem dX5_digest_136 : decode cX5_digest 136 = .ok (.lload_n 1, 1) := by decide +kernel
theorem dX5_digest_137 : decode cX5_digest 137 = .ok (.lmul, 1) := by decide +kernel
theorem dX5_digest_138 : decode cX5_digest 138 = .ok (.aload_n 0, 1) := by decide +kernel
theorem dX5_digest_139 : decode cX5_digest 139 = .ok (.iconst 0, 1) := by decide +kernel
theorem dX5_digest_140 : decode cX5_digest 140 = .ok (.invokevirtual 250, 3) := by decide +kernel
theorem dX5_digest_143 : decode cX5_digest 143 = .ok (.i2l, 1) := by decide +kernel
theorem dX5_digest_144 : decode cX5_digest 144 = .ok (.ladd, 1) := by decide +kernel
theorem dX5_digest_145 : decode cX5_digest 145 = .ok (.lstore_n 1, 1) := by decide +kernel
theorem dX5_digest_146 : decode cX5_digest 146 = .ok (.ldc2_w 236, 3) := by decide +kernel
theorem dX5_digest_149 : decode cX5_digest 149 = .ok (.lload_n 1, 1) := by decide +kernel
theorem dX5_digest_150 : decode cX5_digest 150 = .ok (.lmul, 1) := by decide +kernel
theorem dX5_digest_151 : decode cX5_digest 151 = .ok (.aload_n 0, 1) := by decide +kernel
theorem dX5_digest_152 : decode cX5_digest 152 = .ok (.iconst 1, 1) := by decide +kernel
theorem dX5_digest_153 : decode cX5_digest 153 = .ok (.invokevirtual 250, 3) := by decide +kernel
theorem dX5_digest_156 : decode cX5_digest 156 = .ok (.i2l, 1) := by decide +kernel
theorem dX5_digest_157 : decode cX5_digest 157 = .ok (.ladd, 1) := by decide +kernel
theorem dX5_digest_158 : decode cX5_digest 158 = .ok (.lstore_n 1, 1) := by decide +kernel
theorem dX5_digest_159 : decode cX5_digest 159 = .ok (.ldc2_w 236, 3) := by decide +kernel
theorem dX5_digest_162 : decode cX5_digest 162 = .ok (.lload_n 1, 1) := by decide +kernel
theorem dX5_digest_163 : decode cX5_digest 163 = .ok (.lmul, 1) := by decide +kernel
theorem dX5_digest_164 : decode cX5_digest 164 = .ok (.aload_n 0, 1) := by decide +kernel
theorem dX5_digest_165 : decode cX5_digest 165 = .ok (.invokevirtual 253, 3) := by decide +kernel
theorem dX5_digest_168 : decode cX5_digest 168 = .ok (.i2l, 1) := by decide +kernel
theorem dX5_digest_169 : decode cX5_digest 169 = .ok (.ladd, 1) := by decide +kernel
theorem dX5_digest_170 : decode cX5_digest 170 = .ok (.lstore_n 1, 1) := by decide +kernel
theorem dX5_digest_171 : decode cX5_digest 171 = .ok (.iconst 0, 1) := by decide +kernel
theorem dX5_digest_172 : decode cX5_digest 172 = .ok (.istore_n 3, 1) := by decide +kernel
theorem dX5_digest_173 : decode cX5_digest 173 = .ok (.iload_n 3, 1) := by decide +kernel
theorem dX5_digest_174 : decode cX5_digest 174 = .ok (.aload_n 0, 1) := by decide +kernel
theorem dX5_digest_175 : decode cX5_digest 175 = .ok (.getfield 12, 3) := by decide +kernel
theorem dX5_digest_178 : decode cX5_digest 178 = .ok (.getfield 63, 3) := by decide +kernel
theorem dX5_digest_181 : decode cX5_digest 181 = .ok (.if_icmp .ge 25, 3) := by decide +kernel
theorem dX5_digest_184 : decode cX5_digest 184 = .ok (.ldc2_w 236, 3) := by decide +kernel
theorem dX5_digest_187 : decode cX5_digest 187 = .ok (.lload_n 1, 1) := by decide +kernel
theorem dX5_digest_188 : decode cX5_digest 188 = .ok (.lmul, 1) := by decide +kernel
theorem dX5_digest_189 : decode cX5_digest 189 = .ok (.aload_n 0, 1) := by decide +kernel
theorem dX5_digest_190 : decode cX5_digest 190 = .ok (.getfield 12, 3) := by decide +kernel
theorem dX5_digest_193 : decode cX5_digest 193 = .ok (.iload_n 3, 1) := by decide +kernel
theorem dX5_digest_194 : decode cX5_digest 194 = .ok (.invokevirtual 255, 3) := by decide +kernel
theorem dX5_digest_197 : decode cX5_digest 197 = .ok (.i2l, 1) := by decide +kernel
theorem dX5_digest_198 : decode cX5_digest 198 = .ok (.ladd, 1) := by decide +kernel
theorem dX5_digest_199 : decode cX5_digest 199 = .ok (.lstore_n 1, 1) := by decide +kernel
theorem dX5_digest_200 : decode cX5_digest 200 = .ok (.iinc 3 1, 3) := by decide +kernel
theorem dX5_digest_203 : decode cX5_digest 203 = .ok (.goto (-30), 3) := by decide +kernel
theorem dX5_digest_206 : decode cX5_digest 206 = .ok (.iconst 0, 1) := by decide +kernel
theorem dX5_digest_207 : decode cX5_digest 207 = .ok (.istore_n 3, 1) := by decide +kernel
theorem dX5_digest_208 : decode cX5_digest 208 = .ok (.iload_n 3, 1) := by decide +kernel
theorem dX5_digest_209 : decode cX5_digest 209 = .ok (.bipush 10, 2) := by decide +kernel
theorem dX5_digest_211 : decode cX5_digest 211 = .ok (.if_icmp .gt 22, 3) := by decide +kernel
theorem dX5_digest_214 : decode cX5_digest 214 = .ok (.ldc2_w 236, 3) := by decide +kernel
theorem dX5_digest_217 : decode cX5_digest 217 = .ok (.lload_n 1, 1) := by decide +kernel
theorem dX5_digest_218 : decode cX5_digest 218 = .ok (.lmul, 1) := by decide +kernel
theorem dX5_digest_219 : decode cX5_digest 219 = .ok (.aload_n 0, 1) := by decide +kernel
theorem dX5_digest_220 : decode cX5_digest 220 = .ok (.iload_n 3, 1) := by decide +kernel
theorem dX5_digest_221 : decode cX5_digest 221 = .ok (.invokevirtual 258, 3) := by decide +kernel
theorem dX5_digest_224 : decode cX5_digest 224 = .ok (.i2l, 1) := by decide +kernel
theorem dX5_digest_225 : decode cX5_digest 225 = .ok (.ladd, 1) := by decide +kernel
theorem dX5_digest_226 : decode cX5_digest 226 = .ok (.lstore_n 1, 1) := by decide +kernel
theorem dX5_digest_227 : decode cX5_digest 227 = .ok (.iinc 3 1, 3) := by decide +kernel
theorem dX5_digest_230 : decode cX5_digest 230 = .ok (.goto (-22), 3) := by decide +kernel
theorem dX5_digest_233 : decode cX5_digest 233 = .ok (.lload_n 1, 1) := by decide +kernel
theorem dX5_digest_234 : decode cX5_digest 234 = .ok (.lreturn, 1) := by decide +kernel
set_option maxRecDepth 20000 in
theorem ggX5_lookAhead_X4_copyFrom : GoodIn wsX5_lookAhead wsX4_copyFrom := goodIn_r _ [9, 10, 11, 12, 13, 14, 15, 16, 131, 132, 133, 134, 135, 136, 137, 138] (by decide +kernel) (by decide +kernel)
set_option maxRecDepth 20000 in
theorem gX5_lookAhead_X4_copyFrom : GoodIn wsX5_lookAhead (wsV RX5 208 RX4 yX4_copyFrom wsX4_copyFrom) := goodIn_app (goodIn_of _ (by decide +kernel)) ggX5_lookAhead_X4_copyFrom
set_option maxRecDepth 20000 in
theorem ggX5_lookAhead_X5_look : GoodIn wsX5_lookAhead wsX5_look := goodIn_r _ [20, 21, 22, 23, 24, 25, 26, 27, 28, 29, 30, 31, 32, 33, 34, 35, 36, 37, 8, 38, 39, 40, 41, 42, 43, 15, 44, 45, 46, 47, 11, 48, 49, 50, 51, 52, 53, 54, 55, 56, 57, 58, 59, 60, 61, 62, 16, 63, 64, 65, 66, 67, 14, 68, 19, 69, 70, 71, 72, 73, 74, 75, 76, 77, 78, 79, 80, 10, 81, 82, 83, 84, 85, 86, 87, 88, 89, 90, 91, 92, 93, 12, 94, 95, 96, 97, 17, 18, 98, 99, 100, 101, 102, 103, 104, 105, 106, 107, 108, 109, 110, 111, 112, 113, 114, 115, 116, 117, 131, 132, 133, 134, 135, 136, 137, 138, 139, 140, 141, 142, 143, 144, 145, 146, 147, 148, 149, 150, 151] (by decide +kernel) (by decide +kernel)
set_option maxRecDepth 20000 in
theorem gX5_lookAhead_X5_look : GoodIn wsX5_lookAhead (va_wsS RX5 261 yX5_look wsX5_look) := goodIn_app (goodIn_of _ (by decide +kernel)) ggX5_lookAhead_X5_look
theorem dX5_lookAhead_0 : decode cX5_lookAhead 0 = .ok (.aload_n 0, 1) := by decide +kernel
theorem dX5_lookAhead_1 : decode cX5_lookAhead 1 = .ok (.getfield 92, 3) := by decide +kernel
theorem dX5_lookAhead_4 : decode cX5_lookAhead 4 = .ok (.ifCond .ne 31, 3) := by decide +kernel
theorem dX5_lookAhead_7 : decode cX5_lookAhead 7 = .ok (.aload_n 0, 1) := by decide +kernel
theorem dX5_lookAhead_8 : decode cX5_lookAhead 8 = .ok (.getfield 45, 3) := by decide +kernel
theorem dX5_lookAhead_11 : decode cX5_lookAhead 11 = .ok (.aload_n 0, 1) := by decide +kernel
theorem dX5_lookAhead_12 : decode cX5_lookAhead 12 = .ok (.getfield 28, 3) := by decide +kernel
theorem dX5_lookAhead_15 : decode cX5_lookAhead 15 = .ok (.invokevirtual 208, 3) := by decide +kernel
theorem dX5_lookAhead_18 : decode cX5_lookAhead 18 = .ok (.aload_n 0, 1) := by decide +kernel
theorem dX5_lookAhead_19 : decode cX5_lookAhead 19 = .ok (.getfield 45, 3) := by decide +kernel
theorem dX5_lookAhead_22 : decode cX5_lookAhead 22 = .ok (.aload_n 0, 1) := by decide +kernel
theorem dX5_lookAhead_23 : decode cX5_lookAhead 23 = .ok (.getfield 55, 3) := by decide +kernel
theorem dX5_lookAhead_26 : decode cX5_lookAhead 26 = .ok (.iconst 0, 1) := by decide +kernel
theorem dX5_lookAhead_27 : decode cX5_lookAhead 27 = .ok (.invokestatic 261, 3) := by decide +kernel
theorem dX5_lookAhead_30 : decode cX5_lookAhead 30 = .ok (.aload_n 0, 1) := by decide +kernel
theorem dX5_lookAhead_31 : decode cX5_lookAhead 31 = .ok (.iconst 1, 1) := by decide +kernel
theorem dX5_lookAhead_32 : decode cX5_lookAhead 32 = .ok (.putfield 92, 3) := by decide +kernel
theorem dX5_lookAhead_35 : decode cX5_lookAhead 35 = .ok (.return_, 1) := by decide +kernel
set_option maxRecDepth 20000 in
theorem ggX5_fewestWithOneMore_X4_copyFrom : GoodIn wsX5_fewestWithOneMore wsX4_copyFrom := goodIn_r _ [9, 10, 11, 12, 13, 14, 15, 16, 148, 149, 150, 151, 152, 153, 154, 155] (by decide +kernel) (by decide +kernel)
set_option maxRecDepth 20000 in
theorem gX5_fewestWithOneMore_X4_copyFrom : GoodIn wsX5_fewestWithOneMore (wsV RX5 208 RX4 yX4_copyFrom wsX4_copyFrom) := goodIn_app (goodIn_of _ (by decide +kernel)) ggX5_fewestWithOneMore_X4_copyFrom
set_option maxRecDepth 20000 in
theorem ggX5_fewestWithOneMore_X4_addPlain : GoodIn wsX5_fewestWithOneMore wsX4_addPlain := goodIn_r _ [20, 21, 22, 23, 8, 24, 11, 14, 15, 25, 26, 27, 28, 29, 16, 12, 30, 31, 32, 33, 34, 35, 36, 37, 38, 39, 148, 149, 150, 151, 152, 153, 154, 155, 156, 157, 158, 159] (by decide +kernel) (by decide +kernel)
set_option maxRecDepth 20000 in
theorem gX5_fewestWithOneMore_X4_addPlain : GoodIn wsX5_fewestWithOneMore (wsV RX5 265 RX4 yX4_addPlain wsX4_addPlain) := goodIn_app (goodIn_of _ (by decide +kernel)) ggX5_fewestWithOneMore_X4_addPlain
set_option maxRecDepth 20000 in
theorem ggX5_fewestWithOneMore_X5_look : GoodIn wsX5_fewestWithOneMore wsX5_look := goodIn_r _ [43, 44, 45, 46, 47, 48, 49, 50, 51, 52, 53, 54, 55, 56, 57, 58, 59, 60, 8, 61, 29, 62, 63, 64, 65, 15, 30, 31, 32, 33, 11, 66, 67, 68, 37, 69, 70, 71, 35, 36, 38, 39, 72, 73, 74, 75, 16, 34, 76, 77, 78, 79, 14, 80, 42, 81, 82, 83, 84, 85, 86, 87, 88, 89, 90, 91, 92, 10, 93, 94, 95, 96, 97, 98, 99, 100, 101, 102, 103, 104, 105, 12, 25, 26, 27, 28, 40, 41, 106, 107, 108, 109, 110, 111, 112, 113, 114, 115, 116, 117, 118, 119, 120, 121, 122, 123, 124, 125, 148, 149, 150, 151, 152, 153, 154, 155, 139, 140, 141, 142, 143, 144, 145, 146, 147, 156, 157, 158, 159] (by decide +kernel) (by decide +kernel)
set_option maxRecDepth 20000 in
theorem gX5_fewestWithOneMore_X5_look : GoodIn wsX5_fewestWithOneMore (va_wsS RX5 261 yX5_look wsX5_look) := goodIn_app (goodIn_of _ (by decide +kernel)) ggX5_fewestWithOneMore_X5_look
theorem dX5_fewestWithOneMore_0 : decode cX5_fewestWithOneMore 0 = .ok (.aload_n 0, 1) := by decide +kernel
theorem dX5_fewestWithOneMore_1 : decode cX5_fewestWithOneMore 1 = .ok (.getfield 45, 3) := by decide +kernel
theorem dX5_fewestWithOneMore_4 : decode cX5_fewestWithOneMore 4 = .ok (.aload_n 0, 1) := by decide +kernel
theorem dX5_fewestWithOneMore_5 : decode cX5_fewestWithOneMore 5 = .ok (.getfield 28, 3) := by decide +kernel
theorem dX5_fewestWithOneMore_8 : decode cX5_fewestWithOneMore 8 = .ok (.invokevirtual 208, 3) := by decide +kernel
theorem dX5_fewestWithOneMore_11 : decode cX5_fewestWithOneMore 11 = .ok (.aload_n 0, 1) := by decide +kernel
theorem dX5_fewestWithOneMore_12 : decode cX5_fewestWithOneMore 12 = .ok (.getfield 45, 3) := by decide +kernel
theorem dX5_fewestWithOneMore_15 : decode cX5_fewestWithOneMore 15 = .ok (.iload_n 1, 1) := by decide +kernel
theorem dX5_fewestWithOneMore_16 : decode cX5_fewestWithOneMore 16 = .ok (.invokevirtual 265, 3) := by decide +kernel
theorem dX5_fewestWithOneMore_19 : decode cX5_fewestWithOneMore 19 = .ok (.aload_n 0, 1) := by decide +kernel
theorem dX5_fewestWithOneMore_20 : decode cX5_fewestWithOneMore 20 = .ok (.getfield 45, 3) := by decide +kernel
theorem dX5_fewestWithOneMore_23 : decode cX5_fewestWithOneMore 23 = .ok (.aload_n 0, 1) := by decide +kernel
theorem dX5_fewestWithOneMore_24 : decode cX5_fewestWithOneMore 24 = .ok (.getfield 55, 3) := by decide +kernel
theorem dX5_fewestWithOneMore_27 : decode cX5_fewestWithOneMore 27 = .ok (.iconst 0, 1) := by decide +kernel
theorem dX5_fewestWithOneMore_28 : decode cX5_fewestWithOneMore 28 = .ok (.invokestatic 261, 3) := by decide +kernel
theorem dX5_fewestWithOneMore_31 : decode cX5_fewestWithOneMore 31 = .ok (.aload_n 0, 1) := by decide +kernel
theorem dX5_fewestWithOneMore_32 : decode cX5_fewestWithOneMore 32 = .ok (.getfield 51, 3) := by decide +kernel
theorem dX5_fewestWithOneMore_35 : decode cX5_fewestWithOneMore 35 = .ok (.getfield 173, 3) := by decide +kernel
theorem dX5_fewestWithOneMore_38 : decode cX5_fewestWithOneMore 38 = .ok (.ireturn, 1) := by decide +kernel
set_option maxRecDepth 20000 in
theorem ggX5_look_X1_begin : GoodIn wsX5_look wsX1_begin := goodIn_r _ [5, 6, 7, 8, 9, 10, 11, 12, 13, 14, 116, 117, 118, 119, 120, 121, 122, 123, 124] (by decide +kernel) (by decide +kernel)
set_option maxRecDepth 20000 in
theorem gX5_look_X1_begin : GoodIn wsX5_look (wsV RX5 268 RX1 yX1_begin wsX1_begin) := goodIn_app (goodIn_of _ (by decide +kernel)) ggX5_look_X1_begin
set_option maxRecDepth 20000 in
theorem ggX5_look_X4_targetOf : GoodIn wsX5_look wsX4_targetOf := goodIn_r _ [19, 20, 21, 22, 23, 18, 24, 25, 26, 27, 28, 29, 30, 31, 32, 33, 34, 35, 36, 37, 38, 39, 40, 41, 42, 43, 44, 45, 46, 47, 48, 49, 50, 51, 52, 53, 54, 55, 56, 57, 58, 59, 60, 61, 62, 63, 64, 65, 66, 67, 108, 109, 110, 111, 112, 113, 114, 115, 125, 126, 127, 128] (by decide +kernel) (by decide +kernel)
set_option maxRecDepth 20000 in
theorem gX5_look_X4_targetOf : GoodIn wsX5_look (wsV RX5 271 RX4 yX4_targetOf wsX4_targetOf) := goodIn_app (goodIn_of _ (by decide +kernel)) ggX5_look_X4_targetOf
set_option maxRecDepth 20000 in
theorem ggX5_look_X4_homeOf : GoodIn wsX5_look wsX4_homeOf := goodIn_r _ [24, 25, 26, 27, 28, 18, 29, 30, 108, 109, 110, 111, 112, 113, 114, 115] (by decide +kernel) (by decide +kernel)
set_option maxRecDepth 20000 in
theorem gX5_look_X4_homeOf : GoodIn wsX5_look (wsV RX5 107 RX4 yX4_homeOf wsX4_homeOf) := goodIn_app (goodIn_of _ (by decide +kernel)) ggX5_look_X4_homeOf
set_option maxRecDepth 20000 in
theorem ggX5_look_X4_neighbourOf : GoodIn wsX5_look wsX4_neighbourOf := goodIn_r _ [72, 20, 21, 22, 23, 18, 24, 25, 26, 27, 28, 29, 30, 31, 32, 33, 34, 35, 36, 37, 38, 39, 40, 41, 42, 43, 44, 45, 46, 47, 108, 109, 110, 111, 112, 113, 114, 115, 125, 126, 127, 128] (by decide +kernel) (by decide +kernel)
set_option maxRecDepth 20000 in
theorem gX5_look_X4_neighbourOf : GoodIn wsX5_look (wsV RX5 143 RX4 yX4_neighbourOf wsX4_neighbourOf) := goodIn_app (goodIn_of _ (by decide +kernel)) ggX5_look_X4_neighbourOf
set_option maxRecDepth 20000 in
theorem ggX5_look_X4_leap : GoodIn wsX5_look wsX4_leap := goodIn_r _ [76, 77, 78, 79, 18, 80, 20, 25, 46, 81, 26, 27, 28, 29, 30, 47, 38, 39, 34, 40, 41, 48, 49, 50, 51, 52, 60, 54, 61, 62, 57, 58, 59, 82, 83, 84, 85, 108, 109, 110, 111, 112, 113, 114, 115, 125, 126, 127, 128] (by decide +kernel) (by decide +kernel)
set_option maxRecDepth 20000 in
theorem gX5_look_X4_leap : GoodIn wsX5_look (wsV RX5 146 RX4 yX4_leap wsX4_leap) := goodIn_app (goodIn_of _ (by decide +kernel)) ggX5_look_X4_leap
set_option maxRecDepth 20000 in
theorem ggX5_look_X5_look : GoodIn wsX5_look wsX5_look := goodIn_r _ [0, 1, 2, 3, 4, 5, 6, 7, 8, 9, 10, 11, 12, 13, 14, 15, 16, 17, 18, 19, 20, 21, 22, 23, 24, 25, 26, 27, 28, 29, 30, 31, 32, 33, 34, 35, 36, 37, 38, 39, 40, 41, 42, 43, 44, 45, 46, 47, 48, 49, 50, 51, 52, 53, 54, 55, 56, 57, 58, 59, 60, 61, 62, 63, 64, 65, 66, 67, 68, 69, 70, 71, 72, 73, 74, 75, 76, 77, 78, 79, 80, 81, 82, 83, 84, 85, 86, 87, 88, 89, 90, 91, 92, 93, 94, 95, 96, 97, 98, 99, 100, 101, 102, 103, 104, 105, 106, 107, 108, 109, 110, 111, 112, 113, 114, 115, 116, 117, 118, 119, 120, 121, 122, 123, 124, 125, 126, 127, 128] (by decide +kernel) (by decide +kernel)
set_option maxRecDepth 20000 in
theorem gX5_look_X5_look : GoodIn wsX5_look (va_wsS RX5 261 yX5_look wsX5_look) := goodIn_app (goodIn_of _ (by decide +kernel)) ggX5_look_X5_look
set_option maxRecDepth 20000 in
theorem ggX5_look_X4_takeBack : GoodIn wsX5_look wsX4_takeBack := goodIn_r _ [91, 20, 77, 78, 79, 18, 80, 25, 46, 81, 26, 27, 28, 29, 30, 47, 38, 39, 34, 40, 41, 82, 83, 84, 85, 31, 32, 33, 35, 36, 37, 108, 109, 110, 111, 112, 113, 114, 115, 125, 126, 127, 128] (by decide +kernel) (by decide +kernel)
set_option maxRecDepth 20000 in
theorem gX5_look_X4_takeBack : GoodIn wsX5_look (wsV RX5 274 RX4 yX4_takeBack wsX4_takeBack) := goodIn_app (goodIn_of _ (by decide +kernel)) ggX5_look_X4_takeBack
set_option maxRecDepth 20000 in
theorem ggX5_look_X1_take : GoodIn wsX5_look wsX1_take := goodIn_r _ [95, 6, 7, 8, 11, 10, 96, 97, 98, 99, 9, 12, 13, 14, 116, 117, 118, 119, 120, 121, 122, 123, 124] (by decide +kernel) (by decide +kernel)
set_option maxRecDepth 20000 in
theorem gX5_look_X1_take : GoodIn wsX5_look (wsV RX5 278 RX1 yX1_take wsX1_take) := goodIn_app (goodIn_of _ (by decide +kernel)) ggX5_look_X1_take
set_option maxRecDepth 20000 in
theorem ggX5_look_X4_aloneBit : GoodIn wsX5_look wsX4_aloneBit := goodIn_r _ [103, 81, 30, 21, 22, 23, 18, 24, 25, 26, 27, 28, 29, 108, 109, 110, 111, 112, 113, 114, 115] (by decide +kernel) (by decide +kernel)
set_option maxRecDepth 20000 in
theorem gX5_look_X4_aloneBit : GoodIn wsX5_look (wsV RX5 282 RX4 yX4_aloneBit wsX4_aloneBit) := goodIn_app (goodIn_of _ (by decide +kernel)) ggX5_look_X4_aloneBit
set_option maxRecDepth 20000 in
theorem ggX5_look_X1_end : GoodIn wsX5_look wsX1_end := goodIn_r _ [107, 6, 14, 7, 9, 12, 116, 117, 118, 119, 120, 121, 122, 123, 124] (by decide +kernel) (by decide +kernel)
set_option maxRecDepth 20000 in
theorem gX5_look_X1_end : GoodIn wsX5_look (wsV RX5 285 RX1 yX1_end wsX1_end) := goodIn_app (goodIn_of _ (by decide +kernel)) ggX5_look_X1_end
theorem dX5_look_0 : decode cX5_look 0 = .ok (.iload_n 2, 1) := by decide +kernel
theorem dX5_look_1 : decode cX5_look 1 = .ok (.ifCond .lt 15, 3) := by decide +kernel
theorem dX5_look_4 : decode cX5_look 4 = .ok (.iload_n 2, 1) := by decide +kernel
theorem dX5_look_5 : decode cX5_look 5 = .ok (.aload_n 1, 1) := by decide +kernel
theorem dX5_look_6 : decode cX5_look 6 = .ok (.arraylength, 1) := by decide +kernel
theorem dX5_look_7 : decode cX5_look 7 = .ok (.if_icmp .ge 9, 3) := by decide +kernel
theorem dX5_look_10 : decode cX5_look 10 = .ok (.aload_n 1, 1) := by decide +kernel
theorem dX5_look_11 : decode cX5_look 11 = .ok (.iload_n 2, 1) := by decide +kernel
theorem dX5_look_12 : decode cX5_look 12 = .ok (.aaload, 1) := by decide +kernel
theorem dX5_look_13 : decode cX5_look 13 = .ok (.ifnonnull 4, 3) := by decide +kernel
theorem dX5_look_16 : decode cX5_look 16 = .ok (.return_, 1) := by decide +kernel
theorem dX5_look_17 : decode cX5_look 17 = .ok (.aload_n 1, 1) := by decide +kernel
theorem dX5_look_18 : decode cX5_look 18 = .ok (.iload_n 2, 1) := by decide +kernel
theorem dX5_look_19 : decode cX5_look 19 = .ok (.aaload, 1) := by decide +kernel
theorem dX5_look_20 : decode cX5_look 20 = .ok (.astore_n 3, 1) := by decide +kernel
theorem dX5_look_21 : decode cX5_look 21 = .ok (.aload_n 3, 1) := by decide +kernel
theorem dX5_look_22 : decode cX5_look 22 = .ok (.invokevirtual 268, 3) := by decide +kernel
theorem dX5_look_25 : decode cX5_look 25 = .ok (.iload_n 2, 1) := by decide +kernel
theorem dX5_look_26 : decode cX5_look 26 = .ok (.iconst 1, 1) := by decide +kernel
theorem dX5_look_27 : decode cX5_look 27 = .ok (.iadd, 1) := by decide +kernel
theorem dX5_look_28 : decode cX5_look 28 = .ok (.aload_n 1, 1) := by decide +kernel
theorem dX5_look_29 : decode cX5_look 29 = .ok (.arraylength, 1) := by decide +kernel
theorem dX5_look_30 : decode cX5_look 30 = .ok (.if_icmp .ge 11, 3) := by decide +kernel
theorem dX5_look_33 : decode cX5_look 33 = .ok (.aload_n 1, 1) := by decide +kernel
theorem dX5_look_34 : decode cX5_look 34 = .ok (.iload_n 2, 1) := by decide +kernel
theorem dX5_look_35 : decode cX5_look 35 = .ok (.iconst 1, 1) := by decide +kernel
theorem dX5_look_36 : decode cX5_look 36 = .ok (.iadd, 1) := by decide +kernel
theorem dX5_look_37 : decode cX5_look 37 = .ok (.aaload, 1) := by decide +kernel
theorem dX5_look_38 : decode cX5_look 38 = .ok (.goto 4, 3) := by decide +kernel
theorem dX5_look_41 : decode cX5_look 41 = .ok (.aconst_null, 1) := by decide +kernel
theorem dX5_look_42 : decode cX5_look 42 = .ok (.astore 4, 2) := by decide +kernel
theorem dX5_look_44 : decode cX5_look 44 = .ok (.iconst 0, 1) := by decide +kernel
theorem dX5_look_45 : decode cX5_look 45 = .ok (.istore 5, 2) := by decide +kernel
theorem dX5_look_47 : decode cX5_look 47 = .ok (.iload 5, 2) := by decide +kernel
theorem dX5_look_49 : decode cX5_look 49 = .ok (.aload_n 0, 1) := by decide +kernel
theorem dX5_look_50 : decode cX5_look 50 = .ok (.getfield 98, 3) := by decide +kernel
theorem dX5_look_53 : decode cX5_look 53 = .ok (.if_icmp .ge 108, 3) := by decide +kernel
theorem dX5_look_56 : decode cX5_look 56 = .ok (.aload 4, 2) := by decide +kernel
theorem dX5_look_58 : decode cX5_look 58 = .ok (.ifnull 103, 3) := by decide +kernel
theorem dX5_look_61 : decode cX5_look 61 = .ok (.iconst 0, 1) := by decide +kernel
theorem dX5_look_62 : decode cX5_look 62 = .ok (.istore 6, 2) := by decide +kernel
theorem dX5_look_64 : decode cX5_look 64 = .ok (.iload 6, 2) := by decide +kernel
theorem dX5_look_66 : decode cX5_look 66 = .ok (.bipush 8, 2) := by decide +kernel
theorem dX5_look_68 : decode cX5_look 68 = .ok (.if_icmp .ge 87, 3) := by decide +kernel
theorem dX5_look_71 : decode cX5_look 71 = .ok (.aload_n 0, 1) := by decide +kernel
theorem dX5_look_72 : decode cX5_look 72 = .ok (.iload 5, 2) := by decide +kernel
theorem dX5_look_74 : decode cX5_look 74 = .ok (.iload 6, 2) := by decide +kernel
theorem dX5_look_76 : decode cX5_look 76 = .ok (.invokevirtual 271, 3) := by decide +kernel
theorem dX5_look_79 : decode cX5_look 79 = .ok (.istore 7, 2) := by decide +kernel
theorem dX5_look_81 : decode cX5_look 81 = .ok (.iload 7, 2) := by decide +kernel
theorem dX5_look_83 : decode cX5_look 83 = .ok (.iconst (-1), 1) := by decide +kernel
theorem dX5_look_84 : decode cX5_look 84 = .ok (.if_icmp .eq 65, 3) := by decide +kernel
theorem dX5_look_87 : decode cX5_look 87 = .ok (.aload_n 0, 1) := by decide +kernel
theorem dX5_look_88 : decode cX5_look 88 = .ok (.iload 5, 2) := by decide +kernel
theorem dX5_look_90 : decode cX5_look 90 = .ok (.invokevirtual 107, 3) := by decide +kernel
theorem dX5_look_93 : decode cX5_look 93 = .ok (.istore 8, 2) := by decide +kernel
theorem dX5_look_95 : decode cX5_look 95 = .ok (.aload_n 0, 1) := by decide +kernel
theorem dX5_look_96 : decode cX5_look 96 = .ok (.iload 5, 2) := by decide +kernel
theorem dX5_look_98 : decode cX5_look 98 = .ok (.iload 6, 2) := by decide +kernel
theorem dX5_look_100 : decode cX5_look 100 = .ok (.invokevirtual 143, 3) := by decide +kernel
theorem dX5_look_103 : decode cX5_look 103 = .ok (.istore 9, 2) := by decide +kernel
theorem dX5_look_105 : decode cX5_look 105 = .ok (.aload_n 0, 1) := by decide +kernel
theorem dX5_look_106 : decode cX5_look 106 = .ok (.iload 5, 2) := by decide +kernel
theorem dX5_look_108 : decode cX5_look 108 = .ok (.iload 9, 2) := by decide +kernel
theorem dX5_look_110 : decode cX5_look 110 = .ok (.iload 7, 2) := by decide +kernel
theorem dX5_look_112 : decode cX5_look 112 = .ok (.invokevirtual 146, 3) := by decide +kernel
theorem dX5_look_115 : decode cX5_look 115 = .ok (.aload_n 0, 1) := by decide +kernel
theorem dX5_look_116 : decode cX5_look 116 = .ok (.aload_n 1, 1) := by decide +kernel
theorem dX5_look_117 : decode cX5_look 117 = .ok (.iload_n 2, 1) := by decide +kernel
theorem dX5_look_118 : decode cX5_look 118 = .ok (.iconst 1, 1) := by decide +kernel
theorem dX5_look_119 : decode cX5_look 119 = .ok (.iadd, 1) := by decide +kernel
theorem dX5_look_120 : decode cX5_look 120 = .ok (.invokestatic 261, 3) := by decide +kernel
theorem dX5_look_123 : decode cX5_look 123 = .ok (.aload_n 0, 1) := by decide +kernel
theorem dX5_look_124 : decode cX5_look 124 = .ok (.iload 5, 2) := by decide +kernel
theorem dX5_look_126 : decode cX5_look 126 = .ok (.iload 8, 2) := by decide +kernel
theorem dX5_look_128 : decode cX5_look 128 = .ok (.iload 9, 2) := by decide +kernel
theorem dX5_look_130 : decode cX5_look 130 = .ok (.iload 6, 2) := by decide +kernel
theorem dX5_look_132 : decode cX5_look 132 = .ok (.invokevirtual 274, 3) := by decide +kernel
theorem dX5_look_135 : decode cX5_look 135 = .ok (.aload_n 3, 1) := by decide +kernel
theorem dX5_look_136 : decode cX5_look 136 = .ok (.bipush 100, 2) := by decide +kernel
theorem dX5_look_138 : decode cX5_look 138 = .ok (.iload 5, 2) := by decide +kernel
theorem dX5_look_140 : decode cX5_look 140 = .ok (.imul, 1) := by decide +kernel
theorem dX5_look_141 : decode cX5_look 141 = .ok (.iload 7, 2) := by decide +kernel
theorem dX5_look_143 : decode cX5_look 143 = .ok (.iadd, 1) := by decide +kernel
theorem dX5_look_144 : decode cX5_look 144 = .ok (.aload 4, 2) := by decide +kernel
theorem dX5_look_146 : decode cX5_look 146 = .ok (.invokevirtual 278, 3) := by decide +kernel
theorem dX5_look_149 : decode cX5_look 149 = .ok (.iinc 6 1, 3) := by decide +kernel
theorem dX5_look_152 : decode cX5_look 152 = .ok (.goto (-88), 3) := by decide +kernel
theorem dX5_look_155 : decode cX5_look 155 = .ok (.iinc 5 1, 3) := by decide +kernel
theorem dX5_look_158 : decode cX5_look 158 = .ok (.goto (-111), 3) := by decide +kernel
theorem dX5_look_161 : decode cX5_look 161 = .ok (.aload_n 3, 1) := by decide +kernel
theorem dX5_look_162 : decode cX5_look 162 = .ok (.aload_n 0, 1) := by decide +kernel
theorem dX5_look_163 : decode cX5_look 163 = .ok (.getfield 150, 3) := by decide +kernel
theorem dX5_look_166 : decode cX5_look 166 = .ok (.aload_n 0, 1) := by decide +kernel
theorem dX5_look_167 : decode cX5_look 167 = .ok (.invokevirtual 282, 3) := by decide +kernel
theorem dX5_look_170 : decode cX5_look 170 = .ok (.invokevirtual 285, 3) := by decide +kernel
theorem dX5_look_173 : decode cX5_look 173 = .ok (.return_, 1) := by decide +kernel
theorem dX5_nextSeed_0 : decode cX5_nextSeed 0 = .ok (.ldc2_w 288, 3) := by decide +kernel
theorem dX5_nextSeed_3 : decode cX5_nextSeed 3 = .ok (.lload_n 0, 1) := by decide +kernel
theorem dX5_nextSeed_4 : decode cX5_nextSeed 4 = .ok (.lmul, 1) := by decide +kernel
theorem dX5_nextSeed_5 : decode cX5_nextSeed 5 = .ok (.ldc2_w 290, 3) := by decide +kernel
theorem dX5_nextSeed_8 : decode cX5_nextSeed 8 = .ok (.ladd, 1) := by decide +kernel
theorem dX5_nextSeed_9 : decode cX5_nextSeed 9 = .ok (.ldc2_w 292, 3) := by decide +kernel
theorem dX5_nextSeed_12 : decode cX5_nextSeed 12 = .ok (.lrem, 1) := by decide +kernel
theorem dX5_nextSeed_13 : decode cX5_nextSeed 13 = .ok (.lreturn, 1) := by decide +kernel
theorem dX5_hasBit_0 : decode cX5_hasBit 0 = .ok (.iload_n 1, 1) := by decide +kernel
theorem dX5_hasBit_1 : decode cX5_hasBit 1 = .ok (.ifCond .lt 16, 3) := by decide +kernel
theorem dX5_hasBit_4 : decode cX5_hasBit 4 = .ok (.iload_n 0, 1) := by decide +kernel
theorem dX5_hasBit_5 : decode cX5_hasBit 5 = .ok (.iload_n 1, 1) := by decide +kernel
theorem dX5_hasBit_6 : decode cX5_hasBit 6 = .ok (.ishr, 1) := by decide +kernel
theorem dX5_hasBit_7 : decode cX5_hasBit 7 = .ok (.iconst 1, 1) := by decide +kernel
theorem dX5_hasBit_8 : decode cX5_hasBit 8 = .ok (.iand, 1) := by decide +kernel
theorem dX5_hasBit_9 : decode cX5_hasBit 9 = .ok (.iconst 1, 1) := by decide +kernel
theorem dX5_hasBit_10 : decode cX5_hasBit 10 = .ok (.if_icmp .ne 7, 3) := by decide +kernel
theorem dX5_hasBit_13 : decode cX5_hasBit 13 = .ok (.iconst 1, 1) := by decide +kernel
theorem dX5_hasBit_14 : decode cX5_hasBit 14 = .ok (.goto 4, 3) := by decide +kernel
theorem dX5_hasBit_17 : decode cX5_hasBit 17 = .ok (.iconst 0, 1) := by decide +kernel
theorem dX5_hasBit_18 : decode cX5_hasBit 18 = .ok (.ireturn, 1) := by decide +kernel
set_option maxRecDepth 20000 in
theorem ggX5_kindCould_X5_hasBit : GoodIn wsX5_kindCould wsX5_hasBit := goodIn_r _ [5] (by decide +kernel) (by decide +kernel)
set_option maxRecDepth 20000 in
theorem gX5_kindCould_X5_hasBit : GoodIn wsX5_kindCould (va_wsS RX5 123 yX5_hasBit wsX5_hasBit) := goodIn_app (goodIn_of _ (by decide +kernel)) ggX5_kindCould_X5_hasBit
theorem dX5_kindCould_0 : decode cX5_kindCould 0 = .ok (.iload_n 1, 1) := by decide +kernel
theorem dX5_kindCould_1 : decode cX5_kindCould 1 = .ok (.ifCond .lt 24, 3) := by decide +kernel
theorem dX5_kindCould_4 : decode cX5_kindCould 4 = .ok (.iload_n 1, 1) := by decide +kernel
theorem dX5_kindCould_5 : decode cX5_kindCould 5 = .ok (.iconst 4, 1) := by decide +kernel
theorem dX5_kindCould_6 : decode cX5_kindCould 6 = .ok (.if_icmp .ge 19, 3) := by decide +kernel
theorem dX5_kindCould_9 : decode cX5_kindCould 9 = .ok (.getstatic 203, 3) := by decide +kernel
theorem dX5_kindCould_12 : decode cX5_kindCould 12 = .ok (.iload_n 1, 1) := by decide +kernel
theorem dX5_kindCould_13 : decode cX5_kindCould 13 = .ok (.iaload, 1) := by decide +kernel
theorem dX5_kindCould_14 : decode cX5_kindCould 14 = .ok (.iload_n 0, 1) := by decide +kernel
theorem dX5_kindCould_15 : decode cX5_kindCould 15 = .ok (.invokestatic 123, 3) := by decide +kernel
theorem dX5_kindCould_18 : decode cX5_kindCould 18 = .ok (.ifCond .eq 7, 3) := by decide +kernel
theorem dX5_kindCould_21 : decode cX5_kindCould 21 = .ok (.iconst 1, 1) := by decide +kernel
theorem dX5_kindCould_22 : decode cX5_kindCould 22 = .ok (.goto 4, 3) := by decide +kernel
theorem dX5_kindCould_25 : decode cX5_kindCould 25 = .ok (.iconst 0, 1) := by decide +kernel
theorem dX5_kindCould_26 : decode cX5_kindCould 26 = .ok (.ireturn, 1) := by decide +kernel
set_option maxRecDepth 20000 in
theorem ggX5_kindGoes_X5_hasBit : GoodIn wsX5_kindGoes wsX5_hasBit := goodIn_r _ [5] (by decide +kernel) (by decide +kernel)
set_option maxRecDepth 20000 in
theorem gX5_kindGoes_X5_hasBit : GoodIn wsX5_kindGoes (va_wsS RX5 123 yX5_hasBit wsX5_hasBit) := goodIn_app (goodIn_of _ (by decide +kernel)) ggX5_kindGoes_X5_hasBit
theorem dX5_kindGoes_0 : decode cX5_kindGoes 0 = .ok (.iload_n 1, 1) := by decide +kernel
theorem dX5_kindGoes_1 : decode cX5_kindGoes 1 = .ok (.ifCond .lt 25, 3) := by decide +kernel
theorem dX5_kindGoes_4 : decode cX5_kindGoes 4 = .ok (.iload_n 1, 1) := by decide +kernel
theorem dX5_kindGoes_5 : decode cX5_kindGoes 5 = .ok (.bipush 8, 2) := by decide +kernel
theorem dX5_kindGoes_7 : decode cX5_kindGoes 7 = .ok (.if_icmp .ge 19, 3) := by decide +kernel
theorem dX5_kindGoes_10 : decode cX5_kindGoes 10 = .ok (.getstatic 294, 3) := by decide +kernel
theorem dX5_kindGoes_13 : decode cX5_kindGoes 13 = .ok (.iload_n 1, 1) := by decide +kernel
theorem dX5_kindGoes_14 : decode cX5_kindGoes 14 = .ok (.iaload, 1) := by decide +kernel
theorem dX5_kindGoes_15 : decode cX5_kindGoes 15 = .ok (.iload_n 0, 1) := by decide +kernel
theorem dX5_kindGoes_16 : decode cX5_kindGoes 16 = .ok (.invokestatic 123, 3) := by decide +kernel
theorem dX5_kindGoes_19 : decode cX5_kindGoes 19 = .ok (.ifCond .eq 7, 3) := by decide +kernel
theorem dX5_kindGoes_22 : decode cX5_kindGoes 22 = .ok (.iconst 1, 1) := by decide +kernel
theorem dX5_kindGoes_23 : decode cX5_kindGoes 23 = .ok (.goto 4, 3) := by decide +kernel
theorem dX5_kindGoes_26 : decode cX5_kindGoes 26 = .ok (.iconst 0, 1) := by decide +kernel
theorem dX5_kindGoes_27 : decode cX5_kindGoes 27 = .ok (.ireturn, 1) := by decide +kernel
set_option maxRecDepth 20000 in
theorem ggX5_bestQuestion_J6_bitCount_0f7a4 : GoodIn wsX5_bestQuestion wsJ6_bitCount_0f7a4 := goodIn_r _ [9, 10, 11, 12] (by decide +kernel) (by decide +kernel)
set_option maxRecDepth 20000 in
theorem gX5_bestQuestion_J6_bitCount_0f7a4 : GoodIn wsX5_bestQuestion (va_wsS RX5 162 yJ6_bitCount_0f7a4 wsJ6_bitCount_0f7a4) := goodIn_app (goodIn_of _ (by decide +kernel)) ggX5_bestQuestion_J6_bitCount_0f7a4
theorem dX5_bestQuestion_0 : decode cX5_bestQuestion 0 = .ok (.iload_n 0, 1) := by decide +kernel
theorem dX5_bestQuestion_1 : decode cX5_bestQuestion 1 = .ok (.ifCond .ne 5, 3) := by decide +kernel
theorem dX5_bestQuestion_4 : decode cX5_bestQuestion 4 = .ok (.iconst (-1), 1) := by decide +kernel
theorem dX5_bestQuestion_5 : decode cX5_bestQuestion 5 = .ok (.ireturn, 1) := by decide +kernel
theorem dX5_bestQuestion_6 : decode cX5_bestQuestion 6 = .ok (.iconst (-1), 1) := by decide +kernel
theorem dX5_bestQuestion_7 : decode cX5_bestQuestion 7 = .ok (.istore_n 1, 1) := by decide +kernel
theorem dX5_bestQuestion_8 : decode cX5_bestQuestion 8 = .ok (.bipush 6, 2) := by decide +kernel
theorem dX5_bestQuestion_10 : decode cX5_bestQuestion 10 = .ok (.istore_n 2, 1) := by decide +kernel
theorem dX5_bestQuestion_11 : decode cX5_bestQuestion 11 = .ok (.iconst 0, 1) := by decide +kernel
theorem dX5_bestQuestion_12 : decode cX5_bestQuestion 12 = .ok (.istore_n 3, 1) := by decide +kernel
theorem dX5_bestQuestion_13 : decode cX5_bestQuestion 13 = .ok (.iload_n 3, 1) := by decide +kernel
theorem dX5_bestQuestion_14 : decode cX5_bestQuestion 14 = .ok (.iconst 4, 1) := by decide +kernel
theorem dX5_bestQuestion_15 : decode cX5_bestQuestion 15 = .ok (.if_icmp .ge 47, 3) := by decide +kernel
theorem dX5_bestQuestion_18 : decode cX5_bestQuestion 18 = .ok (.iload_n 0, 1) := by decide +kernel
theorem dX5_bestQuestion_19 : decode cX5_bestQuestion 19 = .ok (.getstatic 203, 3) := by decide +kernel
theorem dX5_bestQuestion_22 : decode cX5_bestQuestion 22 = .ok (.iload_n 3, 1) := by decide +kernel
theorem dX5_bestQuestion_23 : decode cX5_bestQuestion 23 = .ok (.iaload, 1) := by decide +kernel
theorem dX5_bestQuestion_24 : decode cX5_bestQuestion 24 = .ok (.iand, 1) := by decide +kernel
theorem dX5_bestQuestion_25 : decode cX5_bestQuestion 25 = .ok (.invokestatic 162, 3) := by decide +kernel
theorem dX5_bestQuestion_28 : decode cX5_bestQuestion 28 = .ok (.iload_n 0, 1) := by decide +kernel
theorem dX5_bestQuestion_29 : decode cX5_bestQuestion 29 = .ok (.getstatic 203, 3) := by decide +kernel
theorem dX5_bestQuestion_32 : decode cX5_bestQuestion 32 = .ok (.iload_n 3, 1) := by decide +kernel
theorem dX5_bestQuestion_33 : decode cX5_bestQuestion 33 = .ok (.iaload, 1) := by decide +kernel
theorem dX5_bestQuestion_34 : decode cX5_bestQuestion 34 = .ok (.iconst (-1), 1) := by decide +kernel
theorem dX5_bestQuestion_35 : decode cX5_bestQuestion 35 = .ok (.ixor, 1) := by decide +kernel
theorem dX5_bestQuestion_36 : decode cX5_bestQuestion 36 = .ok (.iand, 1) := by decide +kernel
theorem dX5_bestQuestion_37 : decode cX5_bestQuestion 37 = .ok (.invokestatic 162, 3) := by decide +kernel
theorem dX5_bestQuestion_40 : decode cX5_bestQuestion 40 = .ok (.invokestatic 297, 3) := by decide +kernel
theorem dX5_bestQuestion_43 : decode cX5_bestQuestion 43 = .ok (.istore 4, 2) := by decide +kernel
theorem dX5_bestQuestion_45 : decode cX5_bestQuestion 45 = .ok (.iload 4, 2) := by decide +kernel
theorem dX5_bestQuestion_47 : decode cX5_bestQuestion 47 = .ok (.iload_n 2, 1) := by decide +kernel
theorem dX5_bestQuestion_48 : decode cX5_bestQuestion 48 = .ok (.if_icmp .ge 8, 3) := by decide +kernel
theorem dX5_bestQuestion_51 : decode cX5_bestQuestion 51 = .ok (.iload 4, 2) := by decide +kernel
theorem dX5_bestQuestion_53 : decode cX5_bestQuestion 53 = .ok (.istore_n 2, 1) := by decide +kernel
theorem dX5_bestQuestion_54 : decode cX5_bestQuestion 54 = .ok (.iload_n 3, 1) := by decide +kernel
theorem dX5_bestQuestion_55 : decode cX5_bestQuestion 55 = .ok (.istore_n 1, 1) := by decide +kernel
theorem dX5_bestQuestion_56 : decode cX5_bestQuestion 56 = .ok (.iinc 3 1, 3) := by decide +kernel
theorem dX5_bestQuestion_59 : decode cX5_bestQuestion 59 = .ok (.goto (-46), 3) := by decide +kernel
theorem dX5_bestQuestion_62 : decode cX5_bestQuestion 62 = .ok (.iload_n 1, 1) := by decide +kernel
theorem dX5_bestQuestion_63 : decode cX5_bestQuestion 63 = .ok (.ireturn, 1) := by decide +kernel
