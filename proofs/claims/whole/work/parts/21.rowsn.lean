theorem dX6_jump_0 : decode cX6_jump 0 = .ok (.aload_n 0, 1) := by decide +kernel
theorem dX6_jump_1 : decode cX6_jump 1 = .ok (.iload_n 1, 1) := by decide +kernel
theorem dX6_jump_2 : decode cX6_jump 2 = .ok (.invokevirtual 166, 3) := by decide +kernel
theorem dX6_jump_5 : decode cX6_jump 5 = .ok (.ifCond .eq 11, 3) := by decide +kernel
theorem dX6_jump_8 : decode cX6_jump 8 = .ok (.aload_n 0, 1) := by decide +kernel
theorem dX6_jump_9 : decode cX6_jump 9 = .ok (.iload_n 2, 1) := by decide +kernel
theorem dX6_jump_10 : decode cX6_jump 10 = .ok (.invokevirtual 173, 3) := by decide +kernel
theorem dX6_jump_13 : decode cX6_jump 13 = .ok (.ifCond .ne 6, 3) := by decide +kernel
theorem dX6_jump_16 : decode cX6_jump 16 = .ok (.bipush (-101), 2) := by decide +kernel
theorem dX6_jump_18 : decode cX6_jump 18 = .ok (.ireturn, 1) := by decide +kernel
theorem dX6_jump_19 : decode cX6_jump 19 = .ok (.aload_n 0, 1) := by decide +kernel
theorem dX6_jump_20 : decode cX6_jump 20 = .ok (.invokevirtual 157, 3) := by decide +kernel
theorem dX6_jump_23 : decode cX6_jump 23 = .ok (.aload_n 0, 1) := by decide +kernel
theorem dX6_jump_24 : decode cX6_jump 24 = .ok (.iconst 0, 1) := by decide +kernel
theorem dX6_jump_25 : decode cX6_jump 25 = .ok (.iload_n 1, 1) := by decide +kernel
theorem dX6_jump_26 : decode cX6_jump 26 = .ok (.iload_n 2, 1) := by decide +kernel
theorem dX6_jump_27 : decode cX6_jump 27 = .ok (.invokevirtual 148, 3) := by decide +kernel
theorem dX6_jump_30 : decode cX6_jump 30 = .ok (.ifCond .ne 6, 3) := by decide +kernel
theorem dX6_jump_33 : decode cX6_jump 33 = .ok (.bipush (-103), 2) := by decide +kernel
theorem dX6_jump_35 : decode cX6_jump 35 = .ok (.ireturn, 1) := by decide +kernel
theorem dX6_jump_36 : decode cX6_jump 36 = .ok (.aload_n 0, 1) := by decide +kernel
theorem dX6_jump_37 : decode cX6_jump 37 = .ok (.getfield 121, 3) := by decide +kernel
theorem dX6_jump_40 : decode cX6_jump 40 = .ok (.sipush 999, 3) := by decide +kernel
theorem dX6_jump_43 : decode cX6_jump 43 = .ok (.if_icmp .ne 6, 3) := by decide +kernel
theorem dX6_jump_46 : decode cX6_jump 46 = .ok (.bipush (-104), 2) := by decide +kernel
theorem dX6_jump_48 : decode cX6_jump 48 = .ok (.ireturn, 1) := by decide +kernel
theorem dX6_jump_49 : decode cX6_jump 49 = .ok (.aload_n 0, 1) := by decide +kernel
theorem dX6_jump_50 : decode cX6_jump 50 = .ok (.iconst 0, 1) := by decide +kernel
theorem dX6_jump_51 : decode cX6_jump 51 = .ok (.iload_n 1, 1) := by decide +kernel
theorem dX6_jump_52 : decode cX6_jump 52 = .ok (.iload_n 2, 1) := by decide +kernel
theorem dX6_jump_53 : decode cX6_jump 53 = .ok (.invokevirtual 179, 3) := by decide +kernel
theorem dX6_jump_56 : decode cX6_jump 56 = .ok (.iconst 0, 1) := by decide +kernel
theorem dX6_jump_57 : decode cX6_jump 57 = .ok (.istore_n 3, 1) := by decide +kernel
theorem dX6_jump_58 : decode cX6_jump 58 = .ok (.iload_n 3, 1) := by decide +kernel
theorem dX6_jump_59 : decode cX6_jump 59 = .ok (.aload_n 0, 1) := by decide +kernel
theorem dX6_jump_60 : decode cX6_jump 60 = .ok (.getfield 115, 3) := by decide +kernel
theorem dX6_jump_63 : decode cX6_jump 63 = .ok (.if_icmp .ge 24, 3) := by decide +kernel
theorem dX6_jump_66 : decode cX6_jump 66 = .ok (.aload_n 0, 1) := by decide +kernel
theorem dX6_jump_67 : decode cX6_jump 67 = .ok (.getfield 13, 3) := by decide +kernel
theorem dX6_jump_70 : decode cX6_jump 70 = .ok (.iload_n 3, 1) := by decide +kernel
theorem dX6_jump_71 : decode cX6_jump 71 = .ok (.aload_n 0, 1) := by decide +kernel
theorem dX6_jump_72 : decode cX6_jump 72 = .ok (.getfield 29, 3) := by decide +kernel
theorem dX6_jump_75 : decode cX6_jump 75 = .ok (.bipush 8, 2) := by decide +kernel
theorem dX6_jump_77 : decode cX6_jump 77 = .ok (.iload_n 3, 1) := by decide +kernel
theorem dX6_jump_78 : decode cX6_jump 78 = .ok (.iadd, 1) := by decide +kernel
theorem dX6_jump_79 : decode cX6_jump 79 = .ok (.iaload, 1) := by decide +kernel
theorem dX6_jump_80 : decode cX6_jump 80 = .ok (.iastore, 1) := by decide +kernel
theorem dX6_jump_81 : decode cX6_jump 81 = .ok (.iinc 3 1, 3) := by decide +kernel
theorem dX6_jump_84 : decode cX6_jump 84 = .ok (.goto (-26), 3) := by decide +kernel
theorem dX6_jump_87 : decode cX6_jump 87 = .ok (.aload_n 0, 1) := by decide +kernel
theorem dX6_jump_88 : decode cX6_jump 88 = .ok (.dup, 1) := by decide +kernel
theorem dX6_jump_89 : decode cX6_jump 89 = .ok (.getfield 121, 3) := by decide +kernel
theorem dX6_jump_92 : decode cX6_jump 92 = .ok (.iconst 1, 1) := by decide +kernel
theorem dX6_jump_93 : decode cX6_jump 93 = .ok (.iadd, 1) := by decide +kernel
theorem dX6_jump_94 : decode cX6_jump 94 = .ok (.putfield 121, 3) := by decide +kernel
theorem dX6_jump_97 : decode cX6_jump 97 = .ok (.aload_n 0, 1) := by decide +kernel
theorem dX6_jump_98 : decode cX6_jump 98 = .ok (.iconst 1, 1) := by decide +kernel
theorem dX6_jump_99 : decode cX6_jump 99 = .ok (.invokevirtual 183, 3) := by decide +kernel
theorem dX6_jump_102 : decode cX6_jump 102 = .ok (.ireturn, 1) := by decide +kernel
set_option maxRecDepth 20000 in
theorem ggX6_isEmpty_X6_putDeep : GoodIn wsX6_isEmpty wsX6_putDeep := goodIn_r _ [6, 7, 8, 9, 17, 18, 19, 20, 21, 22, 23, 24, 25, 26, 27, 28, 29, 30, 31, 32, 33, 34, 35, 36, 37, 38, 39, 40, 41, 42, 43, 44, 45, 46, 47, 48, 49, 50, 51, 52, 53, 54, 55, 56] (by decide +kernel) (by decide +kernel)
set_option maxRecDepth 20000 in
theorem gX6_isEmpty_X6_putDeep : GoodIn wsX6_isEmpty (wsV RX6 157 RX6 yX6_putDeep wsX6_putDeep) := goodIn_app (goodIn_of _ (by decide +kernel)) ggX6_isEmpty_X6_putDeep
set_option maxRecDepth 20000 in
theorem ggX6_isEmpty_X6_isIn : GoodIn wsX6_isEmpty wsX6_isIn := goodIn_r _ [12] (by decide +kernel) (by decide +kernel)
set_option maxRecDepth 20000 in
theorem gX6_isEmpty_X6_isIn : GoodIn wsX6_isEmpty (va_wsS RX6 130 yX6_isIn wsX6_isIn) := goodIn_app (goodIn_of _ (by decide +kernel)) ggX6_isEmpty_X6_isIn
set_option maxRecDepth 20000 in
theorem ggX6_isEmpty_X6_whoAt : GoodIn wsX6_isEmpty wsX6_whoAt := goodIn_r _ [16, 8, 7, 17, 18, 19, 20, 21, 22, 23, 24, 25, 26, 27, 28, 29, 30, 31, 32, 33, 34, 35, 36, 37, 38, 39, 40, 41, 42, 43, 44, 45, 46, 47, 48, 49, 50, 51, 52, 53, 54, 55, 56] (by decide +kernel) (by decide +kernel)
set_option maxRecDepth 20000 in
theorem gX6_isEmpty_X6_whoAt : GoodIn wsX6_isEmpty (wsV RX6 134 RX6 yX6_whoAt wsX6_whoAt) := goodIn_app (goodIn_of _ (by decide +kernel)) ggX6_isEmpty_X6_whoAt
theorem dX6_isEmpty_0 : decode cX6_isEmpty 0 = .ok (.aload_n 0, 1) := by decide +kernel
theorem dX6_isEmpty_1 : decode cX6_isEmpty 1 = .ok (.invokevirtual 157, 3) := by decide +kernel
theorem dX6_isEmpty_4 : decode cX6_isEmpty 4 = .ok (.aload_n 0, 1) := by decide +kernel
theorem dX6_isEmpty_5 : decode cX6_isEmpty 5 = .ok (.getfield 112, 3) := by decide +kernel
theorem dX6_isEmpty_8 : decode cX6_isEmpty 8 = .ok (.iload_n 1, 1) := by decide +kernel
theorem dX6_isEmpty_9 : decode cX6_isEmpty 9 = .ok (.invokestatic 130, 3) := by decide +kernel
theorem dX6_isEmpty_12 : decode cX6_isEmpty 12 = .ok (.ifCond .eq 17, 3) := by decide +kernel
theorem dX6_isEmpty_15 : decode cX6_isEmpty 15 = .ok (.aload_n 0, 1) := by decide +kernel
theorem dX6_isEmpty_16 : decode cX6_isEmpty 16 = .ok (.iconst 0, 1) := by decide +kernel
theorem dX6_isEmpty_17 : decode cX6_isEmpty 17 = .ok (.iload_n 1, 1) := by decide +kernel
theorem dX6_isEmpty_18 : decode cX6_isEmpty 18 = .ok (.invokevirtual 134, 3) := by decide +kernel
theorem dX6_isEmpty_21 : decode cX6_isEmpty 21 = .ok (.iconst (-1), 1) := by decide +kernel
theorem dX6_isEmpty_22 : decode cX6_isEmpty 22 = .ok (.if_icmp .ne 7, 3) := by decide +kernel
theorem dX6_isEmpty_25 : decode cX6_isEmpty 25 = .ok (.iconst 1, 1) := by decide +kernel
theorem dX6_isEmpty_26 : decode cX6_isEmpty 26 = .ok (.goto 4, 3) := by decide +kernel
theorem dX6_isEmpty_29 : decode cX6_isEmpty 29 = .ok (.iconst 0, 1) := by decide +kernel
theorem dX6_isEmpty_30 : decode cX6_isEmpty 30 = .ok (.ireturn, 1) := by decide +kernel
set_option maxRecDepth 20000 in
theorem ggX6_put_X6_isPeg : GoodIn wsX6_put wsX6_isPeg := goodIn_r _ [6, 7, 8, 9, 5, 10, 42, 43, 44, 45, 46, 47, 48, 49, 50, 51, 52, 53, 54, 55, 56, 57, 58, 59, 60, 61, 62, 63, 64, 65, 66, 67, 68, 69, 70, 71, 72, 73, 74, 75, 76, 77, 78, 79, 80, 81] (by decide +kernel) (by decide +kernel)
set_option maxRecDepth 20000 in
theorem gX6_put_X6_isPeg : GoodIn wsX6_put (wsV RX6 166 RX6 yX6_isPeg wsX6_isPeg) := goodIn_app (goodIn_of _ (by decide +kernel)) ggX6_put_X6_isPeg
set_option maxRecDepth 20000 in
theorem ggX6_put_X6_isPlace : GoodIn wsX6_put wsX6_isPlace := goodIn_r _ [14, 15, 16, 17, 5, 18, 19, 20, 8, 9, 10, 42, 43, 44, 45, 46, 47, 48, 49, 50, 51, 52, 53, 54, 55, 56, 57, 58, 59, 60, 61, 62, 63, 64, 65, 66, 67, 68, 69, 70, 71, 72, 73, 74, 75, 76, 77, 78, 79, 80, 81] (by decide +kernel) (by decide +kernel)
set_option maxRecDepth 20000 in
theorem gX6_put_X6_isPlace : GoodIn wsX6_put (wsV RX6 173 RX6 yX6_isPlace wsX6_isPlace) := goodIn_app (goodIn_of _ (by decide +kernel)) ggX6_put_X6_isPlace
set_option maxRecDepth 20000 in
theorem ggX6_put_X6_isEmpty : GoodIn wsX6_put wsX6_isEmpty := goodIn_r _ [24, 25, 26, 27, 28, 5, 29, 30, 7, 1, 31, 32, 33, 34, 35, 36, 37, 42, 43, 44, 45, 46, 47, 48, 49, 50, 51, 52, 53, 54, 55, 56, 57, 58, 59, 60, 61, 62, 63, 64, 65, 66, 67, 68, 69, 70, 71, 72, 73, 74, 75, 76, 77, 78, 79, 80, 81] (by decide +kernel) (by decide +kernel)
set_option maxRecDepth 20000 in
theorem gX6_put_X6_isEmpty : GoodIn wsX6_put (wsV RX6 186 RX6 yX6_isEmpty wsX6_isEmpty) := goodIn_app (goodIn_of _ (by decide +kernel)) ggX6_put_X6_isEmpty
set_option maxRecDepth 20000 in
theorem ggX6_put_X6_putDeep : GoodIn wsX6_put wsX6_putDeep := goodIn_r _ [29, 30, 7, 1, 42, 43, 44, 45, 46, 47, 48, 49, 50, 51, 52, 53, 54, 55, 56, 57, 58, 59, 60, 61, 62, 63, 64, 65, 66, 67, 68, 69, 70, 71, 72, 73, 74, 75, 76, 77, 78, 79, 80, 81] (by decide +kernel) (by decide +kernel)
set_option maxRecDepth 20000 in
theorem gX6_put_X6_putDeep : GoodIn wsX6_put (wsV RX6 157 RX6 yX6_putDeep wsX6_putDeep) := goodIn_app (goodIn_of _ (by decide +kernel)) ggX6_put_X6_putDeep
set_option maxRecDepth 20000 in
theorem ggX6_put_X6_onBoard : GoodIn wsX6_put wsX6_onBoard := goodIn_r _ [41, 7, 30, 42, 43, 44, 45, 46, 47, 48, 49, 50, 51, 52, 53, 54, 55, 56, 57, 58, 59, 60, 61, 62, 63, 64, 65, 66, 67, 68, 69, 70, 71, 72, 73, 74, 75, 76, 77, 78, 79, 80, 81] (by decide +kernel) (by decide +kernel)
set_option maxRecDepth 20000 in
theorem gX6_put_X6_onBoard : GoodIn wsX6_put (wsV RX6 183 RX6 yX6_onBoard wsX6_onBoard) := goodIn_app (goodIn_of _ (by decide +kernel)) ggX6_put_X6_onBoard
theorem dX6_put_0 : decode cX6_put 0 = .ok (.aload_n 0, 1) := by decide +kernel
theorem dX6_put_1 : decode cX6_put 1 = .ok (.iload_n 1, 1) := by decide +kernel
theorem dX6_put_2 : decode cX6_put 2 = .ok (.invokevirtual 166, 3) := by decide +kernel
theorem dX6_put_5 : decode cX6_put 5 = .ok (.ifCond .eq 11, 3) := by decide +kernel
theorem dX6_put_8 : decode cX6_put 8 = .ok (.aload_n 0, 1) := by decide +kernel
theorem dX6_put_9 : decode cX6_put 9 = .ok (.iload_n 2, 1) := by decide +kernel
theorem dX6_put_10 : decode cX6_put 10 = .ok (.invokevirtual 173, 3) := by decide +kernel
theorem dX6_put_13 : decode cX6_put 13 = .ok (.ifCond .ne 6, 3) := by decide +kernel
theorem dX6_put_16 : decode cX6_put 16 = .ok (.bipush (-101), 2) := by decide +kernel
theorem dX6_put_18 : decode cX6_put 18 = .ok (.ireturn, 1) := by decide +kernel
theorem dX6_put_19 : decode cX6_put 19 = .ok (.aload_n 0, 1) := by decide +kernel
theorem dX6_put_20 : decode cX6_put 20 = .ok (.getfield 13, 3) := by decide +kernel
theorem dX6_put_23 : decode cX6_put 23 = .ok (.iload_n 1, 1) := by decide +kernel
theorem dX6_put_24 : decode cX6_put 24 = .ok (.iaload, 1) := by decide +kernel
theorem dX6_put_25 : decode cX6_put 25 = .ok (.iconst (-1), 1) := by decide +kernel
theorem dX6_put_26 : decode cX6_put 26 = .ok (.if_icmp .ne 11, 3) := by decide +kernel
theorem dX6_put_29 : decode cX6_put 29 = .ok (.aload_n 0, 1) := by decide +kernel
theorem dX6_put_30 : decode cX6_put 30 = .ok (.iload_n 2, 1) := by decide +kernel
theorem dX6_put_31 : decode cX6_put 31 = .ok (.invokevirtual 186, 3) := by decide +kernel
theorem dX6_put_34 : decode cX6_put 34 = .ok (.ifCond .ne 6, 3) := by decide +kernel
theorem dX6_put_37 : decode cX6_put 37 = .ok (.bipush (-103), 2) := by decide +kernel
theorem dX6_put_39 : decode cX6_put 39 = .ok (.ireturn, 1) := by decide +kernel
theorem dX6_put_40 : decode cX6_put 40 = .ok (.aload_n 0, 1) := by decide +kernel
theorem dX6_put_41 : decode cX6_put 41 = .ok (.getfield 13, 3) := by decide +kernel
theorem dX6_put_44 : decode cX6_put 44 = .ok (.iload_n 1, 1) := by decide +kernel
theorem dX6_put_45 : decode cX6_put 45 = .ok (.iload_n 2, 1) := by decide +kernel
theorem dX6_put_46 : decode cX6_put 46 = .ok (.iastore, 1) := by decide +kernel
theorem dX6_put_47 : decode cX6_put 47 = .ok (.aload_n 0, 1) := by decide +kernel
theorem dX6_put_48 : decode cX6_put 48 = .ok (.invokevirtual 157, 3) := by decide +kernel
theorem dX6_put_51 : decode cX6_put 51 = .ok (.aload_n 0, 1) := by decide +kernel
theorem dX6_put_52 : decode cX6_put 52 = .ok (.iconst 0, 1) := by decide +kernel
theorem dX6_put_53 : decode cX6_put 53 = .ok (.invokevirtual 183, 3) := by decide +kernel
theorem dX6_put_56 : decode cX6_put 56 = .ok (.ireturn, 1) := by decide +kernel
set_option maxRecDepth 20000 in
theorem ggX6_plug_X6_isPlace : GoodIn wsX6_plug wsX6_isPlace := goodIn_r _ [6, 7, 8, 9, 5, 10, 11, 12, 13, 14, 15, 37, 38, 39, 40, 41, 42, 43, 44, 45, 46, 47, 48, 49, 50, 51, 52, 53, 54, 55, 56, 57, 58, 59, 60, 61, 62, 63, 64, 65, 66, 67, 68, 69, 70, 71, 72, 73, 74, 75, 76] (by decide +kernel) (by decide +kernel)
set_option maxRecDepth 20000 in
theorem gX6_plug_X6_isPlace : GoodIn wsX6_plug (wsV RX6 173 RX6 yX6_isPlace wsX6_isPlace) := goodIn_app (goodIn_of _ (by decide +kernel)) ggX6_plug_X6_isPlace
set_option maxRecDepth 20000 in
theorem ggX6_plug_X6_isEmpty : GoodIn wsX6_plug wsX6_isEmpty := goodIn_r _ [19, 1, 20, 21, 22, 5, 23, 24, 25, 26, 27, 28, 29, 30, 31, 32, 33, 37, 38, 39, 40, 41, 42, 43, 44, 45, 46, 47, 48, 49, 50, 51, 52, 53, 54, 55, 56, 57, 58, 59, 60, 61, 62, 63, 64, 65, 66, 67, 68, 69, 70, 71, 72, 73, 74, 75, 76] (by decide +kernel) (by decide +kernel)
set_option maxRecDepth 20000 in
theorem gX6_plug_X6_isEmpty : GoodIn wsX6_plug (wsV RX6 186 RX6 yX6_isEmpty wsX6_isEmpty) := goodIn_app (goodIn_of _ (by decide +kernel)) ggX6_plug_X6_isEmpty
set_option maxRecDepth 20000 in
theorem ggX6_plug_X6_size : GoodIn wsX6_plug wsX6_size := goodIn_r _ [36] (by decide +kernel) (by decide +kernel)
set_option maxRecDepth 20000 in
theorem gX6_plug_X6_size : GoodIn wsX6_plug (va_wsS RX6 154 yX6_size wsX6_size) := goodIn_app (goodIn_of _ (by decide +kernel)) ggX6_plug_X6_size
theorem dX6_plug_0 : decode cX6_plug 0 = .ok (.aload_n 0, 1) := by decide +kernel
theorem dX6_plug_1 : decode cX6_plug 1 = .ok (.iload_n 1, 1) := by decide +kernel
theorem dX6_plug_2 : decode cX6_plug 2 = .ok (.invokevirtual 173, 3) := by decide +kernel
theorem dX6_plug_5 : decode cX6_plug 5 = .ok (.ifCond .ne 6, 3) := by decide +kernel
theorem dX6_plug_8 : decode cX6_plug 8 = .ok (.bipush (-101), 2) := by decide +kernel
theorem dX6_plug_10 : decode cX6_plug 10 = .ok (.ireturn, 1) := by decide +kernel
theorem dX6_plug_11 : decode cX6_plug 11 = .ok (.aload_n 0, 1) := by decide +kernel
theorem dX6_plug_12 : decode cX6_plug 12 = .ok (.iload_n 1, 1) := by decide +kernel
theorem dX6_plug_13 : decode cX6_plug 13 = .ok (.invokevirtual 186, 3) := by decide +kernel
theorem dX6_plug_16 : decode cX6_plug 16 = .ok (.ifCond .ne 6, 3) := by decide +kernel
theorem dX6_plug_19 : decode cX6_plug 19 = .ok (.bipush (-103), 2) := by decide +kernel
theorem dX6_plug_21 : decode cX6_plug 21 = .ok (.ireturn, 1) := by decide +kernel
theorem dX6_plug_22 : decode cX6_plug 22 = .ok (.aload_n 0, 1) := by decide +kernel
theorem dX6_plug_23 : decode cX6_plug 23 = .ok (.dup, 1) := by decide +kernel
theorem dX6_plug_24 : decode cX6_plug 24 = .ok (.getfield 112, 3) := by decide +kernel
theorem dX6_plug_27 : decode cX6_plug 27 = .ok (.iconst 1, 1) := by decide +kernel
theorem dX6_plug_28 : decode cX6_plug 28 = .ok (.iload_n 1, 1) := by decide +kernel
theorem dX6_plug_29 : decode cX6_plug 29 = .ok (.ishl, 1) := by decide +kernel
theorem dX6_plug_30 : decode cX6_plug 30 = .ok (.iconst (-1), 1) := by decide +kernel
theorem dX6_plug_31 : decode cX6_plug 31 = .ok (.ixor, 1) := by decide +kernel
theorem dX6_plug_32 : decode cX6_plug 32 = .ok (.iand, 1) := by decide +kernel
theorem dX6_plug_33 : decode cX6_plug 33 = .ok (.putfield 112, 3) := by decide +kernel
theorem dX6_plug_36 : decode cX6_plug 36 = .ok (.aload_n 0, 1) := by decide +kernel
theorem dX6_plug_37 : decode cX6_plug 37 = .ok (.getfield 112, 3) := by decide +kernel
theorem dX6_plug_40 : decode cX6_plug 40 = .ok (.invokestatic 154, 3) := by decide +kernel
theorem dX6_plug_43 : decode cX6_plug 43 = .ok (.ireturn, 1) := by decide +kernel
set_option maxRecDepth 20000 in
theorem ggX6_bore_X6_isPlace : GoodIn wsX6_bore wsX6_isPlace := goodIn_r _ [6, 7, 8, 9, 5, 10, 11, 12, 13, 14, 15, 22, 23, 24, 25, 26, 27, 28, 29, 30, 31, 32, 33, 34, 35, 36, 37, 38, 39, 40, 41, 42, 43, 44, 45, 46, 47, 48, 49, 50, 51, 52, 53, 54, 55, 56, 57, 58, 59, 60, 61] (by decide +kernel) (by decide +kernel)
set_option maxRecDepth 20000 in
theorem gX6_bore_X6_isPlace : GoodIn wsX6_bore (wsV RX6 173 RX6 yX6_isPlace wsX6_isPlace) := goodIn_app (goodIn_of _ (by decide +kernel)) ggX6_bore_X6_isPlace
set_option maxRecDepth 20000 in
theorem ggX6_bore_X6_isIn : GoodIn wsX6_bore wsX6_isIn := goodIn_r _ [18] (by decide +kernel) (by decide +kernel)
set_option maxRecDepth 20000 in
theorem gX6_bore_X6_isIn : GoodIn wsX6_bore (va_wsS RX6 130 yX6_isIn wsX6_isIn) := goodIn_app (goodIn_of _ (by decide +kernel)) ggX6_bore_X6_isIn
set_option maxRecDepth 20000 in
theorem ggX6_bore_X6_size : GoodIn wsX6_bore wsX6_size := goodIn_r _ [21] (by decide +kernel) (by decide +kernel)
set_option maxRecDepth 20000 in
theorem gX6_bore_X6_size : GoodIn wsX6_bore (va_wsS RX6 154 yX6_size wsX6_size) := goodIn_app (goodIn_of _ (by decide +kernel)) ggX6_bore_X6_size
theorem dX6_bore_0 : decode cX6_bore 0 = .ok (.aload_n 0, 1) := by decide +kernel
theorem dX6_bore_1 : decode cX6_bore 1 = .ok (.iload_n 1, 1) := by decide +kernel
theorem dX6_bore_2 : decode cX6_bore 2 = .ok (.invokevirtual 173, 3) := by decide +kernel
theorem dX6_bore_5 : decode cX6_bore 5 = .ok (.ifCond .ne 6, 3) := by decide +kernel
theorem dX6_bore_8 : decode cX6_bore 8 = .ok (.bipush (-101), 2) := by decide +kernel
theorem dX6_bore_10 : decode cX6_bore 10 = .ok (.ireturn, 1) := by decide +kernel
theorem dX6_bore_11 : decode cX6_bore 11 = .ok (.aload_n 0, 1) := by decide +kernel
theorem dX6_bore_12 : decode cX6_bore 12 = .ok (.getfield 112, 3) := by decide +kernel
theorem dX6_bore_15 : decode cX6_bore 15 = .ok (.iload_n 1, 1) := by decide +kernel
theorem dX6_bore_16 : decode cX6_bore 16 = .ok (.invokestatic 130, 3) := by decide +kernel
theorem dX6_bore_19 : decode cX6_bore 19 = .ok (.ifCond .eq 6, 3) := by decide +kernel
theorem dX6_bore_22 : decode cX6_bore 22 = .ok (.bipush (-103), 2) := by decide +kernel
theorem dX6_bore_24 : decode cX6_bore 24 = .ok (.ireturn, 1) := by decide +kernel
theorem dX6_bore_25 : decode cX6_bore 25 = .ok (.aload_n 0, 1) := by decide +kernel
theorem dX6_bore_26 : decode cX6_bore 26 = .ok (.dup, 1) := by decide +kernel
theorem dX6_bore_27 : decode cX6_bore 27 = .ok (.getfield 112, 3) := by decide +kernel
theorem dX6_bore_30 : decode cX6_bore 30 = .ok (.iconst 1, 1) := by decide +kernel
theorem dX6_bore_31 : decode cX6_bore 31 = .ok (.iload_n 1, 1) := by decide +kernel
theorem dX6_bore_32 : decode cX6_bore 32 = .ok (.ishl, 1) := by decide +kernel
theorem dX6_bore_33 : decode cX6_bore 33 = .ok (.ior, 1) := by decide +kernel
theorem dX6_bore_34 : decode cX6_bore 34 = .ok (.putfield 112, 3) := by decide +kernel
theorem dX6_bore_37 : decode cX6_bore 37 = .ok (.aload_n 0, 1) := by decide +kernel
theorem dX6_bore_38 : decode cX6_bore 38 = .ok (.getfield 112, 3) := by decide +kernel
theorem dX6_bore_41 : decode cX6_bore 41 = .ok (.invokestatic 154, 3) := by decide +kernel
theorem dX6_bore_44 : decode cX6_bore 44 = .ok (.ireturn, 1) := by decide +kernel
set_option maxRecDepth 20000 in
theorem ggX6_be_X6_isPeg : GoodIn wsX6_be wsX6_isPeg := goodIn_r _ [6, 7, 8, 9, 5, 10, 11, 12, 13, 14, 15, 16, 17, 18, 19, 20, 21, 22, 23, 24, 25, 26, 27, 28, 29, 30, 31, 32, 33, 34, 35, 36, 37, 38, 39, 40, 41, 42, 43, 44, 45, 46, 47, 48, 49, 50] (by decide +kernel) (by decide +kernel)
set_option maxRecDepth 20000 in
theorem gX6_be_X6_isPeg : GoodIn wsX6_be (wsV RX6 166 RX6 yX6_isPeg wsX6_isPeg) := goodIn_app (goodIn_of _ (by decide +kernel)) ggX6_be_X6_isPeg
set_option maxRecDepth 20000 in
theorem ggX6_be_X6_within : GoodIn wsX6_be wsX6_within := goodIn_r _ [10] (by decide +kernel) (by decide +kernel)
set_option maxRecDepth 20000 in
theorem gX6_be_X6_within : GoodIn wsX6_be (va_wsS RX6 77 yX6_within wsX6_within) := goodIn_app (goodIn_of _ (by decide +kernel)) ggX6_be_X6_within
theorem dX6_be_0 : decode cX6_be 0 = .ok (.aload_n 0, 1) := by decide +kernel
theorem dX6_be_1 : decode cX6_be 1 = .ok (.iload_n 1, 1) := by decide +kernel
theorem dX6_be_2 : decode cX6_be 2 = .ok (.invokevirtual 166, 3) := by decide +kernel
theorem dX6_be_5 : decode cX6_be 5 = .ok (.ifCond .ne 6, 3) := by decide +kernel
theorem dX6_be_8 : decode cX6_be 8 = .ok (.bipush (-101), 2) := by decide +kernel
theorem dX6_be_10 : decode cX6_be 10 = .ok (.ireturn, 1) := by decide +kernel
theorem dX6_be_11 : decode cX6_be 11 = .ok (.iload_n 2, 1) := by decide +kernel
theorem dX6_be_12 : decode cX6_be 12 = .ok (.iconst 0, 1) := by decide +kernel
theorem dX6_be_13 : decode cX6_be 13 = .ok (.iconst 4, 1) := by decide +kernel
theorem dX6_be_14 : decode cX6_be 14 = .ok (.invokestatic 77, 3) := by decide +kernel
theorem dX6_be_17 : decode cX6_be 17 = .ok (.ifCond .ne 6, 3) := by decide +kernel
theorem dX6_be_20 : decode cX6_be 20 = .ok (.bipush (-102), 2) := by decide +kernel
theorem dX6_be_22 : decode cX6_be 22 = .ok (.ireturn, 1) := by decide +kernel
theorem dX6_be_23 : decode cX6_be 23 = .ok (.aload_n 0, 1) := by decide +kernel
theorem dX6_be_24 : decode cX6_be 24 = .ok (.getfield 7, 3) := by decide +kernel
theorem dX6_be_27 : decode cX6_be 27 = .ok (.iload_n 1, 1) := by decide +kernel
theorem dX6_be_28 : decode cX6_be 28 = .ok (.iaload, 1) := by decide +kernel
theorem dX6_be_29 : decode cX6_be 29 = .ok (.istore_n 3, 1) := by decide +kernel
theorem dX6_be_30 : decode cX6_be 30 = .ok (.aload_n 0, 1) := by decide +kernel
theorem dX6_be_31 : decode cX6_be 31 = .ok (.getfield 7, 3) := by decide +kernel
theorem dX6_be_34 : decode cX6_be 34 = .ok (.iload_n 1, 1) := by decide +kernel
theorem dX6_be_35 : decode cX6_be 35 = .ok (.iload_n 2, 1) := by decide +kernel
theorem dX6_be_36 : decode cX6_be 36 = .ok (.iastore, 1) := by decide +kernel
theorem dX6_be_37 : decode cX6_be 37 = .ok (.iload_n 3, 1) := by decide +kernel
theorem dX6_be_38 : decode cX6_be 38 = .ok (.ireturn, 1) := by decide +kernel
theorem dX6_begin_0 : decode cX6_begin 0 = .ok (.aload_n 0, 1) := by decide +kernel
theorem dX6_begin_1 : decode cX6_begin 1 = .ok (.getfield 32, 3) := by decide +kernel
theorem dX6_begin_4 : decode cX6_begin 4 = .ok (.iload_n 1, 1) := by decide +kernel
theorem dX6_begin_5 : decode cX6_begin 5 = .ok (.iconst 0, 1) := by decide +kernel
theorem dX6_begin_6 : decode cX6_begin 6 = .ok (.iastore, 1) := by decide +kernel
theorem dX6_begin_7 : decode cX6_begin 7 = .ok (.aload_n 0, 1) := by decide +kernel
theorem dX6_begin_8 : decode cX6_begin 8 = .ok (.getfield 35, 3) := by decide +kernel
theorem dX6_begin_11 : decode cX6_begin 11 = .ok (.iload_n 1, 1) := by decide +kernel
theorem dX6_begin_12 : decode cX6_begin 12 = .ok (.iconst 0, 1) := by decide +kernel
theorem dX6_begin_13 : decode cX6_begin 13 = .ok (.iastore, 1) := by decide +kernel
theorem dX6_begin_14 : decode cX6_begin 14 = .ok (.aload_n 0, 1) := by decide +kernel
theorem dX6_begin_15 : decode cX6_begin 15 = .ok (.getfield 38, 3) := by decide +kernel
theorem dX6_begin_18 : decode cX6_begin 18 = .ok (.iload_n 1, 1) := by decide +kernel
theorem dX6_begin_19 : decode cX6_begin 19 = .ok (.iconst 0, 1) := by decide +kernel
theorem dX6_begin_20 : decode cX6_begin 20 = .ok (.iastore, 1) := by decide +kernel
theorem dX6_begin_21 : decode cX6_begin 21 = .ok (.aload_n 0, 1) := by decide +kernel
theorem dX6_begin_22 : decode cX6_begin 22 = .ok (.getfield 41, 3) := by decide +kernel
theorem dX6_begin_25 : decode cX6_begin 25 = .ok (.iload_n 1, 1) := by decide +kernel
theorem dX6_begin_26 : decode cX6_begin 26 = .ok (.ldc 189, 2) := by decide +kernel
theorem dX6_begin_28 : decode cX6_begin 28 = .ok (.iastore, 1) := by decide +kernel
theorem dX6_begin_29 : decode cX6_begin 29 = .ok (.aload_n 0, 1) := by decide +kernel
theorem dX6_begin_30 : decode cX6_begin 30 = .ok (.getfield 44, 3) := by decide +kernel
theorem dX6_begin_33 : decode cX6_begin 33 = .ok (.iload_n 1, 1) := by decide +kernel
theorem dX6_begin_34 : decode cX6_begin 34 = .ok (.iconst (-1), 1) := by decide +kernel
theorem dX6_begin_35 : decode cX6_begin 35 = .ok (.iastore, 1) := by decide +kernel
theorem dX6_begin_36 : decode cX6_begin 36 = .ok (.aload_n 0, 1) := by decide +kernel
theorem dX6_begin_37 : decode cX6_begin 37 = .ok (.getfield 47, 3) := by decide +kernel
theorem dX6_begin_40 : decode cX6_begin 40 = .ok (.iload_n 1, 1) := by decide +kernel
theorem dX6_begin_41 : decode cX6_begin 41 = .ok (.iconst (-1), 1) := by decide +kernel
theorem dX6_begin_42 : decode cX6_begin 42 = .ok (.iastore, 1) := by decide +kernel
theorem dX6_begin_43 : decode cX6_begin 43 = .ok (.aload_n 0, 1) := by decide +kernel
theorem dX6_begin_44 : decode cX6_begin 44 = .ok (.getfield 50, 3) := by decide +kernel
theorem dX6_begin_47 : decode cX6_begin 47 = .ok (.iload_n 1, 1) := by decide +kernel
theorem dX6_begin_48 : decode cX6_begin 48 = .ok (.ldc 189, 2) := by decide +kernel
theorem dX6_begin_50 : decode cX6_begin 50 = .ok (.iastore, 1) := by decide +kernel
theorem dX6_begin_51 : decode cX6_begin 51 = .ok (.aload_n 0, 1) := by decide +kernel
theorem dX6_begin_52 : decode cX6_begin 52 = .ok (.getfield 53, 3) := by decide +kernel
theorem dX6_begin_55 : decode cX6_begin 55 = .ok (.iload_n 1, 1) := by decide +kernel
theorem dX6_begin_56 : decode cX6_begin 56 = .ok (.iconst 0, 1) := by decide +kernel
theorem dX6_begin_57 : decode cX6_begin 57 = .ok (.iastore, 1) := by decide +kernel
theorem dX6_begin_58 : decode cX6_begin 58 = .ok (.aload_n 0, 1) := by decide +kernel
theorem dX6_begin_59 : decode cX6_begin 59 = .ok (.getfield 56, 3) := by decide +kernel
theorem dX6_begin_62 : decode cX6_begin 62 = .ok (.iload_n 1, 1) := by decide +kernel
theorem dX6_begin_63 : decode cX6_begin 63 = .ok (.iconst (-1), 1) := by decide +kernel
theorem dX6_begin_64 : decode cX6_begin 64 = .ok (.iastore, 1) := by decide +kernel
theorem dX6_begin_65 : decode cX6_begin 65 = .ok (.aload_n 0, 1) := by decide +kernel
theorem dX6_begin_66 : decode cX6_begin 66 = .ok (.getfield 59, 3) := by decide +kernel
theorem dX6_begin_69 : decode cX6_begin 69 = .ok (.iload_n 1, 1) := by decide +kernel
theorem dX6_begin_70 : decode cX6_begin 70 = .ok (.iconst 0, 1) := by decide +kernel
theorem dX6_begin_71 : decode cX6_begin 71 = .ok (.iastore, 1) := by decide +kernel
theorem dX6_begin_72 : decode cX6_begin 72 = .ok (.return_, 1) := by decide +kernel
set_option maxRecDepth 20000 in
theorem ggX6_nextCode_X6_places : GoodIn wsX6_nextCode wsX6_places := goodIn_r _ [7, 8, 9, 35, 36, 37, 38, 39, 40, 41, 42, 43, 44, 45, 46, 47, 48, 49, 50, 51, 52, 53, 54, 55, 56, 57, 58, 59, 60, 61, 62, 63, 64, 65, 66, 67, 68, 69, 70, 71, 72, 73, 74] (by decide +kernel) (by decide +kernel)
set_option maxRecDepth 20000 in
theorem gX6_nextCode_X6_places : GoodIn wsX6_nextCode (wsV RX6 118 RX6 yX6_places wsX6_places) := goodIn_app (goodIn_of _ (by decide +kernel)) ggX6_nextCode_X6_places
set_option maxRecDepth 20000 in
theorem ggX6_nextCode_X6_isJump : GoodIn wsX6_nextCode wsX6_isJump := goodIn_r _ [13, 14, 15, 16, 6, 17, 18, 19, 20, 9, 21, 22, 23, 24, 25, 26, 27, 2, 28, 29, 30, 31, 32, 33, 34, 35, 36, 37, 38, 39, 40, 41, 42, 43, 44, 45, 46, 47, 48, 49, 50, 51, 52, 53, 54, 55, 56, 57, 58, 59, 60, 61, 62, 63, 64, 65, 66, 67, 68, 69, 70, 71, 72, 73, 74] (by decide +kernel) (by decide +kernel)
set_option maxRecDepth 20000 in
theorem gX6_nextCode_X6_isJump : GoodIn wsX6_nextCode (wsV RX6 148 RX6 yX6_isJump wsX6_isJump) := goodIn_app (goodIn_of _ (by decide +kernel)) ggX6_nextCode_X6_isJump
theorem dX6_nextCode_0 : decode cX6_nextCode 0 = .ok (.aload_n 0, 1) := by decide +kernel
theorem dX6_nextCode_1 : decode cX6_nextCode 1 = .ok (.getfield 32, 3) := by decide +kernel
theorem dX6_nextCode_4 : decode cX6_nextCode 4 = .ok (.iload_n 1, 1) := by decide +kernel
theorem dX6_nextCode_5 : decode cX6_nextCode 5 = .ok (.iaload, 1) := by decide +kernel
theorem dX6_nextCode_6 : decode cX6_nextCode 6 = .ok (.istore_n 2, 1) := by decide +kernel
theorem dX6_nextCode_7 : decode cX6_nextCode 7 = .ok (.iload_n 2, 1) := by decide +kernel
theorem dX6_nextCode_8 : decode cX6_nextCode 8 = .ok (.bipush 96, 2) := by decide +kernel
theorem dX6_nextCode_10 : decode cX6_nextCode 10 = .ok (.if_icmp .ge 47, 3) := by decide +kernel
theorem dX6_nextCode_13 : decode cX6_nextCode 13 = .ok (.iload_n 2, 1) := by decide +kernel
theorem dX6_nextCode_14 : decode cX6_nextCode 14 = .ok (.bipush 12, 2) := by decide +kernel
theorem dX6_nextCode_16 : decode cX6_nextCode 16 = .ok (.irem, 1) := by decide +kernel
theorem dX6_nextCode_17 : decode cX6_nextCode 17 = .ok (.aload_n 0, 1) := by decide +kernel
theorem dX6_nextCode_18 : decode cX6_nextCode 18 = .ok (.invokevirtual 118, 3) := by decide +kernel
theorem dX6_nextCode_21 : decode cX6_nextCode 21 = .ok (.if_icmp .ge 30, 3) := by decide +kernel
theorem dX6_nextCode_24 : decode cX6_nextCode 24 = .ok (.iload_n 2, 1) := by decide +kernel
theorem dX6_nextCode_25 : decode cX6_nextCode 25 = .ok (.bipush 12, 2) := by decide +kernel
theorem dX6_nextCode_27 : decode cX6_nextCode 27 = .ok (.idiv, 1) := by decide +kernel
theorem dX6_nextCode_28 : decode cX6_nextCode 28 = .ok (.aload_n 0, 1) := by decide +kernel
theorem dX6_nextCode_29 : decode cX6_nextCode 29 = .ok (.getfield 115, 3) := by decide +kernel
theorem dX6_nextCode_32 : decode cX6_nextCode 32 = .ok (.if_icmp .ge 19, 3) := by decide +kernel
theorem dX6_nextCode_35 : decode cX6_nextCode 35 = .ok (.aload_n 0, 1) := by decide +kernel
theorem dX6_nextCode_36 : decode cX6_nextCode 36 = .ok (.iload_n 1, 1) := by decide +kernel
theorem dX6_nextCode_37 : decode cX6_nextCode 37 = .ok (.iload_n 2, 1) := by decide +kernel
theorem dX6_nextCode_38 : decode cX6_nextCode 38 = .ok (.bipush 12, 2) := by decide +kernel
theorem dX6_nextCode_40 : decode cX6_nextCode 40 = .ok (.idiv, 1) := by decide +kernel
theorem dX6_nextCode_41 : decode cX6_nextCode 41 = .ok (.iload_n 2, 1) := by decide +kernel
theorem dX6_nextCode_42 : decode cX6_nextCode 42 = .ok (.bipush 12, 2) := by decide +kernel
theorem dX6_nextCode_44 : decode cX6_nextCode 44 = .ok (.irem, 1) := by decide +kernel
theorem dX6_nextCode_45 : decode cX6_nextCode 45 = .ok (.invokevirtual 148, 3) := by decide +kernel
theorem dX6_nextCode_48 : decode cX6_nextCode 48 = .ok (.ifCond .ne 9, 3) := by decide +kernel
theorem dX6_nextCode_51 : decode cX6_nextCode 51 = .ok (.iinc 2 1, 3) := by decide +kernel
theorem dX6_nextCode_54 : decode cX6_nextCode 54 = .ok (.goto (-47), 3) := by decide +kernel
theorem dX6_nextCode_57 : decode cX6_nextCode 57 = .ok (.aload_n 0, 1) := by decide +kernel
theorem dX6_nextCode_58 : decode cX6_nextCode 58 = .ok (.getfield 32, 3) := by decide +kernel
theorem dX6_nextCode_61 : decode cX6_nextCode 61 = .ok (.iload_n 1, 1) := by decide +kernel
theorem dX6_nextCode_62 : decode cX6_nextCode 62 = .ok (.iload_n 2, 1) := by decide +kernel
theorem dX6_nextCode_63 : decode cX6_nextCode 63 = .ok (.iconst 1, 1) := by decide +kernel
theorem dX6_nextCode_64 : decode cX6_nextCode 64 = .ok (.iadd, 1) := by decide +kernel
theorem dX6_nextCode_65 : decode cX6_nextCode 65 = .ok (.iastore, 1) := by decide +kernel
theorem dX6_nextCode_66 : decode cX6_nextCode 66 = .ok (.iload_n 2, 1) := by decide +kernel
theorem dX6_nextCode_67 : decode cX6_nextCode 67 = .ok (.bipush 96, 2) := by decide +kernel
theorem dX6_nextCode_69 : decode cX6_nextCode 69 = .ok (.if_icmp .ge 7, 3) := by decide +kernel
theorem dX6_nextCode_72 : decode cX6_nextCode 72 = .ok (.iload_n 2, 1) := by decide +kernel
theorem dX6_nextCode_73 : decode cX6_nextCode 73 = .ok (.goto 4, 3) := by decide +kernel
theorem dX6_nextCode_76 : decode cX6_nextCode 76 = .ok (.iconst (-1), 1) := by decide +kernel
theorem dX6_nextCode_77 : decode cX6_nextCode 77 = .ok (.ireturn, 1) := by decide +kernel
theorem dX6_lastPlace_0 : decode cX6_lastPlace 0 = .ok (.iconst 0, 1) := by decide +kernel
theorem dX6_lastPlace_1 : decode cX6_lastPlace 1 = .ok (.istore_n 2, 1) := by decide +kernel
theorem dX6_lastPlace_2 : decode cX6_lastPlace 2 = .ok (.iconst 0, 1) := by decide +kernel
theorem dX6_lastPlace_3 : decode cX6_lastPlace 3 = .ok (.istore_n 3, 1) := by decide +kernel
theorem dX6_lastPlace_4 : decode cX6_lastPlace 4 = .ok (.iload_n 3, 1) := by decide +kernel
theorem dX6_lastPlace_5 : decode cX6_lastPlace 5 = .ok (.aload_n 0, 1) := by decide +kernel
theorem dX6_lastPlace_6 : decode cX6_lastPlace 6 = .ok (.getfield 115, 3) := by decide +kernel
theorem dX6_lastPlace_9 : decode cX6_lastPlace 9 = .ok (.if_icmp .ge 44, 3) := by decide +kernel
theorem dX6_lastPlace_12 : decode cX6_lastPlace 12 = .ok (.iload_n 2, 1) := by decide +kernel
theorem dX6_lastPlace_13 : decode cX6_lastPlace 13 = .ok (.aload_n 0, 1) := by decide +kernel
theorem dX6_lastPlace_14 : decode cX6_lastPlace 14 = .ok (.getfield 29, 3) := by decide +kernel
theorem dX6_lastPlace_17 : decode cX6_lastPlace 17 = .ok (.bipush 8, 2) := by decide +kernel
theorem dX6_lastPlace_19 : decode cX6_lastPlace 19 = .ok (.iload_n 1, 1) := by decide +kernel
theorem dX6_lastPlace_20 : decode cX6_lastPlace 20 = .ok (.imul, 1) := by decide +kernel
theorem dX6_lastPlace_21 : decode cX6_lastPlace 21 = .ok (.iload_n 3, 1) := by decide +kernel
theorem dX6_lastPlace_22 : decode cX6_lastPlace 22 = .ok (.iadd, 1) := by decide +kernel
theorem dX6_lastPlace_23 : decode cX6_lastPlace 23 = .ok (.iaload, 1) := by decide +kernel
theorem dX6_lastPlace_24 : decode cX6_lastPlace 24 = .ok (.iconst (-1), 1) := by decide +kernel
theorem dX6_lastPlace_25 : decode cX6_lastPlace 25 = .ok (.if_icmp .ne 7, 3) := by decide +kernel
theorem dX6_lastPlace_28 : decode cX6_lastPlace 28 = .ok (.iconst 0, 1) := by decide +kernel
theorem dX6_lastPlace_29 : decode cX6_lastPlace 29 = .ok (.goto 16, 3) := by decide +kernel
theorem dX6_lastPlace_32 : decode cX6_lastPlace 32 = .ok (.iconst 1, 1) := by decide +kernel
theorem dX6_lastPlace_33 : decode cX6_lastPlace 33 = .ok (.aload_n 0, 1) := by decide +kernel
theorem dX6_lastPlace_34 : decode cX6_lastPlace 34 = .ok (.getfield 29, 3) := by decide +kernel
theorem dX6_lastPlace_37 : decode cX6_lastPlace 37 = .ok (.bipush 8, 2) := by decide +kernel
theorem dX6_lastPlace_39 : decode cX6_lastPlace 39 = .ok (.iload_n 1, 1) := by decide +kernel
theorem dX6_lastPlace_40 : decode cX6_lastPlace 40 = .ok (.imul, 1) := by decide +kernel
theorem dX6_lastPlace_41 : decode cX6_lastPlace 41 = .ok (.iload_n 3, 1) := by decide +kernel
theorem dX6_lastPlace_42 : decode cX6_lastPlace 42 = .ok (.iadd, 1) := by decide +kernel
theorem dX6_lastPlace_43 : decode cX6_lastPlace 43 = .ok (.iaload, 1) := by decide +kernel
theorem dX6_lastPlace_44 : decode cX6_lastPlace 44 = .ok (.ishl, 1) := by decide +kernel
theorem dX6_lastPlace_45 : decode cX6_lastPlace 45 = .ok (.ior, 1) := by decide +kernel
theorem dX6_lastPlace_46 : decode cX6_lastPlace 46 = .ok (.istore_n 2, 1) := by decide +kernel
theorem dX6_lastPlace_47 : decode cX6_lastPlace 47 = .ok (.iinc 3 1, 3) := by decide +kernel
theorem dX6_lastPlace_50 : decode cX6_lastPlace 50 = .ok (.goto (-46), 3) := by decide +kernel
theorem dX6_lastPlace_53 : decode cX6_lastPlace 53 = .ok (.iload_n 2, 1) := by decide +kernel
theorem dX6_lastPlace_54 : decode cX6_lastPlace 54 = .ok (.ireturn, 1) := by decide +kernel
set_option maxRecDepth 20000 in
theorem ggX6_end_X6_onBoard : GoodIn wsX6_end wsX6_onBoard := goodIn_r _ [12, 13, 14, 19, 20, 21, 22, 23, 24, 25, 26, 27, 28, 29, 30, 31, 32, 33, 34, 35, 36, 37, 38, 39, 40, 41, 42, 43, 44, 45, 46, 47, 48, 49, 50, 51, 52, 53, 54, 55, 56, 57, 58] (by decide +kernel) (by decide +kernel)
set_option maxRecDepth 20000 in
theorem gX6_end_X6_onBoard : GoodIn wsX6_end (wsV RX6 183 RX6 yX6_onBoard wsX6_onBoard) := goodIn_app (goodIn_of _ (by decide +kernel)) ggX6_end_X6_onBoard
set_option maxRecDepth 20000 in
theorem ggX6_end_X6_lastPlace : GoodIn wsX6_end wsX6_lastPlace := goodIn_r _ [18, 13, 14, 19, 20, 21, 22, 23, 24, 25, 26, 27, 28, 29, 30, 31, 32, 33, 34, 35, 36, 37, 38, 39, 40, 41, 42, 43, 44, 45, 46, 47, 48, 49, 50, 51, 52, 53, 54, 55, 56, 57, 58] (by decide +kernel) (by decide +kernel)
set_option maxRecDepth 20000 in
theorem gX6_end_X6_lastPlace : GoodIn wsX6_end (wsV RX6 190 RX6 yX6_lastPlace wsX6_lastPlace) := goodIn_app (goodIn_of _ (by decide +kernel)) ggX6_end_X6_lastPlace
theorem dX6_end_0 : decode cX6_end 0 = .ok (.aload_n 0, 1) := by decide +kernel
theorem dX6_end_1 : decode cX6_end 1 = .ok (.iload_n 1, 1) := by decide +kernel
theorem dX6_end_2 : decode cX6_end 2 = .ok (.invokevirtual 183, 3) := by decide +kernel
theorem dX6_end_5 : decode cX6_end 5 = .ok (.istore_n 2, 1) := by decide +kernel
theorem dX6_end_6 : decode cX6_end 6 = .ok (.aload_n 0, 1) := by decide +kernel
theorem dX6_end_7 : decode cX6_end 7 = .ok (.getfield 38, 3) := by decide +kernel
theorem dX6_end_10 : decode cX6_end 10 = .ok (.iload_n 1, 1) := by decide +kernel
theorem dX6_end_11 : decode cX6_end 11 = .ok (.iconst 1, 1) := by decide +kernel
theorem dX6_end_12 : decode cX6_end 12 = .ok (.iastore, 1) := by decide +kernel
theorem dX6_end_13 : decode cX6_end 13 = .ok (.aload_n 0, 1) := by decide +kernel
theorem dX6_end_14 : decode cX6_end 14 = .ok (.getfield 41, 3) := by decide +kernel
theorem dX6_end_17 : decode cX6_end 17 = .ok (.iload_n 1, 1) := by decide +kernel
theorem dX6_end_18 : decode cX6_end 18 = .ok (.iload_n 2, 1) := by decide +kernel
theorem dX6_end_19 : decode cX6_end 19 = .ok (.iastore, 1) := by decide +kernel
theorem dX6_end_20 : decode cX6_end 20 = .ok (.aload_n 0, 1) := by decide +kernel
theorem dX6_end_21 : decode cX6_end 21 = .ok (.getfield 47, 3) := by decide +kernel
theorem dX6_end_24 : decode cX6_end 24 = .ok (.iload_n 1, 1) := by decide +kernel
theorem dX6_end_25 : decode cX6_end 25 = .ok (.iconst 0, 1) := by decide +kernel
theorem dX6_end_26 : decode cX6_end 26 = .ok (.iastore, 1) := by decide +kernel
theorem dX6_end_27 : decode cX6_end 27 = .ok (.aload_n 0, 1) := by decide +kernel
theorem dX6_end_28 : decode cX6_end 28 = .ok (.getfield 50, 3) := by decide +kernel
theorem dX6_end_31 : decode cX6_end 31 = .ok (.iload_n 1, 1) := by decide +kernel
theorem dX6_end_32 : decode cX6_end 32 = .ok (.iconst 0, 1) := by decide +kernel
theorem dX6_end_33 : decode cX6_end 33 = .ok (.iastore, 1) := by decide +kernel
theorem dX6_end_34 : decode cX6_end 34 = .ok (.aload_n 0, 1) := by decide +kernel
theorem dX6_end_35 : decode cX6_end 35 = .ok (.getfield 53, 3) := by decide +kernel
theorem dX6_end_38 : decode cX6_end 38 = .ok (.iload_n 1, 1) := by decide +kernel
theorem dX6_end_39 : decode cX6_end 39 = .ok (.iload_n 2, 1) := by decide +kernel
theorem dX6_end_40 : decode cX6_end 40 = .ok (.iconst 1, 1) := by decide +kernel
theorem dX6_end_41 : decode cX6_end 41 = .ok (.if_icmp .ne 11, 3) := by decide +kernel
theorem dX6_end_44 : decode cX6_end 44 = .ok (.aload_n 0, 1) := by decide +kernel
theorem dX6_end_45 : decode cX6_end 45 = .ok (.iload_n 1, 1) := by decide +kernel
theorem dX6_end_46 : decode cX6_end 46 = .ok (.invokevirtual 190, 3) := by decide +kernel
theorem dX6_end_49 : decode cX6_end 49 = .ok (.goto 4, 3) := by decide +kernel
theorem dX6_end_52 : decode cX6_end 52 = .ok (.iconst 0, 1) := by decide +kernel
theorem dX6_end_53 : decode cX6_end 53 = .ok (.iastore, 1) := by decide +kernel
theorem dX6_end_54 : decode cX6_end 54 = .ok (.aload_n 0, 1) := by decide +kernel
theorem dX6_end_55 : decode cX6_end 55 = .ok (.getfield 59, 3) := by decide +kernel
theorem dX6_end_58 : decode cX6_end 58 = .ok (.iload_n 1, 1) := by decide +kernel
theorem dX6_end_59 : decode cX6_end 59 = .ok (.sipush 1000, 3) := by decide +kernel
theorem dX6_end_62 : decode cX6_end 62 = .ok (.iload_n 2, 1) := by decide +kernel
theorem dX6_end_63 : decode cX6_end 63 = .ok (.imul, 1) := by decide +kernel
theorem dX6_end_64 : decode cX6_end 64 = .ok (.iastore, 1) := by decide +kernel
theorem dX6_end_65 : decode cX6_end 65 = .ok (.aload_n 0, 1) := by decide +kernel
theorem dX6_end_66 : decode cX6_end 66 = .ok (.getfield 35, 3) := by decide +kernel
theorem dX6_end_69 : decode cX6_end 69 = .ok (.iload_n 1, 1) := by decide +kernel
theorem dX6_end_70 : decode cX6_end 70 = .ok (.iconst 1, 1) := by decide +kernel
theorem dX6_end_71 : decode cX6_end 71 = .ok (.iastore, 1) := by decide +kernel
theorem dX6_end_72 : decode cX6_end 72 = .ok (.return_, 1) := by decide +kernel
theorem dX6_takeUp_0 : decode cX6_takeUp 0 = .ok (.iload_n 1, 1) := by decide +kernel
theorem dX6_takeUp_1 : decode cX6_takeUp 1 = .ok (.iconst 1, 1) := by decide +kernel
theorem dX6_takeUp_2 : decode cX6_takeUp 2 = .ok (.iadd, 1) := by decide +kernel
theorem dX6_takeUp_3 : decode cX6_takeUp 3 = .ok (.istore_n 3, 1) := by decide +kernel
theorem dX6_takeUp_4 : decode cX6_takeUp 4 = .ok (.bipush 100, 2) := by decide +kernel
theorem dX6_takeUp_6 : decode cX6_takeUp 6 = .ok (.iload_n 2, 1) := by decide +kernel
theorem dX6_takeUp_7 : decode cX6_takeUp 7 = .ok (.bipush 12, 2) := by decide +kernel
theorem dX6_takeUp_9 : decode cX6_takeUp 9 = .ok (.idiv, 1) := by decide +kernel
theorem dX6_takeUp_10 : decode cX6_takeUp 10 = .ok (.imul, 1) := by decide +kernel
theorem dX6_takeUp_11 : decode cX6_takeUp 11 = .ok (.iload_n 2, 1) := by decide +kernel
theorem dX6_takeUp_12 : decode cX6_takeUp 12 = .ok (.bipush 12, 2) := by decide +kernel
theorem dX6_takeUp_14 : decode cX6_takeUp 14 = .ok (.irem, 1) := by decide +kernel
theorem dX6_takeUp_15 : decode cX6_takeUp 15 = .ok (.iadd, 1) := by decide +kernel
theorem dX6_takeUp_16 : decode cX6_takeUp 16 = .ok (.istore 4, 2) := by decide +kernel
theorem dX6_takeUp_18 : decode cX6_takeUp 18 = .ok (.aload_n 0, 1) := by decide +kernel
theorem dX6_takeUp_19 : decode cX6_takeUp 19 = .ok (.getfield 35, 3) := by decide +kernel
theorem dX6_takeUp_22 : decode cX6_takeUp 22 = .ok (.iload_n 1, 1) := by decide +kernel
theorem dX6_takeUp_23 : decode cX6_takeUp 23 = .ok (.dup2, 1) := by decide +kernel
theorem dX6_takeUp_24 : decode cX6_takeUp 24 = .ok (.iaload, 1) := by decide +kernel
theorem dX6_takeUp_25 : decode cX6_takeUp 25 = .ok (.iconst 1, 1) := by decide +kernel
theorem dX6_takeUp_26 : decode cX6_takeUp 26 = .ok (.iadd, 1) := by decide +kernel
theorem dX6_takeUp_27 : decode cX6_takeUp 27 = .ok (.iastore, 1) := by decide +kernel
theorem dX6_takeUp_28 : decode cX6_takeUp 28 = .ok (.aload_n 0, 1) := by decide +kernel
theorem dX6_takeUp_29 : decode cX6_takeUp 29 = .ok (.getfield 38, 3) := by decide +kernel
theorem dX6_takeUp_32 : decode cX6_takeUp 32 = .ok (.iload_n 1, 1) := by decide +kernel
theorem dX6_takeUp_33 : decode cX6_takeUp 33 = .ok (.dup2, 1) := by decide +kernel
theorem dX6_takeUp_34 : decode cX6_takeUp 34 = .ok (.iaload, 1) := by decide +kernel
theorem dX6_takeUp_35 : decode cX6_takeUp 35 = .ok (.aload_n 0, 1) := by decide +kernel
theorem dX6_takeUp_36 : decode cX6_takeUp 36 = .ok (.getfield 38, 3) := by decide +kernel
theorem dX6_takeUp_39 : decode cX6_takeUp 39 = .ok (.iload_n 3, 1) := by decide +kernel
theorem dX6_takeUp_40 : decode cX6_takeUp 40 = .ok (.iaload, 1) := by decide +kernel
theorem dX6_takeUp_41 : decode cX6_takeUp 41 = .ok (.iadd, 1) := by decide +kernel
theorem dX6_takeUp_42 : decode cX6_takeUp 42 = .ok (.iastore, 1) := by decide +kernel
theorem dX6_takeUp_43 : decode cX6_takeUp 43 = .ok (.aload_n 0, 1) := by decide +kernel
theorem dX6_takeUp_44 : decode cX6_takeUp 44 = .ok (.getfield 44, 3) := by decide +kernel
theorem dX6_takeUp_47 : decode cX6_takeUp 47 = .ok (.iload_n 1, 1) := by decide +kernel
theorem dX6_takeUp_48 : decode cX6_takeUp 48 = .ok (.aload_n 0, 1) := by decide +kernel
theorem dX6_takeUp_49 : decode cX6_takeUp 49 = .ok (.getfield 41, 3) := by decide +kernel
theorem dX6_takeUp_52 : decode cX6_takeUp 52 = .ok (.iload_n 3, 1) := by decide +kernel
theorem dX6_takeUp_53 : decode cX6_takeUp 53 = .ok (.iaload, 1) := by decide +kernel
theorem dX6_takeUp_54 : decode cX6_takeUp 54 = .ok (.aload_n 0, 1) := by decide +kernel
theorem dX6_takeUp_55 : decode cX6_takeUp 55 = .ok (.getfield 41, 3) := by decide +kernel
theorem dX6_takeUp_58 : decode cX6_takeUp 58 = .ok (.iload_n 1, 1) := by decide +kernel
theorem dX6_takeUp_59 : decode cX6_takeUp 59 = .ok (.iaload, 1) := by decide +kernel
theorem dX6_takeUp_60 : decode cX6_takeUp 60 = .ok (.if_icmp .ge 8, 3) := by decide +kernel
theorem dX6_takeUp_63 : decode cX6_takeUp 63 = .ok (.iload 4, 2) := by decide +kernel
theorem dX6_takeUp_65 : decode cX6_takeUp 65 = .ok (.goto 9, 3) := by decide +kernel
theorem dX6_takeUp_68 : decode cX6_takeUp 68 = .ok (.aload_n 0, 1) := by decide +kernel
theorem dX6_takeUp_69 : decode cX6_takeUp 69 = .ok (.getfield 44, 3) := by decide +kernel
theorem dX6_takeUp_72 : decode cX6_takeUp 72 = .ok (.iload_n 1, 1) := by decide +kernel
theorem dX6_takeUp_73 : decode cX6_takeUp 73 = .ok (.iaload, 1) := by decide +kernel
theorem dX6_takeUp_74 : decode cX6_takeUp 74 = .ok (.iastore, 1) := by decide +kernel
theorem dX6_takeUp_75 : decode cX6_takeUp 75 = .ok (.aload_n 0, 1) := by decide +kernel
theorem dX6_takeUp_76 : decode cX6_takeUp 76 = .ok (.getfield 41, 3) := by decide +kernel
theorem dX6_takeUp_79 : decode cX6_takeUp 79 = .ok (.iload_n 1, 1) := by decide +kernel
theorem dX6_takeUp_80 : decode cX6_takeUp 80 = .ok (.aload_n 0, 1) := by decide +kernel
theorem dX6_takeUp_81 : decode cX6_takeUp 81 = .ok (.getfield 41, 3) := by decide +kernel
theorem dX6_takeUp_84 : decode cX6_takeUp 84 = .ok (.iload_n 3, 1) := by decide +kernel
theorem dX6_takeUp_85 : decode cX6_takeUp 85 = .ok (.iaload, 1) := by decide +kernel
theorem dX6_takeUp_86 : decode cX6_takeUp 86 = .ok (.aload_n 0, 1) := by decide +kernel
theorem dX6_takeUp_87 : decode cX6_takeUp 87 = .ok (.getfield 41, 3) := by decide +kernel
theorem dX6_takeUp_90 : decode cX6_takeUp 90 = .ok (.iload_n 1, 1) := by decide +kernel
theorem dX6_takeUp_91 : decode cX6_takeUp 91 = .ok (.iaload, 1) := by decide +kernel
theorem dX6_takeUp_92 : decode cX6_takeUp 92 = .ok (.if_icmp .ge 12, 3) := by decide +kernel
theorem dX6_takeUp_95 : decode cX6_takeUp 95 = .ok (.aload_n 0, 1) := by decide +kernel
theorem dX6_takeUp_96 : decode cX6_takeUp 96 = .ok (.getfield 41, 3) := by decide +kernel
theorem dX6_takeUp_99 : decode cX6_takeUp 99 = .ok (.iload_n 3, 1) := by decide +kernel
theorem dX6_takeUp_100 : decode cX6_takeUp 100 = .ok (.iaload, 1) := by decide +kernel
theorem dX6_takeUp_101 : decode cX6_takeUp 101 = .ok (.goto 9, 3) := by decide +kernel
theorem dX6_takeUp_104 : decode cX6_takeUp 104 = .ok (.aload_n 0, 1) := by decide +kernel
theorem dX6_takeUp_105 : decode cX6_takeUp 105 = .ok (.getfield 41, 3) := by decide +kernel
theorem dX6_takeUp_108 : decode cX6_takeUp 108 = .ok (.iload_n 1, 1) := by decide +kernel
theorem dX6_takeUp_109 : decode cX6_takeUp 109 = .ok (.iaload, 1) := by decide +kernel
theorem dX6_takeUp_110 : decode cX6_takeUp 110 = .ok (.iastore, 1) := by decide +kernel
theorem dX6_takeUp_111 : decode cX6_takeUp 111 = .ok (.aload_n 0, 1) := by decide +kernel
theorem dX6_takeUp_112 : decode cX6_takeUp 112 = .ok (.getfield 47, 3) := by decide +kernel
theorem dX6_takeUp_115 : decode cX6_takeUp 115 = .ok (.iload_n 1, 1) := by decide +kernel
theorem dX6_takeUp_116 : decode cX6_takeUp 116 = .ok (.aload_n 0, 1) := by decide +kernel
theorem dX6_takeUp_117 : decode cX6_takeUp 117 = .ok (.getfield 47, 3) := by decide +kernel
theorem dX6_takeUp_120 : decode cX6_takeUp 120 = .ok (.iload_n 3, 1) := by decide +kernel
theorem dX6_takeUp_121 : decode cX6_takeUp 121 = .ok (.iaload, 1) := by decide +kernel
theorem dX6_takeUp_122 : decode cX6_takeUp 122 = .ok (.iconst 1, 1) := by decide +kernel
theorem dX6_takeUp_123 : decode cX6_takeUp 123 = .ok (.iadd, 1) := by decide +kernel
theorem dX6_takeUp_124 : decode cX6_takeUp 124 = .ok (.aload_n 0, 1) := by decide +kernel
theorem dX6_takeUp_125 : decode cX6_takeUp 125 = .ok (.getfield 47, 3) := by decide +kernel
theorem dX6_takeUp_128 : decode cX6_takeUp 128 = .ok (.iload_n 1, 1) := by decide +kernel
theorem dX6_takeUp_129 : decode cX6_takeUp 129 = .ok (.iaload, 1) := by decide +kernel
theorem dX6_takeUp_130 : decode cX6_takeUp 130 = .ok (.if_icmp .le 14, 3) := by decide +kernel
theorem dX6_takeUp_133 : decode cX6_takeUp 133 = .ok (.aload_n 0, 1) := by decide +kernel
theorem dX6_takeUp_134 : decode cX6_takeUp 134 = .ok (.getfield 47, 3) := by decide +kernel
theorem dX6_takeUp_137 : decode cX6_takeUp 137 = .ok (.iload_n 3, 1) := by decide +kernel
theorem dX6_takeUp_138 : decode cX6_takeUp 138 = .ok (.iaload, 1) := by decide +kernel
theorem dX6_takeUp_139 : decode cX6_takeUp 139 = .ok (.iconst 1, 1) := by decide +kernel
theorem dX6_takeUp_140 : decode cX6_takeUp 140 = .ok (.iadd, 1) := by decide +kernel
theorem dX6_takeUp_141 : decode cX6_takeUp 141 = .ok (.goto 9, 3) := by decide +kernel
theorem dX6_takeUp_144 : decode cX6_takeUp 144 = .ok (.aload_n 0, 1) := by decide +kernel
theorem dX6_takeUp_145 : decode cX6_takeUp 145 = .ok (.getfield 47, 3) := by decide +kernel
theorem dX6_takeUp_148 : decode cX6_takeUp 148 = .ok (.iload_n 1, 1) := by decide +kernel
theorem dX6_takeUp_149 : decode cX6_takeUp 149 = .ok (.iaload, 1) := by decide +kernel
theorem dX6_takeUp_150 : decode cX6_takeUp 150 = .ok (.iastore, 1) := by decide +kernel
theorem dX6_takeUp_151 : decode cX6_takeUp 151 = .ok (.aload_n 0, 1) := by decide +kernel
theorem dX6_takeUp_152 : decode cX6_takeUp 152 = .ok (.getfield 50, 3) := by decide +kernel
theorem dX6_takeUp_155 : decode cX6_takeUp 155 = .ok (.iload_n 1, 1) := by decide +kernel
theorem dX6_takeUp_156 : decode cX6_takeUp 156 = .ok (.aload_n 0, 1) := by decide +kernel
theorem dX6_takeUp_157 : decode cX6_takeUp 157 = .ok (.getfield 50, 3) := by decide +kernel
theorem dX6_takeUp_160 : decode cX6_takeUp 160 = .ok (.iload_n 3, 1) := by decide +kernel
theorem dX6_takeUp_161 : decode cX6_takeUp 161 = .ok (.iaload, 1) := by decide +kernel
theorem dX6_takeUp_162 : decode cX6_takeUp 162 = .ok (.iconst 1, 1) := by decide +kernel
theorem dX6_takeUp_163 : decode cX6_takeUp 163 = .ok (.iadd, 1) := by decide +kernel
theorem dX6_takeUp_164 : decode cX6_takeUp 164 = .ok (.aload_n 0, 1) := by decide +kernel
theorem dX6_takeUp_165 : decode cX6_takeUp 165 = .ok (.getfield 50, 3) := by decide +kernel
theorem dX6_takeUp_168 : decode cX6_takeUp 168 = .ok (.iload_n 1, 1) := by decide +kernel
theorem dX6_takeUp_169 : decode cX6_takeUp 169 = .ok (.iaload, 1) := by decide +kernel
theorem dX6_takeUp_170 : decode cX6_takeUp 170 = .ok (.if_icmp .ge 14, 3) := by decide +kernel
theorem dX6_takeUp_173 : decode cX6_takeUp 173 = .ok (.aload_n 0, 1) := by decide +kernel
theorem dX6_takeUp_174 : decode cX6_takeUp 174 = .ok (.getfield 50, 3) := by decide +kernel
theorem dX6_takeUp_177 : decode cX6_takeUp 177 = .ok (.iload_n 3, 1) := by decide +kernel
theorem dX6_takeUp_178 : decode cX6_takeUp 178 = .ok (.iaload, 1) := by decide +kernel
theorem dX6_takeUp_179 : decode cX6_takeUp 179 = .ok (.iconst 1, 1) := by decide +kernel
theorem dX6_takeUp_180 : decode cX6_takeUp 180 = .ok (.iadd, 1) := by decide +kernel
theorem dX6_takeUp_181 : decode cX6_takeUp 181 = .ok (.goto 9, 3) := by decide +kernel
theorem dX6_takeUp_184 : decode cX6_takeUp 184 = .ok (.aload_n 0, 1) := by decide +kernel
theorem dX6_takeUp_185 : decode cX6_takeUp 185 = .ok (.getfield 50, 3) := by decide +kernel
theorem dX6_takeUp_188 : decode cX6_takeUp 188 = .ok (.iload_n 1, 1) := by decide +kernel
theorem dX6_takeUp_189 : decode cX6_takeUp 189 = .ok (.iaload, 1) := by decide +kernel
theorem dX6_takeUp_190 : decode cX6_takeUp 190 = .ok (.iastore, 1) := by decide +kernel
theorem dX6_takeUp_191 : decode cX6_takeUp 191 = .ok (.aload_n 0, 1) := by decide +kernel
theorem dX6_takeUp_192 : decode cX6_takeUp 192 = .ok (.getfield 53, 3) := by decide +kernel
theorem dX6_takeUp_195 : decode cX6_takeUp 195 = .ok (.iload_n 1, 1) := by decide +kernel
theorem dX6_takeUp_196 : decode cX6_takeUp 196 = .ok (.dup2, 1) := by decide +kernel
theorem dX6_takeUp_197 : decode cX6_takeUp 197 = .ok (.iaload, 1) := by decide +kernel
theorem dX6_takeUp_198 : decode cX6_takeUp 198 = .ok (.aload_n 0, 1) := by decide +kernel
theorem dX6_takeUp_199 : decode cX6_takeUp 199 = .ok (.getfield 53, 3) := by decide +kernel
theorem dX6_takeUp_202 : decode cX6_takeUp 202 = .ok (.iload_n 3, 1) := by decide +kernel
theorem dX6_takeUp_203 : decode cX6_takeUp 203 = .ok (.iaload, 1) := by decide +kernel
theorem dX6_takeUp_204 : decode cX6_takeUp 204 = .ok (.ior, 1) := by decide +kernel
theorem dX6_takeUp_205 : decode cX6_takeUp 205 = .ok (.iastore, 1) := by decide +kernel
theorem dX6_takeUp_206 : decode cX6_takeUp 206 = .ok (.aload_n 0, 1) := by decide +kernel
theorem dX6_takeUp_207 : decode cX6_takeUp 207 = .ok (.getfield 56, 3) := by decide +kernel
theorem dX6_takeUp_210 : decode cX6_takeUp 210 = .ok (.iload_n 1, 1) := by decide +kernel
theorem dX6_takeUp_211 : decode cX6_takeUp 211 = .ok (.aload_n 0, 1) := by decide +kernel
theorem dX6_takeUp_212 : decode cX6_takeUp 212 = .ok (.getfield 56, 3) := by decide +kernel
theorem dX6_takeUp_215 : decode cX6_takeUp 215 = .ok (.iload_n 3, 1) := by decide +kernel
theorem dX6_takeUp_216 : decode cX6_takeUp 216 = .ok (.iaload, 1) := by decide +kernel
theorem dX6_takeUp_217 : decode cX6_takeUp 217 = .ok (.iconst (-1), 1) := by decide +kernel
theorem dX6_takeUp_218 : decode cX6_takeUp 218 = .ok (.if_icmp .ne 18, 3) := by decide +kernel
theorem dX6_takeUp_221 : decode cX6_takeUp 221 = .ok (.aload_n 0, 1) := by decide +kernel
theorem dX6_takeUp_222 : decode cX6_takeUp 222 = .ok (.getfield 56, 3) := by decide +kernel
theorem dX6_takeUp_225 : decode cX6_takeUp 225 = .ok (.iload_n 1, 1) := by decide +kernel
theorem dX6_takeUp_226 : decode cX6_takeUp 226 = .ok (.iaload, 1) := by decide +kernel
theorem dX6_takeUp_227 : decode cX6_takeUp 227 = .ok (.iconst (-1), 1) := by decide +kernel
theorem dX6_takeUp_228 : decode cX6_takeUp 228 = .ok (.if_icmp .ne 8, 3) := by decide +kernel
theorem dX6_takeUp_231 : decode cX6_takeUp 231 = .ok (.iload 4, 2) := by decide +kernel
theorem dX6_takeUp_233 : decode cX6_takeUp 233 = .ok (.goto 9, 3) := by decide +kernel
theorem dX6_takeUp_236 : decode cX6_takeUp 236 = .ok (.aload_n 0, 1) := by decide +kernel
theorem dX6_takeUp_237 : decode cX6_takeUp 237 = .ok (.getfield 56, 3) := by decide +kernel
theorem dX6_takeUp_240 : decode cX6_takeUp 240 = .ok (.iload_n 1, 1) := by decide +kernel
theorem dX6_takeUp_241 : decode cX6_takeUp 241 = .ok (.iaload, 1) := by decide +kernel
theorem dX6_takeUp_242 : decode cX6_takeUp 242 = .ok (.iastore, 1) := by decide +kernel
theorem dX6_takeUp_243 : decode cX6_takeUp 243 = .ok (.aload_n 0, 1) := by decide +kernel
theorem dX6_takeUp_244 : decode cX6_takeUp 244 = .ok (.getfield 59, 3) := by decide +kernel
theorem dX6_takeUp_247 : decode cX6_takeUp 247 = .ok (.iload_n 1, 1) := by decide +kernel
theorem dX6_takeUp_248 : decode cX6_takeUp 248 = .ok (.dup2, 1) := by decide +kernel
theorem dX6_takeUp_249 : decode cX6_takeUp 249 = .ok (.iaload, 1) := by decide +kernel
theorem dX6_takeUp_250 : decode cX6_takeUp 250 = .ok (.aload_n 0, 1) := by decide +kernel
theorem dX6_takeUp_251 : decode cX6_takeUp 251 = .ok (.getfield 59, 3) := by decide +kernel
theorem dX6_takeUp_254 : decode cX6_takeUp 254 = .ok (.iload_n 3, 1) := by decide +kernel
theorem dX6_takeUp_255 : decode cX6_takeUp 255 = .ok (.iaload, 1) := by decide +kernel
theorem dX6_takeUp_256 : decode cX6_takeUp 256 = .ok (.aload_n 0, 1) := by decide +kernel
theorem dX6_takeUp_257 : decode cX6_takeUp 257 = .ok (.getfield 35, 3) := by decide +kernel
theorem dX6_takeUp_260 : decode cX6_takeUp 260 = .ok (.iload_n 3, 1) := by decide +kernel
theorem dX6_takeUp_261 : decode cX6_takeUp 261 = .ok (.iaload, 1) := by decide +kernel
theorem dX6_takeUp_262 : decode cX6_takeUp 262 = .ok (.idiv, 1) := by decide +kernel
theorem dX6_takeUp_263 : decode cX6_takeUp 263 = .ok (.iadd, 1) := by decide +kernel
theorem dX6_takeUp_264 : decode cX6_takeUp 264 = .ok (.iastore, 1) := by decide +kernel
theorem dX6_takeUp_265 : decode cX6_takeUp 265 = .ok (.return_, 1) := by decide +kernel
set_option maxRecDepth 20000 in
theorem ggX6_layCourses_X6_begin : GoodIn wsX6_layCourses wsX6_begin := goodIn_r _ [7, 2, 1, 8, 9, 10, 11, 12, 13, 14, 15, 16, 73, 74, 75, 76, 77, 78, 79, 80, 81, 82, 83, 84, 85, 86, 87, 88, 89, 90, 91, 92, 93, 94, 95, 96, 97, 98, 99, 100, 101, 102, 103, 104, 105, 106, 107, 108, 109, 110, 111, 112] (by decide +kernel) (by decide +kernel)
set_option maxRecDepth 20000 in
theorem gX6_layCourses_X6_begin : GoodIn wsX6_layCourses (wsV RX6 193 RX6 yX6_begin wsX6_begin) := goodIn_app (goodIn_of _ (by decide +kernel)) ggX6_layCourses_X6_begin
set_option maxRecDepth 20000 in
theorem ggX6_layCourses_X6_nextCode : GoodIn wsX6_layCourses wsX6_nextCode := goodIn_r _ [20, 2, 21, 22, 23, 24, 6, 25, 26, 27, 28, 29, 30, 31, 32, 33, 34, 35, 36, 37, 38, 39, 40, 41, 42, 43, 44, 45, 46, 47, 48, 49, 50, 51, 52, 73, 74, 75, 76, 77, 78, 79, 80, 81, 82, 83, 84, 85, 86, 87, 88, 89, 90, 91, 92, 93, 94, 95, 96, 97, 98, 99, 100, 101, 102, 103, 104, 105, 106, 107, 108, 109, 110, 111, 112] (by decide +kernel) (by decide +kernel)
set_option maxRecDepth 20000 in
theorem gX6_layCourses_X6_nextCode : GoodIn wsX6_layCourses (wsV RX6 197 RX6 yX6_nextCode wsX6_nextCode) := goodIn_app (goodIn_of _ (by decide +kernel)) ggX6_layCourses_X6_nextCode
set_option maxRecDepth 20000 in
theorem ggX6_layCourses_X6_goDeep : GoodIn wsX6_layCourses wsX6_goDeep := goodIn_r _ [56, 36, 38, 32, 33, 34, 6, 35, 37, 27, 39, 40, 41, 42, 43, 44, 45, 21, 46, 47, 48, 49, 50, 51, 52, 73, 74, 75, 76, 77, 78, 79, 80, 81, 82, 83, 84, 85, 86, 87, 88, 89, 90, 91, 92, 93, 94, 95, 96, 97, 98, 99, 100, 101, 102, 103, 104, 105, 106, 107, 108, 109, 110, 111, 112] (by decide +kernel) (by decide +kernel)
set_option maxRecDepth 20000 in
theorem gX6_layCourses_X6_goDeep : GoodIn wsX6_layCourses (wsV RX6 179 RX6 yX6_goDeep wsX6_goDeep) := goodIn_app (goodIn_of _ (by decide +kernel)) ggX6_layCourses_X6_goDeep
set_option maxRecDepth 20000 in
theorem ggX6_layCourses_X6_end : GoodIn wsX6_layCourses wsX6_end := goodIn_r _ [60, 8, 9, 12, 13, 14, 16, 1, 61, 62, 63, 6, 64, 21, 36, 65, 66, 67, 68, 73, 74, 75, 76, 77, 78, 79, 80, 81, 82, 83, 84, 85, 86, 87, 88, 89, 90, 91, 92, 93, 94, 95, 96, 97, 98, 99, 100, 101, 102, 103, 104, 105, 106, 107, 108, 109, 110, 111, 112] (by decide +kernel) (by decide +kernel)
set_option maxRecDepth 20000 in
theorem gX6_layCourses_X6_end : GoodIn wsX6_layCourses (wsV RX6 200 RX6 yX6_end wsX6_end) := goodIn_app (goodIn_of _ (by decide +kernel)) ggX6_layCourses_X6_end
set_option maxRecDepth 20000 in
theorem ggX6_layCourses_X6_takeUp : GoodIn wsX6_layCourses wsX6_takeUp := goodIn_r _ [72, 1, 8, 11, 9, 12, 13, 14, 15, 16, 73, 74, 75, 76, 77, 78, 79, 80, 81, 82, 83, 84, 85, 86, 87, 88, 89, 90, 91, 92, 93, 94, 95, 96, 97, 98, 99, 100, 101, 102, 103, 104, 105, 106, 107, 108, 109, 110, 111, 112] (by decide +kernel) (by decide +kernel)
set_option maxRecDepth 20000 in
theorem gX6_layCourses_X6_takeUp : GoodIn wsX6_layCourses (wsV RX6 203 RX6 yX6_takeUp wsX6_takeUp) := goodIn_app (goodIn_of _ (by decide +kernel)) ggX6_layCourses_X6_takeUp
theorem dX6_layCourses_0 : decode cX6_layCourses 0 = .ok (.iconst 0, 1) := by decide +kernel
theorem dX6_layCourses_1 : decode cX6_layCourses 1 = .ok (.istore_n 1, 1) := by decide +kernel
theorem dX6_layCourses_2 : decode cX6_layCourses 2 = .ok (.aload_n 0, 1) := by decide +kernel
theorem dX6_layCourses_3 : decode cX6_layCourses 3 = .ok (.iconst 0, 1) := by decide +kernel
theorem dX6_layCourses_4 : decode cX6_layCourses 4 = .ok (.invokevirtual 193, 3) := by decide +kernel
theorem dX6_layCourses_7 : decode cX6_layCourses 7 = .ok (.iload_n 1, 1) := by decide +kernel
theorem dX6_layCourses_8 : decode cX6_layCourses 8 = .ok (.ifCond .lt 75, 3) := by decide +kernel
theorem dX6_layCourses_11 : decode cX6_layCourses 11 = .ok (.aload_n 0, 1) := by decide +kernel
theorem dX6_layCourses_12 : decode cX6_layCourses 12 = .ok (.iload_n 1, 1) := by decide +kernel
theorem dX6_layCourses_13 : decode cX6_layCourses 13 = .ok (.invokevirtual 197, 3) := by decide +kernel
theorem dX6_layCourses_16 : decode cX6_layCourses 16 = .ok (.istore_n 2, 1) := by decide +kernel
theorem dX6_layCourses_17 : decode cX6_layCourses 17 = .ok (.iload_n 2, 1) := by decide +kernel
theorem dX6_layCourses_18 : decode cX6_layCourses 18 = .ok (.iconst (-1), 1) := by decide +kernel
theorem dX6_layCourses_19 : decode cX6_layCourses 19 = .ok (.if_icmp .eq 27, 3) := by decide +kernel
theorem dX6_layCourses_22 : decode cX6_layCourses 22 = .ok (.aload_n 0, 1) := by decide +kernel
theorem dX6_layCourses_23 : decode cX6_layCourses 23 = .ok (.iload_n 1, 1) := by decide +kernel
theorem dX6_layCourses_24 : decode cX6_layCourses 24 = .ok (.iload_n 2, 1) := by decide +kernel
theorem dX6_layCourses_25 : decode cX6_layCourses 25 = .ok (.bipush 12, 2) := by decide +kernel
theorem dX6_layCourses_27 : decode cX6_layCourses 27 = .ok (.idiv, 1) := by decide +kernel
theorem dX6_layCourses_28 : decode cX6_layCourses 28 = .ok (.iload_n 2, 1) := by decide +kernel
theorem dX6_layCourses_29 : decode cX6_layCourses 29 = .ok (.bipush 12, 2) := by decide +kernel
theorem dX6_layCourses_31 : decode cX6_layCourses 31 = .ok (.irem, 1) := by decide +kernel
theorem dX6_layCourses_32 : decode cX6_layCourses 32 = .ok (.invokevirtual 179, 3) := by decide +kernel
theorem dX6_layCourses_35 : decode cX6_layCourses 35 = .ok (.iinc 1 1, 3) := by decide +kernel
theorem dX6_layCourses_38 : decode cX6_layCourses 38 = .ok (.aload_n 0, 1) := by decide +kernel
theorem dX6_layCourses_39 : decode cX6_layCourses 39 = .ok (.iload_n 1, 1) := by decide +kernel
theorem dX6_layCourses_40 : decode cX6_layCourses 40 = .ok (.invokevirtual 193, 3) := by decide +kernel
theorem dX6_layCourses_43 : decode cX6_layCourses 43 = .ok (.goto 37, 3) := by decide +kernel
theorem dX6_layCourses_46 : decode cX6_layCourses 46 = .ok (.aload_n 0, 1) := by decide +kernel
theorem dX6_layCourses_47 : decode cX6_layCourses 47 = .ok (.getfield 35, 3) := by decide +kernel
theorem dX6_layCourses_50 : decode cX6_layCourses 50 = .ok (.iload_n 1, 1) := by decide +kernel
theorem dX6_layCourses_51 : decode cX6_layCourses 51 = .ok (.iaload, 1) := by decide +kernel
theorem dX6_layCourses_52 : decode cX6_layCourses 52 = .ok (.ifCond .ne 8, 3) := by decide +kernel
theorem dX6_layCourses_55 : decode cX6_layCourses 55 = .ok (.aload_n 0, 1) := by decide +kernel
theorem dX6_layCourses_56 : decode cX6_layCourses 56 = .ok (.iload_n 1, 1) := by decide +kernel
theorem dX6_layCourses_57 : decode cX6_layCourses 57 = .ok (.invokevirtual 200, 3) := by decide +kernel
theorem dX6_layCourses_60 : decode cX6_layCourses 60 = .ok (.iinc 1 (-1), 3) := by decide +kernel
theorem dX6_layCourses_63 : decode cX6_layCourses 63 = .ok (.iload_n 1, 1) := by decide +kernel
theorem dX6_layCourses_64 : decode cX6_layCourses 64 = .ok (.ifCond .lt 16, 3) := by decide +kernel
theorem dX6_layCourses_67 : decode cX6_layCourses 67 = .ok (.aload_n 0, 1) := by decide +kernel
theorem dX6_layCourses_68 : decode cX6_layCourses 68 = .ok (.iload_n 1, 1) := by decide +kernel
theorem dX6_layCourses_69 : decode cX6_layCourses 69 = .ok (.aload_n 0, 1) := by decide +kernel
theorem dX6_layCourses_70 : decode cX6_layCourses 70 = .ok (.getfield 32, 3) := by decide +kernel
theorem dX6_layCourses_73 : decode cX6_layCourses 73 = .ok (.iload_n 1, 1) := by decide +kernel
theorem dX6_layCourses_74 : decode cX6_layCourses 74 = .ok (.iaload, 1) := by decide +kernel
theorem dX6_layCourses_75 : decode cX6_layCourses 75 = .ok (.iconst 1, 1) := by decide +kernel
theorem dX6_layCourses_76 : decode cX6_layCourses 76 = .ok (.isub, 1) := by decide +kernel
theorem dX6_layCourses_77 : decode cX6_layCourses 77 = .ok (.invokevirtual 203, 3) := by decide +kernel
theorem dX6_layCourses_80 : decode cX6_layCourses 80 = .ok (.goto (-73), 3) := by decide +kernel
theorem dX6_layCourses_83 : decode cX6_layCourses 83 = .ok (.return_, 1) := by decide +kernel
set_option maxRecDepth 20000 in
theorem ggX6_coursesNow_X6_putDeep : GoodIn wsX6_coursesNow wsX6_putDeep := goodIn_r _ [11, 12, 13, 14, 82, 83, 84, 85, 86, 87, 88, 89, 90, 91, 92, 93, 94, 95, 96, 97, 98, 99, 100, 101, 102, 103, 104, 105, 106, 107, 108, 109, 110, 111, 112, 113, 114, 115, 116, 117, 118, 119, 120, 121] (by decide +kernel) (by decide +kernel)
set_option maxRecDepth 20000 in
theorem gX6_coursesNow_X6_putDeep : GoodIn wsX6_coursesNow (wsV RX6 157 RX6 yX6_putDeep wsX6_putDeep) := goodIn_app (goodIn_of _ (by decide +kernel)) ggX6_coursesNow_X6_putDeep
set_option maxRecDepth 20000 in
theorem ggX6_coursesNow_X6_layCourses : GoodIn wsX6_coursesNow wsX6_layCourses := goodIn_r _ [18, 19, 20, 21, 22, 23, 10, 24, 3, 1, 25, 2, 4, 5, 6, 26, 27, 28, 29, 30, 31, 13, 32, 33, 34, 35, 36, 37, 38, 39, 40, 41, 42, 43, 44, 45, 12, 46, 47, 48, 49, 50, 51, 52, 53, 54, 55, 56, 57, 58, 59, 60, 61, 62, 63, 64, 65, 66, 67, 68, 69, 70, 71, 72, 73, 74, 75, 76, 77, 78, 79, 80, 81, 82, 83, 84, 85, 86, 87, 88, 89, 90, 91, 92, 93, 94, 95, 96, 97, 98, 99, 100, 101, 102, 103, 104, 105, 106, 107, 108, 109, 110, 111, 112, 113, 114, 115, 116, 117, 118, 119, 120, 121] (by decide +kernel) (by decide +kernel)
set_option maxRecDepth 20000 in
theorem gX6_coursesNow_X6_layCourses : GoodIn wsX6_coursesNow (wsV RX6 207 RX6 yX6_layCourses wsX6_layCourses) := goodIn_app (goodIn_of _ (by decide +kernel)) ggX6_coursesNow_X6_layCourses
theorem dX6_coursesNow_0 : decode cX6_coursesNow 0 = .ok (.aload_n 0, 1) := by decide +kernel
theorem dX6_coursesNow_1 : decode cX6_coursesNow 1 = .ok (.invokevirtual 157, 3) := by decide +kernel
theorem dX6_coursesNow_4 : decode cX6_coursesNow 4 = .ok (.aload_n 0, 1) := by decide +kernel
theorem dX6_coursesNow_5 : decode cX6_coursesNow 5 = .ok (.invokevirtual 207, 3) := by decide +kernel
theorem dX6_coursesNow_8 : decode cX6_coursesNow 8 = .ok (.iload_n 1, 1) := by decide +kernel
theorem dX6_coursesNow_9 : decode cX6_coursesNow 9 = .ok (.tableswitch 70 0 4 #[35, 42, 49, 56, 63], 35) := by decide +kernel
theorem dX6_coursesNow_44 : decode cX6_coursesNow 44 = .ok (.aload_n 0, 1) := by decide +kernel
theorem dX6_coursesNow_45 : decode cX6_coursesNow 45 = .ok (.getfield 41, 3) := by decide +kernel
theorem dX6_coursesNow_48 : decode cX6_coursesNow 48 = .ok (.iconst 0, 1) := by decide +kernel
theorem dX6_coursesNow_49 : decode cX6_coursesNow 49 = .ok (.iaload, 1) := by decide +kernel
theorem dX6_coursesNow_50 : decode cX6_coursesNow 50 = .ok (.ireturn, 1) := by decide +kernel
theorem dX6_coursesNow_51 : decode cX6_coursesNow 51 = .ok (.aload_n 0, 1) := by decide +kernel
theorem dX6_coursesNow_52 : decode cX6_coursesNow 52 = .ok (.getfield 44, 3) := by decide +kernel
theorem dX6_coursesNow_55 : decode cX6_coursesNow 55 = .ok (.iconst 0, 1) := by decide +kernel
theorem dX6_coursesNow_56 : decode cX6_coursesNow 56 = .ok (.iaload, 1) := by decide +kernel
theorem dX6_coursesNow_57 : decode cX6_coursesNow 57 = .ok (.ireturn, 1) := by decide +kernel
theorem dX6_coursesNow_58 : decode cX6_coursesNow 58 = .ok (.aload_n 0, 1) := by decide +kernel
theorem dX6_coursesNow_59 : decode cX6_coursesNow 59 = .ok (.getfield 38, 3) := by decide +kernel
theorem dX6_coursesNow_62 : decode cX6_coursesNow 62 = .ok (.iconst 0, 1) := by decide +kernel
theorem dX6_coursesNow_63 : decode cX6_coursesNow 63 = .ok (.iaload, 1) := by decide +kernel
theorem dX6_coursesNow_64 : decode cX6_coursesNow 64 = .ok (.ireturn, 1) := by decide +kernel
theorem dX6_coursesNow_65 : decode cX6_coursesNow 65 = .ok (.aload_n 0, 1) := by decide +kernel
theorem dX6_coursesNow_66 : decode cX6_coursesNow 66 = .ok (.getfield 47, 3) := by decide +kernel
theorem dX6_coursesNow_69 : decode cX6_coursesNow 69 = .ok (.iconst 0, 1) := by decide +kernel
theorem dX6_coursesNow_70 : decode cX6_coursesNow 70 = .ok (.iaload, 1) := by decide +kernel
theorem dX6_coursesNow_71 : decode cX6_coursesNow 71 = .ok (.ireturn, 1) := by decide +kernel
theorem dX6_coursesNow_72 : decode cX6_coursesNow 72 = .ok (.aload_n 0, 1) := by decide +kernel
theorem dX6_coursesNow_73 : decode cX6_coursesNow 73 = .ok (.getfield 50, 3) := by decide +kernel
theorem dX6_coursesNow_76 : decode cX6_coursesNow 76 = .ok (.iconst 0, 1) := by decide +kernel
theorem dX6_coursesNow_77 : decode cX6_coursesNow 77 = .ok (.iaload, 1) := by decide +kernel
theorem dX6_coursesNow_78 : decode cX6_coursesNow 78 = .ok (.ireturn, 1) := by decide +kernel
theorem dX6_coursesNow_79 : decode cX6_coursesNow 79 = .ok (.aload_n 0, 1) := by decide +kernel
theorem dX6_coursesNow_80 : decode cX6_coursesNow 80 = .ok (.getfield 53, 3) := by decide +kernel
theorem dX6_coursesNow_83 : decode cX6_coursesNow 83 = .ok (.iconst 0, 1) := by decide +kernel
theorem dX6_coursesNow_84 : decode cX6_coursesNow 84 = .ok (.iaload, 1) := by decide +kernel
theorem dX6_coursesNow_85 : decode cX6_coursesNow 85 = .ok (.ireturn, 1) := by decide +kernel
set_option maxRecDepth 20000 in
theorem ggX6_courses_X6_within : GoodIn wsX6_courses wsX6_within := goodIn_r _ [5] (by decide +kernel) (by decide +kernel)
set_option maxRecDepth 20000 in
theorem gX6_courses_X6_within : GoodIn wsX6_courses (va_wsS RX6 77 yX6_within wsX6_within) := goodIn_app (goodIn_of _ (by decide +kernel)) ggX6_courses_X6_within
set_option maxRecDepth 20000 in
theorem ggX6_courses_X6_coursesNow : GoodIn wsX6_courses wsX6_coursesNow := goodIn_r _ [9, 10, 11, 12, 13, 14, 15, 16, 17, 18, 4, 19, 20, 1, 21, 22, 23, 24, 25, 26, 27, 28, 29, 30, 31, 32, 33, 34, 35, 36, 37, 38, 39, 40, 41, 42, 43, 44, 45, 46, 47, 48, 49, 50, 51, 52, 53, 54, 55, 56, 57, 58, 59, 60, 61, 62, 63, 64, 65, 66, 67, 68, 69, 70, 71, 72, 73, 74, 75, 76, 77, 78, 79, 80, 81, 82, 83, 84, 85, 86, 87, 88, 89, 90, 91, 92, 93, 94, 95, 96, 97, 98, 99, 100, 101, 102, 103, 104, 105, 106, 107, 108, 109, 110, 111, 112, 113, 114, 115, 116, 117, 118, 119, 120, 121, 122, 123, 124, 125, 126, 127, 128] (by decide +kernel) (by decide +kernel)
set_option maxRecDepth 20000 in
theorem gX6_courses_X6_coursesNow : GoodIn wsX6_courses (wsV RX6 210 RX6 yX6_coursesNow wsX6_coursesNow) := goodIn_app (goodIn_of _ (by decide +kernel)) ggX6_courses_X6_coursesNow
theorem dX6_courses_0 : decode cX6_courses 0 = .ok (.iload_n 1, 1) := by decide +kernel
theorem dX6_courses_1 : decode cX6_courses 1 = .ok (.iconst 0, 1) := by decide +kernel
theorem dX6_courses_2 : decode cX6_courses 2 = .ok (.iconst 5, 1) := by decide +kernel
theorem dX6_courses_3 : decode cX6_courses 3 = .ok (.invokestatic 77, 3) := by decide +kernel
theorem dX6_courses_6 : decode cX6_courses 6 = .ok (.ifCond .ne 6, 3) := by decide +kernel
theorem dX6_courses_9 : decode cX6_courses 9 = .ok (.bipush (-102), 2) := by decide +kernel
theorem dX6_courses_11 : decode cX6_courses 11 = .ok (.ireturn, 1) := by decide +kernel
theorem dX6_courses_12 : decode cX6_courses 12 = .ok (.aload_n 0, 1) := by decide +kernel
theorem dX6_courses_13 : decode cX6_courses 13 = .ok (.getfield 115, 3) := by decide +kernel
theorem dX6_courses_16 : decode cX6_courses 16 = .ok (.ifCond .ne 8, 3) := by decide +kernel
theorem dX6_courses_19 : decode cX6_courses 19 = .ok (.bipush (-103), 2) := by decide +kernel
theorem dX6_courses_21 : decode cX6_courses 21 = .ok (.goto 8, 3) := by decide +kernel
theorem dX6_courses_24 : decode cX6_courses 24 = .ok (.aload_n 0, 1) := by decide +kernel
theorem dX6_courses_25 : decode cX6_courses 25 = .ok (.iload_n 1, 1) := by decide +kernel
theorem dX6_courses_26 : decode cX6_courses 26 = .ok (.invokevirtual 210, 3) := by decide +kernel
theorem dX6_courses_29 : decode cX6_courses 29 = .ok (.ireturn, 1) := by decide +kernel
set_option maxRecDepth 20000 in
theorem ggX6_winsNow_X6_putDeep : GoodIn wsX6_winsNow wsX6_putDeep := goodIn_r _ [6, 7, 8, 9, 82, 83, 84, 85, 86, 87, 88, 89, 90, 91, 92, 93, 94, 95, 96, 97, 98, 99, 100, 101, 102, 103, 104, 105, 106, 107, 108, 109, 110, 111, 112, 113, 114, 115, 116, 117, 118, 119, 120, 121] (by decide +kernel) (by decide +kernel)
set_option maxRecDepth 20000 in
theorem gX6_winsNow_X6_putDeep : GoodIn wsX6_winsNow (wsV RX6 157 RX6 yX6_putDeep wsX6_putDeep) := goodIn_app (goodIn_of _ (by decide +kernel)) ggX6_winsNow_X6_putDeep
set_option maxRecDepth 20000 in
theorem ggX6_winsNow_X6_layCourses : GoodIn wsX6_winsNow wsX6_layCourses := goodIn_r _ [13, 14, 15, 16, 17, 18, 5, 19, 20, 21, 22, 23, 24, 25, 26, 1, 27, 28, 29, 30, 31, 8, 32, 33, 34, 35, 36, 37, 38, 39, 40, 41, 42, 43, 44, 45, 7, 46, 47, 48, 49, 50, 51, 52, 53, 54, 55, 56, 57, 58, 59, 60, 61, 62, 63, 64, 65, 66, 67, 68, 69, 70, 71, 72, 73, 74, 75, 76, 77, 78, 79, 80, 81, 82, 83, 84, 85, 86, 87, 88, 89, 90, 91, 92, 93, 94, 95, 96, 97, 98, 99, 100, 101, 102, 103, 104, 105, 106, 107, 108, 109, 110, 111, 112, 113, 114, 115, 116, 117, 118, 119, 120, 121] (by decide +kernel) (by decide +kernel)
set_option maxRecDepth 20000 in
theorem gX6_winsNow_X6_layCourses : GoodIn wsX6_winsNow (wsV RX6 207 RX6 yX6_layCourses wsX6_layCourses) := goodIn_app (goodIn_of _ (by decide +kernel)) ggX6_winsNow_X6_layCourses
theorem dX6_winsNow_0 : decode cX6_winsNow 0 = .ok (.aload_n 0, 1) := by decide +kernel
theorem dX6_winsNow_1 : decode cX6_winsNow 1 = .ok (.invokevirtual 157, 3) := by decide +kernel
theorem dX6_winsNow_4 : decode cX6_winsNow 4 = .ok (.aload_n 0, 1) := by decide +kernel
theorem dX6_winsNow_5 : decode cX6_winsNow 5 = .ok (.invokevirtual 207, 3) := by decide +kernel
theorem dX6_winsNow_8 : decode cX6_winsNow 8 = .ok (.iload_n 1, 1) := by decide +kernel
theorem dX6_winsNow_9 : decode cX6_winsNow 9 = .ok (.iconst 1, 1) := by decide +kernel
theorem dX6_winsNow_10 : decode cX6_winsNow 10 = .ok (.if_icmp .ne 12, 3) := by decide +kernel
theorem dX6_winsNow_13 : decode cX6_winsNow 13 = .ok (.aload_n 0, 1) := by decide +kernel
theorem dX6_winsNow_14 : decode cX6_winsNow 14 = .ok (.getfield 56, 3) := by decide +kernel
theorem dX6_winsNow_17 : decode cX6_winsNow 17 = .ok (.iconst 0, 1) := by decide +kernel
theorem dX6_winsNow_18 : decode cX6_winsNow 18 = .ok (.iaload, 1) := by decide +kernel
theorem dX6_winsNow_19 : decode cX6_winsNow 19 = .ok (.goto 18, 3) := by decide +kernel
theorem dX6_winsNow_22 : decode cX6_winsNow 22 = .ok (.aload_n 0, 1) := by decide +kernel
theorem dX6_winsNow_23 : decode cX6_winsNow 23 = .ok (.getfield 56, 3) := by decide +kernel
theorem dX6_winsNow_26 : decode cX6_winsNow 26 = .ok (.iconst 0, 1) := by decide +kernel
theorem dX6_winsNow_27 : decode cX6_winsNow 27 = .ok (.iaload, 1) := by decide +kernel
theorem dX6_winsNow_28 : decode cX6_winsNow 28 = .ok (.iconst (-1), 1) := by decide +kernel
theorem dX6_winsNow_29 : decode cX6_winsNow 29 = .ok (.if_icmp .ne 7, 3) := by decide +kernel
theorem dX6_winsNow_32 : decode cX6_winsNow 32 = .ok (.iconst 0, 1) := by decide +kernel
theorem dX6_winsNow_33 : decode cX6_winsNow 33 = .ok (.goto 4, 3) := by decide +kernel
theorem dX6_winsNow_36 : decode cX6_winsNow 36 = .ok (.iconst 1, 1) := by decide +kernel
theorem dX6_winsNow_37 : decode cX6_winsNow 37 = .ok (.ireturn, 1) := by decide +kernel
set_option maxRecDepth 20000 in
theorem ggX6_wins_X6_within : GoodIn wsX6_wins wsX6_within := goodIn_r _ [5] (by decide +kernel) (by decide +kernel)
set_option maxRecDepth 20000 in
theorem gX6_wins_X6_within : GoodIn wsX6_wins (va_wsS RX6 77 yX6_within wsX6_within) := goodIn_app (goodIn_of _ (by decide +kernel)) ggX6_wins_X6_within
set_option maxRecDepth 20000 in
theorem ggX6_wins_X6_winsNow : GoodIn wsX6_wins wsX6_winsNow := goodIn_r _ [9, 10, 11, 12, 13, 4, 14, 15, 1, 16, 17, 18, 19, 20, 21, 22, 23, 24, 25, 26, 27, 28, 29, 30, 31, 32, 33, 34, 35, 36, 37, 38, 39, 40, 41, 42, 43, 44, 45, 46, 47, 48, 49, 50, 51, 52, 53, 54, 55, 56, 57, 58, 59, 60, 61, 62, 63, 64, 65, 66, 67, 68, 69, 70, 71, 72, 73, 74, 75, 76, 77, 78, 79, 80, 81, 82, 83, 84, 85, 86, 87, 88, 89, 90, 91, 92, 93, 94, 95, 96, 97, 98, 99, 100, 101, 102, 103, 104, 105, 106, 107, 108, 109, 110, 111, 112, 113, 114, 115, 116, 117, 118, 119, 120, 121, 122, 123, 124, 125, 126, 127, 128] (by decide +kernel) (by decide +kernel)
set_option maxRecDepth 20000 in
theorem gX6_wins_X6_winsNow : GoodIn wsX6_wins (wsV RX6 213 RX6 yX6_winsNow wsX6_winsNow) := goodIn_app (goodIn_of _ (by decide +kernel)) ggX6_wins_X6_winsNow
theorem dX6_wins_0 : decode cX6_wins 0 = .ok (.iload_n 1, 1) := by decide +kernel
theorem dX6_wins_1 : decode cX6_wins 1 = .ok (.iconst 0, 1) := by decide +kernel
theorem dX6_wins_2 : decode cX6_wins 2 = .ok (.iconst 1, 1) := by decide +kernel
theorem dX6_wins_3 : decode cX6_wins 3 = .ok (.invokestatic 77, 3) := by decide +kernel
theorem dX6_wins_6 : decode cX6_wins 6 = .ok (.ifCond .ne 6, 3) := by decide +kernel
theorem dX6_wins_9 : decode cX6_wins 9 = .ok (.bipush (-102), 2) := by decide +kernel
theorem dX6_wins_11 : decode cX6_wins 11 = .ok (.ireturn, 1) := by decide +kernel
theorem dX6_wins_12 : decode cX6_wins 12 = .ok (.aload_n 0, 1) := by decide +kernel
theorem dX6_wins_13 : decode cX6_wins 13 = .ok (.getfield 115, 3) := by decide +kernel
theorem dX6_wins_16 : decode cX6_wins 16 = .ok (.ifCond .ne 8, 3) := by decide +kernel
theorem dX6_wins_19 : decode cX6_wins 19 = .ok (.bipush (-103), 2) := by decide +kernel
theorem dX6_wins_21 : decode cX6_wins 21 = .ok (.goto 8, 3) := by decide +kernel
theorem dX6_wins_24 : decode cX6_wins 24 = .ok (.aload_n 0, 1) := by decide +kernel
theorem dX6_wins_25 : decode cX6_wins 25 = .ok (.iload_n 1, 1) := by decide +kernel
theorem dX6_wins_26 : decode cX6_wins 26 = .ok (.invokevirtual 213, 3) := by decide +kernel
theorem dX6_wins_29 : decode cX6_wins 29 = .ok (.ireturn, 1) := by decide +kernel
set_option maxRecDepth 20000 in
theorem ggX6_addNow_X6_places : GoodIn wsX6_addNow wsX6_places := goodIn_r _ [8, 9, 10, 90, 91, 92, 93, 94, 95, 96, 97, 98, 99, 100, 101, 102, 103, 104, 105, 106, 107, 108, 109, 110, 111, 112, 113, 114, 115, 116, 117, 118, 119, 120, 121, 122, 123, 124, 125, 126, 127, 128, 129] (by decide +kernel) (by decide +kernel)
set_option maxRecDepth 20000 in
theorem gX6_addNow_X6_places : GoodIn wsX6_addNow (wsV RX6 118 RX6 yX6_places wsX6_places) := goodIn_app (goodIn_of _ (by decide +kernel)) ggX6_addNow_X6_places
set_option maxRecDepth 20000 in
theorem ggX6_addNow_X6_isEmpty : GoodIn wsX6_addNow wsX6_isEmpty := goodIn_r _ [14, 15, 16, 17, 18, 7, 19, 20, 2, 3, 21, 22, 23, 24, 25, 26, 27, 90, 91, 92, 93, 94, 95, 96, 97, 98, 99, 100, 101, 102, 103, 104, 105, 106, 107, 108, 109, 110, 111, 112, 113, 114, 115, 116, 117, 118, 119, 120, 121, 122, 123, 124, 125, 126, 127, 128, 129] (by decide +kernel) (by decide +kernel)
set_option maxRecDepth 20000 in
theorem gX6_addNow_X6_isEmpty : GoodIn wsX6_addNow (wsV RX6 186 RX6 yX6_isEmpty wsX6_isEmpty) := goodIn_app (goodIn_of _ (by decide +kernel)) ggX6_addNow_X6_isEmpty
set_option maxRecDepth 20000 in
theorem ggX6_addNow_X6_coursesNow : GoodIn wsX6_addNow wsX6_coursesNow := goodIn_r _ [31, 32, 33, 34, 35, 36, 37, 16, 17, 18, 7, 19, 20, 2, 3, 38, 39, 40, 41, 42, 43, 44, 45, 46, 47, 48, 49, 50, 51, 52, 53, 54, 4, 5, 6, 8, 9, 10, 55, 56, 57, 58, 59, 60, 61, 62, 15, 1, 21, 22, 23, 24, 25, 26, 27, 63, 64, 65, 66, 67, 68, 69, 70, 71, 72, 73, 74, 75, 76, 77, 78, 79, 80, 81, 82, 83, 84, 85, 86, 87, 88, 89, 90, 91, 92, 93, 94, 95, 96, 97, 98, 99, 100, 101, 102, 103, 104, 105, 106, 107, 108, 109, 110, 111, 112, 113, 114, 115, 116, 117, 118, 119, 120, 121, 122, 123, 124, 125, 126, 127, 128, 129] (by decide +kernel) (by decide +kernel)
set_option maxRecDepth 20000 in
theorem gX6_addNow_X6_coursesNow : GoodIn wsX6_addNow (wsV RX6 210 RX6 yX6_coursesNow wsX6_coursesNow) := goodIn_app (goodIn_of _ (by decide +kernel)) ggX6_addNow_X6_coursesNow
theorem dX6_addNow_0 : decode cX6_addNow 0 = .ok (.iconst (-1), 1) := by decide +kernel
theorem dX6_addNow_1 : decode cX6_addNow 1 = .ok (.istore_n 1, 1) := by decide +kernel
theorem dX6_addNow_2 : decode cX6_addNow 2 = .ok (.iconst 0, 1) := by decide +kernel
theorem dX6_addNow_3 : decode cX6_addNow 3 = .ok (.istore_n 2, 1) := by decide +kernel
theorem dX6_addNow_4 : decode cX6_addNow 4 = .ok (.iload_n 2, 1) := by decide +kernel
theorem dX6_addNow_5 : decode cX6_addNow 5 = .ok (.aload_n 0, 1) := by decide +kernel
theorem dX6_addNow_6 : decode cX6_addNow 6 = .ok (.invokevirtual 118, 3) := by decide +kernel
theorem dX6_addNow_9 : decode cX6_addNow 9 = .ok (.if_icmp .ge 77, 3) := by decide +kernel
theorem dX6_addNow_12 : decode cX6_addNow 12 = .ok (.iload_n 1, 1) := by decide +kernel
theorem dX6_addNow_13 : decode cX6_addNow 13 = .ok (.iconst (-1), 1) := by decide +kernel
theorem dX6_addNow_14 : decode cX6_addNow 14 = .ok (.if_icmp .ne 72, 3) := by decide +kernel
theorem dX6_addNow_17 : decode cX6_addNow 17 = .ok (.aload_n 0, 1) := by decide +kernel
theorem dX6_addNow_18 : decode cX6_addNow 18 = .ok (.iload_n 2, 1) := by decide +kernel
theorem dX6_addNow_19 : decode cX6_addNow 19 = .ok (.invokevirtual 186, 3) := by decide +kernel
theorem dX6_addNow_22 : decode cX6_addNow 22 = .ok (.ifCond .eq 58, 3) := by decide +kernel
theorem dX6_addNow_25 : decode cX6_addNow 25 = .ok (.aload_n 0, 1) := by decide +kernel
theorem dX6_addNow_26 : decode cX6_addNow 26 = .ok (.getfield 7, 3) := by decide +kernel
theorem dX6_addNow_29 : decode cX6_addNow 29 = .ok (.aload_n 0, 1) := by decide +kernel
theorem dX6_addNow_30 : decode cX6_addNow 30 = .ok (.getfield 115, 3) := by decide +kernel
theorem dX6_addNow_33 : decode cX6_addNow 33 = .ok (.iconst 0, 1) := by decide +kernel
theorem dX6_addNow_34 : decode cX6_addNow 34 = .ok (.iastore, 1) := by decide +kernel
theorem dX6_addNow_35 : decode cX6_addNow 35 = .ok (.aload_n 0, 1) := by decide +kernel
theorem dX6_addNow_36 : decode cX6_addNow 36 = .ok (.getfield 13, 3) := by decide +kernel
theorem dX6_addNow_39 : decode cX6_addNow 39 = .ok (.aload_n 0, 1) := by decide +kernel
theorem dX6_addNow_40 : decode cX6_addNow 40 = .ok (.getfield 115, 3) := by decide +kernel
theorem dX6_addNow_43 : decode cX6_addNow 43 = .ok (.iload_n 2, 1) := by decide +kernel
theorem dX6_addNow_44 : decode cX6_addNow 44 = .ok (.iastore, 1) := by decide +kernel
theorem dX6_addNow_45 : decode cX6_addNow 45 = .ok (.aload_n 0, 1) := by decide +kernel
theorem dX6_addNow_46 : decode cX6_addNow 46 = .ok (.dup, 1) := by decide +kernel
theorem dX6_addNow_47 : decode cX6_addNow 47 = .ok (.getfield 115, 3) := by decide +kernel
theorem dX6_addNow_50 : decode cX6_addNow 50 = .ok (.iconst 1, 1) := by decide +kernel
theorem dX6_addNow_51 : decode cX6_addNow 51 = .ok (.iadd, 1) := by decide +kernel
theorem dX6_addNow_52 : decode cX6_addNow 52 = .ok (.putfield 115, 3) := by decide +kernel
theorem dX6_addNow_55 : decode cX6_addNow 55 = .ok (.aload_n 0, 1) := by decide +kernel
theorem dX6_addNow_56 : decode cX6_addNow 56 = .ok (.iconst 0, 1) := by decide +kernel
theorem dX6_addNow_57 : decode cX6_addNow 57 = .ok (.invokevirtual 210, 3) := by decide +kernel
theorem dX6_addNow_60 : decode cX6_addNow 60 = .ok (.iconst 1, 1) := by decide +kernel
theorem dX6_addNow_61 : decode cX6_addNow 61 = .ok (.if_icmp .ne 7, 3) := by decide +kernel
theorem dX6_addNow_64 : decode cX6_addNow 64 = .ok (.iload_n 2, 1) := by decide +kernel
theorem dX6_addNow_65 : decode cX6_addNow 65 = .ok (.goto 4, 3) := by decide +kernel
theorem dX6_addNow_68 : decode cX6_addNow 68 = .ok (.iconst (-1), 1) := by decide +kernel
theorem dX6_addNow_69 : decode cX6_addNow 69 = .ok (.istore_n 1, 1) := by decide +kernel
theorem dX6_addNow_70 : decode cX6_addNow 70 = .ok (.aload_n 0, 1) := by decide +kernel
theorem dX6_addNow_71 : decode cX6_addNow 71 = .ok (.dup, 1) := by decide +kernel
theorem dX6_addNow_72 : decode cX6_addNow 72 = .ok (.getfield 115, 3) := by decide +kernel
theorem dX6_addNow_75 : decode cX6_addNow 75 = .ok (.iconst 1, 1) := by decide +kernel
theorem dX6_addNow_76 : decode cX6_addNow 76 = .ok (.isub, 1) := by decide +kernel
theorem dX6_addNow_77 : decode cX6_addNow 77 = .ok (.putfield 115, 3) := by decide +kernel
theorem dX6_addNow_80 : decode cX6_addNow 80 = .ok (.iinc 2 1, 3) := by decide +kernel
theorem dX6_addNow_83 : decode cX6_addNow 83 = .ok (.goto (-79), 3) := by decide +kernel
theorem dX6_addNow_86 : decode cX6_addNow 86 = .ok (.iload_n 1, 1) := by decide +kernel
theorem dX6_addNow_87 : decode cX6_addNow 87 = .ok (.ireturn, 1) := by decide +kernel
set_option maxRecDepth 20000 in
theorem ggX6_add_X6_addNow : GoodIn wsX6_add wsX6_addNow := goodIn_r _ [7, 8, 1, 9, 10, 11, 12, 6, 13, 14, 15, 16, 17, 18, 19, 20, 21, 22, 23, 24, 25, 26, 27, 28, 29, 30, 31, 32, 33, 34, 35, 36, 37, 38, 39, 40, 41, 42, 43, 44, 45, 46, 47, 48, 49, 50, 51, 52, 53, 54, 55, 56, 57, 58, 59, 60, 61, 62, 63, 64, 65, 66, 67, 68, 69, 70, 71, 72, 73, 74, 75, 76, 77, 78, 79, 80, 81, 82, 83, 84, 85, 86, 87, 88, 89, 90, 91, 92, 93, 94, 95, 96, 97, 98, 99, 100, 101, 102, 103, 104, 105, 106, 107, 108, 109, 110, 111, 112, 113, 114, 115, 116, 117, 118, 119, 120, 121, 122, 123, 124, 125, 126, 127, 128, 129, 130, 131, 132, 133, 134] (by decide +kernel) (by decide +kernel)
set_option maxRecDepth 20000 in
theorem gX6_add_X6_addNow : GoodIn wsX6_add (wsV RX6 219 RX6 yX6_addNow wsX6_addNow) := goodIn_app (goodIn_of _ (by decide +kernel)) ggX6_add_X6_addNow
theorem dX6_add_0 : decode cX6_add 0 = .ok (.aload_n 0, 1) := by decide +kernel
theorem dX6_add_1 : decode cX6_add 1 = .ok (.getfield 115, 3) := by decide +kernel
theorem dX6_add_4 : decode cX6_add 4 = .ok (.ifCond .eq 12, 3) := by decide +kernel
theorem dX6_add_7 : decode cX6_add 7 = .ok (.aload_n 0, 1) := by decide +kernel
theorem dX6_add_8 : decode cX6_add 8 = .ok (.getfield 216, 3) := by decide +kernel
theorem dX6_add_11 : decode cX6_add 11 = .ok (.bipush 12, 2) := by decide +kernel
theorem dX6_add_13 : decode cX6_add 13 = .ok (.if_icmp .ne 6, 3) := by decide +kernel
theorem dX6_add_16 : decode cX6_add 16 = .ok (.bipush (-103), 2) := by decide +kernel
theorem dX6_add_18 : decode cX6_add 18 = .ok (.ireturn, 1) := by decide +kernel
theorem dX6_add_19 : decode cX6_add 19 = .ok (.aload_n 0, 1) := by decide +kernel
theorem dX6_add_20 : decode cX6_add 20 = .ok (.dup, 1) := by decide +kernel
theorem dX6_add_21 : decode cX6_add 21 = .ok (.getfield 216, 3) := by decide +kernel
theorem dX6_add_24 : decode cX6_add 24 = .ok (.iconst 1, 1) := by decide +kernel
theorem dX6_add_25 : decode cX6_add 25 = .ok (.iadd, 1) := by decide +kernel
theorem dX6_add_26 : decode cX6_add 26 = .ok (.putfield 216, 3) := by decide +kernel
theorem dX6_add_29 : decode cX6_add 29 = .ok (.aload_n 0, 1) := by decide +kernel
theorem dX6_add_30 : decode cX6_add 30 = .ok (.invokevirtual 219, 3) := by decide +kernel
theorem dX6_add_33 : decode cX6_add 33 = .ok (.ireturn, 1) := by decide +kernel
set_option maxRecDepth 20000 in
theorem ggX6_meanNow_X6_putDeep : GoodIn wsX6_meanNow wsX6_putDeep := goodIn_r _ [7, 8, 9, 10, 82, 83, 84, 85, 86, 87, 88, 89, 90, 91, 92, 93, 94, 95, 96, 97, 98, 99, 100, 101, 102, 103, 104, 105, 106, 107, 108, 109, 110, 111, 112, 113, 114, 115, 116, 117, 118, 119, 120, 121] (by decide +kernel) (by decide +kernel)
set_option maxRecDepth 20000 in
theorem gX6_meanNow_X6_putDeep : GoodIn wsX6_meanNow (wsV RX6 157 RX6 yX6_putDeep wsX6_putDeep) := goodIn_app (goodIn_of _ (by decide +kernel)) ggX6_meanNow_X6_putDeep
set_option maxRecDepth 20000 in
theorem ggX6_meanNow_X6_layCourses : GoodIn wsX6_meanNow wsX6_layCourses := goodIn_r _ [14, 2, 15, 16, 17, 18, 6, 19, 20, 21, 22, 23, 24, 25, 26, 27, 1, 28, 29, 30, 31, 9, 32, 33, 34, 35, 36, 37, 38, 39, 40, 41, 42, 43, 44, 45, 8, 46, 47, 48, 49, 50, 51, 52, 53, 54, 55, 56, 57, 58, 59, 60, 61, 62, 63, 64, 65, 66, 67, 68, 69, 70, 71, 72, 73, 74, 75, 76, 77, 78, 79, 80, 81, 82, 83, 84, 85, 86, 87, 88, 89, 90, 91, 92, 93, 94, 95, 96, 97, 98, 99, 100, 101, 102, 103, 104, 105, 106, 107, 108, 109, 110, 111, 112, 113, 114, 115, 116, 117, 118, 119, 120, 121] (by decide +kernel) (by decide +kernel)
set_option maxRecDepth 20000 in
theorem gX6_meanNow_X6_layCourses : GoodIn wsX6_meanNow (wsV RX6 207 RX6 yX6_layCourses wsX6_layCourses) := goodIn_app (goodIn_of _ (by decide +kernel)) ggX6_meanNow_X6_layCourses
theorem dX6_meanNow_0 : decode cX6_meanNow 0 = .ok (.aload_n 0, 1) := by decide +kernel
theorem dX6_meanNow_1 : decode cX6_meanNow 1 = .ok (.invokevirtual 157, 3) := by decide +kernel
theorem dX6_meanNow_4 : decode cX6_meanNow 4 = .ok (.aload_n 0, 1) := by decide +kernel
theorem dX6_meanNow_5 : decode cX6_meanNow 5 = .ok (.invokevirtual 207, 3) := by decide +kernel
theorem dX6_meanNow_8 : decode cX6_meanNow 8 = .ok (.aload_n 0, 1) := by decide +kernel
theorem dX6_meanNow_9 : decode cX6_meanNow 9 = .ok (.getfield 59, 3) := by decide +kernel
theorem dX6_meanNow_12 : decode cX6_meanNow 12 = .ok (.iconst 0, 1) := by decide +kernel
theorem dX6_meanNow_13 : decode cX6_meanNow 13 = .ok (.iaload, 1) := by decide +kernel
theorem dX6_meanNow_14 : decode cX6_meanNow 14 = .ok (.aload_n 0, 1) := by decide +kernel
theorem dX6_meanNow_15 : decode cX6_meanNow 15 = .ok (.getfield 35, 3) := by decide +kernel
theorem dX6_meanNow_18 : decode cX6_meanNow 18 = .ok (.iconst 0, 1) := by decide +kernel
theorem dX6_meanNow_19 : decode cX6_meanNow 19 = .ok (.iaload, 1) := by decide +kernel
theorem dX6_meanNow_20 : decode cX6_meanNow 20 = .ok (.idiv, 1) := by decide +kernel
theorem dX6_meanNow_21 : decode cX6_meanNow 21 = .ok (.ireturn, 1) := by decide +kernel
set_option maxRecDepth 20000 in
theorem ggX6_mean_X6_meanNow : GoodIn wsX6_mean wsX6_meanNow := goodIn_r _ [6, 7, 8, 9, 10, 11, 5, 12, 13, 1, 14, 15, 16, 17, 18, 19, 20, 21, 22, 23, 24, 25, 26, 27, 28, 29, 30, 31, 32, 33, 34, 35, 36, 37, 38, 39, 40, 41, 42, 43, 44, 45, 46, 47, 48, 49, 50, 51, 52, 53, 54, 55, 56, 57, 58, 59, 60, 61, 62, 63, 64, 65, 66, 67, 68, 69, 70, 71, 72, 73, 74, 75, 76, 77, 78, 79, 80, 81, 82, 83, 84, 85, 86, 87, 88, 89, 90, 91, 92, 93, 94, 95, 96, 97, 98, 99, 100, 101, 102, 103, 104, 105, 106, 107, 108, 109, 110, 111, 112, 113, 114, 115, 116, 117, 118, 119, 120, 121, 122, 123, 124, 125] (by decide +kernel) (by decide +kernel)
set_option maxRecDepth 20000 in
theorem gX6_mean_X6_meanNow : GoodIn wsX6_mean (wsV RX6 222 RX6 yX6_meanNow wsX6_meanNow) := goodIn_app (goodIn_of _ (by decide +kernel)) ggX6_mean_X6_meanNow
theorem dX6_mean_0 : decode cX6_mean 0 = .ok (.aload_n 0, 1) := by decide +kernel
theorem dX6_mean_1 : decode cX6_mean 1 = .ok (.getfield 115, 3) := by decide +kernel
theorem dX6_mean_4 : decode cX6_mean 4 = .ok (.ifCond .ne 8, 3) := by decide +kernel
theorem dX6_mean_7 : decode cX6_mean 7 = .ok (.bipush (-103), 2) := by decide +kernel
theorem dX6_mean_9 : decode cX6_mean 9 = .ok (.goto 7, 3) := by decide +kernel
theorem dX6_mean_12 : decode cX6_mean 12 = .ok (.aload_n 0, 1) := by decide +kernel
theorem dX6_mean_13 : decode cX6_mean 13 = .ok (.invokevirtual 222, 3) := by decide +kernel
theorem dX6_mean_16 : decode cX6_mean 16 = .ok (.ireturn, 1) := by decide +kernel
theorem dX6_could_0 : decode cX6_could 0 = .ok (.iload_n 1, 1) := by decide +kernel
theorem dX6_could_1 : decode cX6_could 1 = .ok (.tableswitch 65 0 2 #[27, 38, 54], 27) := by decide +kernel
theorem dX6_could_28 : decode cX6_could 28 = .ok (.iload_n 0, 1) := by decide +kernel
theorem dX6_could_29 : decode cX6_could 29 = .ok (.iconst 1, 1) := by decide +kernel
theorem dX6_could_30 : decode cX6_could 30 = .ok (.if_icmp .eq 7, 3) := by decide +kernel
theorem dX6_could_33 : decode cX6_could 33 = .ok (.iconst 1, 1) := by decide +kernel
theorem dX6_could_34 : decode cX6_could 34 = .ok (.goto 4, 3) := by decide +kernel
theorem dX6_could_37 : decode cX6_could 37 = .ok (.iconst 0, 1) := by decide +kernel
theorem dX6_could_38 : decode cX6_could 38 = .ok (.ireturn, 1) := by decide +kernel
theorem dX6_could_39 : decode cX6_could 39 = .ok (.iload_n 0, 1) := by decide +kernel
theorem dX6_could_40 : decode cX6_could 40 = .ok (.iconst 1, 1) := by decide +kernel
theorem dX6_could_41 : decode cX6_could 41 = .ok (.if_icmp .eq 8, 3) := by decide +kernel
theorem dX6_could_44 : decode cX6_could 44 = .ok (.iload_n 0, 1) := by decide +kernel
theorem dX6_could_45 : decode cX6_could 45 = .ok (.iconst 4, 1) := by decide +kernel
theorem dX6_could_46 : decode cX6_could 46 = .ok (.if_icmp .ne 7, 3) := by decide +kernel
theorem dX6_could_49 : decode cX6_could 49 = .ok (.iconst 1, 1) := by decide +kernel
theorem dX6_could_50 : decode cX6_could 50 = .ok (.goto 4, 3) := by decide +kernel
theorem dX6_could_53 : decode cX6_could 53 = .ok (.iconst 0, 1) := by decide +kernel
theorem dX6_could_54 : decode cX6_could 54 = .ok (.ireturn, 1) := by decide +kernel
theorem dX6_could_55 : decode cX6_could 55 = .ok (.iload_n 0, 1) := by decide +kernel
theorem dX6_could_56 : decode cX6_could 56 = .ok (.iconst 2, 1) := by decide +kernel
theorem dX6_could_57 : decode cX6_could 57 = .ok (.if_icmp .eq 7, 3) := by decide +kernel
theorem dX6_could_60 : decode cX6_could 60 = .ok (.iconst 1, 1) := by decide +kernel
theorem dX6_could_61 : decode cX6_could 61 = .ok (.goto 4, 3) := by decide +kernel
theorem dX6_could_64 : decode cX6_could 64 = .ok (.iconst 0, 1) := by decide +kernel
theorem dX6_could_65 : decode cX6_could 65 = .ok (.ireturn, 1) := by decide +kernel
theorem dX6_could_66 : decode cX6_could 66 = .ok (.iload_n 0, 1) := by decide +kernel
theorem dX6_could_67 : decode cX6_could 67 = .ok (.iconst 3, 1) := by decide +kernel
theorem dX6_could_68 : decode cX6_could 68 = .ok (.if_icmp .eq 7, 3) := by decide +kernel
theorem dX6_could_71 : decode cX6_could 71 = .ok (.iconst 1, 1) := by decide +kernel
theorem dX6_could_72 : decode cX6_could 72 = .ok (.goto 4, 3) := by decide +kernel
theorem dX6_could_75 : decode cX6_could 75 = .ok (.iconst 0, 1) := by decide +kernel
theorem dX6_could_76 : decode cX6_could 76 = .ok (.ireturn, 1) := by decide +kernel
set_option maxRecDepth 20000 in
theorem ggX6_see_X6_isPeg : GoodIn wsX6_see wsX6_isPeg := goodIn_r _ [9, 10, 11, 12, 8, 13, 14, 15, 16, 17, 18, 19, 20, 21, 22, 23, 24, 25, 26, 27, 28, 29, 30, 31, 32, 33, 34, 35, 36, 37, 38, 39, 40, 41, 42, 43, 44, 45, 46, 47, 48, 49, 50, 51, 52, 53] (by decide +kernel) (by decide +kernel)
set_option maxRecDepth 20000 in
theorem gX6_see_X6_isPeg : GoodIn wsX6_see (wsV RX6 166 RX6 yX6_isPeg wsX6_isPeg) := goodIn_app (goodIn_of _ (by decide +kernel)) ggX6_see_X6_isPeg
set_option maxRecDepth 20000 in
theorem ggX6_see_X6_within : GoodIn wsX6_see wsX6_within := goodIn_r _ [13] (by decide +kernel) (by decide +kernel)
set_option maxRecDepth 20000 in
theorem gX6_see_X6_within : GoodIn wsX6_see (va_wsS RX6 77 yX6_within wsX6_within) := goodIn_app (goodIn_of _ (by decide +kernel)) ggX6_see_X6_within
theorem dX6_see_0 : decode cX6_see 0 = .ok (.aload_n 0, 1) := by decide +kernel
theorem dX6_see_1 : decode cX6_see 1 = .ok (.iload_n 1, 1) := by decide +kernel
theorem dX6_see_2 : decode cX6_see 2 = .ok (.invokevirtual 166, 3) := by decide +kernel
theorem dX6_see_5 : decode cX6_see 5 = .ok (.ifCond .ne 6, 3) := by decide +kernel
theorem dX6_see_8 : decode cX6_see 8 = .ok (.bipush (-101), 2) := by decide +kernel
theorem dX6_see_10 : decode cX6_see 10 = .ok (.ireturn, 1) := by decide +kernel
theorem dX6_see_11 : decode cX6_see 11 = .ok (.iload_n 2, 1) := by decide +kernel
theorem dX6_see_12 : decode cX6_see 12 = .ok (.iconst 0, 1) := by decide +kernel
theorem dX6_see_13 : decode cX6_see 13 = .ok (.iconst 3, 1) := by decide +kernel
theorem dX6_see_14 : decode cX6_see 14 = .ok (.invokestatic 77, 3) := by decide +kernel
theorem dX6_see_17 : decode cX6_see 17 = .ok (.ifCond .ne 6, 3) := by decide +kernel
theorem dX6_see_20 : decode cX6_see 20 = .ok (.bipush (-102), 2) := by decide +kernel
theorem dX6_see_22 : decode cX6_see 22 = .ok (.ireturn, 1) := by decide +kernel
theorem dX6_see_23 : decode cX6_see 23 = .ok (.aload_n 0, 1) := by decide +kernel
theorem dX6_see_24 : decode cX6_see 24 = .ok (.getfield 127, 3) := by decide +kernel
theorem dX6_see_27 : decode cX6_see 27 = .ok (.bipush 6, 2) := by decide +kernel
theorem dX6_see_29 : decode cX6_see 29 = .ok (.if_icmp .ne 6, 3) := by decide +kernel
theorem dX6_see_32 : decode cX6_see 32 = .ok (.bipush (-104), 2) := by decide +kernel
theorem dX6_see_34 : decode cX6_see 34 = .ok (.ireturn, 1) := by decide +kernel
theorem dX6_see_35 : decode cX6_see 35 = .ok (.aload_n 0, 1) := by decide +kernel
theorem dX6_see_36 : decode cX6_see 36 = .ok (.getfield 16, 3) := by decide +kernel
theorem dX6_see_39 : decode cX6_see 39 = .ok (.aload_n 0, 1) := by decide +kernel
theorem dX6_see_40 : decode cX6_see 40 = .ok (.getfield 127, 3) := by decide +kernel
theorem dX6_see_43 : decode cX6_see 43 = .ok (.iload_n 1, 1) := by decide +kernel
theorem dX6_see_44 : decode cX6_see 44 = .ok (.iastore, 1) := by decide +kernel
theorem dX6_see_45 : decode cX6_see 45 = .ok (.aload_n 0, 1) := by decide +kernel
theorem dX6_see_46 : decode cX6_see 46 = .ok (.getfield 19, 3) := by decide +kernel
theorem dX6_see_49 : decode cX6_see 49 = .ok (.aload_n 0, 1) := by decide +kernel
theorem dX6_see_50 : decode cX6_see 50 = .ok (.getfield 127, 3) := by decide +kernel
theorem dX6_see_53 : decode cX6_see 53 = .ok (.iload_n 2, 1) := by decide +kernel
theorem dX6_see_54 : decode cX6_see 54 = .ok (.iastore, 1) := by decide +kernel
theorem dX6_see_55 : decode cX6_see 55 = .ok (.aload_n 0, 1) := by decide +kernel
theorem dX6_see_56 : decode cX6_see 56 = .ok (.getfield 22, 3) := by decide +kernel
theorem dX6_see_59 : decode cX6_see 59 = .ok (.aload_n 0, 1) := by decide +kernel
theorem dX6_see_60 : decode cX6_see 60 = .ok (.getfield 127, 3) := by decide +kernel
theorem dX6_see_63 : decode cX6_see 63 = .ok (.iload_n 3, 1) := by decide +kernel
theorem dX6_see_64 : decode cX6_see 64 = .ok (.ifCond .eq 7, 3) := by decide +kernel
theorem dX6_see_67 : decode cX6_see 67 = .ok (.iconst 1, 1) := by decide +kernel
theorem dX6_see_68 : decode cX6_see 68 = .ok (.goto 4, 3) := by decide +kernel
theorem dX6_see_71 : decode cX6_see 71 = .ok (.iconst 0, 1) := by decide +kernel
theorem dX6_see_72 : decode cX6_see 72 = .ok (.iastore, 1) := by decide +kernel
theorem dX6_see_73 : decode cX6_see 73 = .ok (.aload_n 0, 1) := by decide +kernel
theorem dX6_see_74 : decode cX6_see 74 = .ok (.dup, 1) := by decide +kernel
theorem dX6_see_75 : decode cX6_see 75 = .ok (.getfield 127, 3) := by decide +kernel
theorem dX6_see_78 : decode cX6_see 78 = .ok (.iconst 1, 1) := by decide +kernel
theorem dX6_see_79 : decode cX6_see 79 = .ok (.iadd, 1) := by decide +kernel
theorem dX6_see_80 : decode cX6_see 80 = .ok (.putfield 127, 3) := by decide +kernel
theorem dX6_see_83 : decode cX6_see 83 = .ok (.aload_n 0, 1) := by decide +kernel
theorem dX6_see_84 : decode cX6_see 84 = .ok (.getfield 127, 3) := by decide +kernel
theorem dX6_see_87 : decode cX6_see 87 = .ok (.ireturn, 1) := by decide +kernel
theorem dX6_forget_0 : decode cX6_forget 0 = .ok (.aload_n 0, 1) := by decide +kernel
theorem dX6_forget_1 : decode cX6_forget 1 = .ok (.getfield 127, 3) := by decide +kernel
theorem dX6_forget_4 : decode cX6_forget 4 = .ok (.istore_n 1, 1) := by decide +kernel
theorem dX6_forget_5 : decode cX6_forget 5 = .ok (.aload_n 0, 1) := by decide +kernel
theorem dX6_forget_6 : decode cX6_forget 6 = .ok (.iconst 0, 1) := by decide +kernel
theorem dX6_forget_7 : decode cX6_forget 7 = .ok (.putfield 127, 3) := by decide +kernel
theorem dX6_forget_10 : decode cX6_forget 10 = .ok (.iload_n 1, 1) := by decide +kernel
theorem dX6_forget_11 : decode cX6_forget 11 = .ok (.ireturn, 1) := by decide +kernel
set_option maxRecDepth 20000 in
theorem ggX6_sortsOf_X6_could : GoodIn wsX6_sortsOf wsX6_could := goodIn_r _ [8] (by decide +kernel) (by decide +kernel)
set_option maxRecDepth 20000 in
theorem gX6_sortsOf_X6_could : GoodIn wsX6_sortsOf (va_wsS RX6 225 yX6_could wsX6_could) := goodIn_app (goodIn_of _ (by decide +kernel)) ggX6_sortsOf_X6_could
theorem dX6_sortsOf_0 : decode cX6_sortsOf 0 = .ok (.iconst 0, 1) := by decide +kernel
theorem dX6_sortsOf_1 : decode cX6_sortsOf 1 = .ok (.istore_n 2, 1) := by decide +kernel
theorem dX6_sortsOf_2 : decode cX6_sortsOf 2 = .ok (.iconst 0, 1) := by decide +kernel
theorem dX6_sortsOf_3 : decode cX6_sortsOf 3 = .ok (.istore_n 3, 1) := by decide +kernel
theorem dX6_sortsOf_4 : decode cX6_sortsOf 4 = .ok (.iload_n 3, 1) := by decide +kernel
theorem dX6_sortsOf_5 : decode cX6_sortsOf 5 = .ok (.iconst 4, 1) := by decide +kernel
theorem dX6_sortsOf_6 : decode cX6_sortsOf 6 = .ok (.if_icmp .gt 98, 3) := by decide +kernel
theorem dX6_sortsOf_9 : decode cX6_sortsOf 9 = .ok (.iconst 1, 1) := by decide +kernel
theorem dX6_sortsOf_10 : decode cX6_sortsOf 10 = .ok (.istore 4, 2) := by decide +kernel
theorem dX6_sortsOf_12 : decode cX6_sortsOf 12 = .ok (.iconst 0, 1) := by decide +kernel
theorem dX6_sortsOf_13 : decode cX6_sortsOf 13 = .ok (.istore 5, 2) := by decide +kernel
theorem dX6_sortsOf_15 : decode cX6_sortsOf 15 = .ok (.iload 5, 2) := by decide +kernel
theorem dX6_sortsOf_17 : decode cX6_sortsOf 17 = .ok (.aload_n 0, 1) := by decide +kernel
theorem dX6_sortsOf_18 : decode cX6_sortsOf 18 = .ok (.getfield 127, 3) := by decide +kernel
theorem dX6_sortsOf_21 : decode cX6_sortsOf 21 = .ok (.if_icmp .ge 62, 3) := by decide +kernel
theorem dX6_sortsOf_24 : decode cX6_sortsOf 24 = .ok (.iload 4, 2) := by decide +kernel
theorem dX6_sortsOf_26 : decode cX6_sortsOf 26 = .ok (.ifCond .eq 48, 3) := by decide +kernel
theorem dX6_sortsOf_29 : decode cX6_sortsOf 29 = .ok (.aload_n 0, 1) := by decide +kernel
theorem dX6_sortsOf_30 : decode cX6_sortsOf 30 = .ok (.getfield 16, 3) := by decide +kernel
theorem dX6_sortsOf_33 : decode cX6_sortsOf 33 = .ok (.iload 5, 2) := by decide +kernel
theorem dX6_sortsOf_35 : decode cX6_sortsOf 35 = .ok (.iaload, 1) := by decide +kernel
theorem dX6_sortsOf_36 : decode cX6_sortsOf 36 = .ok (.iload_n 1, 1) := by decide +kernel
theorem dX6_sortsOf_37 : decode cX6_sortsOf 37 = .ok (.if_icmp .ne 33, 3) := by decide +kernel
theorem dX6_sortsOf_40 : decode cX6_sortsOf 40 = .ok (.iload_n 3, 1) := by decide +kernel
theorem dX6_sortsOf_41 : decode cX6_sortsOf 41 = .ok (.aload_n 0, 1) := by decide +kernel
theorem dX6_sortsOf_42 : decode cX6_sortsOf 42 = .ok (.getfield 19, 3) := by decide +kernel
theorem dX6_sortsOf_45 : decode cX6_sortsOf 45 = .ok (.iload 5, 2) := by decide +kernel
theorem dX6_sortsOf_47 : decode cX6_sortsOf 47 = .ok (.iaload, 1) := by decide +kernel
theorem dX6_sortsOf_48 : decode cX6_sortsOf 48 = .ok (.invokestatic 225, 3) := by decide +kernel
theorem dX6_sortsOf_51 : decode cX6_sortsOf 51 = .ok (.aload_n 0, 1) := by decide +kernel
theorem dX6_sortsOf_52 : decode cX6_sortsOf 52 = .ok (.getfield 22, 3) := by decide +kernel
theorem dX6_sortsOf_55 : decode cX6_sortsOf 55 = .ok (.iload 5, 2) := by decide +kernel
theorem dX6_sortsOf_57 : decode cX6_sortsOf 57 = .ok (.iaload, 1) := by decide +kernel
theorem dX6_sortsOf_58 : decode cX6_sortsOf 58 = .ok (.iconst 1, 1) := by decide +kernel
theorem dX6_sortsOf_59 : decode cX6_sortsOf 59 = .ok (.if_icmp .ne 7, 3) := by decide +kernel
theorem dX6_sortsOf_62 : decode cX6_sortsOf 62 = .ok (.iconst 1, 1) := by decide +kernel
theorem dX6_sortsOf_63 : decode cX6_sortsOf 63 = .ok (.goto 4, 3) := by decide +kernel
theorem dX6_sortsOf_66 : decode cX6_sortsOf 66 = .ok (.iconst 0, 1) := by decide +kernel
theorem dX6_sortsOf_67 : decode cX6_sortsOf 67 = .ok (.if_icmp .ne 7, 3) := by decide +kernel
theorem dX6_sortsOf_70 : decode cX6_sortsOf 70 = .ok (.iconst 1, 1) := by decide +kernel
theorem dX6_sortsOf_71 : decode cX6_sortsOf 71 = .ok (.goto 4, 3) := by decide +kernel
theorem dX6_sortsOf_74 : decode cX6_sortsOf 74 = .ok (.iconst 0, 1) := by decide +kernel
theorem dX6_sortsOf_75 : decode cX6_sortsOf 75 = .ok (.istore 4, 2) := by decide +kernel
theorem dX6_sortsOf_77 : decode cX6_sortsOf 77 = .ok (.iinc 5 1, 3) := by decide +kernel
theorem dX6_sortsOf_80 : decode cX6_sortsOf 80 = .ok (.goto (-65), 3) := by decide +kernel
theorem dX6_sortsOf_83 : decode cX6_sortsOf 83 = .ok (.iload_n 2, 1) := by decide +kernel
theorem dX6_sortsOf_84 : decode cX6_sortsOf 84 = .ok (.iload 4, 2) := by decide +kernel
theorem dX6_sortsOf_86 : decode cX6_sortsOf 86 = .ok (.ifCond .eq 9, 3) := by decide +kernel
theorem dX6_sortsOf_89 : decode cX6_sortsOf 89 = .ok (.iconst 1, 1) := by decide +kernel
theorem dX6_sortsOf_90 : decode cX6_sortsOf 90 = .ok (.iload_n 3, 1) := by decide +kernel
theorem dX6_sortsOf_91 : decode cX6_sortsOf 91 = .ok (.ishl, 1) := by decide +kernel
theorem dX6_sortsOf_92 : decode cX6_sortsOf 92 = .ok (.goto 4, 3) := by decide +kernel
theorem dX6_sortsOf_95 : decode cX6_sortsOf 95 = .ok (.iconst 0, 1) := by decide +kernel
theorem dX6_sortsOf_96 : decode cX6_sortsOf 96 = .ok (.ior, 1) := by decide +kernel
theorem dX6_sortsOf_97 : decode cX6_sortsOf 97 = .ok (.istore_n 2, 1) := by decide +kernel
theorem dX6_sortsOf_98 : decode cX6_sortsOf 98 = .ok (.iinc 3 1, 3) := by decide +kernel
theorem dX6_sortsOf_101 : decode cX6_sortsOf 101 = .ok (.goto (-97), 3) := by decide +kernel
theorem dX6_sortsOf_104 : decode cX6_sortsOf 104 = .ok (.iload_n 2, 1) := by decide +kernel
theorem dX6_sortsOf_105 : decode cX6_sortsOf 105 = .ok (.ireturn, 1) := by decide +kernel
set_option maxRecDepth 20000 in
theorem ggX6_askOf_X6_sortsOf : GoodIn wsX6_askOf wsX6_sortsOf := goodIn_r _ [6, 7, 8, 9, 10, 11, 12, 5, 13, 20, 21, 22, 23, 24, 25, 26, 27, 28, 29, 30, 31, 32, 33, 34, 35, 36, 37, 38, 39, 40, 41, 42, 43, 44, 45, 46, 47, 48, 49, 50, 51, 52, 53, 54, 55, 56, 57, 58, 59] (by decide +kernel) (by decide +kernel)
set_option maxRecDepth 20000 in
theorem gX6_askOf_X6_sortsOf : GoodIn wsX6_askOf (wsV RX6 160 RX6 yX6_sortsOf wsX6_sortsOf) := goodIn_app (goodIn_of _ (by decide +kernel)) ggX6_askOf_X6_sortsOf
set_option maxRecDepth 20000 in
theorem ggX6_askOf_X6_isIn : GoodIn wsX6_askOf wsX6_isIn := goodIn_r _ [16] (by decide +kernel) (by decide +kernel)
set_option maxRecDepth 20000 in
theorem gX6_askOf_X6_isIn : GoodIn wsX6_askOf (va_wsS RX6 130 yX6_isIn wsX6_isIn) := goodIn_app (goodIn_of _ (by decide +kernel)) ggX6_askOf_X6_isIn
set_option maxRecDepth 20000 in
theorem ggX6_askOf_X6_could : GoodIn wsX6_askOf wsX6_could := goodIn_r _ [13] (by decide +kernel) (by decide +kernel)
set_option maxRecDepth 20000 in
theorem gX6_askOf_X6_could : GoodIn wsX6_askOf (va_wsS RX6 225 yX6_could wsX6_could) := goodIn_app (goodIn_of _ (by decide +kernel)) ggX6_askOf_X6_could
set_option maxRecDepth 20000 in
theorem ggX6_askOf_X6_size : GoodIn wsX6_askOf wsX6_size := goodIn_r _ [19] (by decide +kernel) (by decide +kernel)
set_option maxRecDepth 20000 in
theorem gX6_askOf_X6_size : GoodIn wsX6_askOf (va_wsS RX6 154 yX6_size wsX6_size) := goodIn_app (goodIn_of _ (by decide +kernel)) ggX6_askOf_X6_size
theorem dX6_askOf_0 : decode cX6_askOf 0 = .ok (.aload_n 0, 1) := by decide +kernel
theorem dX6_askOf_1 : decode cX6_askOf 1 = .ok (.iload_n 1, 1) := by decide +kernel
theorem dX6_askOf_2 : decode cX6_askOf 2 = .ok (.invokevirtual 160, 3) := by decide +kernel
theorem dX6_askOf_5 : decode cX6_askOf 5 = .ok (.istore_n 2, 1) := by decide +kernel
theorem dX6_askOf_6 : decode cX6_askOf 6 = .ok (.iconst (-1), 1) := by decide +kernel
theorem dX6_askOf_7 : decode cX6_askOf 7 = .ok (.istore_n 3, 1) := by decide +kernel
theorem dX6_askOf_8 : decode cX6_askOf 8 = .ok (.ldc 189, 2) := by decide +kernel
theorem dX6_askOf_10 : decode cX6_askOf 10 = .ok (.istore 4, 2) := by decide +kernel
theorem dX6_askOf_12 : decode cX6_askOf 12 = .ok (.iconst 0, 1) := by decide +kernel
theorem dX6_askOf_13 : decode cX6_askOf 13 = .ok (.istore 5, 2) := by decide +kernel
theorem dX6_askOf_15 : decode cX6_askOf 15 = .ok (.iload 5, 2) := by decide +kernel
theorem dX6_askOf_17 : decode cX6_askOf 17 = .ok (.iconst 4, 1) := by decide +kernel
theorem dX6_askOf_18 : decode cX6_askOf 18 = .ok (.if_icmp .ge 115, 3) := by decide +kernel
theorem dX6_askOf_21 : decode cX6_askOf 21 = .ok (.iload_n 2, 1) := by decide +kernel
theorem dX6_askOf_22 : decode cX6_askOf 22 = .ok (.ifCond .eq 111, 3) := by decide +kernel
theorem dX6_askOf_25 : decode cX6_askOf 25 = .ok (.iconst 0, 1) := by decide +kernel
theorem dX6_askOf_26 : decode cX6_askOf 26 = .ok (.istore 6, 2) := by decide +kernel
theorem dX6_askOf_28 : decode cX6_askOf 28 = .ok (.iconst 0, 1) := by decide +kernel
theorem dX6_askOf_29 : decode cX6_askOf 29 = .ok (.istore 7, 2) := by decide +kernel
theorem dX6_askOf_31 : decode cX6_askOf 31 = .ok (.iload 7, 2) := by decide +kernel
theorem dX6_askOf_33 : decode cX6_askOf 33 = .ok (.iconst 4, 1) := by decide +kernel
theorem dX6_askOf_34 : decode cX6_askOf 34 = .ok (.if_icmp .gt 38, 3) := by decide +kernel
theorem dX6_askOf_37 : decode cX6_askOf 37 = .ok (.iload 6, 2) := by decide +kernel
theorem dX6_askOf_39 : decode cX6_askOf 39 = .ok (.iload_n 2, 1) := by decide +kernel
theorem dX6_askOf_40 : decode cX6_askOf 40 = .ok (.iload 7, 2) := by decide +kernel
theorem dX6_askOf_42 : decode cX6_askOf 42 = .ok (.invokestatic 130, 3) := by decide +kernel
theorem dX6_askOf_45 : decode cX6_askOf 45 = .ok (.ifCond .eq 17, 3) := by decide +kernel
theorem dX6_askOf_48 : decode cX6_askOf 48 = .ok (.iload 7, 2) := by decide +kernel
theorem dX6_askOf_50 : decode cX6_askOf 50 = .ok (.iload 5, 2) := by decide +kernel
theorem dX6_askOf_52 : decode cX6_askOf 52 = .ok (.invokestatic 225, 3) := by decide +kernel
theorem dX6_askOf_55 : decode cX6_askOf 55 = .ok (.ifCond .eq 7, 3) := by decide +kernel
theorem dX6_askOf_58 : decode cX6_askOf 58 = .ok (.iconst 1, 1) := by decide +kernel
theorem dX6_askOf_59 : decode cX6_askOf 59 = .ok (.goto 4, 3) := by decide +kernel
theorem dX6_askOf_62 : decode cX6_askOf 62 = .ok (.iconst 0, 1) := by decide +kernel
theorem dX6_askOf_63 : decode cX6_askOf 63 = .ok (.iadd, 1) := by decide +kernel
theorem dX6_askOf_64 : decode cX6_askOf 64 = .ok (.istore 6, 2) := by decide +kernel
theorem dX6_askOf_66 : decode cX6_askOf 66 = .ok (.iinc 7 1, 3) := by decide +kernel
theorem dX6_askOf_69 : decode cX6_askOf 69 = .ok (.goto (-38), 3) := by decide +kernel
theorem dX6_askOf_72 : decode cX6_askOf 72 = .ok (.iload_n 2, 1) := by decide +kernel
theorem dX6_askOf_73 : decode cX6_askOf 73 = .ok (.invokestatic 154, 3) := by decide +kernel
theorem dX6_askOf_76 : decode cX6_askOf 76 = .ok (.iload 6, 2) := by decide +kernel
theorem dX6_askOf_78 : decode cX6_askOf 78 = .ok (.isub, 1) := by decide +kernel
theorem dX6_askOf_79 : decode cX6_askOf 79 = .ok (.istore 7, 2) := by decide +kernel
theorem dX6_askOf_81 : decode cX6_askOf 81 = .ok (.iload 6, 2) := by decide +kernel
theorem dX6_askOf_83 : decode cX6_askOf 83 = .ok (.iload 7, 2) := by decide +kernel
theorem dX6_askOf_85 : decode cX6_askOf 85 = .ok (.if_icmp .le 8, 3) := by decide +kernel
theorem dX6_askOf_88 : decode cX6_askOf 88 = .ok (.iload 6, 2) := by decide +kernel
theorem dX6_askOf_90 : decode cX6_askOf 90 = .ok (.goto 5, 3) := by decide +kernel
theorem dX6_askOf_93 : decode cX6_askOf 93 = .ok (.iload 7, 2) := by decide +kernel
theorem dX6_askOf_95 : decode cX6_askOf 95 = .ok (.istore 8, 2) := by decide +kernel
theorem dX6_askOf_97 : decode cX6_askOf 97 = .ok (.iload 8, 2) := by decide +kernel
theorem dX6_askOf_99 : decode cX6_askOf 99 = .ok (.iload 4, 2) := by decide +kernel
theorem dX6_askOf_101 : decode cX6_askOf 101 = .ok (.if_icmp .ge 8, 3) := by decide +kernel
theorem dX6_askOf_104 : decode cX6_askOf 104 = .ok (.iload 5, 2) := by decide +kernel
theorem dX6_askOf_106 : decode cX6_askOf 106 = .ok (.goto 4, 3) := by decide +kernel
theorem dX6_askOf_109 : decode cX6_askOf 109 = .ok (.iload_n 3, 1) := by decide +kernel
theorem dX6_askOf_110 : decode cX6_askOf 110 = .ok (.istore_n 3, 1) := by decide +kernel
theorem dX6_askOf_111 : decode cX6_askOf 111 = .ok (.iload 8, 2) := by decide +kernel
theorem dX6_askOf_113 : decode cX6_askOf 113 = .ok (.iload 4, 2) := by decide +kernel
theorem dX6_askOf_115 : decode cX6_askOf 115 = .ok (.if_icmp .ge 8, 3) := by decide +kernel
theorem dX6_askOf_118 : decode cX6_askOf 118 = .ok (.iload 8, 2) := by decide +kernel
theorem dX6_askOf_120 : decode cX6_askOf 120 = .ok (.goto 5, 3) := by decide +kernel
theorem dX6_askOf_123 : decode cX6_askOf 123 = .ok (.iload 4, 2) := by decide +kernel
theorem dX6_askOf_125 : decode cX6_askOf 125 = .ok (.istore 4, 2) := by decide +kernel
theorem dX6_askOf_127 : decode cX6_askOf 127 = .ok (.iinc 5 1, 3) := by decide +kernel
theorem dX6_askOf_130 : decode cX6_askOf 130 = .ok (.goto (-115), 3) := by decide +kernel
theorem dX6_askOf_133 : decode cX6_askOf 133 = .ok (.iload_n 3, 1) := by decide +kernel
theorem dX6_askOf_134 : decode cX6_askOf 134 = .ok (.ireturn, 1) := by decide +kernel
theorem dX6_draw_0 : decode cX6_draw 0 = .ok (.aload_n 0, 1) := by decide +kernel
theorem dX6_draw_1 : decode cX6_draw 1 = .ok (.ldc2_w 228, 3) := by decide +kernel
theorem dX6_draw_4 : decode cX6_draw 4 = .ok (.aload_n 0, 1) := by decide +kernel
theorem dX6_draw_5 : decode cX6_draw 5 = .ok (.getfield 230, 3) := by decide +kernel
theorem dX6_draw_8 : decode cX6_draw 8 = .ok (.lmul, 1) := by decide +kernel
theorem dX6_draw_9 : decode cX6_draw 9 = .ok (.ldc2_w 234, 3) := by decide +kernel
theorem dX6_draw_12 : decode cX6_draw 12 = .ok (.ladd, 1) := by decide +kernel
theorem dX6_draw_13 : decode cX6_draw 13 = .ok (.ldc2_w 236, 3) := by decide +kernel
theorem dX6_draw_16 : decode cX6_draw 16 = .ok (.land, 1) := by decide +kernel
theorem dX6_draw_17 : decode cX6_draw 17 = .ok (.putfield 230, 3) := by decide +kernel
theorem dX6_draw_20 : decode cX6_draw 20 = .ok (.aload_n 0, 1) := by decide +kernel
theorem dX6_draw_21 : decode cX6_draw 21 = .ok (.getfield 230, 3) := by decide +kernel
theorem dX6_draw_24 : decode cX6_draw 24 = .ok (.ldc2_w 238, 3) := by decide +kernel
theorem dX6_draw_27 : decode cX6_draw 27 = .ok (.ldiv, 1) := by decide +kernel
theorem dX6_draw_28 : decode cX6_draw 28 = .ok (.iload_n 1, 1) := by decide +kernel
theorem dX6_draw_29 : decode cX6_draw 29 = .ok (.i2l, 1) := by decide +kernel
theorem dX6_draw_30 : decode cX6_draw 30 = .ok (.lrem, 1) := by decide +kernel
theorem dX6_draw_31 : decode cX6_draw 31 = .ok (.l2i, 1) := by decide +kernel
theorem dX6_draw_32 : decode cX6_draw 32 = .ok (.ireturn, 1) := by decide +kernel
set_option maxRecDepth 20000 in
theorem ggX6_codeBy_X6_nextCode : GoodIn wsX6_codeBy wsX6_nextCode := goodIn_r _ [6, 1, 7, 8, 9, 10, 5, 11, 12, 13, 14, 15, 16, 17, 18, 19, 20, 21, 22, 23, 24, 25, 26, 27, 28, 29, 30, 31, 32, 33, 34, 35, 36, 37, 38, 39, 40, 41, 42, 43, 44, 45, 46, 47, 48, 49, 50, 51, 52, 53, 54, 55, 56, 57, 58, 59, 60, 61, 62, 63, 64, 65, 66, 67, 68, 69, 70, 71, 72, 73, 74, 75, 76, 77, 78] (by decide +kernel) (by decide +kernel)
set_option maxRecDepth 20000 in
theorem gX6_codeBy_X6_nextCode : GoodIn wsX6_codeBy (wsV RX6 197 RX6 yX6_nextCode wsX6_nextCode) := goodIn_app (goodIn_of _ (by decide +kernel)) ggX6_codeBy_X6_nextCode
theorem dX6_codeBy_0 : decode cX6_codeBy 0 = .ok (.aload_n 0, 1) := by decide +kernel
theorem dX6_codeBy_1 : decode cX6_codeBy 1 = .ok (.getfield 32, 3) := by decide +kernel
theorem dX6_codeBy_4 : decode cX6_codeBy 4 = .ok (.iload_n 1, 1) := by decide +kernel
theorem dX6_codeBy_5 : decode cX6_codeBy 5 = .ok (.iconst 0, 1) := by decide +kernel
theorem dX6_codeBy_6 : decode cX6_codeBy 6 = .ok (.iastore, 1) := by decide +kernel
theorem dX6_codeBy_7 : decode cX6_codeBy 7 = .ok (.aload_n 0, 1) := by decide +kernel
theorem dX6_codeBy_8 : decode cX6_codeBy 8 = .ok (.iload_n 1, 1) := by decide +kernel
theorem dX6_codeBy_9 : decode cX6_codeBy 9 = .ok (.invokevirtual 197, 3) := by decide +kernel
theorem dX6_codeBy_12 : decode cX6_codeBy 12 = .ok (.istore_n 3, 1) := by decide +kernel
theorem dX6_codeBy_13 : decode cX6_codeBy 13 = .ok (.iconst 0, 1) := by decide +kernel
theorem dX6_codeBy_14 : decode cX6_codeBy 14 = .ok (.istore 4, 2) := by decide +kernel
theorem dX6_codeBy_16 : decode cX6_codeBy 16 = .ok (.iload 4, 2) := by decide +kernel
theorem dX6_codeBy_18 : decode cX6_codeBy 18 = .ok (.iload_n 2, 1) := by decide +kernel
theorem dX6_codeBy_19 : decode cX6_codeBy 19 = .ok (.if_icmp .ge 15, 3) := by decide +kernel
theorem dX6_codeBy_22 : decode cX6_codeBy 22 = .ok (.aload_n 0, 1) := by decide +kernel
theorem dX6_codeBy_23 : decode cX6_codeBy 23 = .ok (.iload_n 1, 1) := by decide +kernel
theorem dX6_codeBy_24 : decode cX6_codeBy 24 = .ok (.invokevirtual 197, 3) := by decide +kernel
theorem dX6_codeBy_27 : decode cX6_codeBy 27 = .ok (.istore_n 3, 1) := by decide +kernel
theorem dX6_codeBy_28 : decode cX6_codeBy 28 = .ok (.iinc 4 1, 3) := by decide +kernel
theorem dX6_codeBy_31 : decode cX6_codeBy 31 = .ok (.goto (-15), 3) := by decide +kernel
theorem dX6_codeBy_34 : decode cX6_codeBy 34 = .ok (.iload_n 3, 1) := by decide +kernel
theorem dX6_codeBy_35 : decode cX6_codeBy 35 = .ok (.ireturn, 1) := by decide +kernel
set_option maxRecDepth 20000 in
theorem ggX6_runsNow_X6_putDeep : GoodIn wsX6_runsNow wsX6_putDeep := goodIn_r _ [6, 7, 8, 9, 76, 77, 78, 79, 80, 81, 82, 83, 84, 85, 86, 87, 88, 89, 90, 91, 92, 93, 94, 95, 96, 97, 98, 99, 100, 101, 102, 103, 104, 105, 106, 107, 108, 109, 110, 111, 112, 113, 114, 115] (by decide +kernel) (by decide +kernel)
set_option maxRecDepth 20000 in
theorem gX6_runsNow_X6_putDeep : GoodIn wsX6_runsNow (wsV RX6 157 RX6 yX6_putDeep wsX6_putDeep) := goodIn_app (goodIn_of _ (by decide +kernel)) ggX6_runsNow_X6_putDeep
set_option maxRecDepth 20000 in
theorem ggX6_runsNow_X6_jumpsNow : GoodIn wsX6_runsNow wsX6_jumpsNow := goodIn_r _ [13, 8, 14, 15, 16, 5, 17, 18, 19, 20, 21, 22, 23, 24, 25, 26, 27, 28, 29, 30, 31, 7, 32, 33, 34, 35, 36, 37, 38, 39, 40, 41, 42, 43, 44, 45, 46, 47, 48, 49, 50, 76, 77, 78, 79, 80, 81, 82, 83, 84, 85, 86, 87, 88, 89, 90, 91, 92, 93, 94, 95, 96, 97, 98, 99, 100, 101, 102, 103, 104, 105, 106, 107, 108, 109, 110, 111, 112, 113, 114, 115] (by decide +kernel) (by decide +kernel)
set_option maxRecDepth 20000 in
theorem gX6_runsNow_X6_jumpsNow : GoodIn wsX6_runsNow (wsV RX6 240 RX6 yX6_jumpsNow wsX6_jumpsNow) := goodIn_app (goodIn_of _ (by decide +kernel)) ggX6_runsNow_X6_jumpsNow
set_option maxRecDepth 20000 in
theorem ggX6_runsNow_X6_draw : GoodIn wsX6_runsNow wsX6_draw := goodIn_r _ [54, 55, 1, 56, 57, 58, 76, 77, 78, 79, 80, 81, 82, 83, 84, 85, 86, 87, 88, 89, 90, 91, 92, 93, 94, 95, 96, 97, 98, 99, 100, 101, 102, 103, 104, 105, 106, 107, 108, 109, 110, 111, 112, 113, 114, 115] (by decide +kernel) (by decide +kernel)
set_option maxRecDepth 20000 in
theorem gX6_runsNow_X6_draw : GoodIn wsX6_runsNow (wsV RX6 243 RX6 yX6_draw wsX6_draw) := goodIn_app (goodIn_of _ (by decide +kernel)) ggX6_runsNow_X6_draw
set_option maxRecDepth 20000 in
theorem ggX6_runsNow_X6_codeBy : GoodIn wsX6_runsNow wsX6_codeBy := goodIn_r _ [62, 63, 64, 65, 66, 5, 67, 8, 18, 19, 20, 21, 22, 23, 24, 25, 26, 27, 28, 29, 30, 31, 7, 32, 33, 34, 35, 36, 37, 38, 39, 40, 41, 42, 43, 44, 45, 46, 47, 76, 77, 78, 79, 80, 81, 82, 83, 84, 85, 86, 87, 88, 89, 90, 91, 92, 93, 94, 95, 96, 97, 98, 99, 100, 101, 102, 103, 104, 105, 106, 107, 108, 109, 110, 111, 112, 113, 114, 115] (by decide +kernel) (by decide +kernel)
set_option maxRecDepth 20000 in
theorem gX6_runsNow_X6_codeBy : GoodIn wsX6_runsNow (wsV RX6 246 RX6 yX6_codeBy wsX6_codeBy) := goodIn_app (goodIn_of _ (by decide +kernel)) ggX6_runsNow_X6_codeBy
set_option maxRecDepth 20000 in
theorem ggX6_runsNow_X6_goDeep : GoodIn wsX6_runsNow wsX6_goDeep := goodIn_r _ [71, 7, 33, 28, 29, 30, 5, 31, 32, 23, 34, 35, 36, 37, 38, 39, 40, 8, 41, 42, 43, 44, 45, 46, 47, 76, 77, 78, 79, 80, 81, 82, 83, 84, 85, 86, 87, 88, 89, 90, 91, 92, 93, 94, 95, 96, 97, 98, 99, 100, 101, 102, 103, 104, 105, 106, 107, 108, 109, 110, 111, 112, 113, 114, 115] (by decide +kernel) (by decide +kernel)
set_option maxRecDepth 20000 in
theorem gX6_runsNow_X6_goDeep : GoodIn wsX6_runsNow (wsV RX6 179 RX6 yX6_goDeep wsX6_goDeep) := goodIn_app (goodIn_of _ (by decide +kernel)) ggX6_runsNow_X6_goDeep
set_option maxRecDepth 20000 in
theorem ggX6_runsNow_X6_onBoard : GoodIn wsX6_runsNow wsX6_onBoard := goodIn_r _ [75, 8, 7, 76, 77, 78, 79, 80, 81, 82, 83, 84, 85, 86, 87, 88, 89, 90, 91, 92, 93, 94, 95, 96, 97, 98, 99, 100, 101, 102, 103, 104, 105, 106, 107, 108, 109, 110, 111, 112, 113, 114, 115] (by decide +kernel) (by decide +kernel)
set_option maxRecDepth 20000 in
theorem gX6_runsNow_X6_onBoard : GoodIn wsX6_runsNow (wsV RX6 183 RX6 yX6_onBoard wsX6_onBoard) := goodIn_app (goodIn_of _ (by decide +kernel)) ggX6_runsNow_X6_onBoard
theorem dX6_runsNow_0 : decode cX6_runsNow 0 = .ok (.aload_n 0, 1) := by decide +kernel
theorem dX6_runsNow_1 : decode cX6_runsNow 1 = .ok (.iload_n 2, 1) := by decide +kernel
theorem dX6_runsNow_2 : decode cX6_runsNow 2 = .ok (.i2l, 1) := by decide +kernel
theorem dX6_runsNow_3 : decode cX6_runsNow 3 = .ok (.putfield 230, 3) := by decide +kernel
theorem dX6_runsNow_6 : decode cX6_runsNow 6 = .ok (.iconst 0, 1) := by decide +kernel
theorem dX6_runsNow_7 : decode cX6_runsNow 7 = .ok (.istore 4, 2) := by decide +kernel
theorem dX6_runsNow_9 : decode cX6_runsNow 9 = .ok (.iconst 0, 1) := by decide +kernel
theorem dX6_runsNow_10 : decode cX6_runsNow 10 = .ok (.istore 5, 2) := by decide +kernel
theorem dX6_runsNow_12 : decode cX6_runsNow 12 = .ok (.iconst 0, 1) := by decide +kernel
theorem dX6_runsNow_13 : decode cX6_runsNow 13 = .ok (.istore 6, 2) := by decide +kernel
theorem dX6_runsNow_15 : decode cX6_runsNow 15 = .ok (.iload 6, 2) := by decide +kernel
theorem dX6_runsNow_17 : decode cX6_runsNow 17 = .ok (.iload_n 1, 1) := by decide +kernel
theorem dX6_runsNow_18 : decode cX6_runsNow 18 = .ok (.if_icmp .ge 95, 3) := by decide +kernel
theorem dX6_runsNow_21 : decode cX6_runsNow 21 = .ok (.aload_n 0, 1) := by decide +kernel
theorem dX6_runsNow_22 : decode cX6_runsNow 22 = .ok (.invokevirtual 157, 3) := by decide +kernel
theorem dX6_runsNow_25 : decode cX6_runsNow 25 = .ok (.iconst 0, 1) := by decide +kernel
theorem dX6_runsNow_26 : decode cX6_runsNow 26 = .ok (.istore 7, 2) := by decide +kernel
theorem dX6_runsNow_28 : decode cX6_runsNow 28 = .ok (.aload_n 0, 1) := by decide +kernel
theorem dX6_runsNow_29 : decode cX6_runsNow 29 = .ok (.iconst 0, 1) := by decide +kernel
theorem dX6_runsNow_30 : decode cX6_runsNow 30 = .ok (.invokevirtual 240, 3) := by decide +kernel
theorem dX6_runsNow_33 : decode cX6_runsNow 33 = .ok (.istore 8, 2) := by decide +kernel
theorem dX6_runsNow_35 : decode cX6_runsNow 35 = .ok (.iload 8, 2) := by decide +kernel
theorem dX6_runsNow_37 : decode cX6_runsNow 37 = .ok (.ifCond .le 50, 3) := by decide +kernel
theorem dX6_runsNow_40 : decode cX6_runsNow 40 = .ok (.aload_n 0, 1) := by decide +kernel
theorem dX6_runsNow_41 : decode cX6_runsNow 41 = .ok (.iload 7, 2) := by decide +kernel
theorem dX6_runsNow_43 : decode cX6_runsNow 43 = .ok (.aload_n 0, 1) := by decide +kernel
theorem dX6_runsNow_44 : decode cX6_runsNow 44 = .ok (.iload 8, 2) := by decide +kernel
theorem dX6_runsNow_46 : decode cX6_runsNow 46 = .ok (.invokevirtual 243, 3) := by decide +kernel
theorem dX6_runsNow_49 : decode cX6_runsNow 49 = .ok (.invokevirtual 246, 3) := by decide +kernel
theorem dX6_runsNow_52 : decode cX6_runsNow 52 = .ok (.istore 9, 2) := by decide +kernel
theorem dX6_runsNow_54 : decode cX6_runsNow 54 = .ok (.aload_n 0, 1) := by decide +kernel
theorem dX6_runsNow_55 : decode cX6_runsNow 55 = .ok (.iload 7, 2) := by decide +kernel
theorem dX6_runsNow_57 : decode cX6_runsNow 57 = .ok (.iload 9, 2) := by decide +kernel
theorem dX6_runsNow_59 : decode cX6_runsNow 59 = .ok (.bipush 12, 2) := by decide +kernel
theorem dX6_runsNow_61 : decode cX6_runsNow 61 = .ok (.idiv, 1) := by decide +kernel
theorem dX6_runsNow_62 : decode cX6_runsNow 62 = .ok (.iload 9, 2) := by decide +kernel
theorem dX6_runsNow_64 : decode cX6_runsNow 64 = .ok (.bipush 12, 2) := by decide +kernel
theorem dX6_runsNow_66 : decode cX6_runsNow 66 = .ok (.irem, 1) := by decide +kernel
theorem dX6_runsNow_67 : decode cX6_runsNow 67 = .ok (.invokevirtual 179, 3) := by decide +kernel
theorem dX6_runsNow_70 : decode cX6_runsNow 70 = .ok (.iinc 7 1, 3) := by decide +kernel
theorem dX6_runsNow_73 : decode cX6_runsNow 73 = .ok (.iinc 4 1, 3) := by decide +kernel
theorem dX6_runsNow_76 : decode cX6_runsNow 76 = .ok (.aload_n 0, 1) := by decide +kernel
theorem dX6_runsNow_77 : decode cX6_runsNow 77 = .ok (.iload 7, 2) := by decide +kernel
theorem dX6_runsNow_79 : decode cX6_runsNow 79 = .ok (.invokevirtual 240, 3) := by decide +kernel
theorem dX6_runsNow_82 : decode cX6_runsNow 82 = .ok (.istore 8, 2) := by decide +kernel
theorem dX6_runsNow_84 : decode cX6_runsNow 84 = .ok (.goto (-49), 3) := by decide +kernel
theorem dX6_runsNow_87 : decode cX6_runsNow 87 = .ok (.iload 5, 2) := by decide +kernel
theorem dX6_runsNow_89 : decode cX6_runsNow 89 = .ok (.aload_n 0, 1) := by decide +kernel
theorem dX6_runsNow_90 : decode cX6_runsNow 90 = .ok (.iload 7, 2) := by decide +kernel
theorem dX6_runsNow_92 : decode cX6_runsNow 92 = .ok (.invokevirtual 183, 3) := by decide +kernel
theorem dX6_runsNow_95 : decode cX6_runsNow 95 = .ok (.iconst 1, 1) := by decide +kernel
theorem dX6_runsNow_96 : decode cX6_runsNow 96 = .ok (.if_icmp .ne 7, 3) := by decide +kernel
theorem dX6_runsNow_99 : decode cX6_runsNow 99 = .ok (.iconst 1, 1) := by decide +kernel
theorem dX6_runsNow_100 : decode cX6_runsNow 100 = .ok (.goto 4, 3) := by decide +kernel
theorem dX6_runsNow_103 : decode cX6_runsNow 103 = .ok (.iconst 0, 1) := by decide +kernel
theorem dX6_runsNow_104 : decode cX6_runsNow 104 = .ok (.iadd, 1) := by decide +kernel
theorem dX6_runsNow_105 : decode cX6_runsNow 105 = .ok (.istore 5, 2) := by decide +kernel
theorem dX6_runsNow_107 : decode cX6_runsNow 107 = .ok (.iinc 6 1, 3) := by decide +kernel
theorem dX6_runsNow_110 : decode cX6_runsNow 110 = .ok (.goto (-95), 3) := by decide +kernel
theorem dX6_runsNow_113 : decode cX6_runsNow 113 = .ok (.iload_n 3, 1) := by decide +kernel
theorem dX6_runsNow_114 : decode cX6_runsNow 114 = .ok (.ifCond .ne 8, 3) := by decide +kernel
theorem dX6_runsNow_117 : decode cX6_runsNow 117 = .ok (.iload 4, 2) := by decide +kernel
theorem dX6_runsNow_119 : decode cX6_runsNow 119 = .ok (.goto 18, 3) := by decide +kernel
theorem dX6_runsNow_122 : decode cX6_runsNow 122 = .ok (.iload_n 3, 1) := by decide +kernel
theorem dX6_runsNow_123 : decode cX6_runsNow 123 = .ok (.iconst 1, 1) := by decide +kernel
theorem dX6_runsNow_124 : decode cX6_runsNow 124 = .ok (.if_icmp .ne 8, 3) := by decide +kernel
theorem dX6_runsNow_127 : decode cX6_runsNow 127 = .ok (.iload 5, 2) := by decide +kernel
theorem dX6_runsNow_129 : decode cX6_runsNow 129 = .ok (.goto 8, 3) := by decide +kernel
theorem dX6_runsNow_132 : decode cX6_runsNow 132 = .ok (.aload_n 0, 1) := by decide +kernel
theorem dX6_runsNow_133 : decode cX6_runsNow 133 = .ok (.getfield 230, 3) := by decide +kernel
theorem dX6_runsNow_136 : decode cX6_runsNow 136 = .ok (.l2i, 1) := by decide +kernel
theorem dX6_runsNow_137 : decode cX6_runsNow 137 = .ok (.ireturn, 1) := by decide +kernel
set_option maxRecDepth 20000 in
theorem ggX6_runs_X6_within : GoodIn wsX6_runs wsX6_within := goodIn_r _ [5] (by decide +kernel) (by decide +kernel)
set_option maxRecDepth 20000 in
theorem gX6_runs_X6_within : GoodIn wsX6_runs (va_wsS RX6 77 yX6_within wsX6_within) := goodIn_app (goodIn_of _ (by decide +kernel)) ggX6_runs_X6_within
set_option maxRecDepth 20000 in
theorem ggX6_runs_X6_runsNow : GoodIn wsX6_runs wsX6_runsNow := goodIn_r _ [9, 10, 11, 12, 13, 4, 14, 15, 1, 16, 17, 18, 19, 20, 21, 22, 23, 24, 25, 26, 27, 28, 29, 30, 31, 32, 33, 34, 35, 36, 37, 38, 39, 40, 41, 42, 43, 44, 45, 46, 47, 48, 49, 50, 51, 52, 53, 54, 55, 56, 57, 58, 59, 60, 61, 62, 63, 64, 65, 66, 67, 68, 69, 70, 71, 72, 73, 74, 75, 76, 77, 78, 79, 80, 81, 82, 83, 84, 85, 86, 87, 88, 89, 90, 91, 92, 93, 94, 95, 96, 97, 98, 99, 100, 101, 102, 103, 104, 105, 106, 107, 108, 109, 110, 111, 112, 113, 114, 115, 116, 117, 118, 119, 120, 121, 122] (by decide +kernel) (by decide +kernel)
set_option maxRecDepth 20000 in
theorem gX6_runs_X6_runsNow : GoodIn wsX6_runs (wsV RX6 249 RX6 yX6_runsNow wsX6_runsNow) := goodIn_app (goodIn_of _ (by decide +kernel)) ggX6_runs_X6_runsNow
theorem dX6_runs_0 : decode cX6_runs 0 = .ok (.iload_n 1, 1) := by decide +kernel
theorem dX6_runs_1 : decode cX6_runs 1 = .ok (.iconst 1, 1) := by decide +kernel
theorem dX6_runs_2 : decode cX6_runs 2 = .ok (.bipush 40, 2) := by decide +kernel
theorem dX6_runs_4 : decode cX6_runs 4 = .ok (.invokestatic 77, 3) := by decide +kernel
theorem dX6_runs_7 : decode cX6_runs 7 = .ok (.ifCond .eq 16, 3) := by decide +kernel
theorem dX6_runs_10 : decode cX6_runs 10 = .ok (.iload_n 2, 1) := by decide +kernel
theorem dX6_runs_11 : decode cX6_runs 11 = .ok (.ifCond .lt 12, 3) := by decide +kernel
theorem dX6_runs_14 : decode cX6_runs 14 = .ok (.iload_n 3, 1) := by decide +kernel
theorem dX6_runs_15 : decode cX6_runs 15 = .ok (.iconst 0, 1) := by decide +kernel
theorem dX6_runs_16 : decode cX6_runs 16 = .ok (.iconst 2, 1) := by decide +kernel
theorem dX6_runs_17 : decode cX6_runs 17 = .ok (.invokestatic 77, 3) := by decide +kernel
theorem dX6_runs_20 : decode cX6_runs 20 = .ok (.ifCond .ne 6, 3) := by decide +kernel
theorem dX6_runs_23 : decode cX6_runs 23 = .ok (.bipush (-102), 2) := by decide +kernel
theorem dX6_runs_25 : decode cX6_runs 25 = .ok (.ireturn, 1) := by decide +kernel
theorem dX6_runs_26 : decode cX6_runs 26 = .ok (.aload_n 0, 1) := by decide +kernel
theorem dX6_runs_27 : decode cX6_runs 27 = .ok (.getfield 115, 3) := by decide +kernel
theorem dX6_runs_30 : decode cX6_runs 30 = .ok (.ifCond .ne 8, 3) := by decide +kernel
theorem dX6_runs_33 : decode cX6_runs 33 = .ok (.bipush (-103), 2) := by decide +kernel
theorem dX6_runs_35 : decode cX6_runs 35 = .ok (.goto 10, 3) := by decide +kernel
theorem dX6_runs_38 : decode cX6_runs 38 = .ok (.aload_n 0, 1) := by decide +kernel
theorem dX6_runs_39 : decode cX6_runs 39 = .ok (.iload_n 1, 1) := by decide +kernel
theorem dX6_runs_40 : decode cX6_runs 40 = .ok (.iload_n 2, 1) := by decide +kernel
theorem dX6_runs_41 : decode cX6_runs 41 = .ok (.iload_n 3, 1) := by decide +kernel
theorem dX6_runs_42 : decode cX6_runs 42 = .ok (.invokevirtual 249, 3) := by decide +kernel
theorem dX6_runs_45 : decode cX6_runs 45 = .ok (.ireturn, 1) := by decide +kernel
theorem dX6_image_0 : decode cX6_image 0 = .ok (.aload_n 0, 1) := by decide +kernel
theorem dX6_image_1 : decode cX6_image 1 = .ok (.getfield 115, 3) := by decide +kernel
theorem dX6_image_4 : decode cX6_image 4 = .ok (.ifCond .ne 6, 3) := by decide +kernel
theorem dX6_image_7 : decode cX6_image 7 = .ok (.bipush (-103), 2) := by decide +kernel
theorem dX6_image_9 : decode cX6_image 9 = .ok (.ireturn, 1) := by decide +kernel
theorem dX6_image_10 : decode cX6_image 10 = .ok (.aload_n 0, 1) := by decide +kernel
theorem dX6_image_11 : decode cX6_image 11 = .ok (.iconst 1, 1) := by decide +kernel
theorem dX6_image_12 : decode cX6_image 12 = .ok (.putfield 252, 3) := by decide +kernel
theorem dX6_image_15 : decode cX6_image 15 = .ok (.aload_n 0, 1) := by decide +kernel
theorem dX6_image_16 : decode cX6_image 16 = .ok (.aload_n 0, 1) := by decide +kernel
theorem dX6_image_17 : decode cX6_image 17 = .ok (.getfield 124, 3) := by decide +kernel
theorem dX6_image_20 : decode cX6_image 20 = .ok (.putfield 255, 3) := by decide +kernel
theorem dX6_image_23 : decode cX6_image 23 = .ok (.aload_n 0, 1) := by decide +kernel
theorem dX6_image_24 : decode cX6_image 24 = .ok (.aload_n 0, 1) := by decide +kernel
theorem dX6_image_25 : decode cX6_image 25 = .ok (.getfield 112, 3) := by decide +kernel
theorem dX6_image_28 : decode cX6_image 28 = .ok (.putfield 258, 3) := by decide +kernel
theorem dX6_image_31 : decode cX6_image 31 = .ok (.aload_n 0, 1) := by decide +kernel
theorem dX6_image_32 : decode cX6_image 32 = .ok (.aload_n 0, 1) := by decide +kernel
theorem dX6_image_33 : decode cX6_image 33 = .ok (.getfield 121, 3) := by decide +kernel
theorem dX6_image_36 : decode cX6_image 36 = .ok (.putfield 261, 3) := by decide +kernel
theorem dX6_image_39 : decode cX6_image 39 = .ok (.aload_n 0, 1) := by decide +kernel
theorem dX6_image_40 : decode cX6_image 40 = .ok (.aload_n 0, 1) := by decide +kernel
theorem dX6_image_41 : decode cX6_image 41 = .ok (.getfield 127, 3) := by decide +kernel
theorem dX6_image_44 : decode cX6_image 44 = .ok (.putfield 264, 3) := by decide +kernel
theorem dX6_image_47 : decode cX6_image 47 = .ok (.iconst 0, 1) := by decide +kernel
theorem dX6_image_48 : decode cX6_image 48 = .ok (.istore_n 1, 1) := by decide +kernel
theorem dX6_image_49 : decode cX6_image 49 = .ok (.iload_n 1, 1) := by decide +kernel
theorem dX6_image_50 : decode cX6_image 50 = .ok (.bipush 7, 2) := by decide +kernel
theorem dX6_image_52 : decode cX6_image 52 = .ok (.if_icmp .ge 33, 3) := by decide +kernel
theorem dX6_image_55 : decode cX6_image 55 = .ok (.aload_n 0, 1) := by decide +kernel
theorem dX6_image_56 : decode cX6_image 56 = .ok (.getfield 62, 3) := by decide +kernel
theorem dX6_image_59 : decode cX6_image 59 = .ok (.iload_n 1, 1) := by decide +kernel
theorem dX6_image_60 : decode cX6_image 60 = .ok (.aload_n 0, 1) := by decide +kernel
theorem dX6_image_61 : decode cX6_image 61 = .ok (.getfield 7, 3) := by decide +kernel
theorem dX6_image_64 : decode cX6_image 64 = .ok (.iload_n 1, 1) := by decide +kernel
theorem dX6_image_65 : decode cX6_image 65 = .ok (.iaload, 1) := by decide +kernel
theorem dX6_image_66 : decode cX6_image 66 = .ok (.iastore, 1) := by decide +kernel
theorem dX6_image_67 : decode cX6_image 67 = .ok (.aload_n 0, 1) := by decide +kernel
theorem dX6_image_68 : decode cX6_image 68 = .ok (.getfield 65, 3) := by decide +kernel
theorem dX6_image_71 : decode cX6_image 71 = .ok (.iload_n 1, 1) := by decide +kernel
theorem dX6_image_72 : decode cX6_image 72 = .ok (.aload_n 0, 1) := by decide +kernel
theorem dX6_image_73 : decode cX6_image 73 = .ok (.getfield 13, 3) := by decide +kernel
theorem dX6_image_76 : decode cX6_image 76 = .ok (.iload_n 1, 1) := by decide +kernel
theorem dX6_image_77 : decode cX6_image 77 = .ok (.iaload, 1) := by decide +kernel
theorem dX6_image_78 : decode cX6_image 78 = .ok (.iastore, 1) := by decide +kernel
theorem dX6_image_79 : decode cX6_image 79 = .ok (.iinc 1 1, 3) := by decide +kernel
theorem dX6_image_82 : decode cX6_image 82 = .ok (.goto (-33), 3) := by decide +kernel
theorem dX6_image_85 : decode cX6_image 85 = .ok (.iconst 0, 1) := by decide +kernel
theorem dX6_image_86 : decode cX6_image 86 = .ok (.istore_n 1, 1) := by decide +kernel
theorem dX6_image_87 : decode cX6_image 87 = .ok (.iload_n 1, 1) := by decide +kernel
theorem dX6_image_88 : decode cX6_image 88 = .ok (.bipush 6, 2) := by decide +kernel
theorem dX6_image_90 : decode cX6_image 90 = .ok (.if_icmp .ge 45, 3) := by decide +kernel
theorem dX6_image_93 : decode cX6_image 93 = .ok (.aload_n 0, 1) := by decide +kernel
theorem dX6_image_94 : decode cX6_image 94 = .ok (.getfield 68, 3) := by decide +kernel
theorem dX6_image_97 : decode cX6_image 97 = .ok (.iload_n 1, 1) := by decide +kernel
theorem dX6_image_98 : decode cX6_image 98 = .ok (.aload_n 0, 1) := by decide +kernel
theorem dX6_image_99 : decode cX6_image 99 = .ok (.getfield 16, 3) := by decide +kernel
theorem dX6_image_102 : decode cX6_image 102 = .ok (.iload_n 1, 1) := by decide +kernel
theorem dX6_image_103 : decode cX6_image 103 = .ok (.iaload, 1) := by decide +kernel
theorem dX6_image_104 : decode cX6_image 104 = .ok (.iastore, 1) := by decide +kernel
theorem dX6_image_105 : decode cX6_image 105 = .ok (.aload_n 0, 1) := by decide +kernel
theorem dX6_image_106 : decode cX6_image 106 = .ok (.getfield 71, 3) := by decide +kernel
theorem dX6_image_109 : decode cX6_image 109 = .ok (.iload_n 1, 1) := by decide +kernel
theorem dX6_image_110 : decode cX6_image 110 = .ok (.aload_n 0, 1) := by decide +kernel
theorem dX6_image_111 : decode cX6_image 111 = .ok (.getfield 19, 3) := by decide +kernel
theorem dX6_image_114 : decode cX6_image 114 = .ok (.iload_n 1, 1) := by decide +kernel
theorem dX6_image_115 : decode cX6_image 115 = .ok (.iaload, 1) := by decide +kernel
theorem dX6_image_116 : decode cX6_image 116 = .ok (.iastore, 1) := by decide +kernel
theorem dX6_image_117 : decode cX6_image 117 = .ok (.aload_n 0, 1) := by decide +kernel
theorem dX6_image_118 : decode cX6_image 118 = .ok (.getfield 74, 3) := by decide +kernel
theorem dX6_image_121 : decode cX6_image 121 = .ok (.iload_n 1, 1) := by decide +kernel
theorem dX6_image_122 : decode cX6_image 122 = .ok (.aload_n 0, 1) := by decide +kernel
theorem dX6_image_123 : decode cX6_image 123 = .ok (.getfield 22, 3) := by decide +kernel
theorem dX6_image_126 : decode cX6_image 126 = .ok (.iload_n 1, 1) := by decide +kernel
theorem dX6_image_127 : decode cX6_image 127 = .ok (.iaload, 1) := by decide +kernel
theorem dX6_image_128 : decode cX6_image 128 = .ok (.iastore, 1) := by decide +kernel
theorem dX6_image_129 : decode cX6_image 129 = .ok (.iinc 1 1, 3) := by decide +kernel
theorem dX6_image_132 : decode cX6_image 132 = .ok (.goto (-45), 3) := by decide +kernel
theorem dX6_image_135 : decode cX6_image 135 = .ok (.aload_n 0, 1) := by decide +kernel
theorem dX6_image_136 : decode cX6_image 136 = .ok (.getfield 121, 3) := by decide +kernel
theorem dX6_image_139 : decode cX6_image 139 = .ok (.ireturn, 1) := by decide +kernel
theorem dX6_restore_0 : decode cX6_restore 0 = .ok (.aload_n 0, 1) := by decide +kernel
theorem dX6_restore_1 : decode cX6_restore 1 = .ok (.getfield 252, 3) := by decide +kernel
theorem dX6_restore_4 : decode cX6_restore 4 = .ok (.ifCond .eq 14, 3) := by decide +kernel
theorem dX6_restore_7 : decode cX6_restore 7 = .ok (.aload_n 0, 1) := by decide +kernel
theorem dX6_restore_8 : decode cX6_restore 8 = .ok (.getfield 255, 3) := by decide +kernel
theorem dX6_restore_11 : decode cX6_restore 11 = .ok (.aload_n 0, 1) := by decide +kernel
theorem dX6_restore_12 : decode cX6_restore 12 = .ok (.getfield 124, 3) := by decide +kernel
theorem dX6_restore_15 : decode cX6_restore 15 = .ok (.if_icmp .eq 6, 3) := by decide +kernel
theorem dX6_restore_18 : decode cX6_restore 18 = .ok (.bipush (-103), 2) := by decide +kernel
theorem dX6_restore_20 : decode cX6_restore 20 = .ok (.ireturn, 1) := by decide +kernel
theorem dX6_restore_21 : decode cX6_restore 21 = .ok (.aload_n 0, 1) := by decide +kernel
theorem dX6_restore_22 : decode cX6_restore 22 = .ok (.aload_n 0, 1) := by decide +kernel
theorem dX6_restore_23 : decode cX6_restore 23 = .ok (.getfield 258, 3) := by decide +kernel
theorem dX6_restore_26 : decode cX6_restore 26 = .ok (.putfield 112, 3) := by decide +kernel
theorem dX6_restore_29 : decode cX6_restore 29 = .ok (.aload_n 0, 1) := by decide +kernel
theorem dX6_restore_30 : decode cX6_restore 30 = .ok (.aload_n 0, 1) := by decide +kernel
theorem dX6_restore_31 : decode cX6_restore 31 = .ok (.getfield 261, 3) := by decide +kernel
theorem dX6_restore_34 : decode cX6_restore 34 = .ok (.putfield 121, 3) := by decide +kernel
theorem dX6_restore_37 : decode cX6_restore 37 = .ok (.aload_n 0, 1) := by decide +kernel
theorem dX6_restore_38 : decode cX6_restore 38 = .ok (.aload_n 0, 1) := by decide +kernel
theorem dX6_restore_39 : decode cX6_restore 39 = .ok (.getfield 264, 3) := by decide +kernel
theorem dX6_restore_42 : decode cX6_restore 42 = .ok (.putfield 127, 3) := by decide +kernel
theorem dX6_restore_45 : decode cX6_restore 45 = .ok (.iconst 0, 1) := by decide +kernel
theorem dX6_restore_46 : decode cX6_restore 46 = .ok (.istore_n 1, 1) := by decide +kernel
theorem dX6_restore_47 : decode cX6_restore 47 = .ok (.iload_n 1, 1) := by decide +kernel
theorem dX6_restore_48 : decode cX6_restore 48 = .ok (.bipush 7, 2) := by decide +kernel
theorem dX6_restore_50 : decode cX6_restore 50 = .ok (.if_icmp .ge 33, 3) := by decide +kernel
theorem dX6_restore_53 : decode cX6_restore 53 = .ok (.aload_n 0, 1) := by decide +kernel
theorem dX6_restore_54 : decode cX6_restore 54 = .ok (.getfield 7, 3) := by decide +kernel
theorem dX6_restore_57 : decode cX6_restore 57 = .ok (.iload_n 1, 1) := by decide +kernel
theorem dX6_restore_58 : decode cX6_restore 58 = .ok (.aload_n 0, 1) := by decide +kernel
theorem dX6_restore_59 : decode cX6_restore 59 = .ok (.getfield 62, 3) := by decide +kernel
theorem dX6_restore_62 : decode cX6_restore 62 = .ok (.iload_n 1, 1) := by decide +kernel
theorem dX6_restore_63 : decode cX6_restore 63 = .ok (.iaload, 1) := by decide +kernel
theorem dX6_restore_64 : decode cX6_restore 64 = .ok (.iastore, 1) := by decide +kernel
theorem dX6_restore_65 : decode cX6_restore 65 = .ok (.aload_n 0, 1) := by decide +kernel
theorem dX6_restore_66 : decode cX6_restore 66 = .ok (.getfield 13, 3) := by decide +kernel
theorem dX6_restore_69 : decode cX6_restore 69 = .ok (.iload_n 1, 1) := by decide +kernel
theorem dX6_restore_70 : decode cX6_restore 70 = .ok (.aload_n 0, 1) := by decide +kernel
theorem dX6_restore_71 : decode cX6_restore 71 = .ok (.getfield 65, 3) := by decide +kernel
theorem dX6_restore_74 : decode cX6_restore 74 = .ok (.iload_n 1, 1) := by decide +kernel
theorem dX6_restore_75 : decode cX6_restore 75 = .ok (.iaload, 1) := by decide +kernel
theorem dX6_restore_76 : decode cX6_restore 76 = .ok (.iastore, 1) := by decide +kernel
theorem dX6_restore_77 : decode cX6_restore 77 = .ok (.iinc 1 1, 3) := by decide +kernel
theorem dX6_restore_80 : decode cX6_restore 80 = .ok (.goto (-33), 3) := by decide +kernel
theorem dX6_restore_83 : decode cX6_restore 83 = .ok (.iconst 0, 1) := by decide +kernel
theorem dX6_restore_84 : decode cX6_restore 84 = .ok (.istore_n 1, 1) := by decide +kernel
theorem dX6_restore_85 : decode cX6_restore 85 = .ok (.iload_n 1, 1) := by decide +kernel
theorem dX6_restore_86 : decode cX6_restore 86 = .ok (.bipush 6, 2) := by decide +kernel
theorem dX6_restore_88 : decode cX6_restore 88 = .ok (.if_icmp .ge 45, 3) := by decide +kernel
theorem dX6_restore_91 : decode cX6_restore 91 = .ok (.aload_n 0, 1) := by decide +kernel
theorem dX6_restore_92 : decode cX6_restore 92 = .ok (.getfield 16, 3) := by decide +kernel
theorem dX6_restore_95 : decode cX6_restore 95 = .ok (.iload_n 1, 1) := by decide +kernel
theorem dX6_restore_96 : decode cX6_restore 96 = .ok (.aload_n 0, 1) := by decide +kernel
theorem dX6_restore_97 : decode cX6_restore 97 = .ok (.getfield 68, 3) := by decide +kernel
theorem dX6_restore_100 : decode cX6_restore 100 = .ok (.iload_n 1, 1) := by decide +kernel
theorem dX6_restore_101 : decode cX6_restore 101 = .ok (.iaload, 1) := by decide +kernel
theorem dX6_restore_102 : decode cX6_restore 102 = .ok (.iastore, 1) := by decide +kernel
theorem dX6_restore_103 : decode cX6_restore 103 = .ok (.aload_n 0, 1) := by decide +kernel
theorem dX6_restore_104 : decode cX6_restore 104 = .ok (.getfield 19, 3) := by decide +kernel
theorem dX6_restore_107 : decode cX6_restore 107 = .ok (.iload_n 1, 1) := by decide +kernel
theorem dX6_restore_108 : decode cX6_restore 108 = .ok (.aload_n 0, 1) := by decide +kernel
theorem dX6_restore_109 : decode cX6_restore 109 = .ok (.getfield 71, 3) := by decide +kernel
theorem dX6_restore_112 : decode cX6_restore 112 = .ok (.iload_n 1, 1) := by decide +kernel
theorem dX6_restore_113 : decode cX6_restore 113 = .ok (.iaload, 1) := by decide +kernel
theorem dX6_restore_114 : decode cX6_restore 114 = .ok (.iastore, 1) := by decide +kernel
theorem dX6_restore_115 : decode cX6_restore 115 = .ok (.aload_n 0, 1) := by decide +kernel
theorem dX6_restore_116 : decode cX6_restore 116 = .ok (.getfield 22, 3) := by decide +kernel
theorem dX6_restore_119 : decode cX6_restore 119 = .ok (.iload_n 1, 1) := by decide +kernel
theorem dX6_restore_120 : decode cX6_restore 120 = .ok (.aload_n 0, 1) := by decide +kernel
theorem dX6_restore_121 : decode cX6_restore 121 = .ok (.getfield 74, 3) := by decide +kernel
theorem dX6_restore_124 : decode cX6_restore 124 = .ok (.iload_n 1, 1) := by decide +kernel
theorem dX6_restore_125 : decode cX6_restore 125 = .ok (.iaload, 1) := by decide +kernel
theorem dX6_restore_126 : decode cX6_restore 126 = .ok (.iastore, 1) := by decide +kernel
theorem dX6_restore_127 : decode cX6_restore 127 = .ok (.iinc 1 1, 3) := by decide +kernel
theorem dX6_restore_130 : decode cX6_restore 130 = .ok (.goto (-45), 3) := by decide +kernel
theorem dX6_restore_133 : decode cX6_restore 133 = .ok (.aload_n 0, 1) := by decide +kernel
theorem dX6_restore_134 : decode cX6_restore 134 = .ok (.getfield 121, 3) := by decide +kernel
theorem dX6_restore_137 : decode cX6_restore 137 = .ok (.ireturn, 1) := by decide +kernel
set_option maxRecDepth 20000 in
theorem ggX6_ofBoard_X6_putDeep : GoodIn wsX6_ofBoard wsX6_putDeep := goodIn_r _ [9, 10, 4, 11, 54, 55, 56, 57, 58, 59, 60, 61, 62, 63, 64, 65, 66, 67, 68, 69, 70, 71, 72, 73, 74, 75, 76, 77, 78, 79, 80, 81, 82, 83, 84, 85, 86, 87, 88, 89, 90, 91, 92, 93] (by decide +kernel) (by decide +kernel)
set_option maxRecDepth 20000 in
theorem gX6_ofBoard_X6_putDeep : GoodIn wsX6_ofBoard (wsV RX6 157 RX6 yX6_putDeep wsX6_putDeep) := goodIn_app (goodIn_of _ (by decide +kernel)) ggX6_ofBoard_X6_putDeep
set_option maxRecDepth 20000 in
theorem ggX6_ofBoard_X6_size : GoodIn wsX6_ofBoard wsX6_size := goodIn_r _ [14] (by decide +kernel) (by decide +kernel)
set_option maxRecDepth 20000 in
theorem gX6_ofBoard_X6_size : GoodIn wsX6_ofBoard (va_wsS RX6 154 yX6_size wsX6_size) := goodIn_app (goodIn_of _ (by decide +kernel)) ggX6_ofBoard_X6_size
set_option maxRecDepth 20000 in
theorem ggX6_ofBoard_X6_onBoard : GoodIn wsX6_ofBoard wsX6_onBoard := goodIn_r _ [18, 4, 10, 54, 55, 56, 57, 58, 59, 60, 61, 62, 63, 64, 65, 66, 67, 68, 69, 70, 71, 72, 73, 74, 75, 76, 77, 78, 79, 80, 81, 82, 83, 84, 85, 86, 87, 88, 89, 90, 91, 92, 93] (by decide +kernel) (by decide +kernel)
set_option maxRecDepth 20000 in
theorem gX6_ofBoard_X6_onBoard : GoodIn wsX6_ofBoard (wsV RX6 183 RX6 yX6_onBoard wsX6_onBoard) := goodIn_app (goodIn_of _ (by decide +kernel)) ggX6_ofBoard_X6_onBoard
set_option maxRecDepth 20000 in
theorem ggX6_ofBoard_X6_jumpsNow : GoodIn wsX6_ofBoard wsX6_jumpsNow := goodIn_r _ [22, 4, 23, 24, 25, 8, 26, 27, 28, 29, 30, 1, 2, 31, 32, 33, 34, 35, 36, 37, 38, 10, 3, 39, 40, 41, 42, 43, 44, 45, 46, 47, 48, 49, 50, 51, 52, 53, 12, 13, 14, 54, 55, 56, 57, 58, 59, 60, 61, 62, 63, 64, 65, 66, 67, 68, 69, 70, 71, 72, 73, 74, 75, 76, 77, 78, 79, 80, 81, 82, 83, 84, 85, 86, 87, 88, 89, 90, 91, 92, 93] (by decide +kernel) (by decide +kernel)
set_option maxRecDepth 20000 in
theorem gX6_ofBoard_X6_jumpsNow : GoodIn wsX6_ofBoard (wsV RX6 240 RX6 yX6_jumpsNow wsX6_jumpsNow) := goodIn_app (goodIn_of _ (by decide +kernel)) ggX6_ofBoard_X6_jumpsNow
theorem dX6_ofBoard_0 : decode cX6_ofBoard 0 = .ok (.aload_n 0, 1) := by decide +kernel
theorem dX6_ofBoard_1 : decode cX6_ofBoard 1 = .ok (.invokevirtual 157, 3) := by decide +kernel
theorem dX6_ofBoard_4 : decode cX6_ofBoard 4 = .ok (.iload_n 1, 1) := by decide +kernel
theorem dX6_ofBoard_5 : decode cX6_ofBoard 5 = .ok (.tableswitch 64 0 4 #[35, 40, 45, 53, 58], 35) := by decide +kernel
theorem dX6_ofBoard_40 : decode cX6_ofBoard 40 = .ok (.aload_n 0, 1) := by decide +kernel
theorem dX6_ofBoard_41 : decode cX6_ofBoard 41 = .ok (.getfield 106, 3) := by decide +kernel
theorem dX6_ofBoard_44 : decode cX6_ofBoard 44 = .ok (.ireturn, 1) := by decide +kernel
theorem dX6_ofBoard_45 : decode cX6_ofBoard 45 = .ok (.aload_n 0, 1) := by decide +kernel
theorem dX6_ofBoard_46 : decode cX6_ofBoard 46 = .ok (.getfield 109, 3) := by decide +kernel
theorem dX6_ofBoard_49 : decode cX6_ofBoard 49 = .ok (.ireturn, 1) := by decide +kernel
theorem dX6_ofBoard_50 : decode cX6_ofBoard 50 = .ok (.aload_n 0, 1) := by decide +kernel
theorem dX6_ofBoard_51 : decode cX6_ofBoard 51 = .ok (.getfield 112, 3) := by decide +kernel
theorem dX6_ofBoard_54 : decode cX6_ofBoard 54 = .ok (.invokestatic 154, 3) := by decide +kernel
theorem dX6_ofBoard_57 : decode cX6_ofBoard 57 = .ok (.ireturn, 1) := by decide +kernel
theorem dX6_ofBoard_58 : decode cX6_ofBoard 58 = .ok (.aload_n 0, 1) := by decide +kernel
theorem dX6_ofBoard_59 : decode cX6_ofBoard 59 = .ok (.getfield 115, 3) := by decide +kernel
theorem dX6_ofBoard_62 : decode cX6_ofBoard 62 = .ok (.ireturn, 1) := by decide +kernel
theorem dX6_ofBoard_63 : decode cX6_ofBoard 63 = .ok (.aload_n 0, 1) := by decide +kernel
theorem dX6_ofBoard_64 : decode cX6_ofBoard 64 = .ok (.iconst 0, 1) := by decide +kernel
theorem dX6_ofBoard_65 : decode cX6_ofBoard 65 = .ok (.invokevirtual 183, 3) := by decide +kernel
theorem dX6_ofBoard_68 : decode cX6_ofBoard 68 = .ok (.ireturn, 1) := by decide +kernel
theorem dX6_ofBoard_69 : decode cX6_ofBoard 69 = .ok (.aload_n 0, 1) := by decide +kernel
theorem dX6_ofBoard_70 : decode cX6_ofBoard 70 = .ok (.iconst 0, 1) := by decide +kernel
theorem dX6_ofBoard_71 : decode cX6_ofBoard 71 = .ok (.invokevirtual 240, 3) := by decide +kernel
theorem dX6_ofBoard_74 : decode cX6_ofBoard 74 = .ok (.ireturn, 1) := by decide +kernel
set_option maxRecDepth 20000 in
theorem ggX6_howMany_X6_within : GoodIn wsX6_howMany wsX6_within := goodIn_r _ [9] (by decide +kernel) (by decide +kernel)
set_option maxRecDepth 20000 in
theorem gX6_howMany_X6_within : GoodIn wsX6_howMany (va_wsS RX6 77 yX6_within wsX6_within) := goodIn_app (goodIn_of _ (by decide +kernel)) ggX6_howMany_X6_within
set_option maxRecDepth 20000 in
theorem ggX6_howMany_X6_ofBoard : GoodIn wsX6_howMany wsX6_ofBoard := goodIn_r _ [13, 14, 15, 16, 17, 18, 19, 20, 8, 21, 22, 23, 24, 25, 26, 27, 28, 29, 30, 31, 32, 33, 34, 35, 36, 37, 38, 39, 40, 41, 42, 43, 44, 45, 46, 47, 48, 49, 50, 51, 52, 53, 54, 55, 56, 57, 58, 59, 60, 61, 62, 63, 64, 65, 66, 67, 68, 69, 70, 71, 72, 73, 74, 75, 76, 77, 78, 79, 80, 81, 82, 83, 84, 85, 86, 87, 88, 89, 90, 91, 92, 93, 94, 95, 96, 97, 98, 99, 100, 101, 102, 103, 104, 105] (by decide +kernel) (by decide +kernel)
set_option maxRecDepth 20000 in
theorem gX6_howMany_X6_ofBoard : GoodIn wsX6_howMany (wsV RX6 267 RX6 yX6_ofBoard wsX6_ofBoard) := goodIn_app (goodIn_of _ (by decide +kernel)) ggX6_howMany_X6_ofBoard
theorem dX6_howMany_0 : decode cX6_howMany 0 = .ok (.iload_n 1, 1) := by decide +kernel
theorem dX6_howMany_1 : decode cX6_howMany 1 = .ok (.tableswitch 60 6 10 #[35, 40, 45, 50, 55], 35) := by decide +kernel
theorem dX6_howMany_36 : decode cX6_howMany 36 = .ok (.aload_n 0, 1) := by decide +kernel
theorem dX6_howMany_37 : decode cX6_howMany 37 = .ok (.getfield 121, 3) := by decide +kernel
theorem dX6_howMany_40 : decode cX6_howMany 40 = .ok (.ireturn, 1) := by decide +kernel
theorem dX6_howMany_41 : decode cX6_howMany 41 = .ok (.aload_n 0, 1) := by decide +kernel
theorem dX6_howMany_42 : decode cX6_howMany 42 = .ok (.getfield 127, 3) := by decide +kernel
theorem dX6_howMany_45 : decode cX6_howMany 45 = .ok (.ireturn, 1) := by decide +kernel
theorem dX6_howMany_46 : decode cX6_howMany 46 = .ok (.aload_n 0, 1) := by decide +kernel
theorem dX6_howMany_47 : decode cX6_howMany 47 = .ok (.getfield 81, 3) := by decide +kernel
theorem dX6_howMany_50 : decode cX6_howMany 50 = .ok (.ireturn, 1) := by decide +kernel
theorem dX6_howMany_51 : decode cX6_howMany 51 = .ok (.aload_n 0, 1) := by decide +kernel
theorem dX6_howMany_52 : decode cX6_howMany 52 = .ok (.getfield 124, 3) := by decide +kernel
theorem dX6_howMany_55 : decode cX6_howMany 55 = .ok (.ireturn, 1) := by decide +kernel
theorem dX6_howMany_56 : decode cX6_howMany 56 = .ok (.aload_n 0, 1) := by decide +kernel
theorem dX6_howMany_57 : decode cX6_howMany 57 = .ok (.getfield 216, 3) := by decide +kernel
theorem dX6_howMany_60 : decode cX6_howMany 60 = .ok (.ireturn, 1) := by decide +kernel
theorem dX6_howMany_61 : decode cX6_howMany 61 = .ok (.iload_n 1, 1) := by decide +kernel
theorem dX6_howMany_62 : decode cX6_howMany 62 = .ok (.iconst 0, 1) := by decide +kernel
theorem dX6_howMany_63 : decode cX6_howMany 63 = .ok (.iconst 5, 1) := by decide +kernel
theorem dX6_howMany_64 : decode cX6_howMany 64 = .ok (.invokestatic 77, 3) := by decide +kernel
theorem dX6_howMany_67 : decode cX6_howMany 67 = .ok (.ifCond .eq 11, 3) := by decide +kernel
theorem dX6_howMany_70 : decode cX6_howMany 70 = .ok (.aload_n 0, 1) := by decide +kernel
theorem dX6_howMany_71 : decode cX6_howMany 71 = .ok (.iload_n 1, 1) := by decide +kernel
theorem dX6_howMany_72 : decode cX6_howMany 72 = .ok (.invokevirtual 267, 3) := by decide +kernel
theorem dX6_howMany_75 : decode cX6_howMany 75 = .ok (.goto 5, 3) := by decide +kernel
theorem dX6_howMany_78 : decode cX6_howMany 78 = .ok (.bipush (-102), 2) := by decide +kernel
theorem dX6_howMany_80 : decode cX6_howMany 80 = .ok (.ireturn, 1) := by decide +kernel
set_option maxRecDepth 20000 in
theorem ggX6_count_X6_howMany : GoodIn wsX6_count wsX6_howMany := goodIn_r _ [5, 6, 7, 8, 9, 10, 11, 12, 4, 13, 14, 15, 16, 17, 18, 19, 20, 21, 22, 23, 24, 25, 26, 27, 28, 29, 30, 31, 32, 33, 34, 35, 36, 37, 38, 39, 40, 41, 42, 43, 44, 45, 46, 47, 48, 49, 50, 51, 52, 53, 54, 55, 56, 57, 58, 59, 60, 61, 62, 63, 64, 65, 66, 67, 68, 69, 70, 71, 72, 73, 74, 75, 76, 77, 78, 79, 80, 81, 82, 83, 84, 85, 86, 87, 88, 89, 90, 91, 92, 93, 94, 95, 96, 97, 98, 99, 100, 101, 102, 103, 104, 105, 106, 107, 108, 109] (by decide +kernel) (by decide +kernel)
set_option maxRecDepth 20000 in
theorem gX6_count_X6_howMany : GoodIn wsX6_count (wsV RX6 270 RX6 yX6_howMany wsX6_howMany) := goodIn_app (goodIn_of _ (by decide +kernel)) ggX6_count_X6_howMany
theorem dX6_count_0 : decode cX6_count 0 = .ok (.aload_n 0, 1) := by decide +kernel
theorem dX6_count_1 : decode cX6_count 1 = .ok (.iload_n 1, 1) := by decide +kernel
theorem dX6_count_2 : decode cX6_count 2 = .ok (.invokevirtual 270, 3) := by decide +kernel
theorem dX6_count_5 : decode cX6_count 5 = .ok (.ireturn, 1) := by decide +kernel
theorem dX6_mix_0 : decode cX6_mix 0 = .ok (.aload_n 0, 1) := by decide +kernel
theorem dX6_mix_1 : decode cX6_mix 1 = .ok (.ldc2_w 273, 3) := by decide +kernel
theorem dX6_mix_4 : decode cX6_mix 4 = .ok (.aload_n 0, 1) := by decide +kernel
theorem dX6_mix_5 : decode cX6_mix 5 = .ok (.getfield 275, 3) := by decide +kernel
theorem dX6_mix_8 : decode cX6_mix 8 = .ok (.lmul, 1) := by decide +kernel
theorem dX6_mix_9 : decode cX6_mix 9 = .ok (.lload_n 1, 1) := by decide +kernel
theorem dX6_mix_10 : decode cX6_mix 10 = .ok (.ladd, 1) := by decide +kernel
theorem dX6_mix_11 : decode cX6_mix 11 = .ok (.putfield 275, 3) := by decide +kernel
theorem dX6_mix_14 : decode cX6_mix 14 = .ok (.return_, 1) := by decide +kernel
set_option maxRecDepth 20000 in
theorem ggX6_mixBoard_X6_coursesNow : GoodIn wsX6_mixBoard wsX6_coursesNow := goodIn_r _ [5, 6, 7, 8, 9, 10, 11, 12, 13, 14, 4, 15, 16, 17, 18, 19, 20, 21, 22, 23, 24, 25, 26, 27, 28, 29, 30, 31, 32, 33, 34, 35, 36, 37, 38, 39, 40, 41, 42, 43, 44, 45, 46, 47, 48, 49, 50, 51, 52, 53, 54, 55, 56, 57, 58, 59, 60, 61, 62, 63, 64, 65, 66, 67, 68, 69, 70, 71, 72, 73, 74, 75, 76, 77, 78, 79, 80, 81, 82, 83, 84, 85, 100, 101, 102, 103, 104, 105, 106, 107, 108, 109, 110, 111, 112, 113, 114, 115, 116, 117, 118, 119, 120, 121, 122, 123, 124, 125, 126, 127, 128, 129, 130, 131, 132, 133, 134, 135, 136, 137, 138, 139] (by decide +kernel) (by decide +kernel)
set_option maxRecDepth 20000 in
theorem gX6_mixBoard_X6_coursesNow : GoodIn wsX6_mixBoard (wsV RX6 210 RX6 yX6_coursesNow wsX6_coursesNow) := goodIn_app (goodIn_of _ (by decide +kernel)) ggX6_mixBoard_X6_coursesNow
set_option maxRecDepth 20000 in
theorem ggX6_mixBoard_X6_mix : GoodIn wsX6_mixBoard wsX6_mix := goodIn_r _ [89, 90, 91, 100, 101, 102, 103, 104, 105, 106, 107, 108, 109, 110, 111, 112, 113, 114, 115, 116, 117, 118, 119, 120, 121, 122, 123, 124, 125, 126, 127, 128, 129, 130, 131, 132, 133, 134, 135, 136, 137, 138, 139] (by decide +kernel) (by decide +kernel)
set_option maxRecDepth 20000 in
theorem gX6_mixBoard_X6_mix : GoodIn wsX6_mixBoard (wsV RX6 278 RX6 yX6_mix wsX6_mix) := goodIn_app (goodIn_of _ (by decide +kernel)) ggX6_mixBoard_X6_mix
set_option maxRecDepth 20000 in
theorem ggX6_mixBoard_X6_winsNow : GoodIn wsX6_mixBoard wsX6_winsNow := goodIn_r _ [95, 30, 12, 13, 14, 4, 15, 16, 17, 18, 19, 20, 21, 22, 23, 24, 25, 26, 27, 28, 8, 6, 29, 7, 9, 10, 11, 31, 32, 33, 34, 35, 36, 37, 38, 39, 40, 41, 42, 43, 44, 45, 46, 47, 48, 49, 50, 51, 52, 53, 54, 55, 56, 57, 58, 59, 60, 61, 62, 63, 64, 65, 66, 67, 68, 69, 70, 71, 72, 73, 74, 75, 76, 77, 78, 79, 80, 81, 82, 83, 84, 85, 100, 101, 102, 103, 104, 105, 106, 107, 108, 109, 110, 111, 112, 113, 114, 115, 116, 117, 118, 119, 120, 121, 122, 123, 124, 125, 126, 127, 128, 129, 130, 131, 132, 133, 134, 135, 136, 137, 138, 139] (by decide +kernel) (by decide +kernel)
set_option maxRecDepth 20000 in
theorem gX6_mixBoard_X6_winsNow : GoodIn wsX6_mixBoard (wsV RX6 213 RX6 yX6_winsNow wsX6_winsNow) := goodIn_app (goodIn_of _ (by decide +kernel)) ggX6_mixBoard_X6_winsNow
set_option maxRecDepth 20000 in
theorem ggX6_mixBoard_X6_meanNow : GoodIn wsX6_mixBoard wsX6_meanNow := goodIn_r _ [99, 31, 23, 12, 13, 14, 4, 15, 16, 17, 18, 19, 20, 21, 22, 24, 25, 26, 27, 28, 8, 6, 29, 7, 9, 10, 11, 30, 32, 33, 34, 35, 36, 37, 38, 39, 40, 41, 42, 43, 44, 45, 46, 47, 48, 49, 50, 51, 52, 53, 54, 55, 56, 57, 58, 59, 60, 61, 62, 63, 64, 65, 66, 67, 68, 69, 70, 71, 72, 73, 74, 75, 76, 77, 78, 79, 80, 81, 82, 83, 84, 85, 100, 101, 102, 103, 104, 105, 106, 107, 108, 109, 110, 111, 112, 113, 114, 115, 116, 117, 118, 119, 120, 121, 122, 123, 124, 125, 126, 127, 128, 129, 130, 131, 132, 133, 134, 135, 136, 137, 138, 139] (by decide +kernel) (by decide +kernel)
set_option maxRecDepth 20000 in
theorem gX6_mixBoard_X6_meanNow : GoodIn wsX6_mixBoard (wsV RX6 222 RX6 yX6_meanNow wsX6_meanNow) := goodIn_app (goodIn_of _ (by decide +kernel)) ggX6_mixBoard_X6_meanNow
theorem dX6_mixBoard_0 : decode cX6_mixBoard 0 = .ok (.iconst 0, 1) := by decide +kernel
theorem dX6_mixBoard_1 : decode cX6_mixBoard 1 = .ok (.istore_n 1, 1) := by decide +kernel
theorem dX6_mixBoard_2 : decode cX6_mixBoard 2 = .ok (.iload_n 1, 1) := by decide +kernel
theorem dX6_mixBoard_3 : decode cX6_mixBoard 3 = .ok (.bipush 6, 2) := by decide +kernel
theorem dX6_mixBoard_5 : decode cX6_mixBoard 5 = .ok (.if_icmp .ge 19, 3) := by decide +kernel
theorem dX6_mixBoard_8 : decode cX6_mixBoard 8 = .ok (.aload_n 0, 1) := by decide +kernel
theorem dX6_mixBoard_9 : decode cX6_mixBoard 9 = .ok (.aload_n 0, 1) := by decide +kernel
theorem dX6_mixBoard_10 : decode cX6_mixBoard 10 = .ok (.iload_n 1, 1) := by decide +kernel
theorem dX6_mixBoard_11 : decode cX6_mixBoard 11 = .ok (.invokevirtual 210, 3) := by decide +kernel
theorem dX6_mixBoard_14 : decode cX6_mixBoard 14 = .ok (.i2l, 1) := by decide +kernel
theorem dX6_mixBoard_15 : decode cX6_mixBoard 15 = .ok (.invokevirtual 278, 3) := by decide +kernel
theorem dX6_mixBoard_18 : decode cX6_mixBoard 18 = .ok (.iinc 1 1, 3) := by decide +kernel
theorem dX6_mixBoard_21 : decode cX6_mixBoard 21 = .ok (.goto (-19), 3) := by decide +kernel
theorem dX6_mixBoard_24 : decode cX6_mixBoard 24 = .ok (.aload_n 0, 1) := by decide +kernel
theorem dX6_mixBoard_25 : decode cX6_mixBoard 25 = .ok (.aload_n 0, 1) := by decide +kernel
theorem dX6_mixBoard_26 : decode cX6_mixBoard 26 = .ok (.iconst 0, 1) := by decide +kernel
theorem dX6_mixBoard_27 : decode cX6_mixBoard 27 = .ok (.invokevirtual 213, 3) := by decide +kernel
theorem dX6_mixBoard_30 : decode cX6_mixBoard 30 = .ok (.i2l, 1) := by decide +kernel
theorem dX6_mixBoard_31 : decode cX6_mixBoard 31 = .ok (.invokevirtual 278, 3) := by decide +kernel
theorem dX6_mixBoard_34 : decode cX6_mixBoard 34 = .ok (.aload_n 0, 1) := by decide +kernel
theorem dX6_mixBoard_35 : decode cX6_mixBoard 35 = .ok (.aload_n 0, 1) := by decide +kernel
theorem dX6_mixBoard_36 : decode cX6_mixBoard 36 = .ok (.iconst 1, 1) := by decide +kernel
theorem dX6_mixBoard_37 : decode cX6_mixBoard 37 = .ok (.invokevirtual 213, 3) := by decide +kernel
theorem dX6_mixBoard_40 : decode cX6_mixBoard 40 = .ok (.i2l, 1) := by decide +kernel
theorem dX6_mixBoard_41 : decode cX6_mixBoard 41 = .ok (.invokevirtual 278, 3) := by decide +kernel
theorem dX6_mixBoard_44 : decode cX6_mixBoard 44 = .ok (.aload_n 0, 1) := by decide +kernel
theorem dX6_mixBoard_45 : decode cX6_mixBoard 45 = .ok (.aload_n 0, 1) := by decide +kernel
theorem dX6_mixBoard_46 : decode cX6_mixBoard 46 = .ok (.invokevirtual 222, 3) := by decide +kernel
theorem dX6_mixBoard_49 : decode cX6_mixBoard 49 = .ok (.i2l, 1) := by decide +kernel
theorem dX6_mixBoard_50 : decode cX6_mixBoard 50 = .ok (.invokevirtual 278, 3) := by decide +kernel
theorem dX6_mixBoard_53 : decode cX6_mixBoard 53 = .ok (.return_, 1) := by decide +kernel
set_option maxRecDepth 20000 in
theorem ggX6_digest_X6_pegNow : GoodIn wsX6_digest wsX6_pegNow := goodIn_r _ [10, 11, 12, 13, 14, 15, 9, 16, 17, 3, 18, 19, 20, 21, 22, 23, 24, 25, 26, 27, 28, 29, 30, 31, 32, 33, 34, 35, 36, 37, 38, 39, 40, 41, 42, 43, 44, 45, 46, 47, 48, 49, 50, 51, 52, 53, 54, 55, 56, 57, 58, 59, 60, 61, 62, 63, 64, 65, 66, 67, 68, 69, 155, 156, 157, 158, 159, 160, 161, 162, 163, 164, 165, 166, 167, 168, 169, 170, 171, 172, 173, 174, 175, 176, 177, 178, 179, 180, 181, 182, 183, 184, 185, 186, 187, 188, 189, 190, 191, 192, 193, 194] (by decide +kernel) (by decide +kernel)
set_option maxRecDepth 20000 in
theorem gX6_digest_X6_pegNow : GoodIn wsX6_digest (wsV RX6 170 RX6 yX6_pegNow wsX6_pegNow) := goodIn_app (goodIn_of _ (by decide +kernel)) ggX6_digest_X6_pegNow
set_option maxRecDepth 20000 in
theorem ggX6_digest_X6_mix : GoodIn wsX6_digest wsX6_mix := goodIn_r _ [73, 74, 2, 155, 156, 157, 158, 159, 160, 161, 162, 163, 164, 165, 166, 167, 168, 169, 170, 171, 172, 173, 174, 175, 176, 177, 178, 179, 180, 181, 182, 183, 184, 185, 186, 187, 188, 189, 190, 191, 192, 193, 194] (by decide +kernel) (by decide +kernel)
set_option maxRecDepth 20000 in
theorem gX6_digest_X6_mix : GoodIn wsX6_digest (wsV RX6 278 RX6 yX6_mix wsX6_mix) := goodIn_app (goodIn_of _ (by decide +kernel)) ggX6_digest_X6_mix
set_option maxRecDepth 20000 in
theorem ggX6_digest_X6_places : GoodIn wsX6_digest wsX6_places := goodIn_r _ [25, 26, 27, 155, 156, 157, 158, 159, 160, 161, 162, 163, 164, 165, 166, 167, 168, 169, 170, 171, 172, 173, 174, 175, 176, 177, 178, 179, 180, 181, 182, 183, 184, 185, 186, 187, 188, 189, 190, 191, 192, 193, 194] (by decide +kernel) (by decide +kernel)
set_option maxRecDepth 20000 in
theorem gX6_digest_X6_places : GoodIn wsX6_digest (wsV RX6 118 RX6 yX6_places wsX6_places) := goodIn_app (goodIn_of _ (by decide +kernel)) ggX6_digest_X6_places
set_option maxRecDepth 20000 in
theorem ggX6_digest_X6_placeNow : GoodIn wsX6_digest wsX6_placeNow := goodIn_r _ [78, 36, 13, 14, 15, 9, 16, 17, 3, 12, 40, 41, 42, 43, 155, 156, 157, 158, 159, 160, 161, 162, 163, 164, 165, 166, 167, 168, 169, 170, 171, 172, 173, 174, 175, 176, 177, 178, 179, 180, 181, 182, 183, 184, 185, 186, 187, 188, 189, 190, 191, 192, 193, 194] (by decide +kernel) (by decide +kernel)
set_option maxRecDepth 20000 in
theorem gX6_digest_X6_placeNow : GoodIn wsX6_digest (wsV RX6 176 RX6 yX6_placeNow wsX6_placeNow) := goodIn_app (goodIn_of _ (by decide +kernel)) ggX6_digest_X6_placeNow
set_option maxRecDepth 20000 in
theorem ggX6_digest_X6_mixBoard : GoodIn wsX6_digest wsX6_mixBoard := goodIn_r _ [82, 83, 84, 85, 9, 86, 87, 88, 89, 90, 91, 92, 13, 14, 15, 16, 17, 3, 12, 93, 94, 95, 96, 97, 98, 99, 100, 101, 102, 66, 103, 104, 105, 106, 107, 108, 22, 23, 24, 25, 26, 27, 28, 29, 30, 31, 32, 33, 34, 35, 36, 11, 37, 38, 39, 40, 41, 42, 43, 44, 45, 46, 47, 48, 49, 50, 109, 110, 111, 112, 113, 114, 115, 116, 117, 118, 119, 120, 121, 122, 123, 124, 125, 126, 127, 128, 70, 71, 72, 73, 74, 2, 129, 130, 131, 132, 133, 134, 135, 136, 155, 156, 157, 158, 159, 160, 161, 162, 163, 164, 165, 166, 167, 168, 169, 170, 171, 172, 173, 174, 175, 176, 177, 178, 179, 180, 181, 182, 183, 184, 185, 186, 187, 188, 189, 190, 191, 192, 193, 194] (by decide +kernel) (by decide +kernel)
set_option maxRecDepth 20000 in
theorem gX6_digest_X6_mixBoard : GoodIn wsX6_digest (wsV RX6 284 RX6 yX6_mixBoard wsX6_mixBoard) := goodIn_app (goodIn_of _ (by decide +kernel)) ggX6_digest_X6_mixBoard
set_option maxRecDepth 20000 in
theorem ggX6_digest_X6_howMany : GoodIn wsX6_digest wsX6_howMany := goodIn_r _ [140, 141, 55, 4, 142, 143, 144, 145, 9, 146, 147, 148, 149, 150, 26, 27, 36, 3, 13, 14, 15, 16, 17, 12, 67, 68, 69, 117, 118, 119, 120, 151, 152, 153, 154, 18, 19, 20, 21, 22, 23, 24, 25, 28, 29, 30, 31, 32, 33, 34, 35, 11, 37, 38, 39, 40, 41, 42, 43, 44, 45, 46, 47, 48, 49, 50, 155, 156, 157, 158, 159, 160, 161, 162, 163, 164, 165, 166, 167, 168, 169, 170, 171, 172, 173, 174, 175, 176, 177, 178, 179, 180, 181, 182, 183, 184, 185, 186, 187, 188, 189, 190, 191, 192, 193, 194] (by decide +kernel) (by decide +kernel)
set_option maxRecDepth 20000 in
theorem gX6_digest_X6_howMany : GoodIn wsX6_digest (wsV RX6 270 RX6 yX6_howMany wsX6_howMany) := goodIn_app (goodIn_of _ (by decide +kernel)) ggX6_digest_X6_howMany
theorem dX6_digest_0 : decode cX6_digest 0 = .ok (.aload_n 0, 1) := by decide +kernel
theorem dX6_digest_1 : decode cX6_digest 1 = .ok (.ldc2_w 282, 3) := by decide +kernel
theorem dX6_digest_4 : decode cX6_digest 4 = .ok (.putfield 275, 3) := by decide +kernel
theorem dX6_digest_7 : decode cX6_digest 7 = .ok (.iconst 0, 1) := by decide +kernel
theorem dX6_digest_8 : decode cX6_digest 8 = .ok (.istore_n 1, 1) := by decide +kernel
theorem dX6_digest_9 : decode cX6_digest 9 = .ok (.iload_n 1, 1) := by decide +kernel
theorem dX6_digest_10 : decode cX6_digest 10 = .ok (.aload_n 0, 1) := by decide +kernel
theorem dX6_digest_11 : decode cX6_digest 11 = .ok (.getfield 115, 3) := by decide +kernel
theorem dX6_digest_14 : decode cX6_digest 14 = .ok (.if_icmp .ge 33, 3) := by decide +kernel
theorem dX6_digest_17 : decode cX6_digest 17 = .ok (.iconst 0, 1) := by decide +kernel
theorem dX6_digest_18 : decode cX6_digest 18 = .ok (.istore_n 2, 1) := by decide +kernel
theorem dX6_digest_19 : decode cX6_digest 19 = .ok (.iload_n 2, 1) := by decide +kernel
theorem dX6_digest_20 : decode cX6_digest 20 = .ok (.iconst 5, 1) := by decide +kernel
theorem dX6_digest_21 : decode cX6_digest 21 = .ok (.if_icmp .ge 20, 3) := by decide +kernel
theorem dX6_digest_24 : decode cX6_digest 24 = .ok (.aload_n 0, 1) := by decide +kernel
theorem dX6_digest_25 : decode cX6_digest 25 = .ok (.aload_n 0, 1) := by decide +kernel
theorem dX6_digest_26 : decode cX6_digest 26 = .ok (.iload_n 1, 1) := by decide +kernel
theorem dX6_digest_27 : decode cX6_digest 27 = .ok (.iload_n 2, 1) := by decide +kernel
theorem dX6_digest_28 : decode cX6_digest 28 = .ok (.invokevirtual 170, 3) := by decide +kernel
theorem dX6_digest_31 : decode cX6_digest 31 = .ok (.i2l, 1) := by decide +kernel
theorem dX6_digest_32 : decode cX6_digest 32 = .ok (.invokevirtual 278, 3) := by decide +kernel
theorem dX6_digest_35 : decode cX6_digest 35 = .ok (.iinc 2 1, 3) := by decide +kernel
theorem dX6_digest_38 : decode cX6_digest 38 = .ok (.goto (-19), 3) := by decide +kernel
theorem dX6_digest_41 : decode cX6_digest 41 = .ok (.iinc 1 1, 3) := by decide +kernel
theorem dX6_digest_44 : decode cX6_digest 44 = .ok (.goto (-35), 3) := by decide +kernel
theorem dX6_digest_47 : decode cX6_digest 47 = .ok (.iconst 0, 1) := by decide +kernel
theorem dX6_digest_48 : decode cX6_digest 48 = .ok (.istore_n 1, 1) := by decide +kernel
theorem dX6_digest_49 : decode cX6_digest 49 = .ok (.iload_n 1, 1) := by decide +kernel
theorem dX6_digest_50 : decode cX6_digest 50 = .ok (.aload_n 0, 1) := by decide +kernel
theorem dX6_digest_51 : decode cX6_digest 51 = .ok (.invokevirtual 118, 3) := by decide +kernel
theorem dX6_digest_54 : decode cX6_digest 54 = .ok (.if_icmp .ge 33, 3) := by decide +kernel
theorem dX6_digest_57 : decode cX6_digest 57 = .ok (.iconst 0, 1) := by decide +kernel
theorem dX6_digest_58 : decode cX6_digest 58 = .ok (.istore_n 2, 1) := by decide +kernel
theorem dX6_digest_59 : decode cX6_digest 59 = .ok (.iload_n 2, 1) := by decide +kernel
theorem dX6_digest_60 : decode cX6_digest 60 = .ok (.iconst 2, 1) := by decide +kernel
theorem dX6_digest_61 : decode cX6_digest 61 = .ok (.if_icmp .ge 20, 3) := by decide +kernel
theorem dX6_digest_64 : decode cX6_digest 64 = .ok (.aload_n 0, 1) := by decide +kernel
theorem dX6_digest_65 : decode cX6_digest 65 = .ok (.aload_n 0, 1) := by decide +kernel
theorem dX6_digest_66 : decode cX6_digest 66 = .ok (.iload_n 1, 1) := by decide +kernel
theorem dX6_digest_67 : decode cX6_digest 67 = .ok (.iload_n 2, 1) := by decide +kernel
theorem dX6_digest_68 : decode cX6_digest 68 = .ok (.invokevirtual 176, 3) := by decide +kernel
theorem dX6_digest_71 : decode cX6_digest 71 = .ok (.i2l, 1) := by decide +kernel
theorem dX6_digest_72 : decode cX6_digest 72 = .ok (.invokevirtual 278, 3) := by decide +kernel
theorem dX6_digest_75 : decode cX6_digest 75 = .ok (.iinc 2 1, 3) := by decide +kernel
theorem dX6_digest_78 : decode cX6_digest 78 = .ok (.goto (-19), 3) := by decide +kernel
theorem dX6_digest_81 : decode cX6_digest 81 = .ok (.iinc 1 1, 3) := by decide +kernel
theorem dX6_digest_84 : decode cX6_digest 84 = .ok (.goto (-35), 3) := by decide +kernel
theorem dX6_digest_87 : decode cX6_digest 87 = .ok (.aload_n 0, 1) := by decide +kernel
theorem dX6_digest_88 : decode cX6_digest 88 = .ok (.getfield 115, 3) := by decide +kernel
theorem dX6_digest_91 : decode cX6_digest 91 = .ok (.ifCond .le 7, 3) := by decide +kernel
theorem dX6_digest_94 : decode cX6_digest 94 = .ok (.aload_n 0, 1) := by decide +kernel
theorem dX6_digest_95 : decode cX6_digest 95 = .ok (.invokevirtual 284, 3) := by decide +kernel
theorem dX6_digest_98 : decode cX6_digest 98 = .ok (.iconst 0, 1) := by decide +kernel
theorem dX6_digest_99 : decode cX6_digest 99 = .ok (.istore_n 1, 1) := by decide +kernel
theorem dX6_digest_100 : decode cX6_digest 100 = .ok (.iload_n 1, 1) := by decide +kernel
theorem dX6_digest_101 : decode cX6_digest 101 = .ok (.aload_n 0, 1) := by decide +kernel
theorem dX6_digest_102 : decode cX6_digest 102 = .ok (.getfield 81, 3) := by decide +kernel
theorem dX6_digest_105 : decode cX6_digest 105 = .ok (.if_icmp .ge 20, 3) := by decide +kernel
theorem dX6_digest_108 : decode cX6_digest 108 = .ok (.aload_n 0, 1) := by decide +kernel
theorem dX6_digest_109 : decode cX6_digest 109 = .ok (.aload_n 0, 1) := by decide +kernel
theorem dX6_digest_110 : decode cX6_digest 110 = .ok (.getfield 25, 3) := by decide +kernel
theorem dX6_digest_113 : decode cX6_digest 113 = .ok (.iload_n 1, 1) := by decide +kernel
theorem dX6_digest_114 : decode cX6_digest 114 = .ok (.baload, 1) := by decide +kernel
theorem dX6_digest_115 : decode cX6_digest 115 = .ok (.i2l, 1) := by decide +kernel
theorem dX6_digest_116 : decode cX6_digest 116 = .ok (.invokevirtual 278, 3) := by decide +kernel
theorem dX6_digest_119 : decode cX6_digest 119 = .ok (.iinc 1 1, 3) := by decide +kernel
theorem dX6_digest_122 : decode cX6_digest 122 = .ok (.goto (-22), 3) := by decide +kernel
theorem dX6_digest_125 : decode cX6_digest 125 = .ok (.iconst 0, 1) := by decide +kernel
theorem dX6_digest_126 : decode cX6_digest 126 = .ok (.istore_n 1, 1) := by decide +kernel
theorem dX6_digest_127 : decode cX6_digest 127 = .ok (.iload_n 1, 1) := by decide +kernel
theorem dX6_digest_128 : decode cX6_digest 128 = .ok (.bipush 11, 2) := by decide +kernel
theorem dX6_digest_130 : decode cX6_digest 130 = .ok (.if_icmp .ge 19, 3) := by decide +kernel
theorem dX6_digest_133 : decode cX6_digest 133 = .ok (.aload_n 0, 1) := by decide +kernel
theorem dX6_digest_134 : decode cX6_digest 134 = .ok (.aload_n 0, 1) := by decide +kernel
theorem dX6_digest_135 : decode cX6_digest 135 = .ok (.iload_n 1, 1) := by decide +kernel
theorem dX6_digest_136 : decode cX6_digest 136 = .ok (.invokevirtual 270, 3) := by decide +kernel
theorem dX6_digest_139 : decode cX6_digest 139 = .ok (.i2l, 1) := by decide +kernel
theorem dX6_digest_140 : decode cX6_digest 140 = .ok (.invokevirtual 278, 3) := by decide +kernel
theorem dX6_digest_143 : decode cX6_digest 143 = .ok (.iinc 1 1, 3) := by decide +kernel
theorem dX6_digest_146 : decode cX6_digest 146 = .ok (.goto (-19), 3) := by decide +kernel
theorem dX6_digest_149 : decode cX6_digest 149 = .ok (.aload_n 0, 1) := by decide +kernel
theorem dX6_digest_150 : decode cX6_digest 150 = .ok (.getfield 275, 3) := by decide +kernel
theorem dX6_digest_153 : decode cX6_digest 153 = .ok (.lreturn, 1) := by decide +kernel
