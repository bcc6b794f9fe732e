theorem dX0_init_0 : decode cX0_init 0 = .ok (.aload_n 0, 1) := by decide +kernel
theorem dX0_init_1 : decode cX0_init 1 = .ok (.invokespecial 1, 3) := by decide +kernel
theorem dX0_init_4 : decode cX0_init 4 = .ok (.aload_n 0, 1) := by decide +kernel
theorem dX0_init_5 : decode cX0_init 5 = .ok (.iconst 1, 1) := by decide +kernel
theorem dX0_init_6 : decode cX0_init 6 = .ok (.putfield 7, 3) := by decide +kernel
theorem dX0_init_9 : decode cX0_init 9 = .ok (.return_, 1) := by decide +kernel
theorem dX0_askedOfLate_0 : decode cX0_askedOfLate 0 = .ok (.aload_n 0, 1) := by decide +kernel
theorem dX0_askedOfLate_1 : decode cX0_askedOfLate 1 = .ok (.getfield 13, 3) := by decide +kernel
theorem dX0_askedOfLate_4 : decode cX0_askedOfLate 4 = .ok (.ifCond .eq 19, 3) := by decide +kernel
theorem dX0_askedOfLate_7 : decode cX0_askedOfLate 7 = .ok (.iload_n 1, 1) := by decide +kernel
theorem dX0_askedOfLate_8 : decode cX0_askedOfLate 8 = .ok (.aload_n 0, 1) := by decide +kernel
theorem dX0_askedOfLate_9 : decode cX0_askedOfLate 9 = .ok (.getfield 17, 3) := by decide +kernel
theorem dX0_askedOfLate_12 : decode cX0_askedOfLate 12 = .ok (.isub, 1) := by decide +kernel
theorem dX0_askedOfLate_13 : decode cX0_askedOfLate 13 = .ok (.sipush 1000, 3) := by decide +kernel
theorem dX0_askedOfLate_16 : decode cX0_askedOfLate 16 = .ok (.if_icmp .ge 7, 3) := by decide +kernel
theorem dX0_askedOfLate_19 : decode cX0_askedOfLate 19 = .ok (.iconst 1, 1) := by decide +kernel
theorem dX0_askedOfLate_20 : decode cX0_askedOfLate 20 = .ok (.goto 4, 3) := by decide +kernel
theorem dX0_askedOfLate_23 : decode cX0_askedOfLate 23 = .ok (.iconst 0, 1) := by decide +kernel
theorem dX0_askedOfLate_24 : decode cX0_askedOfLate 24 = .ok (.ireturn, 1) := by decide +kernel
set_option maxRecDepth 20000 in
theorem ggX1_init_Jx4a65c_init_da8c8 : GoodIn wsX1_init wsJx4a65c_init_da8c8 := goodIn_r _ [10, 11, 12, 13, 14, 15, 16, 17, 18, 19, 20, 21, 22, 2, 3, 23, 24, 25] (by decide +kernel) (by decide +kernel)
set_option maxRecDepth 20000 in
theorem gX1_init_Jx4a65c_init_da8c8 : GoodIn wsX1_init (wsJx4a65c_init_da8c8) := ggX1_init_Jx4a65c_init_da8c8
theorem dX1_init_0 : decode cX1_init 0 = .ok (.aload_n 0, 1) := by decide +kernel
theorem dX1_init_1 : decode cX1_init 1 = .ok (.invokespecial 3, 3) := by decide +kernel
theorem dX1_init_4 : decode cX1_init 4 = .ok (.aload_n 0, 1) := by decide +kernel
theorem dX1_init_5 : decode cX1_init 5 = .ok (.new 9, 3) := by decide +kernel
theorem dX1_init_8 : decode cX1_init 8 = .ok (.dup, 1) := by decide +kernel
theorem dX1_init_9 : decode cX1_init 9 = .ok (.invokespecial 11, 3) := by decide +kernel
theorem dX1_init_12 : decode cX1_init 12 = .ok (.putfield 12, 3) := by decide +kernel
theorem dX1_init_15 : decode cX1_init 15 = .ok (.return_, 1) := by decide +kernel
set_option maxRecDepth 20000 in
theorem ggX1_reshape_X1_fill : GoodIn wsX1_reshape wsX1_fill := goodIn_r _ [7, 8, 2, 9, 10, 11, 12, 13, 14, 15, 16, 17, 18, 19, 20, 21, 22, 23] (by decide +kernel) (by decide +kernel)
set_option maxRecDepth 20000 in
theorem gX1_reshape_X1_fill : GoodIn wsX1_reshape (wsV RX1 25 RX1 yX1_fill wsX1_fill) := goodIn_app (goodIn_of _ (by decide +kernel)) ggX1_reshape_X1_fill
theorem dX1_reshape_0 : decode cX1_reshape 0 = .ok (.aload_n 0, 1) := by decide +kernel
theorem dX1_reshape_1 : decode cX1_reshape 1 = .ok (.iload_n 1, 1) := by decide +kernel
theorem dX1_reshape_2 : decode cX1_reshape 2 = .ok (.putfield 18, 3) := by decide +kernel
theorem dX1_reshape_5 : decode cX1_reshape 5 = .ok (.aload_n 0, 1) := by decide +kernel
theorem dX1_reshape_6 : decode cX1_reshape 6 = .ok (.iload_n 2, 1) := by decide +kernel
theorem dX1_reshape_7 : decode cX1_reshape 7 = .ok (.putfield 22, 3) := by decide +kernel
theorem dX1_reshape_10 : decode cX1_reshape 10 = .ok (.aload_n 0, 1) := by decide +kernel
theorem dX1_reshape_11 : decode cX1_reshape 11 = .ok (.lconst 0, 1) := by decide +kernel
theorem dX1_reshape_12 : decode cX1_reshape 12 = .ok (.invokevirtual 25, 3) := by decide +kernel
theorem dX1_reshape_15 : decode cX1_reshape 15 = .ok (.return_, 1) := by decide +kernel
theorem dX1_fill_0 : decode cX1_fill 0 = .ok (.lconst 0, 1) := by decide +kernel
theorem dX1_fill_1 : decode cX1_fill 1 = .ok (.ldc2_w 29, 3) := by decide +kernel
theorem dX1_fill_4 : decode cX1_fill 4 = .ok (.aload_n 0, 1) := by decide +kernel
theorem dX1_fill_5 : decode cX1_fill 5 = .ok (.getfield 22, 3) := by decide +kernel
theorem dX1_fill_8 : decode cX1_fill 8 = .ok (.aload_n 0, 1) := by decide +kernel
theorem dX1_fill_9 : decode cX1_fill 9 = .ok (.getfield 31, 3) := by decide +kernel
theorem dX1_fill_12 : decode cX1_fill 12 = .ok (.isub, 1) := by decide +kernel
theorem dX1_fill_13 : decode cX1_fill 13 = .ok (.i2l, 1) := by decide +kernel
theorem dX1_fill_14 : decode cX1_fill 14 = .ok (.lmul, 1) := by decide +kernel
theorem dX1_fill_15 : decode cX1_fill 15 = .ok (.invokestatic 34, 3) := by decide +kernel
theorem dX1_fill_18 : decode cX1_fill 18 = .ok (.lstore_n 3, 1) := by decide +kernel
theorem dX1_fill_19 : decode cX1_fill 19 = .ok (.aload_n 0, 1) := by decide +kernel
theorem dX1_fill_20 : decode cX1_fill 20 = .ok (.lload_n 3, 1) := by decide +kernel
theorem dX1_fill_21 : decode cX1_fill 21 = .ok (.aload_n 0, 1) := by decide +kernel
theorem dX1_fill_22 : decode cX1_fill 22 = .ok (.getfield 40, 3) := by decide +kernel
theorem dX1_fill_25 : decode cX1_fill 25 = .ok (.i2l, 1) := by decide +kernel
theorem dX1_fill_26 : decode cX1_fill 26 = .ok (.lload_n 1, 1) := by decide +kernel
theorem dX1_fill_27 : decode cX1_fill 27 = .ok (.ladd, 1) := by decide +kernel
theorem dX1_fill_28 : decode cX1_fill 28 = .ok (.invokestatic 43, 3) := by decide +kernel
theorem dX1_fill_31 : decode cX1_fill 31 = .ok (.l2i, 1) := by decide +kernel
theorem dX1_fill_32 : decode cX1_fill 32 = .ok (.putfield 40, 3) := by decide +kernel
theorem dX1_fill_35 : decode cX1_fill 35 = .ok (.return_, 1) := by decide +kernel
set_option maxRecDepth 20000 in
theorem ggX1_pass_Jx4a65c_size_8abf5 : GoodIn wsX1_pass wsJx4a65c_size_8abf5 := goodIn_r _ [9, 10, 76, 77, 78] (by decide +kernel) (by decide +kernel)
set_option maxRecDepth 20000 in
theorem gX1_pass_Jx4a65c_size_8abf5 : GoodIn wsX1_pass (wsV RX1 46 RJx4a65c yJx4a65c_size_8abf5 wsJx4a65c_size_8abf5) := goodIn_app (goodIn_of _ (by decide +kernel)) ggX1_pass_Jx4a65c_size_8abf5
set_option maxRecDepth 20000 in
theorem ggX1_pass_X1_loanThatEndsFirst : GoodIn wsX1_pass wsX1_loanThatEndsFirst := goodIn_r _ [15, 1, 2, 3, 5, 6, 7, 8, 9, 10, 16, 17, 18, 19, 20, 21, 22, 23, 24, 25, 26, 27, 28, 29, 30, 31, 32, 67, 68, 69, 70, 71, 72, 73, 74, 75, 76, 77, 78] (by decide +kernel) (by decide +kernel)
set_option maxRecDepth 20000 in
theorem gX1_pass_X1_loanThatEndsFirst : GoodIn wsX1_pass (wsV RX1 50 RX1 yX1_loanThatEndsFirst wsX1_loanThatEndsFirst) := goodIn_app (goodIn_of _ (by decide +kernel)) ggX1_pass_X1_loanThatEndsFirst
set_option maxRecDepth 20000 in
theorem ggX1_pass_Jx4a65c_get_915e3 : GoodIn wsX1_pass wsJx4a65c_get_915e3 := goodIn_r _ [19, 10, 20, 21, 22, 23, 24, 25, 26, 27, 28, 29, 30, 8, 31, 32, 76, 77, 78] (by decide +kernel) (by decide +kernel)
set_option maxRecDepth 20000 in
theorem gX1_pass_Jx4a65c_get_915e3 : GoodIn wsX1_pass (wsV RX1 53 RJx4a65c yJx4a65c_get_915e3 wsJx4a65c_get_915e3) := goodIn_app (goodIn_of _ (by decide +kernel)) ggX1_pass_Jx4a65c_get_915e3
set_option maxRecDepth 20000 in
theorem ggX1_pass_X1_fill : GoodIn wsX1_pass wsX1_fill := goodIn_r _ [36, 37, 38, 39, 40, 41, 42, 43, 44, 45, 46, 47, 67, 68, 69, 70, 71, 72] (by decide +kernel) (by decide +kernel)
set_option maxRecDepth 20000 in
theorem gX1_pass_X1_fill : GoodIn wsX1_pass (wsV RX1 25 RX1 yX1_fill wsX1_fill) := goodIn_app (goodIn_of _ (by decide +kernel)) ggX1_pass_X1_fill
set_option maxRecDepth 20000 in
theorem ggX1_pass_X1_close : GoodIn wsX1_pass wsX1_close := goodIn_r _ [51, 39, 1, 2, 52, 16, 17, 18, 8, 19, 10, 20, 21, 22, 23, 24, 25, 26, 27, 28, 29, 30, 31, 32, 53, 54, 55, 56, 57, 58, 59, 60, 61, 62, 63, 64, 65, 66, 67, 68, 69, 70, 71, 72, 73, 74, 75, 76, 77, 78] (by decide +kernel) (by decide +kernel)
set_option maxRecDepth 20000 in
theorem gX1_pass_X1_close : GoodIn wsX1_pass (wsV RX1 62 RX1 yX1_close wsX1_close) := goodIn_app (goodIn_of _ (by decide +kernel)) ggX1_pass_X1_close
theorem dX1_pass_0 : decode cX1_pass 0 = .ok (.iload_n 1, 1) := by decide +kernel
theorem dX1_pass_1 : decode cX1_pass 1 = .ok (.istore_n 3, 1) := by decide +kernel
theorem dX1_pass_2 : decode cX1_pass 2 = .ok (.aload_n 0, 1) := by decide +kernel
theorem dX1_pass_3 : decode cX1_pass 3 = .ok (.getfield 12, 3) := by decide +kernel
theorem dX1_pass_6 : decode cX1_pass 6 = .ok (.invokevirtual 46, 3) := by decide +kernel
theorem dX1_pass_9 : decode cX1_pass 9 = .ok (.istore 4, 2) := by decide +kernel
theorem dX1_pass_11 : decode cX1_pass 11 = .ok (.iload 4, 2) := by decide +kernel
theorem dX1_pass_13 : decode cX1_pass 13 = .ok (.ifCond .le 86, 3) := by decide +kernel
theorem dX1_pass_16 : decode cX1_pass 16 = .ok (.aload_n 0, 1) := by decide +kernel
theorem dX1_pass_17 : decode cX1_pass 17 = .ok (.invokevirtual 50, 3) := by decide +kernel
theorem dX1_pass_20 : decode cX1_pass 20 = .ok (.istore 5, 2) := by decide +kernel
theorem dX1_pass_22 : decode cX1_pass 22 = .ok (.iload 5, 2) := by decide +kernel
theorem dX1_pass_24 : decode cX1_pass 24 = .ok (.iconst (-1), 1) := by decide +kernel
theorem dX1_pass_25 : decode cX1_pass 25 = .ok (.if_icmp .eq 74, 3) := by decide +kernel
theorem dX1_pass_28 : decode cX1_pass 28 = .ok (.aload_n 0, 1) := by decide +kernel
theorem dX1_pass_29 : decode cX1_pass 29 = .ok (.getfield 12, 3) := by decide +kernel
theorem dX1_pass_32 : decode cX1_pass 32 = .ok (.iload 5, 2) := by decide +kernel
theorem dX1_pass_34 : decode cX1_pass 34 = .ok (.invokevirtual 53, 3) := by decide +kernel
theorem dX1_pass_37 : decode cX1_pass 37 = .ok (.checkcast 57, 3) := by decide +kernel
theorem dX1_pass_40 : decode cX1_pass 40 = .ok (.getfield 59, 3) := by decide +kernel
theorem dX1_pass_43 : decode cX1_pass 43 = .ok (.iload_n 2, 1) := by decide +kernel
theorem dX1_pass_44 : decode cX1_pass 44 = .ok (.if_icmp .le 6, 3) := by decide +kernel
theorem dX1_pass_47 : decode cX1_pass 47 = .ok (.goto 52, 3) := by decide +kernel
theorem dX1_pass_50 : decode cX1_pass 50 = .ok (.aload_n 0, 1) := by decide +kernel
theorem dX1_pass_51 : decode cX1_pass 51 = .ok (.getfield 12, 3) := by decide +kernel
theorem dX1_pass_54 : decode cX1_pass 54 = .ok (.iload 5, 2) := by decide +kernel
theorem dX1_pass_56 : decode cX1_pass 56 = .ok (.invokevirtual 53, 3) := by decide +kernel
theorem dX1_pass_59 : decode cX1_pass 59 = .ok (.checkcast 57, 3) := by decide +kernel
theorem dX1_pass_62 : decode cX1_pass 62 = .ok (.getfield 59, 3) := by decide +kernel
theorem dX1_pass_65 : decode cX1_pass 65 = .ok (.iconst 1, 1) := by decide +kernel
theorem dX1_pass_66 : decode cX1_pass 66 = .ok (.isub, 1) := by decide +kernel
theorem dX1_pass_67 : decode cX1_pass 67 = .ok (.istore 6, 2) := by decide +kernel
theorem dX1_pass_69 : decode cX1_pass 69 = .ok (.aload_n 0, 1) := by decide +kernel
theorem dX1_pass_70 : decode cX1_pass 70 = .ok (.aload_n 0, 1) := by decide +kernel
theorem dX1_pass_71 : decode cX1_pass 71 = .ok (.getfield 18, 3) := by decide +kernel
theorem dX1_pass_74 : decode cX1_pass 74 = .ok (.i2l, 1) := by decide +kernel
theorem dX1_pass_75 : decode cX1_pass 75 = .ok (.iload 6, 2) := by decide +kernel
theorem dX1_pass_77 : decode cX1_pass 77 = .ok (.iload_n 3, 1) := by decide +kernel
theorem dX1_pass_78 : decode cX1_pass 78 = .ok (.isub, 1) := by decide +kernel
theorem dX1_pass_79 : decode cX1_pass 79 = .ok (.i2l, 1) := by decide +kernel
theorem dX1_pass_80 : decode cX1_pass 80 = .ok (.lmul, 1) := by decide +kernel
theorem dX1_pass_81 : decode cX1_pass 81 = .ok (.invokevirtual 25, 3) := by decide +kernel
theorem dX1_pass_84 : decode cX1_pass 84 = .ok (.aload_n 0, 1) := by decide +kernel
theorem dX1_pass_85 : decode cX1_pass 85 = .ok (.iload 5, 2) := by decide +kernel
theorem dX1_pass_87 : decode cX1_pass 87 = .ok (.invokevirtual 62, 3) := by decide +kernel
theorem dX1_pass_90 : decode cX1_pass 90 = .ok (.iload 6, 2) := by decide +kernel
theorem dX1_pass_92 : decode cX1_pass 92 = .ok (.istore_n 3, 1) := by decide +kernel
theorem dX1_pass_93 : decode cX1_pass 93 = .ok (.iinc 4 (-1), 3) := by decide +kernel
theorem dX1_pass_96 : decode cX1_pass 96 = .ok (.goto (-85), 3) := by decide +kernel
theorem dX1_pass_99 : decode cX1_pass 99 = .ok (.aload_n 0, 1) := by decide +kernel
theorem dX1_pass_100 : decode cX1_pass 100 = .ok (.aload_n 0, 1) := by decide +kernel
theorem dX1_pass_101 : decode cX1_pass 101 = .ok (.getfield 18, 3) := by decide +kernel
theorem dX1_pass_104 : decode cX1_pass 104 = .ok (.i2l, 1) := by decide +kernel
theorem dX1_pass_105 : decode cX1_pass 105 = .ok (.iload_n 2, 1) := by decide +kernel
theorem dX1_pass_106 : decode cX1_pass 106 = .ok (.iload_n 3, 1) := by decide +kernel
theorem dX1_pass_107 : decode cX1_pass 107 = .ok (.isub, 1) := by decide +kernel
theorem dX1_pass_108 : decode cX1_pass 108 = .ok (.i2l, 1) := by decide +kernel
theorem dX1_pass_109 : decode cX1_pass 109 = .ok (.lmul, 1) := by decide +kernel
theorem dX1_pass_110 : decode cX1_pass 110 = .ok (.invokevirtual 25, 3) := by decide +kernel
theorem dX1_pass_113 : decode cX1_pass 113 = .ok (.return_, 1) := by decide +kernel
set_option maxRecDepth 20000 in
theorem ggX1_loanThatEndsFirst_Jx4a65c_size_8abf5 : GoodIn wsX1_loanThatEndsFirst wsJx4a65c_size_8abf5 := goodIn_r _ [8, 9, 36, 37, 38] (by decide +kernel) (by decide +kernel)
set_option maxRecDepth 20000 in
theorem gX1_loanThatEndsFirst_Jx4a65c_size_8abf5 : GoodIn wsX1_loanThatEndsFirst (wsV RX1 46 RJx4a65c yJx4a65c_size_8abf5 wsJx4a65c_size_8abf5) := goodIn_app (goodIn_of _ (by decide +kernel)) ggX1_loanThatEndsFirst_Jx4a65c_size_8abf5
set_option maxRecDepth 20000 in
theorem ggX1_loanThatEndsFirst_Jx4a65c_get_915e3 : GoodIn wsX1_loanThatEndsFirst wsJx4a65c_get_915e3 := goodIn_r _ [13, 9, 14, 15, 16, 17, 18, 19, 20, 21, 22, 23, 24, 7, 25, 26, 36, 37, 38] (by decide +kernel) (by decide +kernel)
set_option maxRecDepth 20000 in
theorem gX1_loanThatEndsFirst_Jx4a65c_get_915e3 : GoodIn wsX1_loanThatEndsFirst (wsV RX1 53 RJx4a65c yJx4a65c_get_915e3 wsJx4a65c_get_915e3) := goodIn_app (goodIn_of _ (by decide +kernel)) ggX1_loanThatEndsFirst_Jx4a65c_get_915e3
theorem dX1_loanThatEndsFirst_0 : decode cX1_loanThatEndsFirst 0 = .ok (.iconst (-1), 1) := by decide +kernel
theorem dX1_loanThatEndsFirst_1 : decode cX1_loanThatEndsFirst 1 = .ok (.istore_n 1, 1) := by decide +kernel
theorem dX1_loanThatEndsFirst_2 : decode cX1_loanThatEndsFirst 2 = .ok (.iconst 0, 1) := by decide +kernel
theorem dX1_loanThatEndsFirst_3 : decode cX1_loanThatEndsFirst 3 = .ok (.istore_n 2, 1) := by decide +kernel
theorem dX1_loanThatEndsFirst_4 : decode cX1_loanThatEndsFirst 4 = .ok (.iload_n 2, 1) := by decide +kernel
theorem dX1_loanThatEndsFirst_5 : decode cX1_loanThatEndsFirst 5 = .ok (.aload_n 0, 1) := by decide +kernel
theorem dX1_loanThatEndsFirst_6 : decode cX1_loanThatEndsFirst 6 = .ok (.getfield 12, 3) := by decide +kernel
theorem dX1_loanThatEndsFirst_9 : decode cX1_loanThatEndsFirst 9 = .ok (.invokevirtual 46, 3) := by decide +kernel
theorem dX1_loanThatEndsFirst_12 : decode cX1_loanThatEndsFirst 12 = .ok (.if_icmp .ge 47, 3) := by decide +kernel
theorem dX1_loanThatEndsFirst_15 : decode cX1_loanThatEndsFirst 15 = .ok (.iload_n 1, 1) := by decide +kernel
theorem dX1_loanThatEndsFirst_16 : decode cX1_loanThatEndsFirst 16 = .ok (.iconst (-1), 1) := by decide +kernel
theorem dX1_loanThatEndsFirst_17 : decode cX1_loanThatEndsFirst 17 = .ok (.if_icmp .eq 34, 3) := by decide +kernel
theorem dX1_loanThatEndsFirst_20 : decode cX1_loanThatEndsFirst 20 = .ok (.aload_n 0, 1) := by decide +kernel
theorem dX1_loanThatEndsFirst_21 : decode cX1_loanThatEndsFirst 21 = .ok (.getfield 12, 3) := by decide +kernel
theorem dX1_loanThatEndsFirst_24 : decode cX1_loanThatEndsFirst 24 = .ok (.iload_n 2, 1) := by decide +kernel
theorem dX1_loanThatEndsFirst_25 : decode cX1_loanThatEndsFirst 25 = .ok (.invokevirtual 53, 3) := by decide +kernel
theorem dX1_loanThatEndsFirst_28 : decode cX1_loanThatEndsFirst 28 = .ok (.checkcast 57, 3) := by decide +kernel
theorem dX1_loanThatEndsFirst_31 : decode cX1_loanThatEndsFirst 31 = .ok (.getfield 59, 3) := by decide +kernel
theorem dX1_loanThatEndsFirst_34 : decode cX1_loanThatEndsFirst 34 = .ok (.aload_n 0, 1) := by decide +kernel
theorem dX1_loanThatEndsFirst_35 : decode cX1_loanThatEndsFirst 35 = .ok (.getfield 12, 3) := by decide +kernel
theorem dX1_loanThatEndsFirst_38 : decode cX1_loanThatEndsFirst 38 = .ok (.iload_n 1, 1) := by decide +kernel
theorem dX1_loanThatEndsFirst_39 : decode cX1_loanThatEndsFirst 39 = .ok (.invokevirtual 53, 3) := by decide +kernel
theorem dX1_loanThatEndsFirst_42 : decode cX1_loanThatEndsFirst 42 = .ok (.checkcast 57, 3) := by decide +kernel
theorem dX1_loanThatEndsFirst_45 : decode cX1_loanThatEndsFirst 45 = .ok (.getfield 59, 3) := by decide +kernel
theorem dX1_loanThatEndsFirst_48 : decode cX1_loanThatEndsFirst 48 = .ok (.if_icmp .ge 5, 3) := by decide +kernel
theorem dX1_loanThatEndsFirst_51 : decode cX1_loanThatEndsFirst 51 = .ok (.iload_n 2, 1) := by decide +kernel
theorem dX1_loanThatEndsFirst_52 : decode cX1_loanThatEndsFirst 52 = .ok (.istore_n 1, 1) := by decide +kernel
theorem dX1_loanThatEndsFirst_53 : decode cX1_loanThatEndsFirst 53 = .ok (.iinc 2 1, 3) := by decide +kernel
theorem dX1_loanThatEndsFirst_56 : decode cX1_loanThatEndsFirst 56 = .ok (.goto (-52), 3) := by decide +kernel
theorem dX1_loanThatEndsFirst_59 : decode cX1_loanThatEndsFirst 59 = .ok (.iload_n 1, 1) := by decide +kernel
theorem dX1_loanThatEndsFirst_60 : decode cX1_loanThatEndsFirst 60 = .ok (.ireturn, 1) := by decide +kernel
set_option maxRecDepth 20000 in
theorem ggX1_close_Jx4a65c_get_915e3 : GoodIn wsX1_close wsJx4a65c_get_915e3 := goodIn_r _ [9, 10, 11, 12, 13, 14, 15, 16, 17, 18, 19, 20, 21, 8, 22, 23, 47, 48, 49] (by decide +kernel) (by decide +kernel)
set_option maxRecDepth 20000 in
theorem gX1_close_Jx4a65c_get_915e3 : GoodIn wsX1_close (wsV RX1 53 RJx4a65c yJx4a65c_get_915e3 wsJx4a65c_get_915e3) := goodIn_app (goodIn_of _ (by decide +kernel)) ggX1_close_Jx4a65c_get_915e3
set_option maxRecDepth 20000 in
theorem ggX1_close_Jx4a65c_remove_915e3 : GoodIn wsX1_close wsJx4a65c_remove_915e3 := goodIn_r _ [27, 10, 23, 11, 12, 13, 14, 15, 16, 17, 18, 28, 29, 30, 8, 31, 32, 33, 34, 35, 36, 37, 47, 48, 49] (by decide +kernel) (by decide +kernel)
set_option maxRecDepth 20000 in
theorem gX1_close_Jx4a65c_remove_915e3 : GoodIn wsX1_close (wsV RX1 69 RJx4a65c yJx4a65c_remove_915e3 wsJx4a65c_remove_915e3) := goodIn_app (goodIn_of _ (by decide +kernel)) ggX1_close_Jx4a65c_remove_915e3
theorem dX1_close_0 : decode cX1_close 0 = .ok (.aload_n 0, 1) := by decide +kernel
theorem dX1_close_1 : decode cX1_close 1 = .ok (.dup, 1) := by decide +kernel
theorem dX1_close_2 : decode cX1_close 2 = .ok (.getfield 31, 3) := by decide +kernel
theorem dX1_close_5 : decode cX1_close 5 = .ok (.aload_n 0, 1) := by decide +kernel
theorem dX1_close_6 : decode cX1_close 6 = .ok (.getfield 12, 3) := by decide +kernel
theorem dX1_close_9 : decode cX1_close 9 = .ok (.iload_n 1, 1) := by decide +kernel
theorem dX1_close_10 : decode cX1_close 10 = .ok (.invokevirtual 53, 3) := by decide +kernel
theorem dX1_close_13 : decode cX1_close 13 = .ok (.checkcast 57, 3) := by decide +kernel
theorem dX1_close_16 : decode cX1_close 16 = .ok (.getfield 66, 3) := by decide +kernel
theorem dX1_close_19 : decode cX1_close 19 = .ok (.isub, 1) := by decide +kernel
theorem dX1_close_20 : decode cX1_close 20 = .ok (.putfield 31, 3) := by decide +kernel
theorem dX1_close_23 : decode cX1_close 23 = .ok (.aload_n 0, 1) := by decide +kernel
theorem dX1_close_24 : decode cX1_close 24 = .ok (.getfield 12, 3) := by decide +kernel
theorem dX1_close_27 : decode cX1_close 27 = .ok (.iload_n 1, 1) := by decide +kernel
theorem dX1_close_28 : decode cX1_close 28 = .ok (.invokevirtual 69, 3) := by decide +kernel
theorem dX1_close_31 : decode cX1_close 31 = .ok (.pop, 1) := by decide +kernel
theorem dX1_close_32 : decode cX1_close 32 = .ok (.return_, 1) := by decide +kernel
theorem dX1_free_0 : decode cX1_free 0 = .ok (.aload_n 0, 1) := by decide +kernel
theorem dX1_free_1 : decode cX1_free 1 = .ok (.getfield 40, 3) := by decide +kernel
theorem dX1_free_4 : decode cX1_free 4 = .ok (.sipush 1000, 3) := by decide +kernel
theorem dX1_free_7 : decode cX1_free 7 = .ok (.idiv, 1) := by decide +kernel
theorem dX1_free_8 : decode cX1_free 8 = .ok (.ireturn, 1) := by decide +kernel
set_option maxRecDepth 20000 in
theorem ggX1_lend_X5_init : GoodIn wsX1_lend wsX5_init := goodIn_r _ [9, 10, 11, 12, 13, 14, 15, 78, 79, 80] (by decide +kernel) (by decide +kernel)
set_option maxRecDepth 20000 in
theorem gX1_lend_X5_init : GoodIn wsX1_lend (wsX5_init) := ggX1_lend_X5_init
set_option maxRecDepth 20000 in
theorem ggX1_lend_Jx4a65c_add_9ea2d : GoodIn wsX1_lend wsJx4a65c_add_9ea2d := goodIn_r _ [20, 21, 22, 23, 24, 25, 26, 27, 19, 28, 29, 30, 31, 32, 33, 34, 35, 36, 37, 38, 39, 40, 41, 42, 43, 44, 45, 46, 47, 48, 49, 50, 51, 52, 53, 54, 55, 56, 57, 58, 59, 60, 61, 62, 63, 64, 65, 66, 67, 68, 69, 70, 71, 81, 82, 83] (by decide +kernel) (by decide +kernel)
set_option maxRecDepth 20000 in
theorem gX1_lend_Jx4a65c_add_9ea2d : GoodIn wsX1_lend (wsV RX1 75 RJx4a65c yJx4a65c_add_9ea2d wsJx4a65c_add_9ea2d) := goodIn_app (goodIn_of _ (by decide +kernel)) ggX1_lend_Jx4a65c_add_9ea2d
theorem dX1_lend_0 : decode cX1_lend 0 = .ok (.aload_n 0, 1) := by decide +kernel
theorem dX1_lend_1 : decode cX1_lend 1 = .ok (.dup, 1) := by decide +kernel
theorem dX1_lend_2 : decode cX1_lend 2 = .ok (.getfield 40, 3) := by decide +kernel
theorem dX1_lend_5 : decode cX1_lend 5 = .ok (.sipush 1000, 3) := by decide +kernel
theorem dX1_lend_8 : decode cX1_lend 8 = .ok (.iload_n 2, 1) := by decide +kernel
theorem dX1_lend_9 : decode cX1_lend 9 = .ok (.imul, 1) := by decide +kernel
theorem dX1_lend_10 : decode cX1_lend 10 = .ok (.isub, 1) := by decide +kernel
theorem dX1_lend_11 : decode cX1_lend 11 = .ok (.putfield 40, 3) := by decide +kernel
theorem dX1_lend_14 : decode cX1_lend 14 = .ok (.aload_n 0, 1) := by decide +kernel
theorem dX1_lend_15 : decode cX1_lend 15 = .ok (.dup, 1) := by decide +kernel
theorem dX1_lend_16 : decode cX1_lend 16 = .ok (.getfield 31, 3) := by decide +kernel
theorem dX1_lend_19 : decode cX1_lend 19 = .ok (.iload_n 2, 1) := by decide +kernel
theorem dX1_lend_20 : decode cX1_lend 20 = .ok (.iadd, 1) := by decide +kernel
theorem dX1_lend_21 : decode cX1_lend 21 = .ok (.putfield 31, 3) := by decide +kernel
theorem dX1_lend_24 : decode cX1_lend 24 = .ok (.aload_n 0, 1) := by decide +kernel
theorem dX1_lend_25 : decode cX1_lend 25 = .ok (.getfield 12, 3) := by decide +kernel
theorem dX1_lend_28 : decode cX1_lend 28 = .ok (.new 57, 3) := by decide +kernel
theorem dX1_lend_31 : decode cX1_lend 31 = .ok (.dup, 1) := by decide +kernel
theorem dX1_lend_32 : decode cX1_lend 32 = .ok (.iload_n 1, 1) := by decide +kernel
theorem dX1_lend_33 : decode cX1_lend 33 = .ok (.iload_n 2, 1) := by decide +kernel
theorem dX1_lend_34 : decode cX1_lend 34 = .ok (.iload_n 3, 1) := by decide +kernel
theorem dX1_lend_35 : decode cX1_lend 35 = .ok (.invokespecial 72, 3) := by decide +kernel
theorem dX1_lend_38 : decode cX1_lend 38 = .ok (.invokevirtual 75, 3) := by decide +kernel
theorem dX1_lend_41 : decode cX1_lend 41 = .ok (.pop, 1) := by decide +kernel
theorem dX1_lend_42 : decode cX1_lend 42 = .ok (.return_, 1) := by decide +kernel
set_option maxRecDepth 20000 in
theorem ggX1_bringBack_Jx4a65c_size_8abf5 : GoodIn wsX1_bringBack wsJx4a65c_size_8abf5 := goodIn_r _ [9, 10, 71, 72, 73] (by decide +kernel) (by decide +kernel)
set_option maxRecDepth 20000 in
theorem gX1_bringBack_Jx4a65c_size_8abf5 : GoodIn wsX1_bringBack (wsV RX1 46 RJx4a65c yJx4a65c_size_8abf5 wsJx4a65c_size_8abf5) := goodIn_app (goodIn_of _ (by decide +kernel)) ggX1_bringBack_Jx4a65c_size_8abf5
set_option maxRecDepth 20000 in
theorem ggX1_bringBack_Jx4a65c_get_915e3 : GoodIn wsX1_bringBack wsJx4a65c_get_915e3 := goodIn_r _ [14, 10, 15, 16, 17, 18, 19, 20, 21, 22, 23, 24, 25, 8, 26, 27, 71, 72, 73] (by decide +kernel) (by decide +kernel)
set_option maxRecDepth 20000 in
theorem gX1_bringBack_Jx4a65c_get_915e3 : GoodIn wsX1_bringBack (wsV RX1 53 RJx4a65c yJx4a65c_get_915e3 wsJx4a65c_get_915e3) := goodIn_app (goodIn_of _ (by decide +kernel)) ggX1_bringBack_Jx4a65c_get_915e3
set_option maxRecDepth 20000 in
theorem ggX1_bringBack_X1_close : GoodIn wsX1_bringBack wsX1_close := goodIn_r _ [32, 33, 1, 2, 34, 11, 12, 13, 8, 14, 10, 15, 16, 17, 18, 19, 20, 21, 22, 23, 24, 25, 26, 27, 35, 36, 37, 38, 39, 40, 41, 42, 43, 44, 45, 46, 47, 48, 62, 63, 64, 65, 66, 67, 68, 69, 70, 71, 72, 73] (by decide +kernel) (by decide +kernel)
set_option maxRecDepth 20000 in
theorem gX1_bringBack_X1_close : GoodIn wsX1_bringBack (wsV RX1 62 RX1 yX1_close wsX1_close) := goodIn_app (goodIn_of _ (by decide +kernel)) ggX1_bringBack_X1_close
set_option maxRecDepth 20000 in
theorem ggX1_bringBack_X1_fill : GoodIn wsX1_bringBack wsX1_fill := goodIn_r _ [52, 4, 53, 33, 54, 55, 56, 57, 58, 59, 60, 61, 62, 63, 64, 65, 66, 67] (by decide +kernel) (by decide +kernel)
set_option maxRecDepth 20000 in
theorem gX1_bringBack_X1_fill : GoodIn wsX1_bringBack (wsV RX1 25 RX1 yX1_fill wsX1_fill) := goodIn_app (goodIn_of _ (by decide +kernel)) ggX1_bringBack_X1_fill
theorem dX1_bringBack_0 : decode cX1_bringBack 0 = .ok (.iconst 0, 1) := by decide +kernel
theorem dX1_bringBack_1 : decode cX1_bringBack 1 = .ok (.istore_n 3, 1) := by decide +kernel
theorem dX1_bringBack_2 : decode cX1_bringBack 2 = .ok (.iload_n 3, 1) := by decide +kernel
theorem dX1_bringBack_3 : decode cX1_bringBack 3 = .ok (.aload_n 0, 1) := by decide +kernel
theorem dX1_bringBack_4 : decode cX1_bringBack 4 = .ok (.getfield 12, 3) := by decide +kernel
theorem dX1_bringBack_7 : decode cX1_bringBack 7 = .ok (.invokevirtual 46, 3) := by decide +kernel
theorem dX1_bringBack_10 : decode cX1_bringBack 10 = .ok (.if_icmp .ge 44, 3) := by decide +kernel
theorem dX1_bringBack_13 : decode cX1_bringBack 13 = .ok (.aload_n 0, 1) := by decide +kernel
theorem dX1_bringBack_14 : decode cX1_bringBack 14 = .ok (.getfield 12, 3) := by decide +kernel
theorem dX1_bringBack_17 : decode cX1_bringBack 17 = .ok (.iload_n 3, 1) := by decide +kernel
theorem dX1_bringBack_18 : decode cX1_bringBack 18 = .ok (.invokevirtual 53, 3) := by decide +kernel
theorem dX1_bringBack_21 : decode cX1_bringBack 21 = .ok (.checkcast 57, 3) := by decide +kernel
theorem dX1_bringBack_24 : decode cX1_bringBack 24 = .ok (.getfield 79, 3) := by decide +kernel
theorem dX1_bringBack_27 : decode cX1_bringBack 27 = .ok (.iload_n 1, 1) := by decide +kernel
theorem dX1_bringBack_28 : decode cX1_bringBack 28 = .ok (.if_icmp .ne 20, 3) := by decide +kernel
theorem dX1_bringBack_31 : decode cX1_bringBack 31 = .ok (.aload_n 0, 1) := by decide +kernel
theorem dX1_bringBack_32 : decode cX1_bringBack 32 = .ok (.iload_n 3, 1) := by decide +kernel
theorem dX1_bringBack_33 : decode cX1_bringBack 33 = .ok (.invokevirtual 62, 3) := by decide +kernel
theorem dX1_bringBack_36 : decode cX1_bringBack 36 = .ok (.aload_n 0, 1) := by decide +kernel
theorem dX1_bringBack_37 : decode cX1_bringBack 37 = .ok (.ldc2_w 29, 3) := by decide +kernel
theorem dX1_bringBack_40 : decode cX1_bringBack 40 = .ok (.iload_n 2, 1) := by decide +kernel
theorem dX1_bringBack_41 : decode cX1_bringBack 41 = .ok (.i2l, 1) := by decide +kernel
theorem dX1_bringBack_42 : decode cX1_bringBack 42 = .ok (.lmul, 1) := by decide +kernel
theorem dX1_bringBack_43 : decode cX1_bringBack 43 = .ok (.invokevirtual 25, 3) := by decide +kernel
theorem dX1_bringBack_46 : decode cX1_bringBack 46 = .ok (.iconst 1, 1) := by decide +kernel
theorem dX1_bringBack_47 : decode cX1_bringBack 47 = .ok (.ireturn, 1) := by decide +kernel
theorem dX1_bringBack_48 : decode cX1_bringBack 48 = .ok (.iinc 3 1, 3) := by decide +kernel
theorem dX1_bringBack_51 : decode cX1_bringBack 51 = .ok (.goto (-49), 3) := by decide +kernel
theorem dX1_bringBack_54 : decode cX1_bringBack 54 = .ok (.iconst 0, 1) := by decide +kernel
theorem dX1_bringBack_55 : decode cX1_bringBack 55 = .ok (.ireturn, 1) := by decide +kernel
set_option maxRecDepth 20000 in
theorem ggX2_init_Jx4a65c_init_da8c8 : GoodIn wsX2_init wsJx4a65c_init_da8c8 := goodIn_r _ [12, 13, 14, 15, 16, 17, 18, 19, 20, 21, 22, 23, 24, 2, 3, 25, 26, 27] (by decide +kernel) (by decide +kernel)
set_option maxRecDepth 20000 in
theorem gX2_init_Jx4a65c_init_da8c8 : GoodIn wsX2_init (wsJx4a65c_init_da8c8) := ggX2_init_Jx4a65c_init_da8c8
theorem dX2_init_0 : decode cX2_init 0 = .ok (.aload_n 0, 1) := by decide +kernel
theorem dX2_init_1 : decode cX2_init 1 = .ok (.invokespecial 3, 3) := by decide +kernel
theorem dX2_init_4 : decode cX2_init 4 = .ok (.aload_n 0, 1) := by decide +kernel
theorem dX2_init_5 : decode cX2_init 5 = .ok (.new 9, 3) := by decide +kernel
theorem dX2_init_8 : decode cX2_init 8 = .ok (.dup, 1) := by decide +kernel
theorem dX2_init_9 : decode cX2_init 9 = .ok (.invokespecial 11, 3) := by decide +kernel
theorem dX2_init_12 : decode cX2_init 12 = .ok (.putfield 12, 3) := by decide +kernel
theorem dX2_init_15 : decode cX2_init 15 = .ok (.aload_n 0, 1) := by decide +kernel
theorem dX2_init_16 : decode cX2_init 16 = .ok (.iload_n 1, 1) := by decide +kernel
theorem dX2_init_17 : decode cX2_init 17 = .ok (.putfield 18, 3) := by decide +kernel
theorem dX2_init_20 : decode cX2_init 20 = .ok (.aload_n 0, 1) := by decide +kernel
theorem dX2_init_21 : decode cX2_init 21 = .ok (.iload_n 2, 1) := by decide +kernel
theorem dX2_init_22 : decode cX2_init 22 = .ok (.putfield 22, 3) := by decide +kernel
theorem dX2_init_25 : decode cX2_init 25 = .ok (.return_, 1) := by decide +kernel
set_option maxRecDepth 20000 in
theorem ggX2_clear_Jx4a65c_clear_da8c8 : GoodIn wsX2_clear wsJx4a65c_clear_da8c8 := goodIn_r _ [12, 13, 14, 15, 16, 26, 27, 28] (by decide +kernel) (by decide +kernel)
set_option maxRecDepth 20000 in
theorem gX2_clear_Jx4a65c_clear_da8c8 : GoodIn wsX2_clear (wsV RX2 25 RJx4a65c yJx4a65c_clear_da8c8 wsJx4a65c_clear_da8c8) := goodIn_app (goodIn_of _ (by decide +kernel)) ggX2_clear_Jx4a65c_clear_da8c8
theorem dX2_clear_0 : decode cX2_clear 0 = .ok (.aload_n 0, 1) := by decide +kernel
theorem dX2_clear_1 : decode cX2_clear 1 = .ok (.getfield 12, 3) := by decide +kernel
theorem dX2_clear_4 : decode cX2_clear 4 = .ok (.invokevirtual 25, 3) := by decide +kernel
theorem dX2_clear_7 : decode cX2_clear 7 = .ok (.aload_n 0, 1) := by decide +kernel
theorem dX2_clear_8 : decode cX2_clear 8 = .ok (.iconst 0, 1) := by decide +kernel
theorem dX2_clear_9 : decode cX2_clear 9 = .ok (.putfield 28, 3) := by decide +kernel
theorem dX2_clear_12 : decode cX2_clear 12 = .ok (.aload_n 0, 1) := by decide +kernel
theorem dX2_clear_13 : decode cX2_clear 13 = .ok (.iconst 0, 1) := by decide +kernel
theorem dX2_clear_14 : decode cX2_clear 14 = .ok (.putfield 31, 3) := by decide +kernel
theorem dX2_clear_17 : decode cX2_clear 17 = .ok (.aload_n 0, 1) := by decide +kernel
theorem dX2_clear_18 : decode cX2_clear 18 = .ok (.iconst 0, 1) := by decide +kernel
theorem dX2_clear_19 : decode cX2_clear 19 = .ok (.putfield 34, 3) := by decide +kernel
theorem dX2_clear_22 : decode cX2_clear 22 = .ok (.aload_n 0, 1) := by decide +kernel
theorem dX2_clear_23 : decode cX2_clear 23 = .ok (.iconst 0, 1) := by decide +kernel
theorem dX2_clear_24 : decode cX2_clear 24 = .ok (.putfield 37, 3) := by decide +kernel
theorem dX2_clear_27 : decode cX2_clear 27 = .ok (.aload_n 0, 1) := by decide +kernel
theorem dX2_clear_28 : decode cX2_clear 28 = .ok (.iconst 0, 1) := by decide +kernel
theorem dX2_clear_29 : decode cX2_clear 29 = .ok (.putfield 41, 3) := by decide +kernel
theorem dX2_clear_32 : decode cX2_clear 32 = .ok (.aload_n 0, 1) := by decide +kernel
theorem dX2_clear_33 : decode cX2_clear 33 = .ok (.iconst 0, 1) := by decide +kernel
theorem dX2_clear_34 : decode cX2_clear 34 = .ok (.putfield 44, 3) := by decide +kernel
theorem dX2_clear_37 : decode cX2_clear 37 = .ok (.return_, 1) := by decide +kernel
set_option maxRecDepth 20000 in
theorem ggX2_liveTokens_Jx4a65c_size_8abf5 : GoodIn wsX2_liveTokens wsJx4a65c_size_8abf5 := goodIn_r _ [8, 9, 47, 48, 49] (by decide +kernel) (by decide +kernel)
set_option maxRecDepth 20000 in
theorem gX2_liveTokens_Jx4a65c_size_8abf5 : GoodIn wsX2_liveTokens (wsV RX2 47 RJx4a65c yJx4a65c_size_8abf5 wsJx4a65c_size_8abf5) := goodIn_app (goodIn_of _ (by decide +kernel)) ggX2_liveTokens_Jx4a65c_size_8abf5
set_option maxRecDepth 20000 in
theorem ggX2_liveTokens_Jx4a65c_get_915e3 : GoodIn wsX2_liveTokens wsJx4a65c_get_915e3 := goodIn_r _ [13, 9, 14, 15, 16, 17, 18, 19, 20, 21, 22, 23, 24, 7, 25, 26, 47, 48, 49] (by decide +kernel) (by decide +kernel)
set_option maxRecDepth 20000 in
theorem gX2_liveTokens_Jx4a65c_get_915e3 : GoodIn wsX2_liveTokens (wsV RX2 51 RJx4a65c yJx4a65c_get_915e3 wsJx4a65c_get_915e3) := goodIn_app (goodIn_of _ (by decide +kernel)) ggX2_liveTokens_Jx4a65c_get_915e3
set_option maxRecDepth 20000 in
theorem ggX2_liveTokens_X4_isLive : GoodIn wsX2_liveTokens wsX4_isLive := goodIn_r _ [31, 32, 33, 43, 44, 45, 46] (by decide +kernel) (by decide +kernel)
set_option maxRecDepth 20000 in
theorem gX2_liveTokens_X4_isLive : GoodIn wsX2_liveTokens (wsV RX2 57 RX4 yX4_isLive wsX4_isLive) := goodIn_app (goodIn_of _ (by decide +kernel)) ggX2_liveTokens_X4_isLive
theorem dX2_liveTokens_0 : decode cX2_liveTokens 0 = .ok (.iconst 0, 1) := by decide +kernel
theorem dX2_liveTokens_1 : decode cX2_liveTokens 1 = .ok (.istore_n 2, 1) := by decide +kernel
theorem dX2_liveTokens_2 : decode cX2_liveTokens 2 = .ok (.iconst 0, 1) := by decide +kernel
theorem dX2_liveTokens_3 : decode cX2_liveTokens 3 = .ok (.istore_n 3, 1) := by decide +kernel
theorem dX2_liveTokens_4 : decode cX2_liveTokens 4 = .ok (.iload_n 3, 1) := by decide +kernel
theorem dX2_liveTokens_5 : decode cX2_liveTokens 5 = .ok (.aload_n 0, 1) := by decide +kernel
theorem dX2_liveTokens_6 : decode cX2_liveTokens 6 = .ok (.getfield 12, 3) := by decide +kernel
theorem dX2_liveTokens_9 : decode cX2_liveTokens 9 = .ok (.invokevirtual 47, 3) := by decide +kernel
theorem dX2_liveTokens_12 : decode cX2_liveTokens 12 = .ok (.if_icmp .ge 39, 3) := by decide +kernel
theorem dX2_liveTokens_15 : decode cX2_liveTokens 15 = .ok (.aload_n 0, 1) := by decide +kernel
theorem dX2_liveTokens_16 : decode cX2_liveTokens 16 = .ok (.getfield 12, 3) := by decide +kernel
theorem dX2_liveTokens_19 : decode cX2_liveTokens 19 = .ok (.iload_n 3, 1) := by decide +kernel
theorem dX2_liveTokens_20 : decode cX2_liveTokens 20 = .ok (.invokevirtual 51, 3) := by decide +kernel
theorem dX2_liveTokens_23 : decode cX2_liveTokens 23 = .ok (.checkcast 55, 3) := by decide +kernel
theorem dX2_liveTokens_26 : decode cX2_liveTokens 26 = .ok (.astore 4, 2) := by decide +kernel
theorem dX2_liveTokens_28 : decode cX2_liveTokens 28 = .ok (.aload 4, 2) := by decide +kernel
theorem dX2_liveTokens_30 : decode cX2_liveTokens 30 = .ok (.iload_n 1, 1) := by decide +kernel
theorem dX2_liveTokens_31 : decode cX2_liveTokens 31 = .ok (.invokevirtual 57, 3) := by decide +kernel
theorem dX2_liveTokens_34 : decode cX2_liveTokens 34 = .ok (.ifCond .eq 11, 3) := by decide +kernel
theorem dX2_liveTokens_37 : decode cX2_liveTokens 37 = .ok (.iload_n 2, 1) := by decide +kernel
theorem dX2_liveTokens_38 : decode cX2_liveTokens 38 = .ok (.aload 4, 2) := by decide +kernel
theorem dX2_liveTokens_40 : decode cX2_liveTokens 40 = .ok (.getfield 61, 3) := by decide +kernel
theorem dX2_liveTokens_43 : decode cX2_liveTokens 43 = .ok (.iadd, 1) := by decide +kernel
theorem dX2_liveTokens_44 : decode cX2_liveTokens 44 = .ok (.istore_n 2, 1) := by decide +kernel
theorem dX2_liveTokens_45 : decode cX2_liveTokens 45 = .ok (.iinc 3 1, 3) := by decide +kernel
theorem dX2_liveTokens_48 : decode cX2_liveTokens 48 = .ok (.goto (-44), 3) := by decide +kernel
theorem dX2_liveTokens_51 : decode cX2_liveTokens 51 = .ok (.iload_n 2, 1) := by decide +kernel
theorem dX2_liveTokens_52 : decode cX2_liveTokens 52 = .ok (.ireturn, 1) := by decide +kernel
set_option maxRecDepth 20000 in
theorem ggX2_spend_X2_liveTokens : GoodIn wsX2_spend wsX2_liveTokens := goodIn_r _ [7, 8, 9, 10, 11, 12, 13, 14, 15, 16, 17, 18, 19, 20, 21, 22, 23, 24, 25, 26, 27, 28, 29, 30, 31, 32, 33, 34, 35, 36, 37, 38, 39, 40, 71, 72, 73, 74, 75, 76, 77, 78, 79, 80, 81, 82, 83, 84, 85, 86] (by decide +kernel) (by decide +kernel)
set_option maxRecDepth 20000 in
theorem gX2_spend_X2_liveTokens : GoodIn wsX2_spend (wsV RX2 64 RX2 yX2_liveTokens wsX2_liveTokens) := goodIn_app (goodIn_of _ (by decide +kernel)) ggX2_spend_X2_liveTokens
set_option maxRecDepth 20000 in
theorem ggX2_spend_X2_takeOut : GoodIn wsX2_spend wsX2_takeOut := goodIn_r _ [44, 8, 9, 10, 45, 46, 47, 48, 11, 12, 13, 14, 15, 16, 49, 50, 51, 6, 52, 17, 18, 19, 20, 21, 22, 23, 24, 25, 26, 27, 28, 29, 30, 31, 32, 33, 34, 35, 36, 37, 38, 39, 40, 53, 54, 55, 56, 57, 58, 59, 60, 61, 62, 63, 64, 65, 66, 67, 68, 69, 70, 71, 72, 73, 74, 75, 76, 77, 78, 79, 80, 81, 82, 83, 84, 85, 86] (by decide +kernel) (by decide +kernel)
set_option maxRecDepth 20000 in
theorem gX2_spend_X2_takeOut : GoodIn wsX2_spend (wsV RX2 68 RX2 yX2_takeOut wsX2_takeOut) := goodIn_app (goodIn_of _ (by decide +kernel)) ggX2_spend_X2_takeOut
theorem dX2_spend_0 : decode cX2_spend 0 = .ok (.aload_n 0, 1) := by decide +kernel
theorem dX2_spend_1 : decode cX2_spend 1 = .ok (.dup, 1) := by decide +kernel
theorem dX2_spend_2 : decode cX2_spend 2 = .ok (.getfield 31, 3) := by decide +kernel
theorem dX2_spend_5 : decode cX2_spend 5 = .ok (.iload_n 1, 1) := by decide +kernel
theorem dX2_spend_6 : decode cX2_spend 6 = .ok (.iadd, 1) := by decide +kernel
theorem dX2_spend_7 : decode cX2_spend 7 = .ok (.putfield 31, 3) := by decide +kernel
theorem dX2_spend_10 : decode cX2_spend 10 = .ok (.aload_n 0, 1) := by decide +kernel
theorem dX2_spend_11 : decode cX2_spend 11 = .ok (.iload_n 2, 1) := by decide +kernel
theorem dX2_spend_12 : decode cX2_spend 12 = .ok (.invokevirtual 64, 3) := by decide +kernel
theorem dX2_spend_15 : decode cX2_spend 15 = .ok (.iload_n 1, 1) := by decide +kernel
theorem dX2_spend_16 : decode cX2_spend 16 = .ok (.if_icmp .ge 15, 3) := by decide +kernel
theorem dX2_spend_19 : decode cX2_spend 19 = .ok (.aload_n 0, 1) := by decide +kernel
theorem dX2_spend_20 : decode cX2_spend 20 = .ok (.dup, 1) := by decide +kernel
theorem dX2_spend_21 : decode cX2_spend 21 = .ok (.getfield 44, 3) := by decide +kernel
theorem dX2_spend_24 : decode cX2_spend 24 = .ok (.iconst 1, 1) := by decide +kernel
theorem dX2_spend_25 : decode cX2_spend 25 = .ok (.iadd, 1) := by decide +kernel
theorem dX2_spend_26 : decode cX2_spend 26 = .ok (.putfield 44, 3) := by decide +kernel
theorem dX2_spend_29 : decode cX2_spend 29 = .ok (.iconst 0, 1) := by decide +kernel
theorem dX2_spend_30 : decode cX2_spend 30 = .ok (.ireturn, 1) := by decide +kernel
theorem dX2_spend_31 : decode cX2_spend 31 = .ok (.aload_n 0, 1) := by decide +kernel
theorem dX2_spend_32 : decode cX2_spend 32 = .ok (.iconst 0, 1) := by decide +kernel
theorem dX2_spend_33 : decode cX2_spend 33 = .ok (.putfield 44, 3) := by decide +kernel
theorem dX2_spend_36 : decode cX2_spend 36 = .ok (.aload_n 0, 1) := by decide +kernel
theorem dX2_spend_37 : decode cX2_spend 37 = .ok (.iload_n 1, 1) := by decide +kernel
theorem dX2_spend_38 : decode cX2_spend 38 = .ok (.iload_n 2, 1) := by decide +kernel
theorem dX2_spend_39 : decode cX2_spend 39 = .ok (.invokevirtual 68, 3) := by decide +kernel
theorem dX2_spend_42 : decode cX2_spend 42 = .ok (.iconst 1, 1) := by decide +kernel
theorem dX2_spend_43 : decode cX2_spend 43 = .ok (.ireturn, 1) := by decide +kernel
set_option maxRecDepth 20000 in
theorem ggX2_takeOut_Jx4a65c_size_8abf5 : GoodIn wsX2_takeOut wsJx4a65c_size_8abf5 := goodIn_r _ [12, 13, 74, 75, 76] (by decide +kernel) (by decide +kernel)
set_option maxRecDepth 20000 in
theorem gX2_takeOut_Jx4a65c_size_8abf5 : GoodIn wsX2_takeOut (wsV RX2 47 RJx4a65c yJx4a65c_size_8abf5 wsJx4a65c_size_8abf5) := goodIn_app (goodIn_of _ (by decide +kernel)) ggX2_takeOut_Jx4a65c_size_8abf5
set_option maxRecDepth 20000 in
theorem ggX2_takeOut_X2_liveHoldThatEndsFirst : GoodIn wsX2_takeOut wsX2_liveHoldThatEndsFirst := goodIn_r _ [18, 1, 2, 8, 9, 10, 11, 12, 13, 19, 20, 21, 22, 23, 24, 25, 26, 27, 28, 29, 30, 31, 32, 33, 34, 35, 36, 37, 38, 39, 40, 41, 42, 43, 44, 45, 46, 61, 62, 63, 64, 65, 66, 67, 68, 69, 74, 75, 76, 70, 71, 72, 73] (by decide +kernel) (by decide +kernel)
set_option maxRecDepth 20000 in
theorem gX2_takeOut_X2_liveHoldThatEndsFirst : GoodIn wsX2_takeOut (wsV RX2 72 RX2 yX2_liveHoldThatEndsFirst wsX2_liveHoldThatEndsFirst) := goodIn_app (goodIn_of _ (by decide +kernel)) ggX2_takeOut_X2_liveHoldThatEndsFirst
set_option maxRecDepth 20000 in
theorem ggX2_takeOut_Jx4a65c_get_915e3 : GoodIn wsX2_takeOut wsJx4a65c_get_915e3 := goodIn_r _ [22, 13, 23, 24, 25, 26, 27, 28, 29, 30, 31, 32, 33, 11, 34, 35, 74, 75, 76] (by decide +kernel) (by decide +kernel)
set_option maxRecDepth 20000 in
theorem gX2_takeOut_Jx4a65c_get_915e3 : GoodIn wsX2_takeOut (wsV RX2 51 RJx4a65c yJx4a65c_get_915e3 wsJx4a65c_get_915e3) := goodIn_app (goodIn_of _ (by decide +kernel)) ggX2_takeOut_Jx4a65c_get_915e3
set_option maxRecDepth 20000 in
theorem ggX2_takeOut_Jx4a65c_remove_915e3 : GoodIn wsX2_takeOut wsJx4a65c_remove_915e3 := goodIn_r _ [50, 13, 35, 23, 24, 25, 26, 27, 28, 29, 30, 51, 52, 53, 11, 54, 55, 56, 57, 58, 59, 60, 74, 75, 76] (by decide +kernel) (by decide +kernel)
set_option maxRecDepth 20000 in
theorem gX2_takeOut_Jx4a65c_remove_915e3 : GoodIn wsX2_takeOut (wsV RX2 81 RJx4a65c yJx4a65c_remove_915e3 wsJx4a65c_remove_915e3) := goodIn_app (goodIn_of _ (by decide +kernel)) ggX2_takeOut_Jx4a65c_remove_915e3
theorem dX2_takeOut_0 : decode cX2_takeOut 0 = .ok (.iload_n 1, 1) := by decide +kernel
theorem dX2_takeOut_1 : decode cX2_takeOut 1 = .ok (.istore_n 3, 1) := by decide +kernel
theorem dX2_takeOut_2 : decode cX2_takeOut 2 = .ok (.aload_n 0, 1) := by decide +kernel
theorem dX2_takeOut_3 : decode cX2_takeOut 3 = .ok (.getfield 12, 3) := by decide +kernel
theorem dX2_takeOut_6 : decode cX2_takeOut 6 = .ok (.invokevirtual 47, 3) := by decide +kernel
theorem dX2_takeOut_9 : decode cX2_takeOut 9 = .ok (.istore 4, 2) := by decide +kernel
theorem dX2_takeOut_11 : decode cX2_takeOut 11 = .ok (.iload 4, 2) := by decide +kernel
theorem dX2_takeOut_13 : decode cX2_takeOut 13 = .ok (.ifCond .le 87, 3) := by decide +kernel
theorem dX2_takeOut_16 : decode cX2_takeOut 16 = .ok (.iload_n 3, 1) := by decide +kernel
theorem dX2_takeOut_17 : decode cX2_takeOut 17 = .ok (.ifCond .le 83, 3) := by decide +kernel
theorem dX2_takeOut_20 : decode cX2_takeOut 20 = .ok (.aload_n 0, 1) := by decide +kernel
theorem dX2_takeOut_21 : decode cX2_takeOut 21 = .ok (.iload_n 2, 1) := by decide +kernel
theorem dX2_takeOut_22 : decode cX2_takeOut 22 = .ok (.invokevirtual 72, 3) := by decide +kernel
theorem dX2_takeOut_25 : decode cX2_takeOut 25 = .ok (.istore 5, 2) := by decide +kernel
theorem dX2_takeOut_27 : decode cX2_takeOut 27 = .ok (.iload 5, 2) := by decide +kernel
theorem dX2_takeOut_29 : decode cX2_takeOut 29 = .ok (.iconst (-1), 1) := by decide +kernel
theorem dX2_takeOut_30 : decode cX2_takeOut 30 = .ok (.if_icmp .ne 4, 3) := by decide +kernel
theorem dX2_takeOut_33 : decode cX2_takeOut 33 = .ok (.return_, 1) := by decide +kernel
theorem dX2_takeOut_34 : decode cX2_takeOut 34 = .ok (.aload_n 0, 1) := by decide +kernel
theorem dX2_takeOut_35 : decode cX2_takeOut 35 = .ok (.getfield 12, 3) := by decide +kernel
theorem dX2_takeOut_38 : decode cX2_takeOut 38 = .ok (.iload 5, 2) := by decide +kernel
theorem dX2_takeOut_40 : decode cX2_takeOut 40 = .ok (.invokevirtual 51, 3) := by decide +kernel
theorem dX2_takeOut_43 : decode cX2_takeOut 43 = .ok (.checkcast 55, 3) := by decide +kernel
theorem dX2_takeOut_46 : decode cX2_takeOut 46 = .ok (.astore 6, 2) := by decide +kernel
theorem dX2_takeOut_48 : decode cX2_takeOut 48 = .ok (.iload_n 3, 1) := by decide +kernel
theorem dX2_takeOut_49 : decode cX2_takeOut 49 = .ok (.aload 6, 2) := by decide +kernel
theorem dX2_takeOut_51 : decode cX2_takeOut 51 = .ok (.getfield 61, 3) := by decide +kernel
theorem dX2_takeOut_54 : decode cX2_takeOut 54 = .ok (.invokestatic 75, 3) := by decide +kernel
theorem dX2_takeOut_57 : decode cX2_takeOut 57 = .ok (.istore 7, 2) := by decide +kernel
theorem dX2_takeOut_59 : decode cX2_takeOut 59 = .ok (.iload_n 3, 1) := by decide +kernel
theorem dX2_takeOut_60 : decode cX2_takeOut 60 = .ok (.iload 7, 2) := by decide +kernel
theorem dX2_takeOut_62 : decode cX2_takeOut 62 = .ok (.isub, 1) := by decide +kernel
theorem dX2_takeOut_63 : decode cX2_takeOut 63 = .ok (.istore_n 3, 1) := by decide +kernel
theorem dX2_takeOut_64 : decode cX2_takeOut 64 = .ok (.aload 6, 2) := by decide +kernel
theorem dX2_takeOut_66 : decode cX2_takeOut 66 = .ok (.dup, 1) := by decide +kernel
theorem dX2_takeOut_67 : decode cX2_takeOut 67 = .ok (.getfield 61, 3) := by decide +kernel
theorem dX2_takeOut_70 : decode cX2_takeOut 70 = .ok (.iload 7, 2) := by decide +kernel
theorem dX2_takeOut_72 : decode cX2_takeOut 72 = .ok (.isub, 1) := by decide +kernel
theorem dX2_takeOut_73 : decode cX2_takeOut 73 = .ok (.putfield 61, 3) := by decide +kernel
theorem dX2_takeOut_76 : decode cX2_takeOut 76 = .ok (.aload 6, 2) := by decide +kernel
theorem dX2_takeOut_78 : decode cX2_takeOut 78 = .ok (.getfield 61, 3) := by decide +kernel
theorem dX2_takeOut_81 : decode cX2_takeOut 81 = .ok (.ifCond .ne 13, 3) := by decide +kernel
theorem dX2_takeOut_84 : decode cX2_takeOut 84 = .ok (.aload_n 0, 1) := by decide +kernel
theorem dX2_takeOut_85 : decode cX2_takeOut 85 = .ok (.getfield 12, 3) := by decide +kernel
theorem dX2_takeOut_88 : decode cX2_takeOut 88 = .ok (.iload 5, 2) := by decide +kernel
theorem dX2_takeOut_90 : decode cX2_takeOut 90 = .ok (.invokevirtual 81, 3) := by decide +kernel
theorem dX2_takeOut_93 : decode cX2_takeOut 93 = .ok (.pop, 1) := by decide +kernel
theorem dX2_takeOut_94 : decode cX2_takeOut 94 = .ok (.iinc 4 (-1), 3) := by decide +kernel
theorem dX2_takeOut_97 : decode cX2_takeOut 97 = .ok (.goto (-86), 3) := by decide +kernel
theorem dX2_takeOut_100 : decode cX2_takeOut 100 = .ok (.return_, 1) := by decide +kernel
set_option maxRecDepth 20000 in
theorem ggX2_liveHoldThatEndsFirst_Jx4a65c_size_8abf5 : GoodIn wsX2_liveHoldThatEndsFirst wsJx4a65c_size_8abf5 := goodIn_r _ [7, 8, 46, 47, 48] (by decide +kernel) (by decide +kernel)
set_option maxRecDepth 20000 in
theorem gX2_liveHoldThatEndsFirst_Jx4a65c_size_8abf5 : GoodIn wsX2_liveHoldThatEndsFirst (wsV RX2 47 RJx4a65c yJx4a65c_size_8abf5 wsJx4a65c_size_8abf5) := goodIn_app (goodIn_of _ (by decide +kernel)) ggX2_liveHoldThatEndsFirst_Jx4a65c_size_8abf5
set_option maxRecDepth 20000 in
theorem ggX2_liveHoldThatEndsFirst_Jx4a65c_get_915e3 : GoodIn wsX2_liveHoldThatEndsFirst wsJx4a65c_get_915e3 := goodIn_r _ [12, 8, 13, 14, 15, 16, 17, 18, 19, 20, 21, 22, 23, 6, 24, 25, 46, 47, 48] (by decide +kernel) (by decide +kernel)
set_option maxRecDepth 20000 in
theorem gX2_liveHoldThatEndsFirst_Jx4a65c_get_915e3 : GoodIn wsX2_liveHoldThatEndsFirst (wsV RX2 51 RJx4a65c yJx4a65c_get_915e3 wsJx4a65c_get_915e3) := goodIn_app (goodIn_of _ (by decide +kernel)) ggX2_liveHoldThatEndsFirst_Jx4a65c_get_915e3
set_option maxRecDepth 20000 in
theorem ggX2_liveHoldThatEndsFirst_X4_isLive : GoodIn wsX2_liveHoldThatEndsFirst wsX4_isLive := goodIn_r _ [30, 31, 32, 49, 50, 51, 52] (by decide +kernel) (by decide +kernel)
set_option maxRecDepth 20000 in
theorem gX2_liveHoldThatEndsFirst_X4_isLive : GoodIn wsX2_liveHoldThatEndsFirst (wsV RX2 57 RX4 yX4_isLive wsX4_isLive) := goodIn_app (goodIn_of _ (by decide +kernel)) ggX2_liveHoldThatEndsFirst_X4_isLive
set_option maxRecDepth 20000 in
theorem ggX2_liveHoldThatEndsFirst_X4_end : GoodIn wsX2_liveHoldThatEndsFirst wsX4_end := goodIn_r _ [36, 31, 32, 49, 50, 51, 52] (by decide +kernel) (by decide +kernel)
set_option maxRecDepth 20000 in
theorem gX2_liveHoldThatEndsFirst_X4_end : GoodIn wsX2_liveHoldThatEndsFirst (wsV RX2 84 RX4 yX4_end wsX4_end) := goodIn_app (goodIn_of _ (by decide +kernel)) ggX2_liveHoldThatEndsFirst_X4_end
theorem dX2_liveHoldThatEndsFirst_0 : decode cX2_liveHoldThatEndsFirst 0 = .ok (.iconst (-1), 1) := by decide +kernel
theorem dX2_liveHoldThatEndsFirst_1 : decode cX2_liveHoldThatEndsFirst 1 = .ok (.istore_n 2, 1) := by decide +kernel
theorem dX2_liveHoldThatEndsFirst_2 : decode cX2_liveHoldThatEndsFirst 2 = .ok (.iconst 0, 1) := by decide +kernel
theorem dX2_liveHoldThatEndsFirst_3 : decode cX2_liveHoldThatEndsFirst 3 = .ok (.istore_n 3, 1) := by decide +kernel
theorem dX2_liveHoldThatEndsFirst_4 : decode cX2_liveHoldThatEndsFirst 4 = .ok (.iload_n 3, 1) := by decide +kernel
theorem dX2_liveHoldThatEndsFirst_5 : decode cX2_liveHoldThatEndsFirst 5 = .ok (.aload_n 0, 1) := by decide +kernel
theorem dX2_liveHoldThatEndsFirst_6 : decode cX2_liveHoldThatEndsFirst 6 = .ok (.getfield 12, 3) := by decide +kernel
theorem dX2_liveHoldThatEndsFirst_9 : decode cX2_liveHoldThatEndsFirst 9 = .ok (.invokevirtual 47, 3) := by decide +kernel
theorem dX2_liveHoldThatEndsFirst_12 : decode cX2_liveHoldThatEndsFirst 12 = .ok (.if_icmp .ge 60, 3) := by decide +kernel
theorem dX2_liveHoldThatEndsFirst_15 : decode cX2_liveHoldThatEndsFirst 15 = .ok (.aload_n 0, 1) := by decide +kernel
theorem dX2_liveHoldThatEndsFirst_16 : decode cX2_liveHoldThatEndsFirst 16 = .ok (.getfield 12, 3) := by decide +kernel
theorem dX2_liveHoldThatEndsFirst_19 : decode cX2_liveHoldThatEndsFirst 19 = .ok (.iload_n 3, 1) := by decide +kernel
theorem dX2_liveHoldThatEndsFirst_20 : decode cX2_liveHoldThatEndsFirst 20 = .ok (.invokevirtual 51, 3) := by decide +kernel
theorem dX2_liveHoldThatEndsFirst_23 : decode cX2_liveHoldThatEndsFirst 23 = .ok (.checkcast 55, 3) := by decide +kernel
theorem dX2_liveHoldThatEndsFirst_26 : decode cX2_liveHoldThatEndsFirst 26 = .ok (.astore 4, 2) := by decide +kernel
theorem dX2_liveHoldThatEndsFirst_28 : decode cX2_liveHoldThatEndsFirst 28 = .ok (.aload 4, 2) := by decide +kernel
theorem dX2_liveHoldThatEndsFirst_30 : decode cX2_liveHoldThatEndsFirst 30 = .ok (.iload_n 1, 1) := by decide +kernel
theorem dX2_liveHoldThatEndsFirst_31 : decode cX2_liveHoldThatEndsFirst 31 = .ok (.invokevirtual 57, 3) := by decide +kernel
theorem dX2_liveHoldThatEndsFirst_34 : decode cX2_liveHoldThatEndsFirst 34 = .ok (.ifCond .eq 32, 3) := by decide +kernel
theorem dX2_liveHoldThatEndsFirst_37 : decode cX2_liveHoldThatEndsFirst 37 = .ok (.iload_n 2, 1) := by decide +kernel
theorem dX2_liveHoldThatEndsFirst_38 : decode cX2_liveHoldThatEndsFirst 38 = .ok (.iconst (-1), 1) := by decide +kernel
theorem dX2_liveHoldThatEndsFirst_39 : decode cX2_liveHoldThatEndsFirst 39 = .ok (.if_icmp .eq 25, 3) := by decide +kernel
theorem dX2_liveHoldThatEndsFirst_42 : decode cX2_liveHoldThatEndsFirst 42 = .ok (.aload 4, 2) := by decide +kernel
theorem dX2_liveHoldThatEndsFirst_44 : decode cX2_liveHoldThatEndsFirst 44 = .ok (.invokevirtual 84, 3) := by decide +kernel
theorem dX2_liveHoldThatEndsFirst_47 : decode cX2_liveHoldThatEndsFirst 47 = .ok (.aload_n 0, 1) := by decide +kernel
theorem dX2_liveHoldThatEndsFirst_48 : decode cX2_liveHoldThatEndsFirst 48 = .ok (.getfield 12, 3) := by decide +kernel
theorem dX2_liveHoldThatEndsFirst_51 : decode cX2_liveHoldThatEndsFirst 51 = .ok (.iload_n 2, 1) := by decide +kernel
theorem dX2_liveHoldThatEndsFirst_52 : decode cX2_liveHoldThatEndsFirst 52 = .ok (.invokevirtual 51, 3) := by decide +kernel
theorem dX2_liveHoldThatEndsFirst_55 : decode cX2_liveHoldThatEndsFirst 55 = .ok (.checkcast 55, 3) := by decide +kernel
theorem dX2_liveHoldThatEndsFirst_58 : decode cX2_liveHoldThatEndsFirst 58 = .ok (.invokevirtual 84, 3) := by decide +kernel
theorem dX2_liveHoldThatEndsFirst_61 : decode cX2_liveHoldThatEndsFirst 61 = .ok (.if_icmp .ge 5, 3) := by decide +kernel
theorem dX2_liveHoldThatEndsFirst_64 : decode cX2_liveHoldThatEndsFirst 64 = .ok (.iload_n 3, 1) := by decide +kernel
theorem dX2_liveHoldThatEndsFirst_65 : decode cX2_liveHoldThatEndsFirst 65 = .ok (.istore_n 2, 1) := by decide +kernel
theorem dX2_liveHoldThatEndsFirst_66 : decode cX2_liveHoldThatEndsFirst 66 = .ok (.iinc 3 1, 3) := by decide +kernel
theorem dX2_liveHoldThatEndsFirst_69 : decode cX2_liveHoldThatEndsFirst 69 = .ok (.goto (-65), 3) := by decide +kernel
theorem dX2_liveHoldThatEndsFirst_72 : decode cX2_liveHoldThatEndsFirst 72 = .ok (.iload_n 2, 1) := by decide +kernel
theorem dX2_liveHoldThatEndsFirst_73 : decode cX2_liveHoldThatEndsFirst 73 = .ok (.ireturn, 1) := by decide +kernel
set_option maxRecDepth 20000 in
theorem ggX2_settle_X2_giveBack : GoodIn wsX2_settle wsX2_giveBack := goodIn_r _ [15, 16, 17, 6, 7, 8, 9, 10, 18, 19, 20, 21, 22, 23, 24, 25, 26, 27, 28, 29, 30, 31, 32, 33, 34, 35, 36, 37, 38, 39, 40, 41, 42, 43, 44, 45, 46, 47, 48, 49, 50, 51, 52, 53, 54, 55, 56, 57, 58, 59, 60, 61, 62, 63, 64, 65, 66, 67, 68, 69, 70, 71, 72, 73, 74, 75, 76, 77, 78, 79, 80, 81, 82, 83, 84, 85, 86, 87, 88, 89, 90, 91, 92, 105, 106, 107, 108, 109, 110, 111, 112, 113, 114, 115, 116, 117, 118, 119, 120, 121, 122, 123, 124, 125, 126, 127, 128, 129, 130] (by decide +kernel) (by decide +kernel)
set_option maxRecDepth 20000 in
theorem gX2_settle_X2_giveBack : GoodIn wsX2_settle (wsV RX2 87 RX2 yX2_giveBack wsX2_giveBack) := goodIn_app (goodIn_of _ (by decide +kernel)) ggX2_settle_X2_giveBack
set_option maxRecDepth 20000 in
theorem ggX2_settle_X2_liveTokens : GoodIn wsX2_settle wsX2_liveTokens := goodIn_r _ [96, 16, 17, 97, 18, 19, 20, 21, 22, 23, 24, 25, 26, 27, 28, 29, 30, 31, 32, 33, 34, 35, 36, 37, 38, 39, 40, 41, 42, 43, 44, 45, 46, 47, 105, 106, 107, 108, 109, 110, 111, 112, 113, 125, 126, 127, 128, 122, 123, 124] (by decide +kernel) (by decide +kernel)
set_option maxRecDepth 20000 in
theorem gX2_settle_X2_liveTokens : GoodIn wsX2_settle (wsV RX2 64 RX2 yX2_liveTokens wsX2_liveTokens) := goodIn_app (goodIn_of _ (by decide +kernel)) ggX2_settle_X2_liveTokens
set_option maxRecDepth 20000 in
theorem ggX2_settle_X2_mayAsk : GoodIn wsX2_settle wsX2_mayAsk := goodIn_r _ [101, 4, 5, 105, 106, 107, 108, 109, 110, 111, 112, 113] (by decide +kernel) (by decide +kernel)
set_option maxRecDepth 20000 in
theorem gX2_settle_X2_mayAsk : GoodIn wsX2_settle (wsV RX2 91 RX2 yX2_mayAsk wsX2_mayAsk) := goodIn_app (goodIn_of _ (by decide +kernel)) ggX2_settle_X2_mayAsk
set_option maxRecDepth 20000 in
theorem ggX2_settle_X6_init : GoodIn wsX2_settle wsX6_init := goodIn_r _ [104, 59, 60, 61, 62, 63, 64, 65, 67, 68, 70, 71, 114, 115, 116, 117, 118, 119, 120, 121] (by decide +kernel) (by decide +kernel)
set_option maxRecDepth 20000 in
theorem gX2_settle_X6_init : GoodIn wsX2_settle (wsX6_init) := ggX2_settle_X6_init
set_option maxRecDepth 20000 in
theorem ggX2_settle_X7_send : GoodIn wsX2_settle wsX7_send := goodIn_r _ [76, 77, 78, 129, 130] (by decide +kernel) (by decide +kernel)
set_option maxRecDepth 20000 in
theorem gX2_settle_X7_send : GoodIn wsX2_settle (wsV RX2 99 RX7 yX7_send wsX7_send) := goodIn_app (goodIn_of _ (by decide +kernel)) ggX2_settle_X7_send
theorem dX2_settle_0 : decode cX2_settle 0 = .ok (.aload_n 0, 1) := by decide +kernel
theorem dX2_settle_1 : decode cX2_settle 1 = .ok (.iload_n 1, 1) := by decide +kernel
theorem dX2_settle_2 : decode cX2_settle 2 = .ok (.iload_n 2, 1) := by decide +kernel
theorem dX2_settle_3 : decode cX2_settle 3 = .ok (.aload_n 3, 1) := by decide +kernel
theorem dX2_settle_4 : decode cX2_settle 4 = .ok (.invokevirtual 87, 3) := by decide +kernel
theorem dX2_settle_7 : decode cX2_settle 7 = .ok (.aload_n 0, 1) := by decide +kernel
theorem dX2_settle_8 : decode cX2_settle 8 = .ok (.aload_n 0, 1) := by decide +kernel
theorem dX2_settle_9 : decode cX2_settle 9 = .ok (.getfield 31, 3) := by decide +kernel
theorem dX2_settle_12 : decode cX2_settle 12 = .ok (.aload_n 0, 1) := by decide +kernel
theorem dX2_settle_13 : decode cX2_settle 13 = .ok (.getfield 28, 3) := by decide +kernel
theorem dX2_settle_16 : decode cX2_settle 16 = .ok (.iconst 2, 1) := by decide +kernel
theorem dX2_settle_17 : decode cX2_settle 17 = .ok (.idiv, 1) := by decide +kernel
theorem dX2_settle_18 : decode cX2_settle 18 = .ok (.iadd, 1) := by decide +kernel
theorem dX2_settle_19 : decode cX2_settle 19 = .ok (.putfield 28, 3) := by decide +kernel
theorem dX2_settle_22 : decode cX2_settle 22 = .ok (.aload_n 0, 1) := by decide +kernel
theorem dX2_settle_23 : decode cX2_settle 23 = .ok (.iconst 0, 1) := by decide +kernel
theorem dX2_settle_24 : decode cX2_settle 24 = .ok (.putfield 31, 3) := by decide +kernel
theorem dX2_settle_27 : decode cX2_settle 27 = .ok (.iconst 2, 1) := by decide +kernel
theorem dX2_settle_28 : decode cX2_settle 28 = .ok (.aload_n 0, 1) := by decide +kernel
theorem dX2_settle_29 : decode cX2_settle 29 = .ok (.getfield 28, 3) := by decide +kernel
theorem dX2_settle_32 : decode cX2_settle 32 = .ok (.imul, 1) := by decide +kernel
theorem dX2_settle_33 : decode cX2_settle 33 = .ok (.aload_n 0, 1) := by decide +kernel
theorem dX2_settle_34 : decode cX2_settle 34 = .ok (.iload_n 2, 1) := by decide +kernel
theorem dX2_settle_35 : decode cX2_settle 35 = .ok (.invokevirtual 64, 3) := by decide +kernel
theorem dX2_settle_38 : decode cX2_settle 38 = .ok (.isub, 1) := by decide +kernel
theorem dX2_settle_39 : decode cX2_settle 39 = .ok (.istore 4, 2) := by decide +kernel
theorem dX2_settle_41 : decode cX2_settle 41 = .ok (.iload 4, 2) := by decide +kernel
theorem dX2_settle_43 : decode cX2_settle 43 = .ok (.ifCond .le 57, 3) := by decide +kernel
theorem dX2_settle_46 : decode cX2_settle 46 = .ok (.aload_n 0, 1) := by decide +kernel
theorem dX2_settle_47 : decode cX2_settle 47 = .ok (.iload_n 2, 1) := by decide +kernel
theorem dX2_settle_48 : decode cX2_settle 48 = .ok (.invokevirtual 91, 3) := by decide +kernel
theorem dX2_settle_51 : decode cX2_settle 51 = .ok (.ifCond .eq 49, 3) := by decide +kernel
theorem dX2_settle_54 : decode cX2_settle 54 = .ok (.aload_n 0, 1) := by decide +kernel
theorem dX2_settle_55 : decode cX2_settle 55 = .ok (.dup, 1) := by decide +kernel
theorem dX2_settle_56 : decode cX2_settle 56 = .ok (.getfield 34, 3) := by decide +kernel
theorem dX2_settle_59 : decode cX2_settle 59 = .ok (.iconst 1, 1) := by decide +kernel
theorem dX2_settle_60 : decode cX2_settle 60 = .ok (.iadd, 1) := by decide +kernel
theorem dX2_settle_61 : decode cX2_settle 61 = .ok (.putfield 34, 3) := by decide +kernel
theorem dX2_settle_64 : decode cX2_settle 64 = .ok (.aload_n 0, 1) := by decide +kernel
theorem dX2_settle_65 : decode cX2_settle 65 = .ok (.iconst 1, 1) := by decide +kernel
theorem dX2_settle_66 : decode cX2_settle 66 = .ok (.putfield 37, 3) := by decide +kernel
theorem dX2_settle_69 : decode cX2_settle 69 = .ok (.aload_n 0, 1) := by decide +kernel
theorem dX2_settle_70 : decode cX2_settle 70 = .ok (.iload_n 2, 1) := by decide +kernel
theorem dX2_settle_71 : decode cX2_settle 71 = .ok (.putfield 41, 3) := by decide +kernel
theorem dX2_settle_74 : decode cX2_settle 74 = .ok (.aload_n 3, 1) := by decide +kernel
theorem dX2_settle_75 : decode cX2_settle 75 = .ok (.new 94, 3) := by decide +kernel
theorem dX2_settle_78 : decode cX2_settle 78 = .ok (.dup, 1) := by decide +kernel
theorem dX2_settle_79 : decode cX2_settle 79 = .ok (.aload_n 0, 1) := by decide +kernel
theorem dX2_settle_80 : decode cX2_settle 80 = .ok (.getfield 18, 3) := by decide +kernel
theorem dX2_settle_83 : decode cX2_settle 83 = .ok (.aload_n 0, 1) := by decide +kernel
theorem dX2_settle_84 : decode cX2_settle 84 = .ok (.getfield 22, 3) := by decide +kernel
theorem dX2_settle_87 : decode cX2_settle 87 = .ok (.iload_n 1, 1) := by decide +kernel
theorem dX2_settle_88 : decode cX2_settle 88 = .ok (.aload_n 0, 1) := by decide +kernel
theorem dX2_settle_89 : decode cX2_settle 89 = .ok (.getfield 34, 3) := by decide +kernel
theorem dX2_settle_92 : decode cX2_settle 92 = .ok (.iload 4, 2) := by decide +kernel
theorem dX2_settle_94 : decode cX2_settle 94 = .ok (.invokespecial 96, 3) := by decide +kernel
theorem dX2_settle_97 : decode cX2_settle 97 = .ok (.invokevirtual 99, 3) := by decide +kernel
theorem dX2_settle_100 : decode cX2_settle 100 = .ok (.return_, 1) := by decide +kernel
theorem dX2_mayAsk_0 : decode cX2_mayAsk 0 = .ok (.aload_n 0, 1) := by decide +kernel
theorem dX2_mayAsk_1 : decode cX2_mayAsk 1 = .ok (.getfield 37, 3) := by decide +kernel
theorem dX2_mayAsk_4 : decode cX2_mayAsk 4 = .ok (.ifCond .eq 15, 3) := by decide +kernel
theorem dX2_mayAsk_7 : decode cX2_mayAsk 7 = .ok (.iload_n 1, 1) := by decide +kernel
theorem dX2_mayAsk_8 : decode cX2_mayAsk 8 = .ok (.aload_n 0, 1) := by decide +kernel
theorem dX2_mayAsk_9 : decode cX2_mayAsk 9 = .ok (.getfield 41, 3) := by decide +kernel
theorem dX2_mayAsk_12 : decode cX2_mayAsk 12 = .ok (.isub, 1) := by decide +kernel
theorem dX2_mayAsk_13 : decode cX2_mayAsk 13 = .ok (.sipush 500, 3) := by decide +kernel
theorem dX2_mayAsk_16 : decode cX2_mayAsk 16 = .ok (.if_icmp .lt 7, 3) := by decide +kernel
theorem dX2_mayAsk_19 : decode cX2_mayAsk 19 = .ok (.iconst 1, 1) := by decide +kernel
theorem dX2_mayAsk_20 : decode cX2_mayAsk 20 = .ok (.goto 4, 3) := by decide +kernel
theorem dX2_mayAsk_23 : decode cX2_mayAsk 23 = .ok (.iconst 0, 1) := by decide +kernel
theorem dX2_mayAsk_24 : decode cX2_mayAsk 24 = .ok (.ireturn, 1) := by decide +kernel
set_option maxRecDepth 20000 in
theorem ggX2_giveBack_Jx4a65c_size_8abf5 : GoodIn wsX2_giveBack wsJx4a65c_size_8abf5 := goodIn_r _ [12, 13, 100, 101, 102] (by decide +kernel) (by decide +kernel)
set_option maxRecDepth 20000 in
theorem gX2_giveBack_Jx4a65c_size_8abf5 : GoodIn wsX2_giveBack (wsV RX2 47 RJx4a65c yJx4a65c_size_8abf5 wsJx4a65c_size_8abf5) := goodIn_app (goodIn_of _ (by decide +kernel)) ggX2_giveBack_Jx4a65c_size_8abf5
set_option maxRecDepth 20000 in
theorem ggX2_giveBack_Jx4a65c_get_915e3 : GoodIn wsX2_giveBack wsJx4a65c_get_915e3 := goodIn_r _ [17, 13, 18, 19, 20, 21, 22, 23, 24, 25, 26, 27, 28, 11, 29, 30, 100, 101, 102] (by decide +kernel) (by decide +kernel)
set_option maxRecDepth 20000 in
theorem gX2_giveBack_Jx4a65c_get_915e3 : GoodIn wsX2_giveBack (wsV RX2 51 RJx4a65c yJx4a65c_get_915e3 wsJx4a65c_get_915e3) := goodIn_app (goodIn_of _ (by decide +kernel)) ggX2_giveBack_Jx4a65c_get_915e3
set_option maxRecDepth 20000 in
theorem ggX2_giveBack_X4_isLive : GoodIn wsX2_giveBack wsX4_isLive := goodIn_r _ [35, 36, 37, 103, 104, 105, 106] (by decide +kernel) (by decide +kernel)
set_option maxRecDepth 20000 in
theorem gX2_giveBack_X4_isLive : GoodIn wsX2_giveBack (wsV RX2 57 RX4 yX4_isLive wsX4_isLive) := goodIn_app (goodIn_of _ (by decide +kernel)) ggX2_giveBack_X4_isLive
set_option maxRecDepth 20000 in
theorem ggX2_giveBack_X4_isHalfOver : GoodIn wsX2_giveBack wsX4_isHalfOver := goodIn_r _ [41, 36, 37, 103, 104, 105, 106] (by decide +kernel) (by decide +kernel)
set_option maxRecDepth 20000 in
theorem gX2_giveBack_X4_isHalfOver : GoodIn wsX2_giveBack (wsV RX2 105 RX4 yX4_isHalfOver wsX4_isHalfOver) := goodIn_app (goodIn_of _ (by decide +kernel)) ggX2_giveBack_X4_isHalfOver
set_option maxRecDepth 20000 in
theorem ggX2_giveBack_Jx4a65c_set_bcc79 : GoodIn wsX2_giveBack wsJx4a65c_set_bcc79 := goodIn_r _ [45, 13, 30, 18, 19, 20, 21, 22, 23, 24, 25, 26, 27, 28, 11, 29, 100, 101, 102] (by decide +kernel) (by decide +kernel)
set_option maxRecDepth 20000 in
theorem gX2_giveBack_Jx4a65c_set_bcc79 : GoodIn wsX2_giveBack (wsV RX2 108 RJx4a65c yJx4a65c_set_bcc79 wsJx4a65c_set_bcc79) := goodIn_app (goodIn_of _ (by decide +kernel)) ggX2_giveBack_Jx4a65c_set_bcc79
set_option maxRecDepth 20000 in
theorem ggX2_giveBack_X6_init__ : GoodIn wsX2_giveBack wsX6_init__ := goodIn_r _ [48, 49, 50, 51, 52, 53, 54, 55, 56, 57, 58, 59, 60, 61, 92, 93, 94, 95, 96, 97, 98, 99, 103, 104, 105, 106] (by decide +kernel) (by decide +kernel)
set_option maxRecDepth 20000 in
theorem gX2_giveBack_X6_init__ : GoodIn wsX2_giveBack (wsX6_init__) := ggX2_giveBack_X6_init__
set_option maxRecDepth 20000 in
theorem ggX2_giveBack_X7_send : GoodIn wsX2_giveBack wsX7_send := goodIn_r _ [66, 67, 68, 107, 108] (by decide +kernel) (by decide +kernel)
set_option maxRecDepth 20000 in
theorem gX2_giveBack_X7_send : GoodIn wsX2_giveBack (wsV RX2 99 RX7 yX7_send wsX7_send) := goodIn_app (goodIn_of _ (by decide +kernel)) ggX2_giveBack_X7_send
set_option maxRecDepth 20000 in
theorem ggX2_giveBack_Jx4a65c_remove_915e3 : GoodIn wsX2_giveBack wsJx4a65c_remove_915e3 := goodIn_r _ [72, 13, 30, 18, 19, 20, 21, 22, 23, 24, 25, 73, 74, 75, 11, 76, 77, 78, 79, 80, 81, 82, 100, 101, 102] (by decide +kernel) (by decide +kernel)
set_option maxRecDepth 20000 in
theorem gX2_giveBack_Jx4a65c_remove_915e3 : GoodIn wsX2_giveBack (wsV RX2 81 RJx4a65c yJx4a65c_remove_915e3 wsJx4a65c_remove_915e3) := goodIn_app (goodIn_of _ (by decide +kernel)) ggX2_giveBack_Jx4a65c_remove_915e3
theorem dX2_giveBack_0 : decode cX2_giveBack 0 = .ok (.iconst 0, 1) := by decide +kernel
theorem dX2_giveBack_1 : decode cX2_giveBack 1 = .ok (.istore 4, 2) := by decide +kernel
theorem dX2_giveBack_3 : decode cX2_giveBack 3 = .ok (.aload_n 0, 1) := by decide +kernel
theorem dX2_giveBack_4 : decode cX2_giveBack 4 = .ok (.getfield 12, 3) := by decide +kernel
theorem dX2_giveBack_7 : decode cX2_giveBack 7 = .ok (.invokevirtual 47, 3) := by decide +kernel
theorem dX2_giveBack_10 : decode cX2_giveBack 10 = .ok (.istore 5, 2) := by decide +kernel
theorem dX2_giveBack_12 : decode cX2_giveBack 12 = .ok (.iconst 0, 1) := by decide +kernel
theorem dX2_giveBack_13 : decode cX2_giveBack 13 = .ok (.istore 6, 2) := by decide +kernel
theorem dX2_giveBack_15 : decode cX2_giveBack 15 = .ok (.iload 6, 2) := by decide +kernel
theorem dX2_giveBack_17 : decode cX2_giveBack 17 = .ok (.iload 5, 2) := by decide +kernel
theorem dX2_giveBack_19 : decode cX2_giveBack 19 = .ok (.if_icmp .ge 90, 3) := by decide +kernel
theorem dX2_giveBack_22 : decode cX2_giveBack 22 = .ok (.aload_n 0, 1) := by decide +kernel
theorem dX2_giveBack_23 : decode cX2_giveBack 23 = .ok (.getfield 12, 3) := by decide +kernel
theorem dX2_giveBack_26 : decode cX2_giveBack 26 = .ok (.iload 6, 2) := by decide +kernel
theorem dX2_giveBack_28 : decode cX2_giveBack 28 = .ok (.invokevirtual 51, 3) := by decide +kernel
theorem dX2_giveBack_31 : decode cX2_giveBack 31 = .ok (.checkcast 55, 3) := by decide +kernel
theorem dX2_giveBack_34 : decode cX2_giveBack 34 = .ok (.astore 7, 2) := by decide +kernel
theorem dX2_giveBack_36 : decode cX2_giveBack 36 = .ok (.aload 7, 2) := by decide +kernel
theorem dX2_giveBack_38 : decode cX2_giveBack 38 = .ok (.iload_n 2, 1) := by decide +kernel
theorem dX2_giveBack_39 : decode cX2_giveBack 39 = .ok (.invokevirtual 57, 3) := by decide +kernel
theorem dX2_giveBack_42 : decode cX2_giveBack 42 = .ok (.ifCond .eq 30, 3) := by decide +kernel
theorem dX2_giveBack_45 : decode cX2_giveBack 45 = .ok (.aload 7, 2) := by decide +kernel
theorem dX2_giveBack_47 : decode cX2_giveBack 47 = .ok (.iload_n 2, 1) := by decide +kernel
theorem dX2_giveBack_48 : decode cX2_giveBack 48 = .ok (.invokevirtual 105, 3) := by decide +kernel
theorem dX2_giveBack_51 : decode cX2_giveBack 51 = .ok (.ifCond .ne 21, 3) := by decide +kernel
theorem dX2_giveBack_54 : decode cX2_giveBack 54 = .ok (.aload_n 0, 1) := by decide +kernel
theorem dX2_giveBack_55 : decode cX2_giveBack 55 = .ok (.getfield 12, 3) := by decide +kernel
theorem dX2_giveBack_58 : decode cX2_giveBack 58 = .ok (.iload 4, 2) := by decide +kernel
theorem dX2_giveBack_60 : decode cX2_giveBack 60 = .ok (.aload 7, 2) := by decide +kernel
theorem dX2_giveBack_62 : decode cX2_giveBack 62 = .ok (.invokevirtual 108, 3) := by decide +kernel
theorem dX2_giveBack_65 : decode cX2_giveBack 65 = .ok (.pop, 1) := by decide +kernel
theorem dX2_giveBack_66 : decode cX2_giveBack 66 = .ok (.iinc 4 1, 3) := by decide +kernel
theorem dX2_giveBack_69 : decode cX2_giveBack 69 = .ok (.goto 34, 3) := by decide +kernel
theorem dX2_giveBack_72 : decode cX2_giveBack 72 = .ok (.aload 7, 2) := by decide +kernel
theorem dX2_giveBack_74 : decode cX2_giveBack 74 = .ok (.iload_n 2, 1) := by decide +kernel
theorem dX2_giveBack_75 : decode cX2_giveBack 75 = .ok (.invokevirtual 57, 3) := by decide +kernel
theorem dX2_giveBack_78 : decode cX2_giveBack 78 = .ok (.ifCond .eq 25, 3) := by decide +kernel
theorem dX2_giveBack_81 : decode cX2_giveBack 81 = .ok (.aload_n 3, 1) := by decide +kernel
theorem dX2_giveBack_82 : decode cX2_giveBack 82 = .ok (.new 94, 3) := by decide +kernel
theorem dX2_giveBack_85 : decode cX2_giveBack 85 = .ok (.dup, 1) := by decide +kernel
theorem dX2_giveBack_86 : decode cX2_giveBack 86 = .ok (.aload_n 0, 1) := by decide +kernel
theorem dX2_giveBack_87 : decode cX2_giveBack 87 = .ok (.getfield 18, 3) := by decide +kernel
theorem dX2_giveBack_90 : decode cX2_giveBack 90 = .ok (.aload_n 0, 1) := by decide +kernel
theorem dX2_giveBack_91 : decode cX2_giveBack 91 = .ok (.getfield 22, 3) := by decide +kernel
theorem dX2_giveBack_94 : decode cX2_giveBack 94 = .ok (.iload_n 1, 1) := by decide +kernel
theorem dX2_giveBack_95 : decode cX2_giveBack 95 = .ok (.aload 7, 2) := by decide +kernel
theorem dX2_giveBack_97 : decode cX2_giveBack 97 = .ok (.invokespecial 112, 3) := by decide +kernel
theorem dX2_giveBack_100 : decode cX2_giveBack 100 = .ok (.invokevirtual 99, 3) := by decide +kernel
theorem dX2_giveBack_103 : decode cX2_giveBack 103 = .ok (.iinc 6 1, 3) := by decide +kernel
theorem dX2_giveBack_106 : decode cX2_giveBack 106 = .ok (.goto (-91), 3) := by decide +kernel
theorem dX2_giveBack_109 : decode cX2_giveBack 109 = .ok (.iload 5, 2) := by decide +kernel
theorem dX2_giveBack_111 : decode cX2_giveBack 111 = .ok (.iconst 1, 1) := by decide +kernel
theorem dX2_giveBack_112 : decode cX2_giveBack 112 = .ok (.isub, 1) := by decide +kernel
theorem dX2_giveBack_113 : decode cX2_giveBack 113 = .ok (.istore 6, 2) := by decide +kernel
theorem dX2_giveBack_115 : decode cX2_giveBack 115 = .ok (.iload 6, 2) := by decide +kernel
theorem dX2_giveBack_117 : decode cX2_giveBack 117 = .ok (.iload 4, 2) := by decide +kernel
theorem dX2_giveBack_119 : decode cX2_giveBack 119 = .ok (.if_icmp .lt 19, 3) := by decide +kernel
theorem dX2_giveBack_122 : decode cX2_giveBack 122 = .ok (.aload_n 0, 1) := by decide +kernel
theorem dX2_giveBack_123 : decode cX2_giveBack 123 = .ok (.getfield 12, 3) := by decide +kernel
theorem dX2_giveBack_126 : decode cX2_giveBack 126 = .ok (.iload 6, 2) := by decide +kernel
theorem dX2_giveBack_128 : decode cX2_giveBack 128 = .ok (.invokevirtual 81, 3) := by decide +kernel
theorem dX2_giveBack_131 : decode cX2_giveBack 131 = .ok (.pop, 1) := by decide +kernel
theorem dX2_giveBack_132 : decode cX2_giveBack 132 = .ok (.iinc 6 (-1), 3) := by decide +kernel
theorem dX2_giveBack_135 : decode cX2_giveBack 135 = .ok (.goto (-20), 3) := by decide +kernel
theorem dX2_giveBack_138 : decode cX2_giveBack 138 = .ok (.return_, 1) := by decide +kernel
set_option maxRecDepth 20000 in
theorem ggX2_accept_X4_init : GoodIn wsX2_accept wsX4_init := goodIn_r _ [12, 13, 14, 15, 16, 17, 18, 19, 20, 21, 22, 88, 89, 90, 91, 92, 93, 94, 95, 96, 97, 98, 99] (by decide +kernel) (by decide +kernel)
set_option maxRecDepth 20000 in
theorem gX2_accept_X4_init : GoodIn wsX2_accept (wsX4_init) := ggX2_accept_X4_init
set_option maxRecDepth 20000 in
theorem ggX2_accept_Jx4a65c_add_9ea2d : GoodIn wsX2_accept wsJx4a65c_add_9ea2d := goodIn_r _ [27, 28, 29, 30, 31, 32, 33, 34, 26, 35, 36, 37, 38, 39, 40, 41, 42, 43, 44, 45, 46, 47, 48, 49, 50, 51, 52, 53, 54, 55, 56, 57, 58, 59, 60, 61, 62, 63, 64, 65, 66, 67, 68, 69, 70, 71, 72, 73, 74, 75, 76, 77, 78, 100, 101, 102] (by decide +kernel) (by decide +kernel)
set_option maxRecDepth 20000 in
theorem gX2_accept_Jx4a65c_add_9ea2d : GoodIn wsX2_accept (wsV RX2 122 RJx4a65c yJx4a65c_add_9ea2d wsJx4a65c_add_9ea2d) := goodIn_app (goodIn_of _ (by decide +kernel)) ggX2_accept_Jx4a65c_add_9ea2d
theorem dX2_accept_0 : decode cX2_accept 0 = .ok (.aload_n 0, 1) := by decide +kernel
theorem dX2_accept_1 : decode cX2_accept 1 = .ok (.getfield 37, 3) := by decide +kernel
theorem dX2_accept_4 : decode cX2_accept 4 = .ok (.ifCond .eq 14, 3) := by decide +kernel
theorem dX2_accept_7 : decode cX2_accept 7 = .ok (.aload_n 1, 1) := by decide +kernel
theorem dX2_accept_8 : decode cX2_accept 8 = .ok (.getfield 115, 3) := by decide +kernel
theorem dX2_accept_11 : decode cX2_accept 11 = .ok (.aload_n 0, 1) := by decide +kernel
theorem dX2_accept_12 : decode cX2_accept 12 = .ok (.getfield 34, 3) := by decide +kernel
theorem dX2_accept_15 : decode cX2_accept 15 = .ok (.if_icmp .eq 5, 3) := by decide +kernel
theorem dX2_accept_18 : decode cX2_accept 18 = .ok (.iconst 0, 1) := by decide +kernel
theorem dX2_accept_19 : decode cX2_accept 19 = .ok (.ireturn, 1) := by decide +kernel
theorem dX2_accept_20 : decode cX2_accept 20 = .ok (.aload_n 0, 1) := by decide +kernel
theorem dX2_accept_21 : decode cX2_accept 21 = .ok (.iconst 0, 1) := by decide +kernel
theorem dX2_accept_22 : decode cX2_accept 22 = .ok (.putfield 37, 3) := by decide +kernel
theorem dX2_accept_25 : decode cX2_accept 25 = .ok (.aload_n 1, 1) := by decide +kernel
theorem dX2_accept_26 : decode cX2_accept 26 = .ok (.getfield 118, 3) := by decide +kernel
theorem dX2_accept_29 : decode cX2_accept 29 = .ok (.ifCond .le 23, 3) := by decide +kernel
theorem dX2_accept_32 : decode cX2_accept 32 = .ok (.aload_n 0, 1) := by decide +kernel
theorem dX2_accept_33 : decode cX2_accept 33 = .ok (.getfield 12, 3) := by decide +kernel
theorem dX2_accept_36 : decode cX2_accept 36 = .ok (.new 55, 3) := by decide +kernel
theorem dX2_accept_39 : decode cX2_accept 39 = .ok (.dup, 1) := by decide +kernel
theorem dX2_accept_40 : decode cX2_accept 40 = .ok (.aload_n 1, 1) := by decide +kernel
theorem dX2_accept_41 : decode cX2_accept 41 = .ok (.aload_n 0, 1) := by decide +kernel
theorem dX2_accept_42 : decode cX2_accept 42 = .ok (.getfield 41, 3) := by decide +kernel
theorem dX2_accept_45 : decode cX2_accept 45 = .ok (.invokespecial 119, 3) := by decide +kernel
theorem dX2_accept_48 : decode cX2_accept 48 = .ok (.invokevirtual 122, 3) := by decide +kernel
theorem dX2_accept_51 : decode cX2_accept 51 = .ok (.pop, 1) := by decide +kernel
theorem dX2_accept_52 : decode cX2_accept 52 = .ok (.iconst 1, 1) := by decide +kernel
theorem dX2_accept_53 : decode cX2_accept 53 = .ok (.ireturn, 1) := by decide +kernel
set_option maxRecDepth 20000 in
theorem ggX3_init_X9_init : GoodIn wsX3_init wsX9_init := goodIn_r _ [13, 14, 2, 3, 15, 41, 42] (by decide +kernel) (by decide +kernel)
set_option maxRecDepth 20000 in
theorem gX3_init_X9_init_n11 : GoodIn wsX3_init (wsX9_init) := ggX3_init_X9_init
set_option maxRecDepth 20000 in
theorem ggX3_init_X2_init : GoodIn wsX3_init wsX2_init := goodIn_r _ [18, 19, 2, 3, 20, 21, 22, 23, 24, 25, 26, 27, 28, 29, 30, 31, 32, 33, 34, 35, 36, 37, 38, 39, 40, 55, 56, 57, 46, 47, 48, 49, 50, 51, 52, 53, 54] (by decide +kernel) (by decide +kernel)
set_option maxRecDepth 20000 in
theorem gX3_init_X2_init : GoodIn wsX3_init (wsX2_init) := ggX3_init_X2_init
theorem dX3_init_0 : decode cX3_init 0 = .ok (.aload_n 0, 1) := by decide +kernel
theorem dX3_init_1 : decode cX3_init 1 = .ok (.invokespecial 3, 3) := by decide +kernel
theorem dX3_init_4 : decode cX3_init 4 = .ok (.aload_n 0, 1) := by decide +kernel
theorem dX3_init_5 : decode cX3_init 5 = .ok (.new 9, 3) := by decide +kernel
theorem dX3_init_8 : decode cX3_init 8 = .ok (.dup, 1) := by decide +kernel
theorem dX3_init_9 : decode cX3_init 9 = .ok (.invokespecial 11, 3) := by decide +kernel
theorem dX3_init_12 : decode cX3_init 12 = .ok (.putfield 12, 3) := by decide +kernel
theorem dX3_init_15 : decode cX3_init 15 = .ok (.aload_n 0, 1) := by decide +kernel
theorem dX3_init_16 : decode cX3_init 16 = .ok (.bipush 8, 2) := by decide +kernel
theorem dX3_init_18 : decode cX3_init 18 = .ok (.anewarray 18, 3) := by decide +kernel
theorem dX3_init_21 : decode cX3_init 21 = .ok (.putfield 20, 3) := by decide +kernel
theorem dX3_init_24 : decode cX3_init 24 = .ok (.iconst 0, 1) := by decide +kernel
theorem dX3_init_25 : decode cX3_init 25 = .ok (.istore_n 2, 1) := by decide +kernel
theorem dX3_init_26 : decode cX3_init 26 = .ok (.iload_n 2, 1) := by decide +kernel
theorem dX3_init_27 : decode cX3_init 27 = .ok (.bipush 8, 2) := by decide +kernel
theorem dX3_init_29 : decode cX3_init 29 = .ok (.if_icmp .ge 24, 3) := by decide +kernel
theorem dX3_init_32 : decode cX3_init 32 = .ok (.aload_n 0, 1) := by decide +kernel
theorem dX3_init_33 : decode cX3_init 33 = .ok (.getfield 20, 3) := by decide +kernel
theorem dX3_init_36 : decode cX3_init 36 = .ok (.iload_n 2, 1) := by decide +kernel
theorem dX3_init_37 : decode cX3_init 37 = .ok (.new 18, 3) := by decide +kernel
theorem dX3_init_40 : decode cX3_init 40 = .ok (.dup, 1) := by decide +kernel
theorem dX3_init_41 : decode cX3_init 41 = .ok (.iload_n 1, 1) := by decide +kernel
theorem dX3_init_42 : decode cX3_init 42 = .ok (.iload_n 2, 1) := by decide +kernel
theorem dX3_init_43 : decode cX3_init 43 = .ok (.invokespecial 24, 3) := by decide +kernel
theorem dX3_init_46 : decode cX3_init 46 = .ok (.aastore, 1) := by decide +kernel
theorem dX3_init_47 : decode cX3_init 47 = .ok (.iinc 2 1, 3) := by decide +kernel
theorem dX3_init_50 : decode cX3_init 50 = .ok (.goto (-24), 3) := by decide +kernel
theorem dX3_init_53 : decode cX3_init 53 = .ok (.return_, 1) := by decide +kernel
set_option maxRecDepth 20000 in
theorem ggX3_spend_X9_now : GoodIn wsX3_spend wsX9_now := goodIn_r _ [7, 8, 9, 87, 88] (by decide +kernel) (by decide +kernel)
set_option maxRecDepth 20000 in
theorem gX3_spend_X9_now : GoodIn wsX3_spend (wsV RX3 27 RX9 yX9_now wsX9_now) := goodIn_app (goodIn_of _ (by decide +kernel)) ggX3_spend_X9_now
set_option maxRecDepth 20000 in
theorem ggX3_spend_X2_spend : GoodIn wsX3_spend wsX2_spend := goodIn_r _ [14, 15, 16, 17, 18, 19, 13, 20, 21, 22, 23, 24, 25, 26, 27, 28, 29, 30, 31, 32, 33, 34, 35, 36, 37, 38, 39, 40, 41, 42, 43, 44, 45, 46, 47, 48, 49, 50, 51, 52, 53, 54, 55, 56, 57, 58, 59, 60, 61, 62, 63, 64, 65, 66, 67, 68, 69, 70, 71, 72, 73, 74, 75, 76, 77, 78, 79, 80, 81, 82, 83, 89, 90, 91, 92, 93, 94, 95, 96, 97, 98, 99, 100, 101, 102, 103, 104] (by decide +kernel) (by decide +kernel)
set_option maxRecDepth 20000 in
theorem gX3_spend_X2_spend : GoodIn wsX3_spend (wsV RX3 31 RX2 yX2_spend wsX2_spend) := goodIn_app (goodIn_of _ (by decide +kernel)) ggX3_spend_X2_spend
theorem dX3_spend_0 : decode cX3_spend 0 = .ok (.aload_n 0, 1) := by decide +kernel
theorem dX3_spend_1 : decode cX3_spend 1 = .ok (.getfield 20, 3) := by decide +kernel
theorem dX3_spend_4 : decode cX3_spend 4 = .ok (.iload_n 1, 1) := by decide +kernel
theorem dX3_spend_5 : decode cX3_spend 5 = .ok (.aaload, 1) := by decide +kernel
theorem dX3_spend_6 : decode cX3_spend 6 = .ok (.iload_n 2, 1) := by decide +kernel
theorem dX3_spend_7 : decode cX3_spend 7 = .ok (.aload_n 0, 1) := by decide +kernel
theorem dX3_spend_8 : decode cX3_spend 8 = .ok (.getfield 12, 3) := by decide +kernel
theorem dX3_spend_11 : decode cX3_spend 11 = .ok (.invokevirtual 27, 3) := by decide +kernel
theorem dX3_spend_14 : decode cX3_spend 14 = .ok (.invokevirtual 31, 3) := by decide +kernel
theorem dX3_spend_17 : decode cX3_spend 17 = .ok (.ireturn, 1) := by decide +kernel
set_option maxRecDepth 20000 in
theorem ggX3_settle_X9_now : GoodIn wsX3_settle wsX9_now := goodIn_r _ [8, 9, 10, 122, 123] (by decide +kernel) (by decide +kernel)
set_option maxRecDepth 20000 in
theorem gX3_settle_X9_now : GoodIn wsX3_settle (wsV RX3 27 RX9 yX9_now wsX9_now) := goodIn_app (goodIn_of _ (by decide +kernel)) ggX3_settle_X9_now
set_option maxRecDepth 20000 in
theorem ggX3_settle_X2_settle : GoodIn wsX3_settle wsX2_settle := goodIn_r _ [15, 16, 17, 18, 19, 20, 21, 22, 23, 24, 25, 26, 27, 28, 14, 29, 30, 31, 32, 33, 34, 35, 36, 37, 38, 39, 40, 41, 42, 43, 44, 45, 46, 47, 48, 49, 50, 51, 52, 53, 54, 55, 56, 57, 58, 59, 60, 61, 62, 63, 64, 65, 66, 67, 68, 69, 70, 71, 72, 73, 74, 75, 76, 77, 78, 79, 80, 81, 82, 83, 84, 85, 86, 87, 88, 89, 90, 91, 92, 93, 94, 95, 96, 97, 98, 99, 100, 101, 102, 103, 104, 105, 106, 107, 108, 109, 110, 111, 112, 113, 114, 115, 116, 117, 118, 124, 125, 126, 127, 128, 129, 130, 131, 132, 133, 134, 135, 136, 137, 138, 139, 140, 141, 142, 143, 144, 145, 146, 147, 148, 149] (by decide +kernel) (by decide +kernel)
set_option maxRecDepth 20000 in
theorem gX3_settle_X2_settle : GoodIn wsX3_settle (wsV RX3 39 RX2 yX2_settle wsX2_settle) := goodIn_app (goodIn_of _ (by decide +kernel)) ggX3_settle_X2_settle
theorem dX3_settle_0 : decode cX3_settle 0 = .ok (.iconst 0, 1) := by decide +kernel
theorem dX3_settle_1 : decode cX3_settle 1 = .ok (.istore_n 2, 1) := by decide +kernel
theorem dX3_settle_2 : decode cX3_settle 2 = .ok (.iload_n 2, 1) := by decide +kernel
theorem dX3_settle_3 : decode cX3_settle 3 = .ok (.bipush 8, 2) := by decide +kernel
theorem dX3_settle_5 : decode cX3_settle 5 = .ok (.if_icmp .ge 30, 3) := by decide +kernel
theorem dX3_settle_8 : decode cX3_settle 8 = .ok (.aload_n 0, 1) := by decide +kernel
theorem dX3_settle_9 : decode cX3_settle 9 = .ok (.getfield 20, 3) := by decide +kernel
theorem dX3_settle_12 : decode cX3_settle 12 = .ok (.iload_n 2, 1) := by decide +kernel
theorem dX3_settle_13 : decode cX3_settle 13 = .ok (.aaload, 1) := by decide +kernel
theorem dX3_settle_14 : decode cX3_settle 14 = .ok (.aload_n 0, 1) := by decide +kernel
theorem dX3_settle_15 : decode cX3_settle 15 = .ok (.getfield 35, 3) := by decide +kernel
theorem dX3_settle_18 : decode cX3_settle 18 = .ok (.aload_n 0, 1) := by decide +kernel
theorem dX3_settle_19 : decode cX3_settle 19 = .ok (.getfield 12, 3) := by decide +kernel
theorem dX3_settle_22 : decode cX3_settle 22 = .ok (.invokevirtual 27, 3) := by decide +kernel
theorem dX3_settle_25 : decode cX3_settle 25 = .ok (.aload_n 1, 1) := by decide +kernel
theorem dX3_settle_26 : decode cX3_settle 26 = .ok (.invokevirtual 39, 3) := by decide +kernel
theorem dX3_settle_29 : decode cX3_settle 29 = .ok (.iinc 2 1, 3) := by decide +kernel
theorem dX3_settle_32 : decode cX3_settle 32 = .ok (.goto (-30), 3) := by decide +kernel
theorem dX3_settle_35 : decode cX3_settle 35 = .ok (.return_, 1) := by decide +kernel
set_option maxRecDepth 20000 in
theorem ggX3_hearGrant_X2_accept : GoodIn wsX3_hearGrant wsX2_accept := goodIn_r _ [9, 10, 11, 12, 13, 14, 15, 16, 17, 18, 19, 20, 21, 22, 23, 24, 25, 26, 27, 28, 29, 30, 31, 32, 33, 34, 35, 36, 37, 38, 39, 40, 41, 42, 43, 44, 45, 46, 47, 48, 49, 50, 51, 52, 53, 54, 55, 56, 57, 58, 59, 60, 61, 62, 63, 64, 65, 66, 67, 68, 69, 70, 71, 72, 73, 74, 75, 76, 77, 78, 79, 80, 81, 82, 83, 84, 85, 86, 87, 99, 100, 101, 102, 103, 104, 105, 106, 107, 88, 89, 90, 91, 92, 93, 94, 95, 108, 109, 110, 111, 112, 113, 114] (by decide +kernel) (by decide +kernel)
set_option maxRecDepth 20000 in
theorem gX3_hearGrant_X2_accept : GoodIn wsX3_hearGrant (wsV RX3 49 RX2 yX2_accept wsX2_accept) := goodIn_app (goodIn_of _ (by decide +kernel)) ggX3_hearGrant_X2_accept
theorem dX3_hearGrant_0 : decode cX3_hearGrant 0 = .ok (.aload_n 1, 1) := by decide +kernel
theorem dX3_hearGrant_1 : decode cX3_hearGrant 1 = .ok (.getfield 43, 3) := by decide +kernel
theorem dX3_hearGrant_4 : decode cX3_hearGrant 4 = .ok (.aload_n 0, 1) := by decide +kernel
theorem dX3_hearGrant_5 : decode cX3_hearGrant 5 = .ok (.getfield 35, 3) := by decide +kernel
theorem dX3_hearGrant_8 : decode cX3_hearGrant 8 = .ok (.if_icmp .ne 23, 3) := by decide +kernel
theorem dX3_hearGrant_11 : decode cX3_hearGrant 11 = .ok (.aload_n 0, 1) := by decide +kernel
theorem dX3_hearGrant_12 : decode cX3_hearGrant 12 = .ok (.getfield 20, 3) := by decide +kernel
theorem dX3_hearGrant_15 : decode cX3_hearGrant 15 = .ok (.aload_n 1, 1) := by decide +kernel
theorem dX3_hearGrant_16 : decode cX3_hearGrant 16 = .ok (.getfield 46, 3) := by decide +kernel
theorem dX3_hearGrant_19 : decode cX3_hearGrant 19 = .ok (.aaload, 1) := by decide +kernel
theorem dX3_hearGrant_20 : decode cX3_hearGrant 20 = .ok (.aload_n 1, 1) := by decide +kernel
theorem dX3_hearGrant_21 : decode cX3_hearGrant 21 = .ok (.invokevirtual 49, 3) := by decide +kernel
theorem dX3_hearGrant_24 : decode cX3_hearGrant 24 = .ok (.ifCond .eq 7, 3) := by decide +kernel
theorem dX3_hearGrant_27 : decode cX3_hearGrant 27 = .ok (.iconst 1, 1) := by decide +kernel
theorem dX3_hearGrant_28 : decode cX3_hearGrant 28 = .ok (.goto 4, 3) := by decide +kernel
theorem dX3_hearGrant_31 : decode cX3_hearGrant 31 = .ok (.iconst 0, 1) := by decide +kernel
theorem dX3_hearGrant_32 : decode cX3_hearGrant 32 = .ok (.ireturn, 1) := by decide +kernel
set_option maxRecDepth 20000 in
theorem ggX3_startAnew_X2_clear : GoodIn wsX3_startAnew wsX2_clear := goodIn_r _ [7, 8, 9, 10, 11, 12, 13, 14, 15, 16, 17, 18, 19, 20, 21, 22, 23, 27, 28, 29, 30, 31, 32, 33, 34, 35, 36, 37, 38] (by decide +kernel) (by decide +kernel)
set_option maxRecDepth 20000 in
theorem gX3_startAnew_X2_clear : GoodIn wsX3_startAnew (wsV RX3 53 RX2 yX2_clear wsX2_clear) := goodIn_app (goodIn_of _ (by decide +kernel)) ggX3_startAnew_X2_clear
theorem dX3_startAnew_0 : decode cX3_startAnew 0 = .ok (.iconst 0, 1) := by decide +kernel
theorem dX3_startAnew_1 : decode cX3_startAnew 1 = .ok (.istore_n 1, 1) := by decide +kernel
theorem dX3_startAnew_2 : decode cX3_startAnew 2 = .ok (.iload_n 1, 1) := by decide +kernel
theorem dX3_startAnew_3 : decode cX3_startAnew 3 = .ok (.bipush 8, 2) := by decide +kernel
theorem dX3_startAnew_5 : decode cX3_startAnew 5 = .ok (.if_icmp .ge 18, 3) := by decide +kernel
theorem dX3_startAnew_8 : decode cX3_startAnew 8 = .ok (.aload_n 0, 1) := by decide +kernel
theorem dX3_startAnew_9 : decode cX3_startAnew 9 = .ok (.getfield 20, 3) := by decide +kernel
theorem dX3_startAnew_12 : decode cX3_startAnew 12 = .ok (.iload_n 1, 1) := by decide +kernel
theorem dX3_startAnew_13 : decode cX3_startAnew 13 = .ok (.aaload, 1) := by decide +kernel
theorem dX3_startAnew_14 : decode cX3_startAnew 14 = .ok (.invokevirtual 53, 3) := by decide +kernel
theorem dX3_startAnew_17 : decode cX3_startAnew 17 = .ok (.iinc 1 1, 3) := by decide +kernel
theorem dX3_startAnew_20 : decode cX3_startAnew 20 = .ok (.goto (-18), 3) := by decide +kernel
theorem dX3_startAnew_23 : decode cX3_startAnew 23 = .ok (.aload_n 0, 1) := by decide +kernel
theorem dX3_startAnew_24 : decode cX3_startAnew 24 = .ok (.dup, 1) := by decide +kernel
theorem dX3_startAnew_25 : decode cX3_startAnew 25 = .ok (.getfield 35, 3) := by decide +kernel
theorem dX3_startAnew_28 : decode cX3_startAnew 28 = .ok (.iconst 1, 1) := by decide +kernel
theorem dX3_startAnew_29 : decode cX3_startAnew 29 = .ok (.iadd, 1) := by decide +kernel
theorem dX3_startAnew_30 : decode cX3_startAnew 30 = .ok (.putfield 35, 3) := by decide +kernel
theorem dX3_startAnew_33 : decode cX3_startAnew 33 = .ok (.aload_n 0, 1) := by decide +kernel
theorem dX3_startAnew_34 : decode cX3_startAnew 34 = .ok (.getfield 35, 3) := by decide +kernel
theorem dX3_startAnew_37 : decode cX3_startAnew 37 = .ok (.ireturn, 1) := by decide +kernel
theorem dX4_init_0 : decode cX4_init 0 = .ok (.aload_n 0, 1) := by decide +kernel
theorem dX4_init_1 : decode cX4_init 1 = .ok (.invokespecial 1, 3) := by decide +kernel
theorem dX4_init_4 : decode cX4_init 4 = .ok (.aload_n 0, 1) := by decide +kernel
theorem dX4_init_5 : decode cX4_init 5 = .ok (.aload_n 1, 1) := by decide +kernel
theorem dX4_init_6 : decode cX4_init 6 = .ok (.getfield 7, 3) := by decide +kernel
theorem dX4_init_9 : decode cX4_init 9 = .ok (.putfield 13, 3) := by decide +kernel
theorem dX4_init_12 : decode cX4_init 12 = .ok (.aload_n 0, 1) := by decide +kernel
theorem dX4_init_13 : decode cX4_init 13 = .ok (.iload_n 2, 1) := by decide +kernel
theorem dX4_init_14 : decode cX4_init 14 = .ok (.putfield 16, 3) := by decide +kernel
theorem dX4_init_17 : decode cX4_init 17 = .ok (.aload_n 0, 1) := by decide +kernel
theorem dX4_init_18 : decode cX4_init 18 = .ok (.sipush 998, 3) := by decide +kernel
theorem dX4_init_21 : decode cX4_init 21 = .ok (.aload_n 1, 1) := by decide +kernel
theorem dX4_init_22 : decode cX4_init 22 = .ok (.getfield 19, 3) := by decide +kernel
theorem dX4_init_25 : decode cX4_init 25 = .ok (.imul, 1) := by decide +kernel
theorem dX4_init_26 : decode cX4_init 26 = .ok (.sipush 1000, 3) := by decide +kernel
theorem dX4_init_29 : decode cX4_init 29 = .ok (.idiv, 1) := by decide +kernel
theorem dX4_init_30 : decode cX4_init 30 = .ok (.putfield 22, 3) := by decide +kernel
theorem dX4_init_33 : decode cX4_init 33 = .ok (.aload_n 0, 1) := by decide +kernel
theorem dX4_init_34 : decode cX4_init 34 = .ok (.aload_n 1, 1) := by decide +kernel
theorem dX4_init_35 : decode cX4_init 35 = .ok (.getfield 25, 3) := by decide +kernel
theorem dX4_init_38 : decode cX4_init 38 = .ok (.putfield 28, 3) := by decide +kernel
theorem dX4_init_41 : decode cX4_init 41 = .ok (.return_, 1) := by decide +kernel
theorem dX4_isLive_0 : decode cX4_isLive 0 = .ok (.iload_n 1, 1) := by decide +kernel
theorem dX4_isLive_1 : decode cX4_isLive 1 = .ok (.aload_n 0, 1) := by decide +kernel
theorem dX4_isLive_2 : decode cX4_isLive 2 = .ok (.getfield 16, 3) := by decide +kernel
theorem dX4_isLive_5 : decode cX4_isLive 5 = .ok (.isub, 1) := by decide +kernel
theorem dX4_isLive_6 : decode cX4_isLive 6 = .ok (.aload_n 0, 1) := by decide +kernel
theorem dX4_isLive_7 : decode cX4_isLive 7 = .ok (.getfield 22, 3) := by decide +kernel
theorem dX4_isLive_10 : decode cX4_isLive 10 = .ok (.if_icmp .ge 7, 3) := by decide +kernel
theorem dX4_isLive_13 : decode cX4_isLive 13 = .ok (.iconst 1, 1) := by decide +kernel
theorem dX4_isLive_14 : decode cX4_isLive 14 = .ok (.goto 4, 3) := by decide +kernel
theorem dX4_isLive_17 : decode cX4_isLive 17 = .ok (.iconst 0, 1) := by decide +kernel
theorem dX4_isLive_18 : decode cX4_isLive 18 = .ok (.ireturn, 1) := by decide +kernel
theorem dX4_isHalfOver_0 : decode cX4_isHalfOver 0 = .ok (.iconst 2, 1) := by decide +kernel
theorem dX4_isHalfOver_1 : decode cX4_isHalfOver 1 = .ok (.iload_n 1, 1) := by decide +kernel
theorem dX4_isHalfOver_2 : decode cX4_isHalfOver 2 = .ok (.aload_n 0, 1) := by decide +kernel
theorem dX4_isHalfOver_3 : decode cX4_isHalfOver 3 = .ok (.getfield 16, 3) := by decide +kernel
theorem dX4_isHalfOver_6 : decode cX4_isHalfOver 6 = .ok (.isub, 1) := by decide +kernel
theorem dX4_isHalfOver_7 : decode cX4_isHalfOver 7 = .ok (.imul, 1) := by decide +kernel
theorem dX4_isHalfOver_8 : decode cX4_isHalfOver 8 = .ok (.aload_n 0, 1) := by decide +kernel
theorem dX4_isHalfOver_9 : decode cX4_isHalfOver 9 = .ok (.getfield 22, 3) := by decide +kernel
theorem dX4_isHalfOver_12 : decode cX4_isHalfOver 12 = .ok (.if_icmp .lt 7, 3) := by decide +kernel
theorem dX4_isHalfOver_15 : decode cX4_isHalfOver 15 = .ok (.iconst 1, 1) := by decide +kernel
theorem dX4_isHalfOver_16 : decode cX4_isHalfOver 16 = .ok (.goto 4, 3) := by decide +kernel
theorem dX4_isHalfOver_19 : decode cX4_isHalfOver 19 = .ok (.iconst 0, 1) := by decide +kernel
theorem dX4_isHalfOver_20 : decode cX4_isHalfOver 20 = .ok (.ireturn, 1) := by decide +kernel
theorem dX4_end_0 : decode cX4_end 0 = .ok (.aload_n 0, 1) := by decide +kernel
theorem dX4_end_1 : decode cX4_end 1 = .ok (.getfield 16, 3) := by decide +kernel
theorem dX4_end_4 : decode cX4_end 4 = .ok (.aload_n 0, 1) := by decide +kernel
theorem dX4_end_5 : decode cX4_end 5 = .ok (.getfield 22, 3) := by decide +kernel
theorem dX4_end_8 : decode cX4_end 8 = .ok (.iadd, 1) := by decide +kernel
theorem dX4_end_9 : decode cX4_end 9 = .ok (.ireturn, 1) := by decide +kernel
theorem dX5_init_0 : decode cX5_init 0 = .ok (.aload_n 0, 1) := by decide +kernel
theorem dX5_init_1 : decode cX5_init 1 = .ok (.invokespecial 1, 3) := by decide +kernel
theorem dX5_init_4 : decode cX5_init 4 = .ok (.aload_n 0, 1) := by decide +kernel
theorem dX5_init_5 : decode cX5_init 5 = .ok (.iload_n 1, 1) := by decide +kernel
theorem dX5_init_6 : decode cX5_init 6 = .ok (.putfield 7, 3) := by decide +kernel
theorem dX5_init_9 : decode cX5_init 9 = .ok (.aload_n 0, 1) := by decide +kernel
theorem dX5_init_10 : decode cX5_init 10 = .ok (.iload_n 2, 1) := by decide +kernel
theorem dX5_init_11 : decode cX5_init 11 = .ok (.putfield 13, 3) := by decide +kernel
theorem dX5_init_14 : decode cX5_init 14 = .ok (.aload_n 0, 1) := by decide +kernel
theorem dX5_init_15 : decode cX5_init 15 = .ok (.iload_n 3, 1) := by decide +kernel
theorem dX5_init_16 : decode cX5_init 16 = .ok (.putfield 16, 3) := by decide +kernel
theorem dX5_init_19 : decode cX5_init 19 = .ok (.return_, 1) := by decide +kernel
theorem dX6_init_0 : decode cX6_init 0 = .ok (.aload_n 0, 1) := by decide +kernel
theorem dX6_init_1 : decode cX6_init 1 = .ok (.invokespecial 3, 3) := by decide +kernel
theorem dX6_init_4 : decode cX6_init 4 = .ok (.aload_n 0, 1) := by decide +kernel
theorem dX6_init_5 : decode cX6_init 5 = .ok (.iconst 0, 1) := by decide +kernel
theorem dX6_init_6 : decode cX6_init 6 = .ok (.putfield 9, 3) := by decide +kernel
theorem dX6_init_9 : decode cX6_init 9 = .ok (.aload_n 0, 1) := by decide +kernel
theorem dX6_init_10 : decode cX6_init 10 = .ok (.iload_n 1, 1) := by decide +kernel
theorem dX6_init_11 : decode cX6_init 11 = .ok (.putfield 15, 3) := by decide +kernel
theorem dX6_init_14 : decode cX6_init 14 = .ok (.aload_n 0, 1) := by decide +kernel
theorem dX6_init_15 : decode cX6_init 15 = .ok (.iload_n 2, 1) := by decide +kernel
theorem dX6_init_16 : decode cX6_init 16 = .ok (.putfield 18, 3) := by decide +kernel
theorem dX6_init_19 : decode cX6_init 19 = .ok (.aload_n 0, 1) := by decide +kernel
theorem dX6_init_20 : decode cX6_init 20 = .ok (.iload_n 3, 1) := by decide +kernel
theorem dX6_init_21 : decode cX6_init 21 = .ok (.putfield 21, 3) := by decide +kernel
theorem dX6_init_24 : decode cX6_init 24 = .ok (.aload_n 0, 1) := by decide +kernel
theorem dX6_init_25 : decode cX6_init 25 = .ok (.iload 5, 2) := by decide +kernel
theorem dX6_init_27 : decode cX6_init 27 = .ok (.putfield 24, 3) := by decide +kernel
theorem dX6_init_30 : decode cX6_init 30 = .ok (.aload_n 0, 1) := by decide +kernel
theorem dX6_init_31 : decode cX6_init 31 = .ok (.iload 4, 2) := by decide +kernel
theorem dX6_init_33 : decode cX6_init 33 = .ok (.putfield 27, 3) := by decide +kernel
theorem dX6_init_36 : decode cX6_init 36 = .ok (.aload_n 0, 1) := by decide +kernel
theorem dX6_init_37 : decode cX6_init 37 = .ok (.iconst (-1), 1) := by decide +kernel
theorem dX6_init_38 : decode cX6_init 38 = .ok (.putfield 30, 3) := by decide +kernel
theorem dX6_init_41 : decode cX6_init 41 = .ok (.aload_n 0, 1) := by decide +kernel
theorem dX6_init_42 : decode cX6_init 42 = .ok (.iconst 0, 1) := by decide +kernel
theorem dX6_init_43 : decode cX6_init 43 = .ok (.putfield 33, 3) := by decide +kernel
theorem dX6_init_46 : decode cX6_init 46 = .ok (.return_, 1) := by decide +kernel
theorem dX6_init__0 : decode cX6_init_ 0 = .ok (.aload_n 0, 1) := by decide +kernel
theorem dX6_init__1 : decode cX6_init_ 1 = .ok (.invokespecial 3, 3) := by decide +kernel
theorem dX6_init__4 : decode cX6_init_ 4 = .ok (.aload_n 0, 1) := by decide +kernel
theorem dX6_init__5 : decode cX6_init_ 5 = .ok (.iconst 1, 1) := by decide +kernel
theorem dX6_init__6 : decode cX6_init_ 6 = .ok (.putfield 9, 3) := by decide +kernel
theorem dX6_init__9 : decode cX6_init_ 9 = .ok (.aload_n 0, 1) := by decide +kernel
theorem dX6_init__10 : decode cX6_init_ 10 = .ok (.aload_n 1, 1) := by decide +kernel
theorem dX6_init__11 : decode cX6_init_ 11 = .ok (.getfield 15, 3) := by decide +kernel
theorem dX6_init__14 : decode cX6_init_ 14 = .ok (.putfield 15, 3) := by decide +kernel
theorem dX6_init__17 : decode cX6_init_ 17 = .ok (.aload_n 0, 1) := by decide +kernel
theorem dX6_init__18 : decode cX6_init_ 18 = .ok (.aload_n 1, 1) := by decide +kernel
theorem dX6_init__19 : decode cX6_init_ 19 = .ok (.getfield 18, 3) := by decide +kernel
theorem dX6_init__22 : decode cX6_init_ 22 = .ok (.putfield 18, 3) := by decide +kernel
theorem dX6_init__25 : decode cX6_init_ 25 = .ok (.aload_n 0, 1) := by decide +kernel
theorem dX6_init__26 : decode cX6_init_ 26 = .ok (.aload_n 1, 1) := by decide +kernel
theorem dX6_init__27 : decode cX6_init_ 27 = .ok (.getfield 21, 3) := by decide +kernel
theorem dX6_init__30 : decode cX6_init_ 30 = .ok (.putfield 21, 3) := by decide +kernel
theorem dX6_init__33 : decode cX6_init_ 33 = .ok (.aload_n 0, 1) := by decide +kernel
theorem dX6_init__34 : decode cX6_init_ 34 = .ok (.iload_n 2, 1) := by decide +kernel
theorem dX6_init__35 : decode cX6_init_ 35 = .ok (.putfield 24, 3) := by decide +kernel
theorem dX6_init__38 : decode cX6_init_ 38 = .ok (.aload_n 0, 1) := by decide +kernel
theorem dX6_init__39 : decode cX6_init_ 39 = .ok (.aload_n 1, 1) := by decide +kernel
theorem dX6_init__40 : decode cX6_init_ 40 = .ok (.getfield 27, 3) := by decide +kernel
theorem dX6_init__43 : decode cX6_init_ 43 = .ok (.putfield 27, 3) := by decide +kernel
theorem dX6_init__46 : decode cX6_init_ 46 = .ok (.aload_n 0, 1) := by decide +kernel
theorem dX6_init__47 : decode cX6_init_ 47 = .ok (.iload_n 3, 1) := by decide +kernel
theorem dX6_init__48 : decode cX6_init_ 48 = .ok (.putfield 30, 3) := by decide +kernel
theorem dX6_init__51 : decode cX6_init_ 51 = .ok (.aload_n 0, 1) := by decide +kernel
theorem dX6_init__52 : decode cX6_init_ 52 = .ok (.iload 4, 2) := by decide +kernel
theorem dX6_init__54 : decode cX6_init_ 54 = .ok (.putfield 33, 3) := by decide +kernel
theorem dX6_init__57 : decode cX6_init_ 57 = .ok (.return_, 1) := by decide +kernel
theorem dX6_init___0 : decode cX6_init__ 0 = .ok (.aload_n 0, 1) := by decide +kernel
theorem dX6_init___1 : decode cX6_init__ 1 = .ok (.invokespecial 3, 3) := by decide +kernel
theorem dX6_init___4 : decode cX6_init__ 4 = .ok (.aload_n 0, 1) := by decide +kernel
theorem dX6_init___5 : decode cX6_init__ 5 = .ok (.iconst 2, 1) := by decide +kernel
theorem dX6_init___6 : decode cX6_init__ 6 = .ok (.putfield 9, 3) := by decide +kernel
theorem dX6_init___9 : decode cX6_init__ 9 = .ok (.aload_n 0, 1) := by decide +kernel
theorem dX6_init___10 : decode cX6_init__ 10 = .ok (.iload_n 1, 1) := by decide +kernel
theorem dX6_init___11 : decode cX6_init__ 11 = .ok (.putfield 15, 3) := by decide +kernel
theorem dX6_init___14 : decode cX6_init__ 14 = .ok (.aload_n 0, 1) := by decide +kernel
theorem dX6_init___15 : decode cX6_init__ 15 = .ok (.iload_n 2, 1) := by decide +kernel
theorem dX6_init___16 : decode cX6_init__ 16 = .ok (.putfield 18, 3) := by decide +kernel
theorem dX6_init___19 : decode cX6_init__ 19 = .ok (.aload_n 0, 1) := by decide +kernel
theorem dX6_init___20 : decode cX6_init__ 20 = .ok (.iload_n 3, 1) := by decide +kernel
theorem dX6_init___21 : decode cX6_init__ 21 = .ok (.putfield 21, 3) := by decide +kernel
theorem dX6_init___24 : decode cX6_init__ 24 = .ok (.aload_n 0, 1) := by decide +kernel
theorem dX6_init___25 : decode cX6_init__ 25 = .ok (.aload 4, 2) := by decide +kernel
theorem dX6_init___27 : decode cX6_init__ 27 = .ok (.getfield 36, 3) := by decide +kernel
theorem dX6_init___30 : decode cX6_init__ 30 = .ok (.putfield 24, 3) := by decide +kernel
theorem dX6_init___33 : decode cX6_init__ 33 = .ok (.aload_n 0, 1) := by decide +kernel
theorem dX6_init___34 : decode cX6_init__ 34 = .ok (.iconst (-1), 1) := by decide +kernel
theorem dX6_init___35 : decode cX6_init__ 35 = .ok (.putfield 27, 3) := by decide +kernel
theorem dX6_init___38 : decode cX6_init__ 38 = .ok (.aload_n 0, 1) := by decide +kernel
theorem dX6_init___39 : decode cX6_init__ 39 = .ok (.aload 4, 2) := by decide +kernel
theorem dX6_init___41 : decode cX6_init__ 41 = .ok (.getfield 39, 3) := by decide +kernel
theorem dX6_init___44 : decode cX6_init__ 44 = .ok (.putfield 30, 3) := by decide +kernel
theorem dX6_init___47 : decode cX6_init__ 47 = .ok (.aload_n 0, 1) := by decide +kernel
theorem dX6_init___48 : decode cX6_init__ 48 = .ok (.iconst 0, 1) := by decide +kernel
theorem dX6_init___49 : decode cX6_init__ 49 = .ok (.putfield 33, 3) := by decide +kernel
theorem dX6_init___52 : decode cX6_init__ 52 = .ok (.return_, 1) := by decide +kernel
theorem dX7_init_0 : decode cX7_init 0 = .ok (.aload_n 0, 1) := by decide +kernel
theorem dX7_init_1 : decode cX7_init 1 = .ok (.invokespecial 3, 3) := by decide +kernel
theorem dX7_init_4 : decode cX7_init 4 = .ok (.aload_n 0, 1) := by decide +kernel
theorem dX7_init_5 : decode cX7_init 5 = .ok (.sipush 300, 3) := by decide +kernel
theorem dX7_init_8 : decode cX7_init 8 = .ok (.anewarray 9, 3) := by decide +kernel
theorem dX7_init_11 : decode cX7_init 11 = .ok (.putfield 11, 3) := by decide +kernel
theorem dX7_init_14 : decode cX7_init 14 = .ok (.return_, 1) := by decide +kernel
theorem dX7_send_0 : decode cX7_send 0 = .ok (.aload_n 0, 1) := by decide +kernel
theorem dX7_send_1 : decode cX7_send 1 = .ok (.getfield 17, 3) := by decide +kernel
theorem dX7_send_4 : decode cX7_send 4 = .ok (.sipush 300, 3) := by decide +kernel
theorem dX7_send_7 : decode cX7_send 7 = .ok (.if_icmp .ge 23, 3) := by decide +kernel
theorem dX7_send_10 : decode cX7_send 10 = .ok (.aload_n 0, 1) := by decide +kernel
theorem dX7_send_11 : decode cX7_send 11 = .ok (.getfield 11, 3) := by decide +kernel
theorem dX7_send_14 : decode cX7_send 14 = .ok (.aload_n 0, 1) := by decide +kernel
theorem dX7_send_15 : decode cX7_send 15 = .ok (.getfield 17, 3) := by decide +kernel
theorem dX7_send_18 : decode cX7_send 18 = .ok (.aload_n 1, 1) := by decide +kernel
theorem dX7_send_19 : decode cX7_send 19 = .ok (.aastore, 1) := by decide +kernel
theorem dX7_send_20 : decode cX7_send 20 = .ok (.aload_n 0, 1) := by decide +kernel
theorem dX7_send_21 : decode cX7_send 21 = .ok (.dup, 1) := by decide +kernel
theorem dX7_send_22 : decode cX7_send 22 = .ok (.getfield 17, 3) := by decide +kernel
theorem dX7_send_25 : decode cX7_send 25 = .ok (.iconst 1, 1) := by decide +kernel
theorem dX7_send_26 : decode cX7_send 26 = .ok (.iadd, 1) := by decide +kernel
theorem dX7_send_27 : decode cX7_send 27 = .ok (.putfield 17, 3) := by decide +kernel
theorem dX7_send_30 : decode cX7_send 30 = .ok (.return_, 1) := by decide +kernel
theorem dX7_find_0 : decode cX7_find 0 = .ok (.iload_n 1, 1) := by decide +kernel
theorem dX7_find_1 : decode cX7_find 1 = .ok (.ifCond .lt 20, 3) := by decide +kernel
theorem dX7_find_4 : decode cX7_find 4 = .ok (.iload_n 1, 1) := by decide +kernel
theorem dX7_find_5 : decode cX7_find 5 = .ok (.aload_n 0, 1) := by decide +kernel
theorem dX7_find_6 : decode cX7_find 6 = .ok (.getfield 17, 3) := by decide +kernel
theorem dX7_find_9 : decode cX7_find 9 = .ok (.if_icmp .ge 12, 3) := by decide +kernel
theorem dX7_find_12 : decode cX7_find 12 = .ok (.aload_n 0, 1) := by decide +kernel
theorem dX7_find_13 : decode cX7_find 13 = .ok (.getfield 11, 3) := by decide +kernel
theorem dX7_find_16 : decode cX7_find 16 = .ok (.iload_n 1, 1) := by decide +kernel
theorem dX7_find_17 : decode cX7_find 17 = .ok (.aaload, 1) := by decide +kernel
theorem dX7_find_18 : decode cX7_find 18 = .ok (.goto 4, 3) := by decide +kernel
theorem dX7_find_21 : decode cX7_find 21 = .ok (.aconst_null, 1) := by decide +kernel
theorem dX7_find_22 : decode cX7_find 22 = .ok (.areturn, 1) := by decide +kernel
theorem dX7_discard_0 : decode cX7_discard 0 = .ok (.iload_n 1, 1) := by decide +kernel
theorem dX7_discard_1 : decode cX7_discard 1 = .ok (.ifCond .lt 18, 3) := by decide +kernel
theorem dX7_discard_4 : decode cX7_discard 4 = .ok (.iload_n 1, 1) := by decide +kernel
theorem dX7_discard_5 : decode cX7_discard 5 = .ok (.aload_n 0, 1) := by decide +kernel
theorem dX7_discard_6 : decode cX7_discard 6 = .ok (.getfield 17, 3) := by decide +kernel
theorem dX7_discard_9 : decode cX7_discard 9 = .ok (.if_icmp .ge 10, 3) := by decide +kernel
theorem dX7_discard_12 : decode cX7_discard 12 = .ok (.aload_n 0, 1) := by decide +kernel
theorem dX7_discard_13 : decode cX7_discard 13 = .ok (.getfield 11, 3) := by decide +kernel
theorem dX7_discard_16 : decode cX7_discard 16 = .ok (.iload_n 1, 1) := by decide +kernel
theorem dX7_discard_17 : decode cX7_discard 17 = .ok (.aconst_null, 1) := by decide +kernel
theorem dX7_discard_18 : decode cX7_discard 18 = .ok (.aastore, 1) := by decide +kernel
theorem dX7_discard_19 : decode cX7_discard 19 = .ok (.return_, 1) := by decide +kernel
set_option maxRecDepth 20000 in
theorem ggX8_init_X9_init : GoodIn wsX8_init wsX9_init := goodIn_r _ [20, 21, 2, 3, 22, 49, 50] (by decide +kernel) (by decide +kernel)
set_option maxRecDepth 20000 in
theorem gX8_init_X9_init_n11 : GoodIn wsX8_init (wsX9_init) := ggX8_init_X9_init
set_option maxRecDepth 20000 in
theorem ggX8_init_X1_init : GoodIn wsX8_init wsX1_init := goodIn_r _ [24, 25, 2, 3, 26, 27, 28, 29, 30, 31, 32, 33, 34, 35, 36, 37, 38, 39, 40, 41, 42, 43, 44, 67, 68, 69, 57, 58, 59, 60, 61, 62] (by decide +kernel) (by decide +kernel)
set_option maxRecDepth 20000 in
theorem gX8_init_X1_init_n38 : GoodIn wsX8_init (wsX1_init) := ggX8_init_X1_init
set_option maxRecDepth 20000 in
theorem ggX8_init_X0_init : GoodIn wsX8_init wsX0_init := goodIn_r _ [46, 47, 2, 3, 48, 63, 64, 65, 66] (by decide +kernel) (by decide +kernel)
set_option maxRecDepth 20000 in
theorem gX8_init_X0_init_n39 : GoodIn wsX8_init (wsX0_init) := ggX8_init_X0_init
theorem dX8_init_0 : decode cX8_init 0 = .ok (.aload_n 0, 1) := by decide +kernel
theorem dX8_init_1 : decode cX8_init 1 = .ok (.invokespecial 3, 3) := by decide +kernel
theorem dX8_init_4 : decode cX8_init 4 = .ok (.aload_n 0, 1) := by decide +kernel
theorem dX8_init_5 : decode cX8_init 5 = .ok (.new 9, 3) := by decide +kernel
theorem dX8_init_8 : decode cX8_init 8 = .ok (.dup, 1) := by decide +kernel
theorem dX8_init_9 : decode cX8_init 9 = .ok (.invokespecial 11, 3) := by decide +kernel
theorem dX8_init_12 : decode cX8_init 12 = .ok (.putfield 12, 3) := by decide +kernel
theorem dX8_init_15 : decode cX8_init 15 = .ok (.aload_n 0, 1) := by decide +kernel
theorem dX8_init_16 : decode cX8_init 16 = .ok (.bipush 8, 2) := by decide +kernel
theorem dX8_init_18 : decode cX8_init 18 = .ok (.anewarray 18, 3) := by decide +kernel
theorem dX8_init_21 : decode cX8_init 21 = .ok (.putfield 20, 3) := by decide +kernel
theorem dX8_init_24 : decode cX8_init 24 = .ok (.aload_n 0, 1) := by decide +kernel
theorem dX8_init_25 : decode cX8_init 25 = .ok (.bipush 48, 2) := by decide +kernel
theorem dX8_init_27 : decode cX8_init 27 = .ok (.anewarray 24, 3) := by decide +kernel
theorem dX8_init_30 : decode cX8_init 30 = .ok (.putfield 26, 3) := by decide +kernel
theorem dX8_init_33 : decode cX8_init 33 = .ok (.aload_n 0, 1) := by decide +kernel
theorem dX8_init_34 : decode cX8_init 34 = .ok (.bipush 6, 2) := by decide +kernel
theorem dX8_init_36 : decode cX8_init 36 = .ok (.newarray .int, 2) := by decide +kernel
theorem dX8_init_38 : decode cX8_init 38 = .ok (.putfield 30, 3) := by decide +kernel
theorem dX8_init_41 : decode cX8_init 41 = .ok (.aload_n 0, 1) := by decide +kernel
theorem dX8_init_42 : decode cX8_init 42 = .ok (.sipush 2000, 3) := by decide +kernel
theorem dX8_init_45 : decode cX8_init 45 = .ok (.putfield 34, 3) := by decide +kernel
theorem dX8_init_48 : decode cX8_init 48 = .ok (.iconst 0, 1) := by decide +kernel
theorem dX8_init_49 : decode cX8_init 49 = .ok (.istore_n 1, 1) := by decide +kernel
theorem dX8_init_50 : decode cX8_init 50 = .ok (.iload_n 1, 1) := by decide +kernel
theorem dX8_init_51 : decode cX8_init 51 = .ok (.bipush 8, 2) := by decide +kernel
theorem dX8_init_53 : decode cX8_init 53 = .ok (.if_icmp .ge 22, 3) := by decide +kernel
theorem dX8_init_56 : decode cX8_init 56 = .ok (.aload_n 0, 1) := by decide +kernel
theorem dX8_init_57 : decode cX8_init 57 = .ok (.getfield 20, 3) := by decide +kernel
theorem dX8_init_60 : decode cX8_init 60 = .ok (.iload_n 1, 1) := by decide +kernel
theorem dX8_init_61 : decode cX8_init 61 = .ok (.new 18, 3) := by decide +kernel
theorem dX8_init_64 : decode cX8_init 64 = .ok (.dup, 1) := by decide +kernel
theorem dX8_init_65 : decode cX8_init 65 = .ok (.invokespecial 38, 3) := by decide +kernel
theorem dX8_init_68 : decode cX8_init 68 = .ok (.aastore, 1) := by decide +kernel
theorem dX8_init_69 : decode cX8_init 69 = .ok (.iinc 1 1, 3) := by decide +kernel
theorem dX8_init_72 : decode cX8_init 72 = .ok (.goto (-22), 3) := by decide +kernel
theorem dX8_init_75 : decode cX8_init 75 = .ok (.iconst 0, 1) := by decide +kernel
theorem dX8_init_76 : decode cX8_init 76 = .ok (.istore_n 1, 1) := by decide +kernel
theorem dX8_init_77 : decode cX8_init 77 = .ok (.iload_n 1, 1) := by decide +kernel
theorem dX8_init_78 : decode cX8_init 78 = .ok (.bipush 48, 2) := by decide +kernel
theorem dX8_init_80 : decode cX8_init 80 = .ok (.if_icmp .ge 22, 3) := by decide +kernel
theorem dX8_init_83 : decode cX8_init 83 = .ok (.aload_n 0, 1) := by decide +kernel
theorem dX8_init_84 : decode cX8_init 84 = .ok (.getfield 26, 3) := by decide +kernel
theorem dX8_init_87 : decode cX8_init 87 = .ok (.iload_n 1, 1) := by decide +kernel
theorem dX8_init_88 : decode cX8_init 88 = .ok (.new 24, 3) := by decide +kernel
theorem dX8_init_91 : decode cX8_init 91 = .ok (.dup, 1) := by decide +kernel
theorem dX8_init_92 : decode cX8_init 92 = .ok (.invokespecial 39, 3) := by decide +kernel
theorem dX8_init_95 : decode cX8_init 95 = .ok (.aastore, 1) := by decide +kernel
theorem dX8_init_96 : decode cX8_init 96 = .ok (.iinc 1 1, 3) := by decide +kernel
theorem dX8_init_99 : decode cX8_init 99 = .ok (.goto (-22), 3) := by decide +kernel
theorem dX8_init_102 : decode cX8_init 102 = .ok (.return_, 1) := by decide +kernel
theorem dX8_accountOf_0 : decode cX8_accountOf 0 = .ok (.aload_n 0, 1) := by decide +kernel
theorem dX8_accountOf_1 : decode cX8_accountOf 1 = .ok (.getfield 26, 3) := by decide +kernel
theorem dX8_accountOf_4 : decode cX8_accountOf 4 = .ok (.iload_n 1, 1) := by decide +kernel
theorem dX8_accountOf_5 : decode cX8_accountOf 5 = .ok (.bipush 8, 2) := by decide +kernel
theorem dX8_accountOf_7 : decode cX8_accountOf 7 = .ok (.imul, 1) := by decide +kernel
theorem dX8_accountOf_8 : decode cX8_accountOf 8 = .ok (.iload_n 2, 1) := by decide +kernel
theorem dX8_accountOf_9 : decode cX8_accountOf 9 = .ok (.iadd, 1) := by decide +kernel
theorem dX8_accountOf_10 : decode cX8_accountOf 10 = .ok (.aaload, 1) := by decide +kernel
theorem dX8_accountOf_11 : decode cX8_accountOf 11 = .ok (.areturn, 1) := by decide +kernel
set_option maxRecDepth 20000 in
theorem ggX8_advance_X9_now : GoodIn wsX8_advance wsX9_now := goodIn_r _ [7, 8, 9, 91, 92] (by decide +kernel) (by decide +kernel)
set_option maxRecDepth 20000 in
theorem gX8_advance_X9_now : GoodIn wsX8_advance (wsV RX8 40 RX9 yX9_now wsX9_now) := goodIn_app (goodIn_of _ (by decide +kernel)) ggX8_advance_X9_now
set_option maxRecDepth 20000 in
theorem ggX8_advance_X9_advance : GoodIn wsX8_advance wsX9_advance := goodIn_r _ [13, 8, 14, 91, 92] (by decide +kernel) (by decide +kernel)
set_option maxRecDepth 20000 in
theorem gX8_advance_X9_advance : GoodIn wsX8_advance (wsV RX8 44 RX9 yX9_advance wsX9_advance) := goodIn_app (goodIn_of _ (by decide +kernel)) ggX8_advance_X9_advance
set_option maxRecDepth 20000 in
theorem ggX8_advance_X1_pass : GoodIn wsX8_advance wsX1_pass := goodIn_r _ [19, 20, 21, 22, 23, 24, 25, 26, 27, 28, 29, 30, 31, 32, 18, 33, 34, 35, 36, 37, 38, 39, 40, 41, 42, 43, 44, 45, 46, 47, 48, 49, 50, 51, 52, 53, 54, 55, 56, 57, 58, 59, 60, 61, 62, 63, 64, 65, 66, 67, 68, 69, 70, 71, 72, 73, 74, 75, 76, 77, 78, 79, 80, 81, 82, 83, 84, 93, 94, 95, 96, 97, 98, 99, 100, 101, 102, 103, 104] (by decide +kernel) (by decide +kernel)
set_option maxRecDepth 20000 in
theorem gX8_advance_X1_pass : GoodIn wsX8_advance (wsV RX8 48 RX1 yX1_pass wsX1_pass) := goodIn_app (goodIn_of _ (by decide +kernel)) ggX8_advance_X1_pass
theorem dX8_advance_0 : decode cX8_advance 0 = .ok (.aload_n 0, 1) := by decide +kernel
theorem dX8_advance_1 : decode cX8_advance 1 = .ok (.getfield 12, 3) := by decide +kernel
theorem dX8_advance_4 : decode cX8_advance 4 = .ok (.invokevirtual 40, 3) := by decide +kernel
theorem dX8_advance_7 : decode cX8_advance 7 = .ok (.istore_n 2, 1) := by decide +kernel
theorem dX8_advance_8 : decode cX8_advance 8 = .ok (.aload_n 0, 1) := by decide +kernel
theorem dX8_advance_9 : decode cX8_advance 9 = .ok (.getfield 12, 3) := by decide +kernel
theorem dX8_advance_12 : decode cX8_advance 12 = .ok (.iload_n 1, 1) := by decide +kernel
theorem dX8_advance_13 : decode cX8_advance 13 = .ok (.invokevirtual 44, 3) := by decide +kernel
theorem dX8_advance_16 : decode cX8_advance 16 = .ok (.iconst 0, 1) := by decide +kernel
theorem dX8_advance_17 : decode cX8_advance 17 = .ok (.istore_n 3, 1) := by decide +kernel
theorem dX8_advance_18 : decode cX8_advance 18 = .ok (.iload_n 3, 1) := by decide +kernel
theorem dX8_advance_19 : decode cX8_advance 19 = .ok (.bipush 8, 2) := by decide +kernel
theorem dX8_advance_21 : decode cX8_advance 21 = .ok (.if_icmp .ge 26, 3) := by decide +kernel
theorem dX8_advance_24 : decode cX8_advance 24 = .ok (.aload_n 0, 1) := by decide +kernel
theorem dX8_advance_25 : decode cX8_advance 25 = .ok (.getfield 20, 3) := by decide +kernel
theorem dX8_advance_28 : decode cX8_advance 28 = .ok (.iload_n 3, 1) := by decide +kernel
theorem dX8_advance_29 : decode cX8_advance 29 = .ok (.aaload, 1) := by decide +kernel
theorem dX8_advance_30 : decode cX8_advance 30 = .ok (.iload_n 2, 1) := by decide +kernel
theorem dX8_advance_31 : decode cX8_advance 31 = .ok (.aload_n 0, 1) := by decide +kernel
theorem dX8_advance_32 : decode cX8_advance 32 = .ok (.getfield 12, 3) := by decide +kernel
theorem dX8_advance_35 : decode cX8_advance 35 = .ok (.invokevirtual 40, 3) := by decide +kernel
theorem dX8_advance_38 : decode cX8_advance 38 = .ok (.invokevirtual 48, 3) := by decide +kernel
theorem dX8_advance_41 : decode cX8_advance 41 = .ok (.iinc 3 1, 3) := by decide +kernel
theorem dX8_advance_44 : decode cX8_advance 44 = .ok (.goto (-26), 3) := by decide +kernel
theorem dX8_advance_47 : decode cX8_advance 47 = .ok (.return_, 1) := by decide +kernel
set_option maxRecDepth 20000 in
theorem ggX8_hearAsk_X8_forgetAnswers : GoodIn wsX8_hearAsk wsX8_forgetAnswers := goodIn_r _ [11, 5, 12, 13, 14, 10, 15, 16, 163, 164, 165, 166, 157, 158, 159, 160, 161, 162] (by decide +kernel) (by decide +kernel)
set_option maxRecDepth 20000 in
theorem gX8_hearAsk_X8_forgetAnswers : GoodIn wsX8_hearAsk (wsV RX8 60 RX8 yX8_forgetAnswers wsX8_forgetAnswers) := goodIn_app (goodIn_of _ (by decide +kernel)) ggX8_hearAsk_X8_forgetAnswers
set_option maxRecDepth 20000 in
theorem ggX8_hearAsk_X8_accountOf : GoodIn wsX8_hearAsk wsX8_accountOf := goodIn_r _ [15, 16, 157, 158, 159, 160, 161, 162] (by decide +kernel) (by decide +kernel)
set_option maxRecDepth 20000 in
theorem gX8_hearAsk_X8_accountOf : GoodIn wsX8_hearAsk (wsV RX8 66 RX8 yX8_accountOf wsX8_accountOf) := goodIn_app (goodIn_of _ (by decide +kernel)) ggX8_hearAsk_X8_accountOf
set_option maxRecDepth 20000 in
theorem ggX8_hearAsk_X8_answerTo : GoodIn wsX8_hearAsk wsX8_answerTo := goodIn_r _ [20, 21, 22, 23, 24, 4, 25, 26, 27, 28, 29, 30, 31, 32, 33, 34, 35, 36, 37, 38, 39, 40, 41, 42, 43, 44, 45, 46, 47, 10, 48, 12, 13, 14, 15, 16, 49, 50, 51, 52, 53, 54, 55, 56, 57, 58, 59, 60, 61, 62, 63, 64, 65, 66, 67, 68, 69, 70, 71, 72, 73, 74, 75, 76, 77, 78, 79, 80, 81, 82, 83, 84, 85, 86, 87, 88, 89, 90, 91, 92, 93, 94, 95, 96, 97, 98, 99, 100, 101, 102, 103, 104, 105, 106, 107, 108, 109, 110, 111, 112, 113, 114, 115, 116, 117, 118, 119, 120, 121, 122, 123, 124, 125, 126, 127, 128, 129, 130, 131, 132, 133, 134, 135, 136, 137, 138, 139, 140, 141, 163, 164, 165, 166, 157, 158, 159, 160, 161, 162, 149, 150, 151, 152, 153, 154, 155, 156, 167, 168, 169, 170, 171, 172, 173, 174, 175, 176, 177, 178, 179, 180] (by decide +kernel) (by decide +kernel)
set_option maxRecDepth 20000 in
theorem gX8_hearAsk_X8_answerTo : GoodIn wsX8_hearAsk (wsV RX8 77 RX8 yX8_answerTo wsX8_answerTo) := goodIn_app (goodIn_of _ (by decide +kernel)) ggX8_hearAsk_X8_answerTo
set_option maxRecDepth 20000 in
theorem ggX8_hearAsk_X7_send : GoodIn wsX8_hearAsk wsX7_send := goodIn_r _ [146, 147, 148, 181, 182] (by decide +kernel) (by decide +kernel)
set_option maxRecDepth 20000 in
theorem gX8_hearAsk_X7_send : GoodIn wsX8_hearAsk (wsV RX8 81 RX7 yX7_send wsX7_send) := goodIn_app (goodIn_of _ (by decide +kernel)) ggX8_hearAsk_X7_send
theorem dX8_hearAsk_0 : decode cX8_hearAsk 0 = .ok (.aload_n 1, 1) := by decide +kernel
theorem dX8_hearAsk_1 : decode cX8_hearAsk 1 = .ok (.getfield 52, 3) := by decide +kernel
theorem dX8_hearAsk_4 : decode cX8_hearAsk 4 = .ok (.aload_n 0, 1) := by decide +kernel
theorem dX8_hearAsk_5 : decode cX8_hearAsk 5 = .ok (.getfield 30, 3) := by decide +kernel
theorem dX8_hearAsk_8 : decode cX8_hearAsk 8 = .ok (.aload_n 1, 1) := by decide +kernel
theorem dX8_hearAsk_9 : decode cX8_hearAsk 9 = .ok (.getfield 57, 3) := by decide +kernel
theorem dX8_hearAsk_12 : decode cX8_hearAsk 12 = .ok (.iaload, 1) := by decide +kernel
theorem dX8_hearAsk_13 : decode cX8_hearAsk 13 = .ok (.if_icmp .ge 5, 3) := by decide +kernel
theorem dX8_hearAsk_16 : decode cX8_hearAsk 16 = .ok (.iconst 0, 1) := by decide +kernel
theorem dX8_hearAsk_17 : decode cX8_hearAsk 17 = .ok (.ireturn, 1) := by decide +kernel
theorem dX8_hearAsk_18 : decode cX8_hearAsk 18 = .ok (.aload_n 1, 1) := by decide +kernel
theorem dX8_hearAsk_19 : decode cX8_hearAsk 19 = .ok (.getfield 52, 3) := by decide +kernel
theorem dX8_hearAsk_22 : decode cX8_hearAsk 22 = .ok (.aload_n 0, 1) := by decide +kernel
theorem dX8_hearAsk_23 : decode cX8_hearAsk 23 = .ok (.getfield 30, 3) := by decide +kernel
theorem dX8_hearAsk_26 : decode cX8_hearAsk 26 = .ok (.aload_n 1, 1) := by decide +kernel
theorem dX8_hearAsk_27 : decode cX8_hearAsk 27 = .ok (.getfield 57, 3) := by decide +kernel
theorem dX8_hearAsk_30 : decode cX8_hearAsk 30 = .ok (.iaload, 1) := by decide +kernel
theorem dX8_hearAsk_31 : decode cX8_hearAsk 31 = .ok (.if_icmp .le 24, 3) := by decide +kernel
theorem dX8_hearAsk_34 : decode cX8_hearAsk 34 = .ok (.aload_n 0, 1) := by decide +kernel
theorem dX8_hearAsk_35 : decode cX8_hearAsk 35 = .ok (.getfield 30, 3) := by decide +kernel
theorem dX8_hearAsk_38 : decode cX8_hearAsk 38 = .ok (.aload_n 1, 1) := by decide +kernel
theorem dX8_hearAsk_39 : decode cX8_hearAsk 39 = .ok (.getfield 57, 3) := by decide +kernel
theorem dX8_hearAsk_42 : decode cX8_hearAsk 42 = .ok (.aload_n 1, 1) := by decide +kernel
theorem dX8_hearAsk_43 : decode cX8_hearAsk 43 = .ok (.getfield 52, 3) := by decide +kernel
theorem dX8_hearAsk_46 : decode cX8_hearAsk 46 = .ok (.iastore, 1) := by decide +kernel
theorem dX8_hearAsk_47 : decode cX8_hearAsk 47 = .ok (.aload_n 0, 1) := by decide +kernel
theorem dX8_hearAsk_48 : decode cX8_hearAsk 48 = .ok (.aload_n 1, 1) := by decide +kernel
theorem dX8_hearAsk_49 : decode cX8_hearAsk 49 = .ok (.getfield 57, 3) := by decide +kernel
theorem dX8_hearAsk_52 : decode cX8_hearAsk 52 = .ok (.invokevirtual 60, 3) := by decide +kernel
theorem dX8_hearAsk_55 : decode cX8_hearAsk 55 = .ok (.aload_n 0, 1) := by decide +kernel
theorem dX8_hearAsk_56 : decode cX8_hearAsk 56 = .ok (.aload_n 1, 1) := by decide +kernel
theorem dX8_hearAsk_57 : decode cX8_hearAsk 57 = .ok (.getfield 57, 3) := by decide +kernel
theorem dX8_hearAsk_60 : decode cX8_hearAsk 60 = .ok (.aload_n 1, 1) := by decide +kernel
theorem dX8_hearAsk_61 : decode cX8_hearAsk 61 = .ok (.getfield 63, 3) := by decide +kernel
theorem dX8_hearAsk_64 : decode cX8_hearAsk 64 = .ok (.invokevirtual 66, 3) := by decide +kernel
theorem dX8_hearAsk_67 : decode cX8_hearAsk 67 = .ok (.astore_n 3, 1) := by decide +kernel
theorem dX8_hearAsk_68 : decode cX8_hearAsk 68 = .ok (.aload_n 3, 1) := by decide +kernel
theorem dX8_hearAsk_69 : decode cX8_hearAsk 69 = .ok (.getfield 70, 3) := by decide +kernel
theorem dX8_hearAsk_72 : decode cX8_hearAsk 72 = .ok (.ifnull 17, 3) := by decide +kernel
theorem dX8_hearAsk_75 : decode cX8_hearAsk 75 = .ok (.aload_n 1, 1) := by decide +kernel
theorem dX8_hearAsk_76 : decode cX8_hearAsk 76 = .ok (.getfield 74, 3) := by decide +kernel
theorem dX8_hearAsk_79 : decode cX8_hearAsk 79 = .ok (.aload_n 3, 1) := by decide +kernel
theorem dX8_hearAsk_80 : decode cX8_hearAsk 80 = .ok (.getfield 70, 3) := by decide +kernel
theorem dX8_hearAsk_83 : decode cX8_hearAsk 83 = .ok (.getfield 74, 3) := by decide +kernel
theorem dX8_hearAsk_86 : decode cX8_hearAsk 86 = .ok (.if_icmp .le 16, 3) := by decide +kernel
theorem dX8_hearAsk_89 : decode cX8_hearAsk 89 = .ok (.aload_n 3, 1) := by decide +kernel
theorem dX8_hearAsk_90 : decode cX8_hearAsk 90 = .ok (.aload_n 0, 1) := by decide +kernel
theorem dX8_hearAsk_91 : decode cX8_hearAsk 91 = .ok (.aload_n 1, 1) := by decide +kernel
theorem dX8_hearAsk_92 : decode cX8_hearAsk 92 = .ok (.aload_n 3, 1) := by decide +kernel
theorem dX8_hearAsk_93 : decode cX8_hearAsk 93 = .ok (.invokevirtual 77, 3) := by decide +kernel
theorem dX8_hearAsk_96 : decode cX8_hearAsk 96 = .ok (.putfield 70, 3) := by decide +kernel
theorem dX8_hearAsk_99 : decode cX8_hearAsk 99 = .ok (.goto 19, 3) := by decide +kernel
theorem dX8_hearAsk_102 : decode cX8_hearAsk 102 = .ok (.aload_n 1, 1) := by decide +kernel
theorem dX8_hearAsk_103 : decode cX8_hearAsk 103 = .ok (.getfield 74, 3) := by decide +kernel
theorem dX8_hearAsk_106 : decode cX8_hearAsk 106 = .ok (.aload_n 3, 1) := by decide +kernel
theorem dX8_hearAsk_107 : decode cX8_hearAsk 107 = .ok (.getfield 70, 3) := by decide +kernel
theorem dX8_hearAsk_110 : decode cX8_hearAsk 110 = .ok (.getfield 74, 3) := by decide +kernel
theorem dX8_hearAsk_113 : decode cX8_hearAsk 113 = .ok (.if_icmp .ge 5, 3) := by decide +kernel
theorem dX8_hearAsk_116 : decode cX8_hearAsk 116 = .ok (.iconst 0, 1) := by decide +kernel
theorem dX8_hearAsk_117 : decode cX8_hearAsk 117 = .ok (.ireturn, 1) := by decide +kernel
theorem dX8_hearAsk_118 : decode cX8_hearAsk 118 = .ok (.aload_n 2, 1) := by decide +kernel
theorem dX8_hearAsk_119 : decode cX8_hearAsk 119 = .ok (.aload_n 3, 1) := by decide +kernel
theorem dX8_hearAsk_120 : decode cX8_hearAsk 120 = .ok (.getfield 70, 3) := by decide +kernel
theorem dX8_hearAsk_123 : decode cX8_hearAsk 123 = .ok (.invokevirtual 81, 3) := by decide +kernel
theorem dX8_hearAsk_126 : decode cX8_hearAsk 126 = .ok (.iconst 1, 1) := by decide +kernel
theorem dX8_hearAsk_127 : decode cX8_hearAsk 127 = .ok (.ireturn, 1) := by decide +kernel
set_option maxRecDepth 20000 in
theorem ggX8_forgetAnswers_X8_accountOf : GoodIn wsX8_forgetAnswers wsX8_accountOf := goodIn_r _ [6, 7, 12, 13, 14, 15, 16, 17] (by decide +kernel) (by decide +kernel)
set_option maxRecDepth 20000 in
theorem gX8_forgetAnswers_X8_accountOf : GoodIn wsX8_forgetAnswers (wsV RX8 66 RX8 yX8_accountOf wsX8_accountOf) := goodIn_app (goodIn_of _ (by decide +kernel)) ggX8_forgetAnswers_X8_accountOf
theorem dX8_forgetAnswers_0 : decode cX8_forgetAnswers 0 = .ok (.iconst 0, 1) := by decide +kernel
theorem dX8_forgetAnswers_1 : decode cX8_forgetAnswers 1 = .ok (.istore_n 2, 1) := by decide +kernel
theorem dX8_forgetAnswers_2 : decode cX8_forgetAnswers 2 = .ok (.iload_n 2, 1) := by decide +kernel
theorem dX8_forgetAnswers_3 : decode cX8_forgetAnswers 3 = .ok (.bipush 8, 2) := by decide +kernel
theorem dX8_forgetAnswers_5 : decode cX8_forgetAnswers 5 = .ok (.if_icmp .ge 19, 3) := by decide +kernel
theorem dX8_forgetAnswers_8 : decode cX8_forgetAnswers 8 = .ok (.aload_n 0, 1) := by decide +kernel
theorem dX8_forgetAnswers_9 : decode cX8_forgetAnswers 9 = .ok (.iload_n 1, 1) := by decide +kernel
theorem dX8_forgetAnswers_10 : decode cX8_forgetAnswers 10 = .ok (.iload_n 2, 1) := by decide +kernel
theorem dX8_forgetAnswers_11 : decode cX8_forgetAnswers 11 = .ok (.invokevirtual 66, 3) := by decide +kernel
theorem dX8_forgetAnswers_14 : decode cX8_forgetAnswers 14 = .ok (.aconst_null, 1) := by decide +kernel
theorem dX8_forgetAnswers_15 : decode cX8_forgetAnswers 15 = .ok (.putfield 70, 3) := by decide +kernel
theorem dX8_forgetAnswers_18 : decode cX8_forgetAnswers 18 = .ok (.iinc 2 1, 3) := by decide +kernel
theorem dX8_forgetAnswers_21 : decode cX8_forgetAnswers 21 = .ok (.goto (-19), 3) := by decide +kernel
theorem dX8_forgetAnswers_24 : decode cX8_forgetAnswers 24 = .ok (.return_, 1) := by decide +kernel
set_option maxRecDepth 20000 in
theorem ggX8_answerTo_X9_now : GoodIn wsX8_answerTo wsX9_now := goodIn_r _ [17, 18, 19, 147, 148] (by decide +kernel) (by decide +kernel)
set_option maxRecDepth 20000 in
theorem gX8_answerTo_X9_now : GoodIn wsX8_answerTo (wsV RX8 40 RX9 yX9_now wsX9_now) := goodIn_app (goodIn_of _ (by decide +kernel)) ggX8_answerTo_X9_now
set_option maxRecDepth 20000 in
theorem ggX8_answerTo_X1_free : GoodIn wsX8_answerTo wsX1_free := goodIn_r _ [24, 25, 149, 150, 151, 152, 153, 154] (by decide +kernel) (by decide +kernel)
set_option maxRecDepth 20000 in
theorem gX8_answerTo_X1_free : GoodIn wsX8_answerTo (wsV RX8 94 RX1 yX1_free wsX1_free) := goodIn_app (goodIn_of _ (by decide +kernel)) ggX8_answerTo_X1_free
set_option maxRecDepth 20000 in
theorem ggX8_answerTo_X8_shareOf : GoodIn wsX8_answerTo wsX8_shareOf := goodIn_r _ [30, 2, 7, 31, 32, 33, 29, 34, 35, 13, 14, 15, 16, 17, 18, 19, 36, 37, 38, 39, 40, 41, 42, 133, 134, 135, 136, 137, 138, 129, 130, 131, 132, 147, 148] (by decide +kernel) (by decide +kernel)
set_option maxRecDepth 20000 in
theorem gX8_answerTo_X8_shareOf : GoodIn wsX8_answerTo (wsV RX8 103 RX8 yX8_shareOf wsX8_shareOf) := goodIn_app (goodIn_of _ (by decide +kernel)) ggX8_answerTo_X8_shareOf
set_option maxRecDepth 20000 in
theorem ggX8_answerTo_X6_init_ : GoodIn wsX8_answerTo wsX6_init_ := goodIn_r _ [45, 46, 47, 48, 49, 50, 51, 52, 53, 54, 55, 56, 139, 140, 141, 142, 143, 144, 145, 146] (by decide +kernel) (by decide +kernel)
set_option maxRecDepth 20000 in
theorem gX8_answerTo_X6_init_ : GoodIn wsX8_answerTo (wsX6_init_) := ggX8_answerTo_X6_init_
set_option maxRecDepth 20000 in
theorem ggX8_answerTo_X1_lend : GoodIn wsX8_answerTo wsX1_lend := goodIn_r _ [60, 25, 61, 62, 63, 64, 65, 66, 67, 68, 69, 47, 48, 70, 71, 72, 73, 74, 75, 76, 77, 78, 79, 80, 81, 82, 83, 84, 85, 86, 87, 88, 89, 90, 91, 92, 93, 94, 95, 96, 97, 98, 99, 100, 101, 102, 103, 104, 105, 106, 107, 108, 109, 110, 111, 112, 113, 114, 115, 116, 117, 118, 119, 120, 121, 122, 123, 124, 125, 126, 127, 128, 149, 150, 151, 152, 153, 154, 155, 156, 157, 158, 159, 160] (by decide +kernel) (by decide +kernel)
set_option maxRecDepth 20000 in
theorem gX8_answerTo_X1_lend : GoodIn wsX8_answerTo (wsV RX8 113 RX1 yX1_lend wsX1_lend) := goodIn_app (goodIn_of _ (by decide +kernel)) ggX8_answerTo_X1_lend
theorem dX8_answerTo_0 : decode cX8_answerTo 0 = .ok (.aload_n 2, 1) := by decide +kernel
theorem dX8_answerTo_1 : decode cX8_answerTo 1 = .ok (.iconst 1, 1) := by decide +kernel
theorem dX8_answerTo_2 : decode cX8_answerTo 2 = .ok (.putfield 87, 3) := by decide +kernel
theorem dX8_answerTo_5 : decode cX8_answerTo 5 = .ok (.aload_n 2, 1) := by decide +kernel
theorem dX8_answerTo_6 : decode cX8_answerTo 6 = .ok (.aload_n 0, 1) := by decide +kernel
theorem dX8_answerTo_7 : decode cX8_answerTo 7 = .ok (.getfield 12, 3) := by decide +kernel
theorem dX8_answerTo_10 : decode cX8_answerTo 10 = .ok (.invokevirtual 40, 3) := by decide +kernel
theorem dX8_answerTo_13 : decode cX8_answerTo 13 = .ok (.putfield 91, 3) := by decide +kernel
theorem dX8_answerTo_16 : decode cX8_answerTo 16 = .ok (.aload_n 0, 1) := by decide +kernel
theorem dX8_answerTo_17 : decode cX8_answerTo 17 = .ok (.getfield 20, 3) := by decide +kernel
theorem dX8_answerTo_20 : decode cX8_answerTo 20 = .ok (.aload_n 1, 1) := by decide +kernel
theorem dX8_answerTo_21 : decode cX8_answerTo 21 = .ok (.getfield 63, 3) := by decide +kernel
theorem dX8_answerTo_24 : decode cX8_answerTo 24 = .ok (.aaload, 1) := by decide +kernel
theorem dX8_answerTo_25 : decode cX8_answerTo 25 = .ok (.astore_n 3, 1) := by decide +kernel
theorem dX8_answerTo_26 : decode cX8_answerTo 26 = .ok (.aload_n 3, 1) := by decide +kernel
theorem dX8_answerTo_27 : decode cX8_answerTo 27 = .ok (.invokevirtual 94, 3) := by decide +kernel
theorem dX8_answerTo_30 : decode cX8_answerTo 30 = .ok (.istore 4, 2) := by decide +kernel
theorem dX8_answerTo_32 : decode cX8_answerTo 32 = .ok (.iload 4, 2) := by decide +kernel
theorem dX8_answerTo_34 : decode cX8_answerTo 34 = .ok (.aload_n 1, 1) := by decide +kernel
theorem dX8_answerTo_35 : decode cX8_answerTo 35 = .ok (.getfield 97, 3) := by decide +kernel
theorem dX8_answerTo_38 : decode cX8_answerTo 38 = .ok (.if_icmp .lt 10, 3) := by decide +kernel
theorem dX8_answerTo_41 : decode cX8_answerTo 41 = .ok (.aload_n 1, 1) := by decide +kernel
theorem dX8_answerTo_42 : decode cX8_answerTo 42 = .ok (.getfield 97, 3) := by decide +kernel
theorem dX8_answerTo_45 : decode cX8_answerTo 45 = .ok (.goto 17, 3) := by decide +kernel
theorem dX8_answerTo_48 : decode cX8_answerTo 48 = .ok (.aload_n 0, 1) := by decide +kernel
theorem dX8_answerTo_49 : decode cX8_answerTo 49 = .ok (.iload 4, 2) := by decide +kernel
theorem dX8_answerTo_51 : decode cX8_answerTo 51 = .ok (.aload_n 1, 1) := by decide +kernel
theorem dX8_answerTo_52 : decode cX8_answerTo 52 = .ok (.getfield 63, 3) := by decide +kernel
theorem dX8_answerTo_55 : decode cX8_answerTo 55 = .ok (.aload_n 2, 1) := by decide +kernel
theorem dX8_answerTo_56 : decode cX8_answerTo 56 = .ok (.getfield 100, 3) := by decide +kernel
theorem dX8_answerTo_59 : decode cX8_answerTo 59 = .ok (.invokevirtual 103, 3) := by decide +kernel
theorem dX8_answerTo_62 : decode cX8_answerTo 62 = .ok (.istore 5, 2) := by decide +kernel
theorem dX8_answerTo_64 : decode cX8_answerTo 64 = .ok (.iload 5, 2) := by decide +kernel
theorem dX8_answerTo_66 : decode cX8_answerTo 66 = .ok (.ifCond .gt 18, 3) := by decide +kernel
theorem dX8_answerTo_69 : decode cX8_answerTo 69 = .ok (.new 53, 3) := by decide +kernel
theorem dX8_answerTo_72 : decode cX8_answerTo 72 = .ok (.dup, 1) := by decide +kernel
theorem dX8_answerTo_73 : decode cX8_answerTo 73 = .ok (.aload_n 1, 1) := by decide +kernel
theorem dX8_answerTo_74 : decode cX8_answerTo 74 = .ok (.iconst 0, 1) := by decide +kernel
theorem dX8_answerTo_75 : decode cX8_answerTo 75 = .ok (.iconst (-1), 1) := by decide +kernel
theorem dX8_answerTo_76 : decode cX8_answerTo 76 = .ok (.aload_n 0, 1) := by decide +kernel
theorem dX8_answerTo_77 : decode cX8_answerTo 77 = .ok (.getfield 34, 3) := by decide +kernel
theorem dX8_answerTo_80 : decode cX8_answerTo 80 = .ok (.invokespecial 107, 3) := by decide +kernel
theorem dX8_answerTo_83 : decode cX8_answerTo 83 = .ok (.areturn, 1) := by decide +kernel
theorem dX8_answerTo_84 : decode cX8_answerTo 84 = .ok (.aload_n 0, 1) := by decide +kernel
theorem dX8_answerTo_85 : decode cX8_answerTo 85 = .ok (.getfield 110, 3) := by decide +kernel
theorem dX8_answerTo_88 : decode cX8_answerTo 88 = .ok (.istore 6, 2) := by decide +kernel
theorem dX8_answerTo_90 : decode cX8_answerTo 90 = .ok (.aload_n 0, 1) := by decide +kernel
theorem dX8_answerTo_91 : decode cX8_answerTo 91 = .ok (.dup, 1) := by decide +kernel
theorem dX8_answerTo_92 : decode cX8_answerTo 92 = .ok (.getfield 110, 3) := by decide +kernel
theorem dX8_answerTo_95 : decode cX8_answerTo 95 = .ok (.iconst 1, 1) := by decide +kernel
theorem dX8_answerTo_96 : decode cX8_answerTo 96 = .ok (.iadd, 1) := by decide +kernel
theorem dX8_answerTo_97 : decode cX8_answerTo 97 = .ok (.putfield 110, 3) := by decide +kernel
theorem dX8_answerTo_100 : decode cX8_answerTo 100 = .ok (.aload_n 3, 1) := by decide +kernel
theorem dX8_answerTo_101 : decode cX8_answerTo 101 = .ok (.iload 6, 2) := by decide +kernel
theorem dX8_answerTo_103 : decode cX8_answerTo 103 = .ok (.iload 5, 2) := by decide +kernel
theorem dX8_answerTo_105 : decode cX8_answerTo 105 = .ok (.aload_n 0, 1) := by decide +kernel
theorem dX8_answerTo_106 : decode cX8_answerTo 106 = .ok (.getfield 12, 3) := by decide +kernel
theorem dX8_answerTo_109 : decode cX8_answerTo 109 = .ok (.invokevirtual 40, 3) := by decide +kernel
theorem dX8_answerTo_112 : decode cX8_answerTo 112 = .ok (.aload_n 0, 1) := by decide +kernel
theorem dX8_answerTo_113 : decode cX8_answerTo 113 = .ok (.getfield 34, 3) := by decide +kernel
theorem dX8_answerTo_116 : decode cX8_answerTo 116 = .ok (.iadd, 1) := by decide +kernel
theorem dX8_answerTo_117 : decode cX8_answerTo 117 = .ok (.invokevirtual 113, 3) := by decide +kernel
theorem dX8_answerTo_120 : decode cX8_answerTo 120 = .ok (.new 53, 3) := by decide +kernel
theorem dX8_answerTo_123 : decode cX8_answerTo 123 = .ok (.dup, 1) := by decide +kernel
theorem dX8_answerTo_124 : decode cX8_answerTo 124 = .ok (.aload_n 1, 1) := by decide +kernel
theorem dX8_answerTo_125 : decode cX8_answerTo 125 = .ok (.iload 5, 2) := by decide +kernel
theorem dX8_answerTo_127 : decode cX8_answerTo 127 = .ok (.iload 6, 2) := by decide +kernel
theorem dX8_answerTo_129 : decode cX8_answerTo 129 = .ok (.aload_n 0, 1) := by decide +kernel
theorem dX8_answerTo_130 : decode cX8_answerTo 130 = .ok (.getfield 34, 3) := by decide +kernel
theorem dX8_answerTo_133 : decode cX8_answerTo 133 = .ok (.invokespecial 107, 3) := by decide +kernel
theorem dX8_answerTo_136 : decode cX8_answerTo 136 = .ok (.areturn, 1) := by decide +kernel
set_option maxRecDepth 20000 in
theorem ggX8_shareOf_X8_accountOf : GoodIn wsX8_shareOf wsX8_accountOf := goodIn_r _ [7, 8, 23, 24, 25, 26, 27, 28] (by decide +kernel) (by decide +kernel)
set_option maxRecDepth 20000 in
theorem gX8_shareOf_X8_accountOf : GoodIn wsX8_shareOf (wsV RX8 66 RX8 yX8_accountOf wsX8_accountOf) := goodIn_app (goodIn_of _ (by decide +kernel)) ggX8_shareOf_X8_accountOf
set_option maxRecDepth 20000 in
theorem ggX8_shareOf_X9_now : GoodIn wsX8_shareOf wsX9_now := goodIn_r _ [13, 14, 15, 33, 34] (by decide +kernel) (by decide +kernel)
set_option maxRecDepth 20000 in
theorem gX8_shareOf_X9_now : GoodIn wsX8_shareOf (wsV RX8 40 RX9 yX9_now wsX9_now) := goodIn_app (goodIn_of _ (by decide +kernel)) ggX8_shareOf_X9_now
set_option maxRecDepth 20000 in
theorem ggX8_shareOf_X0_askedOfLate : GoodIn wsX8_shareOf wsX0_askedOfLate := goodIn_r _ [20, 21, 22, 29, 30, 31, 32] (by decide +kernel) (by decide +kernel)
set_option maxRecDepth 20000 in
theorem gX8_shareOf_X0_askedOfLate : GoodIn wsX8_shareOf (wsV RX8 117 RX0 yX0_askedOfLate wsX0_askedOfLate) := goodIn_app (goodIn_of _ (by decide +kernel)) ggX8_shareOf_X0_askedOfLate
theorem dX8_shareOf_0 : decode cX8_shareOf 0 = .ok (.iconst 0, 1) := by decide +kernel
theorem dX8_shareOf_1 : decode cX8_shareOf 1 = .ok (.istore 4, 2) := by decide +kernel
theorem dX8_shareOf_3 : decode cX8_shareOf 3 = .ok (.iconst 0, 1) := by decide +kernel
