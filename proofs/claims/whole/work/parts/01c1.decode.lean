theorem dX8_shareOf_4 : decode cX8_shareOf 4 = .ok (.istore 5, 2) := by decide +kernel
theorem dX8_shareOf_6 : decode cX8_shareOf 6 = .ok (.iload 5, 2) := by decide +kernel
theorem dX8_shareOf_8 : decode cX8_shareOf 8 = .ok (.bipush 6, 2) := by decide +kernel
theorem dX8_shareOf_10 : decode cX8_shareOf 10 = .ok (.if_icmp .ge 43, 3) := by decide +kernel
theorem dX8_shareOf_13 : decode cX8_shareOf 13 = .ok (.aload_n 0, 1) := by decide +kernel
theorem dX8_shareOf_14 : decode cX8_shareOf 14 = .ok (.iload 5, 2) := by decide +kernel
theorem dX8_shareOf_16 : decode cX8_shareOf 16 = .ok (.iload_n 2, 1) := by decide +kernel
theorem dX8_shareOf_17 : decode cX8_shareOf 17 = .ok (.invokevirtual 66, 3) := by decide +kernel
theorem dX8_shareOf_20 : decode cX8_shareOf 20 = .ok (.astore 6, 2) := by decide +kernel
theorem dX8_shareOf_22 : decode cX8_shareOf 22 = .ok (.aload 6, 2) := by decide +kernel
theorem dX8_shareOf_24 : decode cX8_shareOf 24 = .ok (.aload_n 0, 1) := by decide +kernel
theorem dX8_shareOf_25 : decode cX8_shareOf 25 = .ok (.getfield 12, 3) := by decide +kernel
theorem dX8_shareOf_28 : decode cX8_shareOf 28 = .ok (.invokevirtual 40, 3) := by decide +kernel
theorem dX8_shareOf_31 : decode cX8_shareOf 31 = .ok (.invokevirtual 117, 3) := by decide +kernel
theorem dX8_shareOf_34 : decode cX8_shareOf 34 = .ok (.ifCond .eq 13, 3) := by decide +kernel
theorem dX8_shareOf_37 : decode cX8_shareOf 37 = .ok (.iload 4, 2) := by decide +kernel
theorem dX8_shareOf_39 : decode cX8_shareOf 39 = .ok (.aload 6, 2) := by decide +kernel
theorem dX8_shareOf_41 : decode cX8_shareOf 41 = .ok (.getfield 100, 3) := by decide +kernel
theorem dX8_shareOf_44 : decode cX8_shareOf 44 = .ok (.iadd, 1) := by decide +kernel
theorem dX8_shareOf_45 : decode cX8_shareOf 45 = .ok (.istore 4, 2) := by decide +kernel
theorem dX8_shareOf_47 : decode cX8_shareOf 47 = .ok (.iinc 5 1, 3) := by decide +kernel
theorem dX8_shareOf_50 : decode cX8_shareOf 50 = .ok (.goto (-44), 3) := by decide +kernel
theorem dX8_shareOf_53 : decode cX8_shareOf 53 = .ok (.iload 4, 2) := by decide +kernel
theorem dX8_shareOf_55 : decode cX8_shareOf 55 = .ok (.ifCond .le 12, 3) := by decide +kernel
theorem dX8_shareOf_58 : decode cX8_shareOf 58 = .ok (.iload_n 1, 1) := by decide +kernel
theorem dX8_shareOf_59 : decode cX8_shareOf 59 = .ok (.iload_n 3, 1) := by decide +kernel
theorem dX8_shareOf_60 : decode cX8_shareOf 60 = .ok (.imul, 1) := by decide +kernel
theorem dX8_shareOf_61 : decode cX8_shareOf 61 = .ok (.iload 4, 2) := by decide +kernel
theorem dX8_shareOf_63 : decode cX8_shareOf 63 = .ok (.idiv, 1) := by decide +kernel
theorem dX8_shareOf_64 : decode cX8_shareOf 64 = .ok (.goto 4, 3) := by decide +kernel
theorem dX8_shareOf_67 : decode cX8_shareOf 67 = .ok (.iconst 0, 1) := by decide +kernel
theorem dX8_shareOf_68 : decode cX8_shareOf 68 = .ok (.ireturn, 1) := by decide +kernel
set_option maxRecDepth 20000 in
theorem ggX8_hearReturn_X1_bringBack : GoodIn wsX8_hearReturn wsX1_bringBack := goodIn_r _ [12, 13, 14, 15, 16, 17, 18, 19, 20, 21, 22, 23, 24, 25, 26, 27, 28, 29, 30, 31, 32, 33, 34, 35, 36, 37, 38, 39, 40, 41, 42, 11, 43, 44, 45, 46, 47, 48, 49, 50, 51, 52, 53, 54, 55, 56, 57, 58, 59, 60, 61, 62, 63, 64, 65, 66, 67, 68, 69, 70, 71, 72, 87, 88, 89, 90, 91, 92, 93, 94, 95, 96, 97, 98] (by decide +kernel) (by decide +kernel)
set_option maxRecDepth 20000 in
theorem gX8_hearReturn_X1_bringBack : GoodIn wsX8_hearReturn (wsV RX8 124 RX1 yX1_bringBack wsX1_bringBack) := goodIn_app (goodIn_of _ (by decide +kernel)) ggX8_hearReturn_X1_bringBack
theorem dX8_hearReturn_0 : decode cX8_hearReturn 0 = .ok (.aload_n 1, 1) := by decide +kernel
theorem dX8_hearReturn_1 : decode cX8_hearReturn 1 = .ok (.getfield 52, 3) := by decide +kernel
theorem dX8_hearReturn_4 : decode cX8_hearReturn 4 = .ok (.aload_n 0, 1) := by decide +kernel
theorem dX8_hearReturn_5 : decode cX8_hearReturn 5 = .ok (.getfield 30, 3) := by decide +kernel
theorem dX8_hearReturn_8 : decode cX8_hearReturn 8 = .ok (.aload_n 1, 1) := by decide +kernel
theorem dX8_hearReturn_9 : decode cX8_hearReturn 9 = .ok (.getfield 57, 3) := by decide +kernel
theorem dX8_hearReturn_12 : decode cX8_hearReturn 12 = .ok (.iaload, 1) := by decide +kernel
theorem dX8_hearReturn_13 : decode cX8_hearReturn 13 = .ok (.if_icmp .lt 30, 3) := by decide +kernel
theorem dX8_hearReturn_16 : decode cX8_hearReturn 16 = .ok (.aload_n 0, 1) := by decide +kernel
theorem dX8_hearReturn_17 : decode cX8_hearReturn 17 = .ok (.getfield 20, 3) := by decide +kernel
theorem dX8_hearReturn_20 : decode cX8_hearReturn 20 = .ok (.aload_n 1, 1) := by decide +kernel
theorem dX8_hearReturn_21 : decode cX8_hearReturn 21 = .ok (.getfield 63, 3) := by decide +kernel
theorem dX8_hearReturn_24 : decode cX8_hearReturn 24 = .ok (.aaload, 1) := by decide +kernel
theorem dX8_hearReturn_25 : decode cX8_hearReturn 25 = .ok (.aload_n 1, 1) := by decide +kernel
theorem dX8_hearReturn_26 : decode cX8_hearReturn 26 = .ok (.getfield 121, 3) := by decide +kernel
theorem dX8_hearReturn_29 : decode cX8_hearReturn 29 = .ok (.aload_n 1, 1) := by decide +kernel
theorem dX8_hearReturn_30 : decode cX8_hearReturn 30 = .ok (.getfield 97, 3) := by decide +kernel
theorem dX8_hearReturn_33 : decode cX8_hearReturn 33 = .ok (.invokevirtual 124, 3) := by decide +kernel
theorem dX8_hearReturn_36 : decode cX8_hearReturn 36 = .ok (.ifCond .eq 7, 3) := by decide +kernel
theorem dX8_hearReturn_39 : decode cX8_hearReturn 39 = .ok (.iconst 1, 1) := by decide +kernel
theorem dX8_hearReturn_40 : decode cX8_hearReturn 40 = .ok (.goto 4, 3) := by decide +kernel
theorem dX8_hearReturn_43 : decode cX8_hearReturn 43 = .ok (.iconst 0, 1) := by decide +kernel
theorem dX8_hearReturn_44 : decode cX8_hearReturn 44 = .ok (.ireturn, 1) := by decide +kernel
theorem dX9_init_0 : decode cX9_init 0 = .ok (.aload_n 0, 1) := by decide +kernel
theorem dX9_init_1 : decode cX9_init 1 = .ok (.invokespecial 1, 3) := by decide +kernel
theorem dX9_init_4 : decode cX9_init 4 = .ok (.aload_n 0, 1) := by decide +kernel
theorem dX9_init_5 : decode cX9_init 5 = .ok (.sipush 1000, 3) := by decide +kernel
theorem dX9_init_8 : decode cX9_init 8 = .ok (.putfield 7, 3) := by decide +kernel
theorem dX9_init_11 : decode cX9_init 11 = .ok (.return_, 1) := by decide +kernel
theorem dX9_advance_0 : decode cX9_advance 0 = .ok (.aload_n 0, 1) := by decide +kernel
theorem dX9_advance_1 : decode cX9_advance 1 = .ok (.dup, 1) := by decide +kernel
theorem dX9_advance_2 : decode cX9_advance 2 = .ok (.getfield 13, 3) := by decide +kernel
theorem dX9_advance_5 : decode cX9_advance 5 = .ok (.iload_n 1, 1) := by decide +kernel
theorem dX9_advance_6 : decode cX9_advance 6 = .ok (.i2l, 1) := by decide +kernel
theorem dX9_advance_7 : decode cX9_advance 7 = .ok (.aload_n 0, 1) := by decide +kernel
theorem dX9_advance_8 : decode cX9_advance 8 = .ok (.getfield 7, 3) := by decide +kernel
theorem dX9_advance_11 : decode cX9_advance 11 = .ok (.i2l, 1) := by decide +kernel
theorem dX9_advance_12 : decode cX9_advance 12 = .ok (.lmul, 1) := by decide +kernel
theorem dX9_advance_13 : decode cX9_advance 13 = .ok (.ladd, 1) := by decide +kernel
theorem dX9_advance_14 : decode cX9_advance 14 = .ok (.putfield 13, 3) := by decide +kernel
theorem dX9_advance_17 : decode cX9_advance 17 = .ok (.return_, 1) := by decide +kernel
theorem dX9_now_0 : decode cX9_now 0 = .ok (.aload_n 0, 1) := by decide +kernel
theorem dX9_now_1 : decode cX9_now 1 = .ok (.getfield 13, 3) := by decide +kernel
theorem dX9_now_4 : decode cX9_now 4 = .ok (.ldc2_w 17, 3) := by decide +kernel
theorem dX9_now_7 : decode cX9_now 7 = .ok (.ldiv, 1) := by decide +kernel
theorem dX9_now_8 : decode cX9_now 8 = .ok (.l2i, 1) := by decide +kernel
theorem dX9_now_9 : decode cX9_now 9 = .ok (.ireturn, 1) := by decide +kernel
set_option maxRecDepth 20000 in
theorem ggX10_init_X8_init : GoodIn wsX10_init wsX8_init := goodIn_r _ [18, 19, 2, 3, 20, 21, 22, 23, 24, 25, 26, 27, 28, 29, 30, 31, 32, 33, 34, 35, 36, 37, 38, 39, 40, 41, 42, 43, 44, 45, 46, 47, 48, 49, 50, 51, 52, 53, 54, 55, 56, 57, 58, 59, 60, 61, 62, 63, 64, 103, 104, 89, 90, 91, 92, 93, 94, 105, 106, 107, 108, 109, 110, 111, 112, 113, 114, 115, 116, 117] (by decide +kernel) (by decide +kernel)
set_option maxRecDepth 20000 in
theorem gX10_init_X8_init : GoodIn wsX10_init (wsX8_init) := ggX10_init_X8_init
set_option maxRecDepth 20000 in
theorem ggX10_init_X7_init : GoodIn wsX10_init wsX7_init := goodIn_r _ [66, 67, 2, 3, 68, 69, 98, 99] (by decide +kernel) (by decide +kernel)
set_option maxRecDepth 20000 in
theorem gX10_init_X7_init_n18 : GoodIn wsX10_init (wsX7_init) := ggX10_init_X7_init
set_option maxRecDepth 20000 in
theorem ggX10_init_X3_init : GoodIn wsX10_init wsX3_init := goodIn_r _ [72, 73, 2, 3, 74, 21, 22, 75, 76, 77, 78, 79, 35, 36, 37, 38, 80, 81, 82, 83, 84, 43, 44, 85, 86, 87, 88, 47, 48, 49, 50, 51, 52, 53, 54, 55, 56, 57, 58, 59, 60, 103, 104, 100, 101, 102, 118, 119, 120, 121, 122, 123, 124, 125, 126, 115, 116, 117] (by decide +kernel) (by decide +kernel)
set_option maxRecDepth 20000 in
theorem gX10_init_X3_init : GoodIn wsX10_init (wsX3_init) := ggX10_init_X3_init
theorem dX10_init_0 : decode cX10_init 0 = .ok (.aload_n 0, 1) := by decide +kernel
theorem dX10_init_1 : decode cX10_init 1 = .ok (.invokespecial 1, 3) := by decide +kernel
theorem dX10_init_4 : decode cX10_init 4 = .ok (.aload_n 0, 1) := by decide +kernel
theorem dX10_init_5 : decode cX10_init 5 = .ok (.new 7, 3) := by decide +kernel
theorem dX10_init_8 : decode cX10_init 8 = .ok (.dup, 1) := by decide +kernel
theorem dX10_init_9 : decode cX10_init 9 = .ok (.invokespecial 9, 3) := by decide +kernel
theorem dX10_init_12 : decode cX10_init 12 = .ok (.putfield 10, 3) := by decide +kernel
theorem dX10_init_15 : decode cX10_init 15 = .ok (.aload_n 0, 1) := by decide +kernel
theorem dX10_init_16 : decode cX10_init 16 = .ok (.new 16, 3) := by decide +kernel
theorem dX10_init_19 : decode cX10_init 19 = .ok (.dup, 1) := by decide +kernel
theorem dX10_init_20 : decode cX10_init 20 = .ok (.invokespecial 18, 3) := by decide +kernel
theorem dX10_init_23 : decode cX10_init 23 = .ok (.putfield 19, 3) := by decide +kernel
theorem dX10_init_26 : decode cX10_init 26 = .ok (.aload_n 0, 1) := by decide +kernel
theorem dX10_init_27 : decode cX10_init 27 = .ok (.bipush 6, 2) := by decide +kernel
theorem dX10_init_29 : decode cX10_init 29 = .ok (.anewarray 23, 3) := by decide +kernel
theorem dX10_init_32 : decode cX10_init 32 = .ok (.putfield 25, 3) := by decide +kernel
theorem dX10_init_35 : decode cX10_init 35 = .ok (.iconst 0, 1) := by decide +kernel
theorem dX10_init_36 : decode cX10_init 36 = .ok (.istore_n 1, 1) := by decide +kernel
theorem dX10_init_37 : decode cX10_init 37 = .ok (.iload_n 1, 1) := by decide +kernel
theorem dX10_init_38 : decode cX10_init 38 = .ok (.bipush 6, 2) := by decide +kernel
theorem dX10_init_40 : decode cX10_init 40 = .ok (.if_icmp .ge 23, 3) := by decide +kernel
theorem dX10_init_43 : decode cX10_init 43 = .ok (.aload_n 0, 1) := by decide +kernel
theorem dX10_init_44 : decode cX10_init 44 = .ok (.getfield 25, 3) := by decide +kernel
theorem dX10_init_47 : decode cX10_init 47 = .ok (.iload_n 1, 1) := by decide +kernel
theorem dX10_init_48 : decode cX10_init 48 = .ok (.new 23, 3) := by decide +kernel
theorem dX10_init_51 : decode cX10_init 51 = .ok (.dup, 1) := by decide +kernel
theorem dX10_init_52 : decode cX10_init 52 = .ok (.iload_n 1, 1) := by decide +kernel
theorem dX10_init_53 : decode cX10_init 53 = .ok (.invokespecial 29, 3) := by decide +kernel
theorem dX10_init_56 : decode cX10_init 56 = .ok (.aastore, 1) := by decide +kernel
theorem dX10_init_57 : decode cX10_init 57 = .ok (.iinc 1 1, 3) := by decide +kernel
theorem dX10_init_60 : decode cX10_init 60 = .ok (.goto (-23), 3) := by decide +kernel
theorem dX10_init_63 : decode cX10_init 63 = .ok (.return_, 1) := by decide +kernel
set_option maxRecDepth 20000 in
theorem ggX10_key_X10_requireKey : GoodIn wsX10_key wsX10_requireKey := goodIn_ca (goodIn_r _ [8, 9, 10, 7, 11, 12, 13] (by decide +kernel) (by decide +kernel)) (goodIn_sub (fun _ h => List.mem_cons_of_mem _ (List.mem_append_right _ h)) (by decide +kernel))
set_option maxRecDepth 20000 in
theorem gX10_key_X10_requireKey : GoodIn wsX10_key (va_wsS RX10 32 yX10_requireKey wsX10_requireKey) := goodIn_app (goodIn_of _ (by decide +kernel)) ggX10_key_X10_requireKey
set_option maxRecDepth 20000 in
theorem ggX10_key_X10_requireWithin : GoodIn wsX10_key wsX10_requireWithin := goodIn_ca (goodIn_r _ [11, 12, 13] (by decide +kernel) (by decide +kernel)) (goodIn_sub (fun _ h => List.mem_cons_of_mem _ (List.mem_append_right _ h)) (by decide +kernel))
set_option maxRecDepth 20000 in
theorem gX10_key_X10_requireWithin : GoodIn wsX10_key (va_wsS RX10 36 yX10_requireWithin wsX10_requireWithin) := goodIn_app (goodIn_of _ (by decide +kernel)) ggX10_key_X10_requireWithin
set_option maxRecDepth 20000 in
theorem ggX10_key_X1_reshape : GoodIn wsX10_key wsX1_reshape := goodIn_r _ [18, 19, 20, 21, 22, 23, 17, 24, 25, 26, 27, 28, 29, 30, 31, 32, 33, 34, 44, 45, 46, 47, 48, 49] (by decide +kernel) (by decide +kernel)
set_option maxRecDepth 20000 in
theorem gX10_key_X1_reshape : GoodIn wsX10_key (wsV RX10 45 RX1 yX1_reshape wsX1_reshape) := goodIn_app (goodIn_of _ (by decide +kernel)) ggX10_key_X1_reshape
theorem dX10_key_0 : decode cX10_key 0 = .ok (.iload_n 1, 1) := by decide +kernel
theorem dX10_key_1 : decode cX10_key 1 = .ok (.invokestatic 32, 3) := by decide +kernel
theorem dX10_key_4 : decode cX10_key 4 = .ok (.iload_n 2, 1) := by decide +kernel
theorem dX10_key_5 : decode cX10_key 5 = .ok (.iconst 0, 1) := by decide +kernel
theorem dX10_key_6 : decode cX10_key 6 = .ok (.ldc 35, 2) := by decide +kernel
theorem dX10_key_8 : decode cX10_key 8 = .ok (.invokestatic 36, 3) := by decide +kernel
theorem dX10_key_11 : decode cX10_key 11 = .ok (.iload_n 3, 1) := by decide +kernel
theorem dX10_key_12 : decode cX10_key 12 = .ok (.iconst 0, 1) := by decide +kernel
theorem dX10_key_13 : decode cX10_key 13 = .ok (.ldc 40, 2) := by decide +kernel
theorem dX10_key_15 : decode cX10_key 15 = .ok (.invokestatic 36, 3) := by decide +kernel
theorem dX10_key_18 : decode cX10_key 18 = .ok (.aload_n 0, 1) := by decide +kernel
theorem dX10_key_19 : decode cX10_key 19 = .ok (.getfield 10, 3) := by decide +kernel
theorem dX10_key_22 : decode cX10_key 22 = .ok (.getfield 41, 3) := by decide +kernel
theorem dX10_key_25 : decode cX10_key 25 = .ok (.iload_n 1, 1) := by decide +kernel
theorem dX10_key_26 : decode cX10_key 26 = .ok (.aaload, 1) := by decide +kernel
theorem dX10_key_27 : decode cX10_key 27 = .ok (.iload_n 2, 1) := by decide +kernel
theorem dX10_key_28 : decode cX10_key 28 = .ok (.iload_n 3, 1) := by decide +kernel
theorem dX10_key_29 : decode cX10_key 29 = .ok (.invokevirtual 45, 3) := by decide +kernel
theorem dX10_key_32 : decode cX10_key 32 = .ok (.return_, 1) := by decide +kernel
set_option maxRecDepth 20000 in
theorem ggX10_length_X10_requireWithin : GoodIn wsX10_length wsX10_requireWithin := goodIn_ca (goodIn_r _ [6, 7, 8] (by decide +kernel) (by decide +kernel)) (goodIn_sub (fun _ h => List.mem_cons_of_mem _ (List.mem_append_right _ h)) (by decide +kernel))
set_option maxRecDepth 20000 in
theorem gX10_length_X10_requireWithin : GoodIn wsX10_length (va_wsS RX10 36 yX10_requireWithin wsX10_requireWithin) := goodIn_app (goodIn_of _ (by decide +kernel)) ggX10_length_X10_requireWithin
theorem dX10_length_0 : decode cX10_length 0 = .ok (.iload_n 1, 1) := by decide +kernel
theorem dX10_length_1 : decode cX10_length 1 = .ok (.bipush 10, 2) := by decide +kernel
theorem dX10_length_3 : decode cX10_length 3 = .ok (.sipush 9000, 3) := by decide +kernel
theorem dX10_length_6 : decode cX10_length 6 = .ok (.invokestatic 36, 3) := by decide +kernel
theorem dX10_length_9 : decode cX10_length 9 = .ok (.aload_n 0, 1) := by decide +kernel
theorem dX10_length_10 : decode cX10_length 10 = .ok (.getfield 10, 3) := by decide +kernel
theorem dX10_length_13 : decode cX10_length 13 = .ok (.iload_n 1, 1) := by decide +kernel
theorem dX10_length_14 : decode cX10_length 14 = .ok (.putfield 51, 3) := by decide +kernel
theorem dX10_length_17 : decode cX10_length 17 = .ok (.return_, 1) := by decide +kernel
set_option maxRecDepth 20000 in
theorem ggX10_weight_X10_requireGate : GoodIn wsX10_weight wsX10_requireGate := goodIn_ca (goodIn_r _ [6, 7, 8, 5, 9, 10, 11] (by decide +kernel) (by decide +kernel)) (goodIn_sub (fun _ h => List.mem_cons_of_mem _ (List.mem_append_right _ h)) (by decide +kernel))
set_option maxRecDepth 20000 in
theorem gX10_weight_X10_requireGate : GoodIn wsX10_weight (va_wsS RX10 55 yX10_requireGate wsX10_requireGate) := goodIn_app (goodIn_of _ (by decide +kernel)) ggX10_weight_X10_requireGate
set_option maxRecDepth 20000 in
theorem ggX10_weight_X10_requireKey : GoodIn wsX10_weight wsX10_requireKey := goodIn_ca (goodIn_r _ [14, 7, 8, 5, 9, 10, 11] (by decide +kernel) (by decide +kernel)) (goodIn_sub (fun _ h => List.mem_cons_of_mem _ (List.mem_append_right _ h)) (by decide +kernel))
set_option maxRecDepth 20000 in
theorem gX10_weight_X10_requireKey : GoodIn wsX10_weight (va_wsS RX10 32 yX10_requireKey wsX10_requireKey) := goodIn_app (goodIn_of _ (by decide +kernel)) ggX10_weight_X10_requireKey
set_option maxRecDepth 20000 in
theorem ggX10_weight_X10_requireWithin : GoodIn wsX10_weight wsX10_requireWithin := goodIn_ca (goodIn_r _ [9, 10, 11] (by decide +kernel) (by decide +kernel)) (goodIn_sub (fun _ h => List.mem_cons_of_mem _ (List.mem_append_right _ h)) (by decide +kernel))
set_option maxRecDepth 20000 in
theorem gX10_weight_X10_requireWithin : GoodIn wsX10_weight (va_wsS RX10 36 yX10_requireWithin wsX10_requireWithin) := goodIn_app (goodIn_of _ (by decide +kernel)) ggX10_weight_X10_requireWithin
set_option maxRecDepth 20000 in
theorem ggX10_weight_X8_accountOf : GoodIn wsX10_weight wsX8_accountOf := goodIn_r _ [19, 20, 28, 29, 30, 31, 32, 33] (by decide +kernel) (by decide +kernel)
set_option maxRecDepth 20000 in
theorem gX10_weight_X8_accountOf : GoodIn wsX10_weight (wsV RX10 58 RX8 yX8_accountOf wsX8_accountOf) := goodIn_app (goodIn_of _ (by decide +kernel)) ggX10_weight_X8_accountOf
theorem dX10_weight_0 : decode cX10_weight 0 = .ok (.iload_n 1, 1) := by decide +kernel
theorem dX10_weight_1 : decode cX10_weight 1 = .ok (.invokestatic 55, 3) := by decide +kernel
theorem dX10_weight_4 : decode cX10_weight 4 = .ok (.iload_n 2, 1) := by decide +kernel
theorem dX10_weight_5 : decode cX10_weight 5 = .ok (.invokestatic 32, 3) := by decide +kernel
theorem dX10_weight_8 : decode cX10_weight 8 = .ok (.iload_n 3, 1) := by decide +kernel
theorem dX10_weight_9 : decode cX10_weight 9 = .ok (.iconst 1, 1) := by decide +kernel
theorem dX10_weight_10 : decode cX10_weight 10 = .ok (.bipush 100, 2) := by decide +kernel
theorem dX10_weight_12 : decode cX10_weight 12 = .ok (.invokestatic 36, 3) := by decide +kernel
theorem dX10_weight_15 : decode cX10_weight 15 = .ok (.aload_n 0, 1) := by decide +kernel
theorem dX10_weight_16 : decode cX10_weight 16 = .ok (.getfield 10, 3) := by decide +kernel
theorem dX10_weight_19 : decode cX10_weight 19 = .ok (.iload_n 1, 1) := by decide +kernel
theorem dX10_weight_20 : decode cX10_weight 20 = .ok (.iload_n 2, 1) := by decide +kernel
theorem dX10_weight_21 : decode cX10_weight 21 = .ok (.invokevirtual 58, 3) := by decide +kernel
theorem dX10_weight_24 : decode cX10_weight 24 = .ok (.iload_n 3, 1) := by decide +kernel
theorem dX10_weight_25 : decode cX10_weight 25 = .ok (.putfield 62, 3) := by decide +kernel
theorem dX10_weight_28 : decode cX10_weight 28 = .ok (.return_, 1) := by decide +kernel
set_option maxRecDepth 20000 in
theorem ggX10_speed_X10_requireWithin : GoodIn wsX10_speed wsX10_requireWithin := goodIn_ca (goodIn_r _ [5, 6, 7] (by decide +kernel) (by decide +kernel)) (goodIn_sub (fun _ h => List.mem_cons_of_mem _ (List.mem_append_right _ h)) (by decide +kernel))
set_option maxRecDepth 20000 in
theorem gX10_speed_X10_requireWithin : GoodIn wsX10_speed (va_wsS RX10 36 yX10_requireWithin wsX10_requireWithin) := goodIn_app (goodIn_of _ (by decide +kernel)) ggX10_speed_X10_requireWithin
set_option maxRecDepth 20000 in
theorem ggX10_speed_X10_tickerOf : GoodIn wsX10_speed wsX10_tickerOf := goodIn_r _ [11, 12, 13, 14, 15, 18, 19, 20, 21, 22, 23, 24, 25, 26, 27, 28, 29] (by decide +kernel) (by decide +kernel)
set_option maxRecDepth 20000 in
theorem gX10_speed_X10_tickerOf : GoodIn wsX10_speed (wsV RX10 67 RX10 yX10_tickerOf wsX10_tickerOf) := goodIn_app (goodIn_of _ (by decide +kernel)) ggX10_speed_X10_tickerOf
theorem dX10_speed_0 : decode cX10_speed 0 = .ok (.iload_n 1, 1) := by decide +kernel
theorem dX10_speed_1 : decode cX10_speed 1 = .ok (.iconst (-1), 1) := by decide +kernel
theorem dX10_speed_2 : decode cX10_speed 2 = .ok (.iconst 5, 1) := by decide +kernel
theorem dX10_speed_3 : decode cX10_speed 3 = .ok (.invokestatic 36, 3) := by decide +kernel
theorem dX10_speed_6 : decode cX10_speed 6 = .ok (.iload_n 2, 1) := by decide +kernel
theorem dX10_speed_7 : decode cX10_speed 7 = .ok (.sipush 999, 3) := by decide +kernel
theorem dX10_speed_10 : decode cX10_speed 10 = .ok (.sipush 1001, 3) := by decide +kernel
theorem dX10_speed_13 : decode cX10_speed 13 = .ok (.invokestatic 36, 3) := by decide +kernel
theorem dX10_speed_16 : decode cX10_speed 16 = .ok (.aload_n 0, 1) := by decide +kernel
theorem dX10_speed_17 : decode cX10_speed 17 = .ok (.iload_n 1, 1) := by decide +kernel
theorem dX10_speed_18 : decode cX10_speed 18 = .ok (.invokevirtual 67, 3) := by decide +kernel
theorem dX10_speed_21 : decode cX10_speed 21 = .ok (.iload_n 2, 1) := by decide +kernel
theorem dX10_speed_22 : decode cX10_speed 22 = .ok (.putfield 71, 3) := by decide +kernel
theorem dX10_speed_25 : decode cX10_speed 25 = .ok (.return_, 1) := by decide +kernel
set_option maxRecDepth 20000 in
theorem ggX10_take_X10_requireGate : GoodIn wsX10_take wsX10_requireGate := goodIn_ca (goodIn_r _ [8, 9, 10, 7, 11, 12, 13] (by decide +kernel) (by decide +kernel)) (goodIn_sub (fun _ h => List.mem_cons_of_mem _ (List.mem_append_right _ h)) (by decide +kernel))
set_option maxRecDepth 20000 in
theorem gX10_take_X10_requireGate : GoodIn wsX10_take (va_wsS RX10 55 yX10_requireGate wsX10_requireGate) := goodIn_app (goodIn_of _ (by decide +kernel)) ggX10_take_X10_requireGate
set_option maxRecDepth 20000 in
theorem ggX10_take_X10_requireKey : GoodIn wsX10_take wsX10_requireKey := goodIn_ca (goodIn_r _ [16, 9, 10, 7, 11, 12, 13] (by decide +kernel) (by decide +kernel)) (goodIn_sub (fun _ h => List.mem_cons_of_mem _ (List.mem_append_right _ h)) (by decide +kernel))
set_option maxRecDepth 20000 in
theorem gX10_take_X10_requireKey : GoodIn wsX10_take (va_wsS RX10 32 yX10_requireKey wsX10_requireKey) := goodIn_app (goodIn_of _ (by decide +kernel)) ggX10_take_X10_requireKey
set_option maxRecDepth 20000 in
theorem ggX10_take_X10_requireWithin : GoodIn wsX10_take wsX10_requireWithin := goodIn_ca (goodIn_r _ [11, 12, 13] (by decide +kernel) (by decide +kernel)) (goodIn_sub (fun _ h => List.mem_cons_of_mem _ (List.mem_append_right _ h)) (by decide +kernel))
set_option maxRecDepth 20000 in
theorem gX10_take_X10_requireWithin : GoodIn wsX10_take (va_wsS RX10 36 yX10_requireWithin wsX10_requireWithin) := goodIn_app (goodIn_of _ (by decide +kernel)) ggX10_take_X10_requireWithin
set_option maxRecDepth 20000 in
theorem ggX10_take_X3_spend : GoodIn wsX10_take wsX3_spend := goodIn_r _ [21, 22, 23, 24, 25, 26, 27, 28, 29, 30, 31, 32, 33, 34, 35, 36, 37, 38, 39, 40, 41, 42, 43, 44, 45, 46, 47, 48, 49, 50, 51, 52, 53, 54, 55, 56, 57, 58, 59, 60, 61, 62, 63, 64, 65, 66, 67, 68, 69, 70, 71, 72, 73, 74, 75, 76, 77, 78, 79, 80, 81, 82, 83, 84, 85, 86, 87, 88, 89, 90, 91, 92, 93, 94, 95, 96, 97, 98, 99, 100, 101, 102, 103, 104, 120, 121, 122, 123, 124, 125, 126, 127, 128, 129, 130, 131, 132, 133, 134, 135, 136, 137, 138, 139, 140] (by decide +kernel) (by decide +kernel)
set_option maxRecDepth 20000 in
theorem gX10_take_X3_spend : GoodIn wsX10_take (wsV RX10 76 RX3 yX3_spend wsX3_spend) := goodIn_app (goodIn_of _ (by decide +kernel)) ggX10_take_X3_spend
theorem dX10_take_0 : decode cX10_take 0 = .ok (.iload_n 1, 1) := by decide +kernel
theorem dX10_take_1 : decode cX10_take 1 = .ok (.invokestatic 55, 3) := by decide +kernel
theorem dX10_take_4 : decode cX10_take 4 = .ok (.iload_n 2, 1) := by decide +kernel
theorem dX10_take_5 : decode cX10_take 5 = .ok (.invokestatic 32, 3) := by decide +kernel
theorem dX10_take_8 : decode cX10_take 8 = .ok (.iload_n 3, 1) := by decide +kernel
theorem dX10_take_9 : decode cX10_take 9 = .ok (.iconst 1, 1) := by decide +kernel
theorem dX10_take_10 : decode cX10_take 10 = .ok (.sipush 10000, 3) := by decide +kernel
theorem dX10_take_13 : decode cX10_take 13 = .ok (.invokestatic 36, 3) := by decide +kernel
theorem dX10_take_16 : decode cX10_take 16 = .ok (.aload_n 0, 1) := by decide +kernel
theorem dX10_take_17 : decode cX10_take 17 = .ok (.getfield 25, 3) := by decide +kernel
theorem dX10_take_20 : decode cX10_take 20 = .ok (.iload_n 1, 1) := by decide +kernel
theorem dX10_take_21 : decode cX10_take 21 = .ok (.aaload, 1) := by decide +kernel
theorem dX10_take_22 : decode cX10_take 22 = .ok (.iload_n 2, 1) := by decide +kernel
theorem dX10_take_23 : decode cX10_take 23 = .ok (.iload_n 3, 1) := by decide +kernel
theorem dX10_take_24 : decode cX10_take 24 = .ok (.invokevirtual 76, 3) := by decide +kernel
theorem dX10_take_27 : decode cX10_take 27 = .ok (.istore 4, 2) := by decide +kernel
theorem dX10_take_29 : decode cX10_take 29 = .ok (.iload 4, 2) := by decide +kernel
theorem dX10_take_31 : decode cX10_take 31 = .ok (.ifCond .eq 21, 3) := by decide +kernel
theorem dX10_take_34 : decode cX10_take 34 = .ok (.aload_n 0, 1) := by decide +kernel
theorem dX10_take_35 : decode cX10_take 35 = .ok (.getfield 10, 3) := by decide +kernel
theorem dX10_take_38 : decode cX10_take 38 = .ok (.getfield 41, 3) := by decide +kernel
theorem dX10_take_41 : decode cX10_take 41 = .ok (.iload_n 2, 1) := by decide +kernel
theorem dX10_take_42 : decode cX10_take 42 = .ok (.aaload, 1) := by decide +kernel
theorem dX10_take_43 : decode cX10_take 43 = .ok (.dup, 1) := by decide +kernel
theorem dX10_take_44 : decode cX10_take 44 = .ok (.getfield 80, 3) := by decide +kernel
theorem dX10_take_47 : decode cX10_take 47 = .ok (.iload_n 3, 1) := by decide +kernel
theorem dX10_take_48 : decode cX10_take 48 = .ok (.iadd, 1) := by decide +kernel
theorem dX10_take_49 : decode cX10_take 49 = .ok (.putfield 80, 3) := by decide +kernel
theorem dX10_take_52 : decode cX10_take 52 = .ok (.iload 4, 2) := by decide +kernel
theorem dX10_take_54 : decode cX10_take 54 = .ok (.ireturn, 1) := by decide +kernel
set_option maxRecDepth 20000 in
theorem ggX10_work_X10_requireGate : GoodIn wsX10_work wsX10_requireGate := goodIn_ca (goodIn_r _ [7, 8, 9, 6, 10, 11, 12] (by decide +kernel) (by decide +kernel)) (goodIn_sub (fun _ h => List.mem_cons_of_mem _ (List.mem_append_right _ h)) (by decide +kernel))
set_option maxRecDepth 20000 in
theorem gX10_work_X10_requireGate : GoodIn wsX10_work (va_wsS RX10 55 yX10_requireGate wsX10_requireGate) := goodIn_app (goodIn_of _ (by decide +kernel)) ggX10_work_X10_requireGate
set_option maxRecDepth 20000 in
theorem ggX10_work_X3_settle : GoodIn wsX10_work wsX3_settle := goodIn_r _ [17, 18, 19, 20, 21, 22, 23, 24, 25, 26, 27, 28, 29, 30, 31, 32, 33, 34, 35, 36, 37, 38, 39, 40, 41, 42, 43, 44, 45, 46, 47, 48, 49, 50, 51, 52, 53, 54, 55, 56, 57, 58, 59, 60, 61, 62, 63, 64, 65, 66, 67, 68, 69, 70, 71, 72, 73, 74, 75, 76, 77, 78, 79, 80, 81, 82, 83, 84, 85, 86, 87, 88, 89, 90, 91, 92, 93, 94, 95, 96, 97, 98, 99, 100, 101, 102, 103, 104, 105, 106, 107, 108, 109, 110, 111, 112, 113, 114, 115, 116, 117, 118, 119, 120, 121, 122, 123, 124, 125, 126, 127, 128, 129, 130, 131, 132, 133, 134, 135, 141, 142, 143, 144, 145, 146, 147, 148, 149, 150, 151, 152, 153, 154, 155, 156, 157, 158, 159, 160, 161, 162, 163, 164, 165, 166, 167, 168, 169, 139, 140] (by decide +kernel) (by decide +kernel)
set_option maxRecDepth 20000 in
theorem gX10_work_X3_settle : GoodIn wsX10_work (wsV RX10 86 RX3 yX3_settle wsX3_settle) := goodIn_app (goodIn_of _ (by decide +kernel)) ggX10_work_X3_settle
theorem dX10_work_0 : decode cX10_work 0 = .ok (.iload_n 1, 1) := by decide +kernel
theorem dX10_work_1 : decode cX10_work 1 = .ok (.invokestatic 55, 3) := by decide +kernel
theorem dX10_work_4 : decode cX10_work 4 = .ok (.aload_n 0, 1) := by decide +kernel
theorem dX10_work_5 : decode cX10_work 5 = .ok (.getfield 19, 3) := by decide +kernel
theorem dX10_work_8 : decode cX10_work 8 = .ok (.getfield 83, 3) := by decide +kernel
theorem dX10_work_11 : decode cX10_work 11 = .ok (.istore_n 2, 1) := by decide +kernel
theorem dX10_work_12 : decode cX10_work 12 = .ok (.aload_n 0, 1) := by decide +kernel
theorem dX10_work_13 : decode cX10_work 13 = .ok (.getfield 25, 3) := by decide +kernel
theorem dX10_work_16 : decode cX10_work 16 = .ok (.iload_n 1, 1) := by decide +kernel
theorem dX10_work_17 : decode cX10_work 17 = .ok (.aaload, 1) := by decide +kernel
theorem dX10_work_18 : decode cX10_work 18 = .ok (.aload_n 0, 1) := by decide +kernel
theorem dX10_work_19 : decode cX10_work 19 = .ok (.getfield 19, 3) := by decide +kernel
theorem dX10_work_22 : decode cX10_work 22 = .ok (.invokevirtual 86, 3) := by decide +kernel
theorem dX10_work_25 : decode cX10_work 25 = .ok (.aload_n 0, 1) := by decide +kernel
theorem dX10_work_26 : decode cX10_work 26 = .ok (.getfield 19, 3) := by decide +kernel
theorem dX10_work_29 : decode cX10_work 29 = .ok (.getfield 83, 3) := by decide +kernel
theorem dX10_work_32 : decode cX10_work 32 = .ok (.iload_n 2, 1) := by decide +kernel
theorem dX10_work_33 : decode cX10_work 33 = .ok (.isub, 1) := by decide +kernel
theorem dX10_work_34 : decode cX10_work 34 = .ok (.ireturn, 1) := by decide +kernel
set_option maxRecDepth 20000 in
theorem ggX10_carry_X10_requireMessage : GoodIn wsX10_carry wsX10_requireMessage := goodIn_ca (goodIn_r _ [10, 11, 12, 3, 13, 14, 15, 16, 17, 18, 19, 269, 270, 271, 272, 273] (by decide +kernel) (by decide +kernel)) (goodIn_sub (fun _ h => List.mem_cons_of_mem _ (List.mem_append_right _ h)) (by decide +kernel))
set_option maxRecDepth 20000 in
theorem gX10_carry_X10_requireMessage : GoodIn wsX10_carry (wsV RX10 90 RX10 yX10_requireMessage wsX10_requireMessage) := goodIn_app (goodIn_of _ (by decide +kernel)) ggX10_carry_X10_requireMessage
set_option maxRecDepth 20000 in
theorem ggX10_carry_X8_hearAsk : GoodIn wsX10_carry wsX8_hearAsk := goodIn_r _ [24, 25, 26, 27, 28, 29, 30, 31, 32, 33, 23, 34, 35, 36, 37, 38, 39, 40, 41, 42, 43, 44, 45, 46, 47, 48, 49, 50, 51, 52, 53, 54, 55, 56, 57, 58, 59, 60, 61, 62, 63, 64, 65, 66, 67, 68, 69, 70, 71, 72, 73, 74, 75, 76, 77, 78, 79, 80, 81, 82, 83, 84, 85, 86, 87, 88, 89, 90, 91, 92, 93, 94, 95, 96, 97, 98, 99, 100, 101, 102, 103, 104, 105, 106, 107, 108, 109, 110, 111, 112, 113, 114, 115, 116, 117, 118, 119, 120, 121, 122, 123, 124, 125, 126, 127, 128, 129, 130, 131, 132, 133, 134, 135, 136, 137, 138, 139, 140, 141, 142, 143, 144, 145, 146, 147, 148, 149, 150, 151, 152, 153, 154, 155, 156, 157, 158, 159, 160, 161, 162, 163, 164, 165, 166, 167, 16, 168, 18, 19, 261, 262, 263, 264, 265, 266, 267, 268, 274, 275, 276, 277, 278, 279, 280, 281, 282, 283, 284, 285, 286, 287, 288, 289, 290, 291, 292, 293, 294, 295, 296, 297, 272, 273] (by decide +kernel) (by decide +kernel)
set_option maxRecDepth 20000 in
theorem gX10_carry_X8_hearAsk : GoodIn wsX10_carry (wsV RX10 99 RX8 yX8_hearAsk wsX8_hearAsk) := goodIn_app (goodIn_of _ (by decide +kernel)) ggX10_carry_X8_hearAsk
set_option maxRecDepth 20000 in
theorem ggX10_carry_X8_hearReturn : GoodIn wsX10_carry wsX8_hearReturn := goodIn_r _ [172, 25, 26, 27, 47, 28, 173, 48, 174, 175, 176, 65, 177, 98, 178, 179, 180, 181, 182, 183, 112, 184, 117, 185, 186, 187, 188, 189, 190, 191, 192, 193, 194, 195, 196, 197, 198, 199, 200, 116, 201, 202, 203, 204, 97, 205, 206, 207, 208, 209, 210, 211, 212, 213, 114, 115, 214, 162, 163, 164, 215, 216, 217, 218, 219, 220, 221, 133, 222, 67, 223, 224, 225, 261, 262, 263, 264, 265, 266, 267, 268, 274, 275, 276, 277, 278, 279, 286, 287, 288, 289, 290, 291, 292, 293, 294, 295, 296, 297] (by decide +kernel) (by decide +kernel)
set_option maxRecDepth 20000 in
theorem gX10_carry_X8_hearReturn : GoodIn wsX10_carry (wsV RX10 103 RX8 yX8_hearReturn wsX8_hearReturn) := goodIn_app (goodIn_of _ (by decide +kernel)) ggX10_carry_X8_hearReturn
set_option maxRecDepth 20000 in
theorem ggX10_carry_X3_hearGrant : GoodIn wsX10_carry wsX3_hearGrant := goodIn_r _ [230, 231, 232, 233, 234, 235, 236, 237, 238, 239, 240, 241, 242, 243, 244, 245, 246, 247, 248, 249, 250, 251, 252, 83, 84, 253, 254, 255, 256, 257, 258, 259, 260, 110, 111, 112, 113, 114, 115, 116, 117, 118, 119, 120, 121, 122, 123, 124, 125, 126, 127, 128, 129, 130, 131, 132, 133, 134, 135, 136, 137, 138, 139, 140, 141, 142, 143, 144, 145, 146, 147, 148, 149, 150, 151, 152, 153, 154, 155, 156, 157, 158, 159, 160, 161, 162, 163, 164, 261, 262, 263, 264, 265, 266, 267, 268, 298, 299, 300, 301, 302, 303, 304, 305, 306, 307, 308, 309, 310, 311, 312, 313, 295, 296, 297] (by decide +kernel) (by decide +kernel)
set_option maxRecDepth 20000 in
theorem gX10_carry_X3_hearGrant : GoodIn wsX10_carry (wsV RX10 110 RX3 yX3_hearGrant wsX3_hearGrant) := goodIn_app (goodIn_of _ (by decide +kernel)) ggX10_carry_X3_hearGrant
theorem dX10_carry_0 : decode cX10_carry 0 = .ok (.aload_n 0, 1) := by decide +kernel
theorem dX10_carry_1 : decode cX10_carry 1 = .ok (.iload_n 1, 1) := by decide +kernel
theorem dX10_carry_2 : decode cX10_carry 2 = .ok (.invokevirtual 90, 3) := by decide +kernel
theorem dX10_carry_5 : decode cX10_carry 5 = .ok (.astore_n 2, 1) := by decide +kernel
theorem dX10_carry_6 : decode cX10_carry 6 = .ok (.aload_n 2, 1) := by decide +kernel
theorem dX10_carry_7 : decode cX10_carry 7 = .ok (.getfield 94, 3) := by decide +kernel
theorem dX10_carry_10 : decode cX10_carry 10 = .ok (.lookupswitch 48 #[(0, 26), (2, 39)], 26) := by decide +kernel
theorem dX10_carry_36 : decode cX10_carry 36 = .ok (.aload_n 0, 1) := by decide +kernel
theorem dX10_carry_37 : decode cX10_carry 37 = .ok (.getfield 10, 3) := by decide +kernel
theorem dX10_carry_40 : decode cX10_carry 40 = .ok (.aload_n 2, 1) := by decide +kernel
theorem dX10_carry_41 : decode cX10_carry 41 = .ok (.aload_n 0, 1) := by decide +kernel
theorem dX10_carry_42 : decode cX10_carry 42 = .ok (.getfield 19, 3) := by decide +kernel
theorem dX10_carry_45 : decode cX10_carry 45 = .ok (.invokevirtual 99, 3) := by decide +kernel
theorem dX10_carry_48 : decode cX10_carry 48 = .ok (.ireturn, 1) := by decide +kernel
theorem dX10_carry_49 : decode cX10_carry 49 = .ok (.aload_n 0, 1) := by decide +kernel
theorem dX10_carry_50 : decode cX10_carry 50 = .ok (.getfield 10, 3) := by decide +kernel
theorem dX10_carry_53 : decode cX10_carry 53 = .ok (.aload_n 2, 1) := by decide +kernel
theorem dX10_carry_54 : decode cX10_carry 54 = .ok (.invokevirtual 103, 3) := by decide +kernel
theorem dX10_carry_57 : decode cX10_carry 57 = .ok (.ireturn, 1) := by decide +kernel
theorem dX10_carry_58 : decode cX10_carry 58 = .ok (.aload_n 0, 1) := by decide +kernel
theorem dX10_carry_59 : decode cX10_carry 59 = .ok (.getfield 25, 3) := by decide +kernel
theorem dX10_carry_62 : decode cX10_carry 62 = .ok (.aload_n 2, 1) := by decide +kernel
theorem dX10_carry_63 : decode cX10_carry 63 = .ok (.getfield 107, 3) := by decide +kernel
theorem dX10_carry_66 : decode cX10_carry 66 = .ok (.aaload, 1) := by decide +kernel
theorem dX10_carry_67 : decode cX10_carry 67 = .ok (.aload_n 2, 1) := by decide +kernel
theorem dX10_carry_68 : decode cX10_carry 68 = .ok (.invokevirtual 110, 3) := by decide +kernel
theorem dX10_carry_71 : decode cX10_carry 71 = .ok (.ireturn, 1) := by decide +kernel
set_option maxRecDepth 20000 in
theorem ggX10_drop_X10_requireMessage : GoodIn wsX10_drop wsX10_requireMessage := goodIn_ca (goodIn_r _ [6, 7, 8, 1, 9, 10, 11, 12, 13, 14, 15, 20, 21, 22, 23, 24] (by decide +kernel) (by decide +kernel)) (goodIn_sub (fun _ h => List.mem_cons_of_mem _ (List.mem_append_right _ h)) (by decide +kernel))
set_option maxRecDepth 20000 in
theorem gX10_drop_X10_requireMessage : GoodIn wsX10_drop (wsV RX10 90 RX10 yX10_requireMessage wsX10_requireMessage) := goodIn_app (goodIn_of _ (by decide +kernel)) ggX10_drop_X10_requireMessage
set_option maxRecDepth 20000 in
theorem ggX10_drop_X7_discard : GoodIn wsX10_drop wsX7_discard := goodIn_r _ [19, 14, 15, 23, 24] (by decide +kernel) (by decide +kernel)
set_option maxRecDepth 20000 in
theorem gX10_drop_X7_discard : GoodIn wsX10_drop (wsV RX10 113 RX7 yX7_discard wsX7_discard) := goodIn_app (goodIn_of _ (by decide +kernel)) ggX10_drop_X7_discard
theorem dX10_drop_0 : decode cX10_drop 0 = .ok (.aload_n 0, 1) := by decide +kernel
theorem dX10_drop_1 : decode cX10_drop 1 = .ok (.iload_n 1, 1) := by decide +kernel
theorem dX10_drop_2 : decode cX10_drop 2 = .ok (.invokevirtual 90, 3) := by decide +kernel
theorem dX10_drop_5 : decode cX10_drop 5 = .ok (.pop, 1) := by decide +kernel
theorem dX10_drop_6 : decode cX10_drop 6 = .ok (.aload_n 0, 1) := by decide +kernel
theorem dX10_drop_7 : decode cX10_drop 7 = .ok (.getfield 19, 3) := by decide +kernel
theorem dX10_drop_10 : decode cX10_drop 10 = .ok (.iload_n 1, 1) := by decide +kernel
theorem dX10_drop_11 : decode cX10_drop 11 = .ok (.invokevirtual 113, 3) := by decide +kernel
theorem dX10_drop_14 : decode cX10_drop 14 = .ok (.return_, 1) := by decide +kernel
set_option maxRecDepth 20000 in
theorem ggX10_tick_X10_requireWithin : GoodIn wsX10_tick wsX10_requireWithin := goodIn_ca (goodIn_r _ [7, 8, 9] (by decide +kernel) (by decide +kernel)) (goodIn_sub (fun _ h => List.mem_cons_of_mem _ (List.mem_append_right _ h)) (by decide +kernel))
set_option maxRecDepth 20000 in
theorem gX10_tick_X10_requireWithin : GoodIn wsX10_tick (va_wsS RX10 36 yX10_requireWithin wsX10_requireWithin) := goodIn_app (goodIn_of _ (by decide +kernel)) ggX10_tick_X10_requireWithin
set_option maxRecDepth 20000 in
theorem ggX10_tick_X8_advance : GoodIn wsX10_tick wsX8_advance := goodIn_r _ [14, 15, 16, 17, 18, 19, 20, 21, 22, 23, 24, 25, 26, 27, 28, 29, 30, 31, 32, 33, 34, 35, 36, 37, 38, 39, 40, 41, 42, 43, 44, 45, 46, 47, 48, 49, 50, 51, 52, 53, 54, 55, 56, 57, 58, 59, 60, 61, 62, 63, 64, 65, 66, 67, 68, 69, 70, 71, 72, 73, 74, 75, 76, 77, 78, 79, 80, 81, 82, 83, 84, 85, 86, 87, 88, 89, 90, 91, 92, 93, 94, 95, 96, 97, 98, 106, 107, 108, 109, 110, 111, 112, 113, 114, 115, 116, 117, 118, 119, 120, 121, 122, 123, 124, 125] (by decide +kernel) (by decide +kernel)
set_option maxRecDepth 20000 in
theorem gX10_tick_X8_advance : GoodIn wsX10_tick (wsV RX10 116 RX8 yX8_advance wsX8_advance) := goodIn_app (goodIn_of _ (by decide +kernel)) ggX10_tick_X8_advance
set_option maxRecDepth 20000 in
theorem ggX10_tick_X9_advance : GoodIn wsX10_tick wsX9_advance := goodIn_r _ [27, 22, 28, 112, 113] (by decide +kernel) (by decide +kernel)
set_option maxRecDepth 20000 in
theorem gX10_tick_X9_advance : GoodIn wsX10_tick (wsV RX10 123 RX9 yX9_advance wsX9_advance) := goodIn_app (goodIn_of _ (by decide +kernel)) ggX10_tick_X9_advance
theorem dX10_tick_0 : decode cX10_tick 0 = .ok (.iload_n 1, 1) := by decide +kernel
theorem dX10_tick_1 : decode cX10_tick 1 = .ok (.iconst 1, 1) := by decide +kernel
theorem dX10_tick_2 : decode cX10_tick 2 = .ok (.sipush 5000, 3) := by decide +kernel
theorem dX10_tick_5 : decode cX10_tick 5 = .ok (.invokestatic 36, 3) := by decide +kernel
theorem dX10_tick_8 : decode cX10_tick 8 = .ok (.aload_n 0, 1) := by decide +kernel
theorem dX10_tick_9 : decode cX10_tick 9 = .ok (.getfield 10, 3) := by decide +kernel
theorem dX10_tick_12 : decode cX10_tick 12 = .ok (.iload_n 1, 1) := by decide +kernel
theorem dX10_tick_13 : decode cX10_tick 13 = .ok (.invokevirtual 116, 3) := by decide +kernel
theorem dX10_tick_16 : decode cX10_tick 16 = .ok (.iconst 0, 1) := by decide +kernel
theorem dX10_tick_17 : decode cX10_tick 17 = .ok (.istore_n 2, 1) := by decide +kernel
theorem dX10_tick_18 : decode cX10_tick 18 = .ok (.iload_n 2, 1) := by decide +kernel
theorem dX10_tick_19 : decode cX10_tick 19 = .ok (.bipush 6, 2) := by decide +kernel
theorem dX10_tick_21 : decode cX10_tick 21 = .ok (.if_icmp .ge 22, 3) := by decide +kernel
theorem dX10_tick_24 : decode cX10_tick 24 = .ok (.aload_n 0, 1) := by decide +kernel
theorem dX10_tick_25 : decode cX10_tick 25 = .ok (.getfield 25, 3) := by decide +kernel
theorem dX10_tick_28 : decode cX10_tick 28 = .ok (.iload_n 2, 1) := by decide +kernel
theorem dX10_tick_29 : decode cX10_tick 29 = .ok (.aaload, 1) := by decide +kernel
theorem dX10_tick_30 : decode cX10_tick 30 = .ok (.getfield 119, 3) := by decide +kernel
theorem dX10_tick_33 : decode cX10_tick 33 = .ok (.iload_n 1, 1) := by decide +kernel
theorem dX10_tick_34 : decode cX10_tick 34 = .ok (.invokevirtual 123, 3) := by decide +kernel
theorem dX10_tick_37 : decode cX10_tick 37 = .ok (.iinc 2 1, 3) := by decide +kernel
theorem dX10_tick_40 : decode cX10_tick 40 = .ok (.goto (-22), 3) := by decide +kernel
theorem dX10_tick_43 : decode cX10_tick 43 = .ok (.return_, 1) := by decide +kernel
set_option maxRecDepth 20000 in
theorem ggX10_restart_X10_requireGate : GoodIn wsX10_restart wsX10_requireGate := goodIn_ca (goodIn_r _ [5, 6, 7, 4, 8, 9, 10] (by decide +kernel) (by decide +kernel)) (goodIn_sub (fun _ h => List.mem_cons_of_mem _ (List.mem_append_right _ h)) (by decide +kernel))
set_option maxRecDepth 20000 in
theorem gX10_restart_X10_requireGate : GoodIn wsX10_restart (va_wsS RX10 55 yX10_requireGate wsX10_requireGate) := goodIn_app (goodIn_of _ (by decide +kernel)) ggX10_restart_X10_requireGate
set_option maxRecDepth 20000 in
theorem ggX10_restart_X3_startAnew : GoodIn wsX10_restart wsX3_startAnew := goodIn_r _ [15, 16, 17, 18, 19, 20, 21, 22, 23, 24, 25, 26, 27, 28, 29, 30, 31, 32, 33, 34, 35, 36, 37, 38, 42, 43, 44, 45, 46, 47, 48, 49, 50, 51, 52, 53, 54, 55, 56] (by decide +kernel) (by decide +kernel)
set_option maxRecDepth 20000 in
theorem gX10_restart_X3_startAnew : GoodIn wsX10_restart (wsV RX10 124 RX3 yX3_startAnew wsX3_startAnew) := goodIn_app (goodIn_of _ (by decide +kernel)) ggX10_restart_X3_startAnew
theorem dX10_restart_0 : decode cX10_restart 0 = .ok (.iload_n 1, 1) := by decide +kernel
theorem dX10_restart_1 : decode cX10_restart 1 = .ok (.invokestatic 55, 3) := by decide +kernel
theorem dX10_restart_4 : decode cX10_restart 4 = .ok (.aload_n 0, 1) := by decide +kernel
theorem dX10_restart_5 : decode cX10_restart 5 = .ok (.getfield 25, 3) := by decide +kernel
theorem dX10_restart_8 : decode cX10_restart 8 = .ok (.iload_n 1, 1) := by decide +kernel
theorem dX10_restart_9 : decode cX10_restart 9 = .ok (.aaload, 1) := by decide +kernel
theorem dX10_restart_10 : decode cX10_restart 10 = .ok (.invokevirtual 124, 3) := by decide +kernel
theorem dX10_restart_13 : decode cX10_restart 13 = .ok (.ireturn, 1) := by decide +kernel
set_option maxRecDepth 20000 in
theorem ggX10_root_X10_requireKey : GoodIn wsX10_root wsX10_requireKey := goodIn_ca (goodIn_r _ [10, 11, 12, 9, 13, 14, 15] (by decide +kernel) (by decide +kernel)) (goodIn_sub (fun _ h => List.mem_cons_of_mem _ (List.mem_append_right _ h)) (by decide +kernel))
set_option maxRecDepth 20000 in
theorem gX10_root_X10_requireKey : GoodIn wsX10_root (va_wsS RX10 32 yX10_requireKey wsX10_requireKey) := goodIn_app (goodIn_of _ (by decide +kernel)) ggX10_root_X10_requireKey
set_option maxRecDepth 20000 in
theorem ggX10_root_X10_requireWithin : GoodIn wsX10_root wsX10_requireWithin := goodIn_ca (goodIn_r _ [13, 14, 15] (by decide +kernel) (by decide +kernel)) (goodIn_sub (fun _ h => List.mem_cons_of_mem _ (List.mem_append_right _ h)) (by decide +kernel))
set_option maxRecDepth 20000 in
theorem gX10_root_X10_requireWithin : GoodIn wsX10_root (va_wsS RX10 36 yX10_requireWithin wsX10_requireWithin) := goodIn_app (goodIn_of _ (by decide +kernel)) ggX10_root_X10_requireWithin
set_option maxRecDepth 20000 in
theorem ggX10_root_Jx4a65c_size_8abf5 : GoodIn wsX10_root wsJx4a65c_size_8abf5 := goodIn_r _ [20, 21, 37, 38, 39] (by decide +kernel) (by decide +kernel)
set_option maxRecDepth 20000 in
theorem gX10_root_Jx4a65c_size_8abf5 : GoodIn wsX10_root (wsV RX10 138 RJx4a65c yJx4a65c_size_8abf5 wsJx4a65c_size_8abf5) := goodIn_app (goodIn_of _ (by decide +kernel)) ggX10_root_Jx4a65c_size_8abf5
theorem dX10_root_0 : decode cX10_root 0 = .ok (.iload_n 1, 1) := by decide +kernel
theorem dX10_root_1 : decode cX10_root 1 = .ok (.invokestatic 32, 3) := by decide +kernel
theorem dX10_root_4 : decode cX10_root 4 = .ok (.iload_n 2, 1) := by decide +kernel
theorem dX10_root_5 : decode cX10_root 5 = .ok (.iconst 0, 1) := by decide +kernel
theorem dX10_root_6 : decode cX10_root 6 = .ok (.iconst 3, 1) := by decide +kernel
theorem dX10_root_7 : decode cX10_root 7 = .ok (.invokestatic 36, 3) := by decide +kernel
theorem dX10_root_10 : decode cX10_root 10 = .ok (.aload_n 0, 1) := by decide +kernel
theorem dX10_root_11 : decode cX10_root 11 = .ok (.getfield 10, 3) := by decide +kernel
theorem dX10_root_14 : decode cX10_root 14 = .ok (.getfield 41, 3) := by decide +kernel
theorem dX10_root_17 : decode cX10_root 17 = .ok (.iload_n 1, 1) := by decide +kernel
theorem dX10_root_18 : decode cX10_root 18 = .ok (.aaload, 1) := by decide +kernel
theorem dX10_root_19 : decode cX10_root 19 = .ok (.astore_n 3, 1) := by decide +kernel
theorem dX10_root_20 : decode cX10_root 20 = .ok (.iload_n 2, 1) := by decide +kernel
theorem dX10_root_21 : decode cX10_root 21 = .ok (.tableswitch 42 0 2 #[27, 32, 37], 27) := by decide +kernel
theorem dX10_root_48 : decode cX10_root 48 = .ok (.aload_n 3, 1) := by decide +kernel
theorem dX10_root_49 : decode cX10_root 49 = .ok (.getfield 80, 3) := by decide +kernel
theorem dX10_root_52 : decode cX10_root 52 = .ok (.ireturn, 1) := by decide +kernel
theorem dX10_root_53 : decode cX10_root 53 = .ok (.aload_n 3, 1) := by decide +kernel
theorem dX10_root_54 : decode cX10_root 54 = .ok (.getfield 128, 3) := by decide +kernel
theorem dX10_root_57 : decode cX10_root 57 = .ok (.ireturn, 1) := by decide +kernel
theorem dX10_root_58 : decode cX10_root 58 = .ok (.aload_n 3, 1) := by decide +kernel
theorem dX10_root_59 : decode cX10_root 59 = .ok (.getfield 131, 3) := by decide +kernel
theorem dX10_root_62 : decode cX10_root 62 = .ok (.ireturn, 1) := by decide +kernel
theorem dX10_root_63 : decode cX10_root 63 = .ok (.aload_n 3, 1) := by decide +kernel
theorem dX10_root_64 : decode cX10_root 64 = .ok (.getfield 134, 3) := by decide +kernel
theorem dX10_root_67 : decode cX10_root 67 = .ok (.invokevirtual 138, 3) := by decide +kernel
theorem dX10_root_70 : decode cX10_root 70 = .ok (.ireturn, 1) := by decide +kernel
set_option maxRecDepth 20000 in
theorem ggX10_gate_X10_requireGate : GoodIn wsX10_gate wsX10_requireGate := goodIn_ca (goodIn_r _ [13, 14, 15, 12, 16, 17, 18] (by decide +kernel) (by decide +kernel)) (goodIn_sub (fun _ h => List.mem_cons_of_mem _ (List.mem_append_right _ h)) (by decide +kernel))
set_option maxRecDepth 20000 in
theorem gX10_gate_X10_requireGate : GoodIn wsX10_gate (va_wsS RX10 55 yX10_requireGate wsX10_requireGate) := goodIn_app (goodIn_of _ (by decide +kernel)) ggX10_gate_X10_requireGate
set_option maxRecDepth 20000 in
theorem ggX10_gate_X10_requireKey : GoodIn wsX10_gate wsX10_requireKey := goodIn_ca (goodIn_r _ [21, 14, 15, 12, 16, 17, 18] (by decide +kernel) (by decide +kernel)) (goodIn_sub (fun _ h => List.mem_cons_of_mem _ (List.mem_append_right _ h)) (by decide +kernel))
set_option maxRecDepth 20000 in
theorem gX10_gate_X10_requireKey : GoodIn wsX10_gate (va_wsS RX10 32 yX10_requireKey wsX10_requireKey) := goodIn_app (goodIn_of _ (by decide +kernel)) ggX10_gate_X10_requireKey
set_option maxRecDepth 20000 in
theorem ggX10_gate_X10_requireWithin : GoodIn wsX10_gate wsX10_requireWithin := goodIn_ca (goodIn_r _ [16, 17, 18] (by decide +kernel) (by decide +kernel)) (goodIn_sub (fun _ h => List.mem_cons_of_mem _ (List.mem_append_right _ h)) (by decide +kernel))
set_option maxRecDepth 20000 in
theorem gX10_gate_X10_requireWithin : GoodIn wsX10_gate (va_wsS RX10 36 yX10_requireWithin wsX10_requireWithin) := goodIn_app (goodIn_of _ (by decide +kernel)) ggX10_gate_X10_requireWithin
set_option maxRecDepth 20000 in
theorem ggX10_gate_X9_now : GoodIn wsX10_gate wsX9_now := goodIn_r _ [26, 27, 28, 83, 84] (by decide +kernel) (by decide +kernel)
set_option maxRecDepth 20000 in
theorem gX10_gate_X9_now : GoodIn wsX10_gate (wsV RX10 147 RX9 yX9_now wsX9_now) := goodIn_app (goodIn_of _ (by decide +kernel)) ggX10_gate_X9_now
set_option maxRecDepth 20000 in
theorem ggX10_gate_X2_liveTokens : GoodIn wsX10_gate wsX2_liveTokens := goodIn_r _ [33, 34, 35, 36, 37, 38, 39, 40, 41, 42, 43, 44, 45, 46, 47, 48, 49, 50, 51, 52, 53, 54, 55, 56, 57, 58, 59, 60, 61, 62, 63, 64, 65, 66, 74, 75, 76, 77, 78, 79, 80, 81, 82, 85, 86, 87, 88, 89, 90, 91] (by decide +kernel) (by decide +kernel)
set_option maxRecDepth 20000 in
theorem gX10_gate_X2_liveTokens : GoodIn wsX10_gate (wsV RX10 150 RX2 yX2_liveTokens wsX2_liveTokens) := goodIn_app (goodIn_of _ (by decide +kernel)) ggX10_gate_X2_liveTokens
set_option maxRecDepth 20000 in
theorem ggX10_gate_Jx4a65c_size_8abf5 : GoodIn wsX10_gate wsJx4a65c_size_8abf5 := goodIn_r _ [41, 42, 89, 90, 91] (by decide +kernel) (by decide +kernel)
set_option maxRecDepth 20000 in
theorem gX10_gate_Jx4a65c_size_8abf5 : GoodIn wsX10_gate (wsV RX10 138 RJx4a65c yJx4a65c_size_8abf5 wsJx4a65c_size_8abf5) := goodIn_app (goodIn_of _ (by decide +kernel)) ggX10_gate_Jx4a65c_size_8abf5
theorem dX10_gate_0 : decode cX10_gate 0 = .ok (.iload_n 1, 1) := by decide +kernel
theorem dX10_gate_1 : decode cX10_gate 1 = .ok (.invokestatic 55, 3) := by decide +kernel
theorem dX10_gate_4 : decode cX10_gate 4 = .ok (.iload_n 2, 1) := by decide +kernel
theorem dX10_gate_5 : decode cX10_gate 5 = .ok (.invokestatic 32, 3) := by decide +kernel
theorem dX10_gate_8 : decode cX10_gate 8 = .ok (.iload_n 3, 1) := by decide +kernel
theorem dX10_gate_9 : decode cX10_gate 9 = .ok (.iconst 0, 1) := by decide +kernel
theorem dX10_gate_10 : decode cX10_gate 10 = .ok (.bipush 6, 2) := by decide +kernel
theorem dX10_gate_12 : decode cX10_gate 12 = .ok (.invokestatic 36, 3) := by decide +kernel
theorem dX10_gate_15 : decode cX10_gate 15 = .ok (.aload_n 0, 1) := by decide +kernel
theorem dX10_gate_16 : decode cX10_gate 16 = .ok (.getfield 25, 3) := by decide +kernel
theorem dX10_gate_19 : decode cX10_gate 19 = .ok (.iload_n 1, 1) := by decide +kernel
theorem dX10_gate_20 : decode cX10_gate 20 = .ok (.aaload, 1) := by decide +kernel
theorem dX10_gate_21 : decode cX10_gate 21 = .ok (.getfield 143, 3) := by decide +kernel
theorem dX10_gate_24 : decode cX10_gate 24 = .ok (.iload_n 2, 1) := by decide +kernel
theorem dX10_gate_25 : decode cX10_gate 25 = .ok (.aaload, 1) := by decide +kernel
theorem dX10_gate_26 : decode cX10_gate 26 = .ok (.astore 4, 2) := by decide +kernel
theorem dX10_gate_28 : decode cX10_gate 28 = .ok (.iload_n 3, 1) := by decide +kernel
theorem dX10_gate_29 : decode cX10_gate 29 = .ok (.tableswitch 98 0 5 #[39, 57, 66, 72, 78, 84], 39) := by decide +kernel
theorem dX10_gate_68 : decode cX10_gate 68 = .ok (.aload 4, 2) := by decide +kernel
theorem dX10_gate_70 : decode cX10_gate 70 = .ok (.aload_n 0, 1) := by decide +kernel
theorem dX10_gate_71 : decode cX10_gate 71 = .ok (.getfield 25, 3) := by decide +kernel
theorem dX10_gate_74 : decode cX10_gate 74 = .ok (.iload_n 1, 1) := by decide +kernel
theorem dX10_gate_75 : decode cX10_gate 75 = .ok (.aaload, 1) := by decide +kernel
theorem dX10_gate_76 : decode cX10_gate 76 = .ok (.getfield 119, 3) := by decide +kernel
theorem dX10_gate_79 : decode cX10_gate 79 = .ok (.invokevirtual 147, 3) := by decide +kernel
theorem dX10_gate_82 : decode cX10_gate 82 = .ok (.invokevirtual 150, 3) := by decide +kernel
theorem dX10_gate_85 : decode cX10_gate 85 = .ok (.ireturn, 1) := by decide +kernel
theorem dX10_gate_86 : decode cX10_gate 86 = .ok (.aload 4, 2) := by decide +kernel
theorem dX10_gate_88 : decode cX10_gate 88 = .ok (.getfield 156, 3) := by decide +kernel
theorem dX10_gate_91 : decode cX10_gate 91 = .ok (.invokevirtual 138, 3) := by decide +kernel
theorem dX10_gate_94 : decode cX10_gate 94 = .ok (.ireturn, 1) := by decide +kernel
theorem dX10_gate_95 : decode cX10_gate 95 = .ok (.aload 4, 2) := by decide +kernel
theorem dX10_gate_97 : decode cX10_gate 97 = .ok (.getfield 159, 3) := by decide +kernel
theorem dX10_gate_100 : decode cX10_gate 100 = .ok (.ireturn, 1) := by decide +kernel
theorem dX10_gate_101 : decode cX10_gate 101 = .ok (.aload 4, 2) := by decide +kernel
theorem dX10_gate_103 : decode cX10_gate 103 = .ok (.getfield 162, 3) := by decide +kernel
theorem dX10_gate_106 : decode cX10_gate 106 = .ok (.ireturn, 1) := by decide +kernel
theorem dX10_gate_107 : decode cX10_gate 107 = .ok (.aload 4, 2) := by decide +kernel
theorem dX10_gate_109 : decode cX10_gate 109 = .ok (.getfield 165, 3) := by decide +kernel
theorem dX10_gate_112 : decode cX10_gate 112 = .ok (.ireturn, 1) := by decide +kernel
theorem dX10_gate_113 : decode cX10_gate 113 = .ok (.aload 4, 2) := by decide +kernel
theorem dX10_gate_115 : decode cX10_gate 115 = .ok (.getfield 168, 3) := by decide +kernel
theorem dX10_gate_118 : decode cX10_gate 118 = .ok (.ifCond .eq 7, 3) := by decide +kernel
theorem dX10_gate_121 : decode cX10_gate 121 = .ok (.iconst 1, 1) := by decide +kernel
theorem dX10_gate_122 : decode cX10_gate 122 = .ok (.goto 4, 3) := by decide +kernel
theorem dX10_gate_125 : decode cX10_gate 125 = .ok (.iconst 0, 1) := by decide +kernel
theorem dX10_gate_126 : decode cX10_gate 126 = .ok (.ireturn, 1) := by decide +kernel
theorem dX10_gate_127 : decode cX10_gate 127 = .ok (.aload 4, 2) := by decide +kernel
theorem dX10_gate_129 : decode cX10_gate 129 = .ok (.getfield 172, 3) := by decide +kernel
theorem dX10_gate_132 : decode cX10_gate 132 = .ok (.ireturn, 1) := by decide +kernel
set_option maxRecDepth 20000 in
theorem ggX10_message_X10_requireMessage : GoodIn wsX10_message wsX10_requireMessage := goodIn_ca (goodIn_r _ [12, 13, 14, 15, 16, 17, 18, 19, 20, 21, 22, 34, 35, 36, 37, 38] (by decide +kernel) (by decide +kernel)) (goodIn_sub (fun _ h => List.mem_cons_of_mem _ (List.mem_append_right _ h)) (by decide +kernel))
set_option maxRecDepth 20000 in
theorem gX10_message_X10_requireMessage : GoodIn wsX10_message (wsV RX10 90 RX10 yX10_requireMessage wsX10_requireMessage) := goodIn_app (goodIn_of _ (by decide +kernel)) ggX10_message_X10_requireMessage
set_option maxRecDepth 20000 in
theorem ggX10_message_X10_requireWithin : GoodIn wsX10_message wsX10_requireWithin := goodIn_ca (goodIn_r _ [25, 13, 14] (by decide +kernel) (by decide +kernel)) (goodIn_sub (fun _ h => List.mem_cons_of_mem _ (List.mem_append_right _ h)) (by decide +kernel))
set_option maxRecDepth 20000 in
theorem gX10_message_X10_requireWithin : GoodIn wsX10_message (va_wsS RX10 36 yX10_requireWithin wsX10_requireWithin) := goodIn_app (goodIn_of _ (by decide +kernel)) ggX10_message_X10_requireWithin
theorem dX10_message_0 : decode cX10_message 0 = .ok (.aload_n 0, 1) := by decide +kernel
theorem dX10_message_1 : decode cX10_message 1 = .ok (.iload_n 1, 1) := by decide +kernel
theorem dX10_message_2 : decode cX10_message 2 = .ok (.invokevirtual 90, 3) := by decide +kernel
theorem dX10_message_5 : decode cX10_message 5 = .ok (.astore_n 3, 1) := by decide +kernel
theorem dX10_message_6 : decode cX10_message 6 = .ok (.iload_n 2, 1) := by decide +kernel
theorem dX10_message_7 : decode cX10_message 7 = .ok (.iconst 0, 1) := by decide +kernel
theorem dX10_message_8 : decode cX10_message 8 = .ok (.bipush 6, 2) := by decide +kernel
theorem dX10_message_10 : decode cX10_message 10 = .ok (.invokestatic 36, 3) := by decide +kernel
theorem dX10_message_13 : decode cX10_message 13 = .ok (.iload_n 2, 1) := by decide +kernel
theorem dX10_message_14 : decode cX10_message 14 = .ok (.tableswitch 68 0 5 #[38, 43, 48, 53, 58, 63], 38) := by decide +kernel
theorem dX10_message_52 : decode cX10_message 52 = .ok (.aload_n 3, 1) := by decide +kernel
theorem dX10_message_53 : decode cX10_message 53 = .ok (.getfield 94, 3) := by decide +kernel
theorem dX10_message_56 : decode cX10_message 56 = .ok (.ireturn, 1) := by decide +kernel
theorem dX10_message_57 : decode cX10_message 57 = .ok (.aload_n 3, 1) := by decide +kernel
theorem dX10_message_58 : decode cX10_message 58 = .ok (.getfield 107, 3) := by decide +kernel
theorem dX10_message_61 : decode cX10_message 61 = .ok (.ireturn, 1) := by decide +kernel
theorem dX10_message_62 : decode cX10_message 62 = .ok (.aload_n 3, 1) := by decide +kernel
theorem dX10_message_63 : decode cX10_message 63 = .ok (.getfield 175, 3) := by decide +kernel
theorem dX10_message_66 : decode cX10_message 66 = .ok (.ireturn, 1) := by decide +kernel
theorem dX10_message_67 : decode cX10_message 67 = .ok (.aload_n 3, 1) := by decide +kernel
theorem dX10_message_68 : decode cX10_message 68 = .ok (.getfield 178, 3) := by decide +kernel
theorem dX10_message_71 : decode cX10_message 71 = .ok (.ireturn, 1) := by decide +kernel
theorem dX10_message_72 : decode cX10_message 72 = .ok (.aload_n 3, 1) := by decide +kernel
theorem dX10_message_73 : decode cX10_message 73 = .ok (.getfield 181, 3) := by decide +kernel
theorem dX10_message_76 : decode cX10_message 76 = .ok (.ireturn, 1) := by decide +kernel
theorem dX10_message_77 : decode cX10_message 77 = .ok (.aload_n 3, 1) := by decide +kernel
theorem dX10_message_78 : decode cX10_message 78 = .ok (.getfield 184, 3) := by decide +kernel
theorem dX10_message_81 : decode cX10_message 81 = .ok (.ireturn, 1) := by decide +kernel
theorem dX10_message_82 : decode cX10_message 82 = .ok (.aload_n 3, 1) := by decide +kernel
theorem dX10_message_83 : decode cX10_message 83 = .ok (.getfield 185, 3) := by decide +kernel
theorem dX10_message_86 : decode cX10_message 86 = .ok (.ireturn, 1) := by decide +kernel
theorem dX10_sent_0 : decode cX10_sent 0 = .ok (.aload_n 0, 1) := by decide +kernel
theorem dX10_sent_1 : decode cX10_sent 1 = .ok (.getfield 19, 3) := by decide +kernel
theorem dX10_sent_4 : decode cX10_sent 4 = .ok (.getfield 83, 3) := by decide +kernel
theorem dX10_sent_7 : decode cX10_sent 7 = .ok (.ireturn, 1) := by decide +kernel
set_option maxRecDepth 20000 in
theorem ggX10_clock_X10_requireWithin : GoodIn wsX10_clock wsX10_requireWithin := goodIn_ca (goodIn_r _ [4, 5, 6] (by decide +kernel) (by decide +kernel)) (goodIn_sub (fun _ h => List.mem_cons_of_mem _ (List.mem_append_right _ h)) (by decide +kernel))
set_option maxRecDepth 20000 in
theorem gX10_clock_X10_requireWithin : GoodIn wsX10_clock (va_wsS RX10 36 yX10_requireWithin wsX10_requireWithin) := goodIn_app (goodIn_of _ (by decide +kernel)) ggX10_clock_X10_requireWithin
set_option maxRecDepth 20000 in
theorem ggX10_clock_X10_tickerOf : GoodIn wsX10_clock wsX10_tickerOf := goodIn_r _ [10, 11, 12, 13, 14, 22, 23, 24, 25, 26, 27, 28, 29, 30, 31, 32, 33] (by decide +kernel) (by decide +kernel)
set_option maxRecDepth 20000 in
theorem gX10_clock_X10_tickerOf : GoodIn wsX10_clock (wsV RX10 67 RX10 yX10_tickerOf wsX10_tickerOf) := goodIn_app (goodIn_of _ (by decide +kernel)) ggX10_clock_X10_tickerOf
set_option maxRecDepth 20000 in
theorem ggX10_clock_X9_now : GoodIn wsX10_clock wsX9_now := goodIn_r _ [19, 20, 21, 34, 35] (by decide +kernel) (by decide +kernel)
set_option maxRecDepth 20000 in
theorem gX10_clock_X9_now : GoodIn wsX10_clock (wsV RX10 147 RX9 yX9_now wsX9_now) := goodIn_app (goodIn_of _ (by decide +kernel)) ggX10_clock_X9_now
theorem dX10_clock_0 : decode cX10_clock 0 = .ok (.iload_n 1, 1) := by decide +kernel
theorem dX10_clock_1 : decode cX10_clock 1 = .ok (.iconst (-1), 1) := by decide +kernel
theorem dX10_clock_2 : decode cX10_clock 2 = .ok (.iconst 5, 1) := by decide +kernel
theorem dX10_clock_3 : decode cX10_clock 3 = .ok (.invokestatic 36, 3) := by decide +kernel
theorem dX10_clock_6 : decode cX10_clock 6 = .ok (.aload_n 0, 1) := by decide +kernel
theorem dX10_clock_7 : decode cX10_clock 7 = .ok (.iload_n 1, 1) := by decide +kernel
theorem dX10_clock_8 : decode cX10_clock 8 = .ok (.invokevirtual 67, 3) := by decide +kernel
theorem dX10_clock_11 : decode cX10_clock 11 = .ok (.invokevirtual 147, 3) := by decide +kernel
theorem dX10_clock_14 : decode cX10_clock 14 = .ok (.ireturn, 1) := by decide +kernel
theorem dX10_tickerOf_0 : decode cX10_tickerOf 0 = .ok (.iload_n 1, 1) := by decide +kernel
theorem dX10_tickerOf_1 : decode cX10_tickerOf 1 = .ok (.iconst (-1), 1) := by decide +kernel
theorem dX10_tickerOf_2 : decode cX10_tickerOf 2 = .ok (.if_icmp .ne 13, 3) := by decide +kernel
theorem dX10_tickerOf_5 : decode cX10_tickerOf 5 = .ok (.aload_n 0, 1) := by decide +kernel
theorem dX10_tickerOf_6 : decode cX10_tickerOf 6 = .ok (.getfield 10, 3) := by decide +kernel
theorem dX10_tickerOf_9 : decode cX10_tickerOf 9 = .ok (.getfield 188, 3) := by decide +kernel
theorem dX10_tickerOf_12 : decode cX10_tickerOf 12 = .ok (.goto 12, 3) := by decide +kernel
theorem dX10_tickerOf_15 : decode cX10_tickerOf 15 = .ok (.aload_n 0, 1) := by decide +kernel
theorem dX10_tickerOf_16 : decode cX10_tickerOf 16 = .ok (.getfield 25, 3) := by decide +kernel
theorem dX10_tickerOf_19 : decode cX10_tickerOf 19 = .ok (.iload_n 1, 1) := by decide +kernel
theorem dX10_tickerOf_20 : decode cX10_tickerOf 20 = .ok (.aaload, 1) := by decide +kernel
theorem dX10_tickerOf_21 : decode cX10_tickerOf 21 = .ok (.getfield 119, 3) := by decide +kernel
theorem dX10_tickerOf_24 : decode cX10_tickerOf 24 = .ok (.areturn, 1) := by decide +kernel
set_option maxRecDepth 20000 in
theorem ggX10_requireMessage_X7_find : GoodIn wsX10_requireMessage wsX7_find := goodIn_r _ [8, 9, 10, 14, 15] (by decide +kernel) (by decide +kernel)
set_option maxRecDepth 20000 in
theorem gX10_requireMessage_X7_find : GoodIn wsX10_requireMessage (wsV RX10 189 RX7 yX7_find wsX7_find) := goodIn_app (goodIn_of _ (by decide +kernel)) ggX10_requireMessage_X7_find
theorem dX10_requireMessage_0 : decode cX10_requireMessage 0 = .ok (.aload_n 0, 1) := by decide +kernel
theorem dX10_requireMessage_1 : decode cX10_requireMessage 1 = .ok (.getfield 19, 3) := by decide +kernel
theorem dX10_requireMessage_4 : decode cX10_requireMessage 4 = .ok (.iload_n 1, 1) := by decide +kernel
theorem dX10_requireMessage_5 : decode cX10_requireMessage 5 = .ok (.invokevirtual 189, 3) := by decide +kernel
theorem dX10_requireMessage_8 : decode cX10_requireMessage 8 = .ok (.astore_n 2, 1) := by decide +kernel
theorem dX10_requireMessage_9 : decode cX10_requireMessage 9 = .ok (.aload_n 2, 1) := by decide +kernel
theorem dX10_requireMessage_10 : decode cX10_requireMessage 10 = .ok (.ifnonnull 13, 3) := by decide +kernel
theorem dX10_requireMessage_13 : decode cX10_requireMessage 13 = .ok (.new 192, 3) := by decide +kernel
theorem dX10_requireMessage_16 : decode cX10_requireMessage 16 = .ok (.dup, 1) := by decide +kernel
theorem dX10_requireMessage_17 : decode cX10_requireMessage 17 = .ok (.ldc 194, 2) := by decide +kernel
theorem dX10_requireMessage_19 : decode cX10_requireMessage 19 = .ok (.invokespecial 196, 3) := by decide +kernel
theorem dX10_requireMessage_22 : decode cX10_requireMessage 22 = .ok (.athrow, 1) := by decide +kernel
theorem dX10_requireMessage_23 : decode cX10_requireMessage 23 = .ok (.aload_n 2, 1) := by decide +kernel
theorem dX10_requireMessage_24 : decode cX10_requireMessage 24 = .ok (.areturn, 1) := by decide +kernel
set_option maxRecDepth 20000 in
theorem ggX10_requireGate_X10_requireWithin : GoodIn wsX10_requireGate wsX10_requireWithin := goodIn_ca (goodIn_r _ [4, 5, 6] (by decide +kernel) (by decide +kernel)) (goodIn_sub (fun _ h => List.mem_cons_of_mem _ (List.mem_append_right _ h)) (by decide +kernel))
set_option maxRecDepth 20000 in
theorem gX10_requireGate_X10_requireWithin : GoodIn wsX10_requireGate (va_wsS RX10 36 yX10_requireWithin wsX10_requireWithin) := goodIn_app (goodIn_of _ (by decide +kernel)) ggX10_requireGate_X10_requireWithin
theorem dX10_requireGate_0 : decode cX10_requireGate 0 = .ok (.iload_n 0, 1) := by decide +kernel
theorem dX10_requireGate_1 : decode cX10_requireGate 1 = .ok (.iconst 0, 1) := by decide +kernel
theorem dX10_requireGate_2 : decode cX10_requireGate 2 = .ok (.iconst 5, 1) := by decide +kernel
theorem dX10_requireGate_3 : decode cX10_requireGate 3 = .ok (.invokestatic 36, 3) := by decide +kernel
theorem dX10_requireGate_6 : decode cX10_requireGate 6 = .ok (.return_, 1) := by decide +kernel
set_option maxRecDepth 20000 in
theorem ggX10_requireKey_X10_requireWithin : GoodIn wsX10_requireKey wsX10_requireWithin := goodIn_ca (goodIn_r _ [4, 5, 6] (by decide +kernel) (by decide +kernel)) (goodIn_sub (fun _ h => List.mem_cons_of_mem _ (List.mem_append_right _ h)) (by decide +kernel))
set_option maxRecDepth 20000 in
theorem gX10_requireKey_X10_requireWithin : GoodIn wsX10_requireKey (va_wsS RX10 36 yX10_requireWithin wsX10_requireWithin) := goodIn_app (goodIn_of _ (by decide +kernel)) ggX10_requireKey_X10_requireWithin
theorem dX10_requireKey_0 : decode cX10_requireKey 0 = .ok (.iload_n 0, 1) := by decide +kernel
theorem dX10_requireKey_1 : decode cX10_requireKey 1 = .ok (.iconst 0, 1) := by decide +kernel
theorem dX10_requireKey_2 : decode cX10_requireKey 2 = .ok (.bipush 7, 2) := by decide +kernel
theorem dX10_requireKey_4 : decode cX10_requireKey 4 = .ok (.invokestatic 36, 3) := by decide +kernel
theorem dX10_requireKey_7 : decode cX10_requireKey 7 = .ok (.return_, 1) := by decide +kernel
theorem dX10_requireWithin_0 : decode cX10_requireWithin 0 = .ok (.iload_n 0, 1) := by decide +kernel
theorem dX10_requireWithin_1 : decode cX10_requireWithin 1 = .ok (.iload_n 1, 1) := by decide +kernel
theorem dX10_requireWithin_2 : decode cX10_requireWithin 2 = .ok (.if_icmp .lt 8, 3) := by decide +kernel
theorem dX10_requireWithin_5 : decode cX10_requireWithin 5 = .ok (.iload_n 0, 1) := by decide +kernel
theorem dX10_requireWithin_6 : decode cX10_requireWithin 6 = .ok (.iload_n 2, 1) := by decide +kernel
theorem dX10_requireWithin_7 : decode cX10_requireWithin 7 = .ok (.if_icmp .le 13, 3) := by decide +kernel
theorem dX10_requireWithin_10 : decode cX10_requireWithin 10 = .ok (.new 192, 3) := by decide +kernel
theorem dX10_requireWithin_13 : decode cX10_requireWithin 13 = .ok (.dup, 1) := by decide +kernel
theorem dX10_requireWithin_14 : decode cX10_requireWithin 14 = .ok (.ldc 199, 2) := by decide +kernel
theorem dX10_requireWithin_16 : decode cX10_requireWithin 16 = .ok (.invokespecial 196, 3) := by decide +kernel
theorem dX10_requireWithin_19 : decode cX10_requireWithin 19 = .ok (.athrow, 1) := by decide +kernel
theorem dX10_requireWithin_20 : decode cX10_requireWithin 20 = .ok (.return_, 1) := by decide +kernel
theorem dX11_init_0 : decode cX11_init 0 = .ok (.aload_n 0, 1) := by decide +kernel
theorem dX11_init_1 : decode cX11_init 1 = .ok (.invokespecial 1, 3) := by decide +kernel
theorem dX11_init_4 : decode cX11_init 4 = .ok (.aload_n 0, 1) := by decide +kernel
theorem dX11_init_5 : decode cX11_init 5 = .ok (.bipush 7, 2) := by decide +kernel
theorem dX11_init_7 : decode cX11_init 7 = .ok (.newarray .long, 2) := by decide +kernel
theorem dX11_init_9 : decode cX11_init 9 = .ok (.putfield 7, 3) := by decide +kernel
theorem dX11_init_12 : decode cX11_init 12 = .ok (.aload_n 0, 1) := by decide +kernel
theorem dX11_init_13 : decode cX11_init 13 = .ok (.bipush 7, 2) := by decide +kernel
theorem dX11_init_15 : decode cX11_init 15 = .ok (.newarray .int, 2) := by decide +kernel
theorem dX11_init_17 : decode cX11_init 17 = .ok (.putfield 13, 3) := by decide +kernel
theorem dX11_init_20 : decode cX11_init 20 = .ok (.aload_n 0, 1) := by decide +kernel
theorem dX11_init_21 : decode cX11_init 21 = .ok (.bipush 8, 2) := by decide +kernel
theorem dX11_init_23 : decode cX11_init 23 = .ok (.newarray .int, 2) := by decide +kernel
theorem dX11_init_25 : decode cX11_init 25 = .ok (.putfield 17, 3) := by decide +kernel
theorem dX11_init_28 : decode cX11_init 28 = .ok (.aload_n 0, 1) := by decide +kernel
theorem dX11_init_29 : decode cX11_init 29 = .ok (.bipush 8, 2) := by decide +kernel
theorem dX11_init_31 : decode cX11_init 31 = .ok (.newarray .int, 2) := by decide +kernel
theorem dX11_init_33 : decode cX11_init 33 = .ok (.putfield 20, 3) := by decide +kernel
theorem dX11_init_36 : decode cX11_init 36 = .ok (.aload_n 0, 1) := by decide +kernel
theorem dX11_init_37 : decode cX11_init 37 = .ok (.bipush 8, 2) := by decide +kernel
theorem dX11_init_39 : decode cX11_init 39 = .ok (.newarray .long, 2) := by decide +kernel
theorem dX11_init_41 : decode cX11_init 41 = .ok (.putfield 23, 3) := by decide +kernel
theorem dX11_init_44 : decode cX11_init 44 = .ok (.aload_n 0, 1) := by decide +kernel
theorem dX11_init_45 : decode cX11_init 45 = .ok (.bipush 8, 2) := by decide +kernel
theorem dX11_init_47 : decode cX11_init 47 = .ok (.newarray .int, 2) := by decide +kernel
theorem dX11_init_49 : decode cX11_init 49 = .ok (.putfield 26, 3) := by decide +kernel
theorem dX11_init_52 : decode cX11_init 52 = .ok (.aload_n 0, 1) := by decide +kernel
theorem dX11_init_53 : decode cX11_init 53 = .ok (.sipush 300, 3) := by decide +kernel
theorem dX11_init_56 : decode cX11_init 56 = .ok (.newarray .int, 2) := by decide +kernel
theorem dX11_init_58 : decode cX11_init 58 = .ok (.putfield 29, 3) := by decide +kernel
theorem dX11_init_61 : decode cX11_init 61 = .ok (.aload_n 0, 1) := by decide +kernel
theorem dX11_init_62 : decode cX11_init 62 = .ok (.sipush 300, 3) := by decide +kernel
theorem dX11_init_65 : decode cX11_init 65 = .ok (.newarray .int, 2) := by decide +kernel
theorem dX11_init_67 : decode cX11_init 67 = .ok (.putfield 32, 3) := by decide +kernel
theorem dX11_init_70 : decode cX11_init 70 = .ok (.aload_n 0, 1) := by decide +kernel
theorem dX11_init_71 : decode cX11_init 71 = .ok (.sipush 300, 3) := by decide +kernel
theorem dX11_init_74 : decode cX11_init 74 = .ok (.newarray .int, 2) := by decide +kernel
theorem dX11_init_76 : decode cX11_init 76 = .ok (.putfield 35, 3) := by decide +kernel
theorem dX11_init_79 : decode cX11_init 79 = .ok (.aload_n 0, 1) := by decide +kernel
theorem dX11_init_80 : decode cX11_init 80 = .ok (.sipush 2000, 3) := by decide +kernel
theorem dX11_init_83 : decode cX11_init 83 = .ok (.putfield 38, 3) := by decide +kernel
theorem dX11_init_86 : decode cX11_init 86 = .ok (.aload_n 0, 1) := by decide +kernel
theorem dX11_init_87 : decode cX11_init 87 = .ok (.bipush 6, 2) := by decide +kernel
theorem dX11_init_89 : decode cX11_init 89 = .ok (.newarray .int, 2) := by decide +kernel
theorem dX11_init_91 : decode cX11_init 91 = .ok (.putfield 42, 3) := by decide +kernel
theorem dX11_init_94 : decode cX11_init 94 = .ok (.aload_n 0, 1) := by decide +kernel
theorem dX11_init_95 : decode cX11_init 95 = .ok (.bipush 48, 2) := by decide +kernel
theorem dX11_init_97 : decode cX11_init 97 = .ok (.newarray .int, 2) := by decide +kernel
theorem dX11_init_99 : decode cX11_init 99 = .ok (.putfield 45, 3) := by decide +kernel
theorem dX11_init_102 : decode cX11_init 102 = .ok (.aload_n 0, 1) := by decide +kernel
theorem dX11_init_103 : decode cX11_init 103 = .ok (.bipush 48, 2) := by decide +kernel
theorem dX11_init_105 : decode cX11_init 105 = .ok (.newarray .int, 2) := by decide +kernel
theorem dX11_init_107 : decode cX11_init 107 = .ok (.putfield 48, 3) := by decide +kernel
theorem dX11_init_110 : decode cX11_init 110 = .ok (.aload_n 0, 1) := by decide +kernel
theorem dX11_init_111 : decode cX11_init 111 = .ok (.bipush 48, 2) := by decide +kernel
theorem dX11_init_113 : decode cX11_init 113 = .ok (.newarray .int, 2) := by decide +kernel
theorem dX11_init_115 : decode cX11_init 115 = .ok (.putfield 51, 3) := by decide +kernel
theorem dX11_init_118 : decode cX11_init 118 = .ok (.aload_n 0, 1) := by decide +kernel
theorem dX11_init_119 : decode cX11_init 119 = .ok (.bipush 48, 2) := by decide +kernel
theorem dX11_init_121 : decode cX11_init 121 = .ok (.newarray .int, 2) := by decide +kernel
theorem dX11_init_123 : decode cX11_init 123 = .ok (.putfield 54, 3) := by decide +kernel
theorem dX11_init_126 : decode cX11_init 126 = .ok (.aload_n 0, 1) := by decide +kernel
theorem dX11_init_127 : decode cX11_init 127 = .ok (.bipush 48, 2) := by decide +kernel
theorem dX11_init_129 : decode cX11_init 129 = .ok (.newarray .boolean, 2) := by decide +kernel
theorem dX11_init_131 : decode cX11_init 131 = .ok (.putfield 57, 3) := by decide +kernel
theorem dX11_init_134 : decode cX11_init 134 = .ok (.aload_n 0, 1) := by decide +kernel
theorem dX11_init_135 : decode cX11_init 135 = .ok (.bipush 48, 2) := by decide +kernel
theorem dX11_init_137 : decode cX11_init 137 = .ok (.newarray .int, 2) := by decide +kernel
theorem dX11_init_139 : decode cX11_init 139 = .ok (.putfield 61, 3) := by decide +kernel
theorem dX11_init_142 : decode cX11_init 142 = .ok (.aload_n 0, 1) := by decide +kernel
theorem dX11_init_143 : decode cX11_init 143 = .ok (.bipush 48, 2) := by decide +kernel
theorem dX11_init_145 : decode cX11_init 145 = .ok (.newarray .int, 2) := by decide +kernel
theorem dX11_init_147 : decode cX11_init 147 = .ok (.putfield 64, 3) := by decide +kernel
theorem dX11_init_150 : decode cX11_init 150 = .ok (.aload_n 0, 1) := by decide +kernel
theorem dX11_init_151 : decode cX11_init 151 = .ok (.bipush 6, 2) := by decide +kernel
theorem dX11_init_153 : decode cX11_init 153 = .ok (.newarray .int, 2) := by decide +kernel
theorem dX11_init_155 : decode cX11_init 155 = .ok (.putfield 67, 3) := by decide +kernel
theorem dX11_init_158 : decode cX11_init 158 = .ok (.aload_n 0, 1) := by decide +kernel
theorem dX11_init_159 : decode cX11_init 159 = .ok (.bipush 48, 2) := by decide +kernel
theorem dX11_init_161 : decode cX11_init 161 = .ok (.newarray .int, 2) := by decide +kernel
theorem dX11_init_163 : decode cX11_init 163 = .ok (.putfield 70, 3) := by decide +kernel
theorem dX11_init_166 : decode cX11_init 166 = .ok (.aload_n 0, 1) := by decide +kernel
theorem dX11_init_167 : decode cX11_init 167 = .ok (.bipush 48, 2) := by decide +kernel
theorem dX11_init_169 : decode cX11_init 169 = .ok (.newarray .int, 2) := by decide +kernel
theorem dX11_init_171 : decode cX11_init 171 = .ok (.putfield 73, 3) := by decide +kernel
theorem dX11_init_174 : decode cX11_init 174 = .ok (.aload_n 0, 1) := by decide +kernel
theorem dX11_init_175 : decode cX11_init 175 = .ok (.bipush 48, 2) := by decide +kernel
theorem dX11_init_177 : decode cX11_init 177 = .ok (.newarray .int, 2) := by decide +kernel
theorem dX11_init_179 : decode cX11_init 179 = .ok (.putfield 76, 3) := by decide +kernel
theorem dX11_init_182 : decode cX11_init 182 = .ok (.aload_n 0, 1) := by decide +kernel
theorem dX11_init_183 : decode cX11_init 183 = .ok (.bipush 48, 2) := by decide +kernel
theorem dX11_init_185 : decode cX11_init 185 = .ok (.newarray .boolean, 2) := by decide +kernel
theorem dX11_init_187 : decode cX11_init 187 = .ok (.putfield 79, 3) := by decide +kernel
theorem dX11_init_190 : decode cX11_init 190 = .ok (.aload_n 0, 1) := by decide +kernel
theorem dX11_init_191 : decode cX11_init 191 = .ok (.bipush 48, 2) := by decide +kernel
theorem dX11_init_193 : decode cX11_init 193 = .ok (.newarray .int, 2) := by decide +kernel
theorem dX11_init_195 : decode cX11_init 195 = .ok (.putfield 82, 3) := by decide +kernel
theorem dX11_init_198 : decode cX11_init 198 = .ok (.aload_n 0, 1) := by decide +kernel
theorem dX11_init_199 : decode cX11_init 199 = .ok (.bipush 48, 2) := by decide +kernel
theorem dX11_init_201 : decode cX11_init 201 = .ok (.newarray .int, 2) := by decide +kernel
theorem dX11_init_203 : decode cX11_init 203 = .ok (.putfield 85, 3) := by decide +kernel
theorem dX11_init_206 : decode cX11_init 206 = .ok (.aload_n 0, 1) := by decide +kernel
theorem dX11_init_207 : decode cX11_init 207 = .ok (.sipush 300, 3) := by decide +kernel
theorem dX11_init_210 : decode cX11_init 210 = .ok (.newarray .int, 2) := by decide +kernel
theorem dX11_init_212 : decode cX11_init 212 = .ok (.putfield 88, 3) := by decide +kernel
theorem dX11_init_215 : decode cX11_init 215 = .ok (.aload_n 0, 1) := by decide +kernel
theorem dX11_init_216 : decode cX11_init 216 = .ok (.sipush 300, 3) := by decide +kernel
theorem dX11_init_219 : decode cX11_init 219 = .ok (.newarray .int, 2) := by decide +kernel
theorem dX11_init_221 : decode cX11_init 221 = .ok (.putfield 91, 3) := by decide +kernel
theorem dX11_init_224 : decode cX11_init 224 = .ok (.aload_n 0, 1) := by decide +kernel
theorem dX11_init_225 : decode cX11_init 225 = .ok (.sipush 300, 3) := by decide +kernel
theorem dX11_init_228 : decode cX11_init 228 = .ok (.newarray .int, 2) := by decide +kernel
theorem dX11_init_230 : decode cX11_init 230 = .ok (.putfield 94, 3) := by decide +kernel
theorem dX11_init_233 : decode cX11_init 233 = .ok (.aload_n 0, 1) := by decide +kernel
theorem dX11_init_234 : decode cX11_init 234 = .ok (.sipush 300, 3) := by decide +kernel
theorem dX11_init_237 : decode cX11_init 237 = .ok (.newarray .int, 2) := by decide +kernel
theorem dX11_init_239 : decode cX11_init 239 = .ok (.putfield 97, 3) := by decide +kernel
theorem dX11_init_242 : decode cX11_init 242 = .ok (.aload_n 0, 1) := by decide +kernel
theorem dX11_init_243 : decode cX11_init 243 = .ok (.sipush 2400, 3) := by decide +kernel
theorem dX11_init_246 : decode cX11_init 246 = .ok (.newarray .int, 2) := by decide +kernel
theorem dX11_init_248 : decode cX11_init 248 = .ok (.putfield 100, 3) := by decide +kernel
theorem dX11_init_251 : decode cX11_init 251 = .ok (.aload_n 0, 1) := by decide +kernel
theorem dX11_init_252 : decode cX11_init 252 = .ok (.sipush 300, 3) := by decide +kernel
theorem dX11_init_255 : decode cX11_init 255 = .ok (.newarray .boolean, 2) := by decide +kernel
theorem dX11_init_257 : decode cX11_init 257 = .ok (.putfield 103, 3) := by decide +kernel
theorem dX11_init_260 : decode cX11_init 260 = .ok (.iconst 0, 1) := by decide +kernel
theorem dX11_init_261 : decode cX11_init 261 = .ok (.istore_n 1, 1) := by decide +kernel
theorem dX11_init_262 : decode cX11_init 262 = .ok (.iload_n 1, 1) := by decide +kernel
theorem dX11_init_263 : decode cX11_init 263 = .ok (.bipush 7, 2) := by decide +kernel
theorem dX11_init_265 : decode cX11_init 265 = .ok (.if_icmp .ge 18, 3) := by decide +kernel
theorem dX11_init_268 : decode cX11_init 268 = .ok (.aload_n 0, 1) := by decide +kernel
theorem dX11_init_269 : decode cX11_init 269 = .ok (.getfield 13, 3) := by decide +kernel
theorem dX11_init_272 : decode cX11_init 272 = .ok (.iload_n 1, 1) := by decide +kernel
theorem dX11_init_273 : decode cX11_init 273 = .ok (.sipush 1000, 3) := by decide +kernel
theorem dX11_init_276 : decode cX11_init 276 = .ok (.iastore, 1) := by decide +kernel
theorem dX11_init_277 : decode cX11_init 277 = .ok (.iinc 1 1, 3) := by decide +kernel
theorem dX11_init_280 : decode cX11_init 280 = .ok (.goto (-18), 3) := by decide +kernel
theorem dX11_init_283 : decode cX11_init 283 = .ok (.iconst 0, 1) := by decide +kernel
theorem dX11_init_284 : decode cX11_init 284 = .ok (.istore_n 1, 1) := by decide +kernel
theorem dX11_init_285 : decode cX11_init 285 = .ok (.iload_n 1, 1) := by decide +kernel
theorem dX11_init_286 : decode cX11_init 286 = .ok (.bipush 48, 2) := by decide +kernel
theorem dX11_init_288 : decode cX11_init 288 = .ok (.if_icmp .ge 23, 3) := by decide +kernel
theorem dX11_init_291 : decode cX11_init 291 = .ok (.aload_n 0, 1) := by decide +kernel
theorem dX11_init_292 : decode cX11_init 292 = .ok (.getfield 64, 3) := by decide +kernel
theorem dX11_init_295 : decode cX11_init 295 = .ok (.iload_n 1, 1) := by decide +kernel
theorem dX11_init_296 : decode cX11_init 296 = .ok (.iconst 1, 1) := by decide +kernel
theorem dX11_init_297 : decode cX11_init 297 = .ok (.iastore, 1) := by decide +kernel
theorem dX11_init_298 : decode cX11_init 298 = .ok (.aload_n 0, 1) := by decide +kernel
theorem dX11_init_299 : decode cX11_init 299 = .ok (.getfield 45, 3) := by decide +kernel
theorem dX11_init_302 : decode cX11_init 302 = .ok (.iload_n 1, 1) := by decide +kernel
theorem dX11_init_303 : decode cX11_init 303 = .ok (.iconst (-1), 1) := by decide +kernel
theorem dX11_init_304 : decode cX11_init 304 = .ok (.iastore, 1) := by decide +kernel
theorem dX11_init_305 : decode cX11_init 305 = .ok (.iinc 1 1, 3) := by decide +kernel
theorem dX11_init_308 : decode cX11_init 308 = .ok (.goto (-23), 3) := by decide +kernel
theorem dX11_init_311 : decode cX11_init 311 = .ok (.return_, 1) := by decide +kernel
theorem dX11_thrown_0 : decode cX11_thrown 0 = .ok (.aload_n 0, 1) := by decide +kernel
theorem dX11_thrown_1 : decode cX11_thrown 1 = .ok (.getfield 106, 3) := by decide +kernel
theorem dX11_thrown_4 : decode cX11_thrown 4 = .ok (.ireturn, 1) := by decide +kernel
theorem dX11_refused_0 : decode cX11_refused 0 = .ok (.aload_n 0, 1) := by decide +kernel
theorem dX11_refused_1 : decode cX11_refused 1 = .ok (.iload_n 1, 1) := by decide +kernel
theorem dX11_refused_2 : decode cX11_refused 2 = .ok (.putfield 106, 3) := by decide +kernel
theorem dX11_refused_5 : decode cX11_refused 5 = .ok (.iload_n 1, 1) := by decide +kernel
theorem dX11_refused_6 : decode cX11_refused 6 = .ok (.ifCond .le 7, 3) := by decide +kernel
theorem dX11_refused_9 : decode cX11_refused 9 = .ok (.iconst 1, 1) := by decide +kernel
theorem dX11_refused_10 : decode cX11_refused 10 = .ok (.goto 4, 3) := by decide +kernel
theorem dX11_refused_13 : decode cX11_refused 13 = .ok (.iconst 0, 1) := by decide +kernel
theorem dX11_refused_14 : decode cX11_refused 14 = .ok (.ireturn, 1) := by decide +kernel
theorem dX11_isIn_0 : decode cX11_isIn 0 = .ok (.iload_n 0, 1) := by decide +kernel
theorem dX11_isIn_1 : decode cX11_isIn 1 = .ok (.iload_n 1, 1) := by decide +kernel
theorem dX11_isIn_2 : decode cX11_isIn 2 = .ok (.if_icmp .lt 12, 3) := by decide +kernel
theorem dX11_isIn_5 : decode cX11_isIn 5 = .ok (.iload_n 0, 1) := by decide +kernel
theorem dX11_isIn_6 : decode cX11_isIn 6 = .ok (.iload_n 2, 1) := by decide +kernel
theorem dX11_isIn_7 : decode cX11_isIn 7 = .ok (.if_icmp .gt 7, 3) := by decide +kernel
theorem dX11_isIn_10 : decode cX11_isIn 10 = .ok (.iconst 1, 1) := by decide +kernel
theorem dX11_isIn_11 : decode cX11_isIn 11 = .ok (.goto 4, 3) := by decide +kernel
theorem dX11_isIn_14 : decode cX11_isIn 14 = .ok (.iconst 0, 1) := by decide +kernel
theorem dX11_isIn_15 : decode cX11_isIn 15 = .ok (.ireturn, 1) := by decide +kernel
theorem dX11_clockOf_0 : decode cX11_clockOf 0 = .ok (.aload_n 0, 1) := by decide +kernel
theorem dX11_clockOf_1 : decode cX11_clockOf 1 = .ok (.getfield 7, 3) := by decide +kernel
theorem dX11_clockOf_4 : decode cX11_clockOf 4 = .ok (.iload_n 1, 1) := by decide +kernel
theorem dX11_clockOf_5 : decode cX11_clockOf 5 = .ok (.laload, 1) := by decide +kernel
theorem dX11_clockOf_6 : decode cX11_clockOf 6 = .ok (.ldc2_w 109, 3) := by decide +kernel
theorem dX11_clockOf_9 : decode cX11_clockOf 9 = .ok (.ldiv, 1) := by decide +kernel
theorem dX11_clockOf_10 : decode cX11_clockOf 10 = .ok (.l2i, 1) := by decide +kernel
theorem dX11_clockOf_11 : decode cX11_clockOf 11 = .ok (.ireturn, 1) := by decide +kernel
theorem dX11_lent_0 : decode cX11_lent 0 = .ok (.iconst 0, 1) := by decide +kernel
theorem dX11_lent_1 : decode cX11_lent 1 = .ok (.istore_n 2, 1) := by decide +kernel
theorem dX11_lent_2 : decode cX11_lent 2 = .ok (.iconst 0, 1) := by decide +kernel
theorem dX11_lent_3 : decode cX11_lent 3 = .ok (.istore_n 3, 1) := by decide +kernel
theorem dX11_lent_4 : decode cX11_lent 4 = .ok (.iload_n 3, 1) := by decide +kernel
theorem dX11_lent_5 : decode cX11_lent 5 = .ok (.aload_n 0, 1) := by decide +kernel
theorem dX11_lent_6 : decode cX11_lent 6 = .ok (.getfield 111, 3) := by decide +kernel
theorem dX11_lent_9 : decode cX11_lent 9 = .ok (.if_icmp .ge 32, 3) := by decide +kernel
theorem dX11_lent_12 : decode cX11_lent 12 = .ok (.aload_n 0, 1) := by decide +kernel
theorem dX11_lent_13 : decode cX11_lent 13 = .ok (.getfield 29, 3) := by decide +kernel
theorem dX11_lent_16 : decode cX11_lent 16 = .ok (.iload_n 3, 1) := by decide +kernel
theorem dX11_lent_17 : decode cX11_lent 17 = .ok (.iaload, 1) := by decide +kernel
theorem dX11_lent_18 : decode cX11_lent 18 = .ok (.iload_n 1, 1) := by decide +kernel
theorem dX11_lent_19 : decode cX11_lent 19 = .ok (.if_icmp .ne 14, 3) := by decide +kernel
theorem dX11_lent_22 : decode cX11_lent 22 = .ok (.iload_n 2, 1) := by decide +kernel
theorem dX11_lent_23 : decode cX11_lent 23 = .ok (.aload_n 0, 1) := by decide +kernel
theorem dX11_lent_24 : decode cX11_lent 24 = .ok (.getfield 32, 3) := by decide +kernel
theorem dX11_lent_27 : decode cX11_lent 27 = .ok (.iload_n 3, 1) := by decide +kernel
theorem dX11_lent_28 : decode cX11_lent 28 = .ok (.iaload, 1) := by decide +kernel
theorem dX11_lent_29 : decode cX11_lent 29 = .ok (.iadd, 1) := by decide +kernel
theorem dX11_lent_30 : decode cX11_lent 30 = .ok (.goto 4, 3) := by decide +kernel
theorem dX11_lent_33 : decode cX11_lent 33 = .ok (.iload_n 2, 1) := by decide +kernel
theorem dX11_lent_34 : decode cX11_lent 34 = .ok (.istore_n 2, 1) := by decide +kernel
theorem dX11_lent_35 : decode cX11_lent 35 = .ok (.iinc 3 1, 3) := by decide +kernel
theorem dX11_lent_38 : decode cX11_lent 38 = .ok (.goto (-34), 3) := by decide +kernel
theorem dX11_lent_41 : decode cX11_lent 41 = .ok (.iload_n 2, 1) := by decide +kernel
theorem dX11_lent_42 : decode cX11_lent 42 = .ok (.ireturn, 1) := by decide +kernel
set_option maxRecDepth 20000 in
theorem ggX11_fill_X11_lent : GoodIn wsX11_fill wsX11_lent := goodIn_r _ [8, 9, 10, 11, 12, 13, 14, 15, 16, 17, 18, 19, 20, 21, 22, 23, 24, 25, 26, 27, 28, 29, 30, 31, 32, 33, 34, 35, 36, 37, 38, 39, 40, 41, 42, 43, 44, 45] (by decide +kernel) (by decide +kernel)
set_option maxRecDepth 20000 in
theorem gX11_fill_X11_lent : GoodIn wsX11_fill (wsV RX11 114 RX11 yX11_lent wsX11_lent) := goodIn_app (goodIn_of _ (by decide +kernel)) ggX11_fill_X11_lent
theorem dX11_fill_0 : decode cX11_fill 0 = .ok (.ldc2_w 109, 3) := by decide +kernel
theorem dX11_fill_3 : decode cX11_fill 3 = .ok (.aload_n 0, 1) := by decide +kernel
theorem dX11_fill_4 : decode cX11_fill 4 = .ok (.getfield 20, 3) := by decide +kernel
theorem dX11_fill_7 : decode cX11_fill 7 = .ok (.iload_n 1, 1) := by decide +kernel
theorem dX11_fill_8 : decode cX11_fill 8 = .ok (.iaload, 1) := by decide +kernel
theorem dX11_fill_9 : decode cX11_fill 9 = .ok (.aload_n 0, 1) := by decide +kernel
theorem dX11_fill_10 : decode cX11_fill 10 = .ok (.iload_n 1, 1) := by decide +kernel
theorem dX11_fill_11 : decode cX11_fill 11 = .ok (.invokevirtual 114, 3) := by decide +kernel
theorem dX11_fill_14 : decode cX11_fill 14 = .ok (.isub, 1) := by decide +kernel
theorem dX11_fill_15 : decode cX11_fill 15 = .ok (.i2l, 1) := by decide +kernel
theorem dX11_fill_16 : decode cX11_fill 16 = .ok (.lmul, 1) := by decide +kernel
theorem dX11_fill_17 : decode cX11_fill 17 = .ok (.lstore 4, 2) := by decide +kernel
theorem dX11_fill_19 : decode cX11_fill 19 = .ok (.lload_n 2, 1) := by decide +kernel
theorem dX11_fill_20 : decode cX11_fill 20 = .ok (.lload 4, 2) := by decide +kernel
theorem dX11_fill_22 : decode cX11_fill 22 = .ok (.lcmp, 1) := by decide +kernel
theorem dX11_fill_23 : decode cX11_fill 23 = .ok (.ifCond .ge 7, 3) := by decide +kernel
theorem dX11_fill_26 : decode cX11_fill 26 = .ok (.lload_n 2, 1) := by decide +kernel
theorem dX11_fill_27 : decode cX11_fill 27 = .ok (.goto 5, 3) := by decide +kernel
theorem dX11_fill_30 : decode cX11_fill 30 = .ok (.lload 4, 2) := by decide +kernel
theorem dX11_fill_32 : decode cX11_fill 32 = .ok (.lstore 6, 2) := by decide +kernel
theorem dX11_fill_34 : decode cX11_fill 34 = .ok (.aload_n 0, 1) := by decide +kernel
theorem dX11_fill_35 : decode cX11_fill 35 = .ok (.getfield 23, 3) := by decide +kernel
theorem dX11_fill_38 : decode cX11_fill 38 = .ok (.iload_n 1, 1) := by decide +kernel
theorem dX11_fill_39 : decode cX11_fill 39 = .ok (.lload 6, 2) := by decide +kernel
theorem dX11_fill_41 : decode cX11_fill 41 = .ok (.lconst 0, 1) := by decide +kernel
theorem dX11_fill_42 : decode cX11_fill 42 = .ok (.lcmp, 1) := by decide +kernel
theorem dX11_fill_43 : decode cX11_fill 43 = .ok (.ifCond .le 8, 3) := by decide +kernel
theorem dX11_fill_46 : decode cX11_fill 46 = .ok (.lload 6, 2) := by decide +kernel
theorem dX11_fill_48 : decode cX11_fill 48 = .ok (.goto 4, 3) := by decide +kernel
theorem dX11_fill_51 : decode cX11_fill 51 = .ok (.lconst 0, 1) := by decide +kernel
theorem dX11_fill_52 : decode cX11_fill 52 = .ok (.lastore, 1) := by decide +kernel
theorem dX11_fill_53 : decode cX11_fill 53 = .ok (.return_, 1) := by decide +kernel
set_option maxRecDepth 20000 in
theorem ggX11_key_X11_isIn : GoodIn wsX11_key wsX11_isIn := goodIn_r _ [9] (by decide +kernel) (by decide +kernel)
set_option maxRecDepth 20000 in
theorem gX11_key_X11_isIn : GoodIn wsX11_key (va_wsS RX11 118 yX11_isIn wsX11_isIn) := goodIn_app (goodIn_of _ (by decide +kernel)) ggX11_key_X11_isIn
set_option maxRecDepth 20000 in
theorem ggX11_key_X11_refused : GoodIn wsX11_key wsX11_refused := goodIn_r _ [13, 14, 27, 28, 29, 30, 31, 32, 33, 34, 35, 36, 37, 38, 39, 40, 41, 42, 43, 44, 45, 46, 47, 48, 49, 50, 51, 52, 53, 54, 55, 56, 57, 58, 59, 60] (by decide +kernel) (by decide +kernel)
set_option maxRecDepth 20000 in
theorem gX11_key_X11_refused : GoodIn wsX11_key (wsV RX11 124 RX11 yX11_refused wsX11_refused) := goodIn_app (goodIn_of _ (by decide +kernel)) ggX11_key_X11_refused
set_option maxRecDepth 20000 in
theorem ggX11_key_X11_fill : GoodIn wsX11_key wsX11_fill := goodIn_r _ [18, 19, 4, 5, 20, 21, 22, 8, 23, 24, 25, 26, 27, 28, 29, 30, 31, 32, 33, 34, 35, 36, 37, 38, 39, 40, 41, 42, 43, 44, 45, 46, 47, 48, 49, 50, 51, 52, 53, 54, 55, 56, 57, 58, 59, 60] (by decide +kernel) (by decide +kernel)
set_option maxRecDepth 20000 in
theorem gX11_key_X11_fill : GoodIn wsX11_key (wsV RX11 128 RX11 yX11_fill wsX11_fill) := goodIn_app (goodIn_of _ (by decide +kernel)) ggX11_key_X11_fill
theorem dX11_key_0 : decode cX11_key 0 = .ok (.aload_n 0, 1) := by decide +kernel
theorem dX11_key_1 : decode cX11_key 1 = .ok (.iload_n 1, 1) := by decide +kernel
theorem dX11_key_2 : decode cX11_key 2 = .ok (.iconst 0, 1) := by decide +kernel
theorem dX11_key_3 : decode cX11_key 3 = .ok (.bipush 7, 2) := by decide +kernel
theorem dX11_key_5 : decode cX11_key 5 = .ok (.invokestatic 118, 3) := by decide +kernel
theorem dX11_key_8 : decode cX11_key 8 = .ok (.ifCond .eq 27, 3) := by decide +kernel
theorem dX11_key_11 : decode cX11_key 11 = .ok (.iload_n 2, 1) := by decide +kernel
theorem dX11_key_12 : decode cX11_key 12 = .ok (.iconst 0, 1) := by decide +kernel
theorem dX11_key_13 : decode cX11_key 13 = .ok (.ldc 122, 2) := by decide +kernel
theorem dX11_key_15 : decode cX11_key 15 = .ok (.invokestatic 118, 3) := by decide +kernel
theorem dX11_key_18 : decode cX11_key 18 = .ok (.ifCond .eq 17, 3) := by decide +kernel
theorem dX11_key_21 : decode cX11_key 21 = .ok (.iload_n 3, 1) := by decide +kernel
theorem dX11_key_22 : decode cX11_key 22 = .ok (.iconst 0, 1) := by decide +kernel
theorem dX11_key_23 : decode cX11_key 23 = .ok (.ldc 123, 2) := by decide +kernel
theorem dX11_key_25 : decode cX11_key 25 = .ok (.invokestatic 118, 3) := by decide +kernel
theorem dX11_key_28 : decode cX11_key 28 = .ok (.ifCond .eq 7, 3) := by decide +kernel
theorem dX11_key_31 : decode cX11_key 31 = .ok (.iconst 0, 1) := by decide +kernel
theorem dX11_key_32 : decode cX11_key 32 = .ok (.goto 4, 3) := by decide +kernel
theorem dX11_key_35 : decode cX11_key 35 = .ok (.iconst 1, 1) := by decide +kernel
theorem dX11_key_36 : decode cX11_key 36 = .ok (.invokevirtual 124, 3) := by decide +kernel
theorem dX11_key_39 : decode cX11_key 39 = .ok (.ifCond .eq 4, 3) := by decide +kernel
theorem dX11_key_42 : decode cX11_key 42 = .ok (.return_, 1) := by decide +kernel
theorem dX11_key_43 : decode cX11_key 43 = .ok (.aload_n 0, 1) := by decide +kernel
theorem dX11_key_44 : decode cX11_key 44 = .ok (.getfield 17, 3) := by decide +kernel
theorem dX11_key_47 : decode cX11_key 47 = .ok (.iload_n 1, 1) := by decide +kernel
theorem dX11_key_48 : decode cX11_key 48 = .ok (.iload_n 2, 1) := by decide +kernel
theorem dX11_key_49 : decode cX11_key 49 = .ok (.iastore, 1) := by decide +kernel
theorem dX11_key_50 : decode cX11_key 50 = .ok (.aload_n 0, 1) := by decide +kernel
theorem dX11_key_51 : decode cX11_key 51 = .ok (.getfield 20, 3) := by decide +kernel
theorem dX11_key_54 : decode cX11_key 54 = .ok (.iload_n 1, 1) := by decide +kernel
theorem dX11_key_55 : decode cX11_key 55 = .ok (.iload_n 3, 1) := by decide +kernel
theorem dX11_key_56 : decode cX11_key 56 = .ok (.iastore, 1) := by decide +kernel
theorem dX11_key_57 : decode cX11_key 57 = .ok (.aload_n 0, 1) := by decide +kernel
theorem dX11_key_58 : decode cX11_key 58 = .ok (.iload_n 1, 1) := by decide +kernel
theorem dX11_key_59 : decode cX11_key 59 = .ok (.aload_n 0, 1) := by decide +kernel
theorem dX11_key_60 : decode cX11_key 60 = .ok (.getfield 23, 3) := by decide +kernel
theorem dX11_key_63 : decode cX11_key 63 = .ok (.iload_n 1, 1) := by decide +kernel
theorem dX11_key_64 : decode cX11_key 64 = .ok (.laload, 1) := by decide +kernel
theorem dX11_key_65 : decode cX11_key 65 = .ok (.invokevirtual 128, 3) := by decide +kernel
theorem dX11_key_68 : decode cX11_key 68 = .ok (.return_, 1) := by decide +kernel
set_option maxRecDepth 20000 in
theorem ggX11_length_X11_isIn : GoodIn wsX11_length wsX11_isIn := goodIn_r _ [5] (by decide +kernel) (by decide +kernel)
set_option maxRecDepth 20000 in
theorem gX11_length_X11_isIn : GoodIn wsX11_length (va_wsS RX11 118 yX11_isIn wsX11_isIn) := goodIn_app (goodIn_of _ (by decide +kernel)) ggX11_length_X11_isIn
set_option maxRecDepth 20000 in
theorem ggX11_length_X11_refused : GoodIn wsX11_length wsX11_refused := goodIn_r _ [9, 10, 11, 12, 13, 14, 15, 16, 17, 18, 19, 20, 21, 22, 23, 24, 25, 26, 27, 28, 29, 30, 31, 32, 33, 34, 35, 36, 37, 38, 39, 40, 41, 42, 43, 44] (by decide +kernel) (by decide +kernel)
set_option maxRecDepth 20000 in
theorem gX11_length_X11_refused : GoodIn wsX11_length (wsV RX11 124 RX11 yX11_refused wsX11_refused) := goodIn_app (goodIn_of _ (by decide +kernel)) ggX11_length_X11_refused
theorem dX11_length_0 : decode cX11_length 0 = .ok (.aload_n 0, 1) := by decide +kernel
theorem dX11_length_1 : decode cX11_length 1 = .ok (.iload_n 1, 1) := by decide +kernel
theorem dX11_length_2 : decode cX11_length 2 = .ok (.bipush 10, 2) := by decide +kernel
theorem dX11_length_4 : decode cX11_length 4 = .ok (.sipush 9000, 3) := by decide +kernel
theorem dX11_length_7 : decode cX11_length 7 = .ok (.invokestatic 118, 3) := by decide +kernel
theorem dX11_length_10 : decode cX11_length 10 = .ok (.ifCond .eq 7, 3) := by decide +kernel
theorem dX11_length_13 : decode cX11_length 13 = .ok (.iconst 0, 1) := by decide +kernel
theorem dX11_length_14 : decode cX11_length 14 = .ok (.goto 4, 3) := by decide +kernel
theorem dX11_length_17 : decode cX11_length 17 = .ok (.iconst 1, 1) := by decide +kernel
theorem dX11_length_18 : decode cX11_length 18 = .ok (.invokevirtual 124, 3) := by decide +kernel
theorem dX11_length_21 : decode cX11_length 21 = .ok (.ifCond .eq 4, 3) := by decide +kernel
theorem dX11_length_24 : decode cX11_length 24 = .ok (.return_, 1) := by decide +kernel
theorem dX11_length_25 : decode cX11_length 25 = .ok (.aload_n 0, 1) := by decide +kernel
theorem dX11_length_26 : decode cX11_length 26 = .ok (.iload_n 1, 1) := by decide +kernel
theorem dX11_length_27 : decode cX11_length 27 = .ok (.putfield 38, 3) := by decide +kernel
theorem dX11_length_30 : decode cX11_length 30 = .ok (.return_, 1) := by decide +kernel
set_option maxRecDepth 20000 in
theorem ggX11_weight_X11_isIn : GoodIn wsX11_weight wsX11_isIn := goodIn_r _ [5] (by decide +kernel) (by decide +kernel)
set_option maxRecDepth 20000 in
theorem gX11_weight_X11_isIn : GoodIn wsX11_weight (va_wsS RX11 118 yX11_isIn wsX11_isIn) := goodIn_app (goodIn_of _ (by decide +kernel)) ggX11_weight_X11_isIn
set_option maxRecDepth 20000 in
theorem ggX11_weight_X11_refused : GoodIn wsX11_weight wsX11_refused := goodIn_r _ [9, 10, 11, 12, 13, 14, 15, 16, 17, 18, 19, 20, 21, 22, 23, 24, 25, 26, 27, 28, 29, 30, 31, 32, 33, 34, 35, 36, 37, 38, 39, 40, 41, 42, 43, 44] (by decide +kernel) (by decide +kernel)
set_option maxRecDepth 20000 in
theorem gX11_weight_X11_refused : GoodIn wsX11_weight (wsV RX11 124 RX11 yX11_refused wsX11_refused) := goodIn_app (goodIn_of _ (by decide +kernel)) ggX11_weight_X11_refused
theorem dX11_weight_0 : decode cX11_weight 0 = .ok (.aload_n 0, 1) := by decide +kernel
theorem dX11_weight_1 : decode cX11_weight 1 = .ok (.iload_n 1, 1) := by decide +kernel
theorem dX11_weight_2 : decode cX11_weight 2 = .ok (.iconst 0, 1) := by decide +kernel
theorem dX11_weight_3 : decode cX11_weight 3 = .ok (.iconst 5, 1) := by decide +kernel
theorem dX11_weight_4 : decode cX11_weight 4 = .ok (.invokestatic 118, 3) := by decide +kernel
theorem dX11_weight_7 : decode cX11_weight 7 = .ok (.ifCond .eq 27, 3) := by decide +kernel
theorem dX11_weight_10 : decode cX11_weight 10 = .ok (.iload_n 2, 1) := by decide +kernel
theorem dX11_weight_11 : decode cX11_weight 11 = .ok (.iconst 0, 1) := by decide +kernel
theorem dX11_weight_12 : decode cX11_weight 12 = .ok (.bipush 7, 2) := by decide +kernel
theorem dX11_weight_14 : decode cX11_weight 14 = .ok (.invokestatic 118, 3) := by decide +kernel
theorem dX11_weight_17 : decode cX11_weight 17 = .ok (.ifCond .eq 17, 3) := by decide +kernel
theorem dX11_weight_20 : decode cX11_weight 20 = .ok (.iload_n 3, 1) := by decide +kernel
theorem dX11_weight_21 : decode cX11_weight 21 = .ok (.iconst 1, 1) := by decide +kernel
theorem dX11_weight_22 : decode cX11_weight 22 = .ok (.bipush 100, 2) := by decide +kernel
theorem dX11_weight_24 : decode cX11_weight 24 = .ok (.invokestatic 118, 3) := by decide +kernel
theorem dX11_weight_27 : decode cX11_weight 27 = .ok (.ifCond .eq 7, 3) := by decide +kernel
theorem dX11_weight_30 : decode cX11_weight 30 = .ok (.iconst 0, 1) := by decide +kernel
theorem dX11_weight_31 : decode cX11_weight 31 = .ok (.goto 4, 3) := by decide +kernel
theorem dX11_weight_34 : decode cX11_weight 34 = .ok (.iconst 1, 1) := by decide +kernel
theorem dX11_weight_35 : decode cX11_weight 35 = .ok (.invokevirtual 124, 3) := by decide +kernel
theorem dX11_weight_38 : decode cX11_weight 38 = .ok (.ifCond .eq 4, 3) := by decide +kernel
theorem dX11_weight_41 : decode cX11_weight 41 = .ok (.return_, 1) := by decide +kernel
theorem dX11_weight_42 : decode cX11_weight 42 = .ok (.aload_n 0, 1) := by decide +kernel
theorem dX11_weight_43 : decode cX11_weight 43 = .ok (.getfield 64, 3) := by decide +kernel
theorem dX11_weight_46 : decode cX11_weight 46 = .ok (.bipush 8, 2) := by decide +kernel
theorem dX11_weight_48 : decode cX11_weight 48 = .ok (.iload_n 1, 1) := by decide +kernel
theorem dX11_weight_49 : decode cX11_weight 49 = .ok (.imul, 1) := by decide +kernel
theorem dX11_weight_50 : decode cX11_weight 50 = .ok (.iload_n 2, 1) := by decide +kernel
theorem dX11_weight_51 : decode cX11_weight 51 = .ok (.iadd, 1) := by decide +kernel
theorem dX11_weight_52 : decode cX11_weight 52 = .ok (.iload_n 3, 1) := by decide +kernel
theorem dX11_weight_53 : decode cX11_weight 53 = .ok (.iastore, 1) := by decide +kernel
theorem dX11_weight_54 : decode cX11_weight 54 = .ok (.return_, 1) := by decide +kernel
set_option maxRecDepth 20000 in
theorem ggX11_speed_X11_isIn : GoodIn wsX11_speed wsX11_isIn := goodIn_r _ [5] (by decide +kernel) (by decide +kernel)
set_option maxRecDepth 20000 in
theorem gX11_speed_X11_isIn : GoodIn wsX11_speed (va_wsS RX11 118 yX11_isIn wsX11_isIn) := goodIn_app (goodIn_of _ (by decide +kernel)) ggX11_speed_X11_isIn
set_option maxRecDepth 20000 in
theorem ggX11_speed_X11_refused : GoodIn wsX11_speed wsX11_refused := goodIn_r _ [9, 10, 11, 12, 13, 14, 15, 16, 17, 18, 19, 20, 21, 22, 23, 24, 25, 26, 27, 28, 29, 30, 31, 32, 33, 34, 35, 36, 37, 38, 39, 40, 41, 42, 43, 44] (by decide +kernel) (by decide +kernel)
set_option maxRecDepth 20000 in
theorem gX11_speed_X11_refused : GoodIn wsX11_speed (wsV RX11 124 RX11 yX11_refused wsX11_refused) := goodIn_app (goodIn_of _ (by decide +kernel)) ggX11_speed_X11_refused
theorem dX11_speed_0 : decode cX11_speed 0 = .ok (.aload_n 0, 1) := by decide +kernel
theorem dX11_speed_1 : decode cX11_speed 1 = .ok (.iload_n 1, 1) := by decide +kernel
theorem dX11_speed_2 : decode cX11_speed 2 = .ok (.iconst (-1), 1) := by decide +kernel
theorem dX11_speed_3 : decode cX11_speed 3 = .ok (.iconst 5, 1) := by decide +kernel
theorem dX11_speed_4 : decode cX11_speed 4 = .ok (.invokestatic 118, 3) := by decide +kernel
theorem dX11_speed_7 : decode cX11_speed 7 = .ok (.ifCond .eq 20, 3) := by decide +kernel
theorem dX11_speed_10 : decode cX11_speed 10 = .ok (.iload_n 2, 1) := by decide +kernel
theorem dX11_speed_11 : decode cX11_speed 11 = .ok (.sipush 999, 3) := by decide +kernel
theorem dX11_speed_14 : decode cX11_speed 14 = .ok (.sipush 1001, 3) := by decide +kernel
theorem dX11_speed_17 : decode cX11_speed 17 = .ok (.invokestatic 118, 3) := by decide +kernel
theorem dX11_speed_20 : decode cX11_speed 20 = .ok (.ifCond .eq 7, 3) := by decide +kernel
theorem dX11_speed_23 : decode cX11_speed 23 = .ok (.iconst 0, 1) := by decide +kernel
theorem dX11_speed_24 : decode cX11_speed 24 = .ok (.goto 4, 3) := by decide +kernel
theorem dX11_speed_27 : decode cX11_speed 27 = .ok (.iconst 1, 1) := by decide +kernel
theorem dX11_speed_28 : decode cX11_speed 28 = .ok (.invokevirtual 124, 3) := by decide +kernel
theorem dX11_speed_31 : decode cX11_speed 31 = .ok (.ifCond .eq 4, 3) := by decide +kernel
theorem dX11_speed_34 : decode cX11_speed 34 = .ok (.return_, 1) := by decide +kernel
theorem dX11_speed_35 : decode cX11_speed 35 = .ok (.aload_n 0, 1) := by decide +kernel
theorem dX11_speed_36 : decode cX11_speed 36 = .ok (.getfield 13, 3) := by decide +kernel
theorem dX11_speed_39 : decode cX11_speed 39 = .ok (.iload_n 1, 1) := by decide +kernel
theorem dX11_speed_40 : decode cX11_speed 40 = .ok (.ifCond .ge 8, 3) := by decide +kernel
theorem dX11_speed_43 : decode cX11_speed 43 = .ok (.bipush 6, 2) := by decide +kernel
theorem dX11_speed_45 : decode cX11_speed 45 = .ok (.goto 4, 3) := by decide +kernel
theorem dX11_speed_48 : decode cX11_speed 48 = .ok (.iload_n 1, 1) := by decide +kernel
theorem dX11_speed_49 : decode cX11_speed 49 = .ok (.iload_n 2, 1) := by decide +kernel
theorem dX11_speed_50 : decode cX11_speed 50 = .ok (.iastore, 1) := by decide +kernel
theorem dX11_speed_51 : decode cX11_speed 51 = .ok (.return_, 1) := by decide +kernel
theorem dX11_nextEnd_0 : decode cX11_nextEnd 0 = .ok (.iconst (-1), 1) := by decide +kernel
theorem dX11_nextEnd_1 : decode cX11_nextEnd 1 = .ok (.istore_n 2, 1) := by decide +kernel
theorem dX11_nextEnd_2 : decode cX11_nextEnd 2 = .ok (.iconst 0, 1) := by decide +kernel
theorem dX11_nextEnd_3 : decode cX11_nextEnd 3 = .ok (.istore_n 3, 1) := by decide +kernel
theorem dX11_nextEnd_4 : decode cX11_nextEnd 4 = .ok (.iload_n 3, 1) := by decide +kernel
theorem dX11_nextEnd_5 : decode cX11_nextEnd 5 = .ok (.aload_n 0, 1) := by decide +kernel
theorem dX11_nextEnd_6 : decode cX11_nextEnd 6 = .ok (.getfield 111, 3) := by decide +kernel
theorem dX11_nextEnd_9 : decode cX11_nextEnd 9 = .ok (.if_icmp .ge 49, 3) := by decide +kernel
theorem dX11_nextEnd_12 : decode cX11_nextEnd 12 = .ok (.aload_n 0, 1) := by decide +kernel
theorem dX11_nextEnd_13 : decode cX11_nextEnd 13 = .ok (.getfield 32, 3) := by decide +kernel
theorem dX11_nextEnd_16 : decode cX11_nextEnd 16 = .ok (.iload_n 3, 1) := by decide +kernel
theorem dX11_nextEnd_17 : decode cX11_nextEnd 17 = .ok (.iaload, 1) := by decide +kernel
theorem dX11_nextEnd_18 : decode cX11_nextEnd 18 = .ok (.ifCond .le 34, 3) := by decide +kernel
theorem dX11_nextEnd_21 : decode cX11_nextEnd 21 = .ok (.aload_n 0, 1) := by decide +kernel
theorem dX11_nextEnd_22 : decode cX11_nextEnd 22 = .ok (.getfield 35, 3) := by decide +kernel
theorem dX11_nextEnd_25 : decode cX11_nextEnd 25 = .ok (.iload_n 3, 1) := by decide +kernel
theorem dX11_nextEnd_26 : decode cX11_nextEnd 26 = .ok (.iaload, 1) := by decide +kernel
theorem dX11_nextEnd_27 : decode cX11_nextEnd 27 = .ok (.iload_n 1, 1) := by decide +kernel
theorem dX11_nextEnd_28 : decode cX11_nextEnd 28 = .ok (.if_icmp .le 24, 3) := by decide +kernel
theorem dX11_nextEnd_31 : decode cX11_nextEnd 31 = .ok (.iload_n 2, 1) := by decide +kernel
theorem dX11_nextEnd_32 : decode cX11_nextEnd 32 = .ok (.ifCond .lt 13, 3) := by decide +kernel
theorem dX11_nextEnd_35 : decode cX11_nextEnd 35 = .ok (.aload_n 0, 1) := by decide +kernel
theorem dX11_nextEnd_36 : decode cX11_nextEnd 36 = .ok (.getfield 35, 3) := by decide +kernel
theorem dX11_nextEnd_39 : decode cX11_nextEnd 39 = .ok (.iload_n 3, 1) := by decide +kernel
theorem dX11_nextEnd_40 : decode cX11_nextEnd 40 = .ok (.iaload, 1) := by decide +kernel
theorem dX11_nextEnd_41 : decode cX11_nextEnd 41 = .ok (.iload_n 2, 1) := by decide +kernel
theorem dX11_nextEnd_42 : decode cX11_nextEnd 42 = .ok (.if_icmp .ge 10, 3) := by decide +kernel
theorem dX11_nextEnd_45 : decode cX11_nextEnd 45 = .ok (.aload_n 0, 1) := by decide +kernel
theorem dX11_nextEnd_46 : decode cX11_nextEnd 46 = .ok (.getfield 35, 3) := by decide +kernel
theorem dX11_nextEnd_49 : decode cX11_nextEnd 49 = .ok (.iload_n 3, 1) := by decide +kernel
theorem dX11_nextEnd_50 : decode cX11_nextEnd 50 = .ok (.iaload, 1) := by decide +kernel
theorem dX11_nextEnd_51 : decode cX11_nextEnd 51 = .ok (.istore_n 2, 1) := by decide +kernel
theorem dX11_nextEnd_52 : decode cX11_nextEnd 52 = .ok (.iinc 3 1, 3) := by decide +kernel
theorem dX11_nextEnd_55 : decode cX11_nextEnd 55 = .ok (.goto (-51), 3) := by decide +kernel
theorem dX11_nextEnd_58 : decode cX11_nextEnd 58 = .ok (.iload_n 2, 1) := by decide +kernel
theorem dX11_nextEnd_59 : decode cX11_nextEnd 59 = .ok (.ireturn, 1) := by decide +kernel
set_option maxRecDepth 20000 in
theorem ggX11_fillAll_X11_fill : GoodIn wsX11_fillAll wsX11_fill := goodIn_r _ [7, 8, 9, 1, 10, 11, 12, 6, 13, 14, 15, 16, 17, 18, 19, 20, 21, 22, 23, 24, 25, 26, 27, 28, 29, 30, 31, 32, 33, 34, 35, 36, 37, 38, 39, 40, 41, 42, 43, 44, 45, 46, 47, 48, 49, 50] (by decide +kernel) (by decide +kernel)
set_option maxRecDepth 20000 in
theorem gX11_fillAll_X11_fill : GoodIn wsX11_fillAll (wsV RX11 128 RX11 yX11_fill wsX11_fill) := goodIn_app (goodIn_of _ (by decide +kernel)) ggX11_fillAll_X11_fill
theorem dX11_fillAll_0 : decode cX11_fillAll 0 = .ok (.iconst 0, 1) := by decide +kernel
theorem dX11_fillAll_1 : decode cX11_fillAll 1 = .ok (.istore_n 2, 1) := by decide +kernel
theorem dX11_fillAll_2 : decode cX11_fillAll 2 = .ok (.iload_n 2, 1) := by decide +kernel
theorem dX11_fillAll_3 : decode cX11_fillAll 3 = .ok (.bipush 8, 2) := by decide +kernel
theorem dX11_fillAll_5 : decode cX11_fillAll 5 = .ok (.if_icmp .ge 31, 3) := by decide +kernel
theorem dX11_fillAll_8 : decode cX11_fillAll 8 = .ok (.aload_n 0, 1) := by decide +kernel
theorem dX11_fillAll_9 : decode cX11_fillAll 9 = .ok (.iload_n 2, 1) := by decide +kernel
theorem dX11_fillAll_10 : decode cX11_fillAll 10 = .ok (.aload_n 0, 1) := by decide +kernel
theorem dX11_fillAll_11 : decode cX11_fillAll 11 = .ok (.getfield 23, 3) := by decide +kernel
theorem dX11_fillAll_14 : decode cX11_fillAll 14 = .ok (.iload_n 2, 1) := by decide +kernel
theorem dX11_fillAll_15 : decode cX11_fillAll 15 = .ok (.laload, 1) := by decide +kernel
theorem dX11_fillAll_16 : decode cX11_fillAll 16 = .ok (.iload_n 1, 1) := by decide +kernel
theorem dX11_fillAll_17 : decode cX11_fillAll 17 = .ok (.i2l, 1) := by decide +kernel
theorem dX11_fillAll_18 : decode cX11_fillAll 18 = .ok (.aload_n 0, 1) := by decide +kernel
theorem dX11_fillAll_19 : decode cX11_fillAll 19 = .ok (.getfield 17, 3) := by decide +kernel
theorem dX11_fillAll_22 : decode cX11_fillAll 22 = .ok (.iload_n 2, 1) := by decide +kernel
theorem dX11_fillAll_23 : decode cX11_fillAll 23 = .ok (.iaload, 1) := by decide +kernel
theorem dX11_fillAll_24 : decode cX11_fillAll 24 = .ok (.i2l, 1) := by decide +kernel
theorem dX11_fillAll_25 : decode cX11_fillAll 25 = .ok (.lmul, 1) := by decide +kernel
theorem dX11_fillAll_26 : decode cX11_fillAll 26 = .ok (.ladd, 1) := by decide +kernel
theorem dX11_fillAll_27 : decode cX11_fillAll 27 = .ok (.invokevirtual 128, 3) := by decide +kernel
theorem dX11_fillAll_30 : decode cX11_fillAll 30 = .ok (.iinc 2 1, 3) := by decide +kernel
theorem dX11_fillAll_33 : decode cX11_fillAll 33 = .ok (.goto (-31), 3) := by decide +kernel
theorem dX11_fillAll_36 : decode cX11_fillAll 36 = .ok (.return_, 1) := by decide +kernel
set_option maxRecDepth 20000 in
theorem ggX11_rootGoesOn_X11_nextEnd : GoodIn wsX11_rootGoesOn wsX11_nextEnd := goodIn_r _ [8, 1, 3, 2, 26, 27, 28, 29, 30, 31, 32, 33, 34, 35, 36, 37, 38, 39, 40, 41, 42, 43, 44, 45, 46, 47, 48, 49, 50, 51, 52, 53, 54, 55, 56, 57, 58, 59] (by decide +kernel) (by decide +kernel)
set_option maxRecDepth 20000 in
theorem gX11_rootGoesOn_X11_nextEnd : GoodIn wsX11_rootGoesOn (wsV RX11 132 RX11 yX11_nextEnd wsX11_nextEnd) := goodIn_app (goodIn_of _ (by decide +kernel)) ggX11_rootGoesOn_X11_nextEnd
set_option maxRecDepth 20000 in
theorem ggX11_rootGoesOn_X11_fillAll : GoodIn wsX11_rootGoesOn wsX11_fillAll := goodIn_r _ [12, 13, 14, 15, 16, 17, 7, 18, 19, 20, 21, 22, 23, 24, 1, 25, 3, 26, 27, 28, 29, 30, 31, 32, 33, 34, 35, 36, 37, 38, 39, 40, 41, 42, 43, 44, 45, 46, 47, 48, 49, 50, 51, 52, 53, 54, 55, 56, 57, 58, 59] (by decide +kernel) (by decide +kernel)
set_option maxRecDepth 20000 in
theorem gX11_rootGoesOn_X11_fillAll : GoodIn wsX11_rootGoesOn (wsV RX11 135 RX11 yX11_fillAll wsX11_fillAll) := goodIn_app (goodIn_of _ (by decide +kernel)) ggX11_rootGoesOn_X11_fillAll
theorem dX11_rootGoesOn_0 : decode cX11_rootGoesOn 0 = .ok (.iload_n 1, 1) := by decide +kernel
theorem dX11_rootGoesOn_1 : decode cX11_rootGoesOn 1 = .ok (.istore_n 3, 1) := by decide +kernel
theorem dX11_rootGoesOn_2 : decode cX11_rootGoesOn 2 = .ok (.iload_n 3, 1) := by decide +kernel
theorem dX11_rootGoesOn_3 : decode cX11_rootGoesOn 3 = .ok (.iload_n 2, 1) := by decide +kernel
theorem dX11_rootGoesOn_4 : decode cX11_rootGoesOn 4 = .ok (.if_icmp .ge 92, 3) := by decide +kernel
theorem dX11_rootGoesOn_7 : decode cX11_rootGoesOn 7 = .ok (.aload_n 0, 1) := by decide +kernel
theorem dX11_rootGoesOn_8 : decode cX11_rootGoesOn 8 = .ok (.iload_n 3, 1) := by decide +kernel
theorem dX11_rootGoesOn_9 : decode cX11_rootGoesOn 9 = .ok (.invokevirtual 132, 3) := by decide +kernel
theorem dX11_rootGoesOn_12 : decode cX11_rootGoesOn 12 = .ok (.istore 4, 2) := by decide +kernel
theorem dX11_rootGoesOn_14 : decode cX11_rootGoesOn 14 = .ok (.iload 4, 2) := by decide +kernel
theorem dX11_rootGoesOn_16 : decode cX11_rootGoesOn 16 = .ok (.ifCond .lt 9, 3) := by decide +kernel
theorem dX11_rootGoesOn_19 : decode cX11_rootGoesOn 19 = .ok (.iload 4, 2) := by decide +kernel
theorem dX11_rootGoesOn_21 : decode cX11_rootGoesOn 21 = .ok (.iload_n 2, 1) := by decide +kernel
theorem dX11_rootGoesOn_22 : decode cX11_rootGoesOn 22 = .ok (.if_icmp .le 15, 3) := by decide +kernel
theorem dX11_rootGoesOn_25 : decode cX11_rootGoesOn 25 = .ok (.aload_n 0, 1) := by decide +kernel
theorem dX11_rootGoesOn_26 : decode cX11_rootGoesOn 26 = .ok (.iload_n 2, 1) := by decide +kernel
theorem dX11_rootGoesOn_27 : decode cX11_rootGoesOn 27 = .ok (.iload_n 3, 1) := by decide +kernel
theorem dX11_rootGoesOn_28 : decode cX11_rootGoesOn 28 = .ok (.isub, 1) := by decide +kernel
theorem dX11_rootGoesOn_29 : decode cX11_rootGoesOn 29 = .ok (.invokevirtual 135, 3) := by decide +kernel
theorem dX11_rootGoesOn_32 : decode cX11_rootGoesOn 32 = .ok (.iload_n 2, 1) := by decide +kernel
theorem dX11_rootGoesOn_33 : decode cX11_rootGoesOn 33 = .ok (.istore_n 3, 1) := by decide +kernel
theorem dX11_rootGoesOn_34 : decode cX11_rootGoesOn 34 = .ok (.goto 59, 3) := by decide +kernel
theorem dX11_rootGoesOn_37 : decode cX11_rootGoesOn 37 = .ok (.aload_n 0, 1) := by decide +kernel
theorem dX11_rootGoesOn_38 : decode cX11_rootGoesOn 38 = .ok (.iload 4, 2) := by decide +kernel
theorem dX11_rootGoesOn_40 : decode cX11_rootGoesOn 40 = .ok (.iconst 1, 1) := by decide +kernel
theorem dX11_rootGoesOn_41 : decode cX11_rootGoesOn 41 = .ok (.isub, 1) := by decide +kernel
theorem dX11_rootGoesOn_42 : decode cX11_rootGoesOn 42 = .ok (.iload_n 3, 1) := by decide +kernel
theorem dX11_rootGoesOn_43 : decode cX11_rootGoesOn 43 = .ok (.isub, 1) := by decide +kernel
theorem dX11_rootGoesOn_44 : decode cX11_rootGoesOn 44 = .ok (.invokevirtual 135, 3) := by decide +kernel
theorem dX11_rootGoesOn_47 : decode cX11_rootGoesOn 47 = .ok (.iload 4, 2) := by decide +kernel
theorem dX11_rootGoesOn_49 : decode cX11_rootGoesOn 49 = .ok (.istore_n 3, 1) := by decide +kernel
theorem dX11_rootGoesOn_50 : decode cX11_rootGoesOn 50 = .ok (.iconst 0, 1) := by decide +kernel
theorem dX11_rootGoesOn_51 : decode cX11_rootGoesOn 51 = .ok (.istore 5, 2) := by decide +kernel
theorem dX11_rootGoesOn_53 : decode cX11_rootGoesOn 53 = .ok (.iload 5, 2) := by decide +kernel
theorem dX11_rootGoesOn_55 : decode cX11_rootGoesOn 55 = .ok (.aload_n 0, 1) := by decide +kernel
theorem dX11_rootGoesOn_56 : decode cX11_rootGoesOn 56 = .ok (.getfield 111, 3) := by decide +kernel
theorem dX11_rootGoesOn_59 : decode cX11_rootGoesOn 59 = .ok (.if_icmp .ge 29, 3) := by decide +kernel
theorem dX11_rootGoesOn_62 : decode cX11_rootGoesOn 62 = .ok (.aload_n 0, 1) := by decide +kernel
theorem dX11_rootGoesOn_63 : decode cX11_rootGoesOn 63 = .ok (.getfield 35, 3) := by decide +kernel
theorem dX11_rootGoesOn_66 : decode cX11_rootGoesOn 66 = .ok (.iload 5, 2) := by decide +kernel
theorem dX11_rootGoesOn_68 : decode cX11_rootGoesOn 68 = .ok (.iaload, 1) := by decide +kernel
theorem dX11_rootGoesOn_69 : decode cX11_rootGoesOn 69 = .ok (.iload 4, 2) := by decide +kernel
theorem dX11_rootGoesOn_71 : decode cX11_rootGoesOn 71 = .ok (.if_icmp .ne 11, 3) := by decide +kernel
theorem dX11_rootGoesOn_74 : decode cX11_rootGoesOn 74 = .ok (.aload_n 0, 1) := by decide +kernel
theorem dX11_rootGoesOn_75 : decode cX11_rootGoesOn 75 = .ok (.getfield 32, 3) := by decide +kernel
theorem dX11_rootGoesOn_78 : decode cX11_rootGoesOn 78 = .ok (.iload 5, 2) := by decide +kernel
theorem dX11_rootGoesOn_80 : decode cX11_rootGoesOn 80 = .ok (.iconst 0, 1) := by decide +kernel
theorem dX11_rootGoesOn_81 : decode cX11_rootGoesOn 81 = .ok (.iastore, 1) := by decide +kernel
theorem dX11_rootGoesOn_82 : decode cX11_rootGoesOn 82 = .ok (.iinc 5 1, 3) := by decide +kernel
theorem dX11_rootGoesOn_85 : decode cX11_rootGoesOn 85 = .ok (.goto (-32), 3) := by decide +kernel
theorem dX11_rootGoesOn_88 : decode cX11_rootGoesOn 88 = .ok (.aload_n 0, 1) := by decide +kernel
theorem dX11_rootGoesOn_89 : decode cX11_rootGoesOn 89 = .ok (.iconst 1, 1) := by decide +kernel
theorem dX11_rootGoesOn_90 : decode cX11_rootGoesOn 90 = .ok (.invokevirtual 135, 3) := by decide +kernel
theorem dX11_rootGoesOn_93 : decode cX11_rootGoesOn 93 = .ok (.goto (-91), 3) := by decide +kernel
theorem dX11_rootGoesOn_96 : decode cX11_rootGoesOn 96 = .ok (.return_, 1) := by decide +kernel
set_option maxRecDepth 20000 in
theorem ggX11_tick_X11_isIn : GoodIn wsX11_tick wsX11_isIn := goodIn_r _ [6] (by decide +kernel) (by decide +kernel)
set_option maxRecDepth 20000 in
theorem gX11_tick_X11_isIn : GoodIn wsX11_tick (va_wsS RX11 118 yX11_isIn wsX11_isIn) := goodIn_app (goodIn_of _ (by decide +kernel)) ggX11_tick_X11_isIn
set_option maxRecDepth 20000 in
theorem ggX11_tick_X11_refused : GoodIn wsX11_tick wsX11_refused := goodIn_r _ [10, 11, 44, 45, 46, 47, 48, 49, 50, 51, 52, 53, 54, 55, 56, 57, 58, 59, 60, 61, 62, 63, 64, 65, 66, 67, 68, 69, 70, 71, 72, 73, 74, 75, 76, 77] (by decide +kernel) (by decide +kernel)
set_option maxRecDepth 20000 in
theorem gX11_tick_X11_refused : GoodIn wsX11_tick (wsV RX11 124 RX11 yX11_refused wsX11_refused) := goodIn_app (goodIn_of _ (by decide +kernel)) ggX11_tick_X11_refused
set_option maxRecDepth 20000 in
theorem ggX11_tick_X11_clockOf : GoodIn wsX11_tick wsX11_clockOf := goodIn_r _ [15, 1, 16, 44, 45, 46, 47, 48, 49, 50, 51, 52, 53, 54, 55, 56, 57, 58, 59, 60, 61, 62, 63, 64, 65, 66, 67, 68, 69, 70, 71, 72, 73, 74, 75, 76, 77] (by decide +kernel) (by decide +kernel)
set_option maxRecDepth 20000 in
theorem gX11_tick_X11_clockOf : GoodIn wsX11_tick (wsV RX11 139 RX11 yX11_clockOf wsX11_clockOf) := goodIn_app (goodIn_of _ (by decide +kernel)) ggX11_tick_X11_clockOf
set_option maxRecDepth 20000 in
theorem ggX11_tick_X11_rootGoesOn : GoodIn wsX11_tick wsX11_rootGoesOn := goodIn_r _ [20, 21, 22, 23, 24, 25, 26, 5, 27, 28, 29, 30, 31, 32, 33, 34, 35, 36, 37, 16, 38, 39, 40, 41, 42, 43, 44, 45, 46, 47, 48, 49, 50, 51, 52, 53, 54, 55, 56, 57, 58, 59, 60, 61, 62, 63, 64, 65, 66, 67, 68, 69, 70, 71, 72, 73, 74, 75, 76, 77] (by decide +kernel) (by decide +kernel)
set_option maxRecDepth 20000 in
theorem gX11_tick_X11_rootGoesOn : GoodIn wsX11_tick (wsV RX11 142 RX11 yX11_rootGoesOn wsX11_rootGoesOn) := goodIn_app (goodIn_of _ (by decide +kernel)) ggX11_tick_X11_rootGoesOn
theorem dX11_tick_0 : decode cX11_tick 0 = .ok (.aload_n 0, 1) := by decide +kernel
theorem dX11_tick_1 : decode cX11_tick 1 = .ok (.iload_n 1, 1) := by decide +kernel
theorem dX11_tick_2 : decode cX11_tick 2 = .ok (.iconst 1, 1) := by decide +kernel
theorem dX11_tick_3 : decode cX11_tick 3 = .ok (.sipush 5000, 3) := by decide +kernel
theorem dX11_tick_6 : decode cX11_tick 6 = .ok (.invokestatic 118, 3) := by decide +kernel
theorem dX11_tick_9 : decode cX11_tick 9 = .ok (.ifCond .eq 7, 3) := by decide +kernel
theorem dX11_tick_12 : decode cX11_tick 12 = .ok (.iconst 0, 1) := by decide +kernel
theorem dX11_tick_13 : decode cX11_tick 13 = .ok (.goto 4, 3) := by decide +kernel
theorem dX11_tick_16 : decode cX11_tick 16 = .ok (.iconst 1, 1) := by decide +kernel
theorem dX11_tick_17 : decode cX11_tick 17 = .ok (.invokevirtual 124, 3) := by decide +kernel
theorem dX11_tick_20 : decode cX11_tick 20 = .ok (.ifCond .eq 4, 3) := by decide +kernel
theorem dX11_tick_23 : decode cX11_tick 23 = .ok (.return_, 1) := by decide +kernel
theorem dX11_tick_24 : decode cX11_tick 24 = .ok (.aload_n 0, 1) := by decide +kernel
theorem dX11_tick_25 : decode cX11_tick 25 = .ok (.bipush 6, 2) := by decide +kernel
theorem dX11_tick_27 : decode cX11_tick 27 = .ok (.invokevirtual 139, 3) := by decide +kernel
theorem dX11_tick_30 : decode cX11_tick 30 = .ok (.istore_n 2, 1) := by decide +kernel
theorem dX11_tick_31 : decode cX11_tick 31 = .ok (.iconst 0, 1) := by decide +kernel
theorem dX11_tick_32 : decode cX11_tick 32 = .ok (.istore_n 3, 1) := by decide +kernel
theorem dX11_tick_33 : decode cX11_tick 33 = .ok (.iload_n 3, 1) := by decide +kernel
theorem dX11_tick_34 : decode cX11_tick 34 = .ok (.bipush 7, 2) := by decide +kernel
theorem dX11_tick_36 : decode cX11_tick 36 = .ok (.if_icmp .ge 32, 3) := by decide +kernel
theorem dX11_tick_39 : decode cX11_tick 39 = .ok (.aload_n 0, 1) := by decide +kernel
theorem dX11_tick_40 : decode cX11_tick 40 = .ok (.getfield 7, 3) := by decide +kernel
theorem dX11_tick_43 : decode cX11_tick 43 = .ok (.iload_n 3, 1) := by decide +kernel
theorem dX11_tick_44 : decode cX11_tick 44 = .ok (.aload_n 0, 1) := by decide +kernel
theorem dX11_tick_45 : decode cX11_tick 45 = .ok (.getfield 7, 3) := by decide +kernel
theorem dX11_tick_48 : decode cX11_tick 48 = .ok (.iload_n 3, 1) := by decide +kernel
theorem dX11_tick_49 : decode cX11_tick 49 = .ok (.laload, 1) := by decide +kernel
theorem dX11_tick_50 : decode cX11_tick 50 = .ok (.iload_n 1, 1) := by decide +kernel
theorem dX11_tick_51 : decode cX11_tick 51 = .ok (.i2l, 1) := by decide +kernel
theorem dX11_tick_52 : decode cX11_tick 52 = .ok (.aload_n 0, 1) := by decide +kernel
theorem dX11_tick_53 : decode cX11_tick 53 = .ok (.getfield 13, 3) := by decide +kernel
theorem dX11_tick_56 : decode cX11_tick 56 = .ok (.iload_n 3, 1) := by decide +kernel
theorem dX11_tick_57 : decode cX11_tick 57 = .ok (.iaload, 1) := by decide +kernel
theorem dX11_tick_58 : decode cX11_tick 58 = .ok (.i2l, 1) := by decide +kernel
theorem dX11_tick_59 : decode cX11_tick 59 = .ok (.lmul, 1) := by decide +kernel
theorem dX11_tick_60 : decode cX11_tick 60 = .ok (.ladd, 1) := by decide +kernel
theorem dX11_tick_61 : decode cX11_tick 61 = .ok (.lastore, 1) := by decide +kernel
theorem dX11_tick_62 : decode cX11_tick 62 = .ok (.iinc 3 1, 3) := by decide +kernel
theorem dX11_tick_65 : decode cX11_tick 65 = .ok (.goto (-32), 3) := by decide +kernel
theorem dX11_tick_68 : decode cX11_tick 68 = .ok (.aload_n 0, 1) := by decide +kernel
theorem dX11_tick_69 : decode cX11_tick 69 = .ok (.iload_n 2, 1) := by decide +kernel
theorem dX11_tick_70 : decode cX11_tick 70 = .ok (.aload_n 0, 1) := by decide +kernel
theorem dX11_tick_71 : decode cX11_tick 71 = .ok (.bipush 6, 2) := by decide +kernel
theorem dX11_tick_73 : decode cX11_tick 73 = .ok (.invokevirtual 139, 3) := by decide +kernel
theorem dX11_tick_76 : decode cX11_tick 76 = .ok (.invokevirtual 142, 3) := by decide +kernel
theorem dX11_tick_79 : decode cX11_tick 79 = .ok (.return_, 1) := by decide +kernel
theorem dX11_liveTime_0 : decode cX11_liveTime 0 = .ok (.sipush 998, 3) := by decide +kernel
theorem dX11_liveTime_3 : decode cX11_liveTime 3 = .ok (.iload_n 0, 1) := by decide +kernel
theorem dX11_liveTime_4 : decode cX11_liveTime 4 = .ok (.imul, 1) := by decide +kernel
theorem dX11_liveTime_5 : decode cX11_liveTime 5 = .ok (.sipush 1000, 3) := by decide +kernel
theorem dX11_liveTime_8 : decode cX11_liveTime 8 = .ok (.idiv, 1) := by decide +kernel
theorem dX11_liveTime_9 : decode cX11_liveTime 9 = .ok (.ireturn, 1) := by decide +kernel
set_option maxRecDepth 20000 in
theorem ggX11_age_X11_clockOf : GoodIn wsX11_age wsX11_clockOf := goodIn_r _ [6, 7, 8, 9, 10, 11, 12, 13, 14, 15, 16, 17, 18, 19, 20, 21, 22, 23, 24, 25, 26, 27, 28, 29, 30, 31, 32, 33, 34, 35, 36, 37, 38, 39, 40, 41, 42] (by decide +kernel) (by decide +kernel)
set_option maxRecDepth 20000 in
theorem gX11_age_X11_clockOf : GoodIn wsX11_age (wsV RX11 139 RX11 yX11_clockOf wsX11_clockOf) := goodIn_app (goodIn_of _ (by decide +kernel)) ggX11_age_X11_clockOf
theorem dX11_age_0 : decode cX11_age 0 = .ok (.aload_n 0, 1) := by decide +kernel
theorem dX11_age_1 : decode cX11_age 1 = .ok (.iload_n 1, 1) := by decide +kernel
theorem dX11_age_2 : decode cX11_age 2 = .ok (.invokevirtual 139, 3) := by decide +kernel
theorem dX11_age_5 : decode cX11_age 5 = .ok (.aload_n 0, 1) := by decide +kernel
theorem dX11_age_6 : decode cX11_age 6 = .ok (.getfield 94, 3) := by decide +kernel
theorem dX11_age_9 : decode cX11_age 9 = .ok (.iload_n 2, 1) := by decide +kernel
theorem dX11_age_10 : decode cX11_age 10 = .ok (.iaload, 1) := by decide +kernel
theorem dX11_age_11 : decode cX11_age 11 = .ok (.isub, 1) := by decide +kernel
theorem dX11_age_12 : decode cX11_age 12 = .ok (.ireturn, 1) := by decide +kernel
theorem dX11_isHold_0 : decode cX11_isHold 0 = .ok (.aload_n 0, 1) := by decide +kernel
theorem dX11_isHold_1 : decode cX11_isHold 1 = .ok (.getfield 88, 3) := by decide +kernel
theorem dX11_isHold_4 : decode cX11_isHold 4 = .ok (.iload_n 3, 1) := by decide +kernel
theorem dX11_isHold_5 : decode cX11_isHold 5 = .ok (.iaload, 1) := by decide +kernel
theorem dX11_isHold_6 : decode cX11_isHold 6 = .ok (.iload_n 1, 1) := by decide +kernel
theorem dX11_isHold_7 : decode cX11_isHold 7 = .ok (.iconst 1, 1) := by decide +kernel
theorem dX11_isHold_8 : decode cX11_isHold 8 = .ok (.iadd, 1) := by decide +kernel
theorem dX11_isHold_9 : decode cX11_isHold 9 = .ok (.if_icmp .ne 17, 3) := by decide +kernel
theorem dX11_isHold_12 : decode cX11_isHold 12 = .ok (.aload_n 0, 1) := by decide +kernel
theorem dX11_isHold_13 : decode cX11_isHold 13 = .ok (.getfield 29, 3) := by decide +kernel
theorem dX11_isHold_16 : decode cX11_isHold 16 = .ok (.iload_n 3, 1) := by decide +kernel
theorem dX11_isHold_17 : decode cX11_isHold 17 = .ok (.iaload, 1) := by decide +kernel
theorem dX11_isHold_18 : decode cX11_isHold 18 = .ok (.iload_n 2, 1) := by decide +kernel
theorem dX11_isHold_19 : decode cX11_isHold 19 = .ok (.if_icmp .ne 7, 3) := by decide +kernel
theorem dX11_isHold_22 : decode cX11_isHold 22 = .ok (.iconst 1, 1) := by decide +kernel
theorem dX11_isHold_23 : decode cX11_isHold 23 = .ok (.goto 4, 3) := by decide +kernel
theorem dX11_isHold_26 : decode cX11_isHold 26 = .ok (.iconst 0, 1) := by decide +kernel
theorem dX11_isHold_27 : decode cX11_isHold 27 = .ok (.ireturn, 1) := by decide +kernel
set_option maxRecDepth 20000 in
theorem ggX11_isLive_X11_age : GoodIn wsX11_isLive wsX11_age := goodIn_r _ [6, 7, 8, 9, 10, 5, 11, 12, 13, 17, 18, 19, 20, 21, 22, 23, 24, 25, 26, 27, 28, 29, 30, 31, 32, 33, 34, 35, 36, 37, 38, 39, 40, 41, 42, 43, 44, 45, 46, 47, 48, 49, 50] (by decide +kernel) (by decide +kernel)
set_option maxRecDepth 20000 in
theorem gX11_isLive_X11_age : GoodIn wsX11_isLive (wsV RX11 146 RX11 yX11_age wsX11_age) := goodIn_app (goodIn_of _ (by decide +kernel)) ggX11_isLive_X11_age
set_option maxRecDepth 20000 in
theorem ggX11_isLive_X11_liveTime : GoodIn wsX11_isLive wsX11_liveTime := goodIn_r _ [16] (by decide +kernel) (by decide +kernel)
set_option maxRecDepth 20000 in
theorem gX11_isLive_X11_liveTime : GoodIn wsX11_isLive (va_wsS RX11 150 yX11_liveTime wsX11_liveTime) := goodIn_app (goodIn_of _ (by decide +kernel)) ggX11_isLive_X11_liveTime
theorem dX11_isLive_0 : decode cX11_isLive 0 = .ok (.aload_n 0, 1) := by decide +kernel
theorem dX11_isLive_1 : decode cX11_isLive 1 = .ok (.iload_n 1, 1) := by decide +kernel
theorem dX11_isLive_2 : decode cX11_isLive 2 = .ok (.iload_n 2, 1) := by decide +kernel
theorem dX11_isLive_3 : decode cX11_isLive 3 = .ok (.invokevirtual 146, 3) := by decide +kernel
theorem dX11_isLive_6 : decode cX11_isLive 6 = .ok (.aload_n 0, 1) := by decide +kernel
theorem dX11_isLive_7 : decode cX11_isLive 7 = .ok (.getfield 97, 3) := by decide +kernel
theorem dX11_isLive_10 : decode cX11_isLive 10 = .ok (.iload_n 2, 1) := by decide +kernel
theorem dX11_isLive_11 : decode cX11_isLive 11 = .ok (.iaload, 1) := by decide +kernel
theorem dX11_isLive_12 : decode cX11_isLive 12 = .ok (.invokestatic 150, 3) := by decide +kernel
theorem dX11_isLive_15 : decode cX11_isLive 15 = .ok (.if_icmp .ge 7, 3) := by decide +kernel
theorem dX11_isLive_18 : decode cX11_isLive 18 = .ok (.iconst 1, 1) := by decide +kernel
theorem dX11_isLive_19 : decode cX11_isLive 19 = .ok (.goto 4, 3) := by decide +kernel
theorem dX11_isLive_22 : decode cX11_isLive 22 = .ok (.iconst 0, 1) := by decide +kernel
theorem dX11_isLive_23 : decode cX11_isLive 23 = .ok (.ireturn, 1) := by decide +kernel
set_option maxRecDepth 20000 in
theorem ggX11_live_X11_isHold : GoodIn wsX11_live wsX11_isHold := goodIn_r _ [7, 8, 9, 29, 30, 31, 32, 33, 34, 35, 36, 37, 38, 39, 40, 41, 42, 43, 44, 45, 46, 47, 48, 49, 50, 51, 52, 53, 54, 55, 56, 57, 58, 59, 60, 61, 62] (by decide +kernel) (by decide +kernel)
set_option maxRecDepth 20000 in
theorem gX11_live_X11_isHold : GoodIn wsX11_live (wsV RX11 153 RX11 yX11_isHold wsX11_isHold) := goodIn_app (goodIn_of _ (by decide +kernel)) ggX11_live_X11_isHold
set_option maxRecDepth 20000 in
theorem ggX11_live_X11_isLive : GoodIn wsX11_live wsX11_isLive := goodIn_r _ [13, 14, 15, 16, 17, 6, 18, 19, 20, 21, 22, 23, 24, 25, 26, 27, 28, 29, 30, 31, 32, 33, 34, 35, 36, 37, 38, 39, 40, 41, 42, 43, 44, 45, 46, 47, 48, 49, 50, 51, 52, 53, 54, 55, 56, 57, 58, 59, 60, 61, 62] (by decide +kernel) (by decide +kernel)
set_option maxRecDepth 20000 in
theorem gX11_live_X11_isLive : GoodIn wsX11_live (wsV RX11 156 RX11 yX11_isLive wsX11_isLive) := goodIn_app (goodIn_of _ (by decide +kernel)) ggX11_live_X11_isLive
theorem dX11_live_0 : decode cX11_live 0 = .ok (.iconst 0, 1) := by decide +kernel
theorem dX11_live_1 : decode cX11_live 1 = .ok (.istore_n 3, 1) := by decide +kernel
theorem dX11_live_2 : decode cX11_live 2 = .ok (.iconst 0, 1) := by decide +kernel
theorem dX11_live_3 : decode cX11_live 3 = .ok (.istore 4, 2) := by decide +kernel
theorem dX11_live_5 : decode cX11_live 5 = .ok (.iload 4, 2) := by decide +kernel
theorem dX11_live_7 : decode cX11_live 7 = .ok (.aload_n 0, 1) := by decide +kernel
theorem dX11_live_8 : decode cX11_live 8 = .ok (.getfield 111, 3) := by decide +kernel
theorem dX11_live_11 : decode cX11_live 11 = .ok (.if_icmp .ge 44, 3) := by decide +kernel
theorem dX11_live_14 : decode cX11_live 14 = .ok (.aload_n 0, 1) := by decide +kernel
theorem dX11_live_15 : decode cX11_live 15 = .ok (.iload_n 1, 1) := by decide +kernel
theorem dX11_live_16 : decode cX11_live 16 = .ok (.iload_n 2, 1) := by decide +kernel
theorem dX11_live_17 : decode cX11_live 17 = .ok (.iload 4, 2) := by decide +kernel
theorem dX11_live_19 : decode cX11_live 19 = .ok (.invokevirtual 153, 3) := by decide +kernel
theorem dX11_live_22 : decode cX11_live 22 = .ok (.ifCond .eq 25, 3) := by decide +kernel
theorem dX11_live_25 : decode cX11_live 25 = .ok (.aload_n 0, 1) := by decide +kernel
theorem dX11_live_26 : decode cX11_live 26 = .ok (.iload_n 1, 1) := by decide +kernel
theorem dX11_live_27 : decode cX11_live 27 = .ok (.iload 4, 2) := by decide +kernel
theorem dX11_live_29 : decode cX11_live 29 = .ok (.invokevirtual 156, 3) := by decide +kernel
theorem dX11_live_32 : decode cX11_live 32 = .ok (.ifCond .eq 15, 3) := by decide +kernel
theorem dX11_live_35 : decode cX11_live 35 = .ok (.iload_n 3, 1) := by decide +kernel
theorem dX11_live_36 : decode cX11_live 36 = .ok (.aload_n 0, 1) := by decide +kernel
theorem dX11_live_37 : decode cX11_live 37 = .ok (.getfield 91, 3) := by decide +kernel
theorem dX11_live_40 : decode cX11_live 40 = .ok (.iload 4, 2) := by decide +kernel
theorem dX11_live_42 : decode cX11_live 42 = .ok (.iaload, 1) := by decide +kernel
theorem dX11_live_43 : decode cX11_live 43 = .ok (.iadd, 1) := by decide +kernel
theorem dX11_live_44 : decode cX11_live 44 = .ok (.goto 4, 3) := by decide +kernel
theorem dX11_live_47 : decode cX11_live 47 = .ok (.iload_n 3, 1) := by decide +kernel
theorem dX11_live_48 : decode cX11_live 48 = .ok (.istore_n 3, 1) := by decide +kernel
theorem dX11_live_49 : decode cX11_live 49 = .ok (.iinc 4 1, 3) := by decide +kernel
theorem dX11_live_52 : decode cX11_live 52 = .ok (.goto (-47), 3) := by decide +kernel
theorem dX11_live_55 : decode cX11_live 55 = .ok (.iload_n 3, 1) := by decide +kernel
theorem dX11_live_56 : decode cX11_live 56 = .ok (.ireturn, 1) := by decide +kernel
set_option maxRecDepth 20000 in
theorem ggX11_isPlace_X11_isIn : GoodIn wsX11_isPlace wsX11_isIn := goodIn_r _ [4] (by decide +kernel) (by decide +kernel)
set_option maxRecDepth 20000 in
theorem gX11_isPlace_X11_isIn : GoodIn wsX11_isPlace (va_wsS RX11 118 yX11_isIn wsX11_isIn) := goodIn_app (goodIn_of _ (by decide +kernel)) ggX11_isPlace_X11_isIn
theorem dX11_isPlace_0 : decode cX11_isPlace 0 = .ok (.iload_n 0, 1) := by decide +kernel
theorem dX11_isPlace_1 : decode cX11_isPlace 1 = .ok (.iconst 0, 1) := by decide +kernel
theorem dX11_isPlace_2 : decode cX11_isPlace 2 = .ok (.iconst 5, 1) := by decide +kernel
theorem dX11_isPlace_3 : decode cX11_isPlace 3 = .ok (.invokestatic 118, 3) := by decide +kernel
theorem dX11_isPlace_6 : decode cX11_isPlace 6 = .ok (.ifCond .eq 17, 3) := by decide +kernel
theorem dX11_isPlace_9 : decode cX11_isPlace 9 = .ok (.iload_n 1, 1) := by decide +kernel
theorem dX11_isPlace_10 : decode cX11_isPlace 10 = .ok (.iconst 0, 1) := by decide +kernel
theorem dX11_isPlace_11 : decode cX11_isPlace 11 = .ok (.bipush 7, 2) := by decide +kernel
theorem dX11_isPlace_13 : decode cX11_isPlace 13 = .ok (.invokestatic 118, 3) := by decide +kernel
theorem dX11_isPlace_16 : decode cX11_isPlace 16 = .ok (.ifCond .eq 7, 3) := by decide +kernel
theorem dX11_isPlace_19 : decode cX11_isPlace 19 = .ok (.iconst 1, 1) := by decide +kernel
theorem dX11_isPlace_20 : decode cX11_isPlace 20 = .ok (.goto 4, 3) := by decide +kernel
theorem dX11_isPlace_23 : decode cX11_isPlace 23 = .ok (.iconst 0, 1) := by decide +kernel
theorem dX11_isPlace_24 : decode cX11_isPlace 24 = .ok (.ireturn, 1) := by decide +kernel
set_option maxRecDepth 20000 in
theorem ggX11_take_X11_isPlace : GoodIn wsX11_take wsX11_isPlace := goodIn_r _ [11, 12, 13, 10, 14] (by decide +kernel) (by decide +kernel)
set_option maxRecDepth 20000 in
theorem gX11_take_X11_isPlace : GoodIn wsX11_take (va_wsS RX11 160 yX11_isPlace wsX11_isPlace) := goodIn_app (goodIn_of _ (by decide +kernel)) ggX11_take_X11_isPlace
set_option maxRecDepth 20000 in
theorem ggX11_take_X11_isIn : GoodIn wsX11_take wsX11_isIn := goodIn_r _ [14] (by decide +kernel) (by decide +kernel)
set_option maxRecDepth 20000 in
theorem gX11_take_X11_isIn : GoodIn wsX11_take (va_wsS RX11 118 yX11_isIn wsX11_isIn) := goodIn_app (goodIn_of _ (by decide +kernel)) ggX11_take_X11_isIn
set_option maxRecDepth 20000 in
theorem ggX11_take_X11_refused : GoodIn wsX11_take wsX11_refused := goodIn_r _ [18, 19, 47, 48, 49, 50, 51, 52, 53, 54, 55, 56, 57, 58, 59, 60, 61, 62, 63, 64, 65, 66, 67, 68, 69, 70, 71, 72, 73, 74, 75, 76, 77, 78, 79, 80] (by decide +kernel) (by decide +kernel)
set_option maxRecDepth 20000 in
theorem gX11_take_X11_refused : GoodIn wsX11_take (wsV RX11 124 RX11 yX11_refused wsX11_refused) := goodIn_app (goodIn_of _ (by decide +kernel)) ggX11_take_X11_refused
set_option maxRecDepth 20000 in
theorem ggX11_take_X11_live : GoodIn wsX11_take wsX11_live := goodIn_r _ [23, 3, 5, 24, 25, 26, 10, 27, 6, 28, 29, 30, 31, 32, 4, 33, 34, 35, 36, 37, 38, 39, 40, 41, 42, 43, 44, 45, 46, 47, 48, 49, 50, 51, 52, 53, 54, 55, 56, 57, 58, 59, 60, 61, 62, 63, 64, 65, 66, 67, 68, 69, 70, 71, 72, 73, 74, 75, 76, 77, 78, 79, 80] (by decide +kernel) (by decide +kernel)
set_option maxRecDepth 20000 in
theorem gX11_take_X11_live : GoodIn wsX11_take (wsV RX11 163 RX11 yX11_live wsX11_live) := goodIn_app (goodIn_of _ (by decide +kernel)) ggX11_take_X11_live
set_option maxRecDepth 20000 in
theorem ggX11_take_X11_isHold : GoodIn wsX11_take wsX11_isHold := goodIn_r _ [27, 6, 28, 47, 48, 49, 50, 51, 52, 53, 54, 55, 56, 57, 58, 59, 60, 61, 62, 63, 64, 65, 66, 67, 68, 69, 70, 71, 72, 73, 74, 75, 76, 77, 78, 79, 80] (by decide +kernel) (by decide +kernel)
set_option maxRecDepth 20000 in
theorem gX11_take_X11_isHold : GoodIn wsX11_take (wsV RX11 153 RX11 yX11_isHold wsX11_isHold) := goodIn_app (goodIn_of _ (by decide +kernel)) ggX11_take_X11_isHold
set_option maxRecDepth 20000 in
theorem ggX11_take_X11_isLive : GoodIn wsX11_take wsX11_isLive := goodIn_r _ [32, 4, 33, 34, 35, 10, 36, 37, 38, 39, 40, 41, 42, 43, 44, 45, 46, 47, 48, 49, 50, 51, 52, 53, 54, 55, 56, 57, 58, 59, 60, 61, 62, 63, 64, 65, 66, 67, 68, 69, 70, 71, 72, 73, 74, 75, 76, 77, 78, 79, 80] (by decide +kernel) (by decide +kernel)
set_option maxRecDepth 20000 in
theorem gX11_take_X11_isLive : GoodIn wsX11_take (wsV RX11 156 RX11 yX11_isLive wsX11_isLive) := goodIn_app (goodIn_of _ (by decide +kernel)) ggX11_take_X11_isLive
set_option maxRecDepth 20000 in
theorem ggX11_take_X11_liveTime : GoodIn wsX11_take wsX11_liveTime := goodIn_r _ [46] (by decide +kernel) (by decide +kernel)
set_option maxRecDepth 20000 in
theorem gX11_take_X11_liveTime : GoodIn wsX11_take (va_wsS RX11 150 yX11_liveTime wsX11_liveTime) := goodIn_app (goodIn_of _ (by decide +kernel)) ggX11_take_X11_liveTime
set_option maxRecDepth 20000 in
theorem ggX11_take_X11_age : GoodIn wsX11_take wsX11_age := goodIn_r _ [36, 37, 38, 39, 40, 10, 41, 42, 43, 47, 48, 49, 50, 51, 52, 53, 54, 55, 56, 57, 58, 59, 60, 61, 62, 63, 64, 65, 66, 67, 68, 69, 70, 71, 72, 73, 74, 75, 76, 77, 78, 79, 80] (by decide +kernel) (by decide +kernel)
set_option maxRecDepth 20000 in
theorem gX11_take_X11_age : GoodIn wsX11_take (wsV RX11 146 RX11 yX11_age wsX11_age) := goodIn_app (goodIn_of _ (by decide +kernel)) ggX11_take_X11_age
theorem dX11_take_0 : decode cX11_take 0 = .ok (.aload_n 0, 1) := by decide +kernel
theorem dX11_take_1 : decode cX11_take 1 = .ok (.iload_n 1, 1) := by decide +kernel
theorem dX11_take_2 : decode cX11_take 2 = .ok (.iload_n 2, 1) := by decide +kernel
theorem dX11_take_3 : decode cX11_take 3 = .ok (.invokestatic 160, 3) := by decide +kernel
theorem dX11_take_6 : decode cX11_take 6 = .ok (.ifCond .eq 18, 3) := by decide +kernel
theorem dX11_take_9 : decode cX11_take 9 = .ok (.iload_n 3, 1) := by decide +kernel
theorem dX11_take_10 : decode cX11_take 10 = .ok (.iconst 1, 1) := by decide +kernel
theorem dX11_take_11 : decode cX11_take 11 = .ok (.sipush 10000, 3) := by decide +kernel
theorem dX11_take_14 : decode cX11_take 14 = .ok (.invokestatic 118, 3) := by decide +kernel
theorem dX11_take_17 : decode cX11_take 17 = .ok (.ifCond .eq 7, 3) := by decide +kernel
theorem dX11_take_20 : decode cX11_take 20 = .ok (.iconst 0, 1) := by decide +kernel
theorem dX11_take_21 : decode cX11_take 21 = .ok (.goto 4, 3) := by decide +kernel
theorem dX11_take_24 : decode cX11_take 24 = .ok (.iconst 1, 1) := by decide +kernel
theorem dX11_take_25 : decode cX11_take 25 = .ok (.invokevirtual 124, 3) := by decide +kernel
theorem dX11_take_28 : decode cX11_take 28 = .ok (.ifCond .eq 5, 3) := by decide +kernel
