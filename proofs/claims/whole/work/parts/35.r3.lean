set_option maxRecDepth 20000 in
theorem ggX3_init_X1_init : GoodIn wsX3_init wsX1_init := goodIn_r _ [16, 17, 2, 3, 18, 19, 20, 21, 22, 23, 24, 25, 26, 27, 28, 29, 30, 31, 32, 33, 34, 35, 36, 37, 38, 39, 40, 41, 42, 43, 44, 45, 46, 47, 48, 49, 50, 51, 52, 53, 54, 55, 56, 57, 99, 100, 101, 102, 103, 104, 105, 77, 78, 79, 80, 81, 82, 83, 84, 85, 86, 87, 88, 89] (by decide +kernel) (by decide +kernel)
set_option maxRecDepth 20000 in
theorem gX3_init_X1_init_n9 : GoodIn wsX3_init (wsX1_init) := ggX3_init_X1_init
set_option maxRecDepth 20000 in
theorem ggX3_init_X2_init : GoodIn wsX3_init wsX2_init := goodIn_r _ [60, 61, 2, 3, 22, 62, 63, 64, 65, 66, 67, 68, 69, 70, 12, 71, 72, 51, 52, 53, 73, 74, 75, 76, 94, 95, 96, 97, 98] (by decide +kernel) (by decide +kernel)
set_option maxRecDepth 20000 in
theorem gX3_init_X2_init : GoodIn wsX3_init (wsX2_init) := ggX3_init_X2_init
theorem dX3_init_0 : decode cX3_init 0 = .ok (.aload_n 0, 1) := by decide +kernel
theorem dX3_init_1 : decode cX3_init 1 = .ok (.invokespecial 1, 3) := by decide +kernel
theorem dX3_init_4 : decode cX3_init 4 = .ok (.aload_n 0, 1) := by decide +kernel
theorem dX3_init_5 : decode cX3_init 5 = .ok (.new 7, 3) := by decide +kernel
theorem dX3_init_8 : decode cX3_init 8 = .ok (.dup, 1) := by decide +kernel
theorem dX3_init_9 : decode cX3_init 9 = .ok (.invokespecial 9, 3) := by decide +kernel
theorem dX3_init_12 : decode cX3_init 12 = .ok (.putfield 10, 3) := by decide +kernel
theorem dX3_init_15 : decode cX3_init 15 = .ok (.aload_n 0, 1) := by decide +kernel
theorem dX3_init_16 : decode cX3_init 16 = .ok (.aload_n 0, 1) := by decide +kernel
theorem dX3_init_17 : decode cX3_init 17 = .ok (.getfield 10, 3) := by decide +kernel
theorem dX3_init_20 : decode cX3_init 20 = .ok (.getfield 16, 3) := by decide +kernel
theorem dX3_init_23 : decode cX3_init 23 = .ok (.putfield 20, 3) := by decide +kernel
theorem dX3_init_26 : decode cX3_init 26 = .ok (.aload_n 0, 1) := by decide +kernel
theorem dX3_init_27 : decode cX3_init 27 = .ok (.new 21, 3) := by decide +kernel
theorem dX3_init_30 : decode cX3_init 30 = .ok (.dup, 1) := by decide +kernel
theorem dX3_init_31 : decode cX3_init 31 = .ok (.invokespecial 23, 3) := by decide +kernel
theorem dX3_init_34 : decode cX3_init 34 = .ok (.putfield 24, 3) := by decide +kernel
theorem dX3_init_37 : decode cX3_init 37 = .ok (.aload_n 0, 1) := by decide +kernel
theorem dX3_init_38 : decode cX3_init 38 = .ok (.lconst 0, 1) := by decide +kernel
theorem dX3_init_39 : decode cX3_init 39 = .ok (.putfield 28, 3) := by decide +kernel
theorem dX3_init_42 : decode cX3_init 42 = .ok (.return_, 1) := by decide +kernel
set_option maxRecDepth 20000 in
theorem ggX3_box_X3_within : GoodIn wsX3_box wsX3_within := goodIn_r _ [7] (by decide +kernel) (by decide +kernel)
set_option maxRecDepth 20000 in
theorem gX3_box_X3_within : GoodIn wsX3_box (va_wsS RX3 32 yX3_within wsX3_within) := goodIn_app (goodIn_of _ (by decide +kernel)) ggX3_box_X3_within
set_option maxRecDepth 20000 in
theorem ggX3_box_X0_lay : GoodIn wsX3_box wsX0_lay := goodIn_r _ [12, 13, 14, 15, 16, 17, 18, 19, 20, 21, 22, 23, 11, 24, 25, 26, 37, 38, 39, 40, 41, 42, 43] (by decide +kernel) (by decide +kernel)
set_option maxRecDepth 20000 in
theorem gX3_box_X0_lay : GoodIn wsX3_box (wsV RX3 36 RX0 yX0_lay wsX0_lay) := goodIn_app (goodIn_of _ (by decide +kernel)) ggX3_box_X0_lay
set_option maxRecDepth 20000 in
theorem ggX3_box_X1_forget : GoodIn wsX3_box wsX1_forget := goodIn_r _ [31, 32, 44, 45, 46, 47, 48, 49, 50, 51, 52, 53, 54, 55, 56] (by decide +kernel) (by decide +kernel)
set_option maxRecDepth 20000 in
theorem gX3_box_X1_forget : GoodIn wsX3_box (wsV RX3 42 RX1 yX1_forget wsX1_forget) := goodIn_app (goodIn_of _ (by decide +kernel)) ggX3_box_X1_forget
theorem dX3_box_0 : decode cX3_box 0 = .ok (.iload_n 1, 1) := by decide +kernel
theorem dX3_box_1 : decode cX3_box 1 = .ok (.iconst 1, 1) := by decide +kernel
theorem dX3_box_2 : decode cX3_box 2 = .ok (.iconst 4, 1) := by decide +kernel
theorem dX3_box_3 : decode cX3_box 3 = .ok (.invokestatic 32, 3) := by decide +kernel
theorem dX3_box_6 : decode cX3_box 6 = .ok (.ifCond .eq 31, 3) := by decide +kernel
theorem dX3_box_9 : decode cX3_box 9 = .ok (.iload_n 2, 1) := by decide +kernel
theorem dX3_box_10 : decode cX3_box 10 = .ok (.iconst 1, 1) := by decide +kernel
theorem dX3_box_11 : decode cX3_box 11 = .ok (.iconst 4, 1) := by decide +kernel
theorem dX3_box_12 : decode cX3_box 12 = .ok (.invokestatic 32, 3) := by decide +kernel
theorem dX3_box_15 : decode cX3_box 15 = .ok (.ifCond .eq 22, 3) := by decide +kernel
theorem dX3_box_18 : decode cX3_box 18 = .ok (.iload_n 3, 1) := by decide +kernel
theorem dX3_box_19 : decode cX3_box 19 = .ok (.iconst 1, 1) := by decide +kernel
theorem dX3_box_20 : decode cX3_box 20 = .ok (.iconst 4, 1) := by decide +kernel
theorem dX3_box_21 : decode cX3_box 21 = .ok (.invokestatic 32, 3) := by decide +kernel
theorem dX3_box_24 : decode cX3_box 24 = .ok (.ifCond .eq 13, 3) := by decide +kernel
theorem dX3_box_27 : decode cX3_box 27 = .ok (.iload_n 1, 1) := by decide +kernel
theorem dX3_box_28 : decode cX3_box 28 = .ok (.iload_n 2, 1) := by decide +kernel
theorem dX3_box_29 : decode cX3_box 29 = .ok (.imul, 1) := by decide +kernel
theorem dX3_box_30 : decode cX3_box 30 = .ok (.iload_n 3, 1) := by decide +kernel
theorem dX3_box_31 : decode cX3_box 31 = .ok (.imul, 1) := by decide +kernel
theorem dX3_box_32 : decode cX3_box 32 = .ok (.bipush 36, 2) := by decide +kernel
theorem dX3_box_34 : decode cX3_box 34 = .ok (.if_icmp .le 5, 3) := by decide +kernel
theorem dX3_box_37 : decode cX3_box 37 = .ok (.iconst (-1), 1) := by decide +kernel
theorem dX3_box_38 : decode cX3_box 38 = .ok (.ireturn, 1) := by decide +kernel
theorem dX3_box_39 : decode cX3_box 39 = .ok (.aload_n 0, 1) := by decide +kernel
theorem dX3_box_40 : decode cX3_box 40 = .ok (.getfield 20, 3) := by decide +kernel
theorem dX3_box_43 : decode cX3_box 43 = .ok (.iload_n 1, 1) := by decide +kernel
theorem dX3_box_44 : decode cX3_box 44 = .ok (.iload_n 2, 1) := by decide +kernel
theorem dX3_box_45 : decode cX3_box 45 = .ok (.iload_n 3, 1) := by decide +kernel
theorem dX3_box_46 : decode cX3_box 46 = .ok (.invokevirtual 36, 3) := by decide +kernel
theorem dX3_box_49 : decode cX3_box 49 = .ok (.aload_n 0, 1) := by decide +kernel
theorem dX3_box_50 : decode cX3_box 50 = .ok (.getfield 10, 3) := by decide +kernel
theorem dX3_box_53 : decode cX3_box 53 = .ok (.invokevirtual 42, 3) := by decide +kernel
theorem dX3_box_56 : decode cX3_box 56 = .ok (.aload_n 0, 1) := by decide +kernel
theorem dX3_box_57 : decode cX3_box 57 = .ok (.getfield 20, 3) := by decide +kernel
theorem dX3_box_60 : decode cX3_box 60 = .ok (.getfield 45, 3) := by decide +kernel
theorem dX3_box_63 : decode cX3_box 63 = .ok (.ireturn, 1) := by decide +kernel
set_option maxRecDepth 20000 in
theorem ggX3_hold_X0_has : GoodIn wsX3_hold wsX0_has := goodIn_r _ [8, 9, 24, 25, 26, 27, 28, 29, 30] (by decide +kernel) (by decide +kernel)
set_option maxRecDepth 20000 in
theorem gX3_hold_X0_has : GoodIn wsX3_hold (wsV RX3 49 RX0 yX0_has wsX0_has) := goodIn_app (goodIn_of _ (by decide +kernel)) ggX3_hold_X0_has
set_option maxRecDepth 20000 in
theorem ggX3_hold_X3_within : GoodIn wsX3_hold wsX3_within := goodIn_r _ [13] (by decide +kernel) (by decide +kernel)
set_option maxRecDepth 20000 in
theorem gX3_hold_X3_within : GoodIn wsX3_hold (va_wsS RX3 32 yX3_within wsX3_within) := goodIn_app (goodIn_of _ (by decide +kernel)) ggX3_hold_X3_within
set_option maxRecDepth 20000 in
theorem ggX3_hold_X1_forget : GoodIn wsX3_hold wsX1_forget := goodIn_r _ [18, 19, 31, 32, 33, 34, 35, 36, 37, 38, 39, 40, 41, 42, 43] (by decide +kernel) (by decide +kernel)
set_option maxRecDepth 20000 in
theorem gX3_hold_X1_forget : GoodIn wsX3_hold (wsV RX3 42 RX1 yX1_forget wsX1_forget) := goodIn_app (goodIn_of _ (by decide +kernel)) ggX3_hold_X1_forget
theorem dX3_hold_0 : decode cX3_hold 0 = .ok (.aload_n 0, 1) := by decide +kernel
theorem dX3_hold_1 : decode cX3_hold 1 = .ok (.getfield 20, 3) := by decide +kernel
theorem dX3_hold_4 : decode cX3_hold 4 = .ok (.iload_n 1, 1) := by decide +kernel
theorem dX3_hold_5 : decode cX3_hold 5 = .ok (.invokevirtual 49, 3) := by decide +kernel
theorem dX3_hold_8 : decode cX3_hold 8 = .ok (.ifCond .eq 12, 3) := by decide +kernel
theorem dX3_hold_11 : decode cX3_hold 11 = .ok (.iload_n 2, 1) := by decide +kernel
theorem dX3_hold_12 : decode cX3_hold 12 = .ok (.iconst 0, 1) := by decide +kernel
theorem dX3_hold_13 : decode cX3_hold 13 = .ok (.iconst 2, 1) := by decide +kernel
theorem dX3_hold_14 : decode cX3_hold 14 = .ok (.invokestatic 32, 3) := by decide +kernel
theorem dX3_hold_17 : decode cX3_hold 17 = .ok (.ifCond .ne 5, 3) := by decide +kernel
theorem dX3_hold_20 : decode cX3_hold 20 = .ok (.iconst (-1), 1) := by decide +kernel
theorem dX3_hold_21 : decode cX3_hold 21 = .ok (.ireturn, 1) := by decide +kernel
theorem dX3_hold_22 : decode cX3_hold 22 = .ok (.aload_n 0, 1) := by decide +kernel
theorem dX3_hold_23 : decode cX3_hold 23 = .ok (.getfield 20, 3) := by decide +kernel
theorem dX3_hold_26 : decode cX3_hold 26 = .ok (.getfield 53, 3) := by decide +kernel
theorem dX3_hold_29 : decode cX3_hold 29 = .ok (.iload_n 1, 1) := by decide +kernel
theorem dX3_hold_30 : decode cX3_hold 30 = .ok (.iaload, 1) := by decide +kernel
theorem dX3_hold_31 : decode cX3_hold 31 = .ok (.istore_n 3, 1) := by decide +kernel
theorem dX3_hold_32 : decode cX3_hold 32 = .ok (.aload_n 0, 1) := by decide +kernel
theorem dX3_hold_33 : decode cX3_hold 33 = .ok (.getfield 20, 3) := by decide +kernel
theorem dX3_hold_36 : decode cX3_hold 36 = .ok (.getfield 53, 3) := by decide +kernel
theorem dX3_hold_39 : decode cX3_hold 39 = .ok (.iload_n 1, 1) := by decide +kernel
theorem dX3_hold_40 : decode cX3_hold 40 = .ok (.iload_n 2, 1) := by decide +kernel
theorem dX3_hold_41 : decode cX3_hold 41 = .ok (.iastore, 1) := by decide +kernel
theorem dX3_hold_42 : decode cX3_hold 42 = .ok (.aload_n 0, 1) := by decide +kernel
theorem dX3_hold_43 : decode cX3_hold 43 = .ok (.getfield 10, 3) := by decide +kernel
theorem dX3_hold_46 : decode cX3_hold 46 = .ok (.invokevirtual 42, 3) := by decide +kernel
theorem dX3_hold_49 : decode cX3_hold 49 = .ok (.iload_n 3, 1) := by decide +kernel
theorem dX3_hold_50 : decode cX3_hold 50 = .ok (.ireturn, 1) := by decide +kernel
set_option maxRecDepth 20000 in
theorem ggX3_price_X0_has : GoodIn wsX3_price wsX0_has := goodIn_r _ [9, 10, 25, 26, 27, 28, 29, 30, 31] (by decide +kernel) (by decide +kernel)
set_option maxRecDepth 20000 in
theorem gX3_price_X0_has : GoodIn wsX3_price (wsV RX3 49 RX0 yX0_has wsX0_has) := goodIn_app (goodIn_of _ (by decide +kernel)) ggX3_price_X0_has
set_option maxRecDepth 20000 in
theorem ggX3_price_X3_within : GoodIn wsX3_price wsX3_within := goodIn_r _ [14] (by decide +kernel) (by decide +kernel)
set_option maxRecDepth 20000 in
theorem gX3_price_X3_within : GoodIn wsX3_price (va_wsS RX3 32 yX3_within wsX3_within) := goodIn_app (goodIn_of _ (by decide +kernel)) ggX3_price_X3_within
set_option maxRecDepth 20000 in
theorem ggX3_price_X1_forget : GoodIn wsX3_price wsX1_forget := goodIn_r _ [19, 20, 32, 33, 34, 35, 36, 37, 38, 39, 40, 41, 42, 43, 44] (by decide +kernel) (by decide +kernel)
set_option maxRecDepth 20000 in
theorem gX3_price_X1_forget : GoodIn wsX3_price (wsV RX3 42 RX1 yX1_forget wsX1_forget) := goodIn_app (goodIn_of _ (by decide +kernel)) ggX3_price_X1_forget
theorem dX3_price_0 : decode cX3_price 0 = .ok (.aload_n 0, 1) := by decide +kernel
theorem dX3_price_1 : decode cX3_price 1 = .ok (.getfield 20, 3) := by decide +kernel
theorem dX3_price_4 : decode cX3_price 4 = .ok (.iload_n 1, 1) := by decide +kernel
theorem dX3_price_5 : decode cX3_price 5 = .ok (.invokevirtual 49, 3) := by decide +kernel
theorem dX3_price_8 : decode cX3_price 8 = .ok (.ifCond .eq 14, 3) := by decide +kernel
theorem dX3_price_11 : decode cX3_price 11 = .ok (.iload_n 2, 1) := by decide +kernel
theorem dX3_price_12 : decode cX3_price 12 = .ok (.bipush (-20), 2) := by decide +kernel
theorem dX3_price_14 : decode cX3_price 14 = .ok (.bipush 20, 2) := by decide +kernel
theorem dX3_price_16 : decode cX3_price 16 = .ok (.invokestatic 32, 3) := by decide +kernel
theorem dX3_price_19 : decode cX3_price 19 = .ok (.ifCond .ne 6, 3) := by decide +kernel
theorem dX3_price_22 : decode cX3_price 22 = .ok (.ldc 57, 2) := by decide +kernel
theorem dX3_price_24 : decode cX3_price 24 = .ok (.ireturn, 1) := by decide +kernel
theorem dX3_price_25 : decode cX3_price 25 = .ok (.aload_n 0, 1) := by decide +kernel
theorem dX3_price_26 : decode cX3_price 26 = .ok (.getfield 20, 3) := by decide +kernel
theorem dX3_price_29 : decode cX3_price 29 = .ok (.getfield 58, 3) := by decide +kernel
theorem dX3_price_32 : decode cX3_price 32 = .ok (.iload_n 1, 1) := by decide +kernel
theorem dX3_price_33 : decode cX3_price 33 = .ok (.iaload, 1) := by decide +kernel
theorem dX3_price_34 : decode cX3_price 34 = .ok (.istore_n 3, 1) := by decide +kernel
theorem dX3_price_35 : decode cX3_price 35 = .ok (.aload_n 0, 1) := by decide +kernel
theorem dX3_price_36 : decode cX3_price 36 = .ok (.getfield 20, 3) := by decide +kernel
theorem dX3_price_39 : decode cX3_price 39 = .ok (.getfield 58, 3) := by decide +kernel
theorem dX3_price_42 : decode cX3_price 42 = .ok (.iload_n 1, 1) := by decide +kernel
theorem dX3_price_43 : decode cX3_price 43 = .ok (.iload_n 2, 1) := by decide +kernel
theorem dX3_price_44 : decode cX3_price 44 = .ok (.iastore, 1) := by decide +kernel
theorem dX3_price_45 : decode cX3_price 45 = .ok (.aload_n 0, 1) := by decide +kernel
theorem dX3_price_46 : decode cX3_price 46 = .ok (.getfield 10, 3) := by decide +kernel
theorem dX3_price_49 : decode cX3_price 49 = .ok (.invokevirtual 42, 3) := by decide +kernel
theorem dX3_price_52 : decode cX3_price 52 = .ok (.iload_n 3, 1) := by decide +kernel
theorem dX3_price_53 : decode cX3_price 53 = .ok (.ireturn, 1) := by decide +kernel
set_option maxRecDepth 20000 in
theorem ggX3_set_X3_within : GoodIn wsX3_set wsX3_within := goodIn_r _ [9] (by decide +kernel) (by decide +kernel)
set_option maxRecDepth 20000 in
theorem gX3_set_X3_within : GoodIn wsX3_set (va_wsS RX3 32 yX3_within wsX3_within) := goodIn_app (goodIn_of _ (by decide +kernel)) ggX3_set_X3_within
set_option maxRecDepth 20000 in
theorem ggX3_set_X1_forget : GoodIn wsX3_set wsX1_forget := goodIn_r _ [14, 15, 27, 28, 29, 30, 31, 32, 33, 34, 35, 36, 37, 38, 39] (by decide +kernel) (by decide +kernel)
set_option maxRecDepth 20000 in
theorem gX3_set_X1_forget : GoodIn wsX3_set (wsV RX3 42 RX1 yX1_forget wsX1_forget) := goodIn_app (goodIn_of _ (by decide +kernel)) ggX3_set_X1_forget
theorem dX3_set_0 : decode cX3_set 0 = .ok (.iload_n 1, 1) := by decide +kernel
theorem dX3_set_1 : decode cX3_set 1 = .ok (.iconst 0, 1) := by decide +kernel
theorem dX3_set_2 : decode cX3_set 2 = .ok (.bipush 6, 2) := by decide +kernel
theorem dX3_set_4 : decode cX3_set 4 = .ok (.invokestatic 32, 3) := by decide +kernel
theorem dX3_set_7 : decode cX3_set 7 = .ok (.ifCond .eq 20, 3) := by decide +kernel
theorem dX3_set_10 : decode cX3_set 10 = .ok (.iload_n 2, 1) := by decide +kernel
theorem dX3_set_11 : decode cX3_set 11 = .ok (.getstatic 61, 3) := by decide +kernel
theorem dX3_set_14 : decode cX3_set 14 = .ok (.iload_n 1, 1) := by decide +kernel
theorem dX3_set_15 : decode cX3_set 15 = .ok (.iaload, 1) := by decide +kernel
theorem dX3_set_16 : decode cX3_set 16 = .ok (.getstatic 64, 3) := by decide +kernel
theorem dX3_set_19 : decode cX3_set 19 = .ok (.iload_n 1, 1) := by decide +kernel
theorem dX3_set_20 : decode cX3_set 20 = .ok (.iaload, 1) := by decide +kernel
theorem dX3_set_21 : decode cX3_set 21 = .ok (.invokestatic 32, 3) := by decide +kernel
theorem dX3_set_24 : decode cX3_set 24 = .ok (.ifCond .ne 5, 3) := by decide +kernel
theorem dX3_set_27 : decode cX3_set 27 = .ok (.iconst (-1), 1) := by decide +kernel
theorem dX3_set_28 : decode cX3_set 28 = .ok (.ireturn, 1) := by decide +kernel
theorem dX3_set_29 : decode cX3_set 29 = .ok (.aload_n 0, 1) := by decide +kernel
theorem dX3_set_30 : decode cX3_set 30 = .ok (.getfield 20, 3) := by decide +kernel
theorem dX3_set_33 : decode cX3_set 33 = .ok (.getfield 67, 3) := by decide +kernel
theorem dX3_set_36 : decode cX3_set 36 = .ok (.iload_n 1, 1) := by decide +kernel
theorem dX3_set_37 : decode cX3_set 37 = .ok (.iaload, 1) := by decide +kernel
theorem dX3_set_38 : decode cX3_set 38 = .ok (.istore_n 3, 1) := by decide +kernel
theorem dX3_set_39 : decode cX3_set 39 = .ok (.aload_n 0, 1) := by decide +kernel
theorem dX3_set_40 : decode cX3_set 40 = .ok (.getfield 20, 3) := by decide +kernel
theorem dX3_set_43 : decode cX3_set 43 = .ok (.getfield 67, 3) := by decide +kernel
theorem dX3_set_46 : decode cX3_set 46 = .ok (.iload_n 1, 1) := by decide +kernel
theorem dX3_set_47 : decode cX3_set 47 = .ok (.iload_n 2, 1) := by decide +kernel
theorem dX3_set_48 : decode cX3_set 48 = .ok (.iastore, 1) := by decide +kernel
theorem dX3_set_49 : decode cX3_set 49 = .ok (.aload_n 0, 1) := by decide +kernel
theorem dX3_set_50 : decode cX3_set 50 = .ok (.getfield 10, 3) := by decide +kernel
theorem dX3_set_53 : decode cX3_set 53 = .ok (.invokevirtual 42, 3) := by decide +kernel
theorem dX3_set_56 : decode cX3_set 56 = .ok (.iload_n 3, 1) := by decide +kernel
theorem dX3_set_57 : decode cX3_set 57 = .ok (.ireturn, 1) := by decide +kernel
set_option maxRecDepth 20000 in
theorem ggX3_cost_X3_within : GoodIn wsX3_cost wsX3_within := goodIn_r _ [7] (by decide +kernel) (by decide +kernel)
set_option maxRecDepth 20000 in
theorem gX3_cost_X3_within : GoodIn wsX3_cost (va_wsS RX3 32 yX3_within wsX3_within) := goodIn_app (goodIn_of _ (by decide +kernel)) ggX3_cost_X3_within
set_option maxRecDepth 20000 in
theorem ggX3_cost_X0_has : GoodIn wsX3_cost wsX0_has := goodIn_r _ [12, 13, 33, 34, 35, 36, 37, 38, 39] (by decide +kernel) (by decide +kernel)
set_option maxRecDepth 20000 in
theorem gX3_cost_X0_has : GoodIn wsX3_cost (wsV RX3 49 RX0 yX0_has wsX0_has) := goodIn_app (goodIn_of _ (by decide +kernel)) ggX3_cost_X0_has
set_option maxRecDepth 20000 in
theorem ggX3_cost_X0_sideTowards : GoodIn wsX3_cost wsX0_sideTowards := goodIn_r _ [17, 18, 33, 34, 35, 36, 37, 38, 39] (by decide +kernel) (by decide +kernel)
set_option maxRecDepth 20000 in
theorem gX3_cost_X0_sideTowards : GoodIn wsX3_cost (wsV RX3 70 RX0 yX0_sideTowards wsX0_sideTowards) := goodIn_app (goodIn_of _ (by decide +kernel)) ggX3_cost_X0_sideTowards
set_option maxRecDepth 20000 in
theorem ggX3_cost_X0_seamCost : GoodIn wsX3_cost wsX0_seamCost := goodIn_r _ [22, 23, 24, 25, 26, 27, 28, 33, 34, 35, 36, 37, 38, 39] (by decide +kernel) (by decide +kernel)
set_option maxRecDepth 20000 in
theorem gX3_cost_X0_seamCost : GoodIn wsX3_cost (wsV RX3 77 RX0 yX0_seamCost wsX0_seamCost) := goodIn_app (goodIn_of _ (by decide +kernel)) ggX3_cost_X0_seamCost
theorem dX3_cost_0 : decode cX3_cost 0 = .ok (.iload_n 1, 1) := by decide +kernel
theorem dX3_cost_1 : decode cX3_cost 1 = .ok (.iconst 0, 1) := by decide +kernel
theorem dX3_cost_2 : decode cX3_cost 2 = .ok (.iconst 2, 1) := by decide +kernel
theorem dX3_cost_3 : decode cX3_cost 3 = .ok (.invokestatic 32, 3) := by decide +kernel
theorem dX3_cost_6 : decode cX3_cost 6 = .ok (.ifCond .eq 25, 3) := by decide +kernel
theorem dX3_cost_9 : decode cX3_cost 9 = .ok (.aload_n 0, 1) := by decide +kernel
theorem dX3_cost_10 : decode cX3_cost 10 = .ok (.getfield 20, 3) := by decide +kernel
theorem dX3_cost_13 : decode cX3_cost 13 = .ok (.iload_n 2, 1) := by decide +kernel
theorem dX3_cost_14 : decode cX3_cost 14 = .ok (.invokevirtual 49, 3) := by decide +kernel
theorem dX3_cost_17 : decode cX3_cost 17 = .ok (.ifCond .eq 14, 3) := by decide +kernel
theorem dX3_cost_20 : decode cX3_cost 20 = .ok (.aload_n 0, 1) := by decide +kernel
theorem dX3_cost_21 : decode cX3_cost 21 = .ok (.getfield 20, 3) := by decide +kernel
theorem dX3_cost_24 : decode cX3_cost 24 = .ok (.iload_n 3, 1) := by decide +kernel
theorem dX3_cost_25 : decode cX3_cost 25 = .ok (.invokevirtual 49, 3) := by decide +kernel
theorem dX3_cost_28 : decode cX3_cost 28 = .ok (.ifCond .ne 5, 3) := by decide +kernel
theorem dX3_cost_31 : decode cX3_cost 31 = .ok (.iconst (-1), 1) := by decide +kernel
theorem dX3_cost_32 : decode cX3_cost 32 = .ok (.ireturn, 1) := by decide +kernel
theorem dX3_cost_33 : decode cX3_cost 33 = .ok (.aload_n 0, 1) := by decide +kernel
theorem dX3_cost_34 : decode cX3_cost 34 = .ok (.getfield 20, 3) := by decide +kernel
theorem dX3_cost_37 : decode cX3_cost 37 = .ok (.iload_n 2, 1) := by decide +kernel
theorem dX3_cost_38 : decode cX3_cost 38 = .ok (.iload_n 3, 1) := by decide +kernel
theorem dX3_cost_39 : decode cX3_cost 39 = .ok (.invokevirtual 70, 3) := by decide +kernel
theorem dX3_cost_42 : decode cX3_cost 42 = .ok (.istore 4, 2) := by decide +kernel
theorem dX3_cost_44 : decode cX3_cost 44 = .ok (.iload 4, 2) := by decide +kernel
theorem dX3_cost_46 : decode cX3_cost 46 = .ok (.iconst (-1), 1) := by decide +kernel
theorem dX3_cost_47 : decode cX3_cost 47 = .ok (.if_icmp .ne 5, 3) := by decide +kernel
theorem dX3_cost_50 : decode cX3_cost 50 = .ok (.iconst (-1), 1) := by decide +kernel
theorem dX3_cost_51 : decode cX3_cost 51 = .ok (.ireturn, 1) := by decide +kernel
theorem dX3_cost_52 : decode cX3_cost 52 = .ok (.aload_n 0, 1) := by decide +kernel
theorem dX3_cost_53 : decode cX3_cost 53 = .ok (.dup, 1) := by decide +kernel
theorem dX3_cost_54 : decode cX3_cost 54 = .ok (.getfield 28, 3) := by decide +kernel
theorem dX3_cost_57 : decode cX3_cost 57 = .ok (.getstatic 74, 3) := by decide +kernel
theorem dX3_cost_60 : decode cX3_cost 60 = .ok (.iload_n 1, 1) := by decide +kernel
theorem dX3_cost_61 : decode cX3_cost 61 = .ok (.iaload, 1) := by decide +kernel
theorem dX3_cost_62 : decode cX3_cost 62 = .ok (.i2l, 1) := by decide +kernel
theorem dX3_cost_63 : decode cX3_cost 63 = .ok (.ladd, 1) := by decide +kernel
theorem dX3_cost_64 : decode cX3_cost 64 = .ok (.putfield 28, 3) := by decide +kernel
theorem dX3_cost_67 : decode cX3_cost 67 = .ok (.aload_n 0, 1) := by decide +kernel
theorem dX3_cost_68 : decode cX3_cost 68 = .ok (.getfield 20, 3) := by decide +kernel
theorem dX3_cost_71 : decode cX3_cost 71 = .ok (.iload_n 1, 1) := by decide +kernel
theorem dX3_cost_72 : decode cX3_cost 72 = .ok (.iload_n 2, 1) := by decide +kernel
theorem dX3_cost_73 : decode cX3_cost 73 = .ok (.iload 4, 2) := by decide +kernel
theorem dX3_cost_75 : decode cX3_cost 75 = .ok (.invokevirtual 77, 3) := by decide +kernel
theorem dX3_cost_78 : decode cX3_cost 78 = .ok (.ireturn, 1) := by decide +kernel
set_option maxRecDepth 20000 in
theorem ggX3_skin_X0_isSet : GoodIn wsX3_skin wsX0_isSet := goodIn_r _ [7, 8, 9, 10, 11, 6, 12, 13, 40, 41, 42, 43, 44, 45, 46] (by decide +kernel) (by decide +kernel)
set_option maxRecDepth 20000 in
theorem gX3_skin_X0_isSet : GoodIn wsX3_skin (wsV RX3 81 RX0 yX0_isSet wsX0_isSet) := goodIn_app (goodIn_of _ (by decide +kernel)) ggX3_skin_X0_isSet
set_option maxRecDepth 20000 in
theorem ggX3_skin_X0_skinOf : GoodIn wsX3_skin wsX0_skinOf := goodIn_r _ [17, 13, 18, 19, 6, 20, 21, 22, 23, 24, 25, 26, 27, 28, 29, 30, 31, 32, 33, 34, 35, 40, 41, 42, 43, 44, 45, 46] (by decide +kernel) (by decide +kernel)
set_option maxRecDepth 20000 in
theorem gX3_skin_X0_skinOf : GoodIn wsX3_skin (wsV RX3 85 RX0 yX0_skinOf wsX0_skinOf) := goodIn_app (goodIn_of _ (by decide +kernel)) ggX3_skin_X0_skinOf
theorem dX3_skin_0 : decode cX3_skin 0 = .ok (.aload_n 0, 1) := by decide +kernel
theorem dX3_skin_1 : decode cX3_skin 1 = .ok (.getfield 20, 3) := by decide +kernel
theorem dX3_skin_4 : decode cX3_skin 4 = .ok (.lload_n 1, 1) := by decide +kernel
theorem dX3_skin_5 : decode cX3_skin 5 = .ok (.invokevirtual 81, 3) := by decide +kernel
theorem dX3_skin_8 : decode cX3_skin 8 = .ok (.ifCond .eq 14, 3) := by decide +kernel
theorem dX3_skin_11 : decode cX3_skin 11 = .ok (.aload_n 0, 1) := by decide +kernel
theorem dX3_skin_12 : decode cX3_skin 12 = .ok (.getfield 20, 3) := by decide +kernel
theorem dX3_skin_15 : decode cX3_skin 15 = .ok (.lload_n 1, 1) := by decide +kernel
theorem dX3_skin_16 : decode cX3_skin 16 = .ok (.invokevirtual 85, 3) := by decide +kernel
theorem dX3_skin_19 : decode cX3_skin 19 = .ok (.goto 6, 3) := by decide +kernel
theorem dX3_skin_22 : decode cX3_skin 22 = .ok (.ldc2_w 89, 3) := by decide +kernel
theorem dX3_skin_25 : decode cX3_skin 25 = .ok (.lreturn, 1) := by decide +kernel
set_option maxRecDepth 20000 in
theorem ggX3_all_X0_isSet : GoodIn wsX3_all wsX0_isSet := goodIn_r _ [7, 8, 9, 10, 11, 6, 12, 13, 45, 46, 47, 48, 49, 50, 51] (by decide +kernel) (by decide +kernel)
set_option maxRecDepth 20000 in
theorem gX3_all_X0_isSet : GoodIn wsX3_all (wsV RX3 81 RX0 yX0_isSet wsX0_isSet) := goodIn_app (goodIn_of _ (by decide +kernel)) ggX3_all_X0_isSet
set_option maxRecDepth 20000 in
theorem ggX3_all_X0_skinOf : GoodIn wsX3_all wsX0_skinOf := goodIn_r _ [17, 13, 18, 19, 6, 20, 21, 22, 23, 24, 25, 26, 27, 28, 29, 30, 31, 32, 33, 34, 35, 45, 46, 47, 48, 49, 50, 51] (by decide +kernel) (by decide +kernel)
set_option maxRecDepth 20000 in
theorem gX3_all_X0_skinOf : GoodIn wsX3_all (wsV RX3 85 RX0 yX0_skinOf wsX0_skinOf) := goodIn_app (goodIn_of _ (by decide +kernel)) ggX3_all_X0_skinOf
set_option maxRecDepth 20000 in
theorem ggX3_all_X0_pricesOf : GoodIn wsX3_all wsX0_pricesOf := goodIn_r _ [39, 13, 40, 18, 19, 6, 20, 45, 46, 47, 48, 49, 50, 51] (by decide +kernel) (by decide +kernel)
set_option maxRecDepth 20000 in
theorem gX3_all_X0_pricesOf : GoodIn wsX3_all (wsV RX3 91 RX0 yX0_pricesOf wsX0_pricesOf) := goodIn_app (goodIn_of _ (by decide +kernel)) ggX3_all_X0_pricesOf
theorem dX3_all_0 : decode cX3_all 0 = .ok (.aload_n 0, 1) := by decide +kernel
theorem dX3_all_1 : decode cX3_all 1 = .ok (.getfield 20, 3) := by decide +kernel
theorem dX3_all_4 : decode cX3_all 4 = .ok (.lload_n 1, 1) := by decide +kernel
theorem dX3_all_5 : decode cX3_all 5 = .ok (.invokevirtual 81, 3) := by decide +kernel
theorem dX3_all_8 : decode cX3_all 8 = .ok (.ifCond .eq 23, 3) := by decide +kernel
theorem dX3_all_11 : decode cX3_all 11 = .ok (.aload_n 0, 1) := by decide +kernel
theorem dX3_all_12 : decode cX3_all 12 = .ok (.getfield 20, 3) := by decide +kernel
theorem dX3_all_15 : decode cX3_all 15 = .ok (.lload_n 1, 1) := by decide +kernel
theorem dX3_all_16 : decode cX3_all 16 = .ok (.invokevirtual 85, 3) := by decide +kernel
theorem dX3_all_19 : decode cX3_all 19 = .ok (.aload_n 0, 1) := by decide +kernel
theorem dX3_all_20 : decode cX3_all 20 = .ok (.getfield 20, 3) := by decide +kernel
theorem dX3_all_23 : decode cX3_all 23 = .ok (.lload_n 1, 1) := by decide +kernel
theorem dX3_all_24 : decode cX3_all 24 = .ok (.invokevirtual 91, 3) := by decide +kernel
theorem dX3_all_27 : decode cX3_all 27 = .ok (.ladd, 1) := by decide +kernel
theorem dX3_all_28 : decode cX3_all 28 = .ok (.goto 6, 3) := by decide +kernel
theorem dX3_all_31 : decode cX3_all 31 = .ok (.ldc2_w 94, 3) := by decide +kernel
theorem dX3_all_34 : decode cX3_all 34 = .ok (.lreturn, 1) := by decide +kernel
set_option maxRecDepth 20000 in
theorem ggX3_right_X0_isSet : GoodIn wsX3_right wsX0_isSet := goodIn_r _ [6, 7, 8, 9, 10, 5, 11, 12, 25, 26, 27, 28, 29, 30, 31] (by decide +kernel) (by decide +kernel)
set_option maxRecDepth 20000 in
theorem gX3_right_X0_isSet : GoodIn wsX3_right (wsV RX3 81 RX0 yX0_isSet wsX0_isSet) := goodIn_app (goodIn_of _ (by decide +kernel)) ggX3_right_X0_isSet
set_option maxRecDepth 20000 in
theorem ggX3_right_X0_isRight : GoodIn wsX3_right wsX0_isRight := goodIn_r _ [16, 12, 17, 18, 19, 5, 20, 25, 26, 27, 28, 29, 30, 31] (by decide +kernel) (by decide +kernel)
set_option maxRecDepth 20000 in
theorem gX3_right_X0_isRight : GoodIn wsX3_right (wsV RX3 96 RX0 yX0_isRight wsX0_isRight) := goodIn_app (goodIn_of _ (by decide +kernel)) ggX3_right_X0_isRight
theorem dX3_right_0 : decode cX3_right 0 = .ok (.aload_n 0, 1) := by decide +kernel
theorem dX3_right_1 : decode cX3_right 1 = .ok (.getfield 20, 3) := by decide +kernel
theorem dX3_right_4 : decode cX3_right 4 = .ok (.lload_n 1, 1) := by decide +kernel
theorem dX3_right_5 : decode cX3_right 5 = .ok (.invokevirtual 81, 3) := by decide +kernel
theorem dX3_right_8 : decode cX3_right 8 = .ok (.ifCond .ne 5, 3) := by decide +kernel
theorem dX3_right_11 : decode cX3_right 11 = .ok (.iconst (-1), 1) := by decide +kernel
theorem dX3_right_12 : decode cX3_right 12 = .ok (.ireturn, 1) := by decide +kernel
theorem dX3_right_13 : decode cX3_right 13 = .ok (.aload_n 0, 1) := by decide +kernel
theorem dX3_right_14 : decode cX3_right 14 = .ok (.getfield 20, 3) := by decide +kernel
theorem dX3_right_17 : decode cX3_right 17 = .ok (.lload_n 1, 1) := by decide +kernel
theorem dX3_right_18 : decode cX3_right 18 = .ok (.invokevirtual 96, 3) := by decide +kernel
theorem dX3_right_21 : decode cX3_right 21 = .ok (.ifCond .eq 7, 3) := by decide +kernel
theorem dX3_right_24 : decode cX3_right 24 = .ok (.iconst 1, 1) := by decide +kernel
theorem dX3_right_25 : decode cX3_right 25 = .ok (.goto 4, 3) := by decide +kernel
theorem dX3_right_28 : decode cX3_right 28 = .ok (.iconst 0, 1) := by decide +kernel
theorem dX3_right_29 : decode cX3_right 29 = .ok (.ireturn, 1) := by decide +kernel
set_option maxRecDepth 20000 in
theorem ggX3_least_X1_settle : GoodIn wsX3_least wsX1_settle := goodIn_r _ [7, 8, 9, 10, 11, 12, 13, 14, 15, 16, 17, 6, 18, 19, 20, 21, 22, 23, 24, 25, 26, 27, 28, 29, 30, 31, 32, 33, 34, 35, 36, 37, 38, 39, 40, 41, 42, 43, 44, 45, 46, 47, 48, 49, 50, 51, 52, 53, 54, 55, 56, 57, 58, 59, 60, 61, 62, 63, 64, 65, 66, 67, 68, 69, 70, 71, 72, 73, 74, 75, 76, 77, 78, 79, 80, 81, 86, 87, 88, 89, 90, 91, 92, 93, 94, 95, 96, 97, 98, 99, 100, 101, 102, 103, 104, 105] (by decide +kernel) (by decide +kernel)
set_option maxRecDepth 20000 in
theorem gX3_least_X1_settle : GoodIn wsX3_least (wsV RX3 99 RX1 yX1_settle wsX1_settle) := goodIn_app (goodIn_of _ (by decide +kernel)) ggX3_least_X1_settle
theorem dX3_least_0 : decode cX3_least 0 = .ok (.aload_n 0, 1) := by decide +kernel
theorem dX3_least_1 : decode cX3_least 1 = .ok (.getfield 10, 3) := by decide +kernel
theorem dX3_least_4 : decode cX3_least 4 = .ok (.iconst 0, 1) := by decide +kernel
theorem dX3_least_5 : decode cX3_least 5 = .ok (.invokevirtual 99, 3) := by decide +kernel
theorem dX3_least_8 : decode cX3_least 8 = .ok (.aload_n 0, 1) := by decide +kernel
theorem dX3_least_9 : decode cX3_least 9 = .ok (.getfield 10, 3) := by decide +kernel
theorem dX3_least_12 : decode cX3_least 12 = .ok (.getfield 103, 3) := by decide +kernel
theorem dX3_least_15 : decode cX3_least 15 = .ok (.lreturn, 1) := by decide +kernel
set_option maxRecDepth 20000 in
theorem ggX3_film_X3_within : GoodIn wsX3_film wsX3_within := goodIn_r _ [8] (by decide +kernel) (by decide +kernel)
set_option maxRecDepth 20000 in
theorem gX3_film_X3_within : GoodIn wsX3_film (va_wsS RX3 32 yX3_within wsX3_within) := goodIn_app (goodIn_of _ (by decide +kernel)) ggX3_film_X3_within
set_option maxRecDepth 20000 in
theorem ggX3_film_X1_settle : GoodIn wsX3_film wsX1_settle := goodIn_r _ [13, 14, 15, 16, 17, 18, 19, 20, 21, 22, 23, 12, 24, 25, 26, 27, 28, 29, 30, 31, 32, 33, 34, 35, 36, 37, 38, 39, 40, 41, 42, 43, 44, 45, 46, 47, 48, 49, 50, 51, 52, 53, 54, 55, 56, 57, 58, 59, 60, 61, 62, 63, 64, 65, 66, 67, 68, 69, 70, 71, 72, 73, 74, 75, 76, 77, 78, 79, 80, 81, 82, 83, 84, 85, 86, 87, 92, 93, 94, 95, 96, 97, 98, 99, 100, 101, 102, 103, 104, 105, 106, 107, 108, 109, 110, 111] (by decide +kernel) (by decide +kernel)
set_option maxRecDepth 20000 in
theorem gX3_film_X1_settle : GoodIn wsX3_film (wsV RX3 99 RX1 yX1_settle wsX1_settle) := goodIn_app (goodIn_of _ (by decide +kernel)) ggX3_film_X1_settle
theorem dX3_film_0 : decode cX3_film 0 = .ok (.iload_n 1, 1) := by decide +kernel
theorem dX3_film_1 : decode cX3_film 1 = .ok (.iconst 0, 1) := by decide +kernel
theorem dX3_film_2 : decode cX3_film 2 = .ok (.iconst 1, 1) := by decide +kernel
theorem dX3_film_3 : decode cX3_film 3 = .ok (.invokestatic 32, 3) := by decide +kernel
theorem dX3_film_6 : decode cX3_film 6 = .ok (.ifCond .ne 7, 3) := by decide +kernel
theorem dX3_film_9 : decode cX3_film 9 = .ok (.ldc2_w 89, 3) := by decide +kernel
theorem dX3_film_12 : decode cX3_film 12 = .ok (.lreturn, 1) := by decide +kernel
theorem dX3_film_13 : decode cX3_film 13 = .ok (.aload_n 0, 1) := by decide +kernel
theorem dX3_film_14 : decode cX3_film 14 = .ok (.getfield 10, 3) := by decide +kernel
theorem dX3_film_17 : decode cX3_film 17 = .ok (.iconst 0, 1) := by decide +kernel
theorem dX3_film_18 : decode cX3_film 18 = .ok (.invokevirtual 99, 3) := by decide +kernel
theorem dX3_film_21 : decode cX3_film 21 = .ok (.iload_n 1, 1) := by decide +kernel
theorem dX3_film_22 : decode cX3_film 22 = .ok (.ifCond .ne 13, 3) := by decide +kernel
theorem dX3_film_25 : decode cX3_film 25 = .ok (.aload_n 0, 1) := by decide +kernel
theorem dX3_film_26 : decode cX3_film 26 = .ok (.getfield 10, 3) := by decide +kernel
theorem dX3_film_29 : decode cX3_film 29 = .ok (.getfield 106, 3) := by decide +kernel
theorem dX3_film_32 : decode cX3_film 32 = .ok (.goto 10, 3) := by decide +kernel
theorem dX3_film_35 : decode cX3_film 35 = .ok (.aload_n 0, 1) := by decide +kernel
theorem dX3_film_36 : decode cX3_film 36 = .ok (.getfield 10, 3) := by decide +kernel
theorem dX3_film_39 : decode cX3_film 39 = .ok (.getfield 109, 3) := by decide +kernel
theorem dX3_film_42 : decode cX3_film 42 = .ok (.lreturn, 1) := by decide +kernel
set_option maxRecDepth 20000 in
theorem ggX3_room_X3_within : GoodIn wsX3_room wsX3_within := goodIn_r _ [7] (by decide +kernel) (by decide +kernel)
set_option maxRecDepth 20000 in
theorem gX3_room_X3_within : GoodIn wsX3_room (va_wsS RX3 32 yX3_within wsX3_within) := goodIn_app (goodIn_of _ (by decide +kernel)) ggX3_room_X3_within
set_option maxRecDepth 20000 in
theorem ggX3_room_X1_settle : GoodIn wsX3_room wsX1_settle := goodIn_r _ [12, 13, 14, 15, 16, 17, 18, 19, 20, 21, 22, 11, 23, 24, 25, 26, 27, 28, 29, 30, 31, 32, 33, 34, 35, 36, 37, 38, 39, 40, 41, 42, 43, 44, 45, 46, 47, 48, 49, 50, 51, 52, 53, 54, 55, 56, 57, 58, 59, 60, 61, 62, 63, 64, 65, 66, 67, 68, 69, 70, 71, 72, 73, 74, 75, 76, 77, 78, 79, 80, 81, 82, 83, 84, 85, 86, 98, 99, 100, 101, 102, 103, 104, 105, 106, 107, 108, 109, 110, 111, 112, 113, 114, 115, 116, 117] (by decide +kernel) (by decide +kernel)
set_option maxRecDepth 20000 in
theorem gX3_room_X1_settle : GoodIn wsX3_room (wsV RX3 99 RX1 yX1_settle wsX1_settle) := goodIn_app (goodIn_of _ (by decide +kernel)) ggX3_room_X1_settle
set_option maxRecDepth 20000 in
theorem ggX3_room_J13_bitCount_95d88 : GoodIn wsX3_room wsJ13_bitCount_95d88 := goodIn_r _ [90, 91, 92, 93] (by decide +kernel) (by decide +kernel)
set_option maxRecDepth 20000 in
theorem gX3_room_J13_bitCount_95d88 : GoodIn wsX3_room (va_wsS RX3 112 yJ13_bitCount_95d88 wsJ13_bitCount_95d88) := goodIn_app (goodIn_of _ (by decide +kernel)) ggX3_room_J13_bitCount_95d88
theorem dX3_room_0 : decode cX3_room 0 = .ok (.iload_n 1, 1) := by decide +kernel
theorem dX3_room_1 : decode cX3_room 1 = .ok (.bipush (-60), 2) := by decide +kernel
theorem dX3_room_3 : decode cX3_room 3 = .ok (.bipush 60, 2) := by decide +kernel
theorem dX3_room_5 : decode cX3_room 5 = .ok (.invokestatic 32, 3) := by decide +kernel
theorem dX3_room_8 : decode cX3_room 8 = .ok (.ifCond .eq 12, 3) := by decide +kernel
theorem dX3_room_11 : decode cX3_room 11 = .ok (.iload_n 2, 1) := by decide +kernel
theorem dX3_room_12 : decode cX3_room 12 = .ok (.iconst 0, 1) := by decide +kernel
theorem dX3_room_13 : decode cX3_room 13 = .ok (.iconst 1, 1) := by decide +kernel
theorem dX3_room_14 : decode cX3_room 14 = .ok (.invokestatic 32, 3) := by decide +kernel
theorem dX3_room_17 : decode cX3_room 17 = .ok (.ifCond .ne 5, 3) := by decide +kernel
theorem dX3_room_20 : decode cX3_room 20 = .ok (.iconst (-1), 1) := by decide +kernel
theorem dX3_room_21 : decode cX3_room 21 = .ok (.ireturn, 1) := by decide +kernel
theorem dX3_room_22 : decode cX3_room 22 = .ok (.aload_n 0, 1) := by decide +kernel
theorem dX3_room_23 : decode cX3_room 23 = .ok (.getfield 10, 3) := by decide +kernel
theorem dX3_room_26 : decode cX3_room 26 = .ok (.iload_n 1, 1) := by decide +kernel
theorem dX3_room_27 : decode cX3_room 27 = .ok (.invokevirtual 99, 3) := by decide +kernel
theorem dX3_room_30 : decode cX3_room 30 = .ok (.iload_n 2, 1) := by decide +kernel
theorem dX3_room_31 : decode cX3_room 31 = .ok (.ifCond .ne 13, 3) := by decide +kernel
theorem dX3_room_34 : decode cX3_room 34 = .ok (.aload_n 0, 1) := by decide +kernel
theorem dX3_room_35 : decode cX3_room 35 = .ok (.getfield 10, 3) := by decide +kernel
theorem dX3_room_38 : decode cX3_room 38 = .ok (.getfield 106, 3) := by decide +kernel
theorem dX3_room_41 : decode cX3_room 41 = .ok (.goto 10, 3) := by decide +kernel
theorem dX3_room_44 : decode cX3_room 44 = .ok (.aload_n 0, 1) := by decide +kernel
theorem dX3_room_45 : decode cX3_room 45 = .ok (.getfield 10, 3) := by decide +kernel
theorem dX3_room_48 : decode cX3_room 48 = .ok (.getfield 109, 3) := by decide +kernel
theorem dX3_room_51 : decode cX3_room 51 = .ok (.invokestatic 112, 3) := by decide +kernel
theorem dX3_room_54 : decode cX3_room 54 = .ok (.ireturn, 1) := by decide +kernel
set_option maxRecDepth 20000 in
theorem ggX3_many_X0_freeCells : GoodIn wsX3_many wsX0_freeCells := goodIn_r _ [7, 8, 9, 115, 116, 117, 118, 119, 120, 121] (by decide +kernel) (by decide +kernel)
set_option maxRecDepth 20000 in
theorem gX3_many_X0_freeCells : GoodIn wsX3_many (wsV RX3 118 RX0 yX0_freeCells wsX0_freeCells) := goodIn_app (goodIn_of _ (by decide +kernel)) ggX3_many_X0_freeCells
set_option maxRecDepth 20000 in
theorem ggX3_many_X1_settle : GoodIn wsX3_many wsX1_settle := goodIn_r _ [14, 15, 16, 17, 18, 19, 20, 21, 22, 23, 24, 13, 25, 26, 27, 28, 29, 30, 31, 32, 33, 6, 34, 35, 36, 37, 38, 39, 40, 41, 42, 43, 44, 45, 46, 47, 48, 49, 50, 51, 52, 53, 54, 55, 56, 57, 58, 59, 60, 61, 62, 63, 64, 65, 66, 67, 68, 69, 70, 71, 72, 73, 74, 75, 76, 77, 78, 79, 80, 81, 82, 83, 84, 85, 86, 8, 122, 123, 124, 125, 126, 127, 128, 129, 130, 131, 132, 133, 134, 115, 116, 117, 118, 119, 120, 121] (by decide +kernel) (by decide +kernel)
set_option maxRecDepth 20000 in
theorem gX3_many_X1_settle : GoodIn wsX3_many (wsV RX3 99 RX1 yX1_settle wsX1_settle) := goodIn_app (goodIn_of _ (by decide +kernel)) ggX3_many_X1_settle
set_option maxRecDepth 20000 in
theorem ggX3_many_X1_leastSets : GoodIn wsX3_many wsX1_leastSets := goodIn_r _ [90, 18, 59, 19, 91, 92, 93, 13, 94, 27, 21, 20, 95, 96, 6, 97, 98, 99, 100, 101, 102, 103, 104, 31, 32, 33, 34, 35, 36, 37, 105, 106, 107, 108, 109, 46, 47, 48, 49, 50, 51, 52, 53, 110, 122, 123, 124, 125, 126, 127, 128, 129, 130, 131, 132, 133, 134, 115, 116, 117, 118, 119, 120, 121] (by decide +kernel) (by decide +kernel)
set_option maxRecDepth 20000 in
theorem gX3_many_X1_leastSets : GoodIn wsX3_many (wsV RX3 122 RX1 yX1_leastSets wsX1_leastSets) := goodIn_app (goodIn_of _ (by decide +kernel)) ggX3_many_X1_leastSets
theorem dX3_many_0 : decode cX3_many 0 = .ok (.aload_n 0, 1) := by decide +kernel
theorem dX3_many_1 : decode cX3_many 1 = .ok (.getfield 20, 3) := by decide +kernel
theorem dX3_many_4 : decode cX3_many 4 = .ok (.invokevirtual 118, 3) := by decide +kernel
theorem dX3_many_7 : decode cX3_many 7 = .ok (.bipush 12, 2) := by decide +kernel
theorem dX3_many_9 : decode cX3_many 9 = .ok (.if_icmp .le 6, 3) := by decide +kernel
theorem dX3_many_12 : decode cX3_many 12 = .ok (.bipush (-2), 2) := by decide +kernel
theorem dX3_many_14 : decode cX3_many 14 = .ok (.ireturn, 1) := by decide +kernel
theorem dX3_many_15 : decode cX3_many 15 = .ok (.aload_n 0, 1) := by decide +kernel
theorem dX3_many_16 : decode cX3_many 16 = .ok (.getfield 10, 3) := by decide +kernel
theorem dX3_many_19 : decode cX3_many 19 = .ok (.iconst 0, 1) := by decide +kernel
theorem dX3_many_20 : decode cX3_many 20 = .ok (.invokevirtual 99, 3) := by decide +kernel
theorem dX3_many_23 : decode cX3_many 23 = .ok (.aload_n 0, 1) := by decide +kernel
theorem dX3_many_24 : decode cX3_many 24 = .ok (.getfield 10, 3) := by decide +kernel
theorem dX3_many_27 : decode cX3_many 27 = .ok (.invokevirtual 122, 3) := by decide +kernel
theorem dX3_many_30 : decode cX3_many 30 = .ok (.ireturn, 1) := by decide +kernel
set_option maxRecDepth 20000 in
theorem ggX3_net_X3_within : GoodIn wsX3_net wsX3_within := goodIn_r _ [5] (by decide +kernel) (by decide +kernel)
set_option maxRecDepth 20000 in
theorem gX3_net_X3_within : GoodIn wsX3_net (va_wsS RX3 32 yX3_within wsX3_within) := goodIn_app (goodIn_of _ (by decide +kernel)) ggX3_net_X3_within
set_option maxRecDepth 20000 in
theorem ggX3_net_X2_spread : GoodIn wsX3_net wsX2_spread := goodIn_r _ [10, 11, 12, 13, 14, 15, 16, 17, 18, 19, 20, 21, 9, 22, 31, 32, 33, 34, 35] (by decide +kernel) (by decide +kernel)
set_option maxRecDepth 20000 in
theorem gX3_net_X2_spread : GoodIn wsX3_net (wsV RX3 125 RX2 yX2_spread wsX2_spread) := goodIn_app (goodIn_of _ (by decide +kernel)) ggX3_net_X2_spread
set_option maxRecDepth 20000 in
theorem ggX3_net_X2_pins : GoodIn wsX3_net wsX2_pins := goodIn_r _ [26, 12, 11, 14, 19, 20, 21, 9, 22, 31, 32, 33, 34, 35] (by decide +kernel) (by decide +kernel)
set_option maxRecDepth 20000 in
theorem gX3_net_X2_pins : GoodIn wsX3_net (wsV RX3 129 RX2 yX2_pins wsX2_pins) := goodIn_app (goodIn_of _ (by decide +kernel)) ggX3_net_X2_pins
theorem dX3_net_0 : decode cX3_net 0 = .ok (.iload_n 1, 1) := by decide +kernel
theorem dX3_net_1 : decode cX3_net 1 = .ok (.iconst 2, 1) := by decide +kernel
theorem dX3_net_2 : decode cX3_net 2 = .ok (.bipush 8, 2) := by decide +kernel
theorem dX3_net_4 : decode cX3_net 4 = .ok (.invokestatic 32, 3) := by decide +kernel
theorem dX3_net_7 : decode cX3_net 7 = .ok (.ifCond .eq 13, 3) := by decide +kernel
theorem dX3_net_10 : decode cX3_net 10 = .ok (.iload_n 2, 1) := by decide +kernel
theorem dX3_net_11 : decode cX3_net 11 = .ok (.iconst 2, 1) := by decide +kernel
theorem dX3_net_12 : decode cX3_net 12 = .ok (.bipush 8, 2) := by decide +kernel
theorem dX3_net_14 : decode cX3_net 14 = .ok (.invokestatic 32, 3) := by decide +kernel
theorem dX3_net_17 : decode cX3_net 17 = .ok (.ifCond .ne 5, 3) := by decide +kernel
theorem dX3_net_20 : decode cX3_net 20 = .ok (.iconst (-1), 1) := by decide +kernel
theorem dX3_net_21 : decode cX3_net 21 = .ok (.ireturn, 1) := by decide +kernel
theorem dX3_net_22 : decode cX3_net 22 = .ok (.aload_n 0, 1) := by decide +kernel
theorem dX3_net_23 : decode cX3_net 23 = .ok (.getfield 24, 3) := by decide +kernel
theorem dX3_net_26 : decode cX3_net 26 = .ok (.iload_n 1, 1) := by decide +kernel
theorem dX3_net_27 : decode cX3_net 27 = .ok (.iload_n 2, 1) := by decide +kernel
theorem dX3_net_28 : decode cX3_net 28 = .ok (.invokevirtual 125, 3) := by decide +kernel
theorem dX3_net_31 : decode cX3_net 31 = .ok (.iload_n 1, 1) := by decide +kernel
theorem dX3_net_32 : decode cX3_net 32 = .ok (.iload_n 2, 1) := by decide +kernel
theorem dX3_net_33 : decode cX3_net 33 = .ok (.imul, 1) := by decide +kernel
theorem dX3_net_34 : decode cX3_net 34 = .ok (.aload_n 0, 1) := by decide +kernel
theorem dX3_net_35 : decode cX3_net 35 = .ok (.getfield 24, 3) := by decide +kernel
theorem dX3_net_38 : decode cX3_net 38 = .ok (.invokevirtual 129, 3) := by decide +kernel
theorem dX3_net_41 : decode cX3_net 41 = .ok (.isub, 1) := by decide +kernel
theorem dX3_net_42 : decode cX3_net 42 = .ok (.ireturn, 1) := by decide +kernel
set_option maxRecDepth 20000 in
theorem ggX3_lift_X2_has : GoodIn wsX3_lift wsX2_has := goodIn_r _ [8, 9, 10, 23, 24, 25, 26, 27] (by decide +kernel) (by decide +kernel)
set_option maxRecDepth 20000 in
theorem gX3_lift_X2_has : GoodIn wsX3_lift (wsV RX3 132 RX2 yX2_has wsX2_has) := goodIn_app (goodIn_of _ (by decide +kernel)) ggX3_lift_X2_has
set_option maxRecDepth 20000 in
theorem ggX3_lift_X3_within : GoodIn wsX3_lift wsX3_within := goodIn_r _ [14] (by decide +kernel) (by decide +kernel)
set_option maxRecDepth 20000 in
theorem gX3_lift_X3_within : GoodIn wsX3_lift (va_wsS RX3 32 yX3_within wsX3_within) := goodIn_app (goodIn_of _ (by decide +kernel)) ggX3_lift_X3_within
set_option maxRecDepth 20000 in
theorem ggX3_lift_X2_at : GoodIn wsX3_lift wsX2_at := goodIn_r _ [18] (by decide +kernel) (by decide +kernel)
set_option maxRecDepth 20000 in
theorem gX3_lift_X2_at : GoodIn wsX3_lift (wsV RX3 135 RX2 yX2_at wsX2_at) := goodIn_app (goodIn_of _ (by decide +kernel)) ggX3_lift_X2_at
theorem dX3_lift_0 : decode cX3_lift 0 = .ok (.aload_n 0, 1) := by decide +kernel
theorem dX3_lift_1 : decode cX3_lift 1 = .ok (.getfield 24, 3) := by decide +kernel
theorem dX3_lift_4 : decode cX3_lift 4 = .ok (.iload_n 1, 1) := by decide +kernel
theorem dX3_lift_5 : decode cX3_lift 5 = .ok (.iload_n 2, 1) := by decide +kernel
theorem dX3_lift_6 : decode cX3_lift 6 = .ok (.invokevirtual 132, 3) := by decide +kernel
theorem dX3_lift_9 : decode cX3_lift 9 = .ok (.ifCond .eq 14, 3) := by decide +kernel
theorem dX3_lift_12 : decode cX3_lift 12 = .ok (.iload_n 3, 1) := by decide +kernel
theorem dX3_lift_13 : decode cX3_lift 13 = .ok (.bipush (-100), 2) := by decide +kernel
theorem dX3_lift_15 : decode cX3_lift 15 = .ok (.bipush 100, 2) := by decide +kernel
theorem dX3_lift_17 : decode cX3_lift 17 = .ok (.invokestatic 32, 3) := by decide +kernel
theorem dX3_lift_20 : decode cX3_lift 20 = .ok (.ifCond .ne 6, 3) := by decide +kernel
theorem dX3_lift_23 : decode cX3_lift 23 = .ok (.ldc 57, 2) := by decide +kernel
theorem dX3_lift_25 : decode cX3_lift 25 = .ok (.ireturn, 1) := by decide +kernel
theorem dX3_lift_26 : decode cX3_lift 26 = .ok (.aload_n 0, 1) := by decide +kernel
theorem dX3_lift_27 : decode cX3_lift 27 = .ok (.getfield 24, 3) := by decide +kernel
theorem dX3_lift_30 : decode cX3_lift 30 = .ok (.iload_n 1, 1) := by decide +kernel
theorem dX3_lift_31 : decode cX3_lift 31 = .ok (.iload_n 2, 1) := by decide +kernel
theorem dX3_lift_32 : decode cX3_lift 32 = .ok (.invokevirtual 135, 3) := by decide +kernel
theorem dX3_lift_35 : decode cX3_lift 35 = .ok (.istore 4, 2) := by decide +kernel
theorem dX3_lift_37 : decode cX3_lift 37 = .ok (.aload_n 0, 1) := by decide +kernel
theorem dX3_lift_38 : decode cX3_lift 38 = .ok (.getfield 24, 3) := by decide +kernel
theorem dX3_lift_41 : decode cX3_lift 41 = .ok (.getfield 138, 3) := by decide +kernel
theorem dX3_lift_44 : decode cX3_lift 44 = .ok (.iload 4, 2) := by decide +kernel
theorem dX3_lift_46 : decode cX3_lift 46 = .ok (.iaload, 1) := by decide +kernel
theorem dX3_lift_47 : decode cX3_lift 47 = .ok (.istore 5, 2) := by decide +kernel
theorem dX3_lift_49 : decode cX3_lift 49 = .ok (.aload_n 0, 1) := by decide +kernel
theorem dX3_lift_50 : decode cX3_lift 50 = .ok (.getfield 24, 3) := by decide +kernel
theorem dX3_lift_53 : decode cX3_lift 53 = .ok (.getfield 138, 3) := by decide +kernel
theorem dX3_lift_56 : decode cX3_lift 56 = .ok (.iload 4, 2) := by decide +kernel
theorem dX3_lift_58 : decode cX3_lift 58 = .ok (.iload_n 3, 1) := by decide +kernel
theorem dX3_lift_59 : decode cX3_lift 59 = .ok (.iastore, 1) := by decide +kernel
theorem dX3_lift_60 : decode cX3_lift 60 = .ok (.iload 5, 2) := by decide +kernel
theorem dX3_lift_62 : decode cX3_lift 62 = .ok (.ireturn, 1) := by decide +kernel
set_option maxRecDepth 20000 in
theorem ggX3_pin_X2_has : GoodIn wsX3_pin wsX2_has := goodIn_r _ [7, 8, 9, 18, 19, 20, 21, 22] (by decide +kernel) (by decide +kernel)
set_option maxRecDepth 20000 in
theorem gX3_pin_X2_has : GoodIn wsX3_pin (wsV RX3 132 RX2 yX2_has wsX2_has) := goodIn_app (goodIn_of _ (by decide +kernel)) ggX3_pin_X2_has
set_option maxRecDepth 20000 in
theorem ggX3_pin_X2_at : GoodIn wsX3_pin wsX2_at := goodIn_r _ [13] (by decide +kernel) (by decide +kernel)
set_option maxRecDepth 20000 in
theorem gX3_pin_X2_at : GoodIn wsX3_pin (wsV RX3 135 RX2 yX2_at wsX2_at) := goodIn_app (goodIn_of _ (by decide +kernel)) ggX3_pin_X2_at
theorem dX3_pin_0 : decode cX3_pin 0 = .ok (.aload_n 0, 1) := by decide +kernel
theorem dX3_pin_1 : decode cX3_pin 1 = .ok (.getfield 24, 3) := by decide +kernel
theorem dX3_pin_4 : decode cX3_pin 4 = .ok (.iload_n 1, 1) := by decide +kernel
theorem dX3_pin_5 : decode cX3_pin 5 = .ok (.iload_n 2, 1) := by decide +kernel
theorem dX3_pin_6 : decode cX3_pin 6 = .ok (.invokevirtual 132, 3) := by decide +kernel
theorem dX3_pin_9 : decode cX3_pin 9 = .ok (.ifCond .ne 5, 3) := by decide +kernel
theorem dX3_pin_12 : decode cX3_pin 12 = .ok (.iconst (-1), 1) := by decide +kernel
theorem dX3_pin_13 : decode cX3_pin 13 = .ok (.ireturn, 1) := by decide +kernel
theorem dX3_pin_14 : decode cX3_pin 14 = .ok (.aload_n 0, 1) := by decide +kernel
theorem dX3_pin_15 : decode cX3_pin 15 = .ok (.getfield 24, 3) := by decide +kernel
theorem dX3_pin_18 : decode cX3_pin 18 = .ok (.iload_n 1, 1) := by decide +kernel
theorem dX3_pin_19 : decode cX3_pin 19 = .ok (.iload_n 2, 1) := by decide +kernel
theorem dX3_pin_20 : decode cX3_pin 20 = .ok (.invokevirtual 135, 3) := by decide +kernel
theorem dX3_pin_23 : decode cX3_pin 23 = .ok (.istore 4, 2) := by decide +kernel
theorem dX3_pin_25 : decode cX3_pin 25 = .ok (.aload_n 0, 1) := by decide +kernel
theorem dX3_pin_26 : decode cX3_pin 26 = .ok (.getfield 24, 3) := by decide +kernel
theorem dX3_pin_29 : decode cX3_pin 29 = .ok (.getfield 141, 3) := by decide +kernel
theorem dX3_pin_32 : decode cX3_pin 32 = .ok (.iload 4, 2) := by decide +kernel
theorem dX3_pin_34 : decode cX3_pin 34 = .ok (.baload, 1) := by decide +kernel
theorem dX3_pin_35 : decode cX3_pin 35 = .ok (.ifCond .eq 7, 3) := by decide +kernel
theorem dX3_pin_38 : decode cX3_pin 38 = .ok (.iconst 1, 1) := by decide +kernel
theorem dX3_pin_39 : decode cX3_pin 39 = .ok (.goto 4, 3) := by decide +kernel
theorem dX3_pin_42 : decode cX3_pin 42 = .ok (.iconst 0, 1) := by decide +kernel
theorem dX3_pin_43 : decode cX3_pin 43 = .ok (.istore 5, 2) := by decide +kernel
theorem dX3_pin_45 : decode cX3_pin 45 = .ok (.aload_n 0, 1) := by decide +kernel
theorem dX3_pin_46 : decode cX3_pin 46 = .ok (.getfield 24, 3) := by decide +kernel
theorem dX3_pin_49 : decode cX3_pin 49 = .ok (.getfield 141, 3) := by decide +kernel
theorem dX3_pin_52 : decode cX3_pin 52 = .ok (.iload 4, 2) := by decide +kernel
theorem dX3_pin_54 : decode cX3_pin 54 = .ok (.iload_n 3, 1) := by decide +kernel
theorem dX3_pin_55 : decode cX3_pin 55 = .ok (.bastore, 1) := by decide +kernel
theorem dX3_pin_56 : decode cX3_pin 56 = .ok (.iload 5, 2) := by decide +kernel
theorem dX3_pin_58 : decode cX3_pin 58 = .ok (.ireturn, 1) := by decide +kernel
set_option maxRecDepth 20000 in
theorem ggX3_height_X2_has : GoodIn wsX3_height wsX2_has := goodIn_r _ [8, 9, 10, 19, 20, 21, 22, 23] (by decide +kernel) (by decide +kernel)
set_option maxRecDepth 20000 in
theorem gX3_height_X2_has : GoodIn wsX3_height (wsV RX3 132 RX2 yX2_has wsX2_has) := goodIn_app (goodIn_of _ (by decide +kernel)) ggX3_height_X2_has
set_option maxRecDepth 20000 in
theorem ggX3_height_X2_at : GoodIn wsX3_height wsX2_at := goodIn_r _ [14] (by decide +kernel) (by decide +kernel)
set_option maxRecDepth 20000 in
theorem gX3_height_X2_at : GoodIn wsX3_height (wsV RX3 135 RX2 yX2_at wsX2_at) := goodIn_app (goodIn_of _ (by decide +kernel)) ggX3_height_X2_at
theorem dX3_height_0 : decode cX3_height 0 = .ok (.aload_n 0, 1) := by decide +kernel
theorem dX3_height_1 : decode cX3_height 1 = .ok (.getfield 24, 3) := by decide +kernel
theorem dX3_height_4 : decode cX3_height 4 = .ok (.iload_n 1, 1) := by decide +kernel
theorem dX3_height_5 : decode cX3_height 5 = .ok (.iload_n 2, 1) := by decide +kernel
theorem dX3_height_6 : decode cX3_height 6 = .ok (.invokevirtual 132, 3) := by decide +kernel
theorem dX3_height_9 : decode cX3_height 9 = .ok (.ifCond .eq 23, 3) := by decide +kernel
theorem dX3_height_12 : decode cX3_height 12 = .ok (.aload_n 0, 1) := by decide +kernel
theorem dX3_height_13 : decode cX3_height 13 = .ok (.getfield 24, 3) := by decide +kernel
theorem dX3_height_16 : decode cX3_height 16 = .ok (.getfield 138, 3) := by decide +kernel
theorem dX3_height_19 : decode cX3_height 19 = .ok (.aload_n 0, 1) := by decide +kernel
theorem dX3_height_20 : decode cX3_height 20 = .ok (.getfield 24, 3) := by decide +kernel
theorem dX3_height_23 : decode cX3_height 23 = .ok (.iload_n 1, 1) := by decide +kernel
theorem dX3_height_24 : decode cX3_height 24 = .ok (.iload_n 2, 1) := by decide +kernel
theorem dX3_height_25 : decode cX3_height 25 = .ok (.invokevirtual 135, 3) := by decide +kernel
theorem dX3_height_28 : decode cX3_height 28 = .ok (.iaload, 1) := by decide +kernel
theorem dX3_height_29 : decode cX3_height 29 = .ok (.goto 5, 3) := by decide +kernel
theorem dX3_height_32 : decode cX3_height 32 = .ok (.ldc 57, 2) := by decide +kernel
theorem dX3_height_34 : decode cX3_height 34 = .ok (.ireturn, 1) := by decide +kernel
set_option maxRecDepth 20000 in
theorem ggX3_drawn_X2_sumOfDifferences : GoodIn wsX3_drawn wsX2_sumOfDifferences := goodIn_r _ [6, 7, 8, 9, 10, 11, 5, 12, 13, 14, 15, 16, 17, 18, 19, 20, 21, 22, 23, 24, 25, 30, 31, 32, 33, 34] (by decide +kernel) (by decide +kernel)
set_option maxRecDepth 20000 in
theorem gX3_drawn_X2_sumOfDifferences : GoodIn wsX3_drawn (wsV RX3 145 RX2 yX2_sumOfDifferences wsX2_sumOfDifferences) := goodIn_app (goodIn_of _ (by decide +kernel)) ggX3_drawn_X2_sumOfDifferences
theorem dX3_drawn_0 : decode cX3_drawn 0 = .ok (.aload_n 0, 1) := by decide +kernel
theorem dX3_drawn_1 : decode cX3_drawn 1 = .ok (.getfield 24, 3) := by decide +kernel
theorem dX3_drawn_4 : decode cX3_drawn 4 = .ok (.invokevirtual 145, 3) := by decide +kernel
theorem dX3_drawn_7 : decode cX3_drawn 7 = .ok (.ireturn, 1) := by decide +kernel
set_option maxRecDepth 20000 in
theorem ggX3_slack_X2_sumOfChanges : GoodIn wsX3_slack wsX2_sumOfChanges := goodIn_r _ [6, 7, 8, 9, 10, 11, 12, 13, 14, 15, 16, 5, 17, 18, 19, 20, 21, 22, 23, 24, 25, 26, 27, 28, 29, 30, 31, 32, 33, 34, 35, 36, 37, 42, 43, 44, 45, 46] (by decide +kernel) (by decide +kernel)
set_option maxRecDepth 20000 in
theorem gX3_slack_X2_sumOfChanges : GoodIn wsX3_slack (wsV RX3 148 RX2 yX2_sumOfChanges wsX2_sumOfChanges) := goodIn_app (goodIn_of _ (by decide +kernel)) ggX3_slack_X2_sumOfChanges
theorem dX3_slack_0 : decode cX3_slack 0 = .ok (.aload_n 0, 1) := by decide +kernel
theorem dX3_slack_1 : decode cX3_slack 1 = .ok (.getfield 24, 3) := by decide +kernel
theorem dX3_slack_4 : decode cX3_slack 4 = .ok (.invokevirtual 148, 3) := by decide +kernel
theorem dX3_slack_7 : decode cX3_slack 7 = .ok (.ireturn, 1) := by decide +kernel
set_option maxRecDepth 20000 in
theorem ggX3_rounds_X3_within : GoodIn wsX3_rounds wsX3_within := goodIn_r _ [5] (by decide +kernel) (by decide +kernel)
set_option maxRecDepth 20000 in
theorem gX3_rounds_X3_within : GoodIn wsX3_rounds (va_wsS RX3 32 yX3_within wsX3_within) := goodIn_app (goodIn_of _ (by decide +kernel)) ggX3_rounds_X3_within
set_option maxRecDepth 20000 in
theorem ggX3_rounds_X2_isAtRest : GoodIn wsX3_rounds wsX2_isAtRest := goodIn_r _ [10, 11, 12, 13, 9, 14, 15, 16, 17, 18, 19, 20, 21, 22, 23, 24, 25, 26, 27, 28, 29, 30, 31, 32, 33, 34, 35, 36, 37, 38, 39, 40, 41, 42, 43, 44, 45, 54, 55, 56, 57, 58] (by decide +kernel) (by decide +kernel)
set_option maxRecDepth 20000 in
theorem gX3_rounds_X2_isAtRest : GoodIn wsX3_rounds (wsV RX3 151 RX2 yX2_isAtRest wsX2_isAtRest) := goodIn_app (goodIn_of _ (by decide +kernel)) ggX3_rounds_X2_isAtRest
set_option maxRecDepth 20000 in
theorem ggX3_rounds_X2_stepAtEach : GoodIn wsX3_rounds wsX2_stepAtEach := goodIn_r _ [49, 15, 16, 17, 34, 35, 36, 9, 37, 22, 23, 24, 25, 26, 27, 28, 29, 20, 30, 31, 32, 33, 38, 39, 40, 41, 42, 43, 44, 45, 54, 55, 56, 57, 58] (by decide +kernel) (by decide +kernel)
set_option maxRecDepth 20000 in
theorem gX3_rounds_X2_stepAtEach : GoodIn wsX3_rounds (wsV RX3 155 RX2 yX2_stepAtEach wsX2_stepAtEach) := goodIn_app (goodIn_of _ (by decide +kernel)) ggX3_rounds_X2_stepAtEach
theorem dX3_rounds_0 : decode cX3_rounds 0 = .ok (.iload_n 1, 1) := by decide +kernel
theorem dX3_rounds_1 : decode cX3_rounds 1 = .ok (.iconst 1, 1) := by decide +kernel
theorem dX3_rounds_2 : decode cX3_rounds 2 = .ok (.bipush 50, 2) := by decide +kernel
theorem dX3_rounds_4 : decode cX3_rounds 4 = .ok (.invokestatic 32, 3) := by decide +kernel
theorem dX3_rounds_7 : decode cX3_rounds 7 = .ok (.ifCond .ne 5, 3) := by decide +kernel
theorem dX3_rounds_10 : decode cX3_rounds 10 = .ok (.iconst (-1), 1) := by decide +kernel
theorem dX3_rounds_11 : decode cX3_rounds 11 = .ok (.ireturn, 1) := by decide +kernel
theorem dX3_rounds_12 : decode cX3_rounds 12 = .ok (.iconst 0, 1) := by decide +kernel
theorem dX3_rounds_13 : decode cX3_rounds 13 = .ok (.istore_n 2, 1) := by decide +kernel
theorem dX3_rounds_14 : decode cX3_rounds 14 = .ok (.iload_n 2, 1) := by decide +kernel
theorem dX3_rounds_15 : decode cX3_rounds 15 = .ok (.iload_n 1, 1) := by decide +kernel
theorem dX3_rounds_16 : decode cX3_rounds 16 = .ok (.if_icmp .ge 26, 3) := by decide +kernel
theorem dX3_rounds_19 : decode cX3_rounds 19 = .ok (.aload_n 0, 1) := by decide +kernel
theorem dX3_rounds_20 : decode cX3_rounds 20 = .ok (.getfield 24, 3) := by decide +kernel
theorem dX3_rounds_23 : decode cX3_rounds 23 = .ok (.invokevirtual 151, 3) := by decide +kernel
theorem dX3_rounds_26 : decode cX3_rounds 26 = .ok (.ifCond .ne 16, 3) := by decide +kernel
theorem dX3_rounds_29 : decode cX3_rounds 29 = .ok (.aload_n 0, 1) := by decide +kernel
theorem dX3_rounds_30 : decode cX3_rounds 30 = .ok (.getfield 24, 3) := by decide +kernel
theorem dX3_rounds_33 : decode cX3_rounds 33 = .ok (.invokevirtual 155, 3) := by decide +kernel
theorem dX3_rounds_36 : decode cX3_rounds 36 = .ok (.iinc 2 1, 3) := by decide +kernel
theorem dX3_rounds_39 : decode cX3_rounds 39 = .ok (.goto (-25), 3) := by decide +kernel
theorem dX3_rounds_42 : decode cX3_rounds 42 = .ok (.iload_n 2, 1) := by decide +kernel
theorem dX3_rounds_43 : decode cX3_rounds 43 = .ok (.ireturn, 1) := by decide +kernel
set_option maxRecDepth 20000 in
theorem ggX3_count_X0_freeCells : GoodIn wsX3_count wsX0_freeCells := goodIn_r _ [10, 11, 12, 61, 62, 63, 64, 65, 66, 67] (by decide +kernel) (by decide +kernel)
set_option maxRecDepth 20000 in
theorem gX3_count_X0_freeCells : GoodIn wsX3_count (wsV RX3 118 RX0 yX0_freeCells wsX0_freeCells) := goodIn_app (goodIn_of _ (by decide +kernel)) ggX3_count_X0_freeCells
set_option maxRecDepth 20000 in
theorem ggX3_count_X2_pins : GoodIn wsX3_count wsX2_pins := goodIn_r _ [17, 18, 19, 20, 21, 22, 23, 16, 24, 68, 69, 70, 71, 72] (by decide +kernel) (by decide +kernel)
set_option maxRecDepth 20000 in
theorem gX3_count_X2_pins : GoodIn wsX3_count (wsV RX3 129 RX2 yX2_pins wsX2_pins) := goodIn_app (goodIn_of _ (by decide +kernel)) ggX3_count_X2_pins
set_option maxRecDepth 20000 in
theorem ggX3_count_X2_isAtRest : GoodIn wsX3_count wsX2_isAtRest := goodIn_r _ [28, 29, 30, 31, 16, 32, 18, 19, 33, 34, 35, 36, 37, 38, 39, 40, 41, 20, 42, 43, 44, 45, 46, 47, 48, 21, 22, 23, 24, 49, 50, 51, 52, 53, 54, 55, 56, 68, 69, 70, 71, 72] (by decide +kernel) (by decide +kernel)
set_option maxRecDepth 20000 in
theorem gX3_count_X2_isAtRest : GoodIn wsX3_count (wsV RX3 151 RX2 yX2_isAtRest wsX2_isAtRest) := goodIn_app (goodIn_of _ (by decide +kernel)) ggX3_count_X2_isAtRest
theorem dX3_count_0 : decode cX3_count 0 = .ok (.iload_n 1, 1) := by decide +kernel
theorem dX3_count_1 : decode cX3_count 1 = .ok (.tableswitch 105 0 7 #[47, 47, 47, 57, 65, 73, 81, 89], 47) := by decide +kernel
theorem dX3_count_48 : decode cX3_count 48 = .ok (.aload_n 0, 1) := by decide +kernel
theorem dX3_count_49 : decode cX3_count 49 = .ok (.getfield 20, 3) := by decide +kernel
theorem dX3_count_52 : decode cX3_count 52 = .ok (.getfield 158, 3) := by decide +kernel
theorem dX3_count_55 : decode cX3_count 55 = .ok (.iload_n 1, 1) := by decide +kernel
theorem dX3_count_56 : decode cX3_count 56 = .ok (.iaload, 1) := by decide +kernel
theorem dX3_count_57 : decode cX3_count 57 = .ok (.ireturn, 1) := by decide +kernel
theorem dX3_count_58 : decode cX3_count 58 = .ok (.aload_n 0, 1) := by decide +kernel
theorem dX3_count_59 : decode cX3_count 59 = .ok (.getfield 20, 3) := by decide +kernel
theorem dX3_count_62 : decode cX3_count 62 = .ok (.invokevirtual 118, 3) := by decide +kernel
theorem dX3_count_65 : decode cX3_count 65 = .ok (.ireturn, 1) := by decide +kernel
theorem dX3_count_66 : decode cX3_count 66 = .ok (.aload_n 0, 1) := by decide +kernel
theorem dX3_count_67 : decode cX3_count 67 = .ok (.getfield 24, 3) := by decide +kernel
theorem dX3_count_70 : decode cX3_count 70 = .ok (.getfield 161, 3) := by decide +kernel
theorem dX3_count_73 : decode cX3_count 73 = .ok (.ireturn, 1) := by decide +kernel
theorem dX3_count_74 : decode cX3_count 74 = .ok (.aload_n 0, 1) := by decide +kernel
theorem dX3_count_75 : decode cX3_count 75 = .ok (.getfield 24, 3) := by decide +kernel
theorem dX3_count_78 : decode cX3_count 78 = .ok (.getfield 164, 3) := by decide +kernel
theorem dX3_count_81 : decode cX3_count 81 = .ok (.ireturn, 1) := by decide +kernel
theorem dX3_count_82 : decode cX3_count 82 = .ok (.aload_n 0, 1) := by decide +kernel
theorem dX3_count_83 : decode cX3_count 83 = .ok (.getfield 24, 3) := by decide +kernel
theorem dX3_count_86 : decode cX3_count 86 = .ok (.invokevirtual 129, 3) := by decide +kernel
theorem dX3_count_89 : decode cX3_count 89 = .ok (.ireturn, 1) := by decide +kernel
theorem dX3_count_90 : decode cX3_count 90 = .ok (.aload_n 0, 1) := by decide +kernel
theorem dX3_count_91 : decode cX3_count 91 = .ok (.getfield 24, 3) := by decide +kernel
theorem dX3_count_94 : decode cX3_count 94 = .ok (.invokevirtual 151, 3) := by decide +kernel
theorem dX3_count_97 : decode cX3_count 97 = .ok (.ifCond .eq 7, 3) := by decide +kernel
theorem dX3_count_100 : decode cX3_count 100 = .ok (.iconst 1, 1) := by decide +kernel
theorem dX3_count_101 : decode cX3_count 101 = .ok (.goto 4, 3) := by decide +kernel
theorem dX3_count_104 : decode cX3_count 104 = .ok (.iconst 0, 1) := by decide +kernel
theorem dX3_count_105 : decode cX3_count 105 = .ok (.ireturn, 1) := by decide +kernel
theorem dX3_count_106 : decode cX3_count 106 = .ok (.iconst (-1), 1) := by decide +kernel
theorem dX3_count_107 : decode cX3_count 107 = .ok (.ireturn, 1) := by decide +kernel
theorem dX3_trace_0 : decode cX3_trace 0 = .ok (.aload_n 0, 1) := by decide +kernel
theorem dX3_trace_1 : decode cX3_trace 1 = .ok (.getfield 28, 3) := by decide +kernel
theorem dX3_trace_4 : decode cX3_trace 4 = .ok (.lreturn, 1) := by decide +kernel
theorem dX3_within_0 : decode cX3_within 0 = .ok (.iload_n 0, 1) := by decide +kernel
theorem dX3_within_1 : decode cX3_within 1 = .ok (.iload_n 1, 1) := by decide +kernel
theorem dX3_within_2 : decode cX3_within 2 = .ok (.if_icmp .lt 12, 3) := by decide +kernel
theorem dX3_within_5 : decode cX3_within 5 = .ok (.iload_n 0, 1) := by decide +kernel
theorem dX3_within_6 : decode cX3_within 6 = .ok (.iload_n 2, 1) := by decide +kernel
theorem dX3_within_7 : decode cX3_within 7 = .ok (.if_icmp .gt 7, 3) := by decide +kernel
theorem dX3_within_10 : decode cX3_within 10 = .ok (.iconst 1, 1) := by decide +kernel
theorem dX3_within_11 : decode cX3_within 11 = .ok (.goto 4, 3) := by decide +kernel
theorem dX3_within_14 : decode cX3_within 14 = .ok (.iconst 0, 1) := by decide +kernel
theorem dX3_within_15 : decode cX3_within 15 = .ok (.ireturn, 1) := by decide +kernel
