set_option maxRecDepth 20000 in
theorem ggX2_init_X2_spread : GoodIn wsX2_init wsX2_spread := goodIn_r _ [15, 9, 10, 5, 7, 16, 17, 18, 19, 20, 21, 22, 14, 23, 24, 25, 26, 27, 28] (by decide +kernel) (by decide +kernel)
set_option maxRecDepth 20000 in
theorem gX2_init_X2_spread : GoodIn wsX2_init (wsV RX2 29 RX2 yX2_spread wsX2_spread) := goodIn_app (goodIn_of _ (by decide +kernel)) ggX2_init_X2_spread
theorem dX2_init_0 : decode cX2_init 0 = .ok (.aload_n 0, 1) := by decide +kernel
theorem dX2_init_1 : decode cX2_init 1 = .ok (.invokespecial 3, 3) := by decide +kernel
theorem dX2_init_4 : decode cX2_init 4 = .ok (.aload_n 0, 1) := by decide +kernel
theorem dX2_init_5 : decode cX2_init 5 = .ok (.bipush 64, 2) := by decide +kernel
theorem dX2_init_7 : decode cX2_init 7 = .ok (.newarray .int, 2) := by decide +kernel
theorem dX2_init_9 : decode cX2_init 9 = .ok (.putfield 9, 3) := by decide +kernel
theorem dX2_init_12 : decode cX2_init 12 = .ok (.aload_n 0, 1) := by decide +kernel
theorem dX2_init_13 : decode cX2_init 13 = .ok (.bipush 64, 2) := by decide +kernel
theorem dX2_init_15 : decode cX2_init 15 = .ok (.newarray .boolean, 2) := by decide +kernel
theorem dX2_init_17 : decode cX2_init 17 = .ok (.putfield 15, 3) := by decide +kernel
theorem dX2_init_20 : decode cX2_init 20 = .ok (.aload_n 0, 1) := by decide +kernel
theorem dX2_init_21 : decode cX2_init 21 = .ok (.iconst 4, 1) := by decide +kernel
theorem dX2_init_22 : decode cX2_init 22 = .ok (.newarray .int, 2) := by decide +kernel
theorem dX2_init_24 : decode cX2_init 24 = .ok (.putfield 19, 3) := by decide +kernel
theorem dX2_init_27 : decode cX2_init 27 = .ok (.aload_n 0, 1) := by decide +kernel
theorem dX2_init_28 : decode cX2_init 28 = .ok (.iconst 0, 1) := by decide +kernel
theorem dX2_init_29 : decode cX2_init 29 = .ok (.putfield 22, 3) := by decide +kernel
theorem dX2_init_32 : decode cX2_init 32 = .ok (.aload_n 0, 1) := by decide +kernel
theorem dX2_init_33 : decode cX2_init 33 = .ok (.iconst 0, 1) := by decide +kernel
theorem dX2_init_34 : decode cX2_init 34 = .ok (.putfield 26, 3) := by decide +kernel
theorem dX2_init_37 : decode cX2_init 37 = .ok (.aload_n 0, 1) := by decide +kernel
theorem dX2_init_38 : decode cX2_init 38 = .ok (.iconst 4, 1) := by decide +kernel
theorem dX2_init_39 : decode cX2_init 39 = .ok (.iconst 4, 1) := by decide +kernel
theorem dX2_init_40 : decode cX2_init 40 = .ok (.invokevirtual 29, 3) := by decide +kernel
theorem dX2_init_43 : decode cX2_init 43 = .ok (.return_, 1) := by decide +kernel
set_option maxRecDepth 20000 in
theorem ggX2_spread_J7_fill_53178 : GoodIn wsX2_spread wsJ7_fill_53178 := goodIn_r _ [8] (by decide +kernel) (by decide +kernel)
set_option maxRecDepth 20000 in
theorem gX2_spread_J7_fill_53178 : GoodIn wsX2_spread (va_wsS RX2 33 yJ7_fill_53178 wsJ7_fill_53178) := goodIn_app (goodIn_of _ (by decide +kernel)) ggX2_spread_J7_fill_53178
set_option maxRecDepth 20000 in
theorem ggX2_spread_X2_at : GoodIn wsX2_spread wsX2_at := goodIn_r _ [13] (by decide +kernel) (by decide +kernel)
set_option maxRecDepth 20000 in
theorem gX2_spread_X2_at : GoodIn wsX2_spread (wsV RX2 39 RX2 yX2_at wsX2_at) := goodIn_app (goodIn_of _ (by decide +kernel)) ggX2_spread_X2_at
theorem dX2_spread_0 : decode cX2_spread 0 = .ok (.aload_n 0, 1) := by decide +kernel
theorem dX2_spread_1 : decode cX2_spread 1 = .ok (.iload_n 1, 1) := by decide +kernel
theorem dX2_spread_2 : decode cX2_spread 2 = .ok (.putfield 22, 3) := by decide +kernel
theorem dX2_spread_5 : decode cX2_spread 5 = .ok (.aload_n 0, 1) := by decide +kernel
theorem dX2_spread_6 : decode cX2_spread 6 = .ok (.iload_n 2, 1) := by decide +kernel
theorem dX2_spread_7 : decode cX2_spread 7 = .ok (.putfield 26, 3) := by decide +kernel
theorem dX2_spread_10 : decode cX2_spread 10 = .ok (.aload_n 0, 1) := by decide +kernel
theorem dX2_spread_11 : decode cX2_spread 11 = .ok (.getfield 9, 3) := by decide +kernel
theorem dX2_spread_14 : decode cX2_spread 14 = .ok (.iconst 0, 1) := by decide +kernel
theorem dX2_spread_15 : decode cX2_spread 15 = .ok (.invokestatic 33, 3) := by decide +kernel
theorem dX2_spread_18 : decode cX2_spread 18 = .ok (.iconst 0, 1) := by decide +kernel
theorem dX2_spread_19 : decode cX2_spread 19 = .ok (.istore_n 3, 1) := by decide +kernel
theorem dX2_spread_20 : decode cX2_spread 20 = .ok (.iload_n 3, 1) := by decide +kernel
theorem dX2_spread_21 : decode cX2_spread 21 = .ok (.iload_n 2, 1) := by decide +kernel
theorem dX2_spread_22 : decode cX2_spread 22 = .ok (.if_icmp .ge 65, 3) := by decide +kernel
theorem dX2_spread_25 : decode cX2_spread 25 = .ok (.iconst 0, 1) := by decide +kernel
theorem dX2_spread_26 : decode cX2_spread 26 = .ok (.istore 4, 2) := by decide +kernel
theorem dX2_spread_28 : decode cX2_spread 28 = .ok (.iload 4, 2) := by decide +kernel
theorem dX2_spread_30 : decode cX2_spread 30 = .ok (.iload_n 1, 1) := by decide +kernel
theorem dX2_spread_31 : decode cX2_spread 31 = .ok (.if_icmp .ge 50, 3) := by decide +kernel
theorem dX2_spread_34 : decode cX2_spread 34 = .ok (.aload_n 0, 1) := by decide +kernel
theorem dX2_spread_35 : decode cX2_spread 35 = .ok (.getfield 15, 3) := by decide +kernel
theorem dX2_spread_38 : decode cX2_spread 38 = .ok (.aload_n 0, 1) := by decide +kernel
theorem dX2_spread_39 : decode cX2_spread 39 = .ok (.iload 4, 2) := by decide +kernel
theorem dX2_spread_41 : decode cX2_spread 41 = .ok (.iload_n 3, 1) := by decide +kernel
theorem dX2_spread_42 : decode cX2_spread 42 = .ok (.invokevirtual 39, 3) := by decide +kernel
theorem dX2_spread_45 : decode cX2_spread 45 = .ok (.iload 4, 2) := by decide +kernel
theorem dX2_spread_47 : decode cX2_spread 47 = .ok (.ifCond .eq 22, 3) := by decide +kernel
theorem dX2_spread_50 : decode cX2_spread 50 = .ok (.iload_n 3, 1) := by decide +kernel
theorem dX2_spread_51 : decode cX2_spread 51 = .ok (.ifCond .eq 18, 3) := by decide +kernel
theorem dX2_spread_54 : decode cX2_spread 54 = .ok (.iload 4, 2) := by decide +kernel
theorem dX2_spread_56 : decode cX2_spread 56 = .ok (.iload_n 1, 1) := by decide +kernel
theorem dX2_spread_57 : decode cX2_spread 57 = .ok (.iconst 1, 1) := by decide +kernel
theorem dX2_spread_58 : decode cX2_spread 58 = .ok (.isub, 1) := by decide +kernel
theorem dX2_spread_59 : decode cX2_spread 59 = .ok (.if_icmp .eq 10, 3) := by decide +kernel
theorem dX2_spread_62 : decode cX2_spread 62 = .ok (.iload_n 3, 1) := by decide +kernel
theorem dX2_spread_63 : decode cX2_spread 63 = .ok (.iload_n 2, 1) := by decide +kernel
theorem dX2_spread_64 : decode cX2_spread 64 = .ok (.iconst 1, 1) := by decide +kernel
theorem dX2_spread_65 : decode cX2_spread 65 = .ok (.isub, 1) := by decide +kernel
theorem dX2_spread_66 : decode cX2_spread 66 = .ok (.if_icmp .ne 7, 3) := by decide +kernel
theorem dX2_spread_69 : decode cX2_spread 69 = .ok (.iconst 1, 1) := by decide +kernel
theorem dX2_spread_70 : decode cX2_spread 70 = .ok (.goto 4, 3) := by decide +kernel
theorem dX2_spread_73 : decode cX2_spread 73 = .ok (.iconst 0, 1) := by decide +kernel
theorem dX2_spread_74 : decode cX2_spread 74 = .ok (.bastore, 1) := by decide +kernel
theorem dX2_spread_75 : decode cX2_spread 75 = .ok (.iinc 4 1, 3) := by decide +kernel
theorem dX2_spread_78 : decode cX2_spread 78 = .ok (.goto (-50), 3) := by decide +kernel
theorem dX2_spread_81 : decode cX2_spread 81 = .ok (.iinc 3 1, 3) := by decide +kernel
theorem dX2_spread_84 : decode cX2_spread 84 = .ok (.goto (-64), 3) := by decide +kernel
theorem dX2_spread_87 : decode cX2_spread 87 = .ok (.return_, 1) := by decide +kernel
theorem dX2_has_0 : decode cX2_has 0 = .ok (.iload_n 1, 1) := by decide +kernel
theorem dX2_has_1 : decode cX2_has 1 = .ok (.ifCond .lt 27, 3) := by decide +kernel
theorem dX2_has_4 : decode cX2_has 4 = .ok (.iload_n 1, 1) := by decide +kernel
theorem dX2_has_5 : decode cX2_has 5 = .ok (.aload_n 0, 1) := by decide +kernel
theorem dX2_has_6 : decode cX2_has 6 = .ok (.getfield 22, 3) := by decide +kernel
theorem dX2_has_9 : decode cX2_has 9 = .ok (.if_icmp .ge 19, 3) := by decide +kernel
theorem dX2_has_12 : decode cX2_has 12 = .ok (.iload_n 2, 1) := by decide +kernel
theorem dX2_has_13 : decode cX2_has 13 = .ok (.ifCond .lt 15, 3) := by decide +kernel
theorem dX2_has_16 : decode cX2_has 16 = .ok (.iload_n 2, 1) := by decide +kernel
theorem dX2_has_17 : decode cX2_has 17 = .ok (.aload_n 0, 1) := by decide +kernel
theorem dX2_has_18 : decode cX2_has 18 = .ok (.getfield 26, 3) := by decide +kernel
theorem dX2_has_21 : decode cX2_has 21 = .ok (.if_icmp .ge 7, 3) := by decide +kernel
theorem dX2_has_24 : decode cX2_has 24 = .ok (.iconst 1, 1) := by decide +kernel
theorem dX2_has_25 : decode cX2_has 25 = .ok (.goto 4, 3) := by decide +kernel
theorem dX2_has_28 : decode cX2_has 28 = .ok (.iconst 0, 1) := by decide +kernel
theorem dX2_has_29 : decode cX2_has 29 = .ok (.ireturn, 1) := by decide +kernel
theorem dX2_at_0 : decode cX2_at 0 = .ok (.iload_n 2, 1) := by decide +kernel
theorem dX2_at_1 : decode cX2_at 1 = .ok (.bipush 8, 2) := by decide +kernel
theorem dX2_at_3 : decode cX2_at 3 = .ok (.imul, 1) := by decide +kernel
theorem dX2_at_4 : decode cX2_at 4 = .ok (.iload_n 1, 1) := by decide +kernel
theorem dX2_at_5 : decode cX2_at 5 = .ok (.iadd, 1) := by decide +kernel
theorem dX2_at_6 : decode cX2_at 6 = .ok (.ireturn, 1) := by decide +kernel
set_option maxRecDepth 20000 in
theorem ggX2_pins_X2_at : GoodIn wsX2_pins wsX2_at := goodIn_r _ [8] (by decide +kernel) (by decide +kernel)
set_option maxRecDepth 20000 in
theorem gX2_pins_X2_at : GoodIn wsX2_pins (wsV RX2 39 RX2 yX2_at wsX2_at) := goodIn_app (goodIn_of _ (by decide +kernel)) ggX2_pins_X2_at
theorem dX2_pins_0 : decode cX2_pins 0 = .ok (.iconst 0, 1) := by decide +kernel
theorem dX2_pins_1 : decode cX2_pins 1 = .ok (.istore_n 1, 1) := by decide +kernel
theorem dX2_pins_2 : decode cX2_pins 2 = .ok (.iconst 0, 1) := by decide +kernel
theorem dX2_pins_3 : decode cX2_pins 3 = .ok (.istore_n 2, 1) := by decide +kernel
theorem dX2_pins_4 : decode cX2_pins 4 = .ok (.iload_n 2, 1) := by decide +kernel
theorem dX2_pins_5 : decode cX2_pins 5 = .ok (.aload_n 0, 1) := by decide +kernel
theorem dX2_pins_6 : decode cX2_pins 6 = .ok (.getfield 26, 3) := by decide +kernel
theorem dX2_pins_9 : decode cX2_pins 9 = .ok (.if_icmp .ge 42, 3) := by decide +kernel
theorem dX2_pins_12 : decode cX2_pins 12 = .ok (.iconst 0, 1) := by decide +kernel
theorem dX2_pins_13 : decode cX2_pins 13 = .ok (.istore_n 3, 1) := by decide +kernel
theorem dX2_pins_14 : decode cX2_pins 14 = .ok (.iload_n 3, 1) := by decide +kernel
theorem dX2_pins_15 : decode cX2_pins 15 = .ok (.aload_n 0, 1) := by decide +kernel
theorem dX2_pins_16 : decode cX2_pins 16 = .ok (.getfield 22, 3) := by decide +kernel
theorem dX2_pins_19 : decode cX2_pins 19 = .ok (.if_icmp .ge 26, 3) := by decide +kernel
theorem dX2_pins_22 : decode cX2_pins 22 = .ok (.aload_n 0, 1) := by decide +kernel
theorem dX2_pins_23 : decode cX2_pins 23 = .ok (.getfield 15, 3) := by decide +kernel
theorem dX2_pins_26 : decode cX2_pins 26 = .ok (.aload_n 0, 1) := by decide +kernel
theorem dX2_pins_27 : decode cX2_pins 27 = .ok (.iload_n 3, 1) := by decide +kernel
theorem dX2_pins_28 : decode cX2_pins 28 = .ok (.iload_n 2, 1) := by decide +kernel
theorem dX2_pins_29 : decode cX2_pins 29 = .ok (.invokevirtual 39, 3) := by decide +kernel
theorem dX2_pins_32 : decode cX2_pins 32 = .ok (.baload, 1) := by decide +kernel
theorem dX2_pins_33 : decode cX2_pins 33 = .ok (.ifCond .eq 6, 3) := by decide +kernel
theorem dX2_pins_36 : decode cX2_pins 36 = .ok (.iinc 1 1, 3) := by decide +kernel
theorem dX2_pins_39 : decode cX2_pins 39 = .ok (.iinc 3 1, 3) := by decide +kernel
theorem dX2_pins_42 : decode cX2_pins 42 = .ok (.goto (-28), 3) := by decide +kernel
theorem dX2_pins_45 : decode cX2_pins 45 = .ok (.iinc 2 1, 3) := by decide +kernel
theorem dX2_pins_48 : decode cX2_pins 48 = .ok (.goto (-44), 3) := by decide +kernel
theorem dX2_pins_51 : decode cX2_pins 51 = .ok (.iload_n 1, 1) := by decide +kernel
theorem dX2_pins_52 : decode cX2_pins 52 = .ok (.ireturn, 1) := by decide +kernel
set_option maxRecDepth 20000 in
theorem ggX2_sumOfDifferences_X2_difference : GoodIn wsX2_sumOfDifferences wsX2_difference := goodIn_r _ [7, 8, 9, 10, 11, 12, 13, 14, 15, 6, 16, 2, 1, 17, 18, 19, 20, 21, 22, 23, 24, 25] (by decide +kernel) (by decide +kernel)
set_option maxRecDepth 20000 in
theorem gX2_sumOfDifferences_X2_difference : GoodIn wsX2_sumOfDifferences (wsV RX2 43 RX2 yX2_difference wsX2_difference) := goodIn_app (goodIn_of _ (by decide +kernel)) ggX2_sumOfDifferences_X2_difference
theorem dX2_sumOfDifferences_0 : decode cX2_sumOfDifferences 0 = .ok (.iconst 0, 1) := by decide +kernel
theorem dX2_sumOfDifferences_1 : decode cX2_sumOfDifferences 1 = .ok (.istore_n 1, 1) := by decide +kernel
theorem dX2_sumOfDifferences_2 : decode cX2_sumOfDifferences 2 = .ok (.iconst 0, 1) := by decide +kernel
theorem dX2_sumOfDifferences_3 : decode cX2_sumOfDifferences 3 = .ok (.istore_n 2, 1) := by decide +kernel
theorem dX2_sumOfDifferences_4 : decode cX2_sumOfDifferences 4 = .ok (.iload_n 2, 1) := by decide +kernel
theorem dX2_sumOfDifferences_5 : decode cX2_sumOfDifferences 5 = .ok (.aload_n 0, 1) := by decide +kernel
theorem dX2_sumOfDifferences_6 : decode cX2_sumOfDifferences 6 = .ok (.getfield 26, 3) := by decide +kernel
theorem dX2_sumOfDifferences_9 : decode cX2_sumOfDifferences 9 = .ok (.if_icmp .ge 49, 3) := by decide +kernel
theorem dX2_sumOfDifferences_12 : decode cX2_sumOfDifferences 12 = .ok (.iconst 0, 1) := by decide +kernel
theorem dX2_sumOfDifferences_13 : decode cX2_sumOfDifferences 13 = .ok (.istore_n 3, 1) := by decide +kernel
theorem dX2_sumOfDifferences_14 : decode cX2_sumOfDifferences 14 = .ok (.iload_n 3, 1) := by decide +kernel
theorem dX2_sumOfDifferences_15 : decode cX2_sumOfDifferences 15 = .ok (.aload_n 0, 1) := by decide +kernel
theorem dX2_sumOfDifferences_16 : decode cX2_sumOfDifferences 16 = .ok (.getfield 22, 3) := by decide +kernel
theorem dX2_sumOfDifferences_19 : decode cX2_sumOfDifferences 19 = .ok (.if_icmp .ge 33, 3) := by decide +kernel
theorem dX2_sumOfDifferences_22 : decode cX2_sumOfDifferences 22 = .ok (.iload_n 1, 1) := by decide +kernel
theorem dX2_sumOfDifferences_23 : decode cX2_sumOfDifferences 23 = .ok (.aload_n 0, 1) := by decide +kernel
theorem dX2_sumOfDifferences_24 : decode cX2_sumOfDifferences 24 = .ok (.iload_n 3, 1) := by decide +kernel
theorem dX2_sumOfDifferences_25 : decode cX2_sumOfDifferences 25 = .ok (.iload_n 2, 1) := by decide +kernel
theorem dX2_sumOfDifferences_26 : decode cX2_sumOfDifferences 26 = .ok (.iload_n 3, 1) := by decide +kernel
theorem dX2_sumOfDifferences_27 : decode cX2_sumOfDifferences 27 = .ok (.iconst 1, 1) := by decide +kernel
theorem dX2_sumOfDifferences_28 : decode cX2_sumOfDifferences 28 = .ok (.iadd, 1) := by decide +kernel
theorem dX2_sumOfDifferences_29 : decode cX2_sumOfDifferences 29 = .ok (.iload_n 2, 1) := by decide +kernel
theorem dX2_sumOfDifferences_30 : decode cX2_sumOfDifferences 30 = .ok (.invokevirtual 43, 3) := by decide +kernel
theorem dX2_sumOfDifferences_33 : decode cX2_sumOfDifferences 33 = .ok (.aload_n 0, 1) := by decide +kernel
theorem dX2_sumOfDifferences_34 : decode cX2_sumOfDifferences 34 = .ok (.iload_n 3, 1) := by decide +kernel
theorem dX2_sumOfDifferences_35 : decode cX2_sumOfDifferences 35 = .ok (.iload_n 2, 1) := by decide +kernel
theorem dX2_sumOfDifferences_36 : decode cX2_sumOfDifferences 36 = .ok (.iload_n 3, 1) := by decide +kernel
theorem dX2_sumOfDifferences_37 : decode cX2_sumOfDifferences 37 = .ok (.iload_n 2, 1) := by decide +kernel
theorem dX2_sumOfDifferences_38 : decode cX2_sumOfDifferences 38 = .ok (.iconst 1, 1) := by decide +kernel
theorem dX2_sumOfDifferences_39 : decode cX2_sumOfDifferences 39 = .ok (.iadd, 1) := by decide +kernel
theorem dX2_sumOfDifferences_40 : decode cX2_sumOfDifferences 40 = .ok (.invokevirtual 43, 3) := by decide +kernel
theorem dX2_sumOfDifferences_43 : decode cX2_sumOfDifferences 43 = .ok (.iadd, 1) := by decide +kernel
theorem dX2_sumOfDifferences_44 : decode cX2_sumOfDifferences 44 = .ok (.iadd, 1) := by decide +kernel
theorem dX2_sumOfDifferences_45 : decode cX2_sumOfDifferences 45 = .ok (.istore_n 1, 1) := by decide +kernel
theorem dX2_sumOfDifferences_46 : decode cX2_sumOfDifferences 46 = .ok (.iinc 3 1, 3) := by decide +kernel
theorem dX2_sumOfDifferences_49 : decode cX2_sumOfDifferences 49 = .ok (.goto (-35), 3) := by decide +kernel
theorem dX2_sumOfDifferences_52 : decode cX2_sumOfDifferences 52 = .ok (.iinc 2 1, 3) := by decide +kernel
theorem dX2_sumOfDifferences_55 : decode cX2_sumOfDifferences 55 = .ok (.goto (-51), 3) := by decide +kernel
theorem dX2_sumOfDifferences_58 : decode cX2_sumOfDifferences 58 = .ok (.iload_n 1, 1) := by decide +kernel
theorem dX2_sumOfDifferences_59 : decode cX2_sumOfDifferences 59 = .ok (.ireturn, 1) := by decide +kernel
set_option maxRecDepth 20000 in
theorem ggX2_difference_X2_has : GoodIn wsX2_difference wsX2_has := goodIn_r _ [10, 11, 12, 17, 18, 19, 20, 21] (by decide +kernel) (by decide +kernel)
set_option maxRecDepth 20000 in
theorem gX2_difference_X2_has : GoodIn wsX2_difference (wsV RX2 47 RX2 yX2_has wsX2_has) := goodIn_app (goodIn_of _ (by decide +kernel)) ggX2_difference_X2_has
set_option maxRecDepth 20000 in
theorem ggX2_difference_X2_at : GoodIn wsX2_difference wsX2_at := goodIn_r _ [16] (by decide +kernel) (by decide +kernel)
set_option maxRecDepth 20000 in
theorem gX2_difference_X2_at : GoodIn wsX2_difference (wsV RX2 39 RX2 yX2_at wsX2_at) := goodIn_app (goodIn_of _ (by decide +kernel)) ggX2_difference_X2_at
theorem dX2_difference_0 : decode cX2_difference 0 = .ok (.aload_n 0, 1) := by decide +kernel
theorem dX2_difference_1 : decode cX2_difference 1 = .ok (.iload_n 3, 1) := by decide +kernel
theorem dX2_difference_2 : decode cX2_difference 2 = .ok (.iload 4, 2) := by decide +kernel
theorem dX2_difference_4 : decode cX2_difference 4 = .ok (.invokevirtual 47, 3) := by decide +kernel
theorem dX2_difference_7 : decode cX2_difference 7 = .ok (.ifCond .eq 33, 3) := by decide +kernel
theorem dX2_difference_10 : decode cX2_difference 10 = .ok (.aload_n 0, 1) := by decide +kernel
theorem dX2_difference_11 : decode cX2_difference 11 = .ok (.getfield 9, 3) := by decide +kernel
theorem dX2_difference_14 : decode cX2_difference 14 = .ok (.aload_n 0, 1) := by decide +kernel
theorem dX2_difference_15 : decode cX2_difference 15 = .ok (.iload_n 1, 1) := by decide +kernel
theorem dX2_difference_16 : decode cX2_difference 16 = .ok (.iload_n 2, 1) := by decide +kernel
theorem dX2_difference_17 : decode cX2_difference 17 = .ok (.invokevirtual 39, 3) := by decide +kernel
theorem dX2_difference_20 : decode cX2_difference 20 = .ok (.iaload, 1) := by decide +kernel
theorem dX2_difference_21 : decode cX2_difference 21 = .ok (.aload_n 0, 1) := by decide +kernel
theorem dX2_difference_22 : decode cX2_difference 22 = .ok (.getfield 9, 3) := by decide +kernel
theorem dX2_difference_25 : decode cX2_difference 25 = .ok (.aload_n 0, 1) := by decide +kernel
theorem dX2_difference_26 : decode cX2_difference 26 = .ok (.iload_n 3, 1) := by decide +kernel
theorem dX2_difference_27 : decode cX2_difference 27 = .ok (.iload 4, 2) := by decide +kernel
theorem dX2_difference_29 : decode cX2_difference 29 = .ok (.invokevirtual 39, 3) := by decide +kernel
theorem dX2_difference_32 : decode cX2_difference 32 = .ok (.iaload, 1) := by decide +kernel
theorem dX2_difference_33 : decode cX2_difference 33 = .ok (.isub, 1) := by decide +kernel
theorem dX2_difference_34 : decode cX2_difference 34 = .ok (.invokestatic 51, 3) := by decide +kernel
theorem dX2_difference_37 : decode cX2_difference 37 = .ok (.goto 4, 3) := by decide +kernel
theorem dX2_difference_40 : decode cX2_difference 40 = .ok (.iconst 0, 1) := by decide +kernel
theorem dX2_difference_41 : decode cX2_difference 41 = .ok (.ireturn, 1) := by decide +kernel
set_option maxRecDepth 20000 in
theorem ggX2_sumOfChanges_X2_stepped : GoodIn wsX2_sumOfChanges wsX2_stepped := goodIn_r _ [12, 3, 13, 14, 15, 16, 6, 17, 18, 19, 20, 21, 22, 23, 11, 24, 25, 26, 27, 28, 29, 30, 31, 32, 2, 1, 33, 34, 35, 36, 37] (by decide +kernel) (by decide +kernel)
set_option maxRecDepth 20000 in
theorem gX2_sumOfChanges_X2_stepped : GoodIn wsX2_sumOfChanges (wsV RX2 57 RX2 yX2_stepped wsX2_stepped) := goodIn_app (goodIn_of _ (by decide +kernel)) ggX2_sumOfChanges_X2_stepped
set_option maxRecDepth 20000 in
theorem ggX2_sumOfChanges_X2_at : GoodIn wsX2_sumOfChanges wsX2_at := goodIn_r _ [24] (by decide +kernel) (by decide +kernel)
set_option maxRecDepth 20000 in
theorem gX2_sumOfChanges_X2_at : GoodIn wsX2_sumOfChanges (wsV RX2 39 RX2 yX2_at wsX2_at) := goodIn_app (goodIn_of _ (by decide +kernel)) ggX2_sumOfChanges_X2_at
theorem dX2_sumOfChanges_0 : decode cX2_sumOfChanges 0 = .ok (.iconst 0, 1) := by decide +kernel
theorem dX2_sumOfChanges_1 : decode cX2_sumOfChanges 1 = .ok (.istore_n 1, 1) := by decide +kernel
theorem dX2_sumOfChanges_2 : decode cX2_sumOfChanges 2 = .ok (.iconst 0, 1) := by decide +kernel
theorem dX2_sumOfChanges_3 : decode cX2_sumOfChanges 3 = .ok (.istore_n 2, 1) := by decide +kernel
theorem dX2_sumOfChanges_4 : decode cX2_sumOfChanges 4 = .ok (.iload_n 2, 1) := by decide +kernel
theorem dX2_sumOfChanges_5 : decode cX2_sumOfChanges 5 = .ok (.aload_n 0, 1) := by decide +kernel
theorem dX2_sumOfChanges_6 : decode cX2_sumOfChanges 6 = .ok (.getfield 26, 3) := by decide +kernel
theorem dX2_sumOfChanges_9 : decode cX2_sumOfChanges 9 = .ok (.if_icmp .ge 49, 3) := by decide +kernel
theorem dX2_sumOfChanges_12 : decode cX2_sumOfChanges 12 = .ok (.iconst 0, 1) := by decide +kernel
theorem dX2_sumOfChanges_13 : decode cX2_sumOfChanges 13 = .ok (.istore_n 3, 1) := by decide +kernel
theorem dX2_sumOfChanges_14 : decode cX2_sumOfChanges 14 = .ok (.iload_n 3, 1) := by decide +kernel
theorem dX2_sumOfChanges_15 : decode cX2_sumOfChanges 15 = .ok (.aload_n 0, 1) := by decide +kernel
theorem dX2_sumOfChanges_16 : decode cX2_sumOfChanges 16 = .ok (.getfield 22, 3) := by decide +kernel
theorem dX2_sumOfChanges_19 : decode cX2_sumOfChanges 19 = .ok (.if_icmp .ge 33, 3) := by decide +kernel
theorem dX2_sumOfChanges_22 : decode cX2_sumOfChanges 22 = .ok (.iload_n 1, 1) := by decide +kernel
theorem dX2_sumOfChanges_23 : decode cX2_sumOfChanges 23 = .ok (.aload_n 0, 1) := by decide +kernel
theorem dX2_sumOfChanges_24 : decode cX2_sumOfChanges 24 = .ok (.iload_n 3, 1) := by decide +kernel
theorem dX2_sumOfChanges_25 : decode cX2_sumOfChanges 25 = .ok (.iload_n 2, 1) := by decide +kernel
theorem dX2_sumOfChanges_26 : decode cX2_sumOfChanges 26 = .ok (.invokevirtual 57, 3) := by decide +kernel
theorem dX2_sumOfChanges_29 : decode cX2_sumOfChanges 29 = .ok (.aload_n 0, 1) := by decide +kernel
theorem dX2_sumOfChanges_30 : decode cX2_sumOfChanges 30 = .ok (.getfield 9, 3) := by decide +kernel
theorem dX2_sumOfChanges_33 : decode cX2_sumOfChanges 33 = .ok (.aload_n 0, 1) := by decide +kernel
theorem dX2_sumOfChanges_34 : decode cX2_sumOfChanges 34 = .ok (.iload_n 3, 1) := by decide +kernel
theorem dX2_sumOfChanges_35 : decode cX2_sumOfChanges 35 = .ok (.iload_n 2, 1) := by decide +kernel
theorem dX2_sumOfChanges_36 : decode cX2_sumOfChanges 36 = .ok (.invokevirtual 39, 3) := by decide +kernel
theorem dX2_sumOfChanges_39 : decode cX2_sumOfChanges 39 = .ok (.iaload, 1) := by decide +kernel
theorem dX2_sumOfChanges_40 : decode cX2_sumOfChanges 40 = .ok (.isub, 1) := by decide +kernel
theorem dX2_sumOfChanges_41 : decode cX2_sumOfChanges 41 = .ok (.invokestatic 51, 3) := by decide +kernel
theorem dX2_sumOfChanges_44 : decode cX2_sumOfChanges 44 = .ok (.iadd, 1) := by decide +kernel
theorem dX2_sumOfChanges_45 : decode cX2_sumOfChanges 45 = .ok (.istore_n 1, 1) := by decide +kernel
theorem dX2_sumOfChanges_46 : decode cX2_sumOfChanges 46 = .ok (.iinc 3 1, 3) := by decide +kernel
theorem dX2_sumOfChanges_49 : decode cX2_sumOfChanges 49 = .ok (.goto (-35), 3) := by decide +kernel
theorem dX2_sumOfChanges_52 : decode cX2_sumOfChanges 52 = .ok (.iinc 2 1, 3) := by decide +kernel
theorem dX2_sumOfChanges_55 : decode cX2_sumOfChanges 55 = .ok (.goto (-51), 3) := by decide +kernel
theorem dX2_sumOfChanges_58 : decode cX2_sumOfChanges 58 = .ok (.iload_n 1, 1) := by decide +kernel
theorem dX2_sumOfChanges_59 : decode cX2_sumOfChanges 59 = .ok (.ireturn, 1) := by decide +kernel
set_option maxRecDepth 20000 in
theorem ggX2_isAtRest_X2_sumOfChanges : GoodIn wsX2_isAtRest wsX2_sumOfChanges := goodIn_r _ [5, 6, 7, 8, 9, 10, 11, 12, 13, 14, 15, 4, 16, 17, 18, 19, 20, 21, 22, 23, 24, 25, 26, 27, 28, 29, 30, 31, 32, 33, 34, 35, 36, 37, 38, 39, 40, 41] (by decide +kernel) (by decide +kernel)
set_option maxRecDepth 20000 in
theorem gX2_isAtRest_X2_sumOfChanges : GoodIn wsX2_isAtRest (wsV RX2 60 RX2 yX2_sumOfChanges wsX2_sumOfChanges) := goodIn_app (goodIn_of _ (by decide +kernel)) ggX2_isAtRest_X2_sumOfChanges
theorem dX2_isAtRest_0 : decode cX2_isAtRest 0 = .ok (.aload_n 0, 1) := by decide +kernel
theorem dX2_isAtRest_1 : decode cX2_isAtRest 1 = .ok (.invokevirtual 60, 3) := by decide +kernel
theorem dX2_isAtRest_4 : decode cX2_isAtRest 4 = .ok (.ifCond .ne 7, 3) := by decide +kernel
theorem dX2_isAtRest_7 : decode cX2_isAtRest 7 = .ok (.iconst 1, 1) := by decide +kernel
theorem dX2_isAtRest_8 : decode cX2_isAtRest 8 = .ok (.goto 4, 3) := by decide +kernel
theorem dX2_isAtRest_11 : decode cX2_isAtRest 11 = .ok (.iconst 0, 1) := by decide +kernel
theorem dX2_isAtRest_12 : decode cX2_isAtRest 12 = .ok (.ireturn, 1) := by decide +kernel
set_option maxRecDepth 20000 in
theorem ggX2_stepAtEach_X2_at : GoodIn wsX2_stepAtEach wsX2_at := goodIn_r _ [8] (by decide +kernel) (by decide +kernel)
set_option maxRecDepth 20000 in
theorem gX2_stepAtEach_X2_at : GoodIn wsX2_stepAtEach (wsV RX2 39 RX2 yX2_at wsX2_at) := goodIn_app (goodIn_of _ (by decide +kernel)) ggX2_stepAtEach_X2_at
set_option maxRecDepth 20000 in
theorem ggX2_stepAtEach_X2_stepped : GoodIn wsX2_stepAtEach wsX2_stepped := goodIn_r _ [12, 3, 13, 14, 15, 16, 17, 18, 19, 20, 21, 4, 5, 6, 7, 8, 22, 23, 24, 25, 26, 27, 28, 29, 2, 1, 30, 31, 32, 33, 34] (by decide +kernel) (by decide +kernel)
set_option maxRecDepth 20000 in
theorem gX2_stepAtEach_X2_stepped : GoodIn wsX2_stepAtEach (wsV RX2 57 RX2 yX2_stepped wsX2_stepped) := goodIn_app (goodIn_of _ (by decide +kernel)) ggX2_stepAtEach_X2_stepped
theorem dX2_stepAtEach_0 : decode cX2_stepAtEach 0 = .ok (.iconst 0, 1) := by decide +kernel
theorem dX2_stepAtEach_1 : decode cX2_stepAtEach 1 = .ok (.istore_n 1, 1) := by decide +kernel
theorem dX2_stepAtEach_2 : decode cX2_stepAtEach 2 = .ok (.iload_n 1, 1) := by decide +kernel
theorem dX2_stepAtEach_3 : decode cX2_stepAtEach 3 = .ok (.aload_n 0, 1) := by decide +kernel
theorem dX2_stepAtEach_4 : decode cX2_stepAtEach 4 = .ok (.getfield 26, 3) := by decide +kernel
theorem dX2_stepAtEach_7 : decode cX2_stepAtEach 7 = .ok (.if_icmp .ge 42, 3) := by decide +kernel
theorem dX2_stepAtEach_10 : decode cX2_stepAtEach 10 = .ok (.iconst 0, 1) := by decide +kernel
theorem dX2_stepAtEach_11 : decode cX2_stepAtEach 11 = .ok (.istore_n 2, 1) := by decide +kernel
theorem dX2_stepAtEach_12 : decode cX2_stepAtEach 12 = .ok (.iload_n 2, 1) := by decide +kernel
theorem dX2_stepAtEach_13 : decode cX2_stepAtEach 13 = .ok (.aload_n 0, 1) := by decide +kernel
theorem dX2_stepAtEach_14 : decode cX2_stepAtEach 14 = .ok (.getfield 22, 3) := by decide +kernel
theorem dX2_stepAtEach_17 : decode cX2_stepAtEach 17 = .ok (.if_icmp .ge 26, 3) := by decide +kernel
theorem dX2_stepAtEach_20 : decode cX2_stepAtEach 20 = .ok (.aload_n 0, 1) := by decide +kernel
theorem dX2_stepAtEach_21 : decode cX2_stepAtEach 21 = .ok (.getfield 9, 3) := by decide +kernel
theorem dX2_stepAtEach_24 : decode cX2_stepAtEach 24 = .ok (.aload_n 0, 1) := by decide +kernel
theorem dX2_stepAtEach_25 : decode cX2_stepAtEach 25 = .ok (.iload_n 2, 1) := by decide +kernel
theorem dX2_stepAtEach_26 : decode cX2_stepAtEach 26 = .ok (.iload_n 1, 1) := by decide +kernel
theorem dX2_stepAtEach_27 : decode cX2_stepAtEach 27 = .ok (.invokevirtual 39, 3) := by decide +kernel
theorem dX2_stepAtEach_30 : decode cX2_stepAtEach 30 = .ok (.aload_n 0, 1) := by decide +kernel
theorem dX2_stepAtEach_31 : decode cX2_stepAtEach 31 = .ok (.iload_n 2, 1) := by decide +kernel
theorem dX2_stepAtEach_32 : decode cX2_stepAtEach 32 = .ok (.iload_n 1, 1) := by decide +kernel
theorem dX2_stepAtEach_33 : decode cX2_stepAtEach 33 = .ok (.invokevirtual 57, 3) := by decide +kernel
theorem dX2_stepAtEach_36 : decode cX2_stepAtEach 36 = .ok (.iastore, 1) := by decide +kernel
theorem dX2_stepAtEach_37 : decode cX2_stepAtEach 37 = .ok (.iinc 2 1, 3) := by decide +kernel
theorem dX2_stepAtEach_40 : decode cX2_stepAtEach 40 = .ok (.goto (-28), 3) := by decide +kernel
theorem dX2_stepAtEach_43 : decode cX2_stepAtEach 43 = .ok (.iinc 1 1, 3) := by decide +kernel
theorem dX2_stepAtEach_46 : decode cX2_stepAtEach 46 = .ok (.goto (-44), 3) := by decide +kernel
theorem dX2_stepAtEach_49 : decode cX2_stepAtEach 49 = .ok (.return_, 1) := by decide +kernel
set_option maxRecDepth 20000 in
theorem ggX2_stepped_X2_at : GoodIn wsX2_stepped wsX2_at := goodIn_r _ [15] (by decide +kernel) (by decide +kernel)
set_option maxRecDepth 20000 in
theorem gX2_stepped_X2_at : GoodIn wsX2_stepped (wsV RX2 39 RX2 yX2_at wsX2_at) := goodIn_app (goodIn_of _ (by decide +kernel)) ggX2_stepped_X2_at
set_option maxRecDepth 20000 in
theorem ggX2_stepped_X2_putInOrder : GoodIn wsX2_stepped wsX2_putInOrder := goodIn_r _ [19, 1, 3, 20, 21, 22, 14, 23, 24, 25, 11, 12, 13, 15, 26, 27, 28, 29, 30] (by decide +kernel) (by decide +kernel)
set_option maxRecDepth 20000 in
theorem gX2_stepped_X2_putInOrder : GoodIn wsX2_stepped (wsV RX2 64 RX2 yX2_putInOrder wsX2_putInOrder) := goodIn_app (goodIn_of _ (by decide +kernel)) ggX2_stepped_X2_putInOrder
theorem dX2_stepped_0 : decode cX2_stepped 0 = .ok (.aload_n 0, 1) := by decide +kernel
theorem dX2_stepped_1 : decode cX2_stepped 1 = .ok (.getfield 9, 3) := by decide +kernel
theorem dX2_stepped_4 : decode cX2_stepped 4 = .ok (.aload_n 0, 1) := by decide +kernel
theorem dX2_stepped_5 : decode cX2_stepped 5 = .ok (.iload_n 1, 1) := by decide +kernel
theorem dX2_stepped_6 : decode cX2_stepped 6 = .ok (.iload_n 2, 1) := by decide +kernel
theorem dX2_stepped_7 : decode cX2_stepped 7 = .ok (.invokevirtual 39, 3) := by decide +kernel
theorem dX2_stepped_10 : decode cX2_stepped 10 = .ok (.iaload, 1) := by decide +kernel
theorem dX2_stepped_11 : decode cX2_stepped 11 = .ok (.istore_n 3, 1) := by decide +kernel
theorem dX2_stepped_12 : decode cX2_stepped 12 = .ok (.aload_n 0, 1) := by decide +kernel
theorem dX2_stepped_13 : decode cX2_stepped 13 = .ok (.getfield 15, 3) := by decide +kernel
theorem dX2_stepped_16 : decode cX2_stepped 16 = .ok (.aload_n 0, 1) := by decide +kernel
theorem dX2_stepped_17 : decode cX2_stepped 17 = .ok (.iload_n 1, 1) := by decide +kernel
theorem dX2_stepped_18 : decode cX2_stepped 18 = .ok (.iload_n 2, 1) := by decide +kernel
theorem dX2_stepped_19 : decode cX2_stepped 19 = .ok (.invokevirtual 39, 3) := by decide +kernel
theorem dX2_stepped_22 : decode cX2_stepped 22 = .ok (.baload, 1) := by decide +kernel
theorem dX2_stepped_23 : decode cX2_stepped 23 = .ok (.ifCond .eq 5, 3) := by decide +kernel
theorem dX2_stepped_26 : decode cX2_stepped 26 = .ok (.iload_n 3, 1) := by decide +kernel
theorem dX2_stepped_27 : decode cX2_stepped 27 = .ok (.ireturn, 1) := by decide +kernel
theorem dX2_stepped_28 : decode cX2_stepped 28 = .ok (.aload_n 0, 1) := by decide +kernel
theorem dX2_stepped_29 : decode cX2_stepped 29 = .ok (.iload_n 1, 1) := by decide +kernel
theorem dX2_stepped_30 : decode cX2_stepped 30 = .ok (.iconst 1, 1) := by decide +kernel
theorem dX2_stepped_31 : decode cX2_stepped 31 = .ok (.isub, 1) := by decide +kernel
theorem dX2_stepped_32 : decode cX2_stepped 32 = .ok (.iload_n 2, 1) := by decide +kernel
theorem dX2_stepped_33 : decode cX2_stepped 33 = .ok (.iconst 0, 1) := by decide +kernel
theorem dX2_stepped_34 : decode cX2_stepped 34 = .ok (.invokevirtual 64, 3) := by decide +kernel
theorem dX2_stepped_37 : decode cX2_stepped 37 = .ok (.istore 4, 2) := by decide +kernel
theorem dX2_stepped_39 : decode cX2_stepped 39 = .ok (.aload_n 0, 1) := by decide +kernel
theorem dX2_stepped_40 : decode cX2_stepped 40 = .ok (.iload_n 1, 1) := by decide +kernel
theorem dX2_stepped_41 : decode cX2_stepped 41 = .ok (.iconst 1, 1) := by decide +kernel
theorem dX2_stepped_42 : decode cX2_stepped 42 = .ok (.iadd, 1) := by decide +kernel
theorem dX2_stepped_43 : decode cX2_stepped 43 = .ok (.iload_n 2, 1) := by decide +kernel
theorem dX2_stepped_44 : decode cX2_stepped 44 = .ok (.iload 4, 2) := by decide +kernel
theorem dX2_stepped_46 : decode cX2_stepped 46 = .ok (.invokevirtual 64, 3) := by decide +kernel
theorem dX2_stepped_49 : decode cX2_stepped 49 = .ok (.istore 4, 2) := by decide +kernel
theorem dX2_stepped_51 : decode cX2_stepped 51 = .ok (.aload_n 0, 1) := by decide +kernel
theorem dX2_stepped_52 : decode cX2_stepped 52 = .ok (.iload_n 1, 1) := by decide +kernel
theorem dX2_stepped_53 : decode cX2_stepped 53 = .ok (.iload_n 2, 1) := by decide +kernel
theorem dX2_stepped_54 : decode cX2_stepped 54 = .ok (.iconst 1, 1) := by decide +kernel
theorem dX2_stepped_55 : decode cX2_stepped 55 = .ok (.isub, 1) := by decide +kernel
theorem dX2_stepped_56 : decode cX2_stepped 56 = .ok (.iload 4, 2) := by decide +kernel
theorem dX2_stepped_58 : decode cX2_stepped 58 = .ok (.invokevirtual 64, 3) := by decide +kernel
theorem dX2_stepped_61 : decode cX2_stepped 61 = .ok (.istore 4, 2) := by decide +kernel
theorem dX2_stepped_63 : decode cX2_stepped 63 = .ok (.aload_n 0, 1) := by decide +kernel
theorem dX2_stepped_64 : decode cX2_stepped 64 = .ok (.iload_n 1, 1) := by decide +kernel
theorem dX2_stepped_65 : decode cX2_stepped 65 = .ok (.iload_n 2, 1) := by decide +kernel
theorem dX2_stepped_66 : decode cX2_stepped 66 = .ok (.iconst 1, 1) := by decide +kernel
theorem dX2_stepped_67 : decode cX2_stepped 67 = .ok (.iadd, 1) := by decide +kernel
theorem dX2_stepped_68 : decode cX2_stepped 68 = .ok (.iload 4, 2) := by decide +kernel
theorem dX2_stepped_70 : decode cX2_stepped 70 = .ok (.invokevirtual 64, 3) := by decide +kernel
theorem dX2_stepped_73 : decode cX2_stepped 73 = .ok (.istore 4, 2) := by decide +kernel
theorem dX2_stepped_75 : decode cX2_stepped 75 = .ok (.aload_n 0, 1) := by decide +kernel
theorem dX2_stepped_76 : decode cX2_stepped 76 = .ok (.getfield 19, 3) := by decide +kernel
theorem dX2_stepped_79 : decode cX2_stepped 79 = .ok (.iload 4, 2) := by decide +kernel
theorem dX2_stepped_81 : decode cX2_stepped 81 = .ok (.iconst 1, 1) := by decide +kernel
theorem dX2_stepped_82 : decode cX2_stepped 82 = .ok (.isub, 1) := by decide +kernel
theorem dX2_stepped_83 : decode cX2_stepped 83 = .ok (.iconst 2, 1) := by decide +kernel
theorem dX2_stepped_84 : decode cX2_stepped 84 = .ok (.idiv, 1) := by decide +kernel
theorem dX2_stepped_85 : decode cX2_stepped 85 = .ok (.iaload, 1) := by decide +kernel
theorem dX2_stepped_86 : decode cX2_stepped 86 = .ok (.istore 5, 2) := by decide +kernel
theorem dX2_stepped_88 : decode cX2_stepped 88 = .ok (.aload_n 0, 1) := by decide +kernel
theorem dX2_stepped_89 : decode cX2_stepped 89 = .ok (.getfield 19, 3) := by decide +kernel
theorem dX2_stepped_92 : decode cX2_stepped 92 = .ok (.iload 4, 2) := by decide +kernel
theorem dX2_stepped_94 : decode cX2_stepped 94 = .ok (.iconst 2, 1) := by decide +kernel
theorem dX2_stepped_95 : decode cX2_stepped 95 = .ok (.idiv, 1) := by decide +kernel
theorem dX2_stepped_96 : decode cX2_stepped 96 = .ok (.iaload, 1) := by decide +kernel
theorem dX2_stepped_97 : decode cX2_stepped 97 = .ok (.istore 6, 2) := by decide +kernel
theorem dX2_stepped_99 : decode cX2_stepped 99 = .ok (.iload 5, 2) := by decide +kernel
theorem dX2_stepped_101 : decode cX2_stepped 101 = .ok (.iload 6, 2) := by decide +kernel
theorem dX2_stepped_103 : decode cX2_stepped 103 = .ok (.iload_n 3, 1) := by decide +kernel
theorem dX2_stepped_104 : decode cX2_stepped 104 = .ok (.invokestatic 68, 3) := by decide +kernel
theorem dX2_stepped_107 : decode cX2_stepped 107 = .ok (.invokestatic 71, 3) := by decide +kernel
theorem dX2_stepped_110 : decode cX2_stepped 110 = .ok (.ireturn, 1) := by decide +kernel
set_option maxRecDepth 20000 in
theorem ggX2_putInOrder_X2_has : GoodIn wsX2_putInOrder wsX2_has := goodIn_r _ [7, 8, 9, 14, 15, 16, 17, 18] (by decide +kernel) (by decide +kernel)
set_option maxRecDepth 20000 in
theorem gX2_putInOrder_X2_has : GoodIn wsX2_putInOrder (wsV RX2 47 RX2 yX2_has wsX2_has) := goodIn_app (goodIn_of _ (by decide +kernel)) ggX2_putInOrder_X2_has
set_option maxRecDepth 20000 in
theorem ggX2_putInOrder_X2_at : GoodIn wsX2_putInOrder wsX2_at := goodIn_r _ [13] (by decide +kernel) (by decide +kernel)
set_option maxRecDepth 20000 in
theorem gX2_putInOrder_X2_at : GoodIn wsX2_putInOrder (wsV RX2 39 RX2 yX2_at wsX2_at) := goodIn_app (goodIn_of _ (by decide +kernel)) ggX2_putInOrder_X2_at
theorem dX2_putInOrder_0 : decode cX2_putInOrder 0 = .ok (.aload_n 0, 1) := by decide +kernel
theorem dX2_putInOrder_1 : decode cX2_putInOrder 1 = .ok (.iload_n 1, 1) := by decide +kernel
theorem dX2_putInOrder_2 : decode cX2_putInOrder 2 = .ok (.iload_n 2, 1) := by decide +kernel
theorem dX2_putInOrder_3 : decode cX2_putInOrder 3 = .ok (.invokevirtual 47, 3) := by decide +kernel
theorem dX2_putInOrder_6 : decode cX2_putInOrder 6 = .ok (.ifCond .ne 5, 3) := by decide +kernel
theorem dX2_putInOrder_9 : decode cX2_putInOrder 9 = .ok (.iload_n 3, 1) := by decide +kernel
theorem dX2_putInOrder_10 : decode cX2_putInOrder 10 = .ok (.ireturn, 1) := by decide +kernel
theorem dX2_putInOrder_11 : decode cX2_putInOrder 11 = .ok (.aload_n 0, 1) := by decide +kernel
theorem dX2_putInOrder_12 : decode cX2_putInOrder 12 = .ok (.getfield 9, 3) := by decide +kernel
theorem dX2_putInOrder_15 : decode cX2_putInOrder 15 = .ok (.aload_n 0, 1) := by decide +kernel
theorem dX2_putInOrder_16 : decode cX2_putInOrder 16 = .ok (.iload_n 1, 1) := by decide +kernel
theorem dX2_putInOrder_17 : decode cX2_putInOrder 17 = .ok (.iload_n 2, 1) := by decide +kernel
theorem dX2_putInOrder_18 : decode cX2_putInOrder 18 = .ok (.invokevirtual 39, 3) := by decide +kernel
theorem dX2_putInOrder_21 : decode cX2_putInOrder 21 = .ok (.iaload, 1) := by decide +kernel
theorem dX2_putInOrder_22 : decode cX2_putInOrder 22 = .ok (.istore 4, 2) := by decide +kernel
theorem dX2_putInOrder_24 : decode cX2_putInOrder 24 = .ok (.iload_n 3, 1) := by decide +kernel
theorem dX2_putInOrder_25 : decode cX2_putInOrder 25 = .ok (.istore 5, 2) := by decide +kernel
theorem dX2_putInOrder_27 : decode cX2_putInOrder 27 = .ok (.iload 5, 2) := by decide +kernel
theorem dX2_putInOrder_29 : decode cX2_putInOrder 29 = .ok (.ifCond .le 39, 3) := by decide +kernel
theorem dX2_putInOrder_32 : decode cX2_putInOrder 32 = .ok (.aload_n 0, 1) := by decide +kernel
theorem dX2_putInOrder_33 : decode cX2_putInOrder 33 = .ok (.getfield 19, 3) := by decide +kernel
theorem dX2_putInOrder_36 : decode cX2_putInOrder 36 = .ok (.iload 5, 2) := by decide +kernel
theorem dX2_putInOrder_38 : decode cX2_putInOrder 38 = .ok (.iconst 1, 1) := by decide +kernel
theorem dX2_putInOrder_39 : decode cX2_putInOrder 39 = .ok (.isub, 1) := by decide +kernel
theorem dX2_putInOrder_40 : decode cX2_putInOrder 40 = .ok (.iaload, 1) := by decide +kernel
theorem dX2_putInOrder_41 : decode cX2_putInOrder 41 = .ok (.iload 4, 2) := by decide +kernel
theorem dX2_putInOrder_43 : decode cX2_putInOrder 43 = .ok (.if_icmp .le 25, 3) := by decide +kernel
theorem dX2_putInOrder_46 : decode cX2_putInOrder 46 = .ok (.aload_n 0, 1) := by decide +kernel
theorem dX2_putInOrder_47 : decode cX2_putInOrder 47 = .ok (.getfield 19, 3) := by decide +kernel
theorem dX2_putInOrder_50 : decode cX2_putInOrder 50 = .ok (.iload 5, 2) := by decide +kernel
theorem dX2_putInOrder_52 : decode cX2_putInOrder 52 = .ok (.aload_n 0, 1) := by decide +kernel
theorem dX2_putInOrder_53 : decode cX2_putInOrder 53 = .ok (.getfield 19, 3) := by decide +kernel
theorem dX2_putInOrder_56 : decode cX2_putInOrder 56 = .ok (.iload 5, 2) := by decide +kernel
theorem dX2_putInOrder_58 : decode cX2_putInOrder 58 = .ok (.iconst 1, 1) := by decide +kernel
theorem dX2_putInOrder_59 : decode cX2_putInOrder 59 = .ok (.isub, 1) := by decide +kernel
theorem dX2_putInOrder_60 : decode cX2_putInOrder 60 = .ok (.iaload, 1) := by decide +kernel
theorem dX2_putInOrder_61 : decode cX2_putInOrder 61 = .ok (.iastore, 1) := by decide +kernel
theorem dX2_putInOrder_62 : decode cX2_putInOrder 62 = .ok (.iinc 5 (-1), 3) := by decide +kernel
theorem dX2_putInOrder_65 : decode cX2_putInOrder 65 = .ok (.goto (-38), 3) := by decide +kernel
theorem dX2_putInOrder_68 : decode cX2_putInOrder 68 = .ok (.aload_n 0, 1) := by decide +kernel
theorem dX2_putInOrder_69 : decode cX2_putInOrder 69 = .ok (.getfield 19, 3) := by decide +kernel
theorem dX2_putInOrder_72 : decode cX2_putInOrder 72 = .ok (.iload 5, 2) := by decide +kernel
theorem dX2_putInOrder_74 : decode cX2_putInOrder 74 = .ok (.iload 4, 2) := by decide +kernel
theorem dX2_putInOrder_76 : decode cX2_putInOrder 76 = .ok (.iastore, 1) := by decide +kernel
theorem dX2_putInOrder_77 : decode cX2_putInOrder 77 = .ok (.iload_n 3, 1) := by decide +kernel
theorem dX2_putInOrder_78 : decode cX2_putInOrder 78 = .ok (.iconst 1, 1) := by decide +kernel
theorem dX2_putInOrder_79 : decode cX2_putInOrder 79 = .ok (.iadd, 1) := by decide +kernel
theorem dX2_putInOrder_80 : decode cX2_putInOrder 80 = .ok (.ireturn, 1) := by decide +kernel
theorem dJ7_fill_53178_0 : decode cJ7_fill_53178 0 = .ok (.iconst 0, 1) := by decide +kernel
theorem dJ7_fill_53178_1 : decode cJ7_fill_53178 1 = .ok (.istore_n 2, 1) := by decide +kernel
theorem dJ7_fill_53178_2 : decode cJ7_fill_53178 2 = .ok (.aload_n 0, 1) := by decide +kernel
theorem dJ7_fill_53178_3 : decode cJ7_fill_53178 3 = .ok (.arraylength, 1) := by decide +kernel
theorem dJ7_fill_53178_4 : decode cJ7_fill_53178 4 = .ok (.istore_n 3, 1) := by decide +kernel
theorem dJ7_fill_53178_5 : decode cJ7_fill_53178 5 = .ok (.iload_n 2, 1) := by decide +kernel
theorem dJ7_fill_53178_6 : decode cJ7_fill_53178 6 = .ok (.iload_n 3, 1) := by decide +kernel
theorem dJ7_fill_53178_7 : decode cJ7_fill_53178 7 = .ok (.if_icmp .ge 13, 3) := by decide +kernel
theorem dJ7_fill_53178_10 : decode cJ7_fill_53178 10 = .ok (.aload_n 0, 1) := by decide +kernel
theorem dJ7_fill_53178_11 : decode cJ7_fill_53178 11 = .ok (.iload_n 2, 1) := by decide +kernel
theorem dJ7_fill_53178_12 : decode cJ7_fill_53178 12 = .ok (.iload_n 1, 1) := by decide +kernel
theorem dJ7_fill_53178_13 : decode cJ7_fill_53178 13 = .ok (.iastore, 1) := by decide +kernel
theorem dJ7_fill_53178_14 : decode cJ7_fill_53178 14 = .ok (.iinc 2 1, 3) := by decide +kernel
theorem dJ7_fill_53178_17 : decode cJ7_fill_53178 17 = .ok (.goto (-12), 3) := by decide +kernel
theorem dJ7_fill_53178_20 : decode cJ7_fill_53178 20 = .ok (.return_, 1) := by decide +kernel
