set_option maxRecDepth 20000 in
theorem ggX1_init_X0_init : GoodIn wsX1_init wsX0_init := goodIn_r _ [23, 24, 2, 3, 8, 25, 26, 27, 28, 29, 30, 31, 32, 33, 34, 6, 35, 36, 37, 38, 39, 40, 41, 42, 43, 44, 45, 46, 47, 48, 49, 50] (by decide +kernel) (by decide +kernel)
set_option maxRecDepth 20000 in
theorem gX1_init_X0_init : GoodIn wsX1_init (wsX0_init) := ggX1_init_X0_init
theorem dX1_init_0 : decode cX1_init 0 = .ok (.aload_n 0, 1) := by decide +kernel
theorem dX1_init_1 : decode cX1_init 1 = .ok (.invokespecial 3, 3) := by decide +kernel
theorem dX1_init_4 : decode cX1_init 4 = .ok (.aload_n 0, 1) := by decide +kernel
theorem dX1_init_5 : decode cX1_init 5 = .ok (.new 9, 3) := by decide +kernel
theorem dX1_init_8 : decode cX1_init 8 = .ok (.dup, 1) := by decide +kernel
theorem dX1_init_9 : decode cX1_init 9 = .ok (.invokespecial 11, 3) := by decide +kernel
theorem dX1_init_12 : decode cX1_init 12 = .ok (.putfield 12, 3) := by decide +kernel
theorem dX1_init_15 : decode cX1_init 15 = .ok (.aload_n 0, 1) := by decide +kernel
theorem dX1_init_16 : decode cX1_init 16 = .ok (.bipush 36, 2) := by decide +kernel
theorem dX1_init_18 : decode cX1_init 18 = .ok (.newarray .int, 2) := by decide +kernel
theorem dX1_init_20 : decode cX1_init 20 = .ok (.putfield 18, 3) := by decide +kernel
theorem dX1_init_23 : decode cX1_init 23 = .ok (.aload_n 0, 1) := by decide +kernel
theorem dX1_init_24 : decode cX1_init 24 = .ok (.bipush 36, 2) := by decide +kernel
theorem dX1_init_26 : decode cX1_init 26 = .ok (.newarray .int, 2) := by decide +kernel
theorem dX1_init_28 : decode cX1_init 28 = .ok (.putfield 22, 3) := by decide +kernel
theorem dX1_init_31 : decode cX1_init 31 = .ok (.aload_n 0, 1) := by decide +kernel
theorem dX1_init_32 : decode cX1_init 32 = .ok (.sipush 216, 3) := by decide +kernel
theorem dX1_init_35 : decode cX1_init 35 = .ok (.newarray .int, 2) := by decide +kernel
theorem dX1_init_37 : decode cX1_init 37 = .ok (.putfield 25, 3) := by decide +kernel
theorem dX1_init_40 : decode cX1_init 40 = .ok (.aload_n 0, 1) := by decide +kernel
theorem dX1_init_41 : decode cX1_init 41 = .ok (.bipush 36, 2) := by decide +kernel
theorem dX1_init_43 : decode cX1_init 43 = .ok (.newarray .int, 2) := by decide +kernel
theorem dX1_init_45 : decode cX1_init 45 = .ok (.putfield 28, 3) := by decide +kernel
theorem dX1_init_48 : decode cX1_init 48 = .ok (.aload_n 0, 1) := by decide +kernel
theorem dX1_init_49 : decode cX1_init 49 = .ok (.bipush 36, 2) := by decide +kernel
theorem dX1_init_51 : decode cX1_init 51 = .ok (.newarray .int, 2) := by decide +kernel
theorem dX1_init_53 : decode cX1_init 53 = .ok (.putfield 31, 3) := by decide +kernel
theorem dX1_init_56 : decode cX1_init 56 = .ok (.aload_n 0, 1) := by decide +kernel
theorem dX1_init_57 : decode cX1_init 57 = .ok (.bipush 36, 2) := by decide +kernel
theorem dX1_init_59 : decode cX1_init 59 = .ok (.newarray .int, 2) := by decide +kernel
theorem dX1_init_61 : decode cX1_init 61 = .ok (.putfield 34, 3) := by decide +kernel
theorem dX1_init_64 : decode cX1_init 64 = .ok (.aload_n 0, 1) := by decide +kernel
theorem dX1_init_65 : decode cX1_init 65 = .ok (.iconst 0, 1) := by decide +kernel
theorem dX1_init_66 : decode cX1_init 66 = .ok (.putfield 37, 3) := by decide +kernel
theorem dX1_init_69 : decode cX1_init 69 = .ok (.aload_n 0, 1) := by decide +kernel
theorem dX1_init_70 : decode cX1_init 70 = .ok (.iconst 0, 1) := by decide +kernel
theorem dX1_init_71 : decode cX1_init 71 = .ok (.putfield 41, 3) := by decide +kernel
theorem dX1_init_74 : decode cX1_init 74 = .ok (.aload_n 0, 1) := by decide +kernel
theorem dX1_init_75 : decode cX1_init 75 = .ok (.iconst 0, 1) := by decide +kernel
theorem dX1_init_76 : decode cX1_init 76 = .ok (.putfield 45, 3) := by decide +kernel
theorem dX1_init_79 : decode cX1_init 79 = .ok (.aload_n 0, 1) := by decide +kernel
theorem dX1_init_80 : decode cX1_init 80 = .ok (.lconst 0, 1) := by decide +kernel
theorem dX1_init_81 : decode cX1_init 81 = .ok (.putfield 48, 3) := by decide +kernel
theorem dX1_init_84 : decode cX1_init 84 = .ok (.aload_n 0, 1) := by decide +kernel
theorem dX1_init_85 : decode cX1_init 85 = .ok (.lconst 0, 1) := by decide +kernel
theorem dX1_init_86 : decode cX1_init 86 = .ok (.putfield 52, 3) := by decide +kernel
theorem dX1_init_89 : decode cX1_init 89 = .ok (.aload_n 0, 1) := by decide +kernel
theorem dX1_init_90 : decode cX1_init 90 = .ok (.lconst 0, 1) := by decide +kernel
theorem dX1_init_91 : decode cX1_init 91 = .ok (.putfield 55, 3) := by decide +kernel
theorem dX1_init_94 : decode cX1_init 94 = .ok (.return_, 1) := by decide +kernel
theorem dX1_forget_0 : decode cX1_forget 0 = .ok (.aload_n 0, 1) := by decide +kernel
theorem dX1_forget_1 : decode cX1_forget 1 = .ok (.iconst 0, 1) := by decide +kernel
theorem dX1_forget_2 : decode cX1_forget 2 = .ok (.putfield 41, 3) := by decide +kernel
theorem dX1_forget_5 : decode cX1_forget 5 = .ok (.return_, 1) := by decide +kernel
set_option maxRecDepth 20000 in
theorem ggX1_settle_X1_open : GoodIn wsX1_settle wsX1_open := goodIn_r _ [12, 13, 5, 14, 15, 16, 17, 18, 19, 20, 21, 22, 23, 24, 25, 26, 27, 28, 11, 29, 30, 31, 32, 3, 33, 34, 35, 36, 37, 38, 39, 40, 41, 76, 77, 78, 79, 80, 81, 82, 83, 84, 85, 86, 87, 88, 89, 90, 91, 92, 93, 94, 95] (by decide +kernel) (by decide +kernel)
set_option maxRecDepth 20000 in
theorem gX1_settle_X1_open : GoodIn wsX1_settle (wsV RX1 58 RX1 yX1_open wsX1_open) := goodIn_app (goodIn_of _ (by decide +kernel)) ggX1_settle_X1_open
set_option maxRecDepth 20000 in
theorem ggX1_settle_X1_search : GoodIn wsX1_settle wsX1_search := goodIn_r _ [45, 30, 46, 47, 31, 5, 16, 48, 15, 49, 50, 51, 52, 11, 53, 14, 54, 55, 56, 57, 76, 77, 78, 79, 80, 81, 82, 83, 84, 85, 86, 87, 88, 89, 90, 91, 92, 93, 94, 95] (by decide +kernel) (by decide +kernel)
set_option maxRecDepth 20000 in
theorem gX1_settle_X1_search : GoodIn wsX1_settle (wsV RX1 62 RX1 yX1_search wsX1_search) := goodIn_app (goodIn_of _ (by decide +kernel)) ggX1_settle_X1_search
set_option maxRecDepth 20000 in
theorem ggX1_settle_X1_pushTo : GoodIn wsX1_settle wsX1_pushTo := goodIn_r _ [61, 31, 48, 15, 49, 62, 39, 40, 41, 30, 13, 76, 77, 78, 79, 80, 81, 82, 83, 84, 85, 86, 87, 88] (by decide +kernel) (by decide +kernel)
set_option maxRecDepth 20000 in
theorem gX1_settle_X1_pushTo : GoodIn wsX1_settle (wsV RX1 67 RX1 yX1_pushTo wsX1_pushTo) := goodIn_app (goodIn_of _ (by decide +kernel)) ggX1_settle_X1_pushTo
set_option maxRecDepth 20000 in
theorem ggX1_settle_X1_seen : GoodIn wsX1_settle wsX1_seen := goodIn_r _ [66, 5, 14, 48, 76, 77, 78, 79, 80, 81, 82, 83, 84, 85, 86, 87, 88, 89, 90, 91, 92, 93, 94, 95] (by decide +kernel) (by decide +kernel)
set_option maxRecDepth 20000 in
theorem gX1_settle_X1_seen : GoodIn wsX1_settle (wsV RX1 70 RX1 yX1_seen wsX1_seen) := goodIn_app (goodIn_of _ (by decide +kernel)) ggX1_settle_X1_seen
set_option maxRecDepth 20000 in
theorem ggX1_settle_X1_searchBack : GoodIn wsX1_settle wsX1_searchBack := goodIn_r _ [70, 31, 46, 47, 5, 16, 48, 15, 50, 51, 52, 11, 53, 14, 54, 55, 56, 57, 76, 77, 78, 79, 80, 81, 82, 83, 84, 85, 86, 87, 88, 89, 90, 91, 92, 93, 94, 95] (by decide +kernel) (by decide +kernel)
set_option maxRecDepth 20000 in
theorem gX1_settle_X1_searchBack : GoodIn wsX1_settle (wsV RX1 74 RX1 yX1_searchBack wsX1_searchBack) := goodIn_app (goodIn_of _ (by decide +kernel)) ggX1_settle_X1_searchBack
set_option maxRecDepth 20000 in
theorem ggX1_settle_X0_every : GoodIn wsX1_settle wsX0_every := goodIn_r _ [74, 75, 89, 90, 91, 92, 93, 94, 95] (by decide +kernel) (by decide +kernel)
set_option maxRecDepth 20000 in
theorem gX1_settle_X0_every : GoodIn wsX1_settle (wsV RX1 77 RX0 yX0_every wsX0_every) := goodIn_app (goodIn_of _ (by decide +kernel)) ggX1_settle_X0_every
theorem dX1_settle_0 : decode cX1_settle 0 = .ok (.aload_n 0, 1) := by decide +kernel
theorem dX1_settle_1 : decode cX1_settle 1 = .ok (.getfield 41, 3) := by decide +kernel
theorem dX1_settle_4 : decode cX1_settle 4 = .ok (.ifCond .eq 12, 3) := by decide +kernel
theorem dX1_settle_7 : decode cX1_settle 7 = .ok (.aload_n 0, 1) := by decide +kernel
theorem dX1_settle_8 : decode cX1_settle 8 = .ok (.getfield 45, 3) := by decide +kernel
theorem dX1_settle_11 : decode cX1_settle 11 = .ok (.iload_n 1, 1) := by decide +kernel
theorem dX1_settle_12 : decode cX1_settle 12 = .ok (.if_icmp .ne 4, 3) := by decide +kernel
theorem dX1_settle_15 : decode cX1_settle 15 = .ok (.return_, 1) := by decide +kernel
theorem dX1_settle_16 : decode cX1_settle 16 = .ok (.aload_n 0, 1) := by decide +kernel
theorem dX1_settle_17 : decode cX1_settle 17 = .ok (.iload_n 1, 1) := by decide +kernel
theorem dX1_settle_18 : decode cX1_settle 18 = .ok (.invokevirtual 58, 3) := by decide +kernel
theorem dX1_settle_21 : decode cX1_settle 21 = .ok (.aload_n 0, 1) := by decide +kernel
theorem dX1_settle_22 : decode cX1_settle 22 = .ok (.invokevirtual 62, 3) := by decide +kernel
theorem dX1_settle_25 : decode cX1_settle 25 = .ok (.istore_n 2, 1) := by decide +kernel
theorem dX1_settle_26 : decode cX1_settle 26 = .ok (.iconst 0, 1) := by decide +kernel
theorem dX1_settle_27 : decode cX1_settle 27 = .ok (.istore_n 3, 1) := by decide +kernel
theorem dX1_settle_28 : decode cX1_settle 28 = .ok (.iload_n 3, 1) := by decide +kernel
theorem dX1_settle_29 : decode cX1_settle 29 = .ok (.ldc 66, 2) := by decide +kernel
theorem dX1_settle_31 : decode cX1_settle 31 = .ok (.if_icmp .ge 24, 3) := by decide +kernel
theorem dX1_settle_34 : decode cX1_settle 34 = .ok (.iload_n 2, 1) := by decide +kernel
theorem dX1_settle_35 : decode cX1_settle 35 = .ok (.iconst (-1), 1) := by decide +kernel
theorem dX1_settle_36 : decode cX1_settle 36 = .ok (.if_icmp .eq 19, 3) := by decide +kernel
theorem dX1_settle_39 : decode cX1_settle 39 = .ok (.aload_n 0, 1) := by decide +kernel
theorem dX1_settle_40 : decode cX1_settle 40 = .ok (.iload_n 2, 1) := by decide +kernel
theorem dX1_settle_41 : decode cX1_settle 41 = .ok (.invokevirtual 67, 3) := by decide +kernel
theorem dX1_settle_44 : decode cX1_settle 44 = .ok (.aload_n 0, 1) := by decide +kernel
theorem dX1_settle_45 : decode cX1_settle 45 = .ok (.invokevirtual 62, 3) := by decide +kernel
theorem dX1_settle_48 : decode cX1_settle 48 = .ok (.istore_n 2, 1) := by decide +kernel
theorem dX1_settle_49 : decode cX1_settle 49 = .ok (.iinc 3 1, 3) := by decide +kernel
theorem dX1_settle_52 : decode cX1_settle 52 = .ok (.goto (-24), 3) := by decide +kernel
theorem dX1_settle_55 : decode cX1_settle 55 = .ok (.aload_n 0, 1) := by decide +kernel
theorem dX1_settle_56 : decode cX1_settle 56 = .ok (.aload_n 0, 1) := by decide +kernel
theorem dX1_settle_57 : decode cX1_settle 57 = .ok (.invokevirtual 70, 3) := by decide +kernel
theorem dX1_settle_60 : decode cX1_settle 60 = .ok (.putfield 52, 3) := by decide +kernel
theorem dX1_settle_63 : decode cX1_settle 63 = .ok (.aload_n 0, 1) := by decide +kernel
theorem dX1_settle_64 : decode cX1_settle 64 = .ok (.invokevirtual 74, 3) := by decide +kernel
theorem dX1_settle_67 : decode cX1_settle 67 = .ok (.aload_n 0, 1) := by decide +kernel
theorem dX1_settle_68 : decode cX1_settle 68 = .ok (.aload_n 0, 1) := by decide +kernel
theorem dX1_settle_69 : decode cX1_settle 69 = .ok (.getfield 12, 3) := by decide +kernel
theorem dX1_settle_72 : decode cX1_settle 72 = .ok (.invokevirtual 77, 3) := by decide +kernel
theorem dX1_settle_75 : decode cX1_settle 75 = .ok (.aload_n 0, 1) := by decide +kernel
theorem dX1_settle_76 : decode cX1_settle 76 = .ok (.invokevirtual 70, 3) := by decide +kernel
theorem dX1_settle_79 : decode cX1_settle 79 = .ok (.ldc2_w 80, 3) := by decide +kernel
theorem dX1_settle_82 : decode cX1_settle 82 = .ok (.lxor, 1) := by decide +kernel
theorem dX1_settle_83 : decode cX1_settle 83 = .ok (.land, 1) := by decide +kernel
theorem dX1_settle_84 : decode cX1_settle 84 = .ok (.putfield 55, 3) := by decide +kernel
theorem dX1_settle_87 : decode cX1_settle 87 = .ok (.aload_n 0, 1) := by decide +kernel
theorem dX1_settle_88 : decode cX1_settle 88 = .ok (.iconst 1, 1) := by decide +kernel
theorem dX1_settle_89 : decode cX1_settle 89 = .ok (.putfield 41, 3) := by decide +kernel
theorem dX1_settle_92 : decode cX1_settle 92 = .ok (.aload_n 0, 1) := by decide +kernel
theorem dX1_settle_93 : decode cX1_settle 93 = .ok (.iload_n 1, 1) := by decide +kernel
theorem dX1_settle_94 : decode cX1_settle 94 = .ok (.putfield 45, 3) := by decide +kernel
theorem dX1_settle_97 : decode cX1_settle 97 = .ok (.return_, 1) := by decide +kernel
set_option maxRecDepth 20000 in
theorem ggX1_open_X0_ownCost : GoodIn wsX1_open wsX0_ownCost := goodIn_r _ [11, 12, 13, 14, 46, 47, 48, 49, 50, 51, 52] (by decide +kernel) (by decide +kernel)
set_option maxRecDepth 20000 in
theorem gX1_open_X0_ownCost : GoodIn wsX1_open (wsV RX1 85 RX0 yX0_ownCost wsX0_ownCost) := goodIn_app (goodIn_of _ (by decide +kernel)) ggX1_open_X0_ownCost
set_option maxRecDepth 20000 in
theorem ggX1_open_X1_openCell : GoodIn wsX1_open wsX1_openCell := goodIn_r _ [19, 20, 21, 2, 22, 23, 1, 33, 34, 35, 36, 37, 38, 39, 40, 41, 42, 43, 44, 45, 46, 47, 48, 49, 50, 51, 52] (by decide +kernel) (by decide +kernel)
set_option maxRecDepth 20000 in
theorem gX1_open_X1_openCell : GoodIn wsX1_open (wsV RX1 89 RX1 yX1_openCell wsX1_openCell) := goodIn_app (goodIn_of _ (by decide +kernel)) ggX1_open_X1_openCell
set_option maxRecDepth 20000 in
theorem ggX1_open_X0_seamCost : GoodIn wsX1_open wsX0_seamCost := goodIn_r _ [27, 28, 14, 29, 30, 31, 32, 46, 47, 48, 49, 50, 51, 52] (by decide +kernel) (by decide +kernel)
set_option maxRecDepth 20000 in
theorem gX1_open_X0_seamCost : GoodIn wsX1_open (wsV RX1 99 RX0 yX0_seamCost wsX0_seamCost) := goodIn_app (goodIn_of _ (by decide +kernel)) ggX1_open_X0_seamCost
theorem dX1_open_0 : decode cX1_open 0 = .ok (.aload_n 0, 1) := by decide +kernel
theorem dX1_open_1 : decode cX1_open 1 = .ok (.lconst 0, 1) := by decide +kernel
theorem dX1_open_2 : decode cX1_open 2 = .ok (.putfield 48, 3) := by decide +kernel
theorem dX1_open_5 : decode cX1_open 5 = .ok (.iconst 0, 1) := by decide +kernel
theorem dX1_open_6 : decode cX1_open 6 = .ok (.istore_n 2, 1) := by decide +kernel
theorem dX1_open_7 : decode cX1_open 7 = .ok (.iload_n 2, 1) := by decide +kernel
theorem dX1_open_8 : decode cX1_open 8 = .ok (.aload_n 0, 1) := by decide +kernel
theorem dX1_open_9 : decode cX1_open 9 = .ok (.getfield 12, 3) := by decide +kernel
theorem dX1_open_12 : decode cX1_open 12 = .ok (.getfield 82, 3) := by decide +kernel
theorem dX1_open_15 : decode cX1_open 15 = .ok (.if_icmp .ge 90, 3) := by decide +kernel
theorem dX1_open_18 : decode cX1_open 18 = .ok (.aload_n 0, 1) := by decide +kernel
theorem dX1_open_19 : decode cX1_open 19 = .ok (.iload_n 2, 1) := by decide +kernel
theorem dX1_open_20 : decode cX1_open 20 = .ok (.aload_n 0, 1) := by decide +kernel
theorem dX1_open_21 : decode cX1_open 21 = .ok (.getfield 12, 3) := by decide +kernel
theorem dX1_open_24 : decode cX1_open 24 = .ok (.iload_n 2, 1) := by decide +kernel
theorem dX1_open_25 : decode cX1_open 25 = .ok (.invokevirtual 85, 3) := by decide +kernel
theorem dX1_open_28 : decode cX1_open 28 = .ok (.iload_n 1, 1) := by decide +kernel
theorem dX1_open_29 : decode cX1_open 29 = .ok (.iadd, 1) := by decide +kernel
theorem dX1_open_30 : decode cX1_open 30 = .ok (.invokevirtual 89, 3) := by decide +kernel
theorem dX1_open_33 : decode cX1_open 33 = .ok (.iconst 0, 1) := by decide +kernel
theorem dX1_open_34 : decode cX1_open 34 = .ok (.istore_n 3, 1) := by decide +kernel
theorem dX1_open_35 : decode cX1_open 35 = .ok (.iload_n 3, 1) := by decide +kernel
theorem dX1_open_36 : decode cX1_open 36 = .ok (.bipush 6, 2) := by decide +kernel
theorem dX1_open_38 : decode cX1_open 38 = .ok (.if_icmp .ge 61, 3) := by decide +kernel
theorem dX1_open_41 : decode cX1_open 41 = .ok (.aload_n 0, 1) := by decide +kernel
theorem dX1_open_42 : decode cX1_open 42 = .ok (.getfield 25, 3) := by decide +kernel
theorem dX1_open_45 : decode cX1_open 45 = .ok (.iload_n 2, 1) := by decide +kernel
theorem dX1_open_46 : decode cX1_open 46 = .ok (.bipush 6, 2) := by decide +kernel
theorem dX1_open_48 : decode cX1_open 48 = .ok (.imul, 1) := by decide +kernel
theorem dX1_open_49 : decode cX1_open 49 = .ok (.iload_n 3, 1) := by decide +kernel
theorem dX1_open_50 : decode cX1_open 50 = .ok (.iadd, 1) := by decide +kernel
theorem dX1_open_51 : decode cX1_open 51 = .ok (.aload_n 0, 1) := by decide +kernel
theorem dX1_open_52 : decode cX1_open 52 = .ok (.getfield 12, 3) := by decide +kernel
theorem dX1_open_55 : decode cX1_open 55 = .ok (.getfield 93, 3) := by decide +kernel
theorem dX1_open_58 : decode cX1_open 58 = .ok (.iload_n 2, 1) := by decide +kernel
theorem dX1_open_59 : decode cX1_open 59 = .ok (.bipush 6, 2) := by decide +kernel
theorem dX1_open_61 : decode cX1_open 61 = .ok (.imul, 1) := by decide +kernel
theorem dX1_open_62 : decode cX1_open 62 = .ok (.iload_n 3, 1) := by decide +kernel
theorem dX1_open_63 : decode cX1_open 63 = .ok (.iadd, 1) := by decide +kernel
theorem dX1_open_64 : decode cX1_open 64 = .ok (.iaload, 1) := by decide +kernel
theorem dX1_open_65 : decode cX1_open 65 = .ok (.iconst (-1), 1) := by decide +kernel
theorem dX1_open_66 : decode cX1_open 66 = .ok (.if_icmp .ne 7, 3) := by decide +kernel
theorem dX1_open_69 : decode cX1_open 69 = .ok (.iconst 0, 1) := by decide +kernel
theorem dX1_open_70 : decode cX1_open 70 = .ok (.goto 22, 3) := by decide +kernel
theorem dX1_open_73 : decode cX1_open 73 = .ok (.aload_n 0, 1) := by decide +kernel
theorem dX1_open_74 : decode cX1_open 74 = .ok (.getfield 12, 3) := by decide +kernel
theorem dX1_open_77 : decode cX1_open 77 = .ok (.aload_n 0, 1) := by decide +kernel
theorem dX1_open_78 : decode cX1_open 78 = .ok (.getfield 12, 3) := by decide +kernel
theorem dX1_open_81 : decode cX1_open 81 = .ok (.getfield 96, 3) := by decide +kernel
theorem dX1_open_84 : decode cX1_open 84 = .ok (.bipush 6, 2) := by decide +kernel
theorem dX1_open_86 : decode cX1_open 86 = .ok (.iaload, 1) := by decide +kernel
theorem dX1_open_87 : decode cX1_open 87 = .ok (.iload_n 2, 1) := by decide +kernel
theorem dX1_open_88 : decode cX1_open 88 = .ok (.iload_n 3, 1) := by decide +kernel
theorem dX1_open_89 : decode cX1_open 89 = .ok (.invokevirtual 99, 3) := by decide +kernel
theorem dX1_open_92 : decode cX1_open 92 = .ok (.iastore, 1) := by decide +kernel
theorem dX1_open_93 : decode cX1_open 93 = .ok (.iinc 3 1, 3) := by decide +kernel
theorem dX1_open_96 : decode cX1_open 96 = .ok (.goto (-61), 3) := by decide +kernel
theorem dX1_open_99 : decode cX1_open 99 = .ok (.iinc 2 1, 3) := by decide +kernel
theorem dX1_open_102 : decode cX1_open 102 = .ok (.goto (-95), 3) := by decide +kernel
theorem dX1_open_105 : decode cX1_open 105 = .ok (.return_, 1) := by decide +kernel
theorem dX1_openCell_0 : decode cX1_openCell 0 = .ok (.aload_n 0, 1) := by decide +kernel
theorem dX1_openCell_1 : decode cX1_openCell 1 = .ok (.getfield 18, 3) := by decide +kernel
theorem dX1_openCell_4 : decode cX1_openCell 4 = .ok (.iload_n 1, 1) := by decide +kernel
theorem dX1_openCell_5 : decode cX1_openCell 5 = .ok (.iconst 0, 1) := by decide +kernel
theorem dX1_openCell_6 : decode cX1_openCell 6 = .ok (.iastore, 1) := by decide +kernel
theorem dX1_openCell_7 : decode cX1_openCell 7 = .ok (.aload_n 0, 1) := by decide +kernel
theorem dX1_openCell_8 : decode cX1_openCell 8 = .ok (.getfield 22, 3) := by decide +kernel
theorem dX1_openCell_11 : decode cX1_openCell 11 = .ok (.iload_n 1, 1) := by decide +kernel
theorem dX1_openCell_12 : decode cX1_openCell 12 = .ok (.iconst 0, 1) := by decide +kernel
theorem dX1_openCell_13 : decode cX1_openCell 13 = .ok (.iastore, 1) := by decide +kernel
theorem dX1_openCell_14 : decode cX1_openCell 14 = .ok (.aload_n 0, 1) := by decide +kernel
theorem dX1_openCell_15 : decode cX1_openCell 15 = .ok (.getfield 12, 3) := by decide +kernel
theorem dX1_openCell_18 : decode cX1_openCell 18 = .ok (.getfield 103, 3) := by decide +kernel
theorem dX1_openCell_21 : decode cX1_openCell 21 = .ok (.iload_n 1, 1) := by decide +kernel
theorem dX1_openCell_22 : decode cX1_openCell 22 = .ok (.iaload, 1) := by decide +kernel
theorem dX1_openCell_23 : decode cX1_openCell 23 = .ok (.iconst 2, 1) := by decide +kernel
theorem dX1_openCell_24 : decode cX1_openCell 24 = .ok (.if_icmp .ne 14, 3) := by decide +kernel
theorem dX1_openCell_27 : decode cX1_openCell 27 = .ok (.aload_n 0, 1) := by decide +kernel
theorem dX1_openCell_28 : decode cX1_openCell 28 = .ok (.getfield 22, 3) := by decide +kernel
theorem dX1_openCell_31 : decode cX1_openCell 31 = .ok (.iload_n 1, 1) := by decide +kernel
theorem dX1_openCell_32 : decode cX1_openCell 32 = .ok (.ldc 66, 2) := by decide +kernel
theorem dX1_openCell_34 : decode cX1_openCell 34 = .ok (.iastore, 1) := by decide +kernel
theorem dX1_openCell_35 : decode cX1_openCell 35 = .ok (.goto 71, 3) := by decide +kernel
theorem dX1_openCell_38 : decode cX1_openCell 38 = .ok (.aload_n 0, 1) := by decide +kernel
theorem dX1_openCell_39 : decode cX1_openCell 39 = .ok (.getfield 12, 3) := by decide +kernel
theorem dX1_openCell_42 : decode cX1_openCell 42 = .ok (.getfield 103, 3) := by decide +kernel
theorem dX1_openCell_45 : decode cX1_openCell 45 = .ok (.iload_n 1, 1) := by decide +kernel
theorem dX1_openCell_46 : decode cX1_openCell 46 = .ok (.iaload, 1) := by decide +kernel
theorem dX1_openCell_47 : decode cX1_openCell 47 = .ok (.iconst 1, 1) := by decide +kernel
theorem dX1_openCell_48 : decode cX1_openCell 48 = .ok (.if_icmp .ne 25, 3) := by decide +kernel
theorem dX1_openCell_51 : decode cX1_openCell 51 = .ok (.aload_n 0, 1) := by decide +kernel
theorem dX1_openCell_52 : decode cX1_openCell 52 = .ok (.getfield 18, 3) := by decide +kernel
theorem dX1_openCell_55 : decode cX1_openCell 55 = .ok (.iload_n 1, 1) := by decide +kernel
theorem dX1_openCell_56 : decode cX1_openCell 56 = .ok (.ldc 66, 2) := by decide +kernel
theorem dX1_openCell_58 : decode cX1_openCell 58 = .ok (.iastore, 1) := by decide +kernel
theorem dX1_openCell_59 : decode cX1_openCell 59 = .ok (.aload_n 0, 1) := by decide +kernel
theorem dX1_openCell_60 : decode cX1_openCell 60 = .ok (.dup, 1) := by decide +kernel
theorem dX1_openCell_61 : decode cX1_openCell 61 = .ok (.getfield 48, 3) := by decide +kernel
theorem dX1_openCell_64 : decode cX1_openCell 64 = .ok (.iload_n 2, 1) := by decide +kernel
theorem dX1_openCell_65 : decode cX1_openCell 65 = .ok (.i2l, 1) := by decide +kernel
theorem dX1_openCell_66 : decode cX1_openCell 66 = .ok (.ladd, 1) := by decide +kernel
theorem dX1_openCell_67 : decode cX1_openCell 67 = .ok (.putfield 48, 3) := by decide +kernel
theorem dX1_openCell_70 : decode cX1_openCell 70 = .ok (.goto 36, 3) := by decide +kernel
theorem dX1_openCell_73 : decode cX1_openCell 73 = .ok (.iload_n 2, 1) := by decide +kernel
theorem dX1_openCell_74 : decode cX1_openCell 74 = .ok (.ifCond .ge 25, 3) := by decide +kernel
theorem dX1_openCell_77 : decode cX1_openCell 77 = .ok (.aload_n 0, 1) := by decide +kernel
theorem dX1_openCell_78 : decode cX1_openCell 78 = .ok (.getfield 18, 3) := by decide +kernel
theorem dX1_openCell_81 : decode cX1_openCell 81 = .ok (.iload_n 1, 1) := by decide +kernel
theorem dX1_openCell_82 : decode cX1_openCell 82 = .ok (.iload_n 2, 1) := by decide +kernel
theorem dX1_openCell_83 : decode cX1_openCell 83 = .ok (.ineg, 1) := by decide +kernel
theorem dX1_openCell_84 : decode cX1_openCell 84 = .ok (.iastore, 1) := by decide +kernel
theorem dX1_openCell_85 : decode cX1_openCell 85 = .ok (.aload_n 0, 1) := by decide +kernel
theorem dX1_openCell_86 : decode cX1_openCell 86 = .ok (.dup, 1) := by decide +kernel
theorem dX1_openCell_87 : decode cX1_openCell 87 = .ok (.getfield 48, 3) := by decide +kernel
theorem dX1_openCell_90 : decode cX1_openCell 90 = .ok (.iload_n 2, 1) := by decide +kernel
theorem dX1_openCell_91 : decode cX1_openCell 91 = .ok (.i2l, 1) := by decide +kernel
theorem dX1_openCell_92 : decode cX1_openCell 92 = .ok (.ladd, 1) := by decide +kernel
theorem dX1_openCell_93 : decode cX1_openCell 93 = .ok (.putfield 48, 3) := by decide +kernel
theorem dX1_openCell_96 : decode cX1_openCell 96 = .ok (.goto 10, 3) := by decide +kernel
theorem dX1_openCell_99 : decode cX1_openCell 99 = .ok (.aload_n 0, 1) := by decide +kernel
theorem dX1_openCell_100 : decode cX1_openCell 100 = .ok (.getfield 22, 3) := by decide +kernel
theorem dX1_openCell_103 : decode cX1_openCell 103 = .ok (.iload_n 1, 1) := by decide +kernel
theorem dX1_openCell_104 : decode cX1_openCell 104 = .ok (.iload_n 2, 1) := by decide +kernel
theorem dX1_openCell_105 : decode cX1_openCell 105 = .ok (.iastore, 1) := by decide +kernel
theorem dX1_openCell_106 : decode cX1_openCell 106 = .ok (.return_, 1) := by decide +kernel
set_option maxRecDepth 20000 in
theorem ggX1_search_X1_startAt : GoodIn wsX1_search wsX1_startAt := goodIn_r _ [14, 2, 5, 15, 7, 16, 17, 18, 13, 19, 3, 20, 21, 22, 23, 24, 25, 26, 27, 28, 29, 30, 31, 32, 33, 34, 35, 36, 37, 38, 39] (by decide +kernel) (by decide +kernel)
set_option maxRecDepth 20000 in
theorem gX1_search_X1_startAt : GoodIn wsX1_search (wsV RX1 106 RX1 yX1_startAt wsX1_startAt) := goodIn_app (goodIn_of _ (by decide +kernel)) ggX1_search_X1_startAt
set_option maxRecDepth 20000 in
theorem ggX1_search_X1_see : GoodIn wsX1_search wsX1_see := goodIn_r _ [19, 7, 2, 3, 20, 21, 22, 23, 24, 25, 26, 27, 28, 29, 30, 31, 32] (by decide +kernel) (by decide +kernel)
set_option maxRecDepth 20000 in
theorem gX1_search_X1_see : GoodIn wsX1_search (wsV RX1 110 RX1 yX1_see wsX1_see) := goodIn_app (goodIn_of _ (by decide +kernel)) ggX1_search_X1_see
theorem dX1_search_0 : decode cX1_search 0 = .ok (.aload_n 0, 1) := by decide +kernel
theorem dX1_search_1 : decode cX1_search 1 = .ok (.aload_n 0, 1) := by decide +kernel
theorem dX1_search_2 : decode cX1_search 2 = .ok (.getfield 18, 3) := by decide +kernel
theorem dX1_search_5 : decode cX1_search 5 = .ok (.invokevirtual 106, 3) := by decide +kernel
theorem dX1_search_8 : decode cX1_search 8 = .ok (.iconst 0, 1) := by decide +kernel
theorem dX1_search_9 : decode cX1_search 9 = .ok (.istore_n 1, 1) := by decide +kernel
theorem dX1_search_10 : decode cX1_search 10 = .ok (.iload_n 1, 1) := by decide +kernel
theorem dX1_search_11 : decode cX1_search 11 = .ok (.bipush 36, 2) := by decide +kernel
theorem dX1_search_13 : decode cX1_search 13 = .ok (.if_icmp .ge 111, 3) := by decide +kernel
theorem dX1_search_16 : decode cX1_search 16 = .ok (.iload_n 1, 1) := by decide +kernel
theorem dX1_search_17 : decode cX1_search 17 = .ok (.aload_n 0, 1) := by decide +kernel
theorem dX1_search_18 : decode cX1_search 18 = .ok (.getfield 37, 3) := by decide +kernel
theorem dX1_search_21 : decode cX1_search 21 = .ok (.if_icmp .ge 103, 3) := by decide +kernel
theorem dX1_search_24 : decode cX1_search 24 = .ok (.aload_n 0, 1) := by decide +kernel
theorem dX1_search_25 : decode cX1_search 25 = .ok (.getfield 34, 3) := by decide +kernel
theorem dX1_search_28 : decode cX1_search 28 = .ok (.iload_n 1, 1) := by decide +kernel
theorem dX1_search_29 : decode cX1_search 29 = .ok (.iaload, 1) := by decide +kernel
theorem dX1_search_30 : decode cX1_search 30 = .ok (.istore_n 2, 1) := by decide +kernel
theorem dX1_search_31 : decode cX1_search 31 = .ok (.aload_n 0, 1) := by decide +kernel
theorem dX1_search_32 : decode cX1_search 32 = .ok (.getfield 22, 3) := by decide +kernel
theorem dX1_search_35 : decode cX1_search 35 = .ok (.iload_n 2, 1) := by decide +kernel
theorem dX1_search_36 : decode cX1_search 36 = .ok (.iaload, 1) := by decide +kernel
theorem dX1_search_37 : decode cX1_search 37 = .ok (.ifCond .le 5, 3) := by decide +kernel
theorem dX1_search_40 : decode cX1_search 40 = .ok (.iload_n 2, 1) := by decide +kernel
theorem dX1_search_41 : decode cX1_search 41 = .ok (.ireturn, 1) := by decide +kernel
theorem dX1_search_42 : decode cX1_search 42 = .ok (.iconst 0, 1) := by decide +kernel
theorem dX1_search_43 : decode cX1_search 43 = .ok (.istore_n 3, 1) := by decide +kernel
theorem dX1_search_44 : decode cX1_search 44 = .ok (.iload_n 3, 1) := by decide +kernel
theorem dX1_search_45 : decode cX1_search 45 = .ok (.bipush 6, 2) := by decide +kernel
theorem dX1_search_47 : decode cX1_search 47 = .ok (.if_icmp .ge 71, 3) := by decide +kernel
theorem dX1_search_50 : decode cX1_search 50 = .ok (.aload_n 0, 1) := by decide +kernel
theorem dX1_search_51 : decode cX1_search 51 = .ok (.getfield 12, 3) := by decide +kernel
theorem dX1_search_54 : decode cX1_search 54 = .ok (.getfield 93, 3) := by decide +kernel
theorem dX1_search_57 : decode cX1_search 57 = .ok (.iload_n 2, 1) := by decide +kernel
theorem dX1_search_58 : decode cX1_search 58 = .ok (.bipush 6, 2) := by decide +kernel
theorem dX1_search_60 : decode cX1_search 60 = .ok (.imul, 1) := by decide +kernel
theorem dX1_search_61 : decode cX1_search 61 = .ok (.iload_n 3, 1) := by decide +kernel
theorem dX1_search_62 : decode cX1_search 62 = .ok (.iadd, 1) := by decide +kernel
theorem dX1_search_63 : decode cX1_search 63 = .ok (.iaload, 1) := by decide +kernel
theorem dX1_search_64 : decode cX1_search 64 = .ok (.istore 4, 2) := by decide +kernel
theorem dX1_search_66 : decode cX1_search 66 = .ok (.iload 4, 2) := by decide +kernel
theorem dX1_search_68 : decode cX1_search 68 = .ok (.iconst (-1), 1) := by decide +kernel
theorem dX1_search_69 : decode cX1_search 69 = .ok (.if_icmp .eq 43, 3) := by decide +kernel
theorem dX1_search_72 : decode cX1_search 72 = .ok (.aload_n 0, 1) := by decide +kernel
theorem dX1_search_73 : decode cX1_search 73 = .ok (.getfield 31, 3) := by decide +kernel
theorem dX1_search_76 : decode cX1_search 76 = .ok (.iload 4, 2) := by decide +kernel
theorem dX1_search_78 : decode cX1_search 78 = .ok (.iaload, 1) := by decide +kernel
theorem dX1_search_79 : decode cX1_search 79 = .ok (.iconst (-1), 1) := by decide +kernel
theorem dX1_search_80 : decode cX1_search 80 = .ok (.if_icmp .ne 32, 3) := by decide +kernel
theorem dX1_search_83 : decode cX1_search 83 = .ok (.aload_n 0, 1) := by decide +kernel
theorem dX1_search_84 : decode cX1_search 84 = .ok (.getfield 25, 3) := by decide +kernel
theorem dX1_search_87 : decode cX1_search 87 = .ok (.iload_n 2, 1) := by decide +kernel
theorem dX1_search_88 : decode cX1_search 88 = .ok (.bipush 6, 2) := by decide +kernel
theorem dX1_search_90 : decode cX1_search 90 = .ok (.imul, 1) := by decide +kernel
theorem dX1_search_91 : decode cX1_search 91 = .ok (.iload_n 3, 1) := by decide +kernel
theorem dX1_search_92 : decode cX1_search 92 = .ok (.iadd, 1) := by decide +kernel
theorem dX1_search_93 : decode cX1_search 93 = .ok (.iaload, 1) := by decide +kernel
theorem dX1_search_94 : decode cX1_search 94 = .ok (.ifCond .le 18, 3) := by decide +kernel
theorem dX1_search_97 : decode cX1_search 97 = .ok (.aload_n 0, 1) := by decide +kernel
theorem dX1_search_98 : decode cX1_search 98 = .ok (.getfield 28, 3) := by decide +kernel
theorem dX1_search_101 : decode cX1_search 101 = .ok (.iload 4, 2) := by decide +kernel
theorem dX1_search_103 : decode cX1_search 103 = .ok (.iload_n 2, 1) := by decide +kernel
theorem dX1_search_104 : decode cX1_search 104 = .ok (.iastore, 1) := by decide +kernel
theorem dX1_search_105 : decode cX1_search 105 = .ok (.aload_n 0, 1) := by decide +kernel
theorem dX1_search_106 : decode cX1_search 106 = .ok (.iload 4, 2) := by decide +kernel
theorem dX1_search_108 : decode cX1_search 108 = .ok (.iload_n 3, 1) := by decide +kernel
theorem dX1_search_109 : decode cX1_search 109 = .ok (.invokevirtual 110, 3) := by decide +kernel
theorem dX1_search_112 : decode cX1_search 112 = .ok (.iinc 3 1, 3) := by decide +kernel
theorem dX1_search_115 : decode cX1_search 115 = .ok (.goto (-71), 3) := by decide +kernel
theorem dX1_search_118 : decode cX1_search 118 = .ok (.iinc 1 1, 3) := by decide +kernel
theorem dX1_search_121 : decode cX1_search 121 = .ok (.goto (-111), 3) := by decide +kernel
theorem dX1_search_124 : decode cX1_search 124 = .ok (.iconst (-1), 1) := by decide +kernel
theorem dX1_search_125 : decode cX1_search 125 = .ok (.ireturn, 1) := by decide +kernel
set_option maxRecDepth 20000 in
theorem ggX1_searchBack_X1_startAt : GoodIn wsX1_searchBack wsX1_startAt := goodIn_r _ [12, 2, 4, 13, 6, 14, 15, 16, 11, 17, 3, 18, 19, 20, 21, 22, 23, 24, 25, 26, 27, 28, 29, 30, 31, 32, 33, 34, 35, 36, 37] (by decide +kernel) (by decide +kernel)
set_option maxRecDepth 20000 in
theorem gX1_searchBack_X1_startAt : GoodIn wsX1_searchBack (wsV RX1 106 RX1 yX1_startAt wsX1_startAt) := goodIn_app (goodIn_of _ (by decide +kernel)) ggX1_searchBack_X1_startAt
set_option maxRecDepth 20000 in
theorem ggX1_searchBack_X1_see : GoodIn wsX1_searchBack wsX1_see := goodIn_r _ [17, 6, 2, 3, 18, 19, 20, 21, 22, 23, 24, 25, 26, 27, 28, 29, 30] (by decide +kernel) (by decide +kernel)
set_option maxRecDepth 20000 in
theorem gX1_searchBack_X1_see : GoodIn wsX1_searchBack (wsV RX1 110 RX1 yX1_see wsX1_see) := goodIn_app (goodIn_of _ (by decide +kernel)) ggX1_searchBack_X1_see
theorem dX1_searchBack_0 : decode cX1_searchBack 0 = .ok (.aload_n 0, 1) := by decide +kernel
theorem dX1_searchBack_1 : decode cX1_searchBack 1 = .ok (.aload_n 0, 1) := by decide +kernel
theorem dX1_searchBack_2 : decode cX1_searchBack 2 = .ok (.getfield 22, 3) := by decide +kernel
theorem dX1_searchBack_5 : decode cX1_searchBack 5 = .ok (.invokevirtual 106, 3) := by decide +kernel
theorem dX1_searchBack_8 : decode cX1_searchBack 8 = .ok (.iconst 0, 1) := by decide +kernel
theorem dX1_searchBack_9 : decode cX1_searchBack 9 = .ok (.istore_n 1, 1) := by decide +kernel
theorem dX1_searchBack_10 : decode cX1_searchBack 10 = .ok (.iload_n 1, 1) := by decide +kernel
theorem dX1_searchBack_11 : decode cX1_searchBack 11 = .ok (.bipush 36, 2) := by decide +kernel
theorem dX1_searchBack_13 : decode cX1_searchBack 13 = .ok (.if_icmp .ge 95, 3) := by decide +kernel
theorem dX1_searchBack_16 : decode cX1_searchBack 16 = .ok (.iload_n 1, 1) := by decide +kernel
theorem dX1_searchBack_17 : decode cX1_searchBack 17 = .ok (.aload_n 0, 1) := by decide +kernel
theorem dX1_searchBack_18 : decode cX1_searchBack 18 = .ok (.getfield 37, 3) := by decide +kernel
theorem dX1_searchBack_21 : decode cX1_searchBack 21 = .ok (.if_icmp .ge 87, 3) := by decide +kernel
theorem dX1_searchBack_24 : decode cX1_searchBack 24 = .ok (.aload_n 0, 1) := by decide +kernel
theorem dX1_searchBack_25 : decode cX1_searchBack 25 = .ok (.getfield 34, 3) := by decide +kernel
theorem dX1_searchBack_28 : decode cX1_searchBack 28 = .ok (.iload_n 1, 1) := by decide +kernel
theorem dX1_searchBack_29 : decode cX1_searchBack 29 = .ok (.iaload, 1) := by decide +kernel
theorem dX1_searchBack_30 : decode cX1_searchBack 30 = .ok (.istore_n 2, 1) := by decide +kernel
theorem dX1_searchBack_31 : decode cX1_searchBack 31 = .ok (.iconst 0, 1) := by decide +kernel
theorem dX1_searchBack_32 : decode cX1_searchBack 32 = .ok (.istore_n 3, 1) := by decide +kernel
theorem dX1_searchBack_33 : decode cX1_searchBack 33 = .ok (.iload_n 3, 1) := by decide +kernel
theorem dX1_searchBack_34 : decode cX1_searchBack 34 = .ok (.bipush 6, 2) := by decide +kernel
theorem dX1_searchBack_36 : decode cX1_searchBack 36 = .ok (.if_icmp .ge 66, 3) := by decide +kernel
theorem dX1_searchBack_39 : decode cX1_searchBack 39 = .ok (.aload_n 0, 1) := by decide +kernel
theorem dX1_searchBack_40 : decode cX1_searchBack 40 = .ok (.getfield 12, 3) := by decide +kernel
theorem dX1_searchBack_43 : decode cX1_searchBack 43 = .ok (.getfield 93, 3) := by decide +kernel
theorem dX1_searchBack_46 : decode cX1_searchBack 46 = .ok (.iload_n 2, 1) := by decide +kernel
theorem dX1_searchBack_47 : decode cX1_searchBack 47 = .ok (.bipush 6, 2) := by decide +kernel
theorem dX1_searchBack_49 : decode cX1_searchBack 49 = .ok (.imul, 1) := by decide +kernel
theorem dX1_searchBack_50 : decode cX1_searchBack 50 = .ok (.iload_n 3, 1) := by decide +kernel
theorem dX1_searchBack_51 : decode cX1_searchBack 51 = .ok (.iadd, 1) := by decide +kernel
theorem dX1_searchBack_52 : decode cX1_searchBack 52 = .ok (.iaload, 1) := by decide +kernel
theorem dX1_searchBack_53 : decode cX1_searchBack 53 = .ok (.istore 4, 2) := by decide +kernel
theorem dX1_searchBack_55 : decode cX1_searchBack 55 = .ok (.iload 4, 2) := by decide +kernel
theorem dX1_searchBack_57 : decode cX1_searchBack 57 = .ok (.iconst (-1), 1) := by decide +kernel
theorem dX1_searchBack_58 : decode cX1_searchBack 58 = .ok (.if_icmp .eq 38, 3) := by decide +kernel
theorem dX1_searchBack_61 : decode cX1_searchBack 61 = .ok (.aload_n 0, 1) := by decide +kernel
theorem dX1_searchBack_62 : decode cX1_searchBack 62 = .ok (.getfield 31, 3) := by decide +kernel
theorem dX1_searchBack_65 : decode cX1_searchBack 65 = .ok (.iload 4, 2) := by decide +kernel
theorem dX1_searchBack_67 : decode cX1_searchBack 67 = .ok (.iaload, 1) := by decide +kernel
theorem dX1_searchBack_68 : decode cX1_searchBack 68 = .ok (.iconst (-1), 1) := by decide +kernel
theorem dX1_searchBack_69 : decode cX1_searchBack 69 = .ok (.if_icmp .ne 27, 3) := by decide +kernel
theorem dX1_searchBack_72 : decode cX1_searchBack 72 = .ok (.aload_n 0, 1) := by decide +kernel
theorem dX1_searchBack_73 : decode cX1_searchBack 73 = .ok (.getfield 25, 3) := by decide +kernel
theorem dX1_searchBack_76 : decode cX1_searchBack 76 = .ok (.iload 4, 2) := by decide +kernel
theorem dX1_searchBack_78 : decode cX1_searchBack 78 = .ok (.bipush 6, 2) := by decide +kernel
theorem dX1_searchBack_80 : decode cX1_searchBack 80 = .ok (.imul, 1) := by decide +kernel
theorem dX1_searchBack_81 : decode cX1_searchBack 81 = .ok (.iload_n 3, 1) := by decide +kernel
theorem dX1_searchBack_82 : decode cX1_searchBack 82 = .ok (.iconst 1, 1) := by decide +kernel
theorem dX1_searchBack_83 : decode cX1_searchBack 83 = .ok (.ixor, 1) := by decide +kernel
theorem dX1_searchBack_84 : decode cX1_searchBack 84 = .ok (.iadd, 1) := by decide +kernel
theorem dX1_searchBack_85 : decode cX1_searchBack 85 = .ok (.iaload, 1) := by decide +kernel
theorem dX1_searchBack_86 : decode cX1_searchBack 86 = .ok (.ifCond .le 10, 3) := by decide +kernel
theorem dX1_searchBack_89 : decode cX1_searchBack 89 = .ok (.aload_n 0, 1) := by decide +kernel
theorem dX1_searchBack_90 : decode cX1_searchBack 90 = .ok (.iload 4, 2) := by decide +kernel
theorem dX1_searchBack_92 : decode cX1_searchBack 92 = .ok (.iload_n 3, 1) := by decide +kernel
theorem dX1_searchBack_93 : decode cX1_searchBack 93 = .ok (.invokevirtual 110, 3) := by decide +kernel
theorem dX1_searchBack_96 : decode cX1_searchBack 96 = .ok (.iinc 3 1, 3) := by decide +kernel
theorem dX1_searchBack_99 : decode cX1_searchBack 99 = .ok (.goto (-66), 3) := by decide +kernel
theorem dX1_searchBack_102 : decode cX1_searchBack 102 = .ok (.iinc 1 1, 3) := by decide +kernel
theorem dX1_searchBack_105 : decode cX1_searchBack 105 = .ok (.goto (-95), 3) := by decide +kernel
theorem dX1_searchBack_108 : decode cX1_searchBack 108 = .ok (.return_, 1) := by decide +kernel
set_option maxRecDepth 20000 in
theorem ggX1_startAt_X1_see : GoodIn wsX1_startAt wsX1_see := goodIn_r _ [9, 4, 1, 10, 11, 12, 13, 14, 15, 16, 17, 18, 19, 20, 21, 22, 23] (by decide +kernel) (by decide +kernel)
set_option maxRecDepth 20000 in
theorem gX1_startAt_X1_see : GoodIn wsX1_startAt (wsV RX1 110 RX1 yX1_see wsX1_see) := goodIn_app (goodIn_of _ (by decide +kernel)) ggX1_startAt_X1_see
theorem dX1_startAt_0 : decode cX1_startAt 0 = .ok (.aload_n 0, 1) := by decide +kernel
theorem dX1_startAt_1 : decode cX1_startAt 1 = .ok (.iconst 0, 1) := by decide +kernel
theorem dX1_startAt_2 : decode cX1_startAt 2 = .ok (.putfield 37, 3) := by decide +kernel
theorem dX1_startAt_5 : decode cX1_startAt 5 = .ok (.iconst 0, 1) := by decide +kernel
theorem dX1_startAt_6 : decode cX1_startAt 6 = .ok (.istore_n 2, 1) := by decide +kernel
theorem dX1_startAt_7 : decode cX1_startAt 7 = .ok (.iload_n 2, 1) := by decide +kernel
theorem dX1_startAt_8 : decode cX1_startAt 8 = .ok (.aload_n 0, 1) := by decide +kernel
theorem dX1_startAt_9 : decode cX1_startAt 9 = .ok (.getfield 12, 3) := by decide +kernel
theorem dX1_startAt_12 : decode cX1_startAt 12 = .ok (.getfield 82, 3) := by decide +kernel
theorem dX1_startAt_15 : decode cX1_startAt 15 = .ok (.if_icmp .ge 29, 3) := by decide +kernel
theorem dX1_startAt_18 : decode cX1_startAt 18 = .ok (.aload_n 0, 1) := by decide +kernel
theorem dX1_startAt_19 : decode cX1_startAt 19 = .ok (.getfield 31, 3) := by decide +kernel
theorem dX1_startAt_22 : decode cX1_startAt 22 = .ok (.iload_n 2, 1) := by decide +kernel
theorem dX1_startAt_23 : decode cX1_startAt 23 = .ok (.iconst (-1), 1) := by decide +kernel
theorem dX1_startAt_24 : decode cX1_startAt 24 = .ok (.iastore, 1) := by decide +kernel
theorem dX1_startAt_25 : decode cX1_startAt 25 = .ok (.aload_n 1, 1) := by decide +kernel
theorem dX1_startAt_26 : decode cX1_startAt 26 = .ok (.iload_n 2, 1) := by decide +kernel
theorem dX1_startAt_27 : decode cX1_startAt 27 = .ok (.iaload, 1) := by decide +kernel
theorem dX1_startAt_28 : decode cX1_startAt 28 = .ok (.ifCond .le 10, 3) := by decide +kernel
theorem dX1_startAt_31 : decode cX1_startAt 31 = .ok (.aload_n 0, 1) := by decide +kernel
theorem dX1_startAt_32 : decode cX1_startAt 32 = .ok (.iload_n 2, 1) := by decide +kernel
theorem dX1_startAt_33 : decode cX1_startAt 33 = .ok (.bipush 6, 2) := by decide +kernel
theorem dX1_startAt_35 : decode cX1_startAt 35 = .ok (.invokevirtual 110, 3) := by decide +kernel
theorem dX1_startAt_38 : decode cX1_startAt 38 = .ok (.iinc 2 1, 3) := by decide +kernel
theorem dX1_startAt_41 : decode cX1_startAt 41 = .ok (.goto (-34), 3) := by decide +kernel
theorem dX1_startAt_44 : decode cX1_startAt 44 = .ok (.return_, 1) := by decide +kernel
theorem dX1_see_0 : decode cX1_see 0 = .ok (.aload_n 0, 1) := by decide +kernel
theorem dX1_see_1 : decode cX1_see 1 = .ok (.getfield 31, 3) := by decide +kernel
theorem dX1_see_4 : decode cX1_see 4 = .ok (.iload_n 1, 1) := by decide +kernel
theorem dX1_see_5 : decode cX1_see 5 = .ok (.iload_n 2, 1) := by decide +kernel
theorem dX1_see_6 : decode cX1_see 6 = .ok (.iastore, 1) := by decide +kernel
theorem dX1_see_7 : decode cX1_see 7 = .ok (.aload_n 0, 1) := by decide +kernel
theorem dX1_see_8 : decode cX1_see 8 = .ok (.getfield 37, 3) := by decide +kernel
theorem dX1_see_11 : decode cX1_see 11 = .ok (.bipush 36, 2) := by decide +kernel
theorem dX1_see_13 : decode cX1_see 13 = .ok (.if_icmp .ge 20, 3) := by decide +kernel
theorem dX1_see_16 : decode cX1_see 16 = .ok (.aload_n 0, 1) := by decide +kernel
theorem dX1_see_17 : decode cX1_see 17 = .ok (.getfield 34, 3) := by decide +kernel
theorem dX1_see_20 : decode cX1_see 20 = .ok (.aload_n 0, 1) := by decide +kernel
theorem dX1_see_21 : decode cX1_see 21 = .ok (.dup, 1) := by decide +kernel
theorem dX1_see_22 : decode cX1_see 22 = .ok (.getfield 37, 3) := by decide +kernel
theorem dX1_see_25 : decode cX1_see 25 = .ok (.dup_x1, 1) := by decide +kernel
theorem dX1_see_26 : decode cX1_see 26 = .ok (.iconst 1, 1) := by decide +kernel
theorem dX1_see_27 : decode cX1_see 27 = .ok (.iadd, 1) := by decide +kernel
theorem dX1_see_28 : decode cX1_see 28 = .ok (.putfield 37, 3) := by decide +kernel
theorem dX1_see_31 : decode cX1_see 31 = .ok (.iload_n 1, 1) := by decide +kernel
theorem dX1_see_32 : decode cX1_see 32 = .ok (.iastore, 1) := by decide +kernel
theorem dX1_see_33 : decode cX1_see 33 = .ok (.return_, 1) := by decide +kernel
theorem dX1_seen_0 : decode cX1_seen 0 = .ok (.lconst 0, 1) := by decide +kernel
theorem dX1_seen_1 : decode cX1_seen 1 = .ok (.lstore_n 1, 1) := by decide +kernel
theorem dX1_seen_2 : decode cX1_seen 2 = .ok (.iconst 0, 1) := by decide +kernel
theorem dX1_seen_3 : decode cX1_seen 3 = .ok (.istore_n 3, 1) := by decide +kernel
theorem dX1_seen_4 : decode cX1_seen 4 = .ok (.iload_n 3, 1) := by decide +kernel
theorem dX1_seen_5 : decode cX1_seen 5 = .ok (.aload_n 0, 1) := by decide +kernel
theorem dX1_seen_6 : decode cX1_seen 6 = .ok (.getfield 12, 3) := by decide +kernel
theorem dX1_seen_9 : decode cX1_seen 9 = .ok (.getfield 82, 3) := by decide +kernel
theorem dX1_seen_12 : decode cX1_seen 12 = .ok (.if_icmp .ge 25, 3) := by decide +kernel
theorem dX1_seen_15 : decode cX1_seen 15 = .ok (.aload_n 0, 1) := by decide +kernel
theorem dX1_seen_16 : decode cX1_seen 16 = .ok (.getfield 31, 3) := by decide +kernel
theorem dX1_seen_19 : decode cX1_seen 19 = .ok (.iload_n 3, 1) := by decide +kernel
theorem dX1_seen_20 : decode cX1_seen 20 = .ok (.iaload, 1) := by decide +kernel
theorem dX1_seen_21 : decode cX1_seen 21 = .ok (.iconst (-1), 1) := by decide +kernel
theorem dX1_seen_22 : decode cX1_seen 22 = .ok (.if_icmp .eq 9, 3) := by decide +kernel
theorem dX1_seen_25 : decode cX1_seen 25 = .ok (.lload_n 1, 1) := by decide +kernel
theorem dX1_seen_26 : decode cX1_seen 26 = .ok (.lconst 1, 1) := by decide +kernel
theorem dX1_seen_27 : decode cX1_seen 27 = .ok (.iload_n 3, 1) := by decide +kernel
theorem dX1_seen_28 : decode cX1_seen 28 = .ok (.lshl, 1) := by decide +kernel
theorem dX1_seen_29 : decode cX1_seen 29 = .ok (.lor, 1) := by decide +kernel
theorem dX1_seen_30 : decode cX1_seen 30 = .ok (.lstore_n 1, 1) := by decide +kernel
theorem dX1_seen_31 : decode cX1_seen 31 = .ok (.iinc 3 1, 3) := by decide +kernel
theorem dX1_seen_34 : decode cX1_seen 34 = .ok (.goto (-30), 3) := by decide +kernel
theorem dX1_seen_37 : decode cX1_seen 37 = .ok (.lload_n 1, 1) := by decide +kernel
theorem dX1_seen_38 : decode cX1_seen 38 = .ok (.lreturn, 1) := by decide +kernel
theorem dX1_pushTo_0 : decode cX1_pushTo 0 = .ok (.iload_n 1, 1) := by decide +kernel
theorem dX1_pushTo_1 : decode cX1_pushTo 1 = .ok (.istore_n 2, 1) := by decide +kernel
theorem dX1_pushTo_2 : decode cX1_pushTo 2 = .ok (.aload_n 0, 1) := by decide +kernel
theorem dX1_pushTo_3 : decode cX1_pushTo 3 = .ok (.getfield 22, 3) := by decide +kernel
theorem dX1_pushTo_6 : decode cX1_pushTo 6 = .ok (.iload_n 1, 1) := by decide +kernel
theorem dX1_pushTo_7 : decode cX1_pushTo 7 = .ok (.iaload, 1) := by decide +kernel
theorem dX1_pushTo_8 : decode cX1_pushTo 8 = .ok (.istore_n 3, 1) := by decide +kernel
theorem dX1_pushTo_9 : decode cX1_pushTo 9 = .ok (.iconst 0, 1) := by decide +kernel
theorem dX1_pushTo_10 : decode cX1_pushTo 10 = .ok (.istore 4, 2) := by decide +kernel
theorem dX1_pushTo_12 : decode cX1_pushTo 12 = .ok (.iload 4, 2) := by decide +kernel
theorem dX1_pushTo_14 : decode cX1_pushTo 14 = .ok (.bipush 36, 2) := by decide +kernel
theorem dX1_pushTo_16 : decode cX1_pushTo 16 = .ok (.if_icmp .ge 53, 3) := by decide +kernel
theorem dX1_pushTo_19 : decode cX1_pushTo 19 = .ok (.aload_n 0, 1) := by decide +kernel
theorem dX1_pushTo_20 : decode cX1_pushTo 20 = .ok (.getfield 31, 3) := by decide +kernel
theorem dX1_pushTo_23 : decode cX1_pushTo 23 = .ok (.iload_n 2, 1) := by decide +kernel
theorem dX1_pushTo_24 : decode cX1_pushTo 24 = .ok (.iaload, 1) := by decide +kernel
theorem dX1_pushTo_25 : decode cX1_pushTo 25 = .ok (.bipush 6, 2) := by decide +kernel
theorem dX1_pushTo_27 : decode cX1_pushTo 27 = .ok (.if_icmp .eq 42, 3) := by decide +kernel
theorem dX1_pushTo_30 : decode cX1_pushTo 30 = .ok (.iload_n 3, 1) := by decide +kernel
theorem dX1_pushTo_31 : decode cX1_pushTo 31 = .ok (.aload_n 0, 1) := by decide +kernel
theorem dX1_pushTo_32 : decode cX1_pushTo 32 = .ok (.getfield 25, 3) := by decide +kernel
theorem dX1_pushTo_35 : decode cX1_pushTo 35 = .ok (.aload_n 0, 1) := by decide +kernel
theorem dX1_pushTo_36 : decode cX1_pushTo 36 = .ok (.getfield 28, 3) := by decide +kernel
theorem dX1_pushTo_39 : decode cX1_pushTo 39 = .ok (.iload_n 2, 1) := by decide +kernel
theorem dX1_pushTo_40 : decode cX1_pushTo 40 = .ok (.iaload, 1) := by decide +kernel
theorem dX1_pushTo_41 : decode cX1_pushTo 41 = .ok (.bipush 6, 2) := by decide +kernel
theorem dX1_pushTo_43 : decode cX1_pushTo 43 = .ok (.imul, 1) := by decide +kernel
theorem dX1_pushTo_44 : decode cX1_pushTo 44 = .ok (.aload_n 0, 1) := by decide +kernel
theorem dX1_pushTo_45 : decode cX1_pushTo 45 = .ok (.getfield 31, 3) := by decide +kernel
theorem dX1_pushTo_48 : decode cX1_pushTo 48 = .ok (.iload_n 2, 1) := by decide +kernel
theorem dX1_pushTo_49 : decode cX1_pushTo 49 = .ok (.iaload, 1) := by decide +kernel
theorem dX1_pushTo_50 : decode cX1_pushTo 50 = .ok (.iadd, 1) := by decide +kernel
theorem dX1_pushTo_51 : decode cX1_pushTo 51 = .ok (.iaload, 1) := by decide +kernel
theorem dX1_pushTo_52 : decode cX1_pushTo 52 = .ok (.invokestatic 113, 3) := by decide +kernel
theorem dX1_pushTo_55 : decode cX1_pushTo 55 = .ok (.istore_n 3, 1) := by decide +kernel
theorem dX1_pushTo_56 : decode cX1_pushTo 56 = .ok (.aload_n 0, 1) := by decide +kernel
theorem dX1_pushTo_57 : decode cX1_pushTo 57 = .ok (.getfield 28, 3) := by decide +kernel
theorem dX1_pushTo_60 : decode cX1_pushTo 60 = .ok (.iload_n 2, 1) := by decide +kernel
theorem dX1_pushTo_61 : decode cX1_pushTo 61 = .ok (.iaload, 1) := by decide +kernel
theorem dX1_pushTo_62 : decode cX1_pushTo 62 = .ok (.istore_n 2, 1) := by decide +kernel
theorem dX1_pushTo_63 : decode cX1_pushTo 63 = .ok (.iinc 4 1, 3) := by decide +kernel
theorem dX1_pushTo_66 : decode cX1_pushTo 66 = .ok (.goto (-54), 3) := by decide +kernel
theorem dX1_pushTo_69 : decode cX1_pushTo 69 = .ok (.iload_n 3, 1) := by decide +kernel
theorem dX1_pushTo_70 : decode cX1_pushTo 70 = .ok (.aload_n 0, 1) := by decide +kernel
theorem dX1_pushTo_71 : decode cX1_pushTo 71 = .ok (.getfield 18, 3) := by decide +kernel
theorem dX1_pushTo_74 : decode cX1_pushTo 74 = .ok (.iload_n 2, 1) := by decide +kernel
theorem dX1_pushTo_75 : decode cX1_pushTo 75 = .ok (.iaload, 1) := by decide +kernel
theorem dX1_pushTo_76 : decode cX1_pushTo 76 = .ok (.invokestatic 113, 3) := by decide +kernel
theorem dX1_pushTo_79 : decode cX1_pushTo 79 = .ok (.istore_n 3, 1) := by decide +kernel
theorem dX1_pushTo_80 : decode cX1_pushTo 80 = .ok (.aload_n 0, 1) := by decide +kernel
theorem dX1_pushTo_81 : decode cX1_pushTo 81 = .ok (.getfield 18, 3) := by decide +kernel
theorem dX1_pushTo_84 : decode cX1_pushTo 84 = .ok (.iload_n 2, 1) := by decide +kernel
theorem dX1_pushTo_85 : decode cX1_pushTo 85 = .ok (.dup2, 1) := by decide +kernel
theorem dX1_pushTo_86 : decode cX1_pushTo 86 = .ok (.iaload, 1) := by decide +kernel
theorem dX1_pushTo_87 : decode cX1_pushTo 87 = .ok (.iload_n 3, 1) := by decide +kernel
theorem dX1_pushTo_88 : decode cX1_pushTo 88 = .ok (.isub, 1) := by decide +kernel
theorem dX1_pushTo_89 : decode cX1_pushTo 89 = .ok (.iastore, 1) := by decide +kernel
theorem dX1_pushTo_90 : decode cX1_pushTo 90 = .ok (.aload_n 0, 1) := by decide +kernel
theorem dX1_pushTo_91 : decode cX1_pushTo 91 = .ok (.getfield 22, 3) := by decide +kernel
theorem dX1_pushTo_94 : decode cX1_pushTo 94 = .ok (.iload_n 1, 1) := by decide +kernel
theorem dX1_pushTo_95 : decode cX1_pushTo 95 = .ok (.dup2, 1) := by decide +kernel
theorem dX1_pushTo_96 : decode cX1_pushTo 96 = .ok (.iaload, 1) := by decide +kernel
theorem dX1_pushTo_97 : decode cX1_pushTo 97 = .ok (.iload_n 3, 1) := by decide +kernel
theorem dX1_pushTo_98 : decode cX1_pushTo 98 = .ok (.isub, 1) := by decide +kernel
theorem dX1_pushTo_99 : decode cX1_pushTo 99 = .ok (.iastore, 1) := by decide +kernel
theorem dX1_pushTo_100 : decode cX1_pushTo 100 = .ok (.aload_n 0, 1) := by decide +kernel
theorem dX1_pushTo_101 : decode cX1_pushTo 101 = .ok (.dup, 1) := by decide +kernel
theorem dX1_pushTo_102 : decode cX1_pushTo 102 = .ok (.getfield 48, 3) := by decide +kernel
theorem dX1_pushTo_105 : decode cX1_pushTo 105 = .ok (.iload_n 3, 1) := by decide +kernel
theorem dX1_pushTo_106 : decode cX1_pushTo 106 = .ok (.i2l, 1) := by decide +kernel
theorem dX1_pushTo_107 : decode cX1_pushTo 107 = .ok (.ladd, 1) := by decide +kernel
theorem dX1_pushTo_108 : decode cX1_pushTo 108 = .ok (.putfield 48, 3) := by decide +kernel
theorem dX1_pushTo_111 : decode cX1_pushTo 111 = .ok (.iload_n 1, 1) := by decide +kernel
theorem dX1_pushTo_112 : decode cX1_pushTo 112 = .ok (.istore_n 2, 1) := by decide +kernel
theorem dX1_pushTo_113 : decode cX1_pushTo 113 = .ok (.iconst 0, 1) := by decide +kernel
theorem dX1_pushTo_114 : decode cX1_pushTo 114 = .ok (.istore 4, 2) := by decide +kernel
theorem dX1_pushTo_116 : decode cX1_pushTo 116 = .ok (.iload 4, 2) := by decide +kernel
theorem dX1_pushTo_118 : decode cX1_pushTo 118 = .ok (.bipush 36, 2) := by decide +kernel
theorem dX1_pushTo_120 : decode cX1_pushTo 120 = .ok (.if_icmp .ge 74, 3) := by decide +kernel
theorem dX1_pushTo_123 : decode cX1_pushTo 123 = .ok (.aload_n 0, 1) := by decide +kernel
theorem dX1_pushTo_124 : decode cX1_pushTo 124 = .ok (.getfield 31, 3) := by decide +kernel
theorem dX1_pushTo_127 : decode cX1_pushTo 127 = .ok (.iload_n 2, 1) := by decide +kernel
theorem dX1_pushTo_128 : decode cX1_pushTo 128 = .ok (.iaload, 1) := by decide +kernel
theorem dX1_pushTo_129 : decode cX1_pushTo 129 = .ok (.bipush 6, 2) := by decide +kernel
theorem dX1_pushTo_131 : decode cX1_pushTo 131 = .ok (.if_icmp .eq 63, 3) := by decide +kernel
theorem dX1_pushTo_134 : decode cX1_pushTo 134 = .ok (.aload_n 0, 1) := by decide +kernel
theorem dX1_pushTo_135 : decode cX1_pushTo 135 = .ok (.getfield 25, 3) := by decide +kernel
theorem dX1_pushTo_138 : decode cX1_pushTo 138 = .ok (.aload_n 0, 1) := by decide +kernel
theorem dX1_pushTo_139 : decode cX1_pushTo 139 = .ok (.getfield 28, 3) := by decide +kernel
theorem dX1_pushTo_142 : decode cX1_pushTo 142 = .ok (.iload_n 2, 1) := by decide +kernel
theorem dX1_pushTo_143 : decode cX1_pushTo 143 = .ok (.iaload, 1) := by decide +kernel
theorem dX1_pushTo_144 : decode cX1_pushTo 144 = .ok (.bipush 6, 2) := by decide +kernel
theorem dX1_pushTo_146 : decode cX1_pushTo 146 = .ok (.imul, 1) := by decide +kernel
theorem dX1_pushTo_147 : decode cX1_pushTo 147 = .ok (.aload_n 0, 1) := by decide +kernel
theorem dX1_pushTo_148 : decode cX1_pushTo 148 = .ok (.getfield 31, 3) := by decide +kernel
theorem dX1_pushTo_151 : decode cX1_pushTo 151 = .ok (.iload_n 2, 1) := by decide +kernel
theorem dX1_pushTo_152 : decode cX1_pushTo 152 = .ok (.iaload, 1) := by decide +kernel
theorem dX1_pushTo_153 : decode cX1_pushTo 153 = .ok (.iadd, 1) := by decide +kernel
theorem dX1_pushTo_154 : decode cX1_pushTo 154 = .ok (.dup2, 1) := by decide +kernel
theorem dX1_pushTo_155 : decode cX1_pushTo 155 = .ok (.iaload, 1) := by decide +kernel
theorem dX1_pushTo_156 : decode cX1_pushTo 156 = .ok (.iload_n 3, 1) := by decide +kernel
theorem dX1_pushTo_157 : decode cX1_pushTo 157 = .ok (.isub, 1) := by decide +kernel
theorem dX1_pushTo_158 : decode cX1_pushTo 158 = .ok (.iastore, 1) := by decide +kernel
theorem dX1_pushTo_159 : decode cX1_pushTo 159 = .ok (.aload_n 0, 1) := by decide +kernel
theorem dX1_pushTo_160 : decode cX1_pushTo 160 = .ok (.getfield 25, 3) := by decide +kernel
theorem dX1_pushTo_163 : decode cX1_pushTo 163 = .ok (.iload_n 2, 1) := by decide +kernel
theorem dX1_pushTo_164 : decode cX1_pushTo 164 = .ok (.bipush 6, 2) := by decide +kernel
theorem dX1_pushTo_166 : decode cX1_pushTo 166 = .ok (.imul, 1) := by decide +kernel
theorem dX1_pushTo_167 : decode cX1_pushTo 167 = .ok (.aload_n 0, 1) := by decide +kernel
theorem dX1_pushTo_168 : decode cX1_pushTo 168 = .ok (.getfield 31, 3) := by decide +kernel
theorem dX1_pushTo_171 : decode cX1_pushTo 171 = .ok (.iload_n 2, 1) := by decide +kernel
theorem dX1_pushTo_172 : decode cX1_pushTo 172 = .ok (.iaload, 1) := by decide +kernel
theorem dX1_pushTo_173 : decode cX1_pushTo 173 = .ok (.iconst 1, 1) := by decide +kernel
theorem dX1_pushTo_174 : decode cX1_pushTo 174 = .ok (.ixor, 1) := by decide +kernel
theorem dX1_pushTo_175 : decode cX1_pushTo 175 = .ok (.iadd, 1) := by decide +kernel
theorem dX1_pushTo_176 : decode cX1_pushTo 176 = .ok (.dup2, 1) := by decide +kernel
theorem dX1_pushTo_177 : decode cX1_pushTo 177 = .ok (.iaload, 1) := by decide +kernel
theorem dX1_pushTo_178 : decode cX1_pushTo 178 = .ok (.iload_n 3, 1) := by decide +kernel
theorem dX1_pushTo_179 : decode cX1_pushTo 179 = .ok (.iadd, 1) := by decide +kernel
theorem dX1_pushTo_180 : decode cX1_pushTo 180 = .ok (.iastore, 1) := by decide +kernel
theorem dX1_pushTo_181 : decode cX1_pushTo 181 = .ok (.aload_n 0, 1) := by decide +kernel
theorem dX1_pushTo_182 : decode cX1_pushTo 182 = .ok (.getfield 28, 3) := by decide +kernel
theorem dX1_pushTo_185 : decode cX1_pushTo 185 = .ok (.iload_n 2, 1) := by decide +kernel
theorem dX1_pushTo_186 : decode cX1_pushTo 186 = .ok (.iaload, 1) := by decide +kernel
theorem dX1_pushTo_187 : decode cX1_pushTo 187 = .ok (.istore_n 2, 1) := by decide +kernel
theorem dX1_pushTo_188 : decode cX1_pushTo 188 = .ok (.iinc 4 1, 3) := by decide +kernel
theorem dX1_pushTo_191 : decode cX1_pushTo 191 = .ok (.goto (-75), 3) := by decide +kernel
theorem dX1_pushTo_194 : decode cX1_pushTo 194 = .ok (.return_, 1) := by decide +kernel
set_option maxRecDepth 20000 in
theorem ggX1_leastSets_X1_queueOpen : GoodIn wsX1_leastSets wsX1_queueOpen := goodIn_r _ [8, 3, 9, 10, 1, 11, 2, 12, 13, 14, 15, 44, 45, 46, 47, 48, 49, 50, 51, 52, 53, 54, 55, 56, 57, 58, 59, 60, 61, 62, 63] (by decide +kernel) (by decide +kernel)
set_option maxRecDepth 20000 in
theorem gX1_leastSets_X1_queueOpen : GoodIn wsX1_leastSets (wsV RX1 119 RX1 yX1_queueOpen wsX1_queueOpen) := goodIn_app (goodIn_of _ (by decide +kernel)) ggX1_leastSets_X1_queueOpen
set_option maxRecDepth 20000 in
theorem ggX1_leastSets_J6_bitCount_0f7a4 : GoodIn wsX1_leastSets wsJ6_bitCount_0f7a4 := goodIn_r _ [19, 20, 21, 22] (by decide +kernel) (by decide +kernel)
set_option maxRecDepth 20000 in
theorem gX1_leastSets_J6_bitCount_0f7a4 : GoodIn wsX1_leastSets (va_wsS RX1 122 yJ6_bitCount_0f7a4 wsJ6_bitCount_0f7a4) := goodIn_app (goodIn_of _ (by decide +kernel)) ggX1_leastSets_J6_bitCount_0f7a4
set_option maxRecDepth 20000 in
theorem ggX1_leastSets_X0_ownCost : GoodIn wsX1_leastSets wsX0_ownCost := goodIn_r _ [26, 27, 28, 29, 57, 58, 59, 60, 61, 62, 63] (by decide +kernel) (by decide +kernel)
set_option maxRecDepth 20000 in
theorem gX1_leastSets_X0_ownCost : GoodIn wsX1_leastSets (wsV RX1 85 RX0 yX0_ownCost wsX0_ownCost) := goodIn_app (goodIn_of _ (by decide +kernel)) ggX1_leastSets_X0_ownCost
set_option maxRecDepth 20000 in
theorem ggX1_leastSets_X0_seamsGrowth : GoodIn wsX1_leastSets wsX0_seamsGrowth := goodIn_r _ [33, 28, 29, 34, 35, 36, 14, 37, 38, 39, 40, 41, 42, 43, 13, 15, 57, 58, 59, 60, 61, 62, 63] (by decide +kernel) (by decide +kernel)
set_option maxRecDepth 20000 in
theorem gX1_leastSets_X0_seamsGrowth : GoodIn wsX1_leastSets (wsV RX1 127 RX0 yX0_seamsGrowth wsX0_seamsGrowth) := goodIn_app (goodIn_of _ (by decide +kernel)) ggX1_leastSets_X0_seamsGrowth
set_option maxRecDepth 20000 in
theorem ggX1_leastSets_X0_holds : GoodIn wsX1_leastSets wsX0_holds := goodIn_r _ [15] (by decide +kernel) (by decide +kernel)
set_option maxRecDepth 20000 in
theorem gX1_leastSets_X0_holds : GoodIn wsX1_leastSets (va_wsS RX1 131 yX0_holds wsX0_holds) := goodIn_app (goodIn_of _ (by decide +kernel)) ggX1_leastSets_X0_holds
theorem dX1_leastSets_0 : decode cX1_leastSets 0 = .ok (.aload_n 0, 1) := by decide +kernel
theorem dX1_leastSets_1 : decode cX1_leastSets 1 = .ok (.invokevirtual 119, 3) := by decide +kernel
theorem dX1_leastSets_4 : decode cX1_leastSets 4 = .ok (.istore_n 1, 1) := by decide +kernel
theorem dX1_leastSets_5 : decode cX1_leastSets 5 = .ok (.aload_n 0, 1) := by decide +kernel
theorem dX1_leastSets_6 : decode cX1_leastSets 6 = .ok (.getfield 52, 3) := by decide +kernel
theorem dX1_leastSets_9 : decode cX1_leastSets 9 = .ok (.lstore_n 2, 1) := by decide +kernel
theorem dX1_leastSets_10 : decode cX1_leastSets 10 = .ok (.iconst 0, 1) := by decide +kernel
theorem dX1_leastSets_11 : decode cX1_leastSets 11 = .ok (.istore 4, 2) := by decide +kernel
theorem dX1_leastSets_13 : decode cX1_leastSets 13 = .ok (.iconst 1, 1) := by decide +kernel
theorem dX1_leastSets_14 : decode cX1_leastSets 14 = .ok (.istore 5, 2) := by decide +kernel
theorem dX1_leastSets_16 : decode cX1_leastSets 16 = .ok (.iconst 1, 1) := by decide +kernel
theorem dX1_leastSets_17 : decode cX1_leastSets 17 = .ok (.istore 6, 2) := by decide +kernel
theorem dX1_leastSets_19 : decode cX1_leastSets 19 = .ok (.iload 6, 2) := by decide +kernel
theorem dX1_leastSets_21 : decode cX1_leastSets 21 = .ok (.iconst 1, 1) := by decide +kernel
theorem dX1_leastSets_22 : decode cX1_leastSets 22 = .ok (.iload_n 1, 1) := by decide +kernel
theorem dX1_leastSets_23 : decode cX1_leastSets 23 = .ok (.ishl, 1) := by decide +kernel
theorem dX1_leastSets_24 : decode cX1_leastSets 24 = .ok (.if_icmp .ge 86, 3) := by decide +kernel
theorem dX1_leastSets_27 : decode cX1_leastSets 27 = .ok (.aload_n 0, 1) := by decide +kernel
theorem dX1_leastSets_28 : decode cX1_leastSets 28 = .ok (.getfield 34, 3) := by decide +kernel
theorem dX1_leastSets_31 : decode cX1_leastSets 31 = .ok (.iload 6, 2) := by decide +kernel
theorem dX1_leastSets_33 : decode cX1_leastSets 33 = .ok (.iload 6, 2) := by decide +kernel
theorem dX1_leastSets_35 : decode cX1_leastSets 35 = .ok (.ineg, 1) := by decide +kernel
theorem dX1_leastSets_36 : decode cX1_leastSets 36 = .ok (.iand, 1) := by decide +kernel
theorem dX1_leastSets_37 : decode cX1_leastSets 37 = .ok (.iconst 1, 1) := by decide +kernel
theorem dX1_leastSets_38 : decode cX1_leastSets 38 = .ok (.isub, 1) := by decide +kernel
theorem dX1_leastSets_39 : decode cX1_leastSets 39 = .ok (.invokestatic 122, 3) := by decide +kernel
theorem dX1_leastSets_42 : decode cX1_leastSets 42 = .ok (.iaload, 1) := by decide +kernel
theorem dX1_leastSets_43 : decode cX1_leastSets 43 = .ok (.istore 7, 2) := by decide +kernel
theorem dX1_leastSets_45 : decode cX1_leastSets 45 = .ok (.aload_n 0, 1) := by decide +kernel
theorem dX1_leastSets_46 : decode cX1_leastSets 46 = .ok (.getfield 12, 3) := by decide +kernel
theorem dX1_leastSets_49 : decode cX1_leastSets 49 = .ok (.iload 7, 2) := by decide +kernel
theorem dX1_leastSets_51 : decode cX1_leastSets 51 = .ok (.invokevirtual 85, 3) := by decide +kernel
theorem dX1_leastSets_54 : decode cX1_leastSets 54 = .ok (.aload_n 0, 1) := by decide +kernel
theorem dX1_leastSets_55 : decode cX1_leastSets 55 = .ok (.getfield 12, 3) := by decide +kernel
theorem dX1_leastSets_58 : decode cX1_leastSets 58 = .ok (.lload_n 2, 1) := by decide +kernel
theorem dX1_leastSets_59 : decode cX1_leastSets 59 = .ok (.iload 7, 2) := by decide +kernel
theorem dX1_leastSets_61 : decode cX1_leastSets 61 = .ok (.invokevirtual 127, 3) := by decide +kernel
theorem dX1_leastSets_64 : decode cX1_leastSets 64 = .ok (.iadd, 1) := by decide +kernel
theorem dX1_leastSets_65 : decode cX1_leastSets 65 = .ok (.istore 8, 2) := by decide +kernel
theorem dX1_leastSets_67 : decode cX1_leastSets 67 = .ok (.iload 4, 2) := by decide +kernel
theorem dX1_leastSets_69 : decode cX1_leastSets 69 = .ok (.lload_n 2, 1) := by decide +kernel
theorem dX1_leastSets_70 : decode cX1_leastSets 70 = .ok (.iload 7, 2) := by decide +kernel
theorem dX1_leastSets_72 : decode cX1_leastSets 72 = .ok (.invokestatic 131, 3) := by decide +kernel
theorem dX1_leastSets_75 : decode cX1_leastSets 75 = .ok (.ifCond .eq 9, 3) := by decide +kernel
theorem dX1_leastSets_78 : decode cX1_leastSets 78 = .ok (.iload 8, 2) := by decide +kernel
theorem dX1_leastSets_80 : decode cX1_leastSets 80 = .ok (.ineg, 1) := by decide +kernel
theorem dX1_leastSets_81 : decode cX1_leastSets 81 = .ok (.goto 5, 3) := by decide +kernel
theorem dX1_leastSets_84 : decode cX1_leastSets 84 = .ok (.iload 8, 2) := by decide +kernel
theorem dX1_leastSets_86 : decode cX1_leastSets 86 = .ok (.iadd, 1) := by decide +kernel
theorem dX1_leastSets_87 : decode cX1_leastSets 87 = .ok (.istore 4, 2) := by decide +kernel
theorem dX1_leastSets_89 : decode cX1_leastSets 89 = .ok (.lload_n 2, 1) := by decide +kernel
theorem dX1_leastSets_90 : decode cX1_leastSets 90 = .ok (.lconst 1, 1) := by decide +kernel
theorem dX1_leastSets_91 : decode cX1_leastSets 91 = .ok (.iload 7, 2) := by decide +kernel
theorem dX1_leastSets_93 : decode cX1_leastSets 93 = .ok (.lshl, 1) := by decide +kernel
theorem dX1_leastSets_94 : decode cX1_leastSets 94 = .ok (.lxor, 1) := by decide +kernel
theorem dX1_leastSets_95 : decode cX1_leastSets 95 = .ok (.lstore_n 2, 1) := by decide +kernel
theorem dX1_leastSets_96 : decode cX1_leastSets 96 = .ok (.iload 4, 2) := by decide +kernel
theorem dX1_leastSets_98 : decode cX1_leastSets 98 = .ok (.ifCond .ne 6, 3) := by decide +kernel
theorem dX1_leastSets_101 : decode cX1_leastSets 101 = .ok (.iinc 5 1, 3) := by decide +kernel
theorem dX1_leastSets_104 : decode cX1_leastSets 104 = .ok (.iinc 6 1, 3) := by decide +kernel
theorem dX1_leastSets_107 : decode cX1_leastSets 107 = .ok (.goto (-88), 3) := by decide +kernel
theorem dX1_leastSets_110 : decode cX1_leastSets 110 = .ok (.iload 5, 2) := by decide +kernel
theorem dX1_leastSets_112 : decode cX1_leastSets 112 = .ok (.ireturn, 1) := by decide +kernel
set_option maxRecDepth 20000 in
theorem ggX1_queueOpen_X0_holds : GoodIn wsX1_queueOpen wsX0_holds := goodIn_r _ [10] (by decide +kernel) (by decide +kernel)
set_option maxRecDepth 20000 in
theorem gX1_queueOpen_X0_holds : GoodIn wsX1_queueOpen (va_wsS RX1 131 yX0_holds wsX0_holds) := goodIn_app (goodIn_of _ (by decide +kernel)) ggX1_queueOpen_X0_holds
theorem dX1_queueOpen_0 : decode cX1_queueOpen 0 = .ok (.iconst 0, 1) := by decide +kernel
theorem dX1_queueOpen_1 : decode cX1_queueOpen 1 = .ok (.istore_n 1, 1) := by decide +kernel
theorem dX1_queueOpen_2 : decode cX1_queueOpen 2 = .ok (.iconst 0, 1) := by decide +kernel
theorem dX1_queueOpen_3 : decode cX1_queueOpen 3 = .ok (.istore_n 2, 1) := by decide +kernel
theorem dX1_queueOpen_4 : decode cX1_queueOpen 4 = .ok (.iload_n 2, 1) := by decide +kernel
theorem dX1_queueOpen_5 : decode cX1_queueOpen 5 = .ok (.aload_n 0, 1) := by decide +kernel
theorem dX1_queueOpen_6 : decode cX1_queueOpen 6 = .ok (.getfield 12, 3) := by decide +kernel
theorem dX1_queueOpen_9 : decode cX1_queueOpen 9 = .ok (.getfield 82, 3) := by decide +kernel
theorem dX1_queueOpen_12 : decode cX1_queueOpen 12 = .ok (.if_icmp .ge 45, 3) := by decide +kernel
theorem dX1_queueOpen_15 : decode cX1_queueOpen 15 = .ok (.aload_n 0, 1) := by decide +kernel
theorem dX1_queueOpen_16 : decode cX1_queueOpen 16 = .ok (.getfield 55, 3) := by decide +kernel
theorem dX1_queueOpen_19 : decode cX1_queueOpen 19 = .ok (.aload_n 0, 1) := by decide +kernel
theorem dX1_queueOpen_20 : decode cX1_queueOpen 20 = .ok (.getfield 52, 3) := by decide +kernel
theorem dX1_queueOpen_23 : decode cX1_queueOpen 23 = .ok (.ldc2_w 80, 3) := by decide +kernel
theorem dX1_queueOpen_26 : decode cX1_queueOpen 26 = .ok (.lxor, 1) := by decide +kernel
theorem dX1_queueOpen_27 : decode cX1_queueOpen 27 = .ok (.land, 1) := by decide +kernel
theorem dX1_queueOpen_28 : decode cX1_queueOpen 28 = .ok (.iload_n 2, 1) := by decide +kernel
theorem dX1_queueOpen_29 : decode cX1_queueOpen 29 = .ok (.invokestatic 131, 3) := by decide +kernel
theorem dX1_queueOpen_32 : decode cX1_queueOpen 32 = .ok (.ifCond .eq 19, 3) := by decide +kernel
theorem dX1_queueOpen_35 : decode cX1_queueOpen 35 = .ok (.iload_n 1, 1) := by decide +kernel
theorem dX1_queueOpen_36 : decode cX1_queueOpen 36 = .ok (.bipush 12, 2) := by decide +kernel
theorem dX1_queueOpen_38 : decode cX1_queueOpen 38 = .ok (.if_icmp .ge 13, 3) := by decide +kernel
theorem dX1_queueOpen_41 : decode cX1_queueOpen 41 = .ok (.aload_n 0, 1) := by decide +kernel
theorem dX1_queueOpen_42 : decode cX1_queueOpen 42 = .ok (.getfield 34, 3) := by decide +kernel
theorem dX1_queueOpen_45 : decode cX1_queueOpen 45 = .ok (.iload_n 1, 1) := by decide +kernel
theorem dX1_queueOpen_46 : decode cX1_queueOpen 46 = .ok (.iinc 1 1, 3) := by decide +kernel
theorem dX1_queueOpen_49 : decode cX1_queueOpen 49 = .ok (.iload_n 2, 1) := by decide +kernel
theorem dX1_queueOpen_50 : decode cX1_queueOpen 50 = .ok (.iastore, 1) := by decide +kernel
theorem dX1_queueOpen_51 : decode cX1_queueOpen 51 = .ok (.iinc 2 1, 3) := by decide +kernel
theorem dX1_queueOpen_54 : decode cX1_queueOpen 54 = .ok (.goto (-50), 3) := by decide +kernel
theorem dX1_queueOpen_57 : decode cX1_queueOpen 57 = .ok (.iload_n 1, 1) := by decide +kernel
theorem dX1_queueOpen_58 : decode cX1_queueOpen 58 = .ok (.ireturn, 1) := by decide +kernel
