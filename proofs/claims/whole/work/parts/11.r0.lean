set_option maxRecDepth 20000 in
theorem ggX0_init_X0_lay : GoodIn wsX0_init wsX0_lay := goodIn_r _ [16, 5, 11, 6, 7, 17, 18, 19, 20, 21, 22, 23, 15, 24, 9, 10, 25, 26, 27, 28, 29, 30, 31] (by decide +kernel) (by decide +kernel)
set_option maxRecDepth 20000 in
theorem gX0_init_X0_lay : GoodIn wsX0_init (wsV RX0 34 RX0 yX0_lay wsX0_lay) := goodIn_app (goodIn_of _ (by decide +kernel)) ggX0_init_X0_lay
theorem dX0_init_0 : decode cX0_init 0 = .ok (.aload_n 0, 1) := by decide +kernel
theorem dX0_init_1 : decode cX0_init 1 = .ok (.invokespecial 3, 3) := by decide +kernel
theorem dX0_init_4 : decode cX0_init 4 = .ok (.aload_n 0, 1) := by decide +kernel
theorem dX0_init_5 : decode cX0_init 5 = .ok (.iconst 3, 1) := by decide +kernel
theorem dX0_init_6 : decode cX0_init 6 = .ok (.newarray .int, 2) := by decide +kernel
theorem dX0_init_8 : decode cX0_init 8 = .ok (.putfield 9, 3) := by decide +kernel
theorem dX0_init_11 : decode cX0_init 11 = .ok (.aload_n 0, 1) := by decide +kernel
theorem dX0_init_12 : decode cX0_init 12 = .ok (.bipush 36, 2) := by decide +kernel
theorem dX0_init_14 : decode cX0_init 14 = .ok (.newarray .int, 2) := by decide +kernel
theorem dX0_init_16 : decode cX0_init 16 = .ok (.putfield 15, 3) := by decide +kernel
theorem dX0_init_19 : decode cX0_init 19 = .ok (.aload_n 0, 1) := by decide +kernel
theorem dX0_init_20 : decode cX0_init 20 = .ok (.bipush 36, 2) := by decide +kernel
theorem dX0_init_22 : decode cX0_init 22 = .ok (.newarray .int, 2) := by decide +kernel
theorem dX0_init_24 : decode cX0_init 24 = .ok (.putfield 18, 3) := by decide +kernel
theorem dX0_init_27 : decode cX0_init 27 = .ok (.aload_n 0, 1) := by decide +kernel
theorem dX0_init_28 : decode cX0_init 28 = .ok (.bipush 7, 2) := by decide +kernel
theorem dX0_init_30 : decode cX0_init 30 = .ok (.newarray .int, 2) := by decide +kernel
theorem dX0_init_32 : decode cX0_init 32 = .ok (.dup, 1) := by decide +kernel
theorem dX0_init_33 : decode cX0_init 33 = .ok (.iconst 0, 1) := by decide +kernel
theorem dX0_init_34 : decode cX0_init 34 = .ok (.iconst 1, 1) := by decide +kernel
theorem dX0_init_35 : decode cX0_init 35 = .ok (.iastore, 1) := by decide +kernel
theorem dX0_init_36 : decode cX0_init 36 = .ok (.dup, 1) := by decide +kernel
theorem dX0_init_37 : decode cX0_init 37 = .ok (.iconst 1, 1) := by decide +kernel
theorem dX0_init_38 : decode cX0_init 38 = .ok (.iconst 1, 1) := by decide +kernel
theorem dX0_init_39 : decode cX0_init 39 = .ok (.iastore, 1) := by decide +kernel
theorem dX0_init_40 : decode cX0_init 40 = .ok (.dup, 1) := by decide +kernel
theorem dX0_init_41 : decode cX0_init 41 = .ok (.iconst 2, 1) := by decide +kernel
theorem dX0_init_42 : decode cX0_init 42 = .ok (.iconst 1, 1) := by decide +kernel
theorem dX0_init_43 : decode cX0_init 43 = .ok (.iastore, 1) := by decide +kernel
theorem dX0_init_44 : decode cX0_init 44 = .ok (.dup, 1) := by decide +kernel
theorem dX0_init_45 : decode cX0_init 45 = .ok (.iconst 3, 1) := by decide +kernel
theorem dX0_init_46 : decode cX0_init 46 = .ok (.iconst 0, 1) := by decide +kernel
theorem dX0_init_47 : decode cX0_init 47 = .ok (.iastore, 1) := by decide +kernel
theorem dX0_init_48 : decode cX0_init 48 = .ok (.dup, 1) := by decide +kernel
theorem dX0_init_49 : decode cX0_init 49 = .ok (.iconst 4, 1) := by decide +kernel
theorem dX0_init_50 : decode cX0_init 50 = .ok (.iconst 0, 1) := by decide +kernel
theorem dX0_init_51 : decode cX0_init 51 = .ok (.iastore, 1) := by decide +kernel
theorem dX0_init_52 : decode cX0_init 52 = .ok (.dup, 1) := by decide +kernel
theorem dX0_init_53 : decode cX0_init 53 = .ok (.iconst 5, 1) := by decide +kernel
theorem dX0_init_54 : decode cX0_init 54 = .ok (.bipush 9, 2) := by decide +kernel
theorem dX0_init_56 : decode cX0_init 56 = .ok (.iastore, 1) := by decide +kernel
theorem dX0_init_57 : decode cX0_init 57 = .ok (.dup, 1) := by decide +kernel
theorem dX0_init_58 : decode cX0_init 58 = .ok (.bipush 6, 2) := by decide +kernel
theorem dX0_init_60 : decode cX0_init 60 = .ok (.iconst 0, 1) := by decide +kernel
theorem dX0_init_61 : decode cX0_init 61 = .ok (.iastore, 1) := by decide +kernel
theorem dX0_init_62 : decode cX0_init 62 = .ok (.putfield 21, 3) := by decide +kernel
theorem dX0_init_65 : decode cX0_init 65 = .ok (.aload_n 0, 1) := by decide +kernel
theorem dX0_init_66 : decode cX0_init 66 = .ok (.bipush 108, 2) := by decide +kernel
theorem dX0_init_68 : decode cX0_init 68 = .ok (.newarray .int, 2) := by decide +kernel
theorem dX0_init_70 : decode cX0_init 70 = .ok (.putfield 24, 3) := by decide +kernel
theorem dX0_init_73 : decode cX0_init 73 = .ok (.aload_n 0, 1) := by decide +kernel
theorem dX0_init_74 : decode cX0_init 74 = .ok (.sipush 216, 3) := by decide +kernel
theorem dX0_init_77 : decode cX0_init 77 = .ok (.newarray .int, 2) := by decide +kernel
theorem dX0_init_79 : decode cX0_init 79 = .ok (.putfield 27, 3) := by decide +kernel
theorem dX0_init_82 : decode cX0_init 82 = .ok (.aload_n 0, 1) := by decide +kernel
theorem dX0_init_83 : decode cX0_init 83 = .ok (.iconst 0, 1) := by decide +kernel
theorem dX0_init_84 : decode cX0_init 84 = .ok (.putfield 30, 3) := by decide +kernel
theorem dX0_init_87 : decode cX0_init 87 = .ok (.aload_n 0, 1) := by decide +kernel
theorem dX0_init_88 : decode cX0_init 88 = .ok (.iconst 3, 1) := by decide +kernel
theorem dX0_init_89 : decode cX0_init 89 = .ok (.iconst 3, 1) := by decide +kernel
theorem dX0_init_90 : decode cX0_init 90 = .ok (.iconst 1, 1) := by decide +kernel
theorem dX0_init_91 : decode cX0_init 91 = .ok (.invokevirtual 34, 3) := by decide +kernel
theorem dX0_init_94 : decode cX0_init 94 = .ok (.return_, 1) := by decide +kernel
set_option maxRecDepth 20000 in
theorem ggX0_lay_J7_fill_53178 : GoodIn wsX0_lay wsJ7_fill_53178 := goodIn_r _ [8] (by decide +kernel) (by decide +kernel)
set_option maxRecDepth 20000 in
theorem gX0_lay_J7_fill_53178 : GoodIn wsX0_lay (va_wsS RX0 38 yJ7_fill_53178 wsJ7_fill_53178) := goodIn_app (goodIn_of _ (by decide +kernel)) ggX0_lay_J7_fill_53178
set_option maxRecDepth 20000 in
theorem ggX0_lay_X0_layAlong : GoodIn wsX0_lay wsX0_layAlong := goodIn_r _ [13, 14, 15, 1, 16, 17, 18, 19, 20, 21, 22] (by decide +kernel) (by decide +kernel)
set_option maxRecDepth 20000 in
theorem gX0_lay_X0_layAlong : GoodIn wsX0_lay (wsV RX0 44 RX0 yX0_layAlong wsX0_layAlong) := goodIn_app (goodIn_of _ (by decide +kernel)) ggX0_lay_X0_layAlong
theorem dX0_lay_0 : decode cX0_lay 0 = .ok (.aload_n 0, 1) := by decide +kernel
theorem dX0_lay_1 : decode cX0_lay 1 = .ok (.getfield 9, 3) := by decide +kernel
theorem dX0_lay_4 : decode cX0_lay 4 = .ok (.iconst 0, 1) := by decide +kernel
theorem dX0_lay_5 : decode cX0_lay 5 = .ok (.iload_n 1, 1) := by decide +kernel
theorem dX0_lay_6 : decode cX0_lay 6 = .ok (.iastore, 1) := by decide +kernel
theorem dX0_lay_7 : decode cX0_lay 7 = .ok (.aload_n 0, 1) := by decide +kernel
theorem dX0_lay_8 : decode cX0_lay 8 = .ok (.getfield 9, 3) := by decide +kernel
theorem dX0_lay_11 : decode cX0_lay 11 = .ok (.iconst 1, 1) := by decide +kernel
theorem dX0_lay_12 : decode cX0_lay 12 = .ok (.iload_n 2, 1) := by decide +kernel
theorem dX0_lay_13 : decode cX0_lay 13 = .ok (.iastore, 1) := by decide +kernel
theorem dX0_lay_14 : decode cX0_lay 14 = .ok (.aload_n 0, 1) := by decide +kernel
theorem dX0_lay_15 : decode cX0_lay 15 = .ok (.getfield 9, 3) := by decide +kernel
theorem dX0_lay_18 : decode cX0_lay 18 = .ok (.iconst 2, 1) := by decide +kernel
theorem dX0_lay_19 : decode cX0_lay 19 = .ok (.iload_n 3, 1) := by decide +kernel
theorem dX0_lay_20 : decode cX0_lay 20 = .ok (.iastore, 1) := by decide +kernel
theorem dX0_lay_21 : decode cX0_lay 21 = .ok (.aload_n 0, 1) := by decide +kernel
theorem dX0_lay_22 : decode cX0_lay 22 = .ok (.iload_n 1, 1) := by decide +kernel
theorem dX0_lay_23 : decode cX0_lay 23 = .ok (.iload_n 2, 1) := by decide +kernel
theorem dX0_lay_24 : decode cX0_lay 24 = .ok (.imul, 1) := by decide +kernel
theorem dX0_lay_25 : decode cX0_lay 25 = .ok (.iload_n 3, 1) := by decide +kernel
theorem dX0_lay_26 : decode cX0_lay 26 = .ok (.imul, 1) := by decide +kernel
theorem dX0_lay_27 : decode cX0_lay 27 = .ok (.putfield 30, 3) := by decide +kernel
theorem dX0_lay_30 : decode cX0_lay 30 = .ok (.aload_n 0, 1) := by decide +kernel
theorem dX0_lay_31 : decode cX0_lay 31 = .ok (.getfield 15, 3) := by decide +kernel
theorem dX0_lay_34 : decode cX0_lay 34 = .ok (.iconst 0, 1) := by decide +kernel
theorem dX0_lay_35 : decode cX0_lay 35 = .ok (.invokestatic 38, 3) := by decide +kernel
theorem dX0_lay_38 : decode cX0_lay 38 = .ok (.aload_n 0, 1) := by decide +kernel
theorem dX0_lay_39 : decode cX0_lay 39 = .ok (.getfield 18, 3) := by decide +kernel
theorem dX0_lay_42 : decode cX0_lay 42 = .ok (.iconst 0, 1) := by decide +kernel
theorem dX0_lay_43 : decode cX0_lay 43 = .ok (.invokestatic 38, 3) := by decide +kernel
theorem dX0_lay_46 : decode cX0_lay 46 = .ok (.iconst 0, 1) := by decide +kernel
theorem dX0_lay_47 : decode cX0_lay 47 = .ok (.istore 4, 2) := by decide +kernel
theorem dX0_lay_49 : decode cX0_lay 49 = .ok (.iconst 0, 1) := by decide +kernel
theorem dX0_lay_50 : decode cX0_lay 50 = .ok (.istore 5, 2) := by decide +kernel
theorem dX0_lay_52 : decode cX0_lay 52 = .ok (.iload 5, 2) := by decide +kernel
theorem dX0_lay_54 : decode cX0_lay 54 = .ok (.iload_n 3, 1) := by decide +kernel
theorem dX0_lay_55 : decode cX0_lay 55 = .ok (.if_icmp .ge 74, 3) := by decide +kernel
theorem dX0_lay_58 : decode cX0_lay 58 = .ok (.iconst 0, 1) := by decide +kernel
theorem dX0_lay_59 : decode cX0_lay 59 = .ok (.istore 6, 2) := by decide +kernel
theorem dX0_lay_61 : decode cX0_lay 61 = .ok (.iload 6, 2) := by decide +kernel
theorem dX0_lay_63 : decode cX0_lay 63 = .ok (.iload_n 2, 1) := by decide +kernel
theorem dX0_lay_64 : decode cX0_lay 64 = .ok (.if_icmp .ge 59, 3) := by decide +kernel
theorem dX0_lay_67 : decode cX0_lay 67 = .ok (.iconst 0, 1) := by decide +kernel
theorem dX0_lay_68 : decode cX0_lay 68 = .ok (.istore 7, 2) := by decide +kernel
theorem dX0_lay_70 : decode cX0_lay 70 = .ok (.iload 7, 2) := by decide +kernel
theorem dX0_lay_72 : decode cX0_lay 72 = .ok (.iload_n 1, 1) := by decide +kernel
theorem dX0_lay_73 : decode cX0_lay 73 = .ok (.if_icmp .ge 44, 3) := by decide +kernel
theorem dX0_lay_76 : decode cX0_lay 76 = .ok (.aload_n 0, 1) := by decide +kernel
theorem dX0_lay_77 : decode cX0_lay 77 = .ok (.iconst 0, 1) := by decide +kernel
theorem dX0_lay_78 : decode cX0_lay 78 = .ok (.iload 4, 2) := by decide +kernel
theorem dX0_lay_80 : decode cX0_lay 80 = .ok (.iload 7, 2) := by decide +kernel
theorem dX0_lay_82 : decode cX0_lay 82 = .ok (.iconst 1, 1) := by decide +kernel
theorem dX0_lay_83 : decode cX0_lay 83 = .ok (.invokevirtual 44, 3) := by decide +kernel
theorem dX0_lay_86 : decode cX0_lay 86 = .ok (.aload_n 0, 1) := by decide +kernel
theorem dX0_lay_87 : decode cX0_lay 87 = .ok (.iconst 1, 1) := by decide +kernel
theorem dX0_lay_88 : decode cX0_lay 88 = .ok (.iload 4, 2) := by decide +kernel
theorem dX0_lay_90 : decode cX0_lay 90 = .ok (.iload 6, 2) := by decide +kernel
theorem dX0_lay_92 : decode cX0_lay 92 = .ok (.iload_n 1, 1) := by decide +kernel
theorem dX0_lay_93 : decode cX0_lay 93 = .ok (.invokevirtual 44, 3) := by decide +kernel
theorem dX0_lay_96 : decode cX0_lay 96 = .ok (.aload_n 0, 1) := by decide +kernel
theorem dX0_lay_97 : decode cX0_lay 97 = .ok (.iconst 2, 1) := by decide +kernel
theorem dX0_lay_98 : decode cX0_lay 98 = .ok (.iload 4, 2) := by decide +kernel
theorem dX0_lay_100 : decode cX0_lay 100 = .ok (.iload 5, 2) := by decide +kernel
theorem dX0_lay_102 : decode cX0_lay 102 = .ok (.iload_n 1, 1) := by decide +kernel
theorem dX0_lay_103 : decode cX0_lay 103 = .ok (.iload_n 2, 1) := by decide +kernel
theorem dX0_lay_104 : decode cX0_lay 104 = .ok (.imul, 1) := by decide +kernel
theorem dX0_lay_105 : decode cX0_lay 105 = .ok (.invokevirtual 44, 3) := by decide +kernel
theorem dX0_lay_108 : decode cX0_lay 108 = .ok (.iinc 4 1, 3) := by decide +kernel
theorem dX0_lay_111 : decode cX0_lay 111 = .ok (.iinc 7 1, 3) := by decide +kernel
theorem dX0_lay_114 : decode cX0_lay 114 = .ok (.goto (-44), 3) := by decide +kernel
theorem dX0_lay_117 : decode cX0_lay 117 = .ok (.iinc 6 1, 3) := by decide +kernel
theorem dX0_lay_120 : decode cX0_lay 120 = .ok (.goto (-59), 3) := by decide +kernel
theorem dX0_lay_123 : decode cX0_lay 123 = .ok (.iinc 5 1, 3) := by decide +kernel
theorem dX0_lay_126 : decode cX0_lay 126 = .ok (.goto (-74), 3) := by decide +kernel
theorem dX0_lay_129 : decode cX0_lay 129 = .ok (.return_, 1) := by decide +kernel
theorem dX0_layAlong_0 : decode cX0_layAlong 0 = .ok (.iload_n 2, 1) := by decide +kernel
theorem dX0_layAlong_1 : decode cX0_layAlong 1 = .ok (.bipush 6, 2) := by decide +kernel
theorem dX0_layAlong_3 : decode cX0_layAlong 3 = .ok (.imul, 1) := by decide +kernel
theorem dX0_layAlong_4 : decode cX0_layAlong 4 = .ok (.iconst 2, 1) := by decide +kernel
theorem dX0_layAlong_5 : decode cX0_layAlong 5 = .ok (.iload_n 1, 1) := by decide +kernel
theorem dX0_layAlong_6 : decode cX0_layAlong 6 = .ok (.imul, 1) := by decide +kernel
theorem dX0_layAlong_7 : decode cX0_layAlong 7 = .ok (.iadd, 1) := by decide +kernel
theorem dX0_layAlong_8 : decode cX0_layAlong 8 = .ok (.istore 5, 2) := by decide +kernel
theorem dX0_layAlong_10 : decode cX0_layAlong 10 = .ok (.aload_n 0, 1) := by decide +kernel
theorem dX0_layAlong_11 : decode cX0_layAlong 11 = .ok (.getfield 24, 3) := by decide +kernel
theorem dX0_layAlong_14 : decode cX0_layAlong 14 = .ok (.iload_n 2, 1) := by decide +kernel
theorem dX0_layAlong_15 : decode cX0_layAlong 15 = .ok (.iconst 3, 1) := by decide +kernel
theorem dX0_layAlong_16 : decode cX0_layAlong 16 = .ok (.imul, 1) := by decide +kernel
theorem dX0_layAlong_17 : decode cX0_layAlong 17 = .ok (.iload_n 1, 1) := by decide +kernel
theorem dX0_layAlong_18 : decode cX0_layAlong 18 = .ok (.iadd, 1) := by decide +kernel
theorem dX0_layAlong_19 : decode cX0_layAlong 19 = .ok (.iload_n 3, 1) := by decide +kernel
theorem dX0_layAlong_20 : decode cX0_layAlong 20 = .ok (.iastore, 1) := by decide +kernel
theorem dX0_layAlong_21 : decode cX0_layAlong 21 = .ok (.aload_n 0, 1) := by decide +kernel
theorem dX0_layAlong_22 : decode cX0_layAlong 22 = .ok (.getfield 27, 3) := by decide +kernel
theorem dX0_layAlong_25 : decode cX0_layAlong 25 = .ok (.iload 5, 2) := by decide +kernel
theorem dX0_layAlong_27 : decode cX0_layAlong 27 = .ok (.iload_n 3, 1) := by decide +kernel
theorem dX0_layAlong_28 : decode cX0_layAlong 28 = .ok (.iconst 1, 1) := by decide +kernel
theorem dX0_layAlong_29 : decode cX0_layAlong 29 = .ok (.iadd, 1) := by decide +kernel
theorem dX0_layAlong_30 : decode cX0_layAlong 30 = .ok (.aload_n 0, 1) := by decide +kernel
theorem dX0_layAlong_31 : decode cX0_layAlong 31 = .ok (.getfield 9, 3) := by decide +kernel
theorem dX0_layAlong_34 : decode cX0_layAlong 34 = .ok (.iload_n 1, 1) := by decide +kernel
theorem dX0_layAlong_35 : decode cX0_layAlong 35 = .ok (.iaload, 1) := by decide +kernel
theorem dX0_layAlong_36 : decode cX0_layAlong 36 = .ok (.if_icmp .ge 10, 3) := by decide +kernel
theorem dX0_layAlong_39 : decode cX0_layAlong 39 = .ok (.iload_n 2, 1) := by decide +kernel
theorem dX0_layAlong_40 : decode cX0_layAlong 40 = .ok (.iload 4, 2) := by decide +kernel
theorem dX0_layAlong_42 : decode cX0_layAlong 42 = .ok (.iadd, 1) := by decide +kernel
theorem dX0_layAlong_43 : decode cX0_layAlong 43 = .ok (.goto 4, 3) := by decide +kernel
theorem dX0_layAlong_46 : decode cX0_layAlong 46 = .ok (.iconst (-1), 1) := by decide +kernel
theorem dX0_layAlong_47 : decode cX0_layAlong 47 = .ok (.iastore, 1) := by decide +kernel
theorem dX0_layAlong_48 : decode cX0_layAlong 48 = .ok (.aload_n 0, 1) := by decide +kernel
theorem dX0_layAlong_49 : decode cX0_layAlong 49 = .ok (.getfield 27, 3) := by decide +kernel
theorem dX0_layAlong_52 : decode cX0_layAlong 52 = .ok (.iload 5, 2) := by decide +kernel
theorem dX0_layAlong_54 : decode cX0_layAlong 54 = .ok (.iconst 1, 1) := by decide +kernel
theorem dX0_layAlong_55 : decode cX0_layAlong 55 = .ok (.iadd, 1) := by decide +kernel
theorem dX0_layAlong_56 : decode cX0_layAlong 56 = .ok (.iload_n 3, 1) := by decide +kernel
theorem dX0_layAlong_57 : decode cX0_layAlong 57 = .ok (.ifCond .le 10, 3) := by decide +kernel
theorem dX0_layAlong_60 : decode cX0_layAlong 60 = .ok (.iload_n 2, 1) := by decide +kernel
theorem dX0_layAlong_61 : decode cX0_layAlong 61 = .ok (.iload 4, 2) := by decide +kernel
theorem dX0_layAlong_63 : decode cX0_layAlong 63 = .ok (.isub, 1) := by decide +kernel
theorem dX0_layAlong_64 : decode cX0_layAlong 64 = .ok (.goto 4, 3) := by decide +kernel
theorem dX0_layAlong_67 : decode cX0_layAlong 67 = .ok (.iconst (-1), 1) := by decide +kernel
theorem dX0_layAlong_68 : decode cX0_layAlong 68 = .ok (.iastore, 1) := by decide +kernel
theorem dX0_layAlong_69 : decode cX0_layAlong 69 = .ok (.return_, 1) := by decide +kernel
theorem dX0_has_0 : decode cX0_has 0 = .ok (.iload_n 1, 1) := by decide +kernel
theorem dX0_has_1 : decode cX0_has 1 = .ok (.ifCond .lt 15, 3) := by decide +kernel
theorem dX0_has_4 : decode cX0_has 4 = .ok (.iload_n 1, 1) := by decide +kernel
theorem dX0_has_5 : decode cX0_has 5 = .ok (.aload_n 0, 1) := by decide +kernel
theorem dX0_has_6 : decode cX0_has 6 = .ok (.getfield 30, 3) := by decide +kernel
theorem dX0_has_9 : decode cX0_has 9 = .ok (.if_icmp .ge 7, 3) := by decide +kernel
theorem dX0_has_12 : decode cX0_has 12 = .ok (.iconst 1, 1) := by decide +kernel
theorem dX0_has_13 : decode cX0_has 13 = .ok (.goto 4, 3) := by decide +kernel
theorem dX0_has_16 : decode cX0_has 16 = .ok (.iconst 0, 1) := by decide +kernel
theorem dX0_has_17 : decode cX0_has 17 = .ok (.ireturn, 1) := by decide +kernel
theorem dX0_every_0 : decode cX0_every 0 = .ok (.lconst 1, 1) := by decide +kernel
theorem dX0_every_1 : decode cX0_every 1 = .ok (.aload_n 0, 1) := by decide +kernel
theorem dX0_every_2 : decode cX0_every 2 = .ok (.getfield 30, 3) := by decide +kernel
theorem dX0_every_5 : decode cX0_every 5 = .ok (.lshl, 1) := by decide +kernel
theorem dX0_every_6 : decode cX0_every 6 = .ok (.lconst 1, 1) := by decide +kernel
theorem dX0_every_7 : decode cX0_every 7 = .ok (.lsub, 1) := by decide +kernel
theorem dX0_every_8 : decode cX0_every 8 = .ok (.lreturn, 1) := by decide +kernel
set_option maxRecDepth 20000 in
theorem ggX0_isSet_X0_every : GoodIn wsX0_isSet wsX0_every := goodIn_r _ [6, 7, 8, 9, 10, 11, 12, 13, 14] (by decide +kernel) (by decide +kernel)
set_option maxRecDepth 20000 in
theorem gX0_isSet_X0_every : GoodIn wsX0_isSet (wsV RX0 48 RX0 yX0_every wsX0_every) := goodIn_app (goodIn_of _ (by decide +kernel)) ggX0_isSet_X0_every
theorem dX0_isSet_0 : decode cX0_isSet 0 = .ok (.lload_n 1, 1) := by decide +kernel
theorem dX0_isSet_1 : decode cX0_isSet 1 = .ok (.aload_n 0, 1) := by decide +kernel
theorem dX0_isSet_2 : decode cX0_isSet 2 = .ok (.invokevirtual 48, 3) := by decide +kernel
theorem dX0_isSet_5 : decode cX0_isSet 5 = .ok (.ldc2_w 52, 3) := by decide +kernel
theorem dX0_isSet_8 : decode cX0_isSet 8 = .ok (.lxor, 1) := by decide +kernel
theorem dX0_isSet_9 : decode cX0_isSet 9 = .ok (.land, 1) := by decide +kernel
theorem dX0_isSet_10 : decode cX0_isSet 10 = .ok (.lconst 0, 1) := by decide +kernel
theorem dX0_isSet_11 : decode cX0_isSet 11 = .ok (.lcmp, 1) := by decide +kernel
theorem dX0_isSet_12 : decode cX0_isSet 12 = .ok (.ifCond .ne 7, 3) := by decide +kernel
theorem dX0_isSet_15 : decode cX0_isSet 15 = .ok (.iconst 1, 1) := by decide +kernel
theorem dX0_isSet_16 : decode cX0_isSet 16 = .ok (.goto 4, 3) := by decide +kernel
theorem dX0_isSet_19 : decode cX0_isSet 19 = .ok (.iconst 0, 1) := by decide +kernel
theorem dX0_isSet_20 : decode cX0_isSet 20 = .ok (.ireturn, 1) := by decide +kernel
theorem dX0_freeCells_0 : decode cX0_freeCells 0 = .ok (.iconst 0, 1) := by decide +kernel
theorem dX0_freeCells_1 : decode cX0_freeCells 1 = .ok (.istore_n 1, 1) := by decide +kernel
theorem dX0_freeCells_2 : decode cX0_freeCells 2 = .ok (.iconst 0, 1) := by decide +kernel
theorem dX0_freeCells_3 : decode cX0_freeCells 3 = .ok (.istore_n 2, 1) := by decide +kernel
theorem dX0_freeCells_4 : decode cX0_freeCells 4 = .ok (.iload_n 2, 1) := by decide +kernel
theorem dX0_freeCells_5 : decode cX0_freeCells 5 = .ok (.aload_n 0, 1) := by decide +kernel
theorem dX0_freeCells_6 : decode cX0_freeCells 6 = .ok (.getfield 30, 3) := by decide +kernel
theorem dX0_freeCells_9 : decode cX0_freeCells 9 = .ok (.if_icmp .ge 21, 3) := by decide +kernel
theorem dX0_freeCells_12 : decode cX0_freeCells 12 = .ok (.aload_n 0, 1) := by decide +kernel
theorem dX0_freeCells_13 : decode cX0_freeCells 13 = .ok (.getfield 15, 3) := by decide +kernel
theorem dX0_freeCells_16 : decode cX0_freeCells 16 = .ok (.iload_n 2, 1) := by decide +kernel
theorem dX0_freeCells_17 : decode cX0_freeCells 17 = .ok (.iaload, 1) := by decide +kernel
theorem dX0_freeCells_18 : decode cX0_freeCells 18 = .ok (.ifCond .ne 6, 3) := by decide +kernel
theorem dX0_freeCells_21 : decode cX0_freeCells 21 = .ok (.iinc 1 1, 3) := by decide +kernel
theorem dX0_freeCells_24 : decode cX0_freeCells 24 = .ok (.iinc 2 1, 3) := by decide +kernel
theorem dX0_freeCells_27 : decode cX0_freeCells 27 = .ok (.goto (-23), 3) := by decide +kernel
theorem dX0_freeCells_30 : decode cX0_freeCells 30 = .ok (.iload_n 1, 1) := by decide +kernel
theorem dX0_freeCells_31 : decode cX0_freeCells 31 = .ok (.ireturn, 1) := by decide +kernel
theorem dX0_sideTowards_0 : decode cX0_sideTowards 0 = .ok (.iconst 0, 1) := by decide +kernel
theorem dX0_sideTowards_1 : decode cX0_sideTowards 1 = .ok (.istore_n 3, 1) := by decide +kernel
theorem dX0_sideTowards_2 : decode cX0_sideTowards 2 = .ok (.iload_n 3, 1) := by decide +kernel
theorem dX0_sideTowards_3 : decode cX0_sideTowards 3 = .ok (.bipush 6, 2) := by decide +kernel
theorem dX0_sideTowards_5 : decode cX0_sideTowards 5 = .ok (.if_icmp .ge 26, 3) := by decide +kernel
theorem dX0_sideTowards_8 : decode cX0_sideTowards 8 = .ok (.aload_n 0, 1) := by decide +kernel
theorem dX0_sideTowards_9 : decode cX0_sideTowards 9 = .ok (.getfield 27, 3) := by decide +kernel
theorem dX0_sideTowards_12 : decode cX0_sideTowards 12 = .ok (.iload_n 1, 1) := by decide +kernel
theorem dX0_sideTowards_13 : decode cX0_sideTowards 13 = .ok (.bipush 6, 2) := by decide +kernel
theorem dX0_sideTowards_15 : decode cX0_sideTowards 15 = .ok (.imul, 1) := by decide +kernel
theorem dX0_sideTowards_16 : decode cX0_sideTowards 16 = .ok (.iload_n 3, 1) := by decide +kernel
theorem dX0_sideTowards_17 : decode cX0_sideTowards 17 = .ok (.iadd, 1) := by decide +kernel
theorem dX0_sideTowards_18 : decode cX0_sideTowards 18 = .ok (.iaload, 1) := by decide +kernel
theorem dX0_sideTowards_19 : decode cX0_sideTowards 19 = .ok (.iload_n 2, 1) := by decide +kernel
theorem dX0_sideTowards_20 : decode cX0_sideTowards 20 = .ok (.if_icmp .ne 5, 3) := by decide +kernel
theorem dX0_sideTowards_23 : decode cX0_sideTowards 23 = .ok (.iload_n 3, 1) := by decide +kernel
theorem dX0_sideTowards_24 : decode cX0_sideTowards 24 = .ok (.ireturn, 1) := by decide +kernel
theorem dX0_sideTowards_25 : decode cX0_sideTowards 25 = .ok (.iinc 3 1, 3) := by decide +kernel
theorem dX0_sideTowards_28 : decode cX0_sideTowards 28 = .ok (.goto (-26), 3) := by decide +kernel
theorem dX0_sideTowards_31 : decode cX0_sideTowards 31 = .ok (.iconst (-1), 1) := by decide +kernel
theorem dX0_sideTowards_32 : decode cX0_sideTowards 32 = .ok (.ireturn, 1) := by decide +kernel
theorem dX0_seamCost_0 : decode cX0_seamCost 0 = .ok (.iload_n 3, 1) := by decide +kernel
theorem dX0_seamCost_1 : decode cX0_seamCost 1 = .ok (.iconst 1, 1) := by decide +kernel
theorem dX0_seamCost_2 : decode cX0_seamCost 2 = .ok (.ishr, 1) := by decide +kernel
theorem dX0_seamCost_3 : decode cX0_seamCost 3 = .ok (.istore 4, 2) := by decide +kernel
theorem dX0_seamCost_5 : decode cX0_seamCost 5 = .ok (.aload_n 0, 1) := by decide +kernel
theorem dX0_seamCost_6 : decode cX0_seamCost 6 = .ok (.getfield 24, 3) := by decide +kernel
theorem dX0_seamCost_9 : decode cX0_seamCost 9 = .ok (.iload_n 2, 1) := by decide +kernel
theorem dX0_seamCost_10 : decode cX0_seamCost 10 = .ok (.iconst 3, 1) := by decide +kernel
theorem dX0_seamCost_11 : decode cX0_seamCost 11 = .ok (.imul, 1) := by decide +kernel
theorem dX0_seamCost_12 : decode cX0_seamCost 12 = .ok (.iload 4, 2) := by decide +kernel
theorem dX0_seamCost_14 : decode cX0_seamCost 14 = .ok (.iadd, 1) := by decide +kernel
theorem dX0_seamCost_15 : decode cX0_seamCost 15 = .ok (.iaload, 1) := by decide +kernel
theorem dX0_seamCost_16 : decode cX0_seamCost 16 = .ok (.iload_n 3, 1) := by decide +kernel
theorem dX0_seamCost_17 : decode cX0_seamCost 17 = .ok (.iconst 1, 1) := by decide +kernel
theorem dX0_seamCost_18 : decode cX0_seamCost 18 = .ok (.iand, 1) := by decide +kernel
theorem dX0_seamCost_19 : decode cX0_seamCost 19 = .ok (.isub, 1) := by decide +kernel
theorem dX0_seamCost_20 : decode cX0_seamCost 20 = .ok (.istore 5, 2) := by decide +kernel
theorem dX0_seamCost_22 : decode cX0_seamCost 22 = .ok (.aload_n 0, 1) := by decide +kernel
theorem dX0_seamCost_23 : decode cX0_seamCost 23 = .ok (.getfield 21, 3) := by decide +kernel
theorem dX0_seamCost_26 : decode cX0_seamCost 26 = .ok (.iload 4, 2) := by decide +kernel
theorem dX0_seamCost_28 : decode cX0_seamCost 28 = .ok (.iaload, 1) := by decide +kernel
theorem dX0_seamCost_29 : decode cX0_seamCost 29 = .ok (.istore 6, 2) := by decide +kernel
theorem dX0_seamCost_31 : decode cX0_seamCost 31 = .ok (.iload_n 1, 1) := by decide +kernel
theorem dX0_seamCost_32 : decode cX0_seamCost 32 = .ok (.iconst 1, 1) := by decide +kernel
theorem dX0_seamCost_33 : decode cX0_seamCost 33 = .ok (.if_icmp .lt 22, 3) := by decide +kernel
theorem dX0_seamCost_36 : decode cX0_seamCost 36 = .ok (.iload 5, 2) := by decide +kernel
theorem dX0_seamCost_38 : decode cX0_seamCost 38 = .ok (.iconst 1, 1) := by decide +kernel
theorem dX0_seamCost_39 : decode cX0_seamCost 39 = .ok (.iand, 1) := by decide +kernel
theorem dX0_seamCost_40 : decode cX0_seamCost 40 = .ok (.iconst 1, 1) := by decide +kernel
theorem dX0_seamCost_41 : decode cX0_seamCost 41 = .ok (.if_icmp .ne 14, 3) := by decide +kernel
theorem dX0_seamCost_44 : decode cX0_seamCost 44 = .ok (.iload 6, 2) := by decide +kernel
theorem dX0_seamCost_46 : decode cX0_seamCost 46 = .ok (.aload_n 0, 1) := by decide +kernel
theorem dX0_seamCost_47 : decode cX0_seamCost 47 = .ok (.getfield 21, 3) := by decide +kernel
theorem dX0_seamCost_50 : decode cX0_seamCost 50 = .ok (.iconst 4, 1) := by decide +kernel
theorem dX0_seamCost_51 : decode cX0_seamCost 51 = .ok (.iaload, 1) := by decide +kernel
theorem dX0_seamCost_52 : decode cX0_seamCost 52 = .ok (.iadd, 1) := by decide +kernel
theorem dX0_seamCost_53 : decode cX0_seamCost 53 = .ok (.istore 6, 2) := by decide +kernel
theorem dX0_seamCost_55 : decode cX0_seamCost 55 = .ok (.iload_n 1, 1) := by decide +kernel
theorem dX0_seamCost_56 : decode cX0_seamCost 56 = .ok (.iconst 2, 1) := by decide +kernel
theorem dX0_seamCost_57 : decode cX0_seamCost 57 = .ok (.if_icmp .lt 17, 3) := by decide +kernel
theorem dX0_seamCost_60 : decode cX0_seamCost 60 = .ok (.iload 6, 2) := by decide +kernel
theorem dX0_seamCost_62 : decode cX0_seamCost 62 = .ok (.aload_n 0, 1) := by decide +kernel
theorem dX0_seamCost_63 : decode cX0_seamCost 63 = .ok (.getfield 21, 3) := by decide +kernel
theorem dX0_seamCost_66 : decode cX0_seamCost 66 = .ok (.iconst 5, 1) := by decide +kernel
theorem dX0_seamCost_67 : decode cX0_seamCost 67 = .ok (.iaload, 1) := by decide +kernel
theorem dX0_seamCost_68 : decode cX0_seamCost 68 = .ok (.invokestatic 54, 3) := by decide +kernel
theorem dX0_seamCost_71 : decode cX0_seamCost 71 = .ok (.goto 5, 3) := by decide +kernel
theorem dX0_seamCost_74 : decode cX0_seamCost 74 = .ok (.iload 6, 2) := by decide +kernel
theorem dX0_seamCost_76 : decode cX0_seamCost 76 = .ok (.ireturn, 1) := by decide +kernel
theorem dX0_ownCost_0 : decode cX0_ownCost 0 = .ok (.aload_n 0, 1) := by decide +kernel
theorem dX0_ownCost_1 : decode cX0_ownCost 1 = .ok (.getfield 18, 3) := by decide +kernel
theorem dX0_ownCost_4 : decode cX0_ownCost 4 = .ok (.iload_n 1, 1) := by decide +kernel
theorem dX0_ownCost_5 : decode cX0_ownCost 5 = .ok (.iaload, 1) := by decide +kernel
theorem dX0_ownCost_6 : decode cX0_ownCost 6 = .ok (.istore_n 2, 1) := by decide +kernel
theorem dX0_ownCost_7 : decode cX0_ownCost 7 = .ok (.iconst 0, 1) := by decide +kernel
theorem dX0_ownCost_8 : decode cX0_ownCost 8 = .ok (.istore_n 3, 1) := by decide +kernel
theorem dX0_ownCost_9 : decode cX0_ownCost 9 = .ok (.iload_n 3, 1) := by decide +kernel
theorem dX0_ownCost_10 : decode cX0_ownCost 10 = .ok (.bipush 6, 2) := by decide +kernel
theorem dX0_ownCost_12 : decode cX0_ownCost 12 = .ok (.if_icmp .ge 33, 3) := by decide +kernel
theorem dX0_ownCost_15 : decode cX0_ownCost 15 = .ok (.aload_n 0, 1) := by decide +kernel
theorem dX0_ownCost_16 : decode cX0_ownCost 16 = .ok (.getfield 27, 3) := by decide +kernel
theorem dX0_ownCost_19 : decode cX0_ownCost 19 = .ok (.iload_n 1, 1) := by decide +kernel
theorem dX0_ownCost_20 : decode cX0_ownCost 20 = .ok (.bipush 6, 2) := by decide +kernel
theorem dX0_ownCost_22 : decode cX0_ownCost 22 = .ok (.imul, 1) := by decide +kernel
theorem dX0_ownCost_23 : decode cX0_ownCost 23 = .ok (.iload_n 3, 1) := by decide +kernel
theorem dX0_ownCost_24 : decode cX0_ownCost 24 = .ok (.iadd, 1) := by decide +kernel
theorem dX0_ownCost_25 : decode cX0_ownCost 25 = .ok (.iaload, 1) := by decide +kernel
theorem dX0_ownCost_26 : decode cX0_ownCost 26 = .ok (.iconst (-1), 1) := by decide +kernel
theorem dX0_ownCost_27 : decode cX0_ownCost 27 = .ok (.if_icmp .ne 12, 3) := by decide +kernel
theorem dX0_ownCost_30 : decode cX0_ownCost 30 = .ok (.iload_n 2, 1) := by decide +kernel
theorem dX0_ownCost_31 : decode cX0_ownCost 31 = .ok (.aload_n 0, 1) := by decide +kernel
theorem dX0_ownCost_32 : decode cX0_ownCost 32 = .ok (.getfield 21, 3) := by decide +kernel
theorem dX0_ownCost_35 : decode cX0_ownCost 35 = .ok (.iconst 3, 1) := by decide +kernel
theorem dX0_ownCost_36 : decode cX0_ownCost 36 = .ok (.iaload, 1) := by decide +kernel
theorem dX0_ownCost_37 : decode cX0_ownCost 37 = .ok (.iadd, 1) := by decide +kernel
theorem dX0_ownCost_38 : decode cX0_ownCost 38 = .ok (.istore_n 2, 1) := by decide +kernel
theorem dX0_ownCost_39 : decode cX0_ownCost 39 = .ok (.iinc 3 1, 3) := by decide +kernel
theorem dX0_ownCost_42 : decode cX0_ownCost 42 = .ok (.goto (-33), 3) := by decide +kernel
theorem dX0_ownCost_45 : decode cX0_ownCost 45 = .ok (.iload_n 2, 1) := by decide +kernel
theorem dX0_ownCost_46 : decode cX0_ownCost 46 = .ok (.ireturn, 1) := by decide +kernel
set_option maxRecDepth 20000 in
theorem ggX0_seamsGrowth_X0_seamCost : GoodIn wsX0_seamsGrowth wsX0_seamCost := goodIn_r _ [7, 8, 2, 9, 10, 11, 12, 16, 17, 18, 19, 20, 21, 22] (by decide +kernel) (by decide +kernel)
set_option maxRecDepth 20000 in
theorem gX0_seamsGrowth_X0_seamCost : GoodIn wsX0_seamsGrowth (wsV RX0 60 RX0 yX0_seamCost wsX0_seamCost) := goodIn_app (goodIn_of _ (by decide +kernel)) ggX0_seamsGrowth_X0_seamCost
set_option maxRecDepth 20000 in
theorem ggX0_seamsGrowth_X0_holds : GoodIn wsX0_seamsGrowth wsX0_holds := goodIn_r _ [15] (by decide +kernel) (by decide +kernel)
set_option maxRecDepth 20000 in
theorem gX0_seamsGrowth_X0_holds : GoodIn wsX0_seamsGrowth (va_wsS RX0 64 yX0_holds wsX0_holds) := goodIn_app (goodIn_of _ (by decide +kernel)) ggX0_seamsGrowth_X0_holds
theorem dX0_seamsGrowth_0 : decode cX0_seamsGrowth 0 = .ok (.iconst 0, 1) := by decide +kernel
theorem dX0_seamsGrowth_1 : decode cX0_seamsGrowth 1 = .ok (.istore 4, 2) := by decide +kernel
theorem dX0_seamsGrowth_3 : decode cX0_seamsGrowth 3 = .ok (.iconst 0, 1) := by decide +kernel
theorem dX0_seamsGrowth_4 : decode cX0_seamsGrowth 4 = .ok (.istore 5, 2) := by decide +kernel
theorem dX0_seamsGrowth_6 : decode cX0_seamsGrowth 6 = .ok (.iload 5, 2) := by decide +kernel
theorem dX0_seamsGrowth_8 : decode cX0_seamsGrowth 8 = .ok (.bipush 6, 2) := by decide +kernel
theorem dX0_seamsGrowth_10 : decode cX0_seamsGrowth 10 = .ok (.if_icmp .ge 67, 3) := by decide +kernel
theorem dX0_seamsGrowth_13 : decode cX0_seamsGrowth 13 = .ok (.aload_n 0, 1) := by decide +kernel
theorem dX0_seamsGrowth_14 : decode cX0_seamsGrowth 14 = .ok (.getfield 27, 3) := by decide +kernel
theorem dX0_seamsGrowth_17 : decode cX0_seamsGrowth 17 = .ok (.iload_n 3, 1) := by decide +kernel
theorem dX0_seamsGrowth_18 : decode cX0_seamsGrowth 18 = .ok (.bipush 6, 2) := by decide +kernel
theorem dX0_seamsGrowth_20 : decode cX0_seamsGrowth 20 = .ok (.imul, 1) := by decide +kernel
theorem dX0_seamsGrowth_21 : decode cX0_seamsGrowth 21 = .ok (.iload 5, 2) := by decide +kernel
theorem dX0_seamsGrowth_23 : decode cX0_seamsGrowth 23 = .ok (.iadd, 1) := by decide +kernel
theorem dX0_seamsGrowth_24 : decode cX0_seamsGrowth 24 = .ok (.iaload, 1) := by decide +kernel
theorem dX0_seamsGrowth_25 : decode cX0_seamsGrowth 25 = .ok (.istore 6, 2) := by decide +kernel
theorem dX0_seamsGrowth_27 : decode cX0_seamsGrowth 27 = .ok (.iload 6, 2) := by decide +kernel
theorem dX0_seamsGrowth_29 : decode cX0_seamsGrowth 29 = .ok (.iconst (-1), 1) := by decide +kernel
theorem dX0_seamsGrowth_30 : decode cX0_seamsGrowth 30 = .ok (.if_icmp .eq 41, 3) := by decide +kernel
theorem dX0_seamsGrowth_33 : decode cX0_seamsGrowth 33 = .ok (.aload_n 0, 1) := by decide +kernel
theorem dX0_seamsGrowth_34 : decode cX0_seamsGrowth 34 = .ok (.aload_n 0, 1) := by decide +kernel
theorem dX0_seamsGrowth_35 : decode cX0_seamsGrowth 35 = .ok (.getfield 21, 3) := by decide +kernel
theorem dX0_seamsGrowth_38 : decode cX0_seamsGrowth 38 = .ok (.bipush 6, 2) := by decide +kernel
theorem dX0_seamsGrowth_40 : decode cX0_seamsGrowth 40 = .ok (.iaload, 1) := by decide +kernel
theorem dX0_seamsGrowth_41 : decode cX0_seamsGrowth 41 = .ok (.iload_n 3, 1) := by decide +kernel
theorem dX0_seamsGrowth_42 : decode cX0_seamsGrowth 42 = .ok (.iload 5, 2) := by decide +kernel
theorem dX0_seamsGrowth_44 : decode cX0_seamsGrowth 44 = .ok (.invokevirtual 60, 3) := by decide +kernel
theorem dX0_seamsGrowth_47 : decode cX0_seamsGrowth 47 = .ok (.istore 7, 2) := by decide +kernel
theorem dX0_seamsGrowth_49 : decode cX0_seamsGrowth 49 = .ok (.iload 4, 2) := by decide +kernel
theorem dX0_seamsGrowth_51 : decode cX0_seamsGrowth 51 = .ok (.lload_n 1, 1) := by decide +kernel
theorem dX0_seamsGrowth_52 : decode cX0_seamsGrowth 52 = .ok (.iload 6, 2) := by decide +kernel
theorem dX0_seamsGrowth_54 : decode cX0_seamsGrowth 54 = .ok (.invokestatic 64, 3) := by decide +kernel
theorem dX0_seamsGrowth_57 : decode cX0_seamsGrowth 57 = .ok (.ifCond .eq 9, 3) := by decide +kernel
theorem dX0_seamsGrowth_60 : decode cX0_seamsGrowth 60 = .ok (.iload 7, 2) := by decide +kernel
theorem dX0_seamsGrowth_62 : decode cX0_seamsGrowth 62 = .ok (.ineg, 1) := by decide +kernel
theorem dX0_seamsGrowth_63 : decode cX0_seamsGrowth 63 = .ok (.goto 5, 3) := by decide +kernel
theorem dX0_seamsGrowth_66 : decode cX0_seamsGrowth 66 = .ok (.iload 7, 2) := by decide +kernel
theorem dX0_seamsGrowth_68 : decode cX0_seamsGrowth 68 = .ok (.iadd, 1) := by decide +kernel
theorem dX0_seamsGrowth_69 : decode cX0_seamsGrowth 69 = .ok (.istore 4, 2) := by decide +kernel
theorem dX0_seamsGrowth_71 : decode cX0_seamsGrowth 71 = .ok (.iinc 5 1, 3) := by decide +kernel
theorem dX0_seamsGrowth_74 : decode cX0_seamsGrowth 74 = .ok (.goto (-68), 3) := by decide +kernel
theorem dX0_seamsGrowth_77 : decode cX0_seamsGrowth 77 = .ok (.iload 4, 2) := by decide +kernel
theorem dX0_seamsGrowth_79 : decode cX0_seamsGrowth 79 = .ok (.ireturn, 1) := by decide +kernel
set_option maxRecDepth 20000 in
theorem ggX0_skinOf_X0_holds : GoodIn wsX0_skinOf wsX0_holds := goodIn_r _ [5] (by decide +kernel) (by decide +kernel)
set_option maxRecDepth 20000 in
theorem gX0_skinOf_X0_holds : GoodIn wsX0_skinOf (va_wsS RX0 64 yX0_holds wsX0_holds) := goodIn_app (goodIn_of _ (by decide +kernel)) ggX0_skinOf_X0_holds
set_option maxRecDepth 20000 in
theorem ggX0_skinOf_X0_skinOfCell : GoodIn wsX0_skinOf wsX0_skinOfCell := goodIn_r _ [9, 10, 11, 2, 3, 4, 5, 12, 13, 14, 15, 16, 17, 18, 19, 20, 21, 22, 23, 24, 25, 26, 27] (by decide +kernel) (by decide +kernel)
set_option maxRecDepth 20000 in
theorem gX0_skinOf_X0_skinOfCell : GoodIn wsX0_skinOf (wsV RX0 68 RX0 yX0_skinOfCell wsX0_skinOfCell) := goodIn_app (goodIn_of _ (by decide +kernel)) ggX0_skinOf_X0_skinOfCell
theorem dX0_skinOf_0 : decode cX0_skinOf 0 = .ok (.lconst 0, 1) := by decide +kernel
theorem dX0_skinOf_1 : decode cX0_skinOf 1 = .ok (.lstore_n 3, 1) := by decide +kernel
theorem dX0_skinOf_2 : decode cX0_skinOf 2 = .ok (.iconst 0, 1) := by decide +kernel
theorem dX0_skinOf_3 : decode cX0_skinOf 3 = .ok (.istore 5, 2) := by decide +kernel
theorem dX0_skinOf_5 : decode cX0_skinOf 5 = .ok (.iload 5, 2) := by decide +kernel
theorem dX0_skinOf_7 : decode cX0_skinOf 7 = .ok (.aload_n 0, 1) := by decide +kernel
theorem dX0_skinOf_8 : decode cX0_skinOf 8 = .ok (.getfield 30, 3) := by decide +kernel
theorem dX0_skinOf_11 : decode cX0_skinOf 11 = .ok (.if_icmp .ge 29, 3) := by decide +kernel
theorem dX0_skinOf_14 : decode cX0_skinOf 14 = .ok (.lload_n 1, 1) := by decide +kernel
theorem dX0_skinOf_15 : decode cX0_skinOf 15 = .ok (.iload 5, 2) := by decide +kernel
theorem dX0_skinOf_17 : decode cX0_skinOf 17 = .ok (.invokestatic 64, 3) := by decide +kernel
theorem dX0_skinOf_20 : decode cX0_skinOf 20 = .ok (.ifCond .eq 14, 3) := by decide +kernel
theorem dX0_skinOf_23 : decode cX0_skinOf 23 = .ok (.lload_n 3, 1) := by decide +kernel
theorem dX0_skinOf_24 : decode cX0_skinOf 24 = .ok (.aload_n 0, 1) := by decide +kernel
theorem dX0_skinOf_25 : decode cX0_skinOf 25 = .ok (.lload_n 1, 1) := by decide +kernel
theorem dX0_skinOf_26 : decode cX0_skinOf 26 = .ok (.iload 5, 2) := by decide +kernel
theorem dX0_skinOf_28 : decode cX0_skinOf 28 = .ok (.invokevirtual 68, 3) := by decide +kernel
theorem dX0_skinOf_31 : decode cX0_skinOf 31 = .ok (.i2l, 1) := by decide +kernel
theorem dX0_skinOf_32 : decode cX0_skinOf 32 = .ok (.ladd, 1) := by decide +kernel
theorem dX0_skinOf_33 : decode cX0_skinOf 33 = .ok (.lstore_n 3, 1) := by decide +kernel
theorem dX0_skinOf_34 : decode cX0_skinOf 34 = .ok (.iinc 5 1, 3) := by decide +kernel
theorem dX0_skinOf_37 : decode cX0_skinOf 37 = .ok (.goto (-32), 3) := by decide +kernel
theorem dX0_skinOf_40 : decode cX0_skinOf 40 = .ok (.lload_n 3, 1) := by decide +kernel
theorem dX0_skinOf_41 : decode cX0_skinOf 41 = .ok (.lreturn, 1) := by decide +kernel
set_option maxRecDepth 20000 in
theorem ggX0_skinOfCell_X0_holds : GoodIn wsX0_skinOfCell wsX0_holds := goodIn_r _ [6] (by decide +kernel) (by decide +kernel)
set_option maxRecDepth 20000 in
theorem gX0_skinOfCell_X0_holds : GoodIn wsX0_skinOfCell (va_wsS RX0 64 yX0_holds wsX0_holds) := goodIn_app (goodIn_of _ (by decide +kernel)) ggX0_skinOfCell_X0_holds
set_option maxRecDepth 20000 in
theorem ggX0_skinOfCell_X0_seamCost : GoodIn wsX0_skinOfCell wsX0_seamCost := goodIn_r _ [10, 11, 2, 12, 13, 14, 15, 16, 17, 18, 19, 20, 21, 22] (by decide +kernel) (by decide +kernel)
set_option maxRecDepth 20000 in
theorem gX0_skinOfCell_X0_seamCost : GoodIn wsX0_skinOfCell (wsV RX0 60 RX0 yX0_seamCost wsX0_seamCost) := goodIn_app (goodIn_of _ (by decide +kernel)) ggX0_skinOfCell_X0_seamCost
theorem dX0_skinOfCell_0 : decode cX0_skinOfCell 0 = .ok (.iconst 0, 1) := by decide +kernel
theorem dX0_skinOfCell_1 : decode cX0_skinOfCell 1 = .ok (.istore 4, 2) := by decide +kernel
theorem dX0_skinOfCell_3 : decode cX0_skinOfCell 3 = .ok (.iconst 0, 1) := by decide +kernel
theorem dX0_skinOfCell_4 : decode cX0_skinOfCell 4 = .ok (.istore 5, 2) := by decide +kernel
theorem dX0_skinOfCell_6 : decode cX0_skinOfCell 6 = .ok (.iload 5, 2) := by decide +kernel
theorem dX0_skinOfCell_8 : decode cX0_skinOfCell 8 = .ok (.bipush 6, 2) := by decide +kernel
theorem dX0_skinOfCell_10 : decode cX0_skinOfCell 10 = .ok (.if_icmp .ge 71, 3) := by decide +kernel
theorem dX0_skinOfCell_13 : decode cX0_skinOfCell 13 = .ok (.aload_n 0, 1) := by decide +kernel
theorem dX0_skinOfCell_14 : decode cX0_skinOfCell 14 = .ok (.getfield 27, 3) := by decide +kernel
theorem dX0_skinOfCell_17 : decode cX0_skinOfCell 17 = .ok (.iload_n 3, 1) := by decide +kernel
theorem dX0_skinOfCell_18 : decode cX0_skinOfCell 18 = .ok (.bipush 6, 2) := by decide +kernel
theorem dX0_skinOfCell_20 : decode cX0_skinOfCell 20 = .ok (.imul, 1) := by decide +kernel
theorem dX0_skinOfCell_21 : decode cX0_skinOfCell 21 = .ok (.iload 5, 2) := by decide +kernel
theorem dX0_skinOfCell_23 : decode cX0_skinOfCell 23 = .ok (.iadd, 1) := by decide +kernel
theorem dX0_skinOfCell_24 : decode cX0_skinOfCell 24 = .ok (.iaload, 1) := by decide +kernel
theorem dX0_skinOfCell_25 : decode cX0_skinOfCell 25 = .ok (.istore 6, 2) := by decide +kernel
theorem dX0_skinOfCell_27 : decode cX0_skinOfCell 27 = .ok (.iload 6, 2) := by decide +kernel
theorem dX0_skinOfCell_29 : decode cX0_skinOfCell 29 = .ok (.iconst (-1), 1) := by decide +kernel
theorem dX0_skinOfCell_30 : decode cX0_skinOfCell 30 = .ok (.if_icmp .ne 17, 3) := by decide +kernel
theorem dX0_skinOfCell_33 : decode cX0_skinOfCell 33 = .ok (.iload 4, 2) := by decide +kernel
theorem dX0_skinOfCell_35 : decode cX0_skinOfCell 35 = .ok (.aload_n 0, 1) := by decide +kernel
theorem dX0_skinOfCell_36 : decode cX0_skinOfCell 36 = .ok (.getfield 21, 3) := by decide +kernel
theorem dX0_skinOfCell_39 : decode cX0_skinOfCell 39 = .ok (.iconst 3, 1) := by decide +kernel
theorem dX0_skinOfCell_40 : decode cX0_skinOfCell 40 = .ok (.iaload, 1) := by decide +kernel
theorem dX0_skinOfCell_41 : decode cX0_skinOfCell 41 = .ok (.iadd, 1) := by decide +kernel
theorem dX0_skinOfCell_42 : decode cX0_skinOfCell 42 = .ok (.istore 4, 2) := by decide +kernel
theorem dX0_skinOfCell_44 : decode cX0_skinOfCell 44 = .ok (.goto 31, 3) := by decide +kernel
theorem dX0_skinOfCell_47 : decode cX0_skinOfCell 47 = .ok (.lload_n 1, 1) := by decide +kernel
theorem dX0_skinOfCell_48 : decode cX0_skinOfCell 48 = .ok (.iload 6, 2) := by decide +kernel
theorem dX0_skinOfCell_50 : decode cX0_skinOfCell 50 = .ok (.invokestatic 64, 3) := by decide +kernel
theorem dX0_skinOfCell_53 : decode cX0_skinOfCell 53 = .ok (.ifCond .ne 22, 3) := by decide +kernel
theorem dX0_skinOfCell_56 : decode cX0_skinOfCell 56 = .ok (.iload 4, 2) := by decide +kernel
theorem dX0_skinOfCell_58 : decode cX0_skinOfCell 58 = .ok (.aload_n 0, 1) := by decide +kernel
theorem dX0_skinOfCell_59 : decode cX0_skinOfCell 59 = .ok (.aload_n 0, 1) := by decide +kernel
theorem dX0_skinOfCell_60 : decode cX0_skinOfCell 60 = .ok (.getfield 21, 3) := by decide +kernel
theorem dX0_skinOfCell_63 : decode cX0_skinOfCell 63 = .ok (.bipush 6, 2) := by decide +kernel
theorem dX0_skinOfCell_65 : decode cX0_skinOfCell 65 = .ok (.iaload, 1) := by decide +kernel
theorem dX0_skinOfCell_66 : decode cX0_skinOfCell 66 = .ok (.iload_n 3, 1) := by decide +kernel
theorem dX0_skinOfCell_67 : decode cX0_skinOfCell 67 = .ok (.iload 5, 2) := by decide +kernel
theorem dX0_skinOfCell_69 : decode cX0_skinOfCell 69 = .ok (.invokevirtual 60, 3) := by decide +kernel
theorem dX0_skinOfCell_72 : decode cX0_skinOfCell 72 = .ok (.iadd, 1) := by decide +kernel
theorem dX0_skinOfCell_73 : decode cX0_skinOfCell 73 = .ok (.istore 4, 2) := by decide +kernel
theorem dX0_skinOfCell_75 : decode cX0_skinOfCell 75 = .ok (.iinc 5 1, 3) := by decide +kernel
theorem dX0_skinOfCell_78 : decode cX0_skinOfCell 78 = .ok (.goto (-72), 3) := by decide +kernel
theorem dX0_skinOfCell_81 : decode cX0_skinOfCell 81 = .ok (.iload 4, 2) := by decide +kernel
theorem dX0_skinOfCell_83 : decode cX0_skinOfCell 83 = .ok (.ireturn, 1) := by decide +kernel
set_option maxRecDepth 20000 in
theorem ggX0_pricesOf_X0_holds : GoodIn wsX0_pricesOf wsX0_holds := goodIn_r _ [6] (by decide +kernel) (by decide +kernel)
set_option maxRecDepth 20000 in
theorem gX0_pricesOf_X0_holds : GoodIn wsX0_pricesOf (va_wsS RX0 64 yX0_holds wsX0_holds) := goodIn_app (goodIn_of _ (by decide +kernel)) ggX0_pricesOf_X0_holds
theorem dX0_pricesOf_0 : decode cX0_pricesOf 0 = .ok (.lconst 0, 1) := by decide +kernel
theorem dX0_pricesOf_1 : decode cX0_pricesOf 1 = .ok (.lstore_n 3, 1) := by decide +kernel
theorem dX0_pricesOf_2 : decode cX0_pricesOf 2 = .ok (.iconst 0, 1) := by decide +kernel
theorem dX0_pricesOf_3 : decode cX0_pricesOf 3 = .ok (.istore 5, 2) := by decide +kernel
theorem dX0_pricesOf_5 : decode cX0_pricesOf 5 = .ok (.iload 5, 2) := by decide +kernel
theorem dX0_pricesOf_7 : decode cX0_pricesOf 7 = .ok (.aload_n 0, 1) := by decide +kernel
theorem dX0_pricesOf_8 : decode cX0_pricesOf 8 = .ok (.getfield 30, 3) := by decide +kernel
theorem dX0_pricesOf_11 : decode cX0_pricesOf 11 = .ok (.if_icmp .ge 29, 3) := by decide +kernel
theorem dX0_pricesOf_14 : decode cX0_pricesOf 14 = .ok (.lload_n 1, 1) := by decide +kernel
theorem dX0_pricesOf_15 : decode cX0_pricesOf 15 = .ok (.iload 5, 2) := by decide +kernel
theorem dX0_pricesOf_17 : decode cX0_pricesOf 17 = .ok (.invokestatic 64, 3) := by decide +kernel
theorem dX0_pricesOf_20 : decode cX0_pricesOf 20 = .ok (.ifCond .eq 14, 3) := by decide +kernel
theorem dX0_pricesOf_23 : decode cX0_pricesOf 23 = .ok (.lload_n 3, 1) := by decide +kernel
theorem dX0_pricesOf_24 : decode cX0_pricesOf 24 = .ok (.aload_n 0, 1) := by decide +kernel
theorem dX0_pricesOf_25 : decode cX0_pricesOf 25 = .ok (.getfield 18, 3) := by decide +kernel
theorem dX0_pricesOf_28 : decode cX0_pricesOf 28 = .ok (.iload 5, 2) := by decide +kernel
theorem dX0_pricesOf_30 : decode cX0_pricesOf 30 = .ok (.iaload, 1) := by decide +kernel
theorem dX0_pricesOf_31 : decode cX0_pricesOf 31 = .ok (.i2l, 1) := by decide +kernel
theorem dX0_pricesOf_32 : decode cX0_pricesOf 32 = .ok (.ladd, 1) := by decide +kernel
theorem dX0_pricesOf_33 : decode cX0_pricesOf 33 = .ok (.lstore_n 3, 1) := by decide +kernel
theorem dX0_pricesOf_34 : decode cX0_pricesOf 34 = .ok (.iinc 5 1, 3) := by decide +kernel
theorem dX0_pricesOf_37 : decode cX0_pricesOf 37 = .ok (.goto (-32), 3) := by decide +kernel
theorem dX0_pricesOf_40 : decode cX0_pricesOf 40 = .ok (.lload_n 3, 1) := by decide +kernel
theorem dX0_pricesOf_41 : decode cX0_pricesOf 41 = .ok (.lreturn, 1) := by decide +kernel
set_option maxRecDepth 20000 in
theorem ggX0_isRight_X0_holds : GoodIn wsX0_isRight wsX0_holds := goodIn_r _ [6] (by decide +kernel) (by decide +kernel)
set_option maxRecDepth 20000 in
theorem gX0_isRight_X0_holds : GoodIn wsX0_isRight (va_wsS RX0 64 yX0_holds wsX0_holds) := goodIn_app (goodIn_of _ (by decide +kernel)) ggX0_isRight_X0_holds
theorem dX0_isRight_0 : decode cX0_isRight 0 = .ok (.iconst 0, 1) := by decide +kernel
theorem dX0_isRight_1 : decode cX0_isRight 1 = .ok (.istore_n 3, 1) := by decide +kernel
theorem dX0_isRight_2 : decode cX0_isRight 2 = .ok (.iload_n 3, 1) := by decide +kernel
theorem dX0_isRight_3 : decode cX0_isRight 3 = .ok (.aload_n 0, 1) := by decide +kernel
theorem dX0_isRight_4 : decode cX0_isRight 4 = .ok (.getfield 30, 3) := by decide +kernel
theorem dX0_isRight_7 : decode cX0_isRight 7 = .ok (.if_icmp .ge 33, 3) := by decide +kernel
theorem dX0_isRight_10 : decode cX0_isRight 10 = .ok (.aload_n 0, 1) := by decide +kernel
theorem dX0_isRight_11 : decode cX0_isRight 11 = .ok (.getfield 15, 3) := by decide +kernel
theorem dX0_isRight_14 : decode cX0_isRight 14 = .ok (.iload_n 3, 1) := by decide +kernel
theorem dX0_isRight_15 : decode cX0_isRight 15 = .ok (.iaload, 1) := by decide +kernel
theorem dX0_isRight_16 : decode cX0_isRight 16 = .ok (.lload_n 1, 1) := by decide +kernel
theorem dX0_isRight_17 : decode cX0_isRight 17 = .ok (.iload_n 3, 1) := by decide +kernel
theorem dX0_isRight_18 : decode cX0_isRight 18 = .ok (.invokestatic 64, 3) := by decide +kernel
theorem dX0_isRight_21 : decode cX0_isRight 21 = .ok (.ifCond .eq 7, 3) := by decide +kernel
theorem dX0_isRight_24 : decode cX0_isRight 24 = .ok (.iconst 2, 1) := by decide +kernel
theorem dX0_isRight_25 : decode cX0_isRight 25 = .ok (.goto 4, 3) := by decide +kernel
theorem dX0_isRight_28 : decode cX0_isRight 28 = .ok (.iconst 1, 1) := by decide +kernel
theorem dX0_isRight_29 : decode cX0_isRight 29 = .ok (.if_icmp .ne 5, 3) := by decide +kernel
theorem dX0_isRight_32 : decode cX0_isRight 32 = .ok (.iconst 0, 1) := by decide +kernel
theorem dX0_isRight_33 : decode cX0_isRight 33 = .ok (.ireturn, 1) := by decide +kernel
theorem dX0_isRight_34 : decode cX0_isRight 34 = .ok (.iinc 3 1, 3) := by decide +kernel
theorem dX0_isRight_37 : decode cX0_isRight 37 = .ok (.goto (-35), 3) := by decide +kernel
theorem dX0_isRight_40 : decode cX0_isRight 40 = .ok (.iconst 1, 1) := by decide +kernel
theorem dX0_isRight_41 : decode cX0_isRight 41 = .ok (.ireturn, 1) := by decide +kernel
theorem dX0_holds_0 : decode cX0_holds 0 = .ok (.lload_n 0, 1) := by decide +kernel
theorem dX0_holds_1 : decode cX0_holds 1 = .ok (.iload_n 2, 1) := by decide +kernel
theorem dX0_holds_2 : decode cX0_holds 2 = .ok (.lshr, 1) := by decide +kernel
theorem dX0_holds_3 : decode cX0_holds 3 = .ok (.lconst 1, 1) := by decide +kernel
theorem dX0_holds_4 : decode cX0_holds 4 = .ok (.land, 1) := by decide +kernel
theorem dX0_holds_5 : decode cX0_holds 5 = .ok (.lconst 1, 1) := by decide +kernel
theorem dX0_holds_6 : decode cX0_holds 6 = .ok (.lcmp, 1) := by decide +kernel
theorem dX0_holds_7 : decode cX0_holds 7 = .ok (.ifCond .ne 7, 3) := by decide +kernel
theorem dX0_holds_10 : decode cX0_holds 10 = .ok (.iconst 1, 1) := by decide +kernel
theorem dX0_holds_11 : decode cX0_holds 11 = .ok (.goto 4, 3) := by decide +kernel
theorem dX0_holds_14 : decode cX0_holds 14 = .ok (.iconst 0, 1) := by decide +kernel
theorem dX0_holds_15 : decode cX0_holds 15 = .ok (.ireturn, 1) := by decide +kernel
