theorem hde_X0_ownCost : yX0_ownCost.cls = RX0 ∧ yX0_ownCost.cls ≠ "java/lang/invoke/MethodHandle" ∧ yX0_ownCost.cls ≠ "java/lang/invoke/VarHandle" ∧ (parseMethodDescriptor yX0_ownCost.desc).map (fun d => d.parameters.length) = some 1 := by decide +kernel
theorem hde_X1_openCell : yX1_openCell.cls = RX1 ∧ yX1_openCell.cls ≠ "java/lang/invoke/MethodHandle" ∧ yX1_openCell.cls ≠ "java/lang/invoke/VarHandle" ∧ (parseMethodDescriptor yX1_openCell.desc).map (fun d => d.parameters.length) = some 2 := by decide +kernel
theorem eOK_keep {n : Nat} {be cf cb pa pa2 : Nat → Int32} {m : Int} {c : Nat} (hc : c < 36) (hn : n ≤ 36) (h3 : ∀ a t, a < n → t < 6 → ¬ be (6 * a + t) = nI c → (pa (6 * a + t)).toInt ≤ (pa2 (6 * a + t)).toInt) : ∀ l : List Nat, chn n be cf cb l → c ∉ l → eOK pa cb m l → eOK pa2 cb m l
  | [], _, _, _ => trivial
  | [_], _, _, _ => trivial
  | a :: f :: t, hch, hni, he => by
    obtain ⟨⟨h1, h2, s, g1, g2, g3, g4⟩, hch2⟩ := hch
    refine ⟨?_, eOK_keep hc hn h3 (f :: t) hch2 (fun q => hni (List.mem_cons_of_mem _ q)) he.2⟩
    have hac : a ≠ c := fun q => hni (by rw [q]; exact List.mem_cons_self)
    have e1 := he.1
    rw [g3, nI_clamp (by omega)] at e1 ⊢
    exact Int.le_trans e1 (h3 f s h2 g1 (fun q => by rw [g4, nI_eq (by omega) (by omega)] at q; exact hac q))
theorem n6_ne {s : Nat} (hs : s < 6) : ¬ nI s = 6 := fun q => absurd ((nI_eq (b := 6) (by omega) (by decide)).mp q) (by omega)

abbrev w1X1_pushTo (ad : Nat → Nat) (cA : Nat → ClassId) (F_queued : Int32) (F_settled : Int32) (F_settledRise : Int32) (F_lowest : Int64) (F_highest : Int64) (F_cameFrom : Nat → Int32) (F_cameBy : Nat → Int32) (u : (Int64) × (Nat → Int32) × (Nat → Int32) × (Nat → Int32)) : va_W := [((ad 8), .inr (1, [.ref (ad 1), .ref (ad 9), .ref (ad 10), .ref (ad 11), .ref (ad 12), .ref (ad 13), .ref (ad 14), .int F_queued, .int F_settled, .int F_settledRise, .long u.1, .long F_lowest, .long F_highest])), ((ad 9), .inl (cA 0, 36, .inl u.2.1)), ((ad 10), .inl (cA 0, 36, .inl u.2.2.1)), ((ad 11), .inl (cA 0, 216, .inl u.2.2.2)), ((ad 12), .inl (cA 0, 36, .inl F_cameFrom)), ((ad 13), .inl (cA 0, 36, .inl F_cameBy))]
abbrev wcX1_pushTo (ad : Nat → Nat) (cA : Nat → ClassId) (F_queued : Int32) (F_settled : Int32) (F_settledRise : Int32) (F_amount : Int64) (F_lowest : Int64) (F_highest : Int64) (F_springs : Nat → Int32) (F_drains : Nat → Int32) (F_passes : Nat → Int32) (F_cameFrom : Nat → Int32) (F_cameBy : Nat → Int32) : va_W := [((ad 8), .inr (1, [.ref (ad 1), .ref (ad 9), .ref (ad 10), .ref (ad 11), .ref (ad 12), .ref (ad 13), .ref (ad 14), .int F_queued, .int F_settled, .int F_settledRise, .long F_amount, .long F_lowest, .long F_highest])), ((ad 9), .inl (cA 0, 36, .inl F_springs)), ((ad 10), .inl (cA 0, 36, .inl F_drains)), ((ad 11), .inl (cA 0, 216, .inl F_passes)), ((ad 12), .inl (cA 0, 36, .inl F_cameFrom)), ((ad 13), .inl (cA 0, 36, .inl F_cameBy))]
def rmX1_pushTo : Room := { frames := 1, cells := 0, slots := 0, locals := 13 }
abbrev atX1_pushTo_0 (X : gX) (ad : Nat → Nat) (cA : Nat → ClassId) (p1 : Int32) (F_queued : Int32) (F_settled : Int32) (F_settledRise : Int32) (F_amount : Int64) (F_lowest : Int64) (F_highest : Int64) (F_springs : Nat → Int32) (F_drains : Nat → Int32) (F_passes : Nat → Int32) (F_cameFrom : Nat → Int32) (F_cameBy : Nat → Int32) : Prop := gW X 0 0 [((ad 8), .inr (1, [.ref (ad 1), .ref (ad 9), .ref (ad 10), .ref (ad 11), .ref (ad 12), .ref (ad 13), .ref (ad 14), .int F_queued, .int F_settled, .int F_settledRise, .long F_amount, .long F_lowest, .long F_highest])), ((ad 9), .inl (cA 0, 36, .inl F_springs)), ((ad 10), .inl (cA 0, 36, .inl F_drains)), ((ad 11), .inl (cA 0, 216, .inl F_passes)), ((ad 12), .inl (cA 0, 36, .inl F_cameFrom)), ((ad 13), .inl (cA 0, 36, .inl F_cameBy))] 5 [(0, .ref (ad 8)), (1, .int p1)] [] 0
abbrev atX1_pushTo_12 (X : gX) (ad : Nat → Nat) (cA : Nat → ClassId) (x1 : Int32) (x2 : Int32) (x3 : Int32) (x4 : Int32) (F_queued : Int32) (F_settled : Int32) (F_settledRise : Int32) (F_amount : Int64) (F_lowest : Int64) (F_highest : Int64) (F_springs : Nat → Int32) (F_drains : Nat → Int32) (F_passes : Nat → Int32) (F_cameFrom : Nat → Int32) (F_cameBy : Nat → Int32) : Prop := gW X 0 0 [((ad 8), .inr (1, [.ref (ad 1), .ref (ad 9), .ref (ad 10), .ref (ad 11), .ref (ad 12), .ref (ad 13), .ref (ad 14), .int F_queued, .int F_settled, .int F_settledRise, .long F_amount, .long F_lowest, .long F_highest])), ((ad 9), .inl (cA 0, 36, .inl F_springs)), ((ad 10), .inl (cA 0, 36, .inl F_drains)), ((ad 11), .inl (cA 0, 216, .inl F_passes)), ((ad 12), .inl (cA 0, 36, .inl F_cameFrom)), ((ad 13), .inl (cA 0, 36, .inl F_cameBy))] 5 [(0, .ref (ad 8)), (1, .int x1), (2, .int x2), (3, .int x3), (4, .int x4)] [] 12
abbrev atX1_pushTo_116 (X : gX) (ad : Nat → Nat) (cA : Nat → ClassId) (x2 : Int32) (x3 : Int32) (x4 : Int32) (F_queued : Int32) (F_settled : Int32) (F_settledRise : Int32) (F_amount : Int64) (F_lowest : Int64) (F_highest : Int64) (F_springs : Nat → Int32) (F_drains : Nat → Int32) (F_passes : Nat → Int32) (F_cameFrom : Nat → Int32) (F_cameBy : Nat → Int32) : Prop := gW X 0 0 [((ad 8), .inr (1, [.ref (ad 1), .ref (ad 9), .ref (ad 10), .ref (ad 11), .ref (ad 12), .ref (ad 13), .ref (ad 14), .int F_queued, .int F_settled, .int F_settledRise, .long F_amount, .long F_lowest, .long F_highest])), ((ad 9), .inl (cA 0, 36, .inl F_springs)), ((ad 10), .inl (cA 0, 36, .inl F_drains)), ((ad 11), .inl (cA 0, 216, .inl F_passes)), ((ad 12), .inl (cA 0, 36, .inl F_cameFrom)), ((ad 13), .inl (cA 0, 36, .inl F_cameBy))] 5 [(0, .ref (ad 8)), (2, .int x2), (3, .int x3), (4, .int x4)] [] 116
theorem mmX1_pushTo_113a : Cond.methodLink RX1 113 Lib.Math.min.name ∈ wsX1_pushTo := by decide +kernel
theorem mmX1_pushTo_113b : Cond.static Lib.Math.min.name ∈ wsX1_pushTo := by decide +kernel
theorem mmX1_pushTo_113c : Cond.initialized "java/lang/Math" ∈ wsX1_pushTo := by decide +kernel
theorem mmX1_pushTo_113d : Cond.code Lib.Math.min.name Lib.Math.min.code 2 (some .int) ∈ wsX1_pushTo := by decide +kernel
theorem giX1_pushTo_X1 : ∀ w ∈ u_ws RX1 TX1 13, w ∈ wsX1_pushTo := by decide +kernel
theorem gfX1_pushTo_22 : gF wsX1_pushTo RX1 22 1 2 RX1 TX1 13 := ⟨giX1_pushTo_X1, by decide +kernel, rfl, by decide⟩
theorem gfX1_pushTo_18 : gF wsX1_pushTo RX1 18 1 1 RX1 TX1 13 := ⟨giX1_pushTo_X1, by decide +kernel, rfl, by decide⟩
theorem gfX1_pushTo_48 : gF wsX1_pushTo RX1 48 1 10 RX1 TX1 13 := ⟨giX1_pushTo_X1, by decide +kernel, rfl, by decide⟩
theorem gfX1_pushTo_31 : gF wsX1_pushTo RX1 31 1 5 RX1 TX1 13 := ⟨giX1_pushTo_X1, by decide +kernel, rfl, by decide⟩
theorem gfX1_pushTo_25 : gF wsX1_pushTo RX1 25 1 3 RX1 TX1 13 := ⟨giX1_pushTo_X1, by decide +kernel, rfl, by decide⟩
theorem gfX1_pushTo_28 : gF wsX1_pushTo RX1 28 1 4 RX1 TX1 13 := ⟨giX1_pushTo_X1, by decide +kernel, rfl, by decide⟩
set_option maxHeartbeats 4000000 in
set_option maxRecDepth 100000 in
theorem sgX1_pushTo_0 {X : gX} {ad : Nat → Nat} {cA : Nat → ClassId} {post : ((Int64) × (Nat → Int32) × (Nat → Int32) × (Nat → Int32)) → Prop} {p1 : Int32} {F_queued : Int32} {F_settled : Int32} {F_settledRise : Int32} {F_amount : Int64} {F_lowest : Int64} {F_highest : Int64} {F_springs : Nat → Int32} {F_drains : Nat → Int32} {F_passes : Nat → Int32} {F_cameFrom : Nat → Int32} {F_cameBy : Nat → Int32} (C : gC X (gT cA) cX1_pushTo 5 RX1 wsX1_pushTo rmX1_pushTo) (E : gEv X none (gT cA) 0 0 post (w1X1_pushTo ad cA F_queued F_settled F_settledRise F_lowest F_highest F_cameFrom F_cameBy)) (h : vp_in p1 36 ∧ atX1_pushTo_12 X ad cA p1 p1 (F_drains p1.toNatClampNeg) (0 : Int32) F_queued F_settled F_settledRise F_amount F_lowest F_highest F_springs F_drains F_passes F_cameFrom F_cameBy) : atX1_pushTo_0 X ad cA p1 F_queued F_settled F_settledRise F_amount F_lowest F_highest F_springs F_drains F_passes F_cameFrom F_cameBy := by
  refine g_iload_n C dX1_pushTo_0 rfl 1 rfl ?_
  refine g_istore_n (lv2 := [(0, .ref (ad 8)), (1, .int p1), (2, .int p1)]) C dX1_pushTo_1 rfl (by decide) [1, 2, 0] rfl ?_
  refine g_aload_n C dX1_pushTo_2 rfl 0 rfl ?_
  refine g_get C gfX1_pushTo_22 0 rfl rfl dX1_pushTo_3 ?_
  refine g_iload_n C dX1_pushTo_6 rfl 1 rfl ?_
  obtain ⟨hi_1, h⟩ := h
  refine g_iald C 2 0 rfl rfl hi_1 dX1_pushTo_7 ?_
  refine g_istore_n (lv2 := [(0, .ref (ad 8)), (1, .int p1), (2, .int p1), (3, .int (F_drains p1.toNatClampNeg))]) C dX1_pushTo_8 rfl (by decide) [1, 2, 3, 0] rfl ?_
  refine g_iconst C dX1_pushTo_9 ik_0 ?_
  refine g_istore (lv2 := [(0, .ref (ad 8)), (1, .int p1), (2, .int p1), (3, .int (F_drains p1.toNatClampNeg)), (4, .int (0 : Int32))]) C dX1_pushTo_10 (by decide) [1, 2, 3, 4, 0] rfl ?_
  exact g_lv [0, 1, 2, 3, 4] rfl h
set_option maxHeartbeats 4000000 in
set_option maxRecDepth 100000 in
theorem sgX1_pushTo_12 {X : gX} {ad : Nat → Nat} {cA : Nat → ClassId} {post : ((Int64) × (Nat → Int32) × (Nat → Int32) × (Nat → Int32)) → Prop} {x1 : Int32} {x2 : Int32} {x3 : Int32} {x4 : Int32} {F_queued : Int32} {F_settled : Int32} {F_settledRise : Int32} {F_amount : Int64} {F_lowest : Int64} {F_highest : Int64} {F_springs : Nat → Int32} {F_drains : Nat → Int32} {F_passes : Nat → Int32} {F_cameFrom : Nat → Int32} {F_cameBy : Nat → Int32} (C : gC X (gT cA) cX1_pushTo 5 RX1 wsX1_pushTo rmX1_pushTo) (E : gEv X none (gT cA) 0 0 post (w1X1_pushTo ad cA F_queued F_settled F_settledRise F_lowest F_highest F_cameFrom F_cameBy)) (h : ((36 : Int32) ≤ x4 → vp_in x2 36 ∧ ∀ x3_4 : Int32, x3_4 = (if (F_springs x2.toNatClampNeg) < x3 then (F_springs x2.toNatClampNeg) else x3) → vp_in x2 36 ∧ vp_in x2 36 ∧ vp_in x1 36 ∧ vp_in x1 36 ∧ atX1_pushTo_116 X ad cA x1 x3_4 (0 : Int32) F_queued F_settled F_settledRise (F_amount + x3_4.toInt64) F_lowest F_highest (upd F_springs x2.toNatClampNeg ((F_springs x2.toNatClampNeg) - x3_4)) (upd F_drains x1.toNatClampNeg ((F_drains x1.toNatClampNeg) - x3_4)) F_passes F_cameFrom F_cameBy) ∧ (¬ (36 : Int32) ≤ x4 → vp_in x2 36 ∧ ((F_cameBy x2.toNatClampNeg) = (6 : Int32) → vp_in x2 36 ∧ ∀ x3_12 : Int32, x3_12 = (if (F_springs x2.toNatClampNeg) < x3 then (F_springs x2.toNatClampNeg) else x3) → vp_in x2 36 ∧ vp_in x2 36 ∧ vp_in x1 36 ∧ vp_in x1 36 ∧ atX1_pushTo_116 X ad cA x1 x3_12 (0 : Int32) F_queued F_settled F_settledRise (F_amount + x3_12.toInt64) F_lowest F_highest (upd F_springs x2.toNatClampNeg ((F_springs x2.toNatClampNeg) - x3_12)) (upd F_drains x1.toNatClampNeg ((F_drains x1.toNatClampNeg) - x3_12)) F_passes F_cameFrom F_cameBy) ∧ (¬ (F_cameBy x2.toNatClampNeg) = (6 : Int32) → vp_in x2 36 ∧ vp_in x2 36 ∧ vp_in (((F_cameFrom x2.toNatClampNeg) * (6 : Int32)) + (F_cameBy x2.toNatClampNeg)) 216 ∧ ∀ x3_20 : Int32, x3_20 = (if (F_passes (((F_cameFrom x2.toNatClampNeg) * (6 : Int32)) + (F_cameBy x2.toNatClampNeg)).toNatClampNeg) < x3 then (F_passes (((F_cameFrom x2.toNatClampNeg) * (6 : Int32)) + (F_cameBy x2.toNatClampNeg)).toNatClampNeg) else x3) → vp_in x2 36 ∧ ∀ x2_22 : Int32, x2_22 = (F_cameFrom x2.toNatClampNeg) → atX1_pushTo_12 X ad cA x1 x2_22 x3_20 (x4 + 1) F_queued F_settled F_settledRise F_amount F_lowest F_highest F_springs F_drains F_passes F_cameFrom F_cameBy))) : atX1_pushTo_12 X ad cA x1 x2 x3 x4 F_queued F_settled F_settledRise F_amount F_lowest F_highest F_springs F_drains F_passes F_cameFrom F_cameBy := by
  refine g_iload C dX1_pushTo_12 4 rfl ?_
  refine g_bipush C dX1_pushTo_14 bk_36 ?_
  refine g_icmp_ge (tgt := 69) C dX1_pushTo_16 (by decide) (fun c_2 => ?_) (fun c_2 => ?_)
  · replace h := h.1 c_2
    refine g_iload_n C dX1_pushTo_69 rfl 3 rfl ?_
    refine g_aload_n C dX1_pushTo_70 rfl 0 rfl ?_
    refine g_get C gfX1_pushTo_18 0 rfl rfl dX1_pushTo_71 ?_
    refine g_iload_n C dX1_pushTo_74 rfl 2 rfl ?_
    obtain ⟨hi_3, h⟩ := h
    refine g_iald C 1 0 rfl rfl hi_3 dX1_pushTo_75 ?_
    refine g_mmin C mmX1_pushTo_113a mmX1_pushTo_113b mmX1_pushTo_113c mmX1_pushTo_113d (by decide) (Nat.le_of_ble_eq_true rfl) (by decide) (by decide) dX1_pushTo_76 ?_
    refine g_topi (fun x3_4 ex3_4 => ?_)
    replace h := h x3_4 ex3_4
    refine g_istore_n (lv2 := [(0, .ref (ad 8)), (1, .int x1), (2, .int x2), (3, .int x3_4), (4, .int x4)]) C dX1_pushTo_79 rfl (by decide) [1, 2, 3, 0, 4] rfl ?_
    refine g_aload_n C dX1_pushTo_80 rfl 0 rfl ?_
    refine g_get C gfX1_pushTo_18 0 rfl rfl dX1_pushTo_81 ?_
    refine g_iload_n C dX1_pushTo_84 rfl 2 rfl ?_
    refine g_dup2_11 C dX1_pushTo_85 rfl rfl ?_
    obtain ⟨hi_5, h⟩ := h
    refine g_iald C 1 0 rfl rfl hi_5 dX1_pushTo_86 ?_
    refine g_iload_n C dX1_pushTo_87 rfl 3 rfl ?_
    refine g_isub C dX1_pushTo_88 ?_
    obtain ⟨hi_6, h⟩ := h
    refine g_iast (ws2 := [((ad 8), .inr (1, [.ref (ad 1), .ref (ad 9), .ref (ad 10), .ref (ad 11), .ref (ad 12), .ref (ad 13), .ref (ad 14), .int F_queued, .int F_settled, .int F_settledRise, .long F_amount, .long F_lowest, .long F_highest])), ((ad 9), .inl (cA 0, 36, .inl (upd F_springs x2.toNatClampNeg ((F_springs x2.toNatClampNeg) - x3_4)))), ((ad 10), .inl (cA 0, 36, .inl F_drains)), ((ad 11), .inl (cA 0, 216, .inl F_passes)), ((ad 12), .inl (cA 0, 36, .inl F_cameFrom)), ((ad 13), .inl (cA 0, 36, .inl F_cameBy))]) C 1 0 rfl rfl hi_6 rfl dX1_pushTo_89 ?_
    refine g_aload_n C dX1_pushTo_90 rfl 0 rfl ?_
    refine g_get C gfX1_pushTo_22 0 rfl rfl dX1_pushTo_91 ?_
    refine g_iload_n C dX1_pushTo_94 rfl 1 rfl ?_
    refine g_dup2_11 C dX1_pushTo_95 rfl rfl ?_
    obtain ⟨hi_7, h⟩ := h
    refine g_iald C 2 0 rfl rfl hi_7 dX1_pushTo_96 ?_
    refine g_iload_n C dX1_pushTo_97 rfl 3 rfl ?_
    refine g_isub C dX1_pushTo_98 ?_
    obtain ⟨hi_8, h⟩ := h
    refine g_iast (ws2 := [((ad 8), .inr (1, [.ref (ad 1), .ref (ad 9), .ref (ad 10), .ref (ad 11), .ref (ad 12), .ref (ad 13), .ref (ad 14), .int F_queued, .int F_settled, .int F_settledRise, .long F_amount, .long F_lowest, .long F_highest])), ((ad 9), .inl (cA 0, 36, .inl (upd F_springs x2.toNatClampNeg ((F_springs x2.toNatClampNeg) - x3_4)))), ((ad 10), .inl (cA 0, 36, .inl (upd F_drains x1.toNatClampNeg ((F_drains x1.toNatClampNeg) - x3_4)))), ((ad 11), .inl (cA 0, 216, .inl F_passes)), ((ad 12), .inl (cA 0, 36, .inl F_cameFrom)), ((ad 13), .inl (cA 0, 36, .inl F_cameBy))]) C 2 0 rfl rfl hi_8 rfl dX1_pushTo_99 ?_
    refine g_aload_n C dX1_pushTo_100 rfl 0 rfl ?_
    refine g_dup C dX1_pushTo_101 rfl ?_
    refine g_get C gfX1_pushTo_48 0 rfl rfl dX1_pushTo_102 ?_
    refine g_iload_n C dX1_pushTo_105 rfl 3 rfl ?_
    refine g_i2l C dX1_pushTo_106 ?_
    refine g_ladd C dX1_pushTo_107 ?_
    refine g_put (ws2 := [((ad 8), .inr (1, [.ref (ad 1), .ref (ad 9), .ref (ad 10), .ref (ad 11), .ref (ad 12), .ref (ad 13), .ref (ad 14), .int F_queued, .int F_settled, .int F_settledRise, .long (F_amount + x3_4.toInt64), .long F_lowest, .long F_highest])), ((ad 9), .inl (cA 0, 36, .inl (upd F_springs x2.toNatClampNeg ((F_springs x2.toNatClampNeg) - x3_4)))), ((ad 10), .inl (cA 0, 36, .inl (upd F_drains x1.toNatClampNeg ((F_drains x1.toNatClampNeg) - x3_4)))), ((ad 11), .inl (cA 0, 216, .inl F_passes)), ((ad 12), .inl (cA 0, 36, .inl F_cameFrom)), ((ad 13), .inl (cA 0, 36, .inl F_cameBy))]) C gfX1_pushTo_48 0 tyX1_ok nmX1 rfl rfl rfl rfl (Nat.le_of_ble_eq_true rfl) rfl dX1_pushTo_108 ?_
    refine g_iload_n C dX1_pushTo_111 rfl 1 rfl ?_
    refine g_istore_n (lv2 := [(0, .ref (ad 8)), (1, .int x1), (2, .int x1), (3, .int x3_4), (4, .int x4)]) C dX1_pushTo_112 rfl (by decide) [1, 2, 0, 3, 4] rfl ?_
    refine g_iconst C dX1_pushTo_113 ik_0 ?_
    refine g_istore (lv2 := [(0, .ref (ad 8)), (1, .int x1), (2, .int x1), (3, .int x3_4), (4, .int (0 : Int32))]) C dX1_pushTo_114 (by decide) [1, 2, 3, 4, 0] rfl ?_
    exact g_lv [0, 2, 3, 4] rfl h
  · replace h := h.2 c_2
    refine g_aload_n C dX1_pushTo_19 rfl 0 rfl ?_
    refine g_get C gfX1_pushTo_31 0 rfl rfl dX1_pushTo_20 ?_
    refine g_iload_n C dX1_pushTo_23 rfl 2 rfl ?_
    obtain ⟨hi_9, h⟩ := h
    refine g_iald C 5 0 rfl rfl hi_9 dX1_pushTo_24 ?_
    refine g_bipush C dX1_pushTo_25 bk_6 ?_
    refine g_icmp_eq (tgt := 69) C dX1_pushTo_27 (by decide) (fun c_10 => ?_) (fun c_10 => ?_)
    · replace h := h.1 c_10
      refine g_iload_n C dX1_pushTo_69 rfl 3 rfl ?_
      refine g_aload_n C dX1_pushTo_70 rfl 0 rfl ?_
      refine g_get C gfX1_pushTo_18 0 rfl rfl dX1_pushTo_71 ?_
      refine g_iload_n C dX1_pushTo_74 rfl 2 rfl ?_
      obtain ⟨hi_11, h⟩ := h
      refine g_iald C 1 0 rfl rfl hi_11 dX1_pushTo_75 ?_
      refine g_mmin C mmX1_pushTo_113a mmX1_pushTo_113b mmX1_pushTo_113c mmX1_pushTo_113d (by decide) (Nat.le_of_ble_eq_true rfl) (by decide) (by decide) dX1_pushTo_76 ?_
      refine g_topi (fun x3_12 ex3_12 => ?_)
      replace h := h x3_12 ex3_12
      refine g_istore_n (lv2 := [(0, .ref (ad 8)), (1, .int x1), (2, .int x2), (3, .int x3_12), (4, .int x4)]) C dX1_pushTo_79 rfl (by decide) [1, 2, 3, 0, 4] rfl ?_
      refine g_aload_n C dX1_pushTo_80 rfl 0 rfl ?_
      refine g_get C gfX1_pushTo_18 0 rfl rfl dX1_pushTo_81 ?_
      refine g_iload_n C dX1_pushTo_84 rfl 2 rfl ?_
      refine g_dup2_11 C dX1_pushTo_85 rfl rfl ?_
      obtain ⟨hi_13, h⟩ := h
      refine g_iald C 1 0 rfl rfl hi_13 dX1_pushTo_86 ?_
      refine g_iload_n C dX1_pushTo_87 rfl 3 rfl ?_
      refine g_isub C dX1_pushTo_88 ?_
      obtain ⟨hi_14, h⟩ := h
      refine g_iast (ws2 := [((ad 8), .inr (1, [.ref (ad 1), .ref (ad 9), .ref (ad 10), .ref (ad 11), .ref (ad 12), .ref (ad 13), .ref (ad 14), .int F_queued, .int F_settled, .int F_settledRise, .long F_amount, .long F_lowest, .long F_highest])), ((ad 9), .inl (cA 0, 36, .inl (upd F_springs x2.toNatClampNeg ((F_springs x2.toNatClampNeg) - x3_12)))), ((ad 10), .inl (cA 0, 36, .inl F_drains)), ((ad 11), .inl (cA 0, 216, .inl F_passes)), ((ad 12), .inl (cA 0, 36, .inl F_cameFrom)), ((ad 13), .inl (cA 0, 36, .inl F_cameBy))]) C 1 0 rfl rfl hi_14 rfl dX1_pushTo_89 ?_
      refine g_aload_n C dX1_pushTo_90 rfl 0 rfl ?_
      refine g_get C gfX1_pushTo_22 0 rfl rfl dX1_pushTo_91 ?_
      refine g_iload_n C dX1_pushTo_94 rfl 1 rfl ?_
      refine g_dup2_11 C dX1_pushTo_95 rfl rfl ?_
      obtain ⟨hi_15, h⟩ := h
      refine g_iald C 2 0 rfl rfl hi_15 dX1_pushTo_96 ?_
      refine g_iload_n C dX1_pushTo_97 rfl 3 rfl ?_
      refine g_isub C dX1_pushTo_98 ?_
      obtain ⟨hi_16, h⟩ := h
      refine g_iast (ws2 := [((ad 8), .inr (1, [.ref (ad 1), .ref (ad 9), .ref (ad 10), .ref (ad 11), .ref (ad 12), .ref (ad 13), .ref (ad 14), .int F_queued, .int F_settled, .int F_settledRise, .long F_amount, .long F_lowest, .long F_highest])), ((ad 9), .inl (cA 0, 36, .inl (upd F_springs x2.toNatClampNeg ((F_springs x2.toNatClampNeg) - x3_12)))), ((ad 10), .inl (cA 0, 36, .inl (upd F_drains x1.toNatClampNeg ((F_drains x1.toNatClampNeg) - x3_12)))), ((ad 11), .inl (cA 0, 216, .inl F_passes)), ((ad 12), .inl (cA 0, 36, .inl F_cameFrom)), ((ad 13), .inl (cA 0, 36, .inl F_cameBy))]) C 2 0 rfl rfl hi_16 rfl dX1_pushTo_99 ?_
      refine g_aload_n C dX1_pushTo_100 rfl 0 rfl ?_
      refine g_dup C dX1_pushTo_101 rfl ?_
      refine g_get C gfX1_pushTo_48 0 rfl rfl dX1_pushTo_102 ?_
      refine g_iload_n C dX1_pushTo_105 rfl 3 rfl ?_
      refine g_i2l C dX1_pushTo_106 ?_
      refine g_ladd C dX1_pushTo_107 ?_
      refine g_put (ws2 := [((ad 8), .inr (1, [.ref (ad 1), .ref (ad 9), .ref (ad 10), .ref (ad 11), .ref (ad 12), .ref (ad 13), .ref (ad 14), .int F_queued, .int F_settled, .int F_settledRise, .long (F_amount + x3_12.toInt64), .long F_lowest, .long F_highest])), ((ad 9), .inl (cA 0, 36, .inl (upd F_springs x2.toNatClampNeg ((F_springs x2.toNatClampNeg) - x3_12)))), ((ad 10), .inl (cA 0, 36, .inl (upd F_drains x1.toNatClampNeg ((F_drains x1.toNatClampNeg) - x3_12)))), ((ad 11), .inl (cA 0, 216, .inl F_passes)), ((ad 12), .inl (cA 0, 36, .inl F_cameFrom)), ((ad 13), .inl (cA 0, 36, .inl F_cameBy))]) C gfX1_pushTo_48 0 tyX1_ok nmX1 rfl rfl rfl rfl (Nat.le_of_ble_eq_true rfl) rfl dX1_pushTo_108 ?_
      refine g_iload_n C dX1_pushTo_111 rfl 1 rfl ?_
      refine g_istore_n (lv2 := [(0, .ref (ad 8)), (1, .int x1), (2, .int x1), (3, .int x3_12), (4, .int x4)]) C dX1_pushTo_112 rfl (by decide) [1, 2, 0, 3, 4] rfl ?_
      refine g_iconst C dX1_pushTo_113 ik_0 ?_
      refine g_istore (lv2 := [(0, .ref (ad 8)), (1, .int x1), (2, .int x1), (3, .int x3_12), (4, .int (0 : Int32))]) C dX1_pushTo_114 (by decide) [1, 2, 3, 4, 0] rfl ?_
      exact g_lv [0, 2, 3, 4] rfl h
    · replace h := h.2 c_10
      refine g_iload_n C dX1_pushTo_30 rfl 3 rfl ?_
      refine g_aload_n C dX1_pushTo_31 rfl 0 rfl ?_
      refine g_get C gfX1_pushTo_25 0 rfl rfl dX1_pushTo_32 ?_
      refine g_aload_n C dX1_pushTo_35 rfl 0 rfl ?_
      refine g_get C gfX1_pushTo_28 0 rfl rfl dX1_pushTo_36 ?_
      refine g_iload_n C dX1_pushTo_39 rfl 2 rfl ?_
      obtain ⟨hi_17, h⟩ := h
      refine g_iald C 4 0 rfl rfl hi_17 dX1_pushTo_40 ?_
      refine g_bipush C dX1_pushTo_41 bk_6 ?_
      refine g_imul C dX1_pushTo_43 ?_
      refine g_aload_n C dX1_pushTo_44 rfl 0 rfl ?_
      refine g_get C gfX1_pushTo_31 0 rfl rfl dX1_pushTo_45 ?_
      refine g_iload_n C dX1_pushTo_48 rfl 2 rfl ?_
      obtain ⟨hi_18, h⟩ := h
      refine g_iald C 5 0 rfl rfl hi_18 dX1_pushTo_49 ?_
      refine g_iadd C dX1_pushTo_50 ?_
      obtain ⟨hi_19, h⟩ := h
      refine g_iald C 3 0 rfl rfl hi_19 dX1_pushTo_51 ?_
      refine g_mmin C mmX1_pushTo_113a mmX1_pushTo_113b mmX1_pushTo_113c mmX1_pushTo_113d (by decide) (Nat.le_of_ble_eq_true rfl) (by decide) (by decide) dX1_pushTo_52 ?_
      refine g_topi (fun x3_20 ex3_20 => ?_)
      replace h := h x3_20 ex3_20
      refine g_istore_n (lv2 := [(0, .ref (ad 8)), (1, .int x1), (2, .int x2), (3, .int x3_20), (4, .int x4)]) C dX1_pushTo_55 rfl (by decide) [1, 2, 3, 0, 4] rfl ?_
      refine g_aload_n C dX1_pushTo_56 rfl 0 rfl ?_
      refine g_get C gfX1_pushTo_28 0 rfl rfl dX1_pushTo_57 ?_
      refine g_iload_n C dX1_pushTo_60 rfl 2 rfl ?_
      obtain ⟨hi_21, h⟩ := h
      refine g_iald C 4 0 rfl rfl hi_21 dX1_pushTo_61 ?_
      refine g_topi (fun x2_22 ex2_22 => ?_)
      replace h := h x2_22 ex2_22
      refine g_istore_n (lv2 := [(0, .ref (ad 8)), (1, .int x1), (2, .int x2_22), (3, .int x3_20), (4, .int x4)]) C dX1_pushTo_62 rfl (by decide) [1, 2, 0, 3, 4] rfl ?_
      refine g_iinc (v := (x4 + 1)) (lv2 := [(0, .ref (ad 8)), (1, .int x1), (2, .int x2_22), (3, .int x3_20), (4, .int (x4 + 1))]) C dX1_pushTo_63 4 rfl (by first | rfl | decide) (by decide) [1, 2, 3, 4, 0] rfl ?_
      refine g_goto (tgt := 12) C dX1_pushTo_66 (by decide) ?_
      exact g_lv [0, 1, 2, 3, 4] rfl h
set_option maxHeartbeats 4000000 in
set_option maxRecDepth 100000 in
theorem sgX1_pushTo_116 {X : gX} {ad : Nat → Nat} {cA : Nat → ClassId} {post : ((Int64) × (Nat → Int32) × (Nat → Int32) × (Nat → Int32)) → Prop} {x2 : Int32} {x3 : Int32} {x4 : Int32} {F_queued : Int32} {F_settled : Int32} {F_settledRise : Int32} {F_amount : Int64} {F_lowest : Int64} {F_highest : Int64} {F_springs : Nat → Int32} {F_drains : Nat → Int32} {F_passes : Nat → Int32} {F_cameFrom : Nat → Int32} {F_cameBy : Nat → Int32} (C : gC X (gT cA) cX1_pushTo 5 RX1 wsX1_pushTo rmX1_pushTo) (E : gEv X none (gT cA) 0 0 post (w1X1_pushTo ad cA F_queued F_settled F_settledRise F_lowest F_highest F_cameFrom F_cameBy)) (h : ((36 : Int32) ≤ x4 → post (F_amount, F_springs, F_drains, F_passes)) ∧ (¬ (36 : Int32) ≤ x4 → vp_in x2 36 ∧ ((F_cameBy x2.toNatClampNeg) = (6 : Int32) → post (F_amount, F_springs, F_drains, F_passes)) ∧ (¬ (F_cameBy x2.toNatClampNeg) = (6 : Int32) → vp_in x2 36 ∧ vp_in x2 36 ∧ vp_in (((F_cameFrom x2.toNatClampNeg) * (6 : Int32)) + (F_cameBy x2.toNatClampNeg)) 216 ∧ vp_in (((F_cameFrom x2.toNatClampNeg) * (6 : Int32)) + (F_cameBy x2.toNatClampNeg)) 216 ∧ vp_in x2 36 ∧ vp_in ((x2 * (6 : Int32)) + ((F_cameBy x2.toNatClampNeg) ^^^ (1 : Int32))) 216 ∧ vp_in ((x2 * (6 : Int32)) + ((F_cameBy x2.toNatClampNeg) ^^^ (1 : Int32))) 216 ∧ vp_in x2 36 ∧ ∀ x2_34 : Int32, x2_34 = (F_cameFrom x2.toNatClampNeg) → atX1_pushTo_116 X ad cA x2_34 x3 (x4 + 1) F_queued F_settled F_settledRise F_amount F_lowest F_highest F_springs F_drains (upd (upd F_passes (((F_cameFrom x2.toNatClampNeg) * (6 : Int32)) + (F_cameBy x2.toNatClampNeg)).toNatClampNeg ((F_passes (((F_cameFrom x2.toNatClampNeg) * (6 : Int32)) + (F_cameBy x2.toNatClampNeg)).toNatClampNeg) - x3)) ((x2 * (6 : Int32)) + ((F_cameBy x2.toNatClampNeg) ^^^ (1 : Int32))).toNatClampNeg (((upd F_passes (((F_cameFrom x2.toNatClampNeg) * (6 : Int32)) + (F_cameBy x2.toNatClampNeg)).toNatClampNeg ((F_passes (((F_cameFrom x2.toNatClampNeg) * (6 : Int32)) + (F_cameBy x2.toNatClampNeg)).toNatClampNeg) - x3)) ((x2 * (6 : Int32)) + ((F_cameBy x2.toNatClampNeg) ^^^ (1 : Int32))).toNatClampNeg) + x3)) F_cameFrom F_cameBy))) : atX1_pushTo_116 X ad cA x2 x3 x4 F_queued F_settled F_settledRise F_amount F_lowest F_highest F_springs F_drains F_passes F_cameFrom F_cameBy := by
  refine g_iload C dX1_pushTo_116 3 rfl ?_
  refine g_bipush C dX1_pushTo_118 bk_36 ?_
  refine g_icmp_ge (tgt := 194) C dX1_pushTo_120 (by decide) (fun c_23 => ?_) (fun c_23 => ?_)
  · replace h := h.1 c_23
    exact g_vret C E (F_amount, F_springs, F_drains, F_passes) h rfl dX1_pushTo_194
  · replace h := h.2 c_23
    refine g_aload_n C dX1_pushTo_123 rfl 0 rfl ?_
    refine g_get C gfX1_pushTo_31 0 rfl rfl dX1_pushTo_124 ?_
    refine g_iload_n C dX1_pushTo_127 rfl 1 rfl ?_
    obtain ⟨hi_24, h⟩ := h
    refine g_iald C 5 0 rfl rfl hi_24 dX1_pushTo_128 ?_
    refine g_bipush C dX1_pushTo_129 bk_6 ?_
    refine g_icmp_eq (tgt := 194) C dX1_pushTo_131 (by decide) (fun c_25 => ?_) (fun c_25 => ?_)
    · replace h := h.1 c_25
      exact g_vret C E (F_amount, F_springs, F_drains, F_passes) h rfl dX1_pushTo_194
    · replace h := h.2 c_25
      refine g_aload_n C dX1_pushTo_134 rfl 0 rfl ?_
      refine g_get C gfX1_pushTo_25 0 rfl rfl dX1_pushTo_135 ?_
      refine g_aload_n C dX1_pushTo_138 rfl 0 rfl ?_
      refine g_get C gfX1_pushTo_28 0 rfl rfl dX1_pushTo_139 ?_
      refine g_iload_n C dX1_pushTo_142 rfl 1 rfl ?_
      obtain ⟨hi_26, h⟩ := h
      refine g_iald C 4 0 rfl rfl hi_26 dX1_pushTo_143 ?_
      refine g_bipush C dX1_pushTo_144 bk_6 ?_
      refine g_imul C dX1_pushTo_146 ?_
      refine g_aload_n C dX1_pushTo_147 rfl 0 rfl ?_
      refine g_get C gfX1_pushTo_31 0 rfl rfl dX1_pushTo_148 ?_
      refine g_iload_n C dX1_pushTo_151 rfl 1 rfl ?_
      obtain ⟨hi_27, h⟩ := h
      refine g_iald C 5 0 rfl rfl hi_27 dX1_pushTo_152 ?_
      refine g_iadd C dX1_pushTo_153 ?_
      refine g_dup2_11 C dX1_pushTo_154 rfl rfl ?_
      obtain ⟨hi_28, h⟩ := h
      refine g_iald C 3 0 rfl rfl hi_28 dX1_pushTo_155 ?_
      refine g_iload_n C dX1_pushTo_156 rfl 2 rfl ?_
      refine g_isub C dX1_pushTo_157 ?_
      obtain ⟨hi_29, h⟩ := h
      refine g_iast (ws2 := [((ad 8), .inr (1, [.ref (ad 1), .ref (ad 9), .ref (ad 10), .ref (ad 11), .ref (ad 12), .ref (ad 13), .ref (ad 14), .int F_queued, .int F_settled, .int F_settledRise, .long F_amount, .long F_lowest, .long F_highest])), ((ad 9), .inl (cA 0, 36, .inl F_springs)), ((ad 10), .inl (cA 0, 36, .inl F_drains)), ((ad 11), .inl (cA 0, 216, .inl (upd F_passes (((F_cameFrom x2.toNatClampNeg) * (6 : Int32)) + (F_cameBy x2.toNatClampNeg)).toNatClampNeg ((F_passes (((F_cameFrom x2.toNatClampNeg) * (6 : Int32)) + (F_cameBy x2.toNatClampNeg)).toNatClampNeg) - x3)))), ((ad 12), .inl (cA 0, 36, .inl F_cameFrom)), ((ad 13), .inl (cA 0, 36, .inl F_cameBy))]) C 3 0 rfl rfl hi_29 rfl dX1_pushTo_158 ?_
      refine g_aload_n C dX1_pushTo_159 rfl 0 rfl ?_
      refine g_get C gfX1_pushTo_25 0 rfl rfl dX1_pushTo_160 ?_
      refine g_iload_n C dX1_pushTo_163 rfl 1 rfl ?_
      refine g_bipush C dX1_pushTo_164 bk_6 ?_
      refine g_imul C dX1_pushTo_166 ?_
      refine g_aload_n C dX1_pushTo_167 rfl 0 rfl ?_
      refine g_get C gfX1_pushTo_31 0 rfl rfl dX1_pushTo_168 ?_
      refine g_iload_n C dX1_pushTo_171 rfl 1 rfl ?_
      obtain ⟨hi_30, h⟩ := h
      refine g_iald C 5 0 rfl rfl hi_30 dX1_pushTo_172 ?_
      refine g_iconst C dX1_pushTo_173 ik_1 ?_
      refine g_ixor C dX1_pushTo_174 ?_
      refine g_iadd C dX1_pushTo_175 ?_
      refine g_dup2_11 C dX1_pushTo_176 rfl rfl ?_
      obtain ⟨hi_31, h⟩ := h
      refine g_iald C 3 0 rfl rfl hi_31 dX1_pushTo_177 ?_
      refine g_iload_n C dX1_pushTo_178 rfl 2 rfl ?_
      refine g_iadd C dX1_pushTo_179 ?_
      obtain ⟨hi_32, h⟩ := h
      refine g_iast (ws2 := [((ad 8), .inr (1, [.ref (ad 1), .ref (ad 9), .ref (ad 10), .ref (ad 11), .ref (ad 12), .ref (ad 13), .ref (ad 14), .int F_queued, .int F_settled, .int F_settledRise, .long F_amount, .long F_lowest, .long F_highest])), ((ad 9), .inl (cA 0, 36, .inl F_springs)), ((ad 10), .inl (cA 0, 36, .inl F_drains)), ((ad 11), .inl (cA 0, 216, .inl (upd (upd F_passes (((F_cameFrom x2.toNatClampNeg) * (6 : Int32)) + (F_cameBy x2.toNatClampNeg)).toNatClampNeg ((F_passes (((F_cameFrom x2.toNatClampNeg) * (6 : Int32)) + (F_cameBy x2.toNatClampNeg)).toNatClampNeg) - x3)) ((x2 * (6 : Int32)) + ((F_cameBy x2.toNatClampNeg) ^^^ (1 : Int32))).toNatClampNeg (((upd F_passes (((F_cameFrom x2.toNatClampNeg) * (6 : Int32)) + (F_cameBy x2.toNatClampNeg)).toNatClampNeg ((F_passes (((F_cameFrom x2.toNatClampNeg) * (6 : Int32)) + (F_cameBy x2.toNatClampNeg)).toNatClampNeg) - x3)) ((x2 * (6 : Int32)) + ((F_cameBy x2.toNatClampNeg) ^^^ (1 : Int32))).toNatClampNeg) + x3)))), ((ad 12), .inl (cA 0, 36, .inl F_cameFrom)), ((ad 13), .inl (cA 0, 36, .inl F_cameBy))]) C 3 0 rfl rfl hi_32 rfl dX1_pushTo_180 ?_
      refine g_aload_n C dX1_pushTo_181 rfl 0 rfl ?_
      refine g_get C gfX1_pushTo_28 0 rfl rfl dX1_pushTo_182 ?_
      refine g_iload_n C dX1_pushTo_185 rfl 1 rfl ?_
      obtain ⟨hi_33, h⟩ := h
      refine g_iald C 4 0 rfl rfl hi_33 dX1_pushTo_186 ?_
      refine g_topi (fun x2_34 ex2_34 => ?_)
      replace h := h x2_34 ex2_34
      refine g_istore_n (lv2 := [(0, .ref (ad 8)), (2, .int x2_34), (3, .int x3), (4, .int x4)]) C dX1_pushTo_187 rfl (by decide) [1, 0, 2, 3] rfl ?_
      refine g_iinc (v := (x4 + 1)) (lv2 := [(0, .ref (ad 8)), (2, .int x2_34), (3, .int x3), (4, .int (x4 + 1))]) C dX1_pushTo_188 3 rfl (by first | rfl | decide) (by decide) [1, 2, 3, 0] rfl ?_
      refine g_goto (tgt := 116) C dX1_pushTo_191 (by decide) ?_
      exact g_lv [0, 1, 2, 3] rfl h
def prX1_pushTo (n : Nat) (be : Nat → Int32) (pl : Nat → Int32) (e : Nat) (p1 : Int32) (F_queued : Int32) (F_settled : Int32) (F_settledRise : Int32) (F_amount : Int64) (F_lowest : Int64) (F_highest : Int64) (F_springs : Nat → Int32) (F_drains : Nat → Int32) (F_passes : Nat → Int32) (F_cameFrom : Nat → Int32) (F_cameBy : Nat → Int32) : Prop := grOK n be pl ∧ paOK n be F_passes ∧ vlOK n F_springs ∧ vlOK n F_drains ∧ frOK n be F_springs F_passes F_cameFrom F_cameBy ∧ e < n ∧ p1 = nI e ∧ posS F_drains e ∧ vis F_cameBy e = true
def po_X1_pushTo (ad : Nat → Nat) (cA : Nat → ClassId) (n : Nat) (be : Nat → Int32) (pl : Nat → Int32) (e : Nat) (p1 : Int32) (F_queued : Int32) (F_settled : Int32) (F_settledRise : Int32) (F_amount : Int64) (F_lowest : Int64) (F_highest : Int64) (F_springs : Nat → Int32) (F_drains : Nat → Int32) (F_passes : Nat → Int32) (F_cameFrom : Nat → Int32) (F_cameBy : Nat → Int32) (u : (Int64) × (Nat → Int32) × (Nat → Int32) × (Nat → Int32)) : Prop := ∃ m : Int, 1 ≤ m ∧ m ≤ 1000000 ∧ u.1 = F_amount + lI m ∧ paOK n be u.2.2.2 ∧ (∀ (am : Int) (S : Nat → Bool), Rf n be (am + m) u.2.1 u.2.2.1 u.2.2.2 S = Rf n be am F_springs F_drains F_passes S) ∧ ∀ c, c < n → (0 ≤ (u.2.1 c).toInt ∧ (F_springs c).toInt - m ≤ (u.2.1 c).toInt ∧ (u.2.1 c).toInt ≤ (F_springs c).toInt) ∧ (0 ≤ (u.2.2.1 c).toInt ∧ (F_drains c).toInt - m ≤ (u.2.2.1 c).toInt ∧ (u.2.2.1 c).toInt ≤ (F_drains c).toInt)
set_option maxHeartbeats 4000000 in
set_option maxRecDepth 100000 in
theorem c_X1_pushTo (ad : Nat → Nat) (cA : Nat → ClassId) (n : Nat) (be : Nat → Int32) (pl : Nat → Int32) (e : Nat) (p1 : Int32) (F_queued : Int32) (F_settled : Int32) (F_settledRise : Int32) (F_amount : Int64) (F_lowest : Int64) (F_highest : Int64) (F_springs : Nat → Int32) (F_drains : Nat → Int32) (F_passes : Nat → Int32) (F_cameFrom : Nat → Int32) (F_cameBy : Nat → Int32) (hq : prX1_pushTo n be pl e p1 F_queued F_settled F_settledRise F_amount F_lowest F_highest F_springs F_drains F_passes F_cameFrom F_cameBy) : ∀ (l : Launch) (D : va_G), gMv (S := (Int64) × (Nat → Int32) × (Nat → Int32) × (Nat → Int32)) l yX1_pushTo wsX1_pushTo rmX1_pushTo D (gT cA) 0 0 [.ref (ad 8), .int p1] (wcX1_pushTo ad cA F_queued F_settled F_settledRise F_amount F_lowest F_highest F_springs F_drains F_passes F_cameFrom F_cameBy) (po_X1_pushTo ad cA n be pl e p1 F_queued F_settled F_settledRise F_amount F_lowest F_highest F_springs F_drains F_passes F_cameFrom F_cameBy) (w1X1_pushTo ad cA F_queued F_settled F_settledRise F_lowest F_highest F_cameFrom F_cameBy) := by
  intro l D
  unfold prX1_pushTo at hq
  refine g_enterv (cc := cX1_pushTo) (nL := 5) (ret := none) (by decide) rfl (Nat.le_of_ble_eq_true rfl) rfl (fun X C E => ?_)
  obtain ⟨hg, hpa, hvs, hvd, ⟨rk, f1, f2⟩, he, rfl, hde, hve⟩ := hq
  have hn := hg.2.1
  obtain ⟨t0, a1, a2, a3, a4, a5, a6, a7⟩ := chn_ex rk (fun c hc hv => (f2 c hc hv).2) (rk e + 1) e (by omega) he hve
  have a5' : (e :: t0).length ≤ 36 := by have := (f2 e he hve).1; omega
  refine sgX1_pushTo_0 C E ⟨vp_in_nI (by omega) (by decide), ?_⟩
  rw [nI_clamp (n := e) (by omega)]
  have loop1 : ∀ (t : List Nat) (c : Nat) (m : Int32) (j : Nat), chn n be F_cameFrom F_cameBy (c :: t) → j + (c :: t).length ≤ 36 → atX1_pushTo_116 X ad cA (nI e) (mnL F_springs F_passes F_cameBy (c :: t) m) 0 F_queued F_settled F_settledRise (F_amount + (mnL F_springs F_passes F_cameBy (c :: t) m).toInt64) F_lowest F_highest (upd F_springs (rot (c :: t)) (F_springs (rot (c :: t)) - mnL F_springs F_passes F_cameBy (c :: t) m)) (upd F_drains e (F_drains e - mnL F_springs F_passes F_cameBy (c :: t) m)) F_passes F_cameFrom F_cameBy → atX1_pushTo_12 X ad cA (nI e) (nI c) m (nI j) F_queued F_settled F_settledRise F_amount F_lowest F_highest F_springs F_drains F_passes F_cameFrom F_cameBy := by
    intro t
    induction t with
    | nil =>
      intro c m j hch hj hK
      obtain ⟨hc, hc6⟩ := hch
      simp only [List.length_cons, List.length_nil] at hj
      have hin : vp_in (nI c) 36 := vp_in_nI (by omega) (by decide)
      have hie : vp_in (nI e) 36 := vp_in_nI (by omega) (by decide)
      refine sgX1_pushTo_12 C E ⟨fun q => absurd q (nI_ge (b := 36) (by omega) (by decide)), fun _ => ?_⟩
      rw [nI_clamp (n := c) (by omega), nI_clamp (n := e) (by omega)]
      exact ⟨hin, fun _ => ⟨hin, fun v ev => ⟨hin, hin, hie, hie, by rw [ev]; exact hK⟩⟩, fun q => absurd hc6 q⟩
    | cons f t ih =>
      intro c m j hch hj hK
      obtain ⟨⟨hc, hf, s, g1, g2, g3, g4⟩, hch2⟩ := hch
      simp only [List.length_cons] at hj
      have hin : vp_in (nI c) 36 := vp_in_nI (by omega) (by decide)
      refine sgX1_pushTo_12 C E ⟨fun q => absurd q (nI_ge (b := 36) (by omega) (by decide)), fun _ => ?_⟩
      rw [nI_clamp (n := c) (by omega), g2, g3, nI6, nI_clamp (n := 6 * f + s) (by omega), nI_1 j]
      refine ⟨hin, fun q => absurd q (n6_ne g1), fun _ => ⟨hin, hin, vp_in_nI (by omega) (by decide), fun v ev => ⟨hin, fun x2 ex2 => ?_⟩⟩⟩
      rw [ex2]
      refine ih f v (j + 1) hch2 (by simp only [List.length_cons]; omega) ?_
      have e1 : mnL F_springs F_passes F_cameBy (c :: f :: t) m = mnL F_springs F_passes F_cameBy (f :: t) v := by
        rw [mnL, g3, nI_clamp (by omega), ev]
      rw [e1] at hK
      exact hK
  refine loop1 t0 e (F_drains e) 0 a1 (by omega) ?_
  obtain ⟨m1, m2⟩ := mnL_e F_springs F_passes F_cameBy (e :: t0) (F_drains e) (by simp)
  have m3 := mnL_le F_springs F_passes F_cameBy (e :: t0) (F_drains e)
  have m4 := mnL_pos F_springs F_passes F_cameBy (e :: t0) (F_drains e) hde a2 a3
  generalize mnL F_springs F_passes F_cameBy (e :: t0) (F_drains e) = mu at *
  generalize hrt : rot (e :: t0) = rt at *
  have vd := hvd e he
  have vs := hvs rt a4
  have s1 : (F_springs rt - mu).toInt = (F_springs rt).toInt - mu.toInt := toInt_sub (by omega) (by omega)
  have s2 : (F_drains e - mu).toInt = (F_drains e).toInt - mu.toInt := toInt_sub (by omega) (by omega)
  have fin : ∀ pa, paOK n be pa → (∀ (am : Int) (S : Nat → Bool), Rf n be (am + mu.toInt) (upd F_springs rt (F_springs rt - mu)) (upd F_drains e (F_drains e - mu)) pa S = Rf n be am F_springs F_drains F_passes S) → po_X1_pushTo ad cA n be pl e (nI e) F_queued F_settled F_settledRise F_amount F_lowest F_highest F_springs F_drains F_passes F_cameFrom F_cameBy (F_amount + mu.toInt64, upd F_springs rt (F_springs rt - mu), upd F_drains e (F_drains e - mu), pa) := by
    intro pa h1 h2
    refine ⟨mu.toInt, by omega, by omega, by rw [i2l_lI], h1, h2, fun c hc => ⟨?_, ?_⟩⟩
    · have v := hvs c hc
      show 0 ≤ (upd F_springs rt (F_springs rt - mu) c).toInt ∧ _ ≤ (upd F_springs rt (F_springs rt - mu) c).toInt ∧ (upd F_springs rt (F_springs rt - mu) c).toInt ≤ _
      by_cases q : c = rt
      · rw [q, upd_s, s1]; omega
      · rw [upd_n _ _ q]; omega
    · have v := hvd c hc
      show 0 ≤ (upd F_drains e (F_drains e - mu) c).toInt ∧ _ ≤ (upd F_drains e (F_drains e - mu) c).toInt ∧ (upd F_drains e (F_drains e - mu) c).toInt ≤ _
      by_cases q : c = e
      · rw [q, upd_s, s2]; omega
      · rw [upd_n _ _ q]; omega
  have loop2 : ∀ (t : List Nat) (c : Nat) (pa : Nat → Int32) (j : Nat), chn n be F_cameFrom F_cameBy (c :: t) → (c :: t).Nodup → rot (c :: t) = rt → j + (c :: t).length ≤ 36 → paOK n be pa → eOK pa F_cameBy mu.toInt (c :: t) → (∀ (am : Int) (S : Nat → Bool), Rf n be (am + mu.toInt) (upd F_springs rt (F_springs rt - mu)) (upd F_drains e (F_drains e - mu)) pa S = Rf n be am F_springs F_drains F_passes S + mu.toInt * (ind S rt - ind S c)) → atX1_pushTo_116 X ad cA (nI c) mu (nI j) F_queued F_settled F_settledRise (F_amount + mu.toInt64) F_lowest F_highest (upd F_springs rt (F_springs rt - mu)) (upd F_drains e (F_drains e - mu)) pa F_cameFrom F_cameBy := by
    intro t
    induction t with
    | nil =>
      intro c pa j hch hnd hro hj hp heo hR
      obtain ⟨hc, hc6⟩ := hch
      simp only [List.length_cons, List.length_nil] at hj
      have hcr : c = rt := hro
      refine sgX1_pushTo_116 C E ⟨fun q => absurd q (nI_ge (b := 36) (by omega) (by decide)), fun _ => ?_⟩
      rw [nI_clamp (n := c) (by omega)]
      refine ⟨vp_in_nI (by omega) (by decide), fun _ => fin pa hp (fun am S => ?_), fun q => absurd hc6 q⟩
      rw [hR am S, hcr, Int.sub_self, Int.mul_zero, Int.add_zero]
    | cons f t ih =>
      intro c pa j hch hnd hro hj hp heo hR
      obtain ⟨⟨hc, hf, s, g1, g2, g3, g4⟩, hch2⟩ := hch
      simp only [List.length_cons] at hj
      have hin : vp_in (nI c) 36 := vp_in_nI (by omega) (by decide)
      have hrs := rv_lt g1
      have hi1 : vp_in (nI (6 * f + s)) 216 := vp_in_nI (by omega) (by decide)
      have hi2 : vp_in (nI (6 * c + rv s)) 216 := vp_in_nI (by omega) (by decide)
      have heo1 := heo.1
      rw [g3, nI_clamp (by omega)] at heo1
      obtain ⟨p1, p2, p3⟩ := push_edge hg hp hf g1 hc g4 (m := mu) (by omega) heo1 rfl
      have hni := (List.nodup_cons.mp hnd)
      refine sgX1_pushTo_116 C E ⟨fun q => absurd q (nI_ge (b := 36) (by omega) (by decide)), fun _ => ?_⟩
      rw [nI_clamp (n := c) (by omega), g2, g3, nI6, rv_xor g1, nI6, nI_clamp (n := 6 * f + s) (by omega), nI_clamp (n := 6 * c + rv s) (by omega), nI_1 j]
      refine ⟨hin, fun q => absurd q (n6_ne g1), fun _ => ⟨hin, hin, hi1, hi1, hin, hi2, hi2, hin, fun x2 ex2 => ?_⟩⟩
      rw [ex2]
      refine ih f _ (j + 1) hch2 hni.2 hro (by simp only [List.length_cons]; omega) p1 (eOK_keep (by omega) hn p3 (f :: t) hch2 hni.1 heo.2) (fun am S => ?_)
      rw [p2, hR am S, Int.add_assoc, ← Int.mul_add]
      congr 2
      omega
  refine loop2 t0 e F_passes 0 a1 a6 hrt (by omega) hpa m1 (fun am S => ?_)
  rw [Rf_am, Rf_dr be am _ _ _ S he, Rf_sp be am _ _ _ S a4, s1, s2]
  rw [show (F_springs rt).toInt - mu.toInt - (F_springs rt).toInt = -mu.toInt by omega, show (F_drains e).toInt - mu.toInt - (F_drains e).toInt = -mu.toInt by omega]
  unfold ind
  by_cases q1 : S rt = true <;> by_cases q2 : S e = true <;> simp [q1, q2] <;> omega


/-- springs, drains and what is counted at once, by how a cell is held and what it costs -/
def opS (h : Int32) (o : Int) : Int := if h = 2 then 0 else if h = 1 then 1000000 else if 0 ≤ o then 0 else -o
def opD (h : Int32) (o : Int) : Int := if h = 2 then 1000000 else if h = 1 then 0 else if 0 ≤ o then o else 0
def opA (h : Int32) (o : Int) : Int := if h = 2 then 0 else if h = 1 then o else if 0 ≤ o then 0 else o

abbrev w1X1_openCell (ad : Nat → Nat) (cA : Nat → ClassId) (C_size : Int32) (C_held : Nat → Int32) (F_queued : Int32) (F_settled : Int32) (F_settledRise : Int32) (F_lowest : Int64) (F_highest : Int64) (u : (Int64) × (Nat → Int32) × (Nat → Int32)) : va_W := [((ad 1), .inr (0, [.ref (ad 2), .ref (ad 3), .ref (ad 4), .ref (ad 5), .ref (ad 6), .ref (ad 7), .int C_size])), ((ad 3), .inl (cA 0, 36, .inl C_held)), ((ad 8), .inr (1, [.ref (ad 1), .ref (ad 9), .ref (ad 10), .ref (ad 11), .ref (ad 12), .ref (ad 13), .ref (ad 14), .int F_queued, .int F_settled, .int F_settledRise, .long u.1, .long F_lowest, .long F_highest])), ((ad 9), .inl (cA 0, 36, .inl u.2.1)), ((ad 10), .inl (cA 0, 36, .inl u.2.2))]
abbrev wcX1_openCell (ad : Nat → Nat) (cA : Nat → ClassId) (C_size : Int32) (C_held : Nat → Int32) (F_queued : Int32) (F_settled : Int32) (F_settledRise : Int32) (F_amount : Int64) (F_lowest : Int64) (F_highest : Int64) (F_springs : Nat → Int32) (F_drains : Nat → Int32) : va_W := [((ad 1), .inr (0, [.ref (ad 2), .ref (ad 3), .ref (ad 4), .ref (ad 5), .ref (ad 6), .ref (ad 7), .int C_size])), ((ad 3), .inl (cA 0, 36, .inl C_held)), ((ad 8), .inr (1, [.ref (ad 1), .ref (ad 9), .ref (ad 10), .ref (ad 11), .ref (ad 12), .ref (ad 13), .ref (ad 14), .int F_queued, .int F_settled, .int F_settledRise, .long F_amount, .long F_lowest, .long F_highest])), ((ad 9), .inl (cA 0, 36, .inl F_springs)), ((ad 10), .inl (cA 0, 36, .inl F_drains))]
def rmX1_openCell : Room := { frames := 0, cells := 0, slots := 0, locals := 0 }
abbrev atX1_openCell_0 (X : gX) (ad : Nat → Nat) (cA : Nat → ClassId) (p1 : Int32) (p2 : Int32) (C_size : Int32) (C_held : Nat → Int32) (F_queued : Int32) (F_settled : Int32) (F_settledRise : Int32) (F_amount : Int64) (F_lowest : Int64) (F_highest : Int64) (F_springs : Nat → Int32) (F_drains : Nat → Int32) : Prop := gW X 0 0 [((ad 1), .inr (0, [.ref (ad 2), .ref (ad 3), .ref (ad 4), .ref (ad 5), .ref (ad 6), .ref (ad 7), .int C_size])), ((ad 3), .inl (cA 0, 36, .inl C_held)), ((ad 8), .inr (1, [.ref (ad 1), .ref (ad 9), .ref (ad 10), .ref (ad 11), .ref (ad 12), .ref (ad 13), .ref (ad 14), .int F_queued, .int F_settled, .int F_settledRise, .long F_amount, .long F_lowest, .long F_highest])), ((ad 9), .inl (cA 0, 36, .inl F_springs)), ((ad 10), .inl (cA 0, 36, .inl F_drains))] 3 [(0, .ref (ad 8)), (1, .int p1), (2, .int p2)] [] 0
theorem cnX1_openCell_66 : Cond.constant RX1 66 (1000000) ∈ wsX1_openCell := by decide +kernel
theorem giX1_openCell_X1 : ∀ w ∈ u_ws RX1 TX1 13, w ∈ wsX1_openCell := by decide +kernel
theorem gfX1_openCell_18 : gF wsX1_openCell RX1 18 1 1 RX1 TX1 13 := ⟨giX1_openCell_X1, by decide +kernel, rfl, by decide⟩
theorem gfX1_openCell_22 : gF wsX1_openCell RX1 22 1 2 RX1 TX1 13 := ⟨giX1_openCell_X1, by decide +kernel, rfl, by decide⟩
theorem gfX1_openCell_12 : gF wsX1_openCell RX1 12 1 0 RX1 TX1 13 := ⟨giX1_openCell_X1, by decide +kernel, rfl, by decide⟩
theorem giX1_openCell_X0 : ∀ w ∈ u_ws RX0 TX0 7, w ∈ wsX1_openCell := by decide +kernel
theorem gfX1_openCell_103 : gF wsX1_openCell RX1 103 0 1 RX0 TX0 7 := ⟨giX1_openCell_X0, by decide +kernel, rfl, by decide⟩
theorem gfX1_openCell_48 : gF wsX1_openCell RX1 48 1 10 RX1 TX1 13 := ⟨giX1_openCell_X1, by decide +kernel, rfl, by decide⟩
set_option maxHeartbeats 4000000 in
set_option maxRecDepth 100000 in
theorem sgX1_openCell_0 {X : gX} {ad : Nat → Nat} {cA : Nat → ClassId} {post : ((Int64) × (Nat → Int32) × (Nat → Int32)) → Prop} {p1 : Int32} {p2 : Int32} {C_size : Int32} {C_held : Nat → Int32} {F_queued : Int32} {F_settled : Int32} {F_settledRise : Int32} {F_amount : Int64} {F_lowest : Int64} {F_highest : Int64} {F_springs : Nat → Int32} {F_drains : Nat → Int32} (C : gC X (gT cA) cX1_openCell 3 RX1 wsX1_openCell rmX1_openCell) (E : gEv X none (gT cA) 0 0 post (w1X1_openCell ad cA C_size C_held F_queued F_settled F_settledRise F_lowest F_highest)) (h : vp_in p1 36 ∧ vp_in p1 36 ∧ vp_in p1 36 ∧ (¬ (C_held p1.toNatClampNeg) = (2 : Int32) → vp_in p1 36 ∧ (¬ (C_held p1.toNatClampNeg) = (1 : Int32) → (0 ≤ p2 → vp_in p1 36 ∧ post (F_amount, (upd F_springs p1.toNatClampNeg (0 : Int32)), (upd (upd F_drains p1.toNatClampNeg (0 : Int32)) p1.toNatClampNeg p2))) ∧ (¬ 0 ≤ p2 → vp_in p1 36 ∧ post ((F_amount + p2.toInt64), (upd (upd F_springs p1.toNatClampNeg (0 : Int32)) p1.toNatClampNeg (-p2)), (upd F_drains p1.toNatClampNeg (0 : Int32))))) ∧ ((C_held p1.toNatClampNeg) = (1 : Int32) → vp_in p1 36 ∧ post ((F_amount + p2.toInt64), (upd (upd F_springs p1.toNatClampNeg (0 : Int32)) p1.toNatClampNeg (1000000 : Int32)), (upd F_drains p1.toNatClampNeg (0 : Int32))))) ∧ ((C_held p1.toNatClampNeg) = (2 : Int32) → vp_in p1 36 ∧ post (F_amount, (upd F_springs p1.toNatClampNeg (0 : Int32)), (upd (upd F_drains p1.toNatClampNeg (0 : Int32)) p1.toNatClampNeg (1000000 : Int32))))) : atX1_openCell_0 X ad cA p1 p2 C_size C_held F_queued F_settled F_settledRise F_amount F_lowest F_highest F_springs F_drains := by
  refine g_aload_n C dX1_openCell_0 rfl 0 rfl ?_
  refine g_get C gfX1_openCell_18 2 rfl rfl dX1_openCell_1 ?_
  refine g_iload_n C dX1_openCell_4 rfl 1 rfl ?_
  refine g_iconst C dX1_openCell_5 ik_0 ?_
  obtain ⟨hi_1, h⟩ := h
  refine g_iast (ws2 := [((ad 1), .inr (0, [.ref (ad 2), .ref (ad 3), .ref (ad 4), .ref (ad 5), .ref (ad 6), .ref (ad 7), .int C_size])), ((ad 3), .inl (cA 0, 36, .inl C_held)), ((ad 8), .inr (1, [.ref (ad 1), .ref (ad 9), .ref (ad 10), .ref (ad 11), .ref (ad 12), .ref (ad 13), .ref (ad 14), .int F_queued, .int F_settled, .int F_settledRise, .long F_amount, .long F_lowest, .long F_highest])), ((ad 9), .inl (cA 0, 36, .inl (upd F_springs p1.toNatClampNeg (0 : Int32)))), ((ad 10), .inl (cA 0, 36, .inl F_drains))]) C 3 0 rfl rfl hi_1 rfl dX1_openCell_6 ?_
  refine g_aload_n C dX1_openCell_7 rfl 0 rfl ?_
  refine g_get C gfX1_openCell_22 2 rfl rfl dX1_openCell_8 ?_
  refine g_iload_n C dX1_openCell_11 rfl 1 rfl ?_
  refine g_iconst C dX1_openCell_12 ik_0 ?_
  obtain ⟨hi_2, h⟩ := h
  refine g_iast (ws2 := [((ad 1), .inr (0, [.ref (ad 2), .ref (ad 3), .ref (ad 4), .ref (ad 5), .ref (ad 6), .ref (ad 7), .int C_size])), ((ad 3), .inl (cA 0, 36, .inl C_held)), ((ad 8), .inr (1, [.ref (ad 1), .ref (ad 9), .ref (ad 10), .ref (ad 11), .ref (ad 12), .ref (ad 13), .ref (ad 14), .int F_queued, .int F_settled, .int F_settledRise, .long F_amount, .long F_lowest, .long F_highest])), ((ad 9), .inl (cA 0, 36, .inl (upd F_springs p1.toNatClampNeg (0 : Int32)))), ((ad 10), .inl (cA 0, 36, .inl (upd F_drains p1.toNatClampNeg (0 : Int32))))]) C 4 0 rfl rfl hi_2 rfl dX1_openCell_13 ?_
  refine g_aload_n C dX1_openCell_14 rfl 0 rfl ?_
  refine g_get C gfX1_openCell_12 2 rfl rfl dX1_openCell_15 ?_
  refine g_get C gfX1_openCell_103 0 rfl rfl dX1_openCell_18 ?_
  refine g_iload_n C dX1_openCell_21 rfl 1 rfl ?_
  obtain ⟨hi_3, h⟩ := h
  refine g_iald C 1 0 rfl rfl hi_3 dX1_openCell_22 ?_
  refine g_iconst C dX1_openCell_23 ik_2 ?_
  refine g_icmp_ne (tgt := 38) C dX1_openCell_24 (by decide) (fun c_4 => ?_) (fun c_4 => ?_)
  · replace h := h.1 c_4
    refine g_aload_n C dX1_openCell_38 rfl 0 rfl ?_
    refine g_get C gfX1_openCell_12 2 rfl rfl dX1_openCell_39 ?_
    refine g_get C gfX1_openCell_103 0 rfl rfl dX1_openCell_42 ?_
    refine g_iload_n C dX1_openCell_45 rfl 1 rfl ?_
    obtain ⟨hi_5, h⟩ := h
    refine g_iald C 1 0 rfl rfl hi_5 dX1_openCell_46 ?_
    refine g_iconst C dX1_openCell_47 ik_1 ?_
    refine g_icmp_ne (tgt := 73) C dX1_openCell_48 (by decide) (fun c_6 => ?_) (fun c_6 => ?_)
    · replace h := h.1 c_6
      refine g_iload_n C dX1_openCell_73 rfl 2 rfl ?_
      refine g_if_ge (tgt := 99) C dX1_openCell_74 (by decide) (fun c_7 => ?_) (fun c_7 => ?_)
      · replace h := h.1 c_7
        refine g_aload_n C dX1_openCell_99 rfl 0 rfl ?_
        refine g_get C gfX1_openCell_22 2 rfl rfl dX1_openCell_100 ?_
        refine g_iload_n C dX1_openCell_103 rfl 1 rfl ?_
        refine g_iload_n C dX1_openCell_104 rfl 2 rfl ?_
        obtain ⟨hi_8, h⟩ := h
        refine g_iast (ws2 := [((ad 1), .inr (0, [.ref (ad 2), .ref (ad 3), .ref (ad 4), .ref (ad 5), .ref (ad 6), .ref (ad 7), .int C_size])), ((ad 3), .inl (cA 0, 36, .inl C_held)), ((ad 8), .inr (1, [.ref (ad 1), .ref (ad 9), .ref (ad 10), .ref (ad 11), .ref (ad 12), .ref (ad 13), .ref (ad 14), .int F_queued, .int F_settled, .int F_settledRise, .long F_amount, .long F_lowest, .long F_highest])), ((ad 9), .inl (cA 0, 36, .inl (upd F_springs p1.toNatClampNeg (0 : Int32)))), ((ad 10), .inl (cA 0, 36, .inl (upd (upd F_drains p1.toNatClampNeg (0 : Int32)) p1.toNatClampNeg p2)))]) C 4 0 rfl rfl hi_8 rfl dX1_openCell_105 ?_
        exact g_vret C E (F_amount, (upd F_springs p1.toNatClampNeg (0 : Int32)), (upd (upd F_drains p1.toNatClampNeg (0 : Int32)) p1.toNatClampNeg p2)) h rfl dX1_openCell_106
      · replace h := h.2 c_7
        refine g_aload_n C dX1_openCell_77 rfl 0 rfl ?_
        refine g_get C gfX1_openCell_18 2 rfl rfl dX1_openCell_78 ?_
        refine g_iload_n C dX1_openCell_81 rfl 1 rfl ?_
        refine g_iload_n C dX1_openCell_82 rfl 2 rfl ?_
        refine g_ineg C dX1_openCell_83 ?_
        obtain ⟨hi_9, h⟩ := h
        refine g_iast (ws2 := [((ad 1), .inr (0, [.ref (ad 2), .ref (ad 3), .ref (ad 4), .ref (ad 5), .ref (ad 6), .ref (ad 7), .int C_size])), ((ad 3), .inl (cA 0, 36, .inl C_held)), ((ad 8), .inr (1, [.ref (ad 1), .ref (ad 9), .ref (ad 10), .ref (ad 11), .ref (ad 12), .ref (ad 13), .ref (ad 14), .int F_queued, .int F_settled, .int F_settledRise, .long F_amount, .long F_lowest, .long F_highest])), ((ad 9), .inl (cA 0, 36, .inl (upd (upd F_springs p1.toNatClampNeg (0 : Int32)) p1.toNatClampNeg (-p2)))), ((ad 10), .inl (cA 0, 36, .inl (upd F_drains p1.toNatClampNeg (0 : Int32))))]) C 3 0 rfl rfl hi_9 rfl dX1_openCell_84 ?_
        refine g_aload_n C dX1_openCell_85 rfl 0 rfl ?_
        refine g_dup C dX1_openCell_86 rfl ?_
        refine g_get C gfX1_openCell_48 2 rfl rfl dX1_openCell_87 ?_
        refine g_iload_n C dX1_openCell_90 rfl 2 rfl ?_
        refine g_i2l C dX1_openCell_91 ?_
        refine g_ladd C dX1_openCell_92 ?_
        refine g_put (ws2 := [((ad 1), .inr (0, [.ref (ad 2), .ref (ad 3), .ref (ad 4), .ref (ad 5), .ref (ad 6), .ref (ad 7), .int C_size])), ((ad 3), .inl (cA 0, 36, .inl C_held)), ((ad 8), .inr (1, [.ref (ad 1), .ref (ad 9), .ref (ad 10), .ref (ad 11), .ref (ad 12), .ref (ad 13), .ref (ad 14), .int F_queued, .int F_settled, .int F_settledRise, .long (F_amount + p2.toInt64), .long F_lowest, .long F_highest])), ((ad 9), .inl (cA 0, 36, .inl (upd (upd F_springs p1.toNatClampNeg (0 : Int32)) p1.toNatClampNeg (-p2)))), ((ad 10), .inl (cA 0, 36, .inl (upd F_drains p1.toNatClampNeg (0 : Int32))))]) C gfX1_openCell_48 2 tyX1_ok nmX1 rfl rfl rfl rfl (Nat.le_of_ble_eq_true rfl) rfl dX1_openCell_93 ?_
        refine g_goto (tgt := 106) C dX1_openCell_96 (by decide) ?_
        exact g_vret C E ((F_amount + p2.toInt64), (upd (upd F_springs p1.toNatClampNeg (0 : Int32)) p1.toNatClampNeg (-p2)), (upd F_drains p1.toNatClampNeg (0 : Int32))) h rfl dX1_openCell_106
    · replace h := h.2 c_6
      refine g_aload_n C dX1_openCell_51 rfl 0 rfl ?_
      refine g_get C gfX1_openCell_18 2 rfl rfl dX1_openCell_52 ?_
      refine g_iload_n C dX1_openCell_55 rfl 1 rfl ?_
      refine g_ldc C cnX1_openCell_66 dX1_openCell_56 ?_
      obtain ⟨hi_10, h⟩ := h
      refine g_iast (ws2 := [((ad 1), .inr (0, [.ref (ad 2), .ref (ad 3), .ref (ad 4), .ref (ad 5), .ref (ad 6), .ref (ad 7), .int C_size])), ((ad 3), .inl (cA 0, 36, .inl C_held)), ((ad 8), .inr (1, [.ref (ad 1), .ref (ad 9), .ref (ad 10), .ref (ad 11), .ref (ad 12), .ref (ad 13), .ref (ad 14), .int F_queued, .int F_settled, .int F_settledRise, .long F_amount, .long F_lowest, .long F_highest])), ((ad 9), .inl (cA 0, 36, .inl (upd (upd F_springs p1.toNatClampNeg (0 : Int32)) p1.toNatClampNeg (1000000 : Int32)))), ((ad 10), .inl (cA 0, 36, .inl (upd F_drains p1.toNatClampNeg (0 : Int32))))]) C 3 0 rfl rfl hi_10 rfl dX1_openCell_58 ?_
      refine g_aload_n C dX1_openCell_59 rfl 0 rfl ?_
      refine g_dup C dX1_openCell_60 rfl ?_
      refine g_get C gfX1_openCell_48 2 rfl rfl dX1_openCell_61 ?_
      refine g_iload_n C dX1_openCell_64 rfl 2 rfl ?_
      refine g_i2l C dX1_openCell_65 ?_
      refine g_ladd C dX1_openCell_66 ?_
      refine g_put (ws2 := [((ad 1), .inr (0, [.ref (ad 2), .ref (ad 3), .ref (ad 4), .ref (ad 5), .ref (ad 6), .ref (ad 7), .int C_size])), ((ad 3), .inl (cA 0, 36, .inl C_held)), ((ad 8), .inr (1, [.ref (ad 1), .ref (ad 9), .ref (ad 10), .ref (ad 11), .ref (ad 12), .ref (ad 13), .ref (ad 14), .int F_queued, .int F_settled, .int F_settledRise, .long (F_amount + p2.toInt64), .long F_lowest, .long F_highest])), ((ad 9), .inl (cA 0, 36, .inl (upd (upd F_springs p1.toNatClampNeg (0 : Int32)) p1.toNatClampNeg (1000000 : Int32)))), ((ad 10), .inl (cA 0, 36, .inl (upd F_drains p1.toNatClampNeg (0 : Int32))))]) C gfX1_openCell_48 2 tyX1_ok nmX1 rfl rfl rfl rfl (Nat.le_of_ble_eq_true rfl) rfl dX1_openCell_67 ?_
      refine g_goto (tgt := 106) C dX1_openCell_70 (by decide) ?_
      exact g_vret C E ((F_amount + p2.toInt64), (upd (upd F_springs p1.toNatClampNeg (0 : Int32)) p1.toNatClampNeg (1000000 : Int32)), (upd F_drains p1.toNatClampNeg (0 : Int32))) h rfl dX1_openCell_106
  · replace h := h.2 c_4
    refine g_aload_n C dX1_openCell_27 rfl 0 rfl ?_
    refine g_get C gfX1_openCell_22 2 rfl rfl dX1_openCell_28 ?_
    refine g_iload_n C dX1_openCell_31 rfl 1 rfl ?_
    refine g_ldc C cnX1_openCell_66 dX1_openCell_32 ?_
    obtain ⟨hi_11, h⟩ := h
    refine g_iast (ws2 := [((ad 1), .inr (0, [.ref (ad 2), .ref (ad 3), .ref (ad 4), .ref (ad 5), .ref (ad 6), .ref (ad 7), .int C_size])), ((ad 3), .inl (cA 0, 36, .inl C_held)), ((ad 8), .inr (1, [.ref (ad 1), .ref (ad 9), .ref (ad 10), .ref (ad 11), .ref (ad 12), .ref (ad 13), .ref (ad 14), .int F_queued, .int F_settled, .int F_settledRise, .long F_amount, .long F_lowest, .long F_highest])), ((ad 9), .inl (cA 0, 36, .inl (upd F_springs p1.toNatClampNeg (0 : Int32)))), ((ad 10), .inl (cA 0, 36, .inl (upd (upd F_drains p1.toNatClampNeg (0 : Int32)) p1.toNatClampNeg (1000000 : Int32))))]) C 4 0 rfl rfl hi_11 rfl dX1_openCell_34 ?_
    refine g_goto (tgt := 106) C dX1_openCell_35 (by decide) ?_
    exact g_vret C E (F_amount, (upd F_springs p1.toNatClampNeg (0 : Int32)), (upd (upd F_drains p1.toNatClampNeg (0 : Int32)) p1.toNatClampNeg (1000000 : Int32))) h rfl dX1_openCell_106
def prX1_openCell (p1 : Int32) (p2 : Int32) (C_size : Int32) (C_held : Nat → Int32) (F_queued : Int32) (F_settled : Int32) (F_settledRise : Int32) (F_amount : Int64) (F_lowest : Int64) (F_highest : Int64) (F_springs : Nat → Int32) (F_drains : Nat → Int32) : Prop := ∃ c, c < 36 ∧ p1 = nI c ∧ -10000 ≤ p2.toInt ∧ p2.toInt ≤ 10000
def po_X1_openCell (ad : Nat → Nat) (cA : Nat → ClassId) (p1 : Int32) (p2 : Int32) (C_size : Int32) (C_held : Nat → Int32) (F_queued : Int32) (F_settled : Int32) (F_settledRise : Int32) (F_amount : Int64) (F_lowest : Int64) (F_highest : Int64) (F_springs : Nat → Int32) (F_drains : Nat → Int32) (u : (Int64) × (Nat → Int32) × (Nat → Int32)) : Prop := ∀ c, c < 36 → p1 = nI c → u.1 = F_amount + lI (opA (C_held c) p2.toInt) ∧ u.2.1 = upd F_springs c (iI (opS (C_held c) p2.toInt)) ∧ u.2.2 = upd F_drains c (iI (opD (C_held c) p2.toInt))
set_option maxHeartbeats 4000000 in
set_option maxRecDepth 100000 in
theorem c_X1_openCell (ad : Nat → Nat) (cA : Nat → ClassId) (p1 : Int32) (p2 : Int32) (C_size : Int32) (C_held : Nat → Int32) (F_queued : Int32) (F_settled : Int32) (F_settledRise : Int32) (F_amount : Int64) (F_lowest : Int64) (F_highest : Int64) (F_springs : Nat → Int32) (F_drains : Nat → Int32) (hq : prX1_openCell p1 p2 C_size C_held F_queued F_settled F_settledRise F_amount F_lowest F_highest F_springs F_drains) : ∀ (l : Launch) (D : va_G), gMv (S := (Int64) × (Nat → Int32) × (Nat → Int32)) l yX1_openCell wsX1_openCell rmX1_openCell D (gT cA) 0 0 [.ref (ad 8), .int p1, .int p2] (wcX1_openCell ad cA C_size C_held F_queued F_settled F_settledRise F_amount F_lowest F_highest F_springs F_drains) (po_X1_openCell ad cA p1 p2 C_size C_held F_queued F_settled F_settledRise F_amount F_lowest F_highest F_springs F_drains) (w1X1_openCell ad cA C_size C_held F_queued F_settled F_settledRise F_lowest F_highest) := by
  intro l D
  unfold prX1_openCell at hq
  refine g_enterv (cc := cX1_openCell) (nL := 3) (ret := none) (by decide) rfl (Nat.le_of_ble_eq_true rfl) rfl (fun X C E => ?_)
  obtain ⟨c, hc, rfl, hl, hh⟩ := hq
  have hin : vp_in (nI c) 36 := vp_in_nI (by omega) (by decide)
  have uu : ∀ (f : Nat → Int32) (a b : Int32), upd (upd f c a) c b = upd f c b := fun f a b => by
    funext j; unfold upd; split <;> rfl
  have fin : ∀ (am : Int64) (sp dr : Nat → Int32), am = F_amount + lI (opA (C_held c) p2.toInt) → sp = upd F_springs c (iI (opS (C_held c) p2.toInt)) → dr = upd F_drains c (iI (opD (C_held c) p2.toInt)) → po_X1_openCell ad cA (nI c) p2 C_size C_held F_queued F_settled F_settledRise F_amount F_lowest F_highest F_springs F_drains (am, sp, dr) := by
    intro am sp dr h1 h2 h3 c' hc' e
    rw [nI_eq (by omega) (by omega)] at e
    subst e
    exact ⟨h1, h2, h3⟩
  have l0 : F_amount = F_amount + lI 0 := (Int64.add_zero _).symm
  have ep : (0 ≤ p2) = (0 ≤ p2.toInt) := propext (by rw [Int32.le_iff_toInt_le]; rfl)
  refine sgX1_openCell_0 C E ?_
  rw [nI_clamp (n := c) (by omega)]
  simp only [ep, uu]
  refine ⟨hin, hin, hin, fun h2 => ⟨hin, fun h1 => ⟨fun q => ⟨hin, fin _ _ _ ?_ ?_ ?_⟩, fun q => ⟨hin, fin _ _ _ ?_ ?_ ?_⟩⟩, fun h1 => ⟨hin, fin _ _ _ ?_ ?_ ?_⟩⟩, fun h2 => ⟨hin, fin _ _ _ ?_ ?_ ?_⟩⟩
  · rw [opA, if_neg h2, if_neg h1, if_pos q]; exact l0
  · rw [opS, if_neg h2, if_neg h1, if_pos q]; rfl
  · rw [opD, if_neg h2, if_neg h1, if_pos q, iI_toInt]
  · rw [opA, if_neg h2, if_neg h1, if_neg q, i2l_lI]
  · rw [opS, if_neg h2, if_neg h1, if_neg q, ← iI_neg, iI_toInt]
  · rw [opD, if_neg h2, if_neg h1, if_neg q]; rfl
  · rw [opA, if_neg h2, if_pos h1, i2l_lI]
  · rw [opS, if_neg h2, if_pos h1]; rfl
  · rw [opD, if_neg h2, if_pos h1]; rfl
  · rw [opA, if_pos h2]; exact l0
  · rw [opS, if_pos h2]; rfl
  · rw [opD, if_pos h2]; rfl


def prOK (n : Nat) (pr : Nat → Int32) : Prop := ∀ c, c < n → -20 ≤ (pr c).toInt ∧ (pr c).toInt ≤ 20
theorem ownA_bd {n : Nat} {pr ru : Nat → Int32} (hp : prOK n pr) (hr : ruOK ru) (be : Nat → Int32) {c : Nat} (hc : c < n) : -20 ≤ ownA pr ru be c ∧ ownA pr ru be c ≤ 74 := by
  have h1 := hp c hc
  have h3 := hr.1 3 (by omega)
  have h2 := sumZ_bd (f := fun s => if be (6 * c + s) = -1 then (ru 3).toInt else 0) (n := 6) (a := 0) (b := 9) (fun s hs => by split <;> omega)
  unfold ownA; omega
/-- how the flow begins -/
def opn (n : Nat) (be pl ru pr hd : Nat → Int32) (rise : Int) (am : Int64) (sp dr pa : Nat → Int32) : Prop := am = lI (sumZ (fun c => opA (hd c) (ownA pr ru be c + rise)) n) ∧ ∀ c, c < n → sp c = iI (opS (hd c) (ownA pr ru be c + rise)) ∧ dr c = iI (opD (hd c) (ownA pr ru be c + rise)) ∧ ∀ s, s < 6 → pa (6 * c + s) = iI (if be (6 * c + s) = -1 then 0 else cwA ru pl (ru 6).toNatClampNeg c s)

abbrev w1X1_open (ad : Nat → Nat) (cA : Nat → ClassId) (C_size : Int32) (C_held : Nat → Int32) (C_prices : Nat → Int32) (C_rules : Nat → Int32) (C_places : Nat → Int32) (C_beyond : Nat → Int32) (F_queued : Int32) (F_settled : Int32) (F_settledRise : Int32) (F_lowest : Int64) (F_highest : Int64) (u : (Int64) × (Nat → Int32) × (Nat → Int32) × (Nat → Int32)) : va_W := [((ad 1), .inr (0, [.ref (ad 2), .ref (ad 3), .ref (ad 4), .ref (ad 5), .ref (ad 6), .ref (ad 7), .int C_size])), ((ad 3), .inl (cA 0, 36, .inl C_held)), ((ad 4), .inl (cA 0, 36, .inl C_prices)), ((ad 5), .inl (cA 0, 7, .inl C_rules)), ((ad 6), .inl (cA 0, 108, .inl C_places)), ((ad 7), .inl (cA 0, 216, .inl C_beyond)), ((ad 8), .inr (1, [.ref (ad 1), .ref (ad 9), .ref (ad 10), .ref (ad 11), .ref (ad 12), .ref (ad 13), .ref (ad 14), .int F_queued, .int F_settled, .int F_settledRise, .long u.1, .long F_lowest, .long F_highest])), ((ad 9), .inl (cA 0, 36, .inl u.2.1)), ((ad 10), .inl (cA 0, 36, .inl u.2.2.1)), ((ad 11), .inl (cA 0, 216, .inl u.2.2.2))]
abbrev wcX1_open (ad : Nat → Nat) (cA : Nat → ClassId) (C_size : Int32) (C_held : Nat → Int32) (C_prices : Nat → Int32) (C_rules : Nat → Int32) (C_places : Nat → Int32) (C_beyond : Nat → Int32) (F_queued : Int32) (F_settled : Int32) (F_settledRise : Int32) (F_amount : Int64) (F_lowest : Int64) (F_highest : Int64) (F_springs : Nat → Int32) (F_drains : Nat → Int32) (F_passes : Nat → Int32) : va_W := [((ad 1), .inr (0, [.ref (ad 2), .ref (ad 3), .ref (ad 4), .ref (ad 5), .ref (ad 6), .ref (ad 7), .int C_size])), ((ad 3), .inl (cA 0, 36, .inl C_held)), ((ad 4), .inl (cA 0, 36, .inl C_prices)), ((ad 5), .inl (cA 0, 7, .inl C_rules)), ((ad 6), .inl (cA 0, 108, .inl C_places)), ((ad 7), .inl (cA 0, 216, .inl C_beyond)), ((ad 8), .inr (1, [.ref (ad 1), .ref (ad 9), .ref (ad 10), .ref (ad 11), .ref (ad 12), .ref (ad 13), .ref (ad 14), .int F_queued, .int F_settled, .int F_settledRise, .long F_amount, .long F_lowest, .long F_highest])), ((ad 9), .inl (cA 0, 36, .inl F_springs)), ((ad 10), .inl (cA 0, 36, .inl F_drains)), ((ad 11), .inl (cA 0, 216, .inl F_passes))]
def rmX1_open : Room := { frames := 2, cells := 0, slots := 0, locals := 39 }
abbrev atX1_open_0 (X : gX) (ad : Nat → Nat) (cA : Nat → ClassId) (p1 : Int32) (C_size : Int32) (C_held : Nat → Int32) (C_prices : Nat → Int32) (C_rules : Nat → Int32) (C_places : Nat → Int32) (C_beyond : Nat → Int32) (F_queued : Int32) (F_settled : Int32) (F_settledRise : Int32) (F_amount : Int64) (F_lowest : Int64) (F_highest : Int64) (F_springs : Nat → Int32) (F_drains : Nat → Int32) (F_passes : Nat → Int32) : Prop := gW X 0 0 [((ad 1), .inr (0, [.ref (ad 2), .ref (ad 3), .ref (ad 4), .ref (ad 5), .ref (ad 6), .ref (ad 7), .int C_size])), ((ad 3), .inl (cA 0, 36, .inl C_held)), ((ad 4), .inl (cA 0, 36, .inl C_prices)), ((ad 5), .inl (cA 0, 7, .inl C_rules)), ((ad 6), .inl (cA 0, 108, .inl C_places)), ((ad 7), .inl (cA 0, 216, .inl C_beyond)), ((ad 8), .inr (1, [.ref (ad 1), .ref (ad 9), .ref (ad 10), .ref (ad 11), .ref (ad 12), .ref (ad 13), .ref (ad 14), .int F_queued, .int F_settled, .int F_settledRise, .long F_amount, .long F_lowest, .long F_highest])), ((ad 9), .inl (cA 0, 36, .inl F_springs)), ((ad 10), .inl (cA 0, 36, .inl F_drains)), ((ad 11), .inl (cA 0, 216, .inl F_passes))] 4 [(0, .ref (ad 8)), (1, .int p1)] [] 0
abbrev atX1_open_7 (X : gX) (ad : Nat → Nat) (cA : Nat → ClassId) (x1 : Int32) (x2 : Int32) (C_size : Int32) (C_held : Nat → Int32) (C_prices : Nat → Int32) (C_rules : Nat → Int32) (C_places : Nat → Int32) (C_beyond : Nat → Int32) (F_queued : Int32) (F_settled : Int32) (F_settledRise : Int32) (F_amount : Int64) (F_lowest : Int64) (F_highest : Int64) (F_springs : Nat → Int32) (F_drains : Nat → Int32) (F_passes : Nat → Int32) : Prop := gW X 0 0 [((ad 1), .inr (0, [.ref (ad 2), .ref (ad 3), .ref (ad 4), .ref (ad 5), .ref (ad 6), .ref (ad 7), .int C_size])), ((ad 3), .inl (cA 0, 36, .inl C_held)), ((ad 4), .inl (cA 0, 36, .inl C_prices)), ((ad 5), .inl (cA 0, 7, .inl C_rules)), ((ad 6), .inl (cA 0, 108, .inl C_places)), ((ad 7), .inl (cA 0, 216, .inl C_beyond)), ((ad 8), .inr (1, [.ref (ad 1), .ref (ad 9), .ref (ad 10), .ref (ad 11), .ref (ad 12), .ref (ad 13), .ref (ad 14), .int F_queued, .int F_settled, .int F_settledRise, .long F_amount, .long F_lowest, .long F_highest])), ((ad 9), .inl (cA 0, 36, .inl F_springs)), ((ad 10), .inl (cA 0, 36, .inl F_drains)), ((ad 11), .inl (cA 0, 216, .inl F_passes))] 4 [(0, .ref (ad 8)), (1, .int x1), (2, .int x2)] [] 7
abbrev atX1_open_35 (X : gX) (ad : Nat → Nat) (cA : Nat → ClassId) (x1 : Int32) (x2 : Int32) (x3 : Int32) (C_size : Int32) (C_held : Nat → Int32) (C_prices : Nat → Int32) (C_rules : Nat → Int32) (C_places : Nat → Int32) (C_beyond : Nat → Int32) (F_queued : Int32) (F_settled : Int32) (F_settledRise : Int32) (F_amount : Int64) (F_lowest : Int64) (F_highest : Int64) (F_springs : Nat → Int32) (F_drains : Nat → Int32) (F_passes : Nat → Int32) : Prop := gW X 0 0 [((ad 1), .inr (0, [.ref (ad 2), .ref (ad 3), .ref (ad 4), .ref (ad 5), .ref (ad 6), .ref (ad 7), .int C_size])), ((ad 3), .inl (cA 0, 36, .inl C_held)), ((ad 4), .inl (cA 0, 36, .inl C_prices)), ((ad 5), .inl (cA 0, 7, .inl C_rules)), ((ad 6), .inl (cA 0, 108, .inl C_places)), ((ad 7), .inl (cA 0, 216, .inl C_beyond)), ((ad 8), .inr (1, [.ref (ad 1), .ref (ad 9), .ref (ad 10), .ref (ad 11), .ref (ad 12), .ref (ad 13), .ref (ad 14), .int F_queued, .int F_settled, .int F_settledRise, .long F_amount, .long F_lowest, .long F_highest])), ((ad 9), .inl (cA 0, 36, .inl F_springs)), ((ad 10), .inl (cA 0, 36, .inl F_drains)), ((ad 11), .inl (cA 0, 216, .inl F_passes))] 4 [(0, .ref (ad 8)), (1, .int x1), (2, .int x2), (3, .int x3)] [] 35
theorem giX1_open_X1 : ∀ w ∈ u_ws RX1 TX1 13, w ∈ wsX1_open := by decide +kernel
theorem gfX1_open_48 : gF wsX1_open RX1 48 1 10 RX1 TX1 13 := ⟨giX1_open_X1, by decide +kernel, rfl, by decide⟩
theorem gfX1_open_12 : gF wsX1_open RX1 12 1 0 RX1 TX1 13 := ⟨giX1_open_X1, by decide +kernel, rfl, by decide⟩
theorem giX1_open_X0 : ∀ w ∈ u_ws RX0 TX0 7, w ∈ wsX1_open := by decide +kernel
theorem gfX1_open_82 : gF wsX1_open RX1 82 0 6 RX0 TX0 7 := ⟨giX1_open_X0, by decide +kernel, rfl, by decide⟩
theorem gfX1_open_25 : gF wsX1_open RX1 25 1 3 RX1 TX1 13 := ⟨giX1_open_X1, by decide +kernel, rfl, by decide⟩
theorem gfX1_open_93 : gF wsX1_open RX1 93 0 5 RX0 TX0 7 := ⟨giX1_open_X0, by decide +kernel, rfl, by decide⟩
theorem gfX1_open_96 : gF wsX1_open RX1 96 0 3 RX0 TX0 7 := ⟨giX1_open_X0, by decide +kernel, rfl, by decide⟩
set_option maxHeartbeats 4000000 in
set_option maxRecDepth 100000 in
theorem sgX1_open_0 {X : gX} {ad : Nat → Nat} {cA : Nat → ClassId} {post : ((Int64) × (Nat → Int32) × (Nat → Int32) × (Nat → Int32)) → Prop} {p1 : Int32} {C_size : Int32} {C_held : Nat → Int32} {C_prices : Nat → Int32} {C_rules : Nat → Int32} {C_places : Nat → Int32} {C_beyond : Nat → Int32} {F_queued : Int32} {F_settled : Int32} {F_settledRise : Int32} {F_amount : Int64} {F_lowest : Int64} {F_highest : Int64} {F_springs : Nat → Int32} {F_drains : Nat → Int32} {F_passes : Nat → Int32} (C : gC X (gT cA) cX1_open 4 RX1 wsX1_open rmX1_open) (E : gEv X none (gT cA) 0 0 post (w1X1_open ad cA C_size C_held C_prices C_rules C_places C_beyond F_queued F_settled F_settledRise F_lowest F_highest)) (h : atX1_open_7 X ad cA p1 (0 : Int32) C_size C_held C_prices C_rules C_places C_beyond F_queued F_settled F_settledRise (0 : Int64) F_lowest F_highest F_springs F_drains F_passes) : atX1_open_0 X ad cA p1 C_size C_held C_prices C_rules C_places C_beyond F_queued F_settled F_settledRise F_amount F_lowest F_highest F_springs F_drains F_passes := by
  refine g_aload_n C dX1_open_0 rfl 0 rfl ?_
  refine g_lconst C dX1_open_1 lk_0 ?_
  refine g_put (ws2 := [((ad 1), .inr (0, [.ref (ad 2), .ref (ad 3), .ref (ad 4), .ref (ad 5), .ref (ad 6), .ref (ad 7), .int C_size])), ((ad 3), .inl (cA 0, 36, .inl C_held)), ((ad 4), .inl (cA 0, 36, .inl C_prices)), ((ad 5), .inl (cA 0, 7, .inl C_rules)), ((ad 6), .inl (cA 0, 108, .inl C_places)), ((ad 7), .inl (cA 0, 216, .inl C_beyond)), ((ad 8), .inr (1, [.ref (ad 1), .ref (ad 9), .ref (ad 10), .ref (ad 11), .ref (ad 12), .ref (ad 13), .ref (ad 14), .int F_queued, .int F_settled, .int F_settledRise, .long (0 : Int64), .long F_lowest, .long F_highest])), ((ad 9), .inl (cA 0, 36, .inl F_springs)), ((ad 10), .inl (cA 0, 36, .inl F_drains)), ((ad 11), .inl (cA 0, 216, .inl F_passes))]) C gfX1_open_48 6 tyX1_ok nmX1 rfl rfl rfl rfl (Nat.le_of_ble_eq_true rfl) rfl dX1_open_2 ?_
  refine g_iconst C dX1_open_5 ik_0 ?_
  refine g_istore_n (lv2 := [(0, .ref (ad 8)), (1, .int p1), (2, .int (0 : Int32))]) C dX1_open_6 rfl (by decide) [1, 2, 0] rfl ?_
  exact g_lv [0, 1, 2] rfl h
set_option maxHeartbeats 4000000 in
set_option maxRecDepth 100000 in
theorem sgX1_open_7 {X : gX} {ad : Nat → Nat} {cA : Nat → ClassId} {post : ((Int64) × (Nat → Int32) × (Nat → Int32) × (Nat → Int32)) → Prop} {x1 : Int32} {x2 : Int32} {C_size : Int32} {C_held : Nat → Int32} {C_prices : Nat → Int32} {C_rules : Nat → Int32} {C_places : Nat → Int32} {C_beyond : Nat → Int32} {F_queued : Int32} {F_settled : Int32} {F_settledRise : Int32} {F_amount : Int64} {F_lowest : Int64} {F_highest : Int64} {F_springs : Nat → Int32} {F_drains : Nat → Int32} {F_passes : Nat → Int32} (C : gC X (gT cA) cX1_open 4 RX1 wsX1_open rmX1_open) (E : gEv X none (gT cA) 0 0 post (w1X1_open ad cA C_size C_held C_prices C_rules C_places C_beyond F_queued F_settled F_settledRise F_lowest F_highest)) (h : (C_size ≤ x2 → post (F_amount, F_springs, F_drains, F_passes)) ∧ (¬ C_size ≤ x2 → prX0_ownCost x2 C_size C_prices C_rules C_beyond ∧ prX1_openCell x2 ((iI (ownA C_prices C_rules C_beyond x2.toNatClampNeg)) + x1) C_size C_held F_queued F_settled F_settledRise F_amount F_lowest F_highest F_springs F_drains ∧ ∀ (u5_F_amount : Int64) (u5_F_springs : Nat → Int32) (u5_F_drains : Nat → Int32), po_X1_openCell ad cA x2 ((iI (ownA C_prices C_rules C_beyond x2.toNatClampNeg)) + x1) C_size C_held F_queued F_settled F_settledRise F_amount F_lowest F_highest F_springs F_drains (u5_F_amount, u5_F_springs, u5_F_drains) → atX1_open_35 X ad cA x1 x2 (0 : Int32) C_size C_held C_prices C_rules C_places C_beyond F_queued F_settled F_settledRise u5_F_amount F_lowest F_highest u5_F_springs u5_F_drains F_passes)) : atX1_open_7 X ad cA x1 x2 C_size C_held C_prices C_rules C_places C_beyond F_queued F_settled F_settledRise F_amount F_lowest F_highest F_springs F_drains F_passes := by
  refine g_iload_n C dX1_open_7 rfl 2 rfl ?_
  refine g_aload_n C dX1_open_8 rfl 0 rfl ?_
  refine g_get C gfX1_open_12 6 rfl rfl dX1_open_9 ?_
  refine g_get C gfX1_open_82 0 rfl rfl dX1_open_12 ?_
  refine g_icmp_ge (tgt := 105) C dX1_open_15 (by decide) (fun c_1 => ?_) (fun c_1 => ?_)
  · replace h := h.1 c_1
    exact g_vret C E (F_amount, F_springs, F_drains, F_passes) h rfl dX1_open_105
  · replace h := h.2 c_1
    refine g_aload_n C dX1_open_18 rfl 0 rfl ?_
    refine g_iload_n C dX1_open_19 rfl 2 rfl ?_
    refine g_aload_n C dX1_open_20 rfl 0 rfl ?_
    refine g_get C gfX1_open_12 6 rfl rfl dX1_open_21 ?_
    refine g_iload_n C dX1_open_24 rfl 2 rfl ?_
    obtain ⟨hi_2, h⟩ := h
    refine g_callVi (wr := [((ad 3), .inl (cA 0, 36, .inl C_held)), ((ad 6), .inl (cA 0, 108, .inl C_places)), ((ad 8), .inr (1, [.ref (ad 1), .ref (ad 9), .ref (ad 10), .ref (ad 11), .ref (ad 12), .ref (ad 13), .ref (ad 14), .int F_queued, .int F_settled, .int F_settledRise, .long F_amount, .long F_lowest, .long F_highest])), ((ad 9), .inl (cA 0, 36, .inl F_springs)), ((ad 10), .inl (cA 0, 36, .inl F_drains)), ((ad 11), .inl (cA 0, 216, .inl F_passes))]) C (c_X0_ownCost ad cA x2 C_size C_prices C_rules C_beyond hi_2) gX1_open_X0_ownCost rfl hde_X0_ownCost ⟨rfl, rfl⟩ (by decide) (by decide) [0, 2, 3, 5] [1, 4, 6, 7, 8, 9] [6, 0, 7, 8, 1, 9, 2, 3, 4, 5] rfl rfl rfl rfl (by decide) rfl (ws2 := fun u => [((ad 1), .inr (0, [.ref (ad 2), .ref (ad 3), .ref (ad 4), .ref (ad 5), .ref (ad 6), .ref (ad 7), .int C_size])), ((ad 3), .inl (cA 0, 36, .inl C_held)), ((ad 4), .inl (cA 0, 36, .inl C_prices)), ((ad 5), .inl (cA 0, 7, .inl C_rules)), ((ad 6), .inl (cA 0, 108, .inl C_places)), ((ad 7), .inl (cA 0, 216, .inl C_beyond)), ((ad 8), .inr (1, [.ref (ad 1), .ref (ad 9), .ref (ad 10), .ref (ad 11), .ref (ad 12), .ref (ad 13), .ref (ad 14), .int F_queued, .int F_settled, .int F_settledRise, .long F_amount, .long F_lowest, .long F_highest])), ((ad 9), .inl (cA 0, 36, .inl F_springs)), ((ad 10), .inl (cA 0, 36, .inl F_drains)), ((ad 11), .inl (cA 0, 216, .inl F_passes))]) (fun _ => rfl) 0 0 rfl rfl rfl (rest := [.int x2, .ref (ad 8)]) rfl (Nat.le_of_ble_eq_true rfl) dX1_open_25 (fun r_3 u_3 hp_3 => ?_)
    subst hp_3
    change gW X 0 0 [((ad 1), .inr (0, [.ref (ad 2), .ref (ad 3), .ref (ad 4), .ref (ad 5), .ref (ad 6), .ref (ad 7), .int C_size])), ((ad 3), .inl (cA 0, 36, .inl C_held)), ((ad 4), .inl (cA 0, 36, .inl C_prices)), ((ad 5), .inl (cA 0, 7, .inl C_rules)), ((ad 6), .inl (cA 0, 108, .inl C_places)), ((ad 7), .inl (cA 0, 216, .inl C_beyond)), ((ad 8), .inr (1, [.ref (ad 1), .ref (ad 9), .ref (ad 10), .ref (ad 11), .ref (ad 12), .ref (ad 13), .ref (ad 14), .int F_queued, .int F_settled, .int F_settledRise, .long F_amount, .long F_lowest, .long F_highest])), ((ad 9), .inl (cA 0, 36, .inl F_springs)), ((ad 10), .inl (cA 0, 36, .inl F_drains)), ((ad 11), .inl (cA 0, 216, .inl F_passes))] 4 [(0, .ref (ad 8)), (1, .int x1), (2, .int x2)] [.int (iI (ownA C_prices C_rules C_beyond x2.toNatClampNeg)), .int x2, .ref (ad 8)] 28
    refine g_iload_n C dX1_open_28 rfl 1 rfl ?_
    refine g_iadd C dX1_open_29 ?_
    obtain ⟨hi_4, h⟩ := h
    refine g_callVv (wr := [((ad 4), .inl (cA 0, 36, .inl C_prices)), ((ad 5), .inl (cA 0, 7, .inl C_rules)), ((ad 6), .inl (cA 0, 108, .inl C_places)), ((ad 7), .inl (cA 0, 216, .inl C_beyond)), ((ad 11), .inl (cA 0, 216, .inl F_passes))]) C (c_X1_openCell ad cA x2 ((iI (ownA C_prices C_rules C_beyond x2.toNatClampNeg)) + x1) C_size C_held F_queued F_settled F_settledRise F_amount F_lowest F_highest F_springs F_drains hi_4) gX1_open_X1_openCell rfl hde_X1_openCell ⟨rfl, rfl⟩ (by decide) (by decide) [0, 1, 6, 7, 8] [2, 3, 4, 5, 9] [5, 6, 0, 1, 2, 3, 7, 8, 9, 4] rfl rfl rfl rfl (by decide) rfl (ws2 := fun u => [((ad 1), .inr (0, [.ref (ad 2), .ref (ad 3), .ref (ad 4), .ref (ad 5), .ref (ad 6), .ref (ad 7), .int C_size])), ((ad 3), .inl (cA 0, 36, .inl C_held)), ((ad 4), .inl (cA 0, 36, .inl C_prices)), ((ad 5), .inl (cA 0, 7, .inl C_rules)), ((ad 6), .inl (cA 0, 108, .inl C_places)), ((ad 7), .inl (cA 0, 216, .inl C_beyond)), ((ad 8), .inr (1, [.ref (ad 1), .ref (ad 9), .ref (ad 10), .ref (ad 11), .ref (ad 12), .ref (ad 13), .ref (ad 14), .int F_queued, .int F_settled, .int F_settledRise, .long u.1, .long F_lowest, .long F_highest])), ((ad 9), .inl (cA 0, 36, .inl u.2.1)), ((ad 10), .inl (cA 0, 36, .inl u.2.2)), ((ad 11), .inl (cA 0, 216, .inl F_passes))]) (fun _ => rfl) 1 2 rfl rfl rfl (rest := []) rfl (Nat.le_of_ble_eq_true rfl) dX1_open_30 (fun u_5 hp_5 => ?_)
    obtain ⟨u5_F_amount, u5_F_springs, u5_F_drains⟩ := u_5
    replace h := h u5_F_amount u5_F_springs u5_F_drains hp_5
    change gW X 0 0 [((ad 1), .inr (0, [.ref (ad 2), .ref (ad 3), .ref (ad 4), .ref (ad 5), .ref (ad 6), .ref (ad 7), .int C_size])), ((ad 3), .inl (cA 0, 36, .inl C_held)), ((ad 4), .inl (cA 0, 36, .inl C_prices)), ((ad 5), .inl (cA 0, 7, .inl C_rules)), ((ad 6), .inl (cA 0, 108, .inl C_places)), ((ad 7), .inl (cA 0, 216, .inl C_beyond)), ((ad 8), .inr (1, [.ref (ad 1), .ref (ad 9), .ref (ad 10), .ref (ad 11), .ref (ad 12), .ref (ad 13), .ref (ad 14), .int F_queued, .int F_settled, .int F_settledRise, .long u5_F_amount, .long F_lowest, .long F_highest])), ((ad 9), .inl (cA 0, 36, .inl u5_F_springs)), ((ad 10), .inl (cA 0, 36, .inl u5_F_drains)), ((ad 11), .inl (cA 0, 216, .inl F_passes))] 4 [(0, .ref (ad 8)), (1, .int x1), (2, .int x2)] [] 33
    refine g_iconst C dX1_open_33 ik_0 ?_
    refine g_istore_n (lv2 := [(0, .ref (ad 8)), (1, .int x1), (2, .int x2), (3, .int (0 : Int32))]) C dX1_open_34 rfl (by decide) [1, 2, 3, 0] rfl ?_
    exact g_lv [0, 1, 2, 3] rfl h
set_option maxHeartbeats 4000000 in
set_option maxRecDepth 100000 in
theorem sgX1_open_35 {X : gX} {ad : Nat → Nat} {cA : Nat → ClassId} {post : ((Int64) × (Nat → Int32) × (Nat → Int32) × (Nat → Int32)) → Prop} {x1 : Int32} {x2 : Int32} {x3 : Int32} {C_size : Int32} {C_held : Nat → Int32} {C_prices : Nat → Int32} {C_rules : Nat → Int32} {C_places : Nat → Int32} {C_beyond : Nat → Int32} {F_queued : Int32} {F_settled : Int32} {F_settledRise : Int32} {F_amount : Int64} {F_lowest : Int64} {F_highest : Int64} {F_springs : Nat → Int32} {F_drains : Nat → Int32} {F_passes : Nat → Int32} (C : gC X (gT cA) cX1_open 4 RX1 wsX1_open rmX1_open) (E : gEv X none (gT cA) 0 0 post (w1X1_open ad cA C_size C_held C_prices C_rules C_places C_beyond F_queued F_settled F_settledRise F_lowest F_highest)) (h : ((6 : Int32) ≤ x3 → atX1_open_7 X ad cA x1 (x2 + 1) C_size C_held C_prices C_rules C_places C_beyond F_queued F_settled F_settledRise F_amount F_lowest F_highest F_springs F_drains F_passes) ∧ (¬ (6 : Int32) ≤ x3 → vp_in ((x2 * (6 : Int32)) + x3) 216 ∧ ((¬ (C_beyond ((x2 * (6 : Int32)) + x3).toNatClampNeg) = (-1 : Int32) → vp_in (6 : Int32) 7 ∧ prX0_seamCost (C_rules (6 : Int32).toNatClampNeg) x2 x3 C_size C_rules C_places) ∧ ((C_beyond ((x2 * (6 : Int32)) + x3).toNatClampNeg) = (-1 : Int32) → True)) ∧ vp_in ((x2 * (6 : Int32)) + x3) 216 ∧ atX1_open_35 X ad cA x1 x2 (x3 + 1) C_size C_held C_prices C_rules C_places C_beyond F_queued F_settled F_settledRise F_amount F_lowest F_highest F_springs F_drains (upd F_passes ((x2 * (6 : Int32)) + x3).toNatClampNeg (if (C_beyond ((x2 * (6 : Int32)) + x3).toNatClampNeg) = (-1 : Int32) then (0 : Int32) else (fnX0_seamCost (C_rules (6 : Int32).toNatClampNeg) x2 x3 C_size C_rules C_places))))) : atX1_open_35 X ad cA x1 x2 x3 C_size C_held C_prices C_rules C_places C_beyond F_queued F_settled F_settledRise F_amount F_lowest F_highest F_springs F_drains F_passes := by
  refine g_iload_n C dX1_open_35 rfl 3 rfl ?_
  refine g_bipush C dX1_open_36 bk_6 ?_
  refine g_icmp_ge (tgt := 99) C dX1_open_38 (by decide) (fun c_6 => ?_) (fun c_6 => ?_)
  · replace h := h.1 c_6
    refine g_iinc (v := (x2 + 1)) (lv2 := [(0, .ref (ad 8)), (1, .int x1), (2, .int (x2 + 1)), (3, .int x3)]) C dX1_open_99 2 rfl (by first | rfl | decide) (by decide) [1, 2, 0, 3] rfl ?_
    refine g_goto (tgt := 7) C dX1_open_102 (by decide) ?_
    exact g_lv [0, 1, 2] rfl h
  · replace h := h.2 c_6
    refine g_aload_n C dX1_open_41 rfl 0 rfl ?_
    refine g_get C gfX1_open_25 6 rfl rfl dX1_open_42 ?_
    refine g_iload_n C dX1_open_45 rfl 2 rfl ?_
    refine g_bipush C dX1_open_46 bk_6 ?_
    refine g_imul C dX1_open_48 ?_
    refine g_iload_n C dX1_open_49 rfl 3 rfl ?_
    refine g_iadd C dX1_open_50 ?_
    refine g_aload_n C dX1_open_51 rfl 0 rfl ?_
    refine g_get C gfX1_open_12 6 rfl rfl dX1_open_52 ?_
    refine g_get C gfX1_open_93 0 rfl rfl dX1_open_55 ?_
    refine g_iload_n C dX1_open_58 rfl 2 rfl ?_
    refine g_bipush C dX1_open_59 bk_6 ?_
    refine g_imul C dX1_open_61 ?_
    refine g_iload_n C dX1_open_62 rfl 3 rfl ?_
    refine g_iadd C dX1_open_63 ?_
    obtain ⟨hi_7, h⟩ := h
    refine g_iald C 5 0 rfl rfl hi_7 dX1_open_64 ?_
    refine g_iconst C dX1_open_65 ik_m1 ?_
    obtain ⟨hr_92, h⟩ := h
    have key : gW X 0 0 [((ad 1), .inr (0, [.ref (ad 2), .ref (ad 3), .ref (ad 4), .ref (ad 5), .ref (ad 6), .ref (ad 7), .int C_size])), ((ad 3), .inl (cA 0, 36, .inl C_held)), ((ad 4), .inl (cA 0, 36, .inl C_prices)), ((ad 5), .inl (cA 0, 7, .inl C_rules)), ((ad 6), .inl (cA 0, 108, .inl C_places)), ((ad 7), .inl (cA 0, 216, .inl C_beyond)), ((ad 8), .inr (1, [.ref (ad 1), .ref (ad 9), .ref (ad 10), .ref (ad 11), .ref (ad 12), .ref (ad 13), .ref (ad 14), .int F_queued, .int F_settled, .int F_settledRise, .long F_amount, .long F_lowest, .long F_highest])), ((ad 9), .inl (cA 0, 36, .inl F_springs)), ((ad 10), .inl (cA 0, 36, .inl F_drains)), ((ad 11), .inl (cA 0, 216, .inl F_passes))] 4 [(0, .ref (ad 8)), (1, .int x1), (2, .int x2), (3, .int x3)] [.int (if (C_beyond ((x2 * (6 : Int32)) + x3).toNatClampNeg) = (-1 : Int32) then (0 : Int32) else (fnX0_seamCost (C_rules (6 : Int32).toNatClampNeg) x2 x3 C_size C_rules C_places)), .int ((x2 * (6 : Int32)) + x3), .ref (ad 11)] 92 := by
      obtain ⟨hi_12, h⟩ := h
      refine g_iast (ws2 := [((ad 1), .inr (0, [.ref (ad 2), .ref (ad 3), .ref (ad 4), .ref (ad 5), .ref (ad 6), .ref (ad 7), .int C_size])), ((ad 3), .inl (cA 0, 36, .inl C_held)), ((ad 4), .inl (cA 0, 36, .inl C_prices)), ((ad 5), .inl (cA 0, 7, .inl C_rules)), ((ad 6), .inl (cA 0, 108, .inl C_places)), ((ad 7), .inl (cA 0, 216, .inl C_beyond)), ((ad 8), .inr (1, [.ref (ad 1), .ref (ad 9), .ref (ad 10), .ref (ad 11), .ref (ad 12), .ref (ad 13), .ref (ad 14), .int F_queued, .int F_settled, .int F_settledRise, .long F_amount, .long F_lowest, .long F_highest])), ((ad 9), .inl (cA 0, 36, .inl F_springs)), ((ad 10), .inl (cA 0, 36, .inl F_drains)), ((ad 11), .inl (cA 0, 216, .inl (upd F_passes ((x2 * (6 : Int32)) + x3).toNatClampNeg (if (C_beyond ((x2 * (6 : Int32)) + x3).toNatClampNeg) = (-1 : Int32) then (0 : Int32) else (fnX0_seamCost (C_rules (6 : Int32).toNatClampNeg) x2 x3 C_size C_rules C_places)))))]) C 9 0 rfl rfl hi_12 rfl dX1_open_92 ?_
      refine g_iinc (v := (x3 + 1)) (lv2 := [(0, .ref (ad 8)), (1, .int x1), (2, .int x2), (3, .int (x3 + 1))]) C dX1_open_93 3 rfl (by first | rfl | decide) (by decide) [1, 2, 3, 0] rfl ?_
      refine g_goto (tgt := 35) C dX1_open_96 (by decide) ?_
      exact g_lv [0, 1, 2, 3] rfl h
    replace h := hr_92
    refine g_icmp_ne (tgt := 73) C dX1_open_66 (by decide) (fun c_8 => ?_) (fun c_8 => ?_)
    · replace h := h.1 c_8
      refine g_aload_n C dX1_open_73 rfl 0 rfl ?_
      refine g_get C gfX1_open_12 6 rfl rfl dX1_open_74 ?_
      refine g_aload_n C dX1_open_77 rfl 0 rfl ?_
      refine g_get C gfX1_open_12 6 rfl rfl dX1_open_78 ?_
      refine g_get C gfX1_open_96 0 rfl rfl dX1_open_81 ?_
      refine g_bipush C dX1_open_84 bk_6 ?_
      obtain ⟨hi_9, h⟩ := h
      refine g_iald C 3 0 rfl rfl hi_9 dX1_open_86 ?_
      refine g_iload_n C dX1_open_87 rfl 2 rfl ?_
      refine g_iload_n C dX1_open_88 rfl 3 rfl ?_
      have hi_10 := h
      refine g_callVi (wr := [((ad 3), .inl (cA 0, 36, .inl C_held)), ((ad 4), .inl (cA 0, 36, .inl C_prices)), ((ad 7), .inl (cA 0, 216, .inl C_beyond)), ((ad 8), .inr (1, [.ref (ad 1), .ref (ad 9), .ref (ad 10), .ref (ad 11), .ref (ad 12), .ref (ad 13), .ref (ad 14), .int F_queued, .int F_settled, .int F_settledRise, .long F_amount, .long F_lowest, .long F_highest])), ((ad 9), .inl (cA 0, 36, .inl F_springs)), ((ad 10), .inl (cA 0, 36, .inl F_drains)), ((ad 11), .inl (cA 0, 216, .inl F_passes))]) C (c_X0_seamCost ad cA (C_rules (6 : Int32).toNatClampNeg) x2 x3 C_size C_rules C_places hi_10) gX1_open_X0_seamCost rfl hde_X0_seamCost ⟨rfl, rfl⟩ (by decide) (by decide) [0, 3, 4] [1, 2, 5, 6, 7, 8, 9] [7, 0, 1, 8, 9, 2, 3, 4, 5, 6] rfl rfl rfl rfl (by decide) rfl (ws2 := fun u => [((ad 1), .inr (0, [.ref (ad 2), .ref (ad 3), .ref (ad 4), .ref (ad 5), .ref (ad 6), .ref (ad 7), .int C_size])), ((ad 3), .inl (cA 0, 36, .inl C_held)), ((ad 4), .inl (cA 0, 36, .inl C_prices)), ((ad 5), .inl (cA 0, 7, .inl C_rules)), ((ad 6), .inl (cA 0, 108, .inl C_places)), ((ad 7), .inl (cA 0, 216, .inl C_beyond)), ((ad 8), .inr (1, [.ref (ad 1), .ref (ad 9), .ref (ad 10), .ref (ad 11), .ref (ad 12), .ref (ad 13), .ref (ad 14), .int F_queued, .int F_settled, .int F_settledRise, .long F_amount, .long F_lowest, .long F_highest])), ((ad 9), .inl (cA 0, 36, .inl F_springs)), ((ad 10), .inl (cA 0, 36, .inl F_drains)), ((ad 11), .inl (cA 0, 216, .inl F_passes))]) (fun _ => rfl) 0 0 rfl rfl rfl (rest := [.int ((x2 * (6 : Int32)) + x3), .ref (ad 11)]) rfl (Nat.le_of_ble_eq_true rfl) dX1_open_89 (fun r_11 u_11 hp_11 => ?_)
      subst hp_11
      change gW X 0 0 [((ad 1), .inr (0, [.ref (ad 2), .ref (ad 3), .ref (ad 4), .ref (ad 5), .ref (ad 6), .ref (ad 7), .int C_size])), ((ad 3), .inl (cA 0, 36, .inl C_held)), ((ad 4), .inl (cA 0, 36, .inl C_prices)), ((ad 5), .inl (cA 0, 7, .inl C_rules)), ((ad 6), .inl (cA 0, 108, .inl C_places)), ((ad 7), .inl (cA 0, 216, .inl C_beyond)), ((ad 8), .inr (1, [.ref (ad 1), .ref (ad 9), .ref (ad 10), .ref (ad 11), .ref (ad 12), .ref (ad 13), .ref (ad 14), .int F_queued, .int F_settled, .int F_settledRise, .long F_amount, .long F_lowest, .long F_highest])), ((ad 9), .inl (cA 0, 36, .inl F_springs)), ((ad 10), .inl (cA 0, 36, .inl F_drains)), ((ad 11), .inl (cA 0, 216, .inl F_passes))] 4 [(0, .ref (ad 8)), (1, .int x1), (2, .int x2), (3, .int x3)] [.int (fnX0_seamCost (C_rules (6 : Int32).toNatClampNeg) x2 x3 C_size C_rules C_places), .int ((x2 * (6 : Int32)) + x3), .ref (ad 11)] 92
      exact g_leaf (by simp only [if_neg c_8] at key; first | exact key | (simp only [if_neg c_8]; exact key) | exact absurd rfl c_8)
    · replace h := h.2 c_8
      refine g_iconst C dX1_open_69 ik_0 ?_
      refine g_goto (tgt := 92) C dX1_open_70 (by decide) ?_
      exact g_leaf (by simp only [if_pos c_8] at key; first | exact key | (simp only [if_pos c_8]; exact key) | exact absurd rfl c_8)
def prX1_open (n : Nat) (p1 : Int32) (C_size : Int32) (C_held : Nat → Int32) (C_prices : Nat → Int32) (C_rules : Nat → Int32) (C_places : Nat → Int32) (C_beyond : Nat → Int32) (F_queued : Int32) (F_settled : Int32) (F_settledRise : Int32) (F_amount : Int64) (F_lowest : Int64) (F_highest : Int64) (F_springs : Nat → Int32) (F_drains : Nat → Int32) (F_passes : Nat → Int32) : Prop := grOK n C_beyond C_places ∧ ruOK C_rules ∧ prOK n C_prices ∧ C_size = nI n ∧ -60 ≤ p1.toInt ∧ p1.toInt ≤ 60
def po_X1_open (ad : Nat → Nat) (cA : Nat → ClassId) (n : Nat) (p1 : Int32) (C_size : Int32) (C_held : Nat → Int32) (C_prices : Nat → Int32) (C_rules : Nat → Int32) (C_places : Nat → Int32) (C_beyond : Nat → Int32) (F_queued : Int32) (F_settled : Int32) (F_settledRise : Int32) (F_amount : Int64) (F_lowest : Int64) (F_highest : Int64) (F_springs : Nat → Int32) (F_drains : Nat → Int32) (F_passes : Nat → Int32) (u : (Int64) × (Nat → Int32) × (Nat → Int32) × (Nat → Int32)) : Prop := opn n C_beyond C_places C_rules C_prices C_held p1.toInt u.1 u.2.1 u.2.2.1 u.2.2.2
set_option maxHeartbeats 4000000 in
set_option maxRecDepth 100000 in
theorem c_X1_open (ad : Nat → Nat) (cA : Nat → ClassId) (n : Nat) (p1 : Int32) (C_size : Int32) (C_held : Nat → Int32) (C_prices : Nat → Int32) (C_rules : Nat → Int32) (C_places : Nat → Int32) (C_beyond : Nat → Int32) (F_queued : Int32) (F_settled : Int32) (F_settledRise : Int32) (F_amount : Int64) (F_lowest : Int64) (F_highest : Int64) (F_springs : Nat → Int32) (F_drains : Nat → Int32) (F_passes : Nat → Int32) (hq : prX1_open n p1 C_size C_held C_prices C_rules C_places C_beyond F_queued F_settled F_settledRise F_amount F_lowest F_highest F_springs F_drains F_passes) : ∀ (l : Launch) (D : va_G), gMv (S := (Int64) × (Nat → Int32) × (Nat → Int32) × (Nat → Int32)) l yX1_open wsX1_open rmX1_open D (gT cA) 0 0 [.ref (ad 8), .int p1] (wcX1_open ad cA C_size C_held C_prices C_rules C_places C_beyond F_queued F_settled F_settledRise F_amount F_lowest F_highest F_springs F_drains F_passes) (po_X1_open ad cA n p1 C_size C_held C_prices C_rules C_places C_beyond F_queued F_settled F_settledRise F_amount F_lowest F_highest F_springs F_drains F_passes) (w1X1_open ad cA C_size C_held C_prices C_rules C_places C_beyond F_queued F_settled F_settledRise F_lowest F_highest) := by
  intro l D
  unfold prX1_open at hq
  refine g_enterv (cc := cX1_open) (nL := 4) (ret := none) (by decide) rfl (Nat.le_of_ble_eq_true rfl) rfl (fun X C E => ?_)
  obtain ⟨hg, hr, hp, rfl, hl, hh⟩ := hq
  have hn := hg.2.1
  obtain ⟨kd, hkd, ekd⟩ := hr.2.2.2
  refine sgX1_open_0 C E ?_
  have loop : ∀ k, k ≤ n → ∀ am sp dr pa, opn k C_beyond C_places C_rules C_prices C_held p1.toInt am sp dr pa → atX1_open_7 X ad cA p1 (nI k) (nI n) C_held C_prices C_rules C_places C_beyond F_queued F_settled F_settledRise am F_lowest F_highest sp dr pa := by
    intro k hk
    refine up_loop (P := fun k => ∀ am sp dr pa, opn k C_beyond C_places C_rules C_prices C_held p1.toInt am sp dr pa → atX1_open_7 X ad cA p1 (nI k) (nI n) C_held C_prices C_rules C_places C_beyond F_queued F_settled F_settledRise am F_lowest F_highest sp dr pa) n ?_ (fun k hk ih am sp dr pa ho => ?_) k hk
    · exact fun am sp dr pa ho => sgX1_open_7 C E ⟨fun _ => ho, fun c => absurd (i32_le_refl _) c⟩
    · have ob := ownA_bd hp hr C_beyond hk
      have eo : iI (ownA C_prices C_rules C_beyond k) + p1 = iI (ownA C_prices C_rules C_beyond k + p1.toInt) := by rw [← iI_add, iI_toInt]
      have et : (iI (ownA C_prices C_rules C_beyond k + p1.toInt)).toInt = ownA C_prices C_rules C_beyond k + p1.toInt := toInt_iI (by omega) (by omega)
      refine sgX1_open_7 C E ⟨fun c => absurd c (nI_ge hk (by omega)), fun _ => ?_⟩
      rw [nI_clamp (n := k) (by omega), eo]
      refine ⟨⟨k, by omega, rfl⟩, ⟨k, by omega, rfl, by omega, by omega⟩, fun am2 sp2 dr2 h2 => ?_⟩
      obtain ⟨h3, h4, h5⟩ := h2 k (by omega) rfl
      dsimp only at h3 h4 h5
      rw [et] at h3 h4 h5
      obtain ⟨o1, o2⟩ := ho
      have inner : ∀ s, s ≤ 6 → ∀ pa', (∀ c, c < k → ∀ s, s < 6 → pa' (6 * c + s) = pa (6 * c + s)) → (∀ t, t < s → pa' (6 * k + t) = iI (if C_beyond (6 * k + t) = -1 then 0 else cwA C_rules C_places (C_rules 6).toNatClampNeg k t)) → atX1_open_35 X ad cA p1 (nI k) (nI s) (nI n) C_held C_prices C_rules C_places C_beyond F_queued F_settled F_settledRise am2 F_lowest F_highest sp2 dr2 pa' := by
        intro s hs
        refine up_loop (P := fun s => ∀ pa', (∀ c, c < k → ∀ s, s < 6 → pa' (6 * c + s) = pa (6 * c + s)) → (∀ t, t < s → pa' (6 * k + t) = iI (if C_beyond (6 * k + t) = -1 then 0 else cwA C_rules C_places (C_rules 6).toNatClampNeg k t)) → atX1_open_35 X ad cA p1 (nI k) (nI s) (nI n) C_held C_prices C_rules C_places C_beyond F_queued F_settled F_settledRise am2 F_lowest F_highest sp2 dr2 pa') 6 ?_ (fun s hs ih2 pa' h6 h7 => ?_) s hs
        · refine fun pa' h6 h7 => sgX1_open_35 C E ⟨fun _ => ?_, fun c => absurd (i32_le_refl _) c⟩
          rw [nI_1 k]
          refine ih am2 sp2 dr2 pa' ⟨?_, fun c hc => ?_⟩
          · rw [h3, o1, lI_add, sumZ]
          · rcases Nat.lt_or_ge c k with g | g
            · obtain ⟨b1, b2, b3⟩ := o2 c g
              refine ⟨by rw [h4, upd_n _ _ (by omega)]; exact b1, by rw [h5, upd_n _ _ (by omega)]; exact b2, fun s hs => by rw [h6 c g s hs]; exact b3 s hs⟩
            · have e : c = k := by omega
              subst e
              exact ⟨by rw [h4, upd_s], by rw [h5, upd_s], h7⟩
        · have r6 : C_rules (6 : Int32).toNatClampNeg = nI kd := ekd
          have ekn : (C_rules 6).toNatClampNeg = kd := by rw [ekd]; exact nI_clamp (by omega)
          refine sgX1_open_35 C E ⟨fun c => absurd c (nI_ge (b := 6) hs (by decide)), fun _ => ?_⟩
          rw [nI6, nI_clamp (n := 6 * k + s) (by omega), nI_1 s, r6]
          have hin : vp_in (nI (6 * k + s)) 216 := vp_in_nI (by omega) (by decide)
          obtain ⟨p, hp4, ep⟩ := (hg.2.2 k hk).1 (s / 2) (by omega)
          have keep : ∀ v : Int32, v = iI (if C_beyond (6 * k + s) = -1 then 0 else cwA C_rules C_places (C_rules 6).toNatClampNeg k s) → atX1_open_35 X ad cA p1 (nI k) (nI (s + 1)) (nI n) C_held C_prices C_rules C_places C_beyond F_queued F_settled F_settledRise am2 F_lowest F_highest sp2 dr2 (upd pa' (6 * k + s) v) := by
            intro v ev
            refine ih2 _ (fun c hc s' hs' => by rw [upd_n _ _ (by omega)]; exact h6 c hc s' hs') (fun t ht => ?_)
            rcases Nat.lt_or_ge t s with g | g
            · rw [upd_n _ _ (by omega)]; exact h7 t g
            · have e : t = s := by omega
              rw [e, upd_s]; exact ev
          rcases (hg.2.2 k hk).2 s hs with hb | ⟨d, hd, hdc, hb, hb2, hsp, hcw⟩
          · refine ⟨hin, ⟨fun c => absurd hb c, fun _ => trivial⟩, hin, keep _ ?_⟩
            rw [if_pos hb, if_pos hb]; rfl
          · have hne : ¬ C_beyond (6 * k + s) = -1 := by rw [hb]; exact n1_ne (by omega)
            rw [ep, nI_clamp (by omega)] at hsp
            obtain ⟨c1, c2⟩ := scost_eq hr hkd (show k < 36 by omega) hs hp4 ep hsp (nI n)
            refine ⟨hin, ⟨fun _ => ⟨vi_6_7, c1⟩, fun c => absurd c hne⟩, hin, keep _ ?_⟩
            rw [if_neg hne, if_neg hne, c2, ekn]
      exact inner 0 (Nat.zero_le _) pa (fun c hc s hs => rfl) (fun t ht => absurd ht (Nat.not_lt_zero t))
  exact loop 0 (Nat.zero_le _) 0 F_springs F_drains F_passes ⟨rfl, fun c hc => absurd hc (Nat.not_lt_zero c)⟩

