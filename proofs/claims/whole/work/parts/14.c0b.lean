theorem hde_X0_layAlong : yX0_layAlong.cls = RX0 ∧ yX0_layAlong.cls ≠ "java/lang/invoke/MethodHandle" ∧ yX0_layAlong.cls ≠ "java/lang/invoke/VarHandle" ∧ (parseMethodDescriptor yX0_layAlong.desc).map (fun d => d.parameters.length) = some 4 := by decide +kernel
abbrev w1X0_layAlong (ad : Nat → Nat) (cA : Nat → ClassId) (C_size : Int32) (C_sides : Nat → Int32) (u : (Nat → Int32) × (Nat → Int32)) : va_W := [((ad 1), .inr (0, [.ref (ad 2), .ref (ad 3), .ref (ad 4), .ref (ad 5), .ref (ad 6), .ref (ad 7), .int C_size])), ((ad 2), .inl (cA 0, 3, .inl C_sides)), ((ad 6), .inl (cA 0, 108, .inl u.1)), ((ad 7), .inl (cA 0, 216, .inl u.2))]
abbrev wcX0_layAlong (ad : Nat → Nat) (cA : Nat → ClassId) (C_size : Int32) (C_sides : Nat → Int32) (C_places : Nat → Int32) (C_beyond : Nat → Int32) : va_W := [((ad 1), .inr (0, [.ref (ad 2), .ref (ad 3), .ref (ad 4), .ref (ad 5), .ref (ad 6), .ref (ad 7), .int C_size])), ((ad 2), .inl (cA 0, 3, .inl C_sides)), ((ad 6), .inl (cA 0, 108, .inl C_places)), ((ad 7), .inl (cA 0, 216, .inl C_beyond))]
def rmX0_layAlong : Room := { frames := 0, cells := 0, slots := 0, locals := 0 }
abbrev atX0_layAlong_0 (X : gX) (ad : Nat → Nat) (cA : Nat → ClassId) (p1 : Int32) (p2 : Int32) (p3 : Int32) (p4 : Int32) (C_size : Int32) (C_sides : Nat → Int32) (C_places : Nat → Int32) (C_beyond : Nat → Int32) : Prop := gW X 0 0 [((ad 1), .inr (0, [.ref (ad 2), .ref (ad 3), .ref (ad 4), .ref (ad 5), .ref (ad 6), .ref (ad 7), .int C_size])), ((ad 2), .inl (cA 0, 3, .inl C_sides)), ((ad 6), .inl (cA 0, 108, .inl C_places)), ((ad 7), .inl (cA 0, 216, .inl C_beyond))] 6 [(0, .ref (ad 1)), (1, .int p1), (2, .int p2), (3, .int p3), (4, .int p4)] [] 0
theorem giX0_layAlong_X0 : ∀ w ∈ u_ws RX0 TX0 7, w ∈ wsX0_layAlong := by decide +kernel
theorem gfX0_layAlong_24 : gF wsX0_layAlong RX0 24 0 4 RX0 TX0 7 := ⟨giX0_layAlong_X0, by decide +kernel, rfl, by decide⟩
theorem gfX0_layAlong_27 : gF wsX0_layAlong RX0 27 0 5 RX0 TX0 7 := ⟨giX0_layAlong_X0, by decide +kernel, rfl, by decide⟩
theorem gfX0_layAlong_9 : gF wsX0_layAlong RX0 9 0 0 RX0 TX0 7 := ⟨giX0_layAlong_X0, by decide +kernel, rfl, by decide⟩
set_option maxHeartbeats 4000000 in
set_option maxRecDepth 100000 in
theorem sgX0_layAlong_0 {X : gX} {ad : Nat → Nat} {cA : Nat → ClassId} {post : ((Nat → Int32) × (Nat → Int32)) → Prop} {p1 : Int32} {p2 : Int32} {p3 : Int32} {p4 : Int32} {C_size : Int32} {C_sides : Nat → Int32} {C_places : Nat → Int32} {C_beyond : Nat → Int32} (C : gC X (gT cA) cX0_layAlong 6 RX0 wsX0_layAlong rmX0_layAlong) (E : gEv X none (gT cA) 0 0 post (w1X0_layAlong ad cA C_size C_sides)) (h : ∀ x5_1 : Int32, x5_1 = ((p2 * (6 : Int32)) + ((2 : Int32) * p1)) → vp_in ((p2 * (3 : Int32)) + p1) 108 ∧ vp_in p1 3 ∧ vp_in x5_1 216 ∧ vp_in (x5_1 + (1 : Int32)) 216 ∧ post ((upd C_places ((p2 * (3 : Int32)) + p1).toNatClampNeg p3), (upd (upd C_beyond x5_1.toNatClampNeg (if (C_sides p1.toNatClampNeg) ≤ (p3 + (1 : Int32)) then (-1 : Int32) else (p2 + p4))) (x5_1 + (1 : Int32)).toNatClampNeg (if p3 ≤ 0 then (-1 : Int32) else (p2 - p4))))) : atX0_layAlong_0 X ad cA p1 p2 p3 p4 C_size C_sides C_places C_beyond := by
  refine g_iload_n C dX0_layAlong_0 rfl 2 rfl ?_
  refine g_bipush C dX0_layAlong_1 bk_6 ?_
  refine g_imul C dX0_layAlong_3 ?_
  refine g_iconst C dX0_layAlong_4 ik_2 ?_
  refine g_iload_n C dX0_layAlong_5 rfl 1 rfl ?_
  refine g_imul C dX0_layAlong_6 ?_
  refine g_iadd C dX0_layAlong_7 ?_
  refine g_topi (fun x5_1 ex5_1 => ?_)
  replace h := h x5_1 ex5_1
  refine g_istore (lv2 := [(0, .ref (ad 1)), (1, .int p1), (2, .int p2), (3, .int p3), (4, .int p4), (5, .int x5_1)]) C dX0_layAlong_8 (by decide) [1, 2, 3, 4, 5, 0] rfl ?_
  refine g_aload_n C dX0_layAlong_10 rfl 0 rfl ?_
  refine g_get C gfX0_layAlong_24 0 rfl rfl dX0_layAlong_11 ?_
  refine g_iload_n C dX0_layAlong_14 rfl 2 rfl ?_
  refine g_iconst C dX0_layAlong_15 ik_3 ?_
  refine g_imul C dX0_layAlong_16 ?_
  refine g_iload_n C dX0_layAlong_17 rfl 1 rfl ?_
  refine g_iadd C dX0_layAlong_18 ?_
  refine g_iload_n C dX0_layAlong_19 rfl 3 rfl ?_
  obtain ⟨hi_2, h⟩ := h
  refine g_iast (ws2 := [((ad 1), .inr (0, [.ref (ad 2), .ref (ad 3), .ref (ad 4), .ref (ad 5), .ref (ad 6), .ref (ad 7), .int C_size])), ((ad 2), .inl (cA 0, 3, .inl C_sides)), ((ad 6), .inl (cA 0, 108, .inl (upd C_places ((p2 * (3 : Int32)) + p1).toNatClampNeg p3))), ((ad 7), .inl (cA 0, 216, .inl C_beyond))]) C 2 0 rfl rfl hi_2 rfl dX0_layAlong_20 ?_
  refine g_aload_n C dX0_layAlong_21 rfl 0 rfl ?_
  refine g_get C gfX0_layAlong_27 0 rfl rfl dX0_layAlong_22 ?_
  refine g_iload C dX0_layAlong_25 5 rfl ?_
  refine g_iload_n C dX0_layAlong_27 rfl 3 rfl ?_
  refine g_iconst C dX0_layAlong_28 ik_1 ?_
  refine g_iadd C dX0_layAlong_29 ?_
  refine g_aload_n C dX0_layAlong_30 rfl 0 rfl ?_
  refine g_get C gfX0_layAlong_9 0 rfl rfl dX0_layAlong_31 ?_
  refine g_iload_n C dX0_layAlong_34 rfl 1 rfl ?_
  obtain ⟨hi_3, h⟩ := h
  refine g_iald C 1 0 rfl rfl hi_3 dX0_layAlong_35 ?_
  have key : gW X 0 0 [((ad 1), .inr (0, [.ref (ad 2), .ref (ad 3), .ref (ad 4), .ref (ad 5), .ref (ad 6), .ref (ad 7), .int C_size])), ((ad 2), .inl (cA 0, 3, .inl C_sides)), ((ad 6), .inl (cA 0, 108, .inl (upd C_places ((p2 * (3 : Int32)) + p1).toNatClampNeg p3))), ((ad 7), .inl (cA 0, 216, .inl C_beyond))] 6 [(0, .ref (ad 1)), (1, .int p1), (2, .int p2), (3, .int p3), (4, .int p4), (5, .int x5_1)] [.int (if (C_sides p1.toNatClampNeg) ≤ (p3 + (1 : Int32)) then (-1 : Int32) else (p2 + p4)), .int x5_1, .ref (ad 7)] 47 := by
    obtain ⟨hi_5, h⟩ := h
    refine g_iast (ws2 := [((ad 1), .inr (0, [.ref (ad 2), .ref (ad 3), .ref (ad 4), .ref (ad 5), .ref (ad 6), .ref (ad 7), .int C_size])), ((ad 2), .inl (cA 0, 3, .inl C_sides)), ((ad 6), .inl (cA 0, 108, .inl (upd C_places ((p2 * (3 : Int32)) + p1).toNatClampNeg p3))), ((ad 7), .inl (cA 0, 216, .inl (upd C_beyond x5_1.toNatClampNeg (if (C_sides p1.toNatClampNeg) ≤ (p3 + (1 : Int32)) then (-1 : Int32) else (p2 + p4)))))]) C 3 0 rfl rfl hi_5 rfl dX0_layAlong_47 ?_
    refine g_aload_n C dX0_layAlong_48 rfl 0 rfl ?_
    refine g_get C gfX0_layAlong_27 0 rfl rfl dX0_layAlong_49 ?_
    refine g_iload C dX0_layAlong_52 5 rfl ?_
    refine g_iconst C dX0_layAlong_54 ik_1 ?_
    refine g_iadd C dX0_layAlong_55 ?_
    refine g_iload_n C dX0_layAlong_56 rfl 3 rfl ?_
    have key : gW X 0 0 [((ad 1), .inr (0, [.ref (ad 2), .ref (ad 3), .ref (ad 4), .ref (ad 5), .ref (ad 6), .ref (ad 7), .int C_size])), ((ad 2), .inl (cA 0, 3, .inl C_sides)), ((ad 6), .inl (cA 0, 108, .inl (upd C_places ((p2 * (3 : Int32)) + p1).toNatClampNeg p3))), ((ad 7), .inl (cA 0, 216, .inl (upd C_beyond x5_1.toNatClampNeg (if (C_sides p1.toNatClampNeg) ≤ (p3 + (1 : Int32)) then (-1 : Int32) else (p2 + p4)))))] 6 [(0, .ref (ad 1)), (1, .int p1), (2, .int p2), (3, .int p3), (4, .int p4), (5, .int x5_1)] [.int (if p3 ≤ 0 then (-1 : Int32) else (p2 - p4)), .int (x5_1 + (1 : Int32)), .ref (ad 7)] 68 := by
      obtain ⟨hi_7, h⟩ := h
      refine g_iast (ws2 := [((ad 1), .inr (0, [.ref (ad 2), .ref (ad 3), .ref (ad 4), .ref (ad 5), .ref (ad 6), .ref (ad 7), .int C_size])), ((ad 2), .inl (cA 0, 3, .inl C_sides)), ((ad 6), .inl (cA 0, 108, .inl (upd C_places ((p2 * (3 : Int32)) + p1).toNatClampNeg p3))), ((ad 7), .inl (cA 0, 216, .inl (upd (upd C_beyond x5_1.toNatClampNeg (if (C_sides p1.toNatClampNeg) ≤ (p3 + (1 : Int32)) then (-1 : Int32) else (p2 + p4))) (x5_1 + (1 : Int32)).toNatClampNeg (if p3 ≤ 0 then (-1 : Int32) else (p2 - p4)))))]) C 3 0 rfl rfl hi_7 rfl dX0_layAlong_68 ?_
      exact g_vret C E ((upd C_places ((p2 * (3 : Int32)) + p1).toNatClampNeg p3), (upd (upd C_beyond x5_1.toNatClampNeg (if (C_sides p1.toNatClampNeg) ≤ (p3 + (1 : Int32)) then (-1 : Int32) else (p2 + p4))) (x5_1 + (1 : Int32)).toNatClampNeg (if p3 ≤ 0 then (-1 : Int32) else (p2 - p4)))) h rfl dX0_layAlong_69
    refine g_if_le (tgt := 67) C dX0_layAlong_57 (by decide) (fun c_6 => ?_) (fun c_6 => ?_)
    · refine g_iconst C dX0_layAlong_67 ik_m1 ?_
      exact g_leaf (by simp only [if_pos c_6] at key; first | exact key | (simp only [if_pos c_6]; exact key) | exact absurd rfl c_6)
    · refine g_iload_n C dX0_layAlong_60 rfl 2 rfl ?_
      refine g_iload C dX0_layAlong_61 4 rfl ?_
      refine g_isub C dX0_layAlong_63 ?_
      refine g_goto (tgt := 68) C dX0_layAlong_64 (by decide) ?_
      exact g_leaf (by simp only [if_neg c_6] at key; first | exact key | (simp only [if_neg c_6]; exact key) | exact absurd rfl c_6)
  refine g_icmp_ge (tgt := 46) C dX0_layAlong_36 (by decide) (fun c_4 => ?_) (fun c_4 => ?_)
  · refine g_iconst C dX0_layAlong_46 ik_m1 ?_
    exact g_leaf (by simp only [if_pos c_4] at key; first | exact key | (simp only [if_pos c_4]; exact key) | exact absurd rfl c_4)
  · refine g_iload_n C dX0_layAlong_39 rfl 2 rfl ?_
    refine g_iload C dX0_layAlong_40 4 rfl ?_
    refine g_iadd C dX0_layAlong_42 ?_
    refine g_goto (tgt := 47) C dX0_layAlong_43 (by decide) ?_
    exact g_leaf (by simp only [if_neg c_4] at key; first | exact key | (simp only [if_neg c_4]; exact key) | exact absurd rfl c_4)
def prX0_layAlong (p1 : Int32) (p2 : Int32) (p3 : Int32) (p4 : Int32) (C_size : Int32) (C_sides : Nat → Int32) (C_places : Nat → Int32) (C_beyond : Nat → Int32) : Prop := ∃ k c p st d : Nat, k < 3 ∧ c < 36 ∧ p < 4 ∧ st ≤ 16 ∧ d ≤ 4 ∧ (0 < p → st ≤ c) ∧ p1 = nI k ∧ p2 = nI c ∧ p3 = nI p ∧ p4 = nI st ∧ C_sides k = nI d
def po_X0_layAlong (ad : Nat → Nat) (cA : Nat → ClassId) (p1 : Int32) (p2 : Int32) (p3 : Int32) (p4 : Int32) (C_size : Int32) (C_sides : Nat → Int32) (C_places : Nat → Int32) (C_beyond : Nat → Int32) (u : (Nat → Int32) × (Nat → Int32)) : Prop := ∀ k c p st d : Nat, k < 3 → c < 36 → p < 4 → st ≤ 16 → d ≤ 4 → (0 < p → st ≤ c) → p1 = nI k → p2 = nI c → p3 = nI p → p4 = nI st → C_sides k = nI d → u.1 = upd C_places (3 * c + k) (nI p) ∧ u.2 = upd (upd C_beyond (6 * c + 2 * k) (if p + 1 < d then nI (c + st) else -1)) (6 * c + 2 * k + 1) (if 0 < p then nI (c - st) else -1)
set_option maxHeartbeats 4000000 in
set_option maxRecDepth 100000 in
theorem c_X0_layAlong (ad : Nat → Nat) (cA : Nat → ClassId) (p1 : Int32) (p2 : Int32) (p3 : Int32) (p4 : Int32) (C_size : Int32) (C_sides : Nat → Int32) (C_places : Nat → Int32) (C_beyond : Nat → Int32) (hq : prX0_layAlong p1 p2 p3 p4 C_size C_sides C_places C_beyond) : ∀ (l : Launch) (D : va_G), gMv (S := (Nat → Int32) × (Nat → Int32)) l yX0_layAlong wsX0_layAlong rmX0_layAlong D (gT cA) 0 0 [.ref (ad 1), .int p1, .int p2, .int p3, .int p4] (wcX0_layAlong ad cA C_size C_sides C_places C_beyond) (po_X0_layAlong ad cA p1 p2 p3 p4 C_size C_sides C_places C_beyond) (w1X0_layAlong ad cA C_size C_sides) := by
  intro l D
  unfold prX0_layAlong at hq
  refine g_enterv (cc := cX0_layAlong) (nL := 6) (ret := none) (by decide) rfl (Nat.le_of_ble_eq_true rfl) rfl (fun X C E => ?_)
  obtain ⟨k, c, p, st, d, hk, hc, hp, hst, hd, hle, rfl, rfl, rfl, rfl, hsd⟩ := hq
  have e1 : nI c * (3 : Int32) + nI k = nI (3 * c + k) := by show nI c * nI 3 + _ = _; rw [pk_mul, nI_add, Nat.mul_comm]
  have e2 : nI c * (6 : Int32) + (2 : Int32) * nI k = nI (6 * c + 2 * k) := by show nI c * nI 6 + nI 2 * _ = _; rw [pk_mul, pk_mul, nI_add, Nat.mul_comm]
  have e3 : nI (6 * c + 2 * k) + (1 : Int32) = nI (6 * c + 2 * k + 1) := nI_1 _
  refine sgX0_layAlong_0 C E ?_
  rw [e1, e2]
  have fin : po_X0_layAlong ad cA (nI k) (nI c) (nI p) (nI st) C_size C_sides C_places C_beyond (upd C_places (3 * c + k) (nI p), upd (upd C_beyond (6 * c + 2 * k) (if p + 1 < d then nI (c + st) else -1)) (6 * c + 2 * k + 1) (if 0 < p then nI (c - st) else -1)) := by
    intro k' c' p' st' d' hk' hc' hp' hst' hd' hle' q1 q2 q3 q4 q5
    rw [nI_eq (by omega) (by omega)] at q1 q2 q3 q4
    subst q1; subst q2; subst q3; subst q4
    rw [hsd, nI_eq (by omega) (by omega)] at q5
    subst q5
    exact ⟨rfl, rfl⟩
  have k1 : (if nI d ≤ nI p + 1 then (-1 : Int32) else nI c + nI st) = (if p + 1 < d then nI (c + st) else -1) := by
    rw [nI_1, nI_add]
    by_cases q : p + 1 < d
    · rw [if_pos q, if_neg (nI_ge q (by omega))]
    · rw [if_neg q, if_pos (nI_le (by omega) (by omega))]
  have k2 : (if nI p ≤ 0 then (-1 : Int32) else nI c - nI st) = (if 0 < p then nI (c - st) else -1) := by
    by_cases q : 0 < p
    · rw [if_pos q, if_neg (nI_nle q (by omega)), pk_sub (hle q)]
    · have e0 : p = 0 := by omega
      rw [if_neg q, e0]; exact if_pos (i32_le_refl _)
  intro x5 ex5
  rw [ex5, e3, nI_clamp (n := 3 * c + k) (by omega), nI_clamp (n := k) (by omega), nI_clamp (n := 6 * c + 2 * k) (by omega), nI_clamp (n := 6 * c + 2 * k + 1) (by omega), hsd, k1, k2]
  exact ⟨vp_in_nI (by omega) (by decide), vp_in_nI (by omega) (by decide), vp_in_nI (by omega) (by decide), vp_in_nI (by omega) (by decide), fin⟩


abbrev w1X0_lay (ad : Nat → Nat) (cA : Nat → ClassId) (u : (Int32) × (Nat → Int32) × (Nat → Int32) × (Nat → Int32) × (Nat → Int32) × (Nat → Int32)) : va_W := [((ad 1), .inr (0, [.ref (ad 2), .ref (ad 3), .ref (ad 4), .ref (ad 5), .ref (ad 6), .ref (ad 7), .int u.1])), ((ad 2), .inl (cA 0, 3, .inl u.2.1)), ((ad 3), .inl (cA 0, 36, .inl u.2.2.1)), ((ad 4), .inl (cA 0, 36, .inl u.2.2.2.1)), ((ad 6), .inl (cA 0, 108, .inl u.2.2.2.2.1)), ((ad 7), .inl (cA 0, 216, .inl u.2.2.2.2.2))]
abbrev wcX0_lay (ad : Nat → Nat) (cA : Nat → ClassId) (C_size : Int32) (C_sides : Nat → Int32) (C_held : Nat → Int32) (C_prices : Nat → Int32) (C_places : Nat → Int32) (C_beyond : Nat → Int32) : va_W := [((ad 1), .inr (0, [.ref (ad 2), .ref (ad 3), .ref (ad 4), .ref (ad 5), .ref (ad 6), .ref (ad 7), .int C_size])), ((ad 2), .inl (cA 0, 3, .inl C_sides)), ((ad 3), .inl (cA 0, 36, .inl C_held)), ((ad 4), .inl (cA 0, 36, .inl C_prices)), ((ad 6), .inl (cA 0, 108, .inl C_places)), ((ad 7), .inl (cA 0, 216, .inl C_beyond))]
def rmX0_lay : Room := { frames := 1, cells := 0, slots := 0, locals := 25 }
abbrev atX0_lay_0 (X : gX) (ad : Nat → Nat) (cA : Nat → ClassId) (p1 : Int32) (p2 : Int32) (p3 : Int32) (C_size : Int32) (C_sides : Nat → Int32) (C_held : Nat → Int32) (C_prices : Nat → Int32) (C_places : Nat → Int32) (C_beyond : Nat → Int32) : Prop := gW X 0 0 [((ad 1), .inr (0, [.ref (ad 2), .ref (ad 3), .ref (ad 4), .ref (ad 5), .ref (ad 6), .ref (ad 7), .int C_size])), ((ad 2), .inl (cA 0, 3, .inl C_sides)), ((ad 3), .inl (cA 0, 36, .inl C_held)), ((ad 4), .inl (cA 0, 36, .inl C_prices)), ((ad 6), .inl (cA 0, 108, .inl C_places)), ((ad 7), .inl (cA 0, 216, .inl C_beyond))] 8 [(0, .ref (ad 1)), (1, .int p1), (2, .int p2), (3, .int p3)] [] 0
abbrev atX0_lay_52 (X : gX) (ad : Nat → Nat) (cA : Nat → ClassId) (x1 : Int32) (x2 : Int32) (x3 : Int32) (x4 : Int32) (x5 : Int32) (C_size : Int32) (C_sides : Nat → Int32) (C_held : Nat → Int32) (C_prices : Nat → Int32) (C_places : Nat → Int32) (C_beyond : Nat → Int32) : Prop := gW X 0 0 [((ad 1), .inr (0, [.ref (ad 2), .ref (ad 3), .ref (ad 4), .ref (ad 5), .ref (ad 6), .ref (ad 7), .int C_size])), ((ad 2), .inl (cA 0, 3, .inl C_sides)), ((ad 3), .inl (cA 0, 36, .inl C_held)), ((ad 4), .inl (cA 0, 36, .inl C_prices)), ((ad 6), .inl (cA 0, 108, .inl C_places)), ((ad 7), .inl (cA 0, 216, .inl C_beyond))] 8 [(0, .ref (ad 1)), (1, .int x1), (2, .int x2), (3, .int x3), (4, .int x4), (5, .int x5)] [] 52
abbrev atX0_lay_61 (X : gX) (ad : Nat → Nat) (cA : Nat → ClassId) (x1 : Int32) (x2 : Int32) (x3 : Int32) (x4 : Int32) (x5 : Int32) (x6 : Int32) (C_size : Int32) (C_sides : Nat → Int32) (C_held : Nat → Int32) (C_prices : Nat → Int32) (C_places : Nat → Int32) (C_beyond : Nat → Int32) : Prop := gW X 0 0 [((ad 1), .inr (0, [.ref (ad 2), .ref (ad 3), .ref (ad 4), .ref (ad 5), .ref (ad 6), .ref (ad 7), .int C_size])), ((ad 2), .inl (cA 0, 3, .inl C_sides)), ((ad 3), .inl (cA 0, 36, .inl C_held)), ((ad 4), .inl (cA 0, 36, .inl C_prices)), ((ad 6), .inl (cA 0, 108, .inl C_places)), ((ad 7), .inl (cA 0, 216, .inl C_beyond))] 8 [(0, .ref (ad 1)), (1, .int x1), (2, .int x2), (3, .int x3), (4, .int x4), (5, .int x5), (6, .int x6)] [] 61
abbrev atX0_lay_70 (X : gX) (ad : Nat → Nat) (cA : Nat → ClassId) (x1 : Int32) (x2 : Int32) (x3 : Int32) (x4 : Int32) (x5 : Int32) (x6 : Int32) (x7 : Int32) (C_size : Int32) (C_sides : Nat → Int32) (C_held : Nat → Int32) (C_prices : Nat → Int32) (C_places : Nat → Int32) (C_beyond : Nat → Int32) : Prop := gW X 0 0 [((ad 1), .inr (0, [.ref (ad 2), .ref (ad 3), .ref (ad 4), .ref (ad 5), .ref (ad 6), .ref (ad 7), .int C_size])), ((ad 2), .inl (cA 0, 3, .inl C_sides)), ((ad 3), .inl (cA 0, 36, .inl C_held)), ((ad 4), .inl (cA 0, 36, .inl C_prices)), ((ad 6), .inl (cA 0, 108, .inl C_places)), ((ad 7), .inl (cA 0, 216, .inl C_beyond))] 8 [(0, .ref (ad 1)), (1, .int x1), (2, .int x2), (3, .int x3), (4, .int x4), (5, .int x5), (6, .int x6), (7, .int x7)] [] 70
theorem giX0_lay_X0 : ∀ w ∈ u_ws RX0 TX0 7, w ∈ wsX0_lay := by decide +kernel
theorem gfX0_lay_9 : gF wsX0_lay RX0 9 0 0 RX0 TX0 7 := ⟨giX0_lay_X0, by decide +kernel, rfl, by decide⟩
theorem gfX0_lay_30 : gF wsX0_lay RX0 30 0 6 RX0 TX0 7 := ⟨giX0_lay_X0, by decide +kernel, rfl, by decide⟩
theorem gfX0_lay_15 : gF wsX0_lay RX0 15 0 1 RX0 TX0 7 := ⟨giX0_lay_X0, by decide +kernel, rfl, by decide⟩
theorem gfX0_lay_18 : gF wsX0_lay RX0 18 0 2 RX0 TX0 7 := ⟨giX0_lay_X0, by decide +kernel, rfl, by decide⟩
set_option maxHeartbeats 4000000 in
set_option maxRecDepth 100000 in
theorem sgX0_lay_0 {X : gX} {ad : Nat → Nat} {cA : Nat → ClassId} {post : ((Int32) × (Nat → Int32) × (Nat → Int32) × (Nat → Int32) × (Nat → Int32) × (Nat → Int32)) → Prop} {p1 : Int32} {p2 : Int32} {p3 : Int32} {C_size : Int32} {C_sides : Nat → Int32} {C_held : Nat → Int32} {C_prices : Nat → Int32} {C_places : Nat → Int32} {C_beyond : Nat → Int32} (C : gC X (gT cA) cX0_lay 8 RX0 wsX0_lay rmX0_lay) (E : gEv X none (gT cA) 0 0 post (w1X0_lay ad cA)) (h : vp_in (0 : Int32) 3 ∧ vp_in (1 : Int32) 3 ∧ vp_in (2 : Int32) 3 ∧ prJ7_fill_53178 (ad 3) 36 (0 : Int32) C_held ∧ prJ7_fill_53178 (ad 4) 36 (0 : Int32) C_prices ∧ atX0_lay_52 X ad cA p1 p2 p3 (0 : Int32) (0 : Int32) ((p1 * p2) * p3) (upd (upd (upd C_sides (0 : Int32).toNatClampNeg p1) (1 : Int32).toNatClampNeg p2) (2 : Int32).toNatClampNeg p3) (fillA 36 (0 : Int32) C_held) (fillA 36 (0 : Int32) C_prices) C_places C_beyond) : atX0_lay_0 X ad cA p1 p2 p3 C_size C_sides C_held C_prices C_places C_beyond := by
  refine g_aload_n C dX0_lay_0 rfl 0 rfl ?_
  refine g_get C gfX0_lay_9 0 rfl rfl dX0_lay_1 ?_
  refine g_iconst C dX0_lay_4 ik_0 ?_
  refine g_iload_n C dX0_lay_5 rfl 1 rfl ?_
  obtain ⟨hi_1, h⟩ := h
  refine g_iast (ws2 := [((ad 1), .inr (0, [.ref (ad 2), .ref (ad 3), .ref (ad 4), .ref (ad 5), .ref (ad 6), .ref (ad 7), .int C_size])), ((ad 2), .inl (cA 0, 3, .inl (upd C_sides (0 : Int32).toNatClampNeg p1))), ((ad 3), .inl (cA 0, 36, .inl C_held)), ((ad 4), .inl (cA 0, 36, .inl C_prices)), ((ad 6), .inl (cA 0, 108, .inl C_places)), ((ad 7), .inl (cA 0, 216, .inl C_beyond))]) C 1 0 rfl rfl hi_1 rfl dX0_lay_6 ?_
  refine g_aload_n C dX0_lay_7 rfl 0 rfl ?_
  refine g_get C gfX0_lay_9 0 rfl rfl dX0_lay_8 ?_
  refine g_iconst C dX0_lay_11 ik_1 ?_
  refine g_iload_n C dX0_lay_12 rfl 2 rfl ?_
  obtain ⟨hi_2, h⟩ := h
  refine g_iast (ws2 := [((ad 1), .inr (0, [.ref (ad 2), .ref (ad 3), .ref (ad 4), .ref (ad 5), .ref (ad 6), .ref (ad 7), .int C_size])), ((ad 2), .inl (cA 0, 3, .inl (upd (upd C_sides (0 : Int32).toNatClampNeg p1) (1 : Int32).toNatClampNeg p2))), ((ad 3), .inl (cA 0, 36, .inl C_held)), ((ad 4), .inl (cA 0, 36, .inl C_prices)), ((ad 6), .inl (cA 0, 108, .inl C_places)), ((ad 7), .inl (cA 0, 216, .inl C_beyond))]) C 1 0 rfl rfl hi_2 rfl dX0_lay_13 ?_
  refine g_aload_n C dX0_lay_14 rfl 0 rfl ?_
  refine g_get C gfX0_lay_9 0 rfl rfl dX0_lay_15 ?_
  refine g_iconst C dX0_lay_18 ik_2 ?_
  refine g_iload_n C dX0_lay_19 rfl 3 rfl ?_
  obtain ⟨hi_3, h⟩ := h
  refine g_iast (ws2 := [((ad 1), .inr (0, [.ref (ad 2), .ref (ad 3), .ref (ad 4), .ref (ad 5), .ref (ad 6), .ref (ad 7), .int C_size])), ((ad 2), .inl (cA 0, 3, .inl (upd (upd (upd C_sides (0 : Int32).toNatClampNeg p1) (1 : Int32).toNatClampNeg p2) (2 : Int32).toNatClampNeg p3))), ((ad 3), .inl (cA 0, 36, .inl C_held)), ((ad 4), .inl (cA 0, 36, .inl C_prices)), ((ad 6), .inl (cA 0, 108, .inl C_places)), ((ad 7), .inl (cA 0, 216, .inl C_beyond))]) C 1 0 rfl rfl hi_3 rfl dX0_lay_20 ?_
  refine g_aload_n C dX0_lay_21 rfl 0 rfl ?_
  refine g_iload_n C dX0_lay_22 rfl 1 rfl ?_
  refine g_iload_n C dX0_lay_23 rfl 2 rfl ?_
  refine g_imul C dX0_lay_24 ?_
  refine g_iload_n C dX0_lay_25 rfl 3 rfl ?_
  refine g_imul C dX0_lay_26 ?_
  refine g_put (ws2 := [((ad 1), .inr (0, [.ref (ad 2), .ref (ad 3), .ref (ad 4), .ref (ad 5), .ref (ad 6), .ref (ad 7), .int ((p1 * p2) * p3)])), ((ad 2), .inl (cA 0, 3, .inl (upd (upd (upd C_sides (0 : Int32).toNatClampNeg p1) (1 : Int32).toNatClampNeg p2) (2 : Int32).toNatClampNeg p3))), ((ad 3), .inl (cA 0, 36, .inl C_held)), ((ad 4), .inl (cA 0, 36, .inl C_prices)), ((ad 6), .inl (cA 0, 108, .inl C_places)), ((ad 7), .inl (cA 0, 216, .inl C_beyond))]) C gfX0_lay_30 0 tyX0_ok nmX0 rfl rfl rfl rfl (Nat.le_of_ble_eq_true rfl) rfl dX0_lay_27 ?_
  refine g_aload_n C dX0_lay_30 rfl 0 rfl ?_
  refine g_get C gfX0_lay_15 0 rfl rfl dX0_lay_31 ?_
  refine g_iconst C dX0_lay_34 ik_0 ?_
  obtain ⟨hi_4, h⟩ := h
  refine g_callSv (b := 0) (wr := [((ad 1), .inr (0, [.ref (ad 2), .ref (ad 3), .ref (ad 4), .ref (ad 5), .ref (ad 6), .ref (ad 7), .int ((p1 * p2) * p3)])), ((ad 2), .inl (cA 0, 3, .inl (upd (upd (upd C_sides (0 : Int32).toNatClampNeg p1) (1 : Int32).toNatClampNeg p2) (2 : Int32).toNatClampNeg p3))), ((ad 4), .inl (cA 0, 36, .inl C_prices)), ((ad 6), .inl (cA 0, 108, .inl C_places)), ((ad 7), .inl (cA 0, 216, .inl C_beyond))]) C (c_J7_fill_53178 ad cA (ad 3) 36 (0 : Int32) C_held hi_4) gX0_lay_J7_fill_53178 rfl hde_J7_fill_53178 ⟨rfl, rfl⟩ (by decide) (by decide) [2] [0, 1, 3, 4, 5] [0, 1, 5, 2, 3, 4] rfl rfl rfl rfl (by decide) rfl (ws2 := fun u => [((ad 1), .inr (0, [.ref (ad 2), .ref (ad 3), .ref (ad 4), .ref (ad 5), .ref (ad 6), .ref (ad 7), .int ((p1 * p2) * p3)])), ((ad 2), .inl (cA 0, 3, .inl (upd (upd (upd C_sides (0 : Int32).toNatClampNeg p1) (1 : Int32).toNatClampNeg p2) (2 : Int32).toNatClampNeg p3))), ((ad 3), .inl (cA 0, 36, .inl u)), ((ad 4), .inl (cA 0, 36, .inl C_prices)), ((ad 6), .inl (cA 0, 108, .inl C_places)), ((ad 7), .inl (cA 0, 216, .inl C_beyond))]) (fun _ => rfl) (rest := []) rfl (Nat.le_of_ble_eq_true rfl) dX0_lay_35 (fun u_5 hp_5 => ?_)
  subst hp_5
  change gW X 0 0 [((ad 1), .inr (0, [.ref (ad 2), .ref (ad 3), .ref (ad 4), .ref (ad 5), .ref (ad 6), .ref (ad 7), .int ((p1 * p2) * p3)])), ((ad 2), .inl (cA 0, 3, .inl (upd (upd (upd C_sides (0 : Int32).toNatClampNeg p1) (1 : Int32).toNatClampNeg p2) (2 : Int32).toNatClampNeg p3))), ((ad 3), .inl (cA 0, 36, .inl (fillA 36 (0 : Int32) C_held))), ((ad 4), .inl (cA 0, 36, .inl C_prices)), ((ad 6), .inl (cA 0, 108, .inl C_places)), ((ad 7), .inl (cA 0, 216, .inl C_beyond))] 8 [(0, .ref (ad 1)), (1, .int p1), (2, .int p2), (3, .int p3)] [] 38
  refine g_aload_n C dX0_lay_38 rfl 0 rfl ?_
  refine g_get C gfX0_lay_18 0 rfl rfl dX0_lay_39 ?_
  refine g_iconst C dX0_lay_42 ik_0 ?_
  obtain ⟨hi_6, h⟩ := h
  refine g_callSv (b := 0) (wr := [((ad 1), .inr (0, [.ref (ad 2), .ref (ad 3), .ref (ad 4), .ref (ad 5), .ref (ad 6), .ref (ad 7), .int ((p1 * p2) * p3)])), ((ad 2), .inl (cA 0, 3, .inl (upd (upd (upd C_sides (0 : Int32).toNatClampNeg p1) (1 : Int32).toNatClampNeg p2) (2 : Int32).toNatClampNeg p3))), ((ad 3), .inl (cA 0, 36, .inl (fillA 36 (0 : Int32) C_held))), ((ad 6), .inl (cA 0, 108, .inl C_places)), ((ad 7), .inl (cA 0, 216, .inl C_beyond))]) C (c_J7_fill_53178 ad cA (ad 4) 36 (0 : Int32) C_prices hi_6) gX0_lay_J7_fill_53178 rfl hde_J7_fill_53178 ⟨rfl, rfl⟩ (by decide) (by decide) [3] [0, 1, 2, 4, 5] [0, 1, 2, 5, 3, 4] rfl rfl rfl rfl (by decide) rfl (ws2 := fun u => [((ad 1), .inr (0, [.ref (ad 2), .ref (ad 3), .ref (ad 4), .ref (ad 5), .ref (ad 6), .ref (ad 7), .int ((p1 * p2) * p3)])), ((ad 2), .inl (cA 0, 3, .inl (upd (upd (upd C_sides (0 : Int32).toNatClampNeg p1) (1 : Int32).toNatClampNeg p2) (2 : Int32).toNatClampNeg p3))), ((ad 3), .inl (cA 0, 36, .inl (fillA 36 (0 : Int32) C_held))), ((ad 4), .inl (cA 0, 36, .inl u)), ((ad 6), .inl (cA 0, 108, .inl C_places)), ((ad 7), .inl (cA 0, 216, .inl C_beyond))]) (fun _ => rfl) (rest := []) rfl (Nat.le_of_ble_eq_true rfl) dX0_lay_43 (fun u_7 hp_7 => ?_)
  subst hp_7
  change gW X 0 0 [((ad 1), .inr (0, [.ref (ad 2), .ref (ad 3), .ref (ad 4), .ref (ad 5), .ref (ad 6), .ref (ad 7), .int ((p1 * p2) * p3)])), ((ad 2), .inl (cA 0, 3, .inl (upd (upd (upd C_sides (0 : Int32).toNatClampNeg p1) (1 : Int32).toNatClampNeg p2) (2 : Int32).toNatClampNeg p3))), ((ad 3), .inl (cA 0, 36, .inl (fillA 36 (0 : Int32) C_held))), ((ad 4), .inl (cA 0, 36, .inl (fillA 36 (0 : Int32) C_prices))), ((ad 6), .inl (cA 0, 108, .inl C_places)), ((ad 7), .inl (cA 0, 216, .inl C_beyond))] 8 [(0, .ref (ad 1)), (1, .int p1), (2, .int p2), (3, .int p3)] [] 46
  refine g_iconst C dX0_lay_46 ik_0 ?_
  refine g_istore (lv2 := [(0, .ref (ad 1)), (1, .int p1), (2, .int p2), (3, .int p3), (4, .int (0 : Int32))]) C dX0_lay_47 (by decide) [1, 2, 3, 4, 0] rfl ?_
  refine g_iconst C dX0_lay_49 ik_0 ?_
  refine g_istore (lv2 := [(0, .ref (ad 1)), (1, .int p1), (2, .int p2), (3, .int p3), (4, .int (0 : Int32)), (5, .int (0 : Int32))]) C dX0_lay_50 (by decide) [1, 2, 3, 4, 5, 0] rfl ?_
  exact g_lv [0, 1, 2, 3, 4, 5] rfl h
set_option maxHeartbeats 4000000 in
set_option maxRecDepth 100000 in
theorem sgX0_lay_52 {X : gX} {ad : Nat → Nat} {cA : Nat → ClassId} {post : ((Int32) × (Nat → Int32) × (Nat → Int32) × (Nat → Int32) × (Nat → Int32) × (Nat → Int32)) → Prop} {x1 : Int32} {x2 : Int32} {x3 : Int32} {x4 : Int32} {x5 : Int32} {C_size : Int32} {C_sides : Nat → Int32} {C_held : Nat → Int32} {C_prices : Nat → Int32} {C_places : Nat → Int32} {C_beyond : Nat → Int32} (C : gC X (gT cA) cX0_lay 8 RX0 wsX0_lay rmX0_lay) (E : gEv X none (gT cA) 0 0 post (w1X0_lay ad cA)) (h : (x3 ≤ x5 → post (C_size, C_sides, C_held, C_prices, C_places, C_beyond)) ∧ (¬ x3 ≤ x5 → atX0_lay_61 X ad cA x1 x2 x3 x4 x5 (0 : Int32) C_size C_sides C_held C_prices C_places C_beyond)) : atX0_lay_52 X ad cA x1 x2 x3 x4 x5 C_size C_sides C_held C_prices C_places C_beyond := by
  refine g_iload C dX0_lay_52 5 rfl ?_
  refine g_iload_n C dX0_lay_54 rfl 3 rfl ?_
  refine g_icmp_ge (tgt := 129) C dX0_lay_55 (by decide) (fun c_8 => ?_) (fun c_8 => ?_)
  · replace h := h.1 c_8
    exact g_vret C E (C_size, C_sides, C_held, C_prices, C_places, C_beyond) h rfl dX0_lay_129
  · replace h := h.2 c_8
    refine g_iconst C dX0_lay_58 ik_0 ?_
    refine g_istore (lv2 := [(0, .ref (ad 1)), (1, .int x1), (2, .int x2), (3, .int x3), (4, .int x4), (5, .int x5), (6, .int (0 : Int32))]) C dX0_lay_59 (by decide) [1, 2, 3, 4, 5, 6, 0] rfl ?_
    exact g_lv [0, 1, 2, 3, 4, 5, 6] rfl h
set_option maxHeartbeats 4000000 in
set_option maxRecDepth 100000 in
theorem sgX0_lay_61 {X : gX} {ad : Nat → Nat} {cA : Nat → ClassId} {post : ((Int32) × (Nat → Int32) × (Nat → Int32) × (Nat → Int32) × (Nat → Int32) × (Nat → Int32)) → Prop} {x1 : Int32} {x2 : Int32} {x3 : Int32} {x4 : Int32} {x5 : Int32} {x6 : Int32} {C_size : Int32} {C_sides : Nat → Int32} {C_held : Nat → Int32} {C_prices : Nat → Int32} {C_places : Nat → Int32} {C_beyond : Nat → Int32} (C : gC X (gT cA) cX0_lay 8 RX0 wsX0_lay rmX0_lay) (E : gEv X none (gT cA) 0 0 post (w1X0_lay ad cA)) (h : (x2 ≤ x6 → atX0_lay_52 X ad cA x1 x2 x3 x4 (x5 + 1) C_size C_sides C_held C_prices C_places C_beyond) ∧ (¬ x2 ≤ x6 → atX0_lay_70 X ad cA x1 x2 x3 x4 x5 x6 (0 : Int32) C_size C_sides C_held C_prices C_places C_beyond)) : atX0_lay_61 X ad cA x1 x2 x3 x4 x5 x6 C_size C_sides C_held C_prices C_places C_beyond := by
  refine g_iload C dX0_lay_61 6 rfl ?_
  refine g_iload_n C dX0_lay_63 rfl 2 rfl ?_
  refine g_icmp_ge (tgt := 123) C dX0_lay_64 (by decide) (fun c_9 => ?_) (fun c_9 => ?_)
  · replace h := h.1 c_9
    refine g_iinc (v := (x5 + 1)) (lv2 := [(0, .ref (ad 1)), (1, .int x1), (2, .int x2), (3, .int x3), (4, .int x4), (5, .int (x5 + 1)), (6, .int x6)]) C dX0_lay_123 5 rfl (by first | rfl | decide) (by decide) [1, 2, 3, 4, 5, 0, 6] rfl ?_
    refine g_goto (tgt := 52) C dX0_lay_126 (by decide) ?_
    exact g_lv [0, 1, 2, 3, 4, 5] rfl h
  · replace h := h.2 c_9
    refine g_iconst C dX0_lay_67 ik_0 ?_
    refine g_istore (lv2 := [(0, .ref (ad 1)), (1, .int x1), (2, .int x2), (3, .int x3), (4, .int x4), (5, .int x5), (6, .int x6), (7, .int (0 : Int32))]) C dX0_lay_68 (by decide) [1, 2, 3, 4, 5, 6, 7, 0] rfl ?_
    exact g_lv [0, 1, 2, 3, 4, 5, 6, 7] rfl h
set_option maxHeartbeats 4000000 in
set_option maxRecDepth 100000 in
theorem sgX0_lay_70 {X : gX} {ad : Nat → Nat} {cA : Nat → ClassId} {post : ((Int32) × (Nat → Int32) × (Nat → Int32) × (Nat → Int32) × (Nat → Int32) × (Nat → Int32)) → Prop} {x1 : Int32} {x2 : Int32} {x3 : Int32} {x4 : Int32} {x5 : Int32} {x6 : Int32} {x7 : Int32} {C_size : Int32} {C_sides : Nat → Int32} {C_held : Nat → Int32} {C_prices : Nat → Int32} {C_places : Nat → Int32} {C_beyond : Nat → Int32} (C : gC X (gT cA) cX0_lay 8 RX0 wsX0_lay rmX0_lay) (E : gEv X none (gT cA) 0 0 post (w1X0_lay ad cA)) (h : (x1 ≤ x7 → atX0_lay_61 X ad cA x1 x2 x3 x4 x5 (x6 + 1) C_size C_sides C_held C_prices C_places C_beyond) ∧ (¬ x1 ≤ x7 → prX0_layAlong (0 : Int32) x4 x7 (1 : Int32) C_size C_sides C_places C_beyond ∧ ∀ (u12_C_places : Nat → Int32) (u12_C_beyond : Nat → Int32), po_X0_layAlong ad cA (0 : Int32) x4 x7 (1 : Int32) C_size C_sides C_places C_beyond (u12_C_places, u12_C_beyond) → prX0_layAlong (1 : Int32) x4 x6 x1 C_size C_sides u12_C_places u12_C_beyond ∧ ∀ (u14_C_places : Nat → Int32) (u14_C_beyond : Nat → Int32), po_X0_layAlong ad cA (1 : Int32) x4 x6 x1 C_size C_sides u12_C_places u12_C_beyond (u14_C_places, u14_C_beyond) → prX0_layAlong (2 : Int32) x4 x5 (x1 * x2) C_size C_sides u14_C_places u14_C_beyond ∧ ∀ (u16_C_places : Nat → Int32) (u16_C_beyond : Nat → Int32), po_X0_layAlong ad cA (2 : Int32) x4 x5 (x1 * x2) C_size C_sides u14_C_places u14_C_beyond (u16_C_places, u16_C_beyond) → atX0_lay_70 X ad cA x1 x2 x3 (x4 + 1) x5 x6 (x7 + 1) C_size C_sides C_held C_prices u16_C_places u16_C_beyond)) : atX0_lay_70 X ad cA x1 x2 x3 x4 x5 x6 x7 C_size C_sides C_held C_prices C_places C_beyond := by
  refine g_iload C dX0_lay_70 7 rfl ?_
  refine g_iload_n C dX0_lay_72 rfl 1 rfl ?_
  refine g_icmp_ge (tgt := 117) C dX0_lay_73 (by decide) (fun c_10 => ?_) (fun c_10 => ?_)
  · replace h := h.1 c_10
    refine g_iinc (v := (x6 + 1)) (lv2 := [(0, .ref (ad 1)), (1, .int x1), (2, .int x2), (3, .int x3), (4, .int x4), (5, .int x5), (6, .int (x6 + 1)), (7, .int x7)]) C dX0_lay_117 6 rfl (by first | rfl | decide) (by decide) [1, 2, 3, 4, 5, 6, 0, 7] rfl ?_
    refine g_goto (tgt := 61) C dX0_lay_120 (by decide) ?_
    exact g_lv [0, 1, 2, 3, 4, 5, 6] rfl h
  · replace h := h.2 c_10
    refine g_aload_n C dX0_lay_76 rfl 0 rfl ?_
    refine g_iconst C dX0_lay_77 ik_0 ?_
    refine g_iload C dX0_lay_78 4 rfl ?_
    refine g_iload C dX0_lay_80 7 rfl ?_
    refine g_iconst C dX0_lay_82 ik_1 ?_
    obtain ⟨hi_11, h⟩ := h
    refine g_callVv (wr := [((ad 3), .inl (cA 0, 36, .inl C_held)), ((ad 4), .inl (cA 0, 36, .inl C_prices))]) C (c_X0_layAlong ad cA (0 : Int32) x4 x7 (1 : Int32) C_size C_sides C_places C_beyond hi_11) gX0_lay_X0_layAlong rfl hde_X0_layAlong ⟨rfl, rfl⟩ (by decide) (by decide) [0, 1, 4, 5] [2, 3] [2, 3, 0, 1, 4, 5] rfl rfl rfl rfl (by decide) rfl (ws2 := fun u => [((ad 1), .inr (0, [.ref (ad 2), .ref (ad 3), .ref (ad 4), .ref (ad 5), .ref (ad 6), .ref (ad 7), .int C_size])), ((ad 2), .inl (cA 0, 3, .inl C_sides)), ((ad 3), .inl (cA 0, 36, .inl C_held)), ((ad 4), .inl (cA 0, 36, .inl C_prices)), ((ad 6), .inl (cA 0, 108, .inl u.1)), ((ad 7), .inl (cA 0, 216, .inl u.2))]) (fun _ => rfl) 0 0 rfl rfl rfl (rest := []) rfl (Nat.le_of_ble_eq_true rfl) dX0_lay_83 (fun u_12 hp_12 => ?_)
    obtain ⟨u12_C_places, u12_C_beyond⟩ := u_12
    replace h := h u12_C_places u12_C_beyond hp_12
    change gW X 0 0 [((ad 1), .inr (0, [.ref (ad 2), .ref (ad 3), .ref (ad 4), .ref (ad 5), .ref (ad 6), .ref (ad 7), .int C_size])), ((ad 2), .inl (cA 0, 3, .inl C_sides)), ((ad 3), .inl (cA 0, 36, .inl C_held)), ((ad 4), .inl (cA 0, 36, .inl C_prices)), ((ad 6), .inl (cA 0, 108, .inl u12_C_places)), ((ad 7), .inl (cA 0, 216, .inl u12_C_beyond))] 8 [(0, .ref (ad 1)), (1, .int x1), (2, .int x2), (3, .int x3), (4, .int x4), (5, .int x5), (6, .int x6), (7, .int x7)] [] 86
    refine g_aload_n C dX0_lay_86 rfl 0 rfl ?_
    refine g_iconst C dX0_lay_87 ik_1 ?_
    refine g_iload C dX0_lay_88 4 rfl ?_
    refine g_iload C dX0_lay_90 6 rfl ?_
    refine g_iload_n C dX0_lay_92 rfl 1 rfl ?_
    obtain ⟨hi_13, h⟩ := h
    refine g_callVv (wr := [((ad 3), .inl (cA 0, 36, .inl C_held)), ((ad 4), .inl (cA 0, 36, .inl C_prices))]) C (c_X0_layAlong ad cA (1 : Int32) x4 x6 x1 C_size C_sides u12_C_places u12_C_beyond hi_13) gX0_lay_X0_layAlong rfl hde_X0_layAlong ⟨rfl, rfl⟩ (by decide) (by decide) [0, 1, 4, 5] [2, 3] [2, 3, 0, 1, 4, 5] rfl rfl rfl rfl (by decide) rfl (ws2 := fun u => [((ad 1), .inr (0, [.ref (ad 2), .ref (ad 3), .ref (ad 4), .ref (ad 5), .ref (ad 6), .ref (ad 7), .int C_size])), ((ad 2), .inl (cA 0, 3, .inl C_sides)), ((ad 3), .inl (cA 0, 36, .inl C_held)), ((ad 4), .inl (cA 0, 36, .inl C_prices)), ((ad 6), .inl (cA 0, 108, .inl u.1)), ((ad 7), .inl (cA 0, 216, .inl u.2))]) (fun _ => rfl) 0 0 rfl rfl rfl (rest := []) rfl (Nat.le_of_ble_eq_true rfl) dX0_lay_93 (fun u_14 hp_14 => ?_)
    obtain ⟨u14_C_places, u14_C_beyond⟩ := u_14
    replace h := h u14_C_places u14_C_beyond hp_14
    change gW X 0 0 [((ad 1), .inr (0, [.ref (ad 2), .ref (ad 3), .ref (ad 4), .ref (ad 5), .ref (ad 6), .ref (ad 7), .int C_size])), ((ad 2), .inl (cA 0, 3, .inl C_sides)), ((ad 3), .inl (cA 0, 36, .inl C_held)), ((ad 4), .inl (cA 0, 36, .inl C_prices)), ((ad 6), .inl (cA 0, 108, .inl u14_C_places)), ((ad 7), .inl (cA 0, 216, .inl u14_C_beyond))] 8 [(0, .ref (ad 1)), (1, .int x1), (2, .int x2), (3, .int x3), (4, .int x4), (5, .int x5), (6, .int x6), (7, .int x7)] [] 96
    refine g_aload_n C dX0_lay_96 rfl 0 rfl ?_
    refine g_iconst C dX0_lay_97 ik_2 ?_
    refine g_iload C dX0_lay_98 4 rfl ?_
    refine g_iload C dX0_lay_100 5 rfl ?_
    refine g_iload_n C dX0_lay_102 rfl 1 rfl ?_
    refine g_iload_n C dX0_lay_103 rfl 2 rfl ?_
    refine g_imul C dX0_lay_104 ?_
    obtain ⟨hi_15, h⟩ := h
    refine g_callVv (wr := [((ad 3), .inl (cA 0, 36, .inl C_held)), ((ad 4), .inl (cA 0, 36, .inl C_prices))]) C (c_X0_layAlong ad cA (2 : Int32) x4 x5 (x1 * x2) C_size C_sides u14_C_places u14_C_beyond hi_15) gX0_lay_X0_layAlong rfl hde_X0_layAlong ⟨rfl, rfl⟩ (by decide) (by decide) [0, 1, 4, 5] [2, 3] [2, 3, 0, 1, 4, 5] rfl rfl rfl rfl (by decide) rfl (ws2 := fun u => [((ad 1), .inr (0, [.ref (ad 2), .ref (ad 3), .ref (ad 4), .ref (ad 5), .ref (ad 6), .ref (ad 7), .int C_size])), ((ad 2), .inl (cA 0, 3, .inl C_sides)), ((ad 3), .inl (cA 0, 36, .inl C_held)), ((ad 4), .inl (cA 0, 36, .inl C_prices)), ((ad 6), .inl (cA 0, 108, .inl u.1)), ((ad 7), .inl (cA 0, 216, .inl u.2))]) (fun _ => rfl) 0 0 rfl rfl rfl (rest := []) rfl (Nat.le_of_ble_eq_true rfl) dX0_lay_105 (fun u_16 hp_16 => ?_)
    obtain ⟨u16_C_places, u16_C_beyond⟩ := u_16
    replace h := h u16_C_places u16_C_beyond hp_16
    change gW X 0 0 [((ad 1), .inr (0, [.ref (ad 2), .ref (ad 3), .ref (ad 4), .ref (ad 5), .ref (ad 6), .ref (ad 7), .int C_size])), ((ad 2), .inl (cA 0, 3, .inl C_sides)), ((ad 3), .inl (cA 0, 36, .inl C_held)), ((ad 4), .inl (cA 0, 36, .inl C_prices)), ((ad 6), .inl (cA 0, 108, .inl u16_C_places)), ((ad 7), .inl (cA 0, 216, .inl u16_C_beyond))] 8 [(0, .ref (ad 1)), (1, .int x1), (2, .int x2), (3, .int x3), (4, .int x4), (5, .int x5), (6, .int x6), (7, .int x7)] [] 108
    refine g_iinc (v := (x4 + 1)) (lv2 := [(0, .ref (ad 1)), (1, .int x1), (2, .int x2), (3, .int x3), (4, .int (x4 + 1)), (5, .int x5), (6, .int x6), (7, .int x7)]) C dX0_lay_108 4 rfl (by first | rfl | decide) (by decide) [1, 2, 3, 4, 0, 5, 6, 7] rfl ?_
    refine g_iinc (v := (x7 + 1)) (lv2 := [(0, .ref (ad 1)), (1, .int x1), (2, .int x2), (3, .int x3), (4, .int (x4 + 1)), (5, .int x5), (6, .int x6), (7, .int (x7 + 1))]) C dX0_lay_111 7 rfl (by first | rfl | decide) (by decide) [1, 2, 3, 4, 5, 6, 7, 0] rfl ?_
    refine g_goto (tgt := 70) C dX0_lay_114 (by decide) ?_
    exact g_lv [0, 1, 2, 3, 4, 5, 6, 7] rfl h
def prX0_lay (p1 : Int32) (p2 : Int32) (p3 : Int32) (C_size : Int32) (C_sides : Nat → Int32) (C_held : Nat → Int32) (C_prices : Nat → Int32) (C_places : Nat → Int32) (C_beyond : Nat → Int32) : Prop := ∃ X Y Z, dimOK X Y Z ∧ p1 = nI X ∧ p2 = nI Y ∧ p3 = nI Z
def po_X0_lay (ad : Nat → Nat) (cA : Nat → ClassId) (p1 : Int32) (p2 : Int32) (p3 : Int32) (C_size : Int32) (C_sides : Nat → Int32) (C_held : Nat → Int32) (C_prices : Nat → Int32) (C_places : Nat → Int32) (C_beyond : Nat → Int32) (u : (Int32) × (Nat → Int32) × (Nat → Int32) × (Nat → Int32) × (Nat → Int32) × (Nat → Int32)) : Prop := ∀ X Y Z, dimOK X Y Z → p1 = nI X → p2 = nI Y → p3 = nI Z → u.1 = nI (X * Y * Z) ∧ u.2.1 = upd (upd (upd C_sides 0 p1) 1 p2) 2 p3 ∧ u.2.2.1 = fillA 36 0 C_held ∧ u.2.2.2.1 = fillA 36 0 C_prices ∧ geoOK X Y Z u.2.2.2.2.1 u.2.2.2.2.2
set_option maxHeartbeats 4000000 in
set_option maxRecDepth 100000 in
theorem c_X0_lay (ad : Nat → Nat) (cA : Nat → ClassId) (p1 : Int32) (p2 : Int32) (p3 : Int32) (C_size : Int32) (C_sides : Nat → Int32) (C_held : Nat → Int32) (C_prices : Nat → Int32) (C_places : Nat → Int32) (C_beyond : Nat → Int32) (hq : prX0_lay p1 p2 p3 C_size C_sides C_held C_prices C_places C_beyond) : ∀ (l : Launch) (D : va_G), gMv (S := (Int32) × (Nat → Int32) × (Nat → Int32) × (Nat → Int32) × (Nat → Int32) × (Nat → Int32)) l yX0_lay wsX0_lay rmX0_lay D (gT cA) 0 0 [.ref (ad 1), .int p1, .int p2, .int p3] (wcX0_lay ad cA C_size C_sides C_held C_prices C_places C_beyond) (po_X0_lay ad cA p1 p2 p3 C_size C_sides C_held C_prices C_places C_beyond) (w1X0_lay ad cA) := by
  intro l D
  unfold prX0_lay at hq
  refine g_enterv (cc := cX0_lay) (nL := 8) (ret := none) (by decide) rfl (Nat.le_of_ble_eq_true rfl) rfl (fun X C E => ?_)
  obtain ⟨X', Y, Z, hdm, rfl, rfl, rfl⟩ := hq
  have hdm' := hdm
  obtain ⟨hX1, hX4, hY1, hY4, hZ1, hZ4, hV⟩ := hdm
  have hsz : nI X' * nI Y * nI Z = nI (X' * Y * Z) := by rw [pk_mul, pk_mul]
  refine sgX0_lay_0 C E ⟨vi_0_3, vi_1_3, vi_2_3, (by decide : 36 < 2147483648), (by decide : 36 < 2147483648), ?_⟩
  rw [hsz]
  show atX0_lay_52 X ad cA (nI X') (nI Y) (nI Z) 0 0 (nI (X' * Y * Z)) (upd (upd (upd C_sides 0 (nI X')) 1 (nI Y)) 2 (nI Z)) (fillA 36 0 C_held) (fillA 36 0 C_prices) C_places C_beyond
  have fin : ∀ pl be, geoOK X' Y Z pl be → po_X0_lay ad cA (nI X') (nI Y) (nI Z) C_size C_sides C_held C_prices C_places C_beyond (nI (X' * Y * Z), upd (upd (upd C_sides 0 (nI X')) 1 (nI Y)) 2 (nI Z), fillA 36 0 C_held, fillA 36 0 C_prices, pl, be) := by
    intro pl be hg X2 Y2 Z2 hd2 q1 q2 q3
    obtain ⟨gX1, gX4, gY1, gY4, gZ1, gZ4, gV⟩ := hd2
    rw [nI_eq (by omega) (by omega)] at q1 q2 q3
    subst q1; subst q2; subst q3
    exact ⟨rfl, rfl, rfl, rfl, hg⟩
  have s0 : (upd (upd (upd C_sides 0 (nI X')) 1 (nI Y)) 2 (nI Z)) 0 = nI X' := rfl
  have s1 : (upd (upd (upd C_sides 0 (nI X')) 1 (nI Y)) 2 (nI Z)) 1 = nI Y := rfl
  have s2 : (upd (upd (upd C_sides 0 (nI X')) 1 (nI Y)) 2 (nI Z)) 2 = nI Z := rfl
  generalize upd (upd (upd C_sides 0 (nI X')) 1 (nI Y)) 2 (nI Z) = sd at *
  generalize fillA 36 0 C_held = hd at *
  generalize fillA 36 0 C_prices = pr at *
  have outer : ∀ z, z ≤ Z → ∀ pl be, (∀ c, c < X' * Y * z → geoC X' Y Z pl be c) → atX0_lay_52 X ad cA (nI X') (nI Y) (nI Z) (nI (X' * Y * z)) (nI z) (nI (X' * Y * Z)) sd hd pr pl be := by
    intro z hz
    refine up_loop (P := fun z => ∀ pl be, (∀ c, c < X' * Y * z → geoC X' Y Z pl be c) → atX0_lay_52 X ad cA (nI X') (nI Y) (nI Z) (nI (X' * Y * z)) (nI z) (nI (X' * Y * Z)) sd hd pr pl be) Z ?_ (fun z hz ih pl be hg => ?_) z hz
    · exact fun pl be hg => sgX0_lay_52 C E ⟨fun _ => fin pl be hg, fun c => absurd (i32_le_refl _) c⟩
    · refine sgX0_lay_52 C E ⟨fun c => absurd c (nI_ge hz (by omega)), fun _ => ?_⟩
      have mid : ∀ y, y ≤ Y → ∀ pl be, (∀ c, c < X' * Y * z + X' * y → geoC X' Y Z pl be c) → atX0_lay_61 X ad cA (nI X') (nI Y) (nI Z) (nI (X' * Y * z + X' * y)) (nI z) (nI y) (nI (X' * Y * Z)) sd hd pr pl be := by
        intro y hy
        refine up_loop (P := fun y => ∀ pl be, (∀ c, c < X' * Y * z + X' * y → geoC X' Y Z pl be c) → atX0_lay_61 X ad cA (nI X') (nI Y) (nI Z) (nI (X' * Y * z + X' * y)) (nI z) (nI y) (nI (X' * Y * Z)) sd hd pr pl be) Y ?_ (fun y hy ih2 pl be hg2 => ?_) y hy
        · refine fun pl be hg2 => sgX0_lay_61 C E ⟨fun _ => ?_, fun c => absurd (i32_le_refl _) c⟩
          have e : X' * Y * z + X' * Y = X' * Y * (z + 1) := by rw [Nat.mul_succ]
          rw [e] at hg2 ⊢
          rw [nI_1 z]; exact ih pl be hg2
        · refine sgX0_lay_61 C E ⟨fun c => absurd c (nI_ge hy (by omega)), fun _ => ?_⟩
          have inner : ∀ x, x ≤ X' → ∀ pl be, (∀ c, c < X' * Y * z + X' * y + x → geoC X' Y Z pl be c) → atX0_lay_70 X ad cA (nI X') (nI Y) (nI Z) (nI (X' * Y * z + X' * y + x)) (nI z) (nI y) (nI x) (nI (X' * Y * Z)) sd hd pr pl be := by
            intro x hx
            refine up_loop (P := fun x => ∀ pl be, (∀ c, c < X' * Y * z + X' * y + x → geoC X' Y Z pl be c) → atX0_lay_70 X ad cA (nI X') (nI Y) (nI Z) (nI (X' * Y * z + X' * y + x)) (nI z) (nI y) (nI x) (nI (X' * Y * Z)) sd hd pr pl be) X' ?_ (fun x hx ih3 pl be hg3 => ?_) x hx
            · refine fun pl be hg3 => sgX0_lay_70 C E ⟨fun _ => ?_, fun c => absurd (i32_le_refl _) c⟩
              have e : X' * Y * z + X' * y + X' = X' * Y * z + X' * (y + 1) := by rw [Nat.mul_succ, Nat.add_assoc]
              rw [e] at hg3 ⊢
              rw [nI_1 y]; exact ih2 pl be hg3
            · obtain ⟨f1, f2, f3, f4, f5, f6, f7, f8⟩ := geo_f2 X' (by omega) Y (by omega) Z (by omega) hV z hz y hy x hx
              generalize hcc : X' * Y * z + X' * y + x = cc at *
              refine sgX0_lay_70 C E ⟨fun c => absurd c (nI_ge hx (by omega)), fun _ => ?_⟩
              have c36 : cc < 36 := by omega
              rw [pk_mul X' Y]
              refine ⟨⟨0, cc, x, 1, X', by decide, c36, by omega, by decide, hX4, f5, rfl, rfl, rfl, rfl, s0⟩, fun pl1 be1 q1 => ?_⟩
              obtain ⟨q1a, q1b⟩ := q1 0 cc x 1 X' (by decide) c36 (by omega) (by decide) hX4 f5 rfl rfl rfl rfl s0
              refine ⟨⟨1, cc, y, X', Y, by decide, c36, by omega, by omega, hY4, f6, rfl, rfl, rfl, rfl, s1⟩, fun pl2 be2 q2 => ?_⟩
              obtain ⟨q2a, q2b⟩ := q2 1 cc y X' Y (by decide) c36 (by omega) (by omega) hY4 f6 rfl rfl rfl rfl s1
              refine ⟨⟨2, cc, z, X' * Y, Z, by decide, c36, by omega, f8, hZ4, f7, rfl, rfl, rfl, rfl, s2⟩, fun pl3 be3 q3 => ?_⟩
              obtain ⟨q3a, q3b⟩ := q3 2 cc z (X' * Y) Z (by decide) c36 (by omega) f8 hZ4 f7 rfl rfl rfl rfl s2
              have hnew := geo_new f2 f3 f4 hg3
              dsimp only at q1a q1b q2a q2b q3a q3b
              rw [← q1a, ← q1b, ← q2a, ← q2b, ← q3a, ← q3b] at hnew
              rw [nI_1 cc, nI_1 x]
              have e4 : X' * Y * z + X' * y + (x + 1) = cc + 1 := by rw [← hcc]; rfl
              have ih4 := ih3 pl3 be3
              rw [e4] at ih4
              exact ih4 hnew
          exact inner 0 (Nat.zero_le _) pl be hg2
      exact mid 0 (Nat.zero_le _) pl be hg
  have := outer 0 (Nat.zero_le _) C_places C_beyond (fun c hc => by rw [Nat.mul_zero] at hc; exact absurd hc (Nat.not_lt_zero c))
  rw [Nat.mul_zero] at this
  exact this

