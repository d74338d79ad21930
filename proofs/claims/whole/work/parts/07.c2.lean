theorem bk_8 : (Int8.ofInt (8)).toInt32 = (8 : Int32) := by decide
theorem hde_X2_at : yX2_at.cls = RX2 ∧ yX2_at.cls ≠ "java/lang/invoke/MethodHandle" ∧ yX2_at.cls ≠ "java/lang/invoke/VarHandle" ∧ (parseMethodDescriptor yX2_at.desc).map (fun d => d.parameters.length) = some 2 := by decide +kernel
theorem hde_X2_difference : yX2_difference.cls = RX2 ∧ yX2_difference.cls ≠ "java/lang/invoke/MethodHandle" ∧ yX2_difference.cls ≠ "java/lang/invoke/VarHandle" ∧ (parseMethodDescriptor yX2_difference.desc).map (fun d => d.parameters.length) = some 4 := by decide +kernel
theorem hde_X2_has : yX2_has.cls = RX2 ∧ yX2_has.cls ≠ "java/lang/invoke/MethodHandle" ∧ yX2_has.cls ≠ "java/lang/invoke/VarHandle" ∧ (parseMethodDescriptor yX2_has.desc).map (fun d => d.parameters.length) = some 2 := by decide +kernel
theorem hde_X2_putInOrder : yX2_putInOrder.cls = RX2 ∧ yX2_putInOrder.cls ≠ "java/lang/invoke/MethodHandle" ∧ yX2_putInOrder.cls ≠ "java/lang/invoke/VarHandle" ∧ (parseMethodDescriptor yX2_putInOrder.desc).map (fun d => d.parameters.length) = some 3 := by decide +kernel
theorem hde_X2_stepped : yX2_stepped.cls = RX2 ∧ yX2_stepped.cls ≠ "java/lang/invoke/MethodHandle" ∧ yX2_stepped.cls ≠ "java/lang/invoke/VarHandle" ∧ (parseMethodDescriptor yX2_stepped.desc).map (fun d => d.parameters.length) = some 2 := by decide +kernel
theorem hde_X2_sumOfChanges : yX2_sumOfChanges.cls = RX2 ∧ yX2_sumOfChanges.cls ≠ "java/lang/invoke/MethodHandle" ∧ yX2_sumOfChanges.cls ≠ "java/lang/invoke/VarHandle" ∧ (parseMethodDescriptor yX2_sumOfChanges.desc).map (fun d => d.parameters.length) = some 0 := by decide +kernel
abbrev w1J7_fill_53178 (ad : Nat → Nat) (cA : Nat → ClassId) (ao no : Nat) (u : (Nat → Int32)) : va_W := [(ao, .inl (cA 0, no, .inl u))]
abbrev wcJ7_fill_53178 (ad : Nat → Nat) (cA : Nat → ClassId) (ao no : Nat) (Z_arr : Nat → Int32) : va_W := [(ao, .inl (cA 0, no, .inl Z_arr))]
def rmJ7_fill_53178 : Room := { frames := 0, cells := 0, slots := 0, locals := 0 }
abbrev atJ7_fill_53178_0 (X : gX) (ad : Nat → Nat) (cA : Nat → ClassId) (ao no : Nat) (p2 : Int32) (Z_arr : Nat → Int32) : Prop := gW X 0 0 [(ao, .inl (cA 0, no, .inl Z_arr))] 4 [(0, .ref ao), (1, .int p2)] [] 0
abbrev atJ7_fill_53178_5 (X : gX) (ad : Nat → Nat) (cA : Nat → ClassId) (ao no : Nat) (x1 : Int32) (x2 : Int32) (x3 : Int32) (Z_arr : Nat → Int32) : Prop := gW X 0 0 [(ao, .inl (cA 0, no, .inl Z_arr))] 4 [(0, .ref ao), (1, .int x1), (2, .int x2), (3, .int x3)] [] 5
set_option maxHeartbeats 4000000 in
set_option maxRecDepth 100000 in
theorem sgJ7_fill_53178_0 {X : gX} {ad : Nat → Nat} {cA : Nat → ClassId} {ao no : Nat} {post : ((Nat → Int32)) → Prop} {p2 : Int32} {Z_arr : Nat → Int32} (C : gC X (gT cA) cJ7_fill_53178 4 RJ7 wsJ7_fill_53178 rmJ7_fill_53178) (E : gEv X none (gT cA) 0 0 post (w1J7_fill_53178 ad cA ao no)) (h : atJ7_fill_53178_5 X ad cA ao no p2 (0 : Int32) (nI no) Z_arr) : atJ7_fill_53178_0 X ad cA ao no p2 Z_arr := by
  refine g_iconst C dJ7_fill_53178_0 ik_0 ?_
  refine g_istore_n (lv2 := [(0, .ref ao), (1, .int p2), (2, .int (0 : Int32))]) C dJ7_fill_53178_1 rfl (by decide) [1, 2, 0] rfl ?_
  refine g_aload_n C dJ7_fill_53178_2 rfl 0 rfl ?_
  refine g_alen C 0 0 rfl rfl rfl dJ7_fill_53178_3 ?_
  refine g_istore_n (lv2 := [(0, .ref ao), (1, .int p2), (2, .int (0 : Int32)), (3, .int (nI no))]) C dJ7_fill_53178_4 rfl (by decide) [1, 2, 3, 0] rfl ?_
  exact g_lv [0, 1, 2, 3] rfl h
set_option maxHeartbeats 4000000 in
set_option maxRecDepth 100000 in
theorem sgJ7_fill_53178_5 {X : gX} {ad : Nat → Nat} {cA : Nat → ClassId} {ao no : Nat} {post : ((Nat → Int32)) → Prop} {x1 : Int32} {x2 : Int32} {x3 : Int32} {Z_arr : Nat → Int32} (C : gC X (gT cA) cJ7_fill_53178 4 RJ7 wsJ7_fill_53178 rmJ7_fill_53178) (E : gEv X none (gT cA) 0 0 post (w1J7_fill_53178 ad cA ao no)) (h : (x3 ≤ x2 → post Z_arr) ∧ (¬ x3 ≤ x2 → vp_in x2 no ∧ atJ7_fill_53178_5 X ad cA ao no x1 (x2 + 1) x3 (upd Z_arr x2.toNatClampNeg x1))) : atJ7_fill_53178_5 X ad cA ao no x1 x2 x3 Z_arr := by
  refine g_iload_n C dJ7_fill_53178_5 rfl 2 rfl ?_
  refine g_iload_n C dJ7_fill_53178_6 rfl 3 rfl ?_
  refine g_icmp_ge (tgt := 20) C dJ7_fill_53178_7 (by decide) (fun c_1 => ?_) (fun c_1 => ?_)
  · replace h := h.1 c_1
    exact g_vret C E Z_arr h rfl dJ7_fill_53178_20
  · replace h := h.2 c_1
    refine g_aload_n C dJ7_fill_53178_10 rfl 0 rfl ?_
    refine g_iload_n C dJ7_fill_53178_11 rfl 2 rfl ?_
    refine g_iload_n C dJ7_fill_53178_12 rfl 1 rfl ?_
    obtain ⟨hi_2, h⟩ := h
    refine g_iast (ws2 := [(ao, .inl (cA 0, no, .inl (upd Z_arr x2.toNatClampNeg x1)))]) C 0 0 rfl rfl hi_2 rfl dJ7_fill_53178_13 ?_
    refine g_iinc (v := (x2 + 1)) (lv2 := [(0, .ref ao), (1, .int x1), (2, .int (x2 + 1)), (3, .int x3)]) C dJ7_fill_53178_14 2 rfl (by first | rfl | decide) (by decide) [1, 2, 0, 3] rfl ?_
    refine g_goto (tgt := 5) C dJ7_fill_53178_17 (by decide) ?_
    exact g_lv [0, 1, 2, 3] rfl h
def prJ7_fill_53178 (ao no : Nat) (p2 : Int32) (Z_arr : Nat → Int32) : Prop := no < 2147483648
set_option maxHeartbeats 4000000 in
set_option maxRecDepth 100000 in
theorem c_J7_fill_53178 (ad : Nat → Nat) (cA : Nat → ClassId) (ao no : Nat) (p2 : Int32) (Z_arr : Nat → Int32) (hq : prJ7_fill_53178 ao no p2 Z_arr) : ∀ (l : Launch) (D : va_G), gMv (S := (Nat → Int32)) l yJ7_fill_53178 wsJ7_fill_53178 rmJ7_fill_53178 D (gT cA) 0 0 [.ref ao, .int p2] (wcJ7_fill_53178 ad cA ao no Z_arr) (fun u => u = fillA no p2 Z_arr) (w1J7_fill_53178 ad cA ao no) := by
  intro l D
  unfold prJ7_fill_53178 at hq
  refine g_enterv (cc := cJ7_fill_53178) (nL := 4) (ret := none) (by decide) rfl (Nat.le_of_ble_eq_true rfl) rfl (fun X C E => ?_)
  refine sgJ7_fill_53178_0 C E ?_
  have loop : ∀ i, i ≤ no → atJ7_fill_53178_5 X ad cA ao no p2 (nI i) (nI no) (fillA i p2 Z_arr) := by
    intro i hi
    refine up_loop (P := fun i => atJ7_fill_53178_5 X ad cA ao no p2 (nI i) (nI no) (fillA i p2 Z_arr)) no ?_ (fun k hk ih => ?_) i hi
    · exact sgJ7_fill_53178_5 C E ⟨fun _ => rfl, fun c => absurd (i32_le_refl _) c⟩
    · refine sgJ7_fill_53178_5 C E ⟨fun c => absurd c (nI_ge hk (by omega)), fun _ => ⟨vp_in_nI hk (by omega), ?_⟩⟩
      rw [nI_1, nI_clamp (by omega)]
      have e : upd (fillA k p2 Z_arr) k p2 = fillA (k + 1) p2 Z_arr := by
        funext j
        unfold upd fillA
        by_cases h1 : j = k
        · rw [if_pos h1, if_pos (by omega)]
        · rw [if_neg h1]
          by_cases h2 : j < k
          · rw [if_pos h2, if_pos (by omega)]
          · rw [if_neg h2, if_neg (by omega)]
      rw [e]; exact ih
  have e0 : fillA 0 p2 Z_arr = Z_arr := by funext j; simp [fillA]
  have := loop 0 (Nat.zero_le _)
  rw [e0] at this
  exact this


abbrev w1X2_has (ad : Nat → Nat) (cA : Nat → ClassId) (P_wide : Int32) (P_high : Int32) (u : Unit) : va_W := [((ad 15), .inr (2, [.ref (ad 16), .ref (ad 17), .ref (ad 18), .int P_wide, .int P_high]))]
abbrev wcX2_has (ad : Nat → Nat) (cA : Nat → ClassId) (P_wide : Int32) (P_high : Int32) : va_W := [((ad 15), .inr (2, [.ref (ad 16), .ref (ad 17), .ref (ad 18), .int P_wide, .int P_high]))]
def rmX2_has : Room := { frames := 0, cells := 0, slots := 0, locals := 0 }
abbrev atX2_has_0 (X : gX) (ad : Nat → Nat) (cA : Nat → ClassId) (p1 : Int32) (p2 : Int32) (P_wide : Int32) (P_high : Int32) : Prop := gW X 0 0 [((ad 15), .inr (2, [.ref (ad 16), .ref (ad 17), .ref (ad 18), .int P_wide, .int P_high]))] 3 [(0, .ref (ad 15)), (1, .int p1), (2, .int p2)] [] 0
theorem giX2_has_X2 : ∀ w ∈ u_ws RX2 TX2 5, w ∈ wsX2_has := by decide +kernel
theorem gfX2_has_22 : gF wsX2_has RX2 22 2 3 RX2 TX2 5 := ⟨giX2_has_X2, by decide +kernel, rfl, by decide⟩
theorem gfX2_has_26 : gF wsX2_has RX2 26 2 4 RX2 TX2 5 := ⟨giX2_has_X2, by decide +kernel, rfl, by decide⟩
set_option maxHeartbeats 4000000 in
set_option maxRecDepth 100000 in
theorem sgX2_has_0 {X : gX} {ad : Nat → Nat} {cA : Nat → ClassId} {post : Int32 → (Unit) → Prop} {p1 : Int32} {p2 : Int32} {P_wide : Int32} {P_high : Int32} (C : gC X (gT cA) cX2_has 3 RX2 wsX2_has rmX2_has) (E : gEi X (some .boolean) (gT cA) 0 0 post (w1X2_has ad cA P_wide P_high)) (h : (p1 < 0 → post (0 : Int32) ()) ∧ (¬ p1 < 0 → (P_wide ≤ p1 → post (0 : Int32) ()) ∧ (¬ P_wide ≤ p1 → (p2 < 0 → post (0 : Int32) ()) ∧ (¬ p2 < 0 → (P_high ≤ p2 → post (0 : Int32) ()) ∧ (¬ P_high ≤ p2 → post (1 : Int32) ()))))) : atX2_has_0 X ad cA p1 p2 P_wide P_high := by
  refine g_iload_n C dX2_has_0 rfl 1 rfl ?_
  refine g_if_lt (tgt := 28) C dX2_has_1 (by decide) (fun c_1 => ?_) (fun c_1 => ?_)
  · replace h := h.1 c_1
    refine g_iconst C dX2_has_28 ik_0 ?_
    exact g_zret C E rfl () h rfl dX2_has_29
  · replace h := h.2 c_1
    refine g_iload_n C dX2_has_4 rfl 1 rfl ?_
    refine g_aload_n C dX2_has_5 rfl 0 rfl ?_
    refine g_get C gfX2_has_22 0 rfl rfl dX2_has_6 ?_
    refine g_icmp_ge (tgt := 28) C dX2_has_9 (by decide) (fun c_2 => ?_) (fun c_2 => ?_)
    · replace h := h.1 c_2
      refine g_iconst C dX2_has_28 ik_0 ?_
      exact g_zret C E rfl () h rfl dX2_has_29
    · replace h := h.2 c_2
      refine g_iload_n C dX2_has_12 rfl 2 rfl ?_
      refine g_if_lt (tgt := 28) C dX2_has_13 (by decide) (fun c_3 => ?_) (fun c_3 => ?_)
      · replace h := h.1 c_3
        refine g_iconst C dX2_has_28 ik_0 ?_
        exact g_zret C E rfl () h rfl dX2_has_29
      · replace h := h.2 c_3
        refine g_iload_n C dX2_has_16 rfl 2 rfl ?_
        refine g_aload_n C dX2_has_17 rfl 0 rfl ?_
        refine g_get C gfX2_has_26 0 rfl rfl dX2_has_18 ?_
        refine g_icmp_ge (tgt := 28) C dX2_has_21 (by decide) (fun c_4 => ?_) (fun c_4 => ?_)
        · replace h := h.1 c_4
          refine g_iconst C dX2_has_28 ik_0 ?_
          exact g_zret C E rfl () h rfl dX2_has_29
        · replace h := h.2 c_4
          refine g_iconst C dX2_has_24 ik_1 ?_
          refine g_goto (tgt := 29) C dX2_has_25 (by decide) ?_
          exact g_zret C E rfl () h rfl dX2_has_29
def fnX2_has (p1 : Int32) (p2 : Int32) (P_wide : Int32) (P_high : Int32) : Bool := (if p1 < 0 then false else (if P_wide ≤ p1 then false else (if p2 < 0 then false else (if P_high ≤ p2 then false else true))))
set_option maxHeartbeats 4000000 in
set_option maxRecDepth 100000 in
theorem c_X2_has (ad : Nat → Nat) (cA : Nat → ClassId) (p1 : Int32) (p2 : Int32) (P_wide : Int32) (P_high : Int32) : ∀ (l : Launch) (D : va_G), gMi (S := Unit) l yX2_has wsX2_has rmX2_has D (gT cA) 0 0 [.ref (ad 15), .int p1, .int p2] (wcX2_has ad cA P_wide P_high) (fun r _ => r = bI (fnX2_has p1 p2 P_wide P_high)) (w1X2_has ad cA P_wide P_high) := by
  intro l D
  refine g_enteri (cc := cX2_has) (nL := 3) (ret := (some .boolean)) (by decide) rfl (Nat.le_of_ble_eq_true rfl) rfl (fun X C E => sgX2_has_0 C E ?_)
  refine ⟨fun c_5 => ?_, fun c_5 => ?_⟩
  · exact (by unfold fnX2_has; first | rfl | (simp only [if_pos c_5]; done) | (simp only [if_pos c_5]; rfl))
  · refine ⟨fun c_6 => ?_, fun c_6 => ?_⟩
    · exact (by unfold fnX2_has; first | rfl | (simp only [if_neg c_5, if_pos c_6]; done) | (simp only [if_neg c_5, if_pos c_6]; rfl))
    · refine ⟨fun c_7 => ?_, fun c_7 => ?_⟩
      · exact (by unfold fnX2_has; first | rfl | (simp only [if_neg c_5, if_neg c_6, if_pos c_7]; done) | (simp only [if_neg c_5, if_neg c_6, if_pos c_7]; rfl))
      · refine ⟨fun c_8 => ?_, fun c_8 => ?_⟩
        · exact (by unfold fnX2_has; first | rfl | (simp only [if_neg c_5, if_neg c_6, if_neg c_7, if_pos c_8]; done) | (simp only [if_neg c_5, if_neg c_6, if_neg c_7, if_pos c_8]; rfl))
        · exact (by unfold fnX2_has; first | rfl | (simp only [if_neg c_5, if_neg c_6, if_neg c_7, if_neg c_8]; done) | (simp only [if_neg c_5, if_neg c_6, if_neg c_7, if_neg c_8]; rfl))

abbrev w1X2_at (ad : Nat → Nat) (cA : Nat → ClassId) (P_wide : Int32) (P_high : Int32) (u : Unit) : va_W := [((ad 15), .inr (2, [.ref (ad 16), .ref (ad 17), .ref (ad 18), .int P_wide, .int P_high]))]
abbrev wcX2_at (ad : Nat → Nat) (cA : Nat → ClassId) (P_wide : Int32) (P_high : Int32) : va_W := [((ad 15), .inr (2, [.ref (ad 16), .ref (ad 17), .ref (ad 18), .int P_wide, .int P_high]))]
def rmX2_at : Room := { frames := 0, cells := 0, slots := 0, locals := 0 }
abbrev atX2_at_0 (X : gX) (ad : Nat → Nat) (cA : Nat → ClassId) (p1 : Int32) (p2 : Int32) (P_wide : Int32) (P_high : Int32) : Prop := gW X 0 0 [((ad 15), .inr (2, [.ref (ad 16), .ref (ad 17), .ref (ad 18), .int P_wide, .int P_high]))] 3 [(0, .ref (ad 15)), (1, .int p1), (2, .int p2)] [] 0
set_option maxHeartbeats 4000000 in
set_option maxRecDepth 100000 in
theorem sgX2_at_0 {X : gX} {ad : Nat → Nat} {cA : Nat → ClassId} {post : Int32 → (Unit) → Prop} {p1 : Int32} {p2 : Int32} {P_wide : Int32} {P_high : Int32} (C : gC X (gT cA) cX2_at 3 RX2 wsX2_at rmX2_at) (E : gEi X (some .int) (gT cA) 0 0 post (w1X2_at ad cA P_wide P_high)) (h : post ((p2 * (8 : Int32)) + p1) ()) : atX2_at_0 X ad cA p1 p2 P_wide P_high := by
  refine g_iload_n C dX2_at_0 rfl 2 rfl ?_
  refine g_bipush C dX2_at_1 bk_8 ?_
  refine g_imul C dX2_at_3 ?_
  refine g_iload_n C dX2_at_4 rfl 1 rfl ?_
  refine g_iadd C dX2_at_5 ?_
  exact g_iret C E () h rfl dX2_at_6
def fnX2_at (p1 : Int32) (p2 : Int32) (P_wide : Int32) (P_high : Int32) : Int32 := ((p2 * (8 : Int32)) + p1)
set_option maxHeartbeats 4000000 in
set_option maxRecDepth 100000 in
theorem c_X2_at (ad : Nat → Nat) (cA : Nat → ClassId) (p1 : Int32) (p2 : Int32) (P_wide : Int32) (P_high : Int32) : ∀ (l : Launch) (D : va_G), gMi (S := Unit) l yX2_at wsX2_at rmX2_at D (gT cA) 0 0 [.ref (ad 15), .int p1, .int p2] (wcX2_at ad cA P_wide P_high) (fun r _ => r = fnX2_at p1 p2 P_wide P_high) (w1X2_at ad cA P_wide P_high) := by
  intro l D
  refine g_enteri (cc := cX2_at) (nL := 3) (ret := (some .int)) (by decide) rfl (Nat.le_of_ble_eq_true rfl) rfl (fun X C E => sgX2_at_0 C E ?_)
  exact (by unfold fnX2_at; first | rfl | (simp only []; done) | (simp only []; rfl))

theorem at_eq (x y : Nat) (a b : Int32) : fnX2_at (nI x) (nI y) a b = nI (8 * y + x) := by
  show nI y * nI 8 + nI x = _
  rw [pk_mul, nI_add, Nat.mul_comm]
theorem at_iI (x y : Int) (a b : Int32) : fnX2_at (iI x) (iI y) a b = iI (8 * y + x) := by
  show iI y * iI 8 + iI x = _
  rw [iI_mul, iI_add, Int.mul_comm]
theorem has_iI {a b : Int} {w h : Nat} (ha : -100 ≤ a ∧ a ≤ 100) (hb : -100 ≤ b ∧ b ≤ 100) (hw : w ≤ 8) (hh : h ≤ 8) : fnX2_has (iI a) (iI b) (nI w) (nI h) = decide (0 ≤ a ∧ a < w ∧ 0 ≤ b ∧ b < h) := by
  have e1 : (iI a).toInt = a := toInt_iI (by omega) (by omega)
  have e2 : (iI b).toInt = b := toInt_iI (by omega) (by omega)
  have e3 : (nI w).toInt = w := nI_toInt (by omega)
  have e4 : (nI h).toInt = h := nI_toInt (by omega)
  have e0 : (0 : Int32).toInt = 0 := rfl
  unfold fnX2_has
  simp only [Int32.lt_iff_toInt_lt, Int32.le_iff_toInt_le, e0, e1, e2, e3, e4]
  by_cases h1 : a < 0
  · rw [if_pos h1]; exact (decide_eq_false (by omega)).symm
  · rw [if_neg h1]
    by_cases h2 : (w : Int) ≤ a
    · rw [if_pos h2]; exact (decide_eq_false (by omega)).symm
    · rw [if_neg h2]
      by_cases h3 : b < 0
      · rw [if_pos h3]; exact (decide_eq_false (by omega)).symm
      · rw [if_neg h3]
        by_cases h4 : (h : Int) ≤ b
        · rw [if_pos h4]; exact (decide_eq_false (by omega)).symm
        · rw [if_neg h4]; exact (decide_eq_true (by omega)).symm
theorem at_in {a b : Int} (h : 0 ≤ a ∧ a < 8 ∧ 0 ≤ b ∧ b < 8) (p q : Int32) : vp_in (fnX2_at (iI a) (iI b) p q) 64 := by
  rw [at_iI, vp_in_iff, toInt_iI (by omega) (by omega)]
  omega

abbrev w1X2_putInOrder (ad : Nat → Nat) (cA : Nat → ClassId) (P_wide : Int32) (P_high : Int32) (P_heights : Nat → Int32) (u : (Nat → Int32)) : va_W := [((ad 15), .inr (2, [.ref (ad 16), .ref (ad 17), .ref (ad 18), .int P_wide, .int P_high])), ((ad 16), .inl (cA 0, 64, .inl P_heights)), ((ad 18), .inl (cA 0, 4, .inl u))]
abbrev wcX2_putInOrder (ad : Nat → Nat) (cA : Nat → ClassId) (P_wide : Int32) (P_high : Int32) (P_heights : Nat → Int32) (P_near : Nat → Int32) : va_W := [((ad 15), .inr (2, [.ref (ad 16), .ref (ad 17), .ref (ad 18), .int P_wide, .int P_high])), ((ad 16), .inl (cA 0, 64, .inl P_heights)), ((ad 18), .inl (cA 0, 4, .inl P_near))]
def rmX2_putInOrder : Room := { frames := 1, cells := 0, slots := 0, locals := 22 }
abbrev atX2_putInOrder_0 (X : gX) (ad : Nat → Nat) (cA : Nat → ClassId) (p1 : Int32) (p2 : Int32) (p3 : Int32) (P_wide : Int32) (P_high : Int32) (P_heights : Nat → Int32) (P_near : Nat → Int32) : Prop := gW X 0 0 [((ad 15), .inr (2, [.ref (ad 16), .ref (ad 17), .ref (ad 18), .int P_wide, .int P_high])), ((ad 16), .inl (cA 0, 64, .inl P_heights)), ((ad 18), .inl (cA 0, 4, .inl P_near))] 6 [(0, .ref (ad 15)), (1, .int p1), (2, .int p2), (3, .int p3)] [] 0
abbrev atX2_putInOrder_27 (X : gX) (ad : Nat → Nat) (cA : Nat → ClassId) (x3 : Int32) (x4 : Int32) (x5 : Int32) (P_wide : Int32) (P_high : Int32) (P_heights : Nat → Int32) (P_near : Nat → Int32) : Prop := gW X 0 0 [((ad 15), .inr (2, [.ref (ad 16), .ref (ad 17), .ref (ad 18), .int P_wide, .int P_high])), ((ad 16), .inl (cA 0, 64, .inl P_heights)), ((ad 18), .inl (cA 0, 4, .inl P_near))] 6 [(0, .ref (ad 15)), (3, .int x3), (4, .int x4), (5, .int x5)] [] 27
theorem giX2_putInOrder_X2 : ∀ w ∈ u_ws RX2 TX2 5, w ∈ wsX2_putInOrder := by decide +kernel
theorem gfX2_putInOrder_9 : gF wsX2_putInOrder RX2 9 2 0 RX2 TX2 5 := ⟨giX2_putInOrder_X2, by decide +kernel, rfl, by decide⟩
theorem gfX2_putInOrder_19 : gF wsX2_putInOrder RX2 19 2 2 RX2 TX2 5 := ⟨giX2_putInOrder_X2, by decide +kernel, rfl, by decide⟩
set_option maxHeartbeats 4000000 in
set_option maxRecDepth 100000 in
theorem sgX2_putInOrder_0 {X : gX} {ad : Nat → Nat} {cA : Nat → ClassId} {post : Int32 → ((Nat → Int32)) → Prop} {p1 : Int32} {p2 : Int32} {p3 : Int32} {P_wide : Int32} {P_high : Int32} {P_heights : Nat → Int32} {P_near : Nat → Int32} (C : gC X (gT cA) cX2_putInOrder 6 RX2 wsX2_putInOrder rmX2_putInOrder) (E : gEi X (some .int) (gT cA) 0 0 post (w1X2_putInOrder ad cA P_wide P_high P_heights)) (h : ((fnX2_has p1 p2 P_wide P_high) = true → vp_in (fnX2_at p1 p2 P_wide P_high) 64 ∧ ∀ x4_5 : Int32, x4_5 = (P_heights (fnX2_at p1 p2 P_wide P_high).toNatClampNeg) → atX2_putInOrder_27 X ad cA p3 x4_5 p3 P_wide P_high P_heights P_near) ∧ ((fnX2_has p1 p2 P_wide P_high) = false → post p3 P_near)) : atX2_putInOrder_0 X ad cA p1 p2 p3 P_wide P_high P_heights P_near := by
  refine g_aload_n C dX2_putInOrder_0 rfl 0 rfl ?_
  refine g_iload_n C dX2_putInOrder_1 rfl 1 rfl ?_
  refine g_iload_n C dX2_putInOrder_2 rfl 2 rfl ?_
  refine g_callVi (wr := [((ad 16), .inl (cA 0, 64, .inl P_heights)), ((ad 18), .inl (cA 0, 4, .inl P_near))]) C (c_X2_has ad cA p1 p2 P_wide P_high) gX2_putInOrder_X2_has rfl hde_X2_has ⟨rfl, rfl⟩ (by decide) (by decide) [0] [1, 2] [2, 0, 1] rfl rfl rfl rfl (by decide) rfl (ws2 := fun u => [((ad 15), .inr (2, [.ref (ad 16), .ref (ad 17), .ref (ad 18), .int P_wide, .int P_high])), ((ad 16), .inl (cA 0, 64, .inl P_heights)), ((ad 18), .inl (cA 0, 4, .inl P_near))]) (fun _ => rfl) 2 0 rfl rfl rfl (rest := []) rfl (Nat.le_of_ble_eq_true rfl) dX2_putInOrder_3 (fun r_1 u_1 hp_1 => ?_)
  subst hp_1
  change gW X 0 0 [((ad 15), .inr (2, [.ref (ad 16), .ref (ad 17), .ref (ad 18), .int P_wide, .int P_high])), ((ad 16), .inl (cA 0, 64, .inl P_heights)), ((ad 18), .inl (cA 0, 4, .inl P_near))] 6 [(0, .ref (ad 15)), (1, .int p1), (2, .int p2), (3, .int p3)] [.int (bI (fnX2_has p1 p2 P_wide P_high))] 6
  refine g_ifne_b (tgt := 11) C dX2_putInOrder_6 (by decide) (fun c_2 => ?_) (fun c_2 => ?_)
  · replace h := h.1 c_2
    refine g_aload_n C dX2_putInOrder_11 rfl 0 rfl ?_
    refine g_get C gfX2_putInOrder_9 0 rfl rfl dX2_putInOrder_12 ?_
    refine g_aload_n C dX2_putInOrder_15 rfl 0 rfl ?_
    refine g_iload_n C dX2_putInOrder_16 rfl 1 rfl ?_
    refine g_iload_n C dX2_putInOrder_17 rfl 2 rfl ?_
    refine g_callVi (wr := [((ad 16), .inl (cA 0, 64, .inl P_heights)), ((ad 18), .inl (cA 0, 4, .inl P_near))]) C (c_X2_at ad cA p1 p2 P_wide P_high) gX2_putInOrder_X2_at rfl hde_X2_at ⟨rfl, rfl⟩ (by decide) (by decide) [0] [1, 2] [2, 0, 1] rfl rfl rfl rfl (by decide) rfl (ws2 := fun u => [((ad 15), .inr (2, [.ref (ad 16), .ref (ad 17), .ref (ad 18), .int P_wide, .int P_high])), ((ad 16), .inl (cA 0, 64, .inl P_heights)), ((ad 18), .inl (cA 0, 4, .inl P_near))]) (fun _ => rfl) 2 0 rfl rfl rfl (rest := [.ref (ad 16)]) rfl (Nat.le_of_ble_eq_true rfl) dX2_putInOrder_18 (fun r_3 u_3 hp_3 => ?_)
    subst hp_3
    change gW X 0 0 [((ad 15), .inr (2, [.ref (ad 16), .ref (ad 17), .ref (ad 18), .int P_wide, .int P_high])), ((ad 16), .inl (cA 0, 64, .inl P_heights)), ((ad 18), .inl (cA 0, 4, .inl P_near))] 6 [(0, .ref (ad 15)), (1, .int p1), (2, .int p2), (3, .int p3)] [.int (fnX2_at p1 p2 P_wide P_high), .ref (ad 16)] 21
    obtain ⟨hi_4, h⟩ := h
    refine g_iald C 1 0 rfl rfl hi_4 dX2_putInOrder_21 ?_
    refine g_topi (fun x4_5 ex4_5 => ?_)
    replace h := h x4_5 ex4_5
    refine g_istore (lv2 := [(0, .ref (ad 15)), (1, .int p1), (2, .int p2), (3, .int p3), (4, .int x4_5)]) C dX2_putInOrder_22 (by decide) [1, 2, 3, 4, 0] rfl ?_
    refine g_iload_n C dX2_putInOrder_24 rfl 3 rfl ?_
    refine g_istore (lv2 := [(0, .ref (ad 15)), (1, .int p1), (2, .int p2), (3, .int p3), (4, .int x4_5), (5, .int p3)]) C dX2_putInOrder_25 (by decide) [1, 2, 3, 4, 5, 0] rfl ?_
    exact g_lv [0, 3, 4, 5] rfl h
  · replace h := h.2 c_2
    refine g_iload_n C dX2_putInOrder_9 rfl 3 rfl ?_
    exact g_iret C E P_near h rfl dX2_putInOrder_10
set_option maxHeartbeats 4000000 in
set_option maxRecDepth 100000 in
theorem sgX2_putInOrder_27 {X : gX} {ad : Nat → Nat} {cA : Nat → ClassId} {post : Int32 → ((Nat → Int32)) → Prop} {x3 : Int32} {x4 : Int32} {x5 : Int32} {P_wide : Int32} {P_high : Int32} {P_heights : Nat → Int32} {P_near : Nat → Int32} (C : gC X (gT cA) cX2_putInOrder 6 RX2 wsX2_putInOrder rmX2_putInOrder) (E : gEi X (some .int) (gT cA) 0 0 post (w1X2_putInOrder ad cA P_wide P_high P_heights)) (h : (x5 ≤ 0 → vp_in x5 4 ∧ post (x3 + (1 : Int32)) (upd P_near x5.toNatClampNeg x4)) ∧ (¬ x5 ≤ 0 → vp_in (x5 - (1 : Int32)) 4 ∧ ((P_near (x5 - (1 : Int32)).toNatClampNeg) ≤ x4 → vp_in x5 4 ∧ post (x3 + (1 : Int32)) (upd P_near x5.toNatClampNeg x4)) ∧ (¬ (P_near (x5 - (1 : Int32)).toNatClampNeg) ≤ x4 → vp_in (x5 - (1 : Int32)) 4 ∧ vp_in x5 4 ∧ atX2_putInOrder_27 X ad cA x3 x4 (x5 + (-1)) P_wide P_high P_heights (upd P_near x5.toNatClampNeg (P_near (x5 - (1 : Int32)).toNatClampNeg))))) : atX2_putInOrder_27 X ad cA x3 x4 x5 P_wide P_high P_heights P_near := by
  refine g_iload C dX2_putInOrder_27 3 rfl ?_
  refine g_if_le (tgt := 68) C dX2_putInOrder_29 (by decide) (fun c_6 => ?_) (fun c_6 => ?_)
  · replace h := h.1 c_6
    refine g_aload_n C dX2_putInOrder_68 rfl 0 rfl ?_
    refine g_get C gfX2_putInOrder_19 0 rfl rfl dX2_putInOrder_69 ?_
    refine g_iload C dX2_putInOrder_72 3 rfl ?_
    refine g_iload C dX2_putInOrder_74 2 rfl ?_
    obtain ⟨hi_7, h⟩ := h
    refine g_iast (ws2 := [((ad 15), .inr (2, [.ref (ad 16), .ref (ad 17), .ref (ad 18), .int P_wide, .int P_high])), ((ad 16), .inl (cA 0, 64, .inl P_heights)), ((ad 18), .inl (cA 0, 4, .inl (upd P_near x5.toNatClampNeg x4)))]) C 2 0 rfl rfl hi_7 rfl dX2_putInOrder_76 ?_
    refine g_iload_n C dX2_putInOrder_77 rfl 1 rfl ?_
    refine g_iconst C dX2_putInOrder_78 ik_1 ?_
    refine g_iadd C dX2_putInOrder_79 ?_
    exact g_iret C E (upd P_near x5.toNatClampNeg x4) h rfl dX2_putInOrder_80
  · replace h := h.2 c_6
    refine g_aload_n C dX2_putInOrder_32 rfl 0 rfl ?_
    refine g_get C gfX2_putInOrder_19 0 rfl rfl dX2_putInOrder_33 ?_
    refine g_iload C dX2_putInOrder_36 3 rfl ?_
    refine g_iconst C dX2_putInOrder_38 ik_1 ?_
    refine g_isub C dX2_putInOrder_39 ?_
    obtain ⟨hi_8, h⟩ := h
    refine g_iald C 2 0 rfl rfl hi_8 dX2_putInOrder_40 ?_
    refine g_iload C dX2_putInOrder_41 2 rfl ?_
    refine g_icmp_le (tgt := 68) C dX2_putInOrder_43 (by decide) (fun c_9 => ?_) (fun c_9 => ?_)
    · replace h := h.1 c_9
      refine g_aload_n C dX2_putInOrder_68 rfl 0 rfl ?_
      refine g_get C gfX2_putInOrder_19 0 rfl rfl dX2_putInOrder_69 ?_
      refine g_iload C dX2_putInOrder_72 3 rfl ?_
      refine g_iload C dX2_putInOrder_74 2 rfl ?_
      obtain ⟨hi_10, h⟩ := h
      refine g_iast (ws2 := [((ad 15), .inr (2, [.ref (ad 16), .ref (ad 17), .ref (ad 18), .int P_wide, .int P_high])), ((ad 16), .inl (cA 0, 64, .inl P_heights)), ((ad 18), .inl (cA 0, 4, .inl (upd P_near x5.toNatClampNeg x4)))]) C 2 0 rfl rfl hi_10 rfl dX2_putInOrder_76 ?_
      refine g_iload_n C dX2_putInOrder_77 rfl 1 rfl ?_
      refine g_iconst C dX2_putInOrder_78 ik_1 ?_
      refine g_iadd C dX2_putInOrder_79 ?_
      exact g_iret C E (upd P_near x5.toNatClampNeg x4) h rfl dX2_putInOrder_80
    · replace h := h.2 c_9
      refine g_aload_n C dX2_putInOrder_46 rfl 0 rfl ?_
      refine g_get C gfX2_putInOrder_19 0 rfl rfl dX2_putInOrder_47 ?_
      refine g_iload C dX2_putInOrder_50 3 rfl ?_
      refine g_aload_n C dX2_putInOrder_52 rfl 0 rfl ?_
      refine g_get C gfX2_putInOrder_19 0 rfl rfl dX2_putInOrder_53 ?_
      refine g_iload C dX2_putInOrder_56 3 rfl ?_
      refine g_iconst C dX2_putInOrder_58 ik_1 ?_
      refine g_isub C dX2_putInOrder_59 ?_
      obtain ⟨hi_11, h⟩ := h
      refine g_iald C 2 0 rfl rfl hi_11 dX2_putInOrder_60 ?_
      obtain ⟨hi_12, h⟩ := h
      refine g_iast (ws2 := [((ad 15), .inr (2, [.ref (ad 16), .ref (ad 17), .ref (ad 18), .int P_wide, .int P_high])), ((ad 16), .inl (cA 0, 64, .inl P_heights)), ((ad 18), .inl (cA 0, 4, .inl (upd P_near x5.toNatClampNeg (P_near (x5 - (1 : Int32)).toNatClampNeg))))]) C 2 0 rfl rfl hi_12 rfl dX2_putInOrder_61 ?_
      refine g_iinc (v := (x5 + (-1))) (lv2 := [(0, .ref (ad 15)), (3, .int x3), (4, .int x4), (5, .int (x5 + (-1)))]) C dX2_putInOrder_62 3 rfl (by first | rfl | decide) (by decide) [1, 2, 3, 0] rfl ?_
      refine g_goto (tgt := 27) C dX2_putInOrder_65 (by decide) ?_
      exact g_lv [0, 1, 2, 3] rfl h
def prX2_putInOrder (p1 : Int32) (p2 : Int32) (p3 : Int32) (P_wide : Int32) (P_high : Int32) (P_heights : Nat → Int32) (P_near : Nat → Int32) : Prop := vp_in p3 4 ∧ (fnX2_has p1 p2 P_wide P_high = true → vp_in (fnX2_at p1 p2 P_wide P_high) 64)
def po_X2_putInOrder (ad : Nat → Nat) (cA : Nat → ClassId) (p1 : Int32) (p2 : Int32) (p3 : Int32) (P_wide : Int32) (P_high : Int32) (P_heights : Nat → Int32) (P_near : Nat → Int32) (r : Int32) (u : (Nat → Int32)) : Prop := (fnX2_has p1 p2 P_wide P_high = true → r = p3 + 1 ∧ u = insA P_near p3.toNatClampNeg (P_heights (fnX2_at p1 p2 P_wide P_high).toNatClampNeg)) ∧ (fnX2_has p1 p2 P_wide P_high = false → r = p3 ∧ u = P_near)
set_option maxHeartbeats 4000000 in
set_option maxRecDepth 100000 in
theorem c_X2_putInOrder (ad : Nat → Nat) (cA : Nat → ClassId) (p1 : Int32) (p2 : Int32) (p3 : Int32) (P_wide : Int32) (P_high : Int32) (P_heights : Nat → Int32) (P_near : Nat → Int32) (hq : prX2_putInOrder p1 p2 p3 P_wide P_high P_heights P_near) : ∀ (l : Launch) (D : va_G), gMi (S := (Nat → Int32)) l yX2_putInOrder wsX2_putInOrder rmX2_putInOrder D (gT cA) 0 0 [.ref (ad 15), .int p1, .int p2, .int p3] (wcX2_putInOrder ad cA P_wide P_high P_heights P_near) (po_X2_putInOrder ad cA p1 p2 p3 P_wide P_high P_heights P_near) (w1X2_putInOrder ad cA P_wide P_high P_heights) := by
  intro l D
  unfold prX2_putInOrder at hq
  refine g_enteri (cc := cX2_putInOrder) (nL := 6) (ret := (some .int)) (by decide) rfl (Nat.le_of_ble_eq_true rfl) rfl (fun X C E => ?_)
  obtain ⟨h3, hat⟩ := hq
  obtain ⟨j, hj, rfl⟩ := vp_in_of h3 (by decide)
  refine sgX2_putInOrder_0 C E ⟨fun c1 => ⟨hat c1, fun v ev => ?_⟩, fun c1 => ⟨fun c2 => absurd (c1.symm.trans c2) (by decide), fun _ => ⟨rfl, rfl⟩⟩⟩
  have hpo : ∀ (r : Int32) (u : Nat → Int32), r = nI j + 1 → u = insA P_near j v → po_X2_putInOrder ad cA p1 p2 (nI j) P_wide P_high P_heights P_near r u := fun r u h1 h2 => ⟨fun _ => ⟨h1, by rw [nI_clamp (by omega), ← ev]; exact h2⟩, fun c2 => absurd (c1.symm.trans c2) (by decide)⟩
  have loop : ∀ (i : Nat) (g : Nat → Int32), i < 4 → insA g i v = insA P_near j v → atX2_putInOrder_27 X ad cA (nI j) v (nI i) P_wide P_high P_heights g := by
    intro i
    induction i with
    | zero =>
      intro g _ e
      refine sgX2_putInOrder_27 C E ⟨fun _ => ⟨vp_in_nI (by omega) (by decide), hpo _ _ rfl ?_⟩, fun c => absurd (nI_le (Nat.le_refl 0) (by decide)) c⟩
      rw [← e, nI_clamp (by decide)]; rfl
    | succ i ih =>
      intro g hi e
      have e1 : nI (i + 1) - 1 = nI i := nI_pred i
      have hc : vp_in (nI i) 4 := vp_in_nI (by omega) (by decide)
      refine sgX2_putInOrder_27 C E ⟨fun c => absurd c (nI_nle (by omega) (by omega)), fun _ => ?_⟩
      rw [e1, nI_clamp (by omega)]
      refine ⟨hc, fun c => ⟨vp_in_nI (by omega) (by decide), hpo _ _ rfl ?_⟩, fun c => ⟨hc, vp_in_nI (by omega) (by decide), ?_⟩⟩
      · rw [← e, nI_clamp (by omega)]
        show _ = insA g (i + 1) v
        rw [insA, if_neg (by rw [Int32.not_lt]; exact c)]
      · rw [show nI (i + 1) + (-1) = nI i from pk_m1 i, nI_clamp (by omega)]
        refine ih _ (by omega) ?_
        rw [← e]
        show _ = insA g (i + 1) v
        rw [insA, if_pos (by rw [← Int32.not_le]; exact c)]
  exact loop j P_near hj rfl


/-- one neighbour put in its place -/
theorem put_step {ad : Nat → Nat} {cA : Nat → ClassId} {a b : Int} {w h : Nat} (ha : -1 ≤ a ∧ a ≤ 8) (hb : -1 ≤ b ∧ b ≤ 8) (hw : w ≤ 8) (hh : h ≤ 8) {q : Nat × (Nat → Int32)} {r : Int32} {u H : Nat → Int32} {p1 p2 : Int32} (e1 : p1 = iI a) (e2 : p2 = iI b) (hp : po_X2_putInOrder ad cA p1 p2 (nI q.1) (nI w) (nI h) H q.2 r u) (hq4 : q.1 < 4) {c : Bool} {n : Nat} (hc : decide (0 ≤ a ∧ a < w ∧ 0 ≤ b ∧ b < h) = c) (hn : c = true → (n : Int) = 8 * b + a) : r = nI (pst c (H n) q).1 ∧ u = (pst c (H n) q).2 := by
  subst e1; subst e2
  obtain ⟨h1, h2⟩ := hp
  have hh := has_iI (a := a) (b := b) (w := w) (h := h) (by omega) (by omega) hw hh
  rw [hc] at hh
  cases hcc : c
  · rw [hcc] at hh; obtain ⟨g1, g2⟩ := h2 hh; exact ⟨g1, g2⟩
  · rw [hcc] at hh; obtain ⟨g1, g2⟩ := h1 hh
    have hn := hn hcc
    rw [nI_clamp (by omega), at_iI, ← hn, iI_nI, nI_clamp (by have := of_decide_eq_true (hc.trans hcc); omega)] at g2
    exact ⟨by rw [g1]; exact nI_1 _, g2⟩
theorem put_pre {a b : Int} {w h : Nat} (ha : -1 ≤ a ∧ a ≤ 8) (hb : -1 ≤ b ∧ b ≤ 8) (hw : w ≤ 8) (hh : h ≤ 8) {q : Nat × (Nat → Int32)} {H : Nat → Int32} {p1 p2 : Int32} (e1 : p1 = iI a) (e2 : p2 = iI b) (hq4 : q.1 < 4) : prX2_putInOrder p1 p2 (nI q.1) (nI w) (nI h) H q.2 := by
  subst e1; subst e2
  refine ⟨vp_in_nI hq4 (by decide), fun c => ?_⟩
  rw [has_iI (by omega) (by omega) hw hh] at c
  have := of_decide_eq_true c
  exact at_in (by omega) _ _

abbrev w1X2_stepped (ad : Nat → Nat) (cA : Nat → ClassId) (P_wide : Int32) (P_high : Int32) (P_heights : Nat → Int32) (P_pinned : Nat → Int32) (u : (Nat → Int32)) : va_W := [((ad 15), .inr (2, [.ref (ad 16), .ref (ad 17), .ref (ad 18), .int P_wide, .int P_high])), ((ad 16), .inl (cA 0, 64, .inl P_heights)), ((ad 17), .inl (cA 2, 64, .inl P_pinned)), ((ad 18), .inl (cA 0, 4, .inl u))]
abbrev wcX2_stepped (ad : Nat → Nat) (cA : Nat → ClassId) (P_wide : Int32) (P_high : Int32) (P_heights : Nat → Int32) (P_pinned : Nat → Int32) (P_near : Nat → Int32) : va_W := [((ad 15), .inr (2, [.ref (ad 16), .ref (ad 17), .ref (ad 18), .int P_wide, .int P_high])), ((ad 16), .inl (cA 0, 64, .inl P_heights)), ((ad 17), .inl (cA 2, 64, .inl P_pinned)), ((ad 18), .inl (cA 0, 4, .inl P_near))]
def rmX2_stepped : Room := { frames := 2, cells := 0, slots := 0, locals := 47 }
abbrev atX2_stepped_0 (X : gX) (ad : Nat → Nat) (cA : Nat → ClassId) (p1 : Int32) (p2 : Int32) (P_wide : Int32) (P_high : Int32) (P_heights : Nat → Int32) (P_pinned : Nat → Int32) (P_near : Nat → Int32) : Prop := gW X 0 0 [((ad 15), .inr (2, [.ref (ad 16), .ref (ad 17), .ref (ad 18), .int P_wide, .int P_high])), ((ad 16), .inl (cA 0, 64, .inl P_heights)), ((ad 17), .inl (cA 2, 64, .inl P_pinned)), ((ad 18), .inl (cA 0, 4, .inl P_near))] 7 [(0, .ref (ad 15)), (1, .int p1), (2, .int p2)] [] 0
theorem mmX2_stepped_68a : Cond.methodLink RX2 68 Lib.Math.min.name ∈ wsX2_stepped := by decide +kernel
theorem mmX2_stepped_68b : Cond.static Lib.Math.min.name ∈ wsX2_stepped := by decide +kernel
theorem mmX2_stepped_68c : Cond.initialized "java/lang/Math" ∈ wsX2_stepped := by decide +kernel
theorem mmX2_stepped_68d : Cond.code Lib.Math.min.name Lib.Math.min.code 2 (some .int) ∈ wsX2_stepped := by decide +kernel
theorem mmX2_stepped_71a : Cond.methodLink RX2 71 Lib.Math.max.name ∈ wsX2_stepped := by decide +kernel
theorem mmX2_stepped_71b : Cond.static Lib.Math.max.name ∈ wsX2_stepped := by decide +kernel
theorem mmX2_stepped_71c : Cond.initialized "java/lang/Math" ∈ wsX2_stepped := by decide +kernel
theorem mmX2_stepped_71d : Cond.code Lib.Math.max.name Lib.Math.max.code 2 (some .int) ∈ wsX2_stepped := by decide +kernel
theorem giX2_stepped_X2 : ∀ w ∈ u_ws RX2 TX2 5, w ∈ wsX2_stepped := by decide +kernel
theorem gfX2_stepped_9 : gF wsX2_stepped RX2 9 2 0 RX2 TX2 5 := ⟨giX2_stepped_X2, by decide +kernel, rfl, by decide⟩
theorem gfX2_stepped_15 : gF wsX2_stepped RX2 15 2 1 RX2 TX2 5 := ⟨giX2_stepped_X2, by decide +kernel, rfl, by decide⟩
theorem gfX2_stepped_19 : gF wsX2_stepped RX2 19 2 2 RX2 TX2 5 := ⟨giX2_stepped_X2, by decide +kernel, rfl, by decide⟩
set_option maxHeartbeats 4000000 in
set_option maxRecDepth 100000 in
theorem sgX2_stepped_0 {X : gX} {ad : Nat → Nat} {cA : Nat → ClassId} {post : Int32 → ((Nat → Int32)) → Prop} {p1 : Int32} {p2 : Int32} {P_wide : Int32} {P_high : Int32} {P_heights : Nat → Int32} {P_pinned : Nat → Int32} {P_near : Nat → Int32} (C : gC X (gT cA) cX2_stepped 7 RX2 wsX2_stepped rmX2_stepped) (E : gEi X (some .int) (gT cA) 0 0 post (w1X2_stepped ad cA P_wide P_high P_heights P_pinned)) (h : vp_in (fnX2_at p1 p2 P_wide P_high) 64 ∧ ∀ x3_3 : Int32, x3_3 = (P_heights (fnX2_at p1 p2 P_wide P_high).toNatClampNeg) → vp_in (fnX2_at p1 p2 P_wide P_high) 64 ∧ ((P_pinned (fnX2_at p1 p2 P_wide P_high).toNatClampNeg) = 0 → prX2_putInOrder (p1 - (1 : Int32)) p2 (0 : Int32) P_wide P_high P_heights P_near ∧ ∀ (r_8 : Int32) (u8_P_near : Nat → Int32), po_X2_putInOrder ad cA (p1 - (1 : Int32)) p2 (0 : Int32) P_wide P_high P_heights P_near r_8 u8_P_near → prX2_putInOrder (p1 + (1 : Int32)) p2 r_8 P_wide P_high P_heights u8_P_near ∧ ∀ (r_10 : Int32) (u10_P_near : Nat → Int32), po_X2_putInOrder ad cA (p1 + (1 : Int32)) p2 r_8 P_wide P_high P_heights u8_P_near r_10 u10_P_near → prX2_putInOrder p1 (p2 - (1 : Int32)) r_10 P_wide P_high P_heights u10_P_near ∧ ∀ (r_12 : Int32) (u12_P_near : Nat → Int32), po_X2_putInOrder ad cA p1 (p2 - (1 : Int32)) r_10 P_wide P_high P_heights u10_P_near r_12 u12_P_near → prX2_putInOrder p1 (p2 + (1 : Int32)) r_12 P_wide P_high P_heights u12_P_near ∧ ∀ (r_14 : Int32) (u14_P_near : Nat → Int32), po_X2_putInOrder ad cA p1 (p2 + (1 : Int32)) r_12 P_wide P_high P_heights u12_P_near r_14 u14_P_near → vp_in ((r_14 - (1 : Int32)) / (2 : Int32)) 4 ∧ ∀ x5_16 : Int32, x5_16 = (u14_P_near ((r_14 - (1 : Int32)) / (2 : Int32)).toNatClampNeg) → vp_in (r_14 / (2 : Int32)) 4 ∧ ∀ x6_18 : Int32, x6_18 = (u14_P_near (r_14 / (2 : Int32)).toNatClampNeg) → post (if x5_16 < (if x3_3 < x6_18 then x3_3 else x6_18) then (if x3_3 < x6_18 then x3_3 else x6_18) else x5_16) u14_P_near) ∧ (¬ (P_pinned (fnX2_at p1 p2 P_wide P_high).toNatClampNeg) = 0 → post x3_3 P_near)) : atX2_stepped_0 X ad cA p1 p2 P_wide P_high P_heights P_pinned P_near := by
  refine g_aload_n C dX2_stepped_0 rfl 0 rfl ?_
  refine g_get C gfX2_stepped_9 0 rfl rfl dX2_stepped_1 ?_
  refine g_aload_n C dX2_stepped_4 rfl 0 rfl ?_
  refine g_iload_n C dX2_stepped_5 rfl 1 rfl ?_
  refine g_iload_n C dX2_stepped_6 rfl 2 rfl ?_
  refine g_callVi (wr := [((ad 16), .inl (cA 0, 64, .inl P_heights)), ((ad 17), .inl (cA 2, 64, .inl P_pinned)), ((ad 18), .inl (cA 0, 4, .inl P_near))]) C (c_X2_at ad cA p1 p2 P_wide P_high) gX2_stepped_X2_at rfl hde_X2_at ⟨rfl, rfl⟩ (by decide) (by decide) [0] [1, 2, 3] [3, 0, 1, 2] rfl rfl rfl rfl (by decide) rfl (ws2 := fun u => [((ad 15), .inr (2, [.ref (ad 16), .ref (ad 17), .ref (ad 18), .int P_wide, .int P_high])), ((ad 16), .inl (cA 0, 64, .inl P_heights)), ((ad 17), .inl (cA 2, 64, .inl P_pinned)), ((ad 18), .inl (cA 0, 4, .inl P_near))]) (fun _ => rfl) 2 0 rfl rfl rfl (rest := [.ref (ad 16)]) rfl (Nat.le_of_ble_eq_true rfl) dX2_stepped_7 (fun r_1 u_1 hp_1 => ?_)
  subst hp_1
  change gW X 0 0 [((ad 15), .inr (2, [.ref (ad 16), .ref (ad 17), .ref (ad 18), .int P_wide, .int P_high])), ((ad 16), .inl (cA 0, 64, .inl P_heights)), ((ad 17), .inl (cA 2, 64, .inl P_pinned)), ((ad 18), .inl (cA 0, 4, .inl P_near))] 7 [(0, .ref (ad 15)), (1, .int p1), (2, .int p2)] [.int (fnX2_at p1 p2 P_wide P_high), .ref (ad 16)] 10
  obtain ⟨hi_2, h⟩ := h
  refine g_iald C 1 0 rfl rfl hi_2 dX2_stepped_10 ?_
  refine g_topi (fun x3_3 ex3_3 => ?_)
  replace h := h x3_3 ex3_3
  refine g_istore_n (lv2 := [(0, .ref (ad 15)), (1, .int p1), (2, .int p2), (3, .int x3_3)]) C dX2_stepped_11 rfl (by decide) [1, 2, 3, 0] rfl ?_
  refine g_aload_n C dX2_stepped_12 rfl 0 rfl ?_
  refine g_get C gfX2_stepped_15 0 rfl rfl dX2_stepped_13 ?_
  refine g_aload_n C dX2_stepped_16 rfl 0 rfl ?_
  refine g_iload_n C dX2_stepped_17 rfl 1 rfl ?_
  refine g_iload_n C dX2_stepped_18 rfl 2 rfl ?_
  refine g_callVi (wr := [((ad 16), .inl (cA 0, 64, .inl P_heights)), ((ad 17), .inl (cA 2, 64, .inl P_pinned)), ((ad 18), .inl (cA 0, 4, .inl P_near))]) C (c_X2_at ad cA p1 p2 P_wide P_high) gX2_stepped_X2_at rfl hde_X2_at ⟨rfl, rfl⟩ (by decide) (by decide) [0] [1, 2, 3] [3, 0, 1, 2] rfl rfl rfl rfl (by decide) rfl (ws2 := fun u => [((ad 15), .inr (2, [.ref (ad 16), .ref (ad 17), .ref (ad 18), .int P_wide, .int P_high])), ((ad 16), .inl (cA 0, 64, .inl P_heights)), ((ad 17), .inl (cA 2, 64, .inl P_pinned)), ((ad 18), .inl (cA 0, 4, .inl P_near))]) (fun _ => rfl) 2 0 rfl rfl rfl (rest := [.ref (ad 17)]) rfl (Nat.le_of_ble_eq_true rfl) dX2_stepped_19 (fun r_4 u_4 hp_4 => ?_)
  subst hp_4
  change gW X 0 0 [((ad 15), .inr (2, [.ref (ad 16), .ref (ad 17), .ref (ad 18), .int P_wide, .int P_high])), ((ad 16), .inl (cA 0, 64, .inl P_heights)), ((ad 17), .inl (cA 2, 64, .inl P_pinned)), ((ad 18), .inl (cA 0, 4, .inl P_near))] 7 [(0, .ref (ad 15)), (1, .int p1), (2, .int p2), (3, .int x3_3)] [.int (fnX2_at p1 p2 P_wide P_high), .ref (ad 17)] 22
  obtain ⟨hi_5, h⟩ := h
  refine g_zald C 2 2 rfl rfl hi_5 dX2_stepped_22 ?_
  refine g_if_eq (tgt := 28) C dX2_stepped_23 (by decide) (fun c_6 => ?_) (fun c_6 => ?_)
  · replace h := h.1 c_6
    refine g_aload_n C dX2_stepped_28 rfl 0 rfl ?_
    refine g_iload_n C dX2_stepped_29 rfl 1 rfl ?_
    refine g_iconst C dX2_stepped_30 ik_1 ?_
    refine g_isub C dX2_stepped_31 ?_
    refine g_iload_n C dX2_stepped_32 rfl 2 rfl ?_
    refine g_iconst C dX2_stepped_33 ik_0 ?_
    obtain ⟨hi_7, h⟩ := h
    refine g_callVi (wr := [((ad 17), .inl (cA 2, 64, .inl P_pinned))]) C (c_X2_putInOrder ad cA (p1 - (1 : Int32)) p2 (0 : Int32) P_wide P_high P_heights P_near hi_7) gX2_stepped_X2_putInOrder rfl hde_X2_putInOrder ⟨rfl, rfl⟩ (by decide) (by decide) [0, 1, 3] [2] [1, 2, 0, 3] rfl rfl rfl rfl (by decide) rfl (ws2 := fun u => [((ad 15), .inr (2, [.ref (ad 16), .ref (ad 17), .ref (ad 18), .int P_wide, .int P_high])), ((ad 16), .inl (cA 0, 64, .inl P_heights)), ((ad 17), .inl (cA 2, 64, .inl P_pinned)), ((ad 18), .inl (cA 0, 4, .inl u))]) (fun _ => rfl) 2 0 rfl rfl rfl (rest := []) rfl (Nat.le_of_ble_eq_true rfl) dX2_stepped_34 (fun r_8 u_8 hp_8 => ?_)
    obtain ⟨u8_P_near, rfl⟩ : ∃ z, z = u_8 := ⟨_, rfl⟩
    replace h := h r_8 u8_P_near hp_8
    change gW X 0 0 [((ad 15), .inr (2, [.ref (ad 16), .ref (ad 17), .ref (ad 18), .int P_wide, .int P_high])), ((ad 16), .inl (cA 0, 64, .inl P_heights)), ((ad 17), .inl (cA 2, 64, .inl P_pinned)), ((ad 18), .inl (cA 0, 4, .inl u8_P_near))] 7 [(0, .ref (ad 15)), (1, .int p1), (2, .int p2), (3, .int x3_3)] [.int r_8] 37
    refine g_istore (lv2 := [(0, .ref (ad 15)), (1, .int p1), (2, .int p2), (3, .int x3_3), (4, .int r_8)]) C dX2_stepped_37 (by decide) [1, 2, 3, 4, 0] rfl ?_
    refine g_aload_n C dX2_stepped_39 rfl 0 rfl ?_
    refine g_iload_n C dX2_stepped_40 rfl 1 rfl ?_
    refine g_iconst C dX2_stepped_41 ik_1 ?_
    refine g_iadd C dX2_stepped_42 ?_
    refine g_iload_n C dX2_stepped_43 rfl 2 rfl ?_
    refine g_iload C dX2_stepped_44 4 rfl ?_
    obtain ⟨hi_9, h⟩ := h
    refine g_callVi (wr := [((ad 17), .inl (cA 2, 64, .inl P_pinned))]) C (c_X2_putInOrder ad cA (p1 + (1 : Int32)) p2 r_8 P_wide P_high P_heights u8_P_near hi_9) gX2_stepped_X2_putInOrder rfl hde_X2_putInOrder ⟨rfl, rfl⟩ (by decide) (by decide) [0, 1, 3] [2] [1, 2, 0, 3] rfl rfl rfl rfl (by decide) rfl (ws2 := fun u => [((ad 15), .inr (2, [.ref (ad 16), .ref (ad 17), .ref (ad 18), .int P_wide, .int P_high])), ((ad 16), .inl (cA 0, 64, .inl P_heights)), ((ad 17), .inl (cA 2, 64, .inl P_pinned)), ((ad 18), .inl (cA 0, 4, .inl u))]) (fun _ => rfl) 2 0 rfl rfl rfl (rest := []) rfl (Nat.le_of_ble_eq_true rfl) dX2_stepped_46 (fun r_10 u_10 hp_10 => ?_)
    obtain ⟨u10_P_near, rfl⟩ : ∃ z, z = u_10 := ⟨_, rfl⟩
    replace h := h r_10 u10_P_near hp_10
    change gW X 0 0 [((ad 15), .inr (2, [.ref (ad 16), .ref (ad 17), .ref (ad 18), .int P_wide, .int P_high])), ((ad 16), .inl (cA 0, 64, .inl P_heights)), ((ad 17), .inl (cA 2, 64, .inl P_pinned)), ((ad 18), .inl (cA 0, 4, .inl u10_P_near))] 7 [(0, .ref (ad 15)), (1, .int p1), (2, .int p2), (3, .int x3_3), (4, .int r_8)] [.int r_10] 49
    refine g_istore (lv2 := [(0, .ref (ad 15)), (1, .int p1), (2, .int p2), (3, .int x3_3), (4, .int r_10)]) C dX2_stepped_49 (by decide) [1, 2, 3, 4, 0] rfl ?_
    refine g_aload_n C dX2_stepped_51 rfl 0 rfl ?_
    refine g_iload_n C dX2_stepped_52 rfl 1 rfl ?_
    refine g_iload_n C dX2_stepped_53 rfl 2 rfl ?_
    refine g_iconst C dX2_stepped_54 ik_1 ?_
    refine g_isub C dX2_stepped_55 ?_
    refine g_iload C dX2_stepped_56 4 rfl ?_
    obtain ⟨hi_11, h⟩ := h
    refine g_callVi (wr := [((ad 17), .inl (cA 2, 64, .inl P_pinned))]) C (c_X2_putInOrder ad cA p1 (p2 - (1 : Int32)) r_10 P_wide P_high P_heights u10_P_near hi_11) gX2_stepped_X2_putInOrder rfl hde_X2_putInOrder ⟨rfl, rfl⟩ (by decide) (by decide) [0, 1, 3] [2] [1, 2, 0, 3] rfl rfl rfl rfl (by decide) rfl (ws2 := fun u => [((ad 15), .inr (2, [.ref (ad 16), .ref (ad 17), .ref (ad 18), .int P_wide, .int P_high])), ((ad 16), .inl (cA 0, 64, .inl P_heights)), ((ad 17), .inl (cA 2, 64, .inl P_pinned)), ((ad 18), .inl (cA 0, 4, .inl u))]) (fun _ => rfl) 2 0 rfl rfl rfl (rest := []) rfl (Nat.le_of_ble_eq_true rfl) dX2_stepped_58 (fun r_12 u_12 hp_12 => ?_)
    obtain ⟨u12_P_near, rfl⟩ : ∃ z, z = u_12 := ⟨_, rfl⟩
    replace h := h r_12 u12_P_near hp_12
    change gW X 0 0 [((ad 15), .inr (2, [.ref (ad 16), .ref (ad 17), .ref (ad 18), .int P_wide, .int P_high])), ((ad 16), .inl (cA 0, 64, .inl P_heights)), ((ad 17), .inl (cA 2, 64, .inl P_pinned)), ((ad 18), .inl (cA 0, 4, .inl u12_P_near))] 7 [(0, .ref (ad 15)), (1, .int p1), (2, .int p2), (3, .int x3_3), (4, .int r_10)] [.int r_12] 61
    refine g_istore (lv2 := [(0, .ref (ad 15)), (1, .int p1), (2, .int p2), (3, .int x3_3), (4, .int r_12)]) C dX2_stepped_61 (by decide) [1, 2, 3, 4, 0] rfl ?_
    refine g_aload_n C dX2_stepped_63 rfl 0 rfl ?_
    refine g_iload_n C dX2_stepped_64 rfl 1 rfl ?_
    refine g_iload_n C dX2_stepped_65 rfl 2 rfl ?_
    refine g_iconst C dX2_stepped_66 ik_1 ?_
    refine g_iadd C dX2_stepped_67 ?_
    refine g_iload C dX2_stepped_68 4 rfl ?_
    obtain ⟨hi_13, h⟩ := h
    refine g_callVi (wr := [((ad 17), .inl (cA 2, 64, .inl P_pinned))]) C (c_X2_putInOrder ad cA p1 (p2 + (1 : Int32)) r_12 P_wide P_high P_heights u12_P_near hi_13) gX2_stepped_X2_putInOrder rfl hde_X2_putInOrder ⟨rfl, rfl⟩ (by decide) (by decide) [0, 1, 3] [2] [1, 2, 0, 3] rfl rfl rfl rfl (by decide) rfl (ws2 := fun u => [((ad 15), .inr (2, [.ref (ad 16), .ref (ad 17), .ref (ad 18), .int P_wide, .int P_high])), ((ad 16), .inl (cA 0, 64, .inl P_heights)), ((ad 17), .inl (cA 2, 64, .inl P_pinned)), ((ad 18), .inl (cA 0, 4, .inl u))]) (fun _ => rfl) 2 0 rfl rfl rfl (rest := []) rfl (Nat.le_of_ble_eq_true rfl) dX2_stepped_70 (fun r_14 u_14 hp_14 => ?_)
    obtain ⟨u14_P_near, rfl⟩ : ∃ z, z = u_14 := ⟨_, rfl⟩
    replace h := h r_14 u14_P_near hp_14
    change gW X 0 0 [((ad 15), .inr (2, [.ref (ad 16), .ref (ad 17), .ref (ad 18), .int P_wide, .int P_high])), ((ad 16), .inl (cA 0, 64, .inl P_heights)), ((ad 17), .inl (cA 2, 64, .inl P_pinned)), ((ad 18), .inl (cA 0, 4, .inl u14_P_near))] 7 [(0, .ref (ad 15)), (1, .int p1), (2, .int p2), (3, .int x3_3), (4, .int r_12)] [.int r_14] 73
    refine g_istore (lv2 := [(0, .ref (ad 15)), (1, .int p1), (2, .int p2), (3, .int x3_3), (4, .int r_14)]) C dX2_stepped_73 (by decide) [1, 2, 3, 4, 0] rfl ?_
    refine g_aload_n C dX2_stepped_75 rfl 0 rfl ?_
    refine g_get C gfX2_stepped_19 0 rfl rfl dX2_stepped_76 ?_
    refine g_iload C dX2_stepped_79 4 rfl ?_
    refine g_iconst C dX2_stepped_81 ik_1 ?_
    refine g_isub C dX2_stepped_82 ?_
    refine g_iconst C dX2_stepped_83 ik_2 ?_
    refine g_idiv C dX2_stepped_84 (by decide) ?_
    obtain ⟨hi_15, h⟩ := h
    refine g_iald C 3 0 rfl rfl hi_15 dX2_stepped_85 ?_
    refine g_topi (fun x5_16 ex5_16 => ?_)
    replace h := h x5_16 ex5_16
    refine g_istore (lv2 := [(0, .ref (ad 15)), (1, .int p1), (2, .int p2), (3, .int x3_3), (4, .int r_14), (5, .int x5_16)]) C dX2_stepped_86 (by decide) [1, 2, 3, 4, 5, 0] rfl ?_
    refine g_aload_n C dX2_stepped_88 rfl 0 rfl ?_
    refine g_get C gfX2_stepped_19 0 rfl rfl dX2_stepped_89 ?_
    refine g_iload C dX2_stepped_92 4 rfl ?_
    refine g_iconst C dX2_stepped_94 ik_2 ?_
    refine g_idiv C dX2_stepped_95 (by decide) ?_
    obtain ⟨hi_17, h⟩ := h
    refine g_iald C 3 0 rfl rfl hi_17 dX2_stepped_96 ?_
    refine g_topi (fun x6_18 ex6_18 => ?_)
    replace h := h x6_18 ex6_18
    refine g_istore (lv2 := [(0, .ref (ad 15)), (1, .int p1), (2, .int p2), (3, .int x3_3), (4, .int r_14), (5, .int x5_16), (6, .int x6_18)]) C dX2_stepped_97 (by decide) [1, 2, 3, 4, 5, 6, 0] rfl ?_
    refine g_iload C dX2_stepped_99 5 rfl ?_
    refine g_iload C dX2_stepped_101 6 rfl ?_
    refine g_iload_n C dX2_stepped_103 rfl 3 rfl ?_
    refine g_mmin C mmX2_stepped_68a mmX2_stepped_68b mmX2_stepped_68c mmX2_stepped_68d (by decide) (Nat.le_of_ble_eq_true rfl) (by decide) (by decide) dX2_stepped_104 ?_
    refine g_mmax C mmX2_stepped_71a mmX2_stepped_71b mmX2_stepped_71c mmX2_stepped_71d (by decide) (Nat.le_of_ble_eq_true rfl) (by decide) (by decide) dX2_stepped_107 ?_
    exact g_iret C E u14_P_near h rfl dX2_stepped_110
  · replace h := h.2 c_6
    refine g_iload_n C dX2_stepped_26 rfl 3 rfl ?_
    exact g_iret C E P_near h rfl dX2_stepped_27
def prX2_stepped (p1 : Int32) (p2 : Int32) (P_wide : Int32) (P_high : Int32) (P_heights : Nat → Int32) (P_pinned : Nat → Int32) (P_near : Nat → Int32) : Prop := ∃ (w h x y : Nat), 2 ≤ w ∧ w ≤ 8 ∧ 2 ≤ h ∧ h ≤ 8 ∧ P_wide = nI w ∧ P_high = nI h ∧ x < w ∧ y < h ∧ p1 = nI x ∧ p2 = nI y
def po_X2_stepped (ad : Nat → Nat) (cA : Nat → ClassId) (p1 : Int32) (p2 : Int32) (P_wide : Int32) (P_high : Int32) (P_heights : Nat → Int32) (P_pinned : Nat → Int32) (P_near : Nat → Int32) (r : Int32) (u : (Nat → Int32)) : Prop := r = stp P_wide.toNatClampNeg P_high.toNatClampNeg P_pinned P_heights p1.toNatClampNeg p2.toNatClampNeg
set_option maxHeartbeats 4000000 in
set_option maxRecDepth 100000 in
theorem c_X2_stepped (ad : Nat → Nat) (cA : Nat → ClassId) (p1 : Int32) (p2 : Int32) (P_wide : Int32) (P_high : Int32) (P_heights : Nat → Int32) (P_pinned : Nat → Int32) (P_near : Nat → Int32) (hq : prX2_stepped p1 p2 P_wide P_high P_heights P_pinned P_near) : ∀ (l : Launch) (D : va_G), gMi (S := (Nat → Int32)) l yX2_stepped wsX2_stepped rmX2_stepped D (gT cA) 0 0 [.ref (ad 15), .int p1, .int p2] (wcX2_stepped ad cA P_wide P_high P_heights P_pinned P_near) (po_X2_stepped ad cA p1 p2 P_wide P_high P_heights P_pinned P_near) (w1X2_stepped ad cA P_wide P_high P_heights P_pinned) := by
  intro l D
  unfold prX2_stepped at hq
  refine g_enteri (cc := cX2_stepped) (nL := 7) (ret := (some .int)) (by decide) rfl (Nat.le_of_ble_eq_true rfl) rfl (fun X C E => ?_)
  obtain ⟨w, h, x, y, hw2, hw, hh2, hh, rfl, rfl, hx, hy, rfl, rfl⟩ := hq
  have hpo : ∀ (r : Int32) (u : Nat → Int32), r = stp w h P_pinned P_heights x y → po_X2_stepped ad cA (nI x) (nI y) (nI w) (nI h) P_heights P_pinned P_near r u := fun r u e => by
    unfold po_X2_stepped
    rw [nI_clamp (by omega), nI_clamp (by omega), nI_clamp (by omega), nI_clamp (by omega)]; exact e
  have hin : vp_in (nI (8 * y + x)) 64 := vp_in_nI (by omega) (by decide)
  have m1 : nI x - 1 = iI ((x : Int) - 1) := by rw [← iI_nI, ← iI_sub]; rfl
  have p1 : nI x + 1 = iI ((x : Int) + 1) := by rw [← iI_nI, ← iI_add]; rfl
  have m2 : nI y - 1 = iI ((y : Int) - 1) := by rw [← iI_nI, ← iI_sub]; rfl
  have p2 : nI y + 1 = iI ((y : Int) + 1) := by rw [← iI_nI, ← iI_add]; rfl
  have x0 : nI x = iI (x : Int) := (iI_nI x).symm
  have y0 : nI y = iI (y : Int) := (iI_nI y).symm
  refine sgX2_stepped_0 C E ?_
  rw [at_eq, nI_clamp (by omega)]
  refine ⟨hin, fun o eo => ⟨hin, fun c => ⟨put_pre (a := (x : Int) - 1) (b := y) (by omega) (by omega) hw hh (q := (0, P_near)) m1 y0 (show 0 < 4 by decide), fun r1 u1 q1 => ?_⟩, fun c => ?_⟩⟩
  · obtain ⟨rfl, rfl⟩ := put_step (by omega) (by omega) hw hh (q := (0, P_near)) m1 y0 q1 (show 0 < 4 by decide) (c := decide (0 < x)) (n := 8 * y + (x - 1)) (by rw [decide_eq_decide]; omega) (fun c => by have := of_decide_eq_true c; omega)
    have k1 := pst_1 (decide (0 < x)) (P_heights (8 * y + (x - 1))) (0, P_near)
    generalize hQ1 : pst (decide (0 < x)) (P_heights (8 * y + (x - 1))) (0, P_near) = Q1 at *
    have c1 : Q1.1 ≤ 1 := by rw [k1]; show 0 + _ ≤ 1; split <;> omega
    refine ⟨put_pre (a := (x : Int) + 1) (b := y) (by omega) (by omega) hw hh p1 y0 (by omega), fun r2 u2 q2 => ?_⟩
    obtain ⟨rfl, rfl⟩ := put_step (by omega) (by omega) hw hh p1 y0 q2 (by omega) (c := decide (x + 1 < w)) (n := 8 * y + (x + 1)) (by rw [decide_eq_decide]; omega) (fun c => by omega)
    have k2 := pst_1 (decide (x + 1 < w)) (P_heights (8 * y + (x + 1))) Q1
    generalize hQ2 : pst (decide (x + 1 < w)) (P_heights (8 * y + (x + 1))) Q1 = Q2 at *
    have c2 : Q2.1 ≤ 2 := by rw [k2]; split <;> omega
    refine ⟨put_pre (a := (x : Int)) (b := (y : Int) - 1) (by omega) (by omega) hw hh x0 m2 (by omega), fun r3 u3 q3 => ?_⟩
    obtain ⟨rfl, rfl⟩ := put_step (by omega) (by omega) hw hh x0 m2 q3 (by omega) (c := decide (0 < y)) (n := 8 * (y - 1) + x) (by rw [decide_eq_decide]; omega) (fun c => by have := of_decide_eq_true c; omega)
    have k3 := pst_1 (decide (0 < y)) (P_heights (8 * (y - 1) + x)) Q2
    generalize hQ3 : pst (decide (0 < y)) (P_heights (8 * (y - 1) + x)) Q2 = Q3 at *
    have c3 : Q3.1 ≤ 3 := by rw [k3]; split <;> omega
    refine ⟨put_pre (a := (x : Int)) (b := (y : Int) + 1) (by omega) (by omega) hw hh x0 p2 (by omega), fun r4 u4 q4 => ?_⟩
    obtain ⟨rfl, rfl⟩ := put_step (by omega) (by omega) hw hh x0 p2 q4 (by omega) (c := decide (y + 1 < h)) (n := 8 * (y + 1) + x) (by rw [decide_eq_decide]; omega) (fun c => by omega)
    have hstq : pst (decide (y + 1 < h)) (P_heights (8 * (y + 1) + x)) Q3 = stq w h P_heights x y P_near := by
      unfold stq; rw [hQ1, hQ2, hQ3]
    rw [hstq]
    have cn := stq_1 hw2 hh2 hx hy P_heights P_near
    have a1 := stq_lohi hw2 hh2 hx hy P_heights P_near
    have a2 := stp_any hw2 hh2 hx hy P_pinned P_heights P_near c
    generalize stq w h P_heights x y P_near = Q4 at *
    have d1 : (nI Q4.1 - 1) / 2 = nI ((Q4.1 - 1) / 2) := by
      show (nI Q4.1 - nI 1) / nI 2 = _
      rw [pk_sub (by omega), pk_div (by omega) (by decide) (by decide)]
    have d2 : nI Q4.1 / 2 = nI (Q4.1 / 2) := pk_div (by omega) (by decide) (by decide)
    rw [d1, d2, nI_clamp (by omega), nI_clamp (by omega)]
    refine ⟨vp_in_nI (by omega) (by decide), fun lo elo => ⟨vp_in_nI (by omega) (by decide), fun hi ehi => hpo _ _ ?_⟩⟩
    rw [elo, ehi, eo, clp_mm a1, a2]
  · refine hpo _ _ ?_
    unfold stp
    rw [if_neg c, eo]


abbrev w1X2_pins (ad : Nat → Nat) (cA : Nat → ClassId) (P_wide : Int32) (P_high : Int32) (P_pinned : Nat → Int32) (u : Unit) : va_W := [((ad 15), .inr (2, [.ref (ad 16), .ref (ad 17), .ref (ad 18), .int P_wide, .int P_high])), ((ad 17), .inl (cA 2, 64, .inl P_pinned))]
abbrev wcX2_pins (ad : Nat → Nat) (cA : Nat → ClassId) (P_wide : Int32) (P_high : Int32) (P_pinned : Nat → Int32) : va_W := [((ad 15), .inr (2, [.ref (ad 16), .ref (ad 17), .ref (ad 18), .int P_wide, .int P_high])), ((ad 17), .inl (cA 2, 64, .inl P_pinned))]
def rmX2_pins : Room := { frames := 1, cells := 0, slots := 0, locals := 22 }
abbrev atX2_pins_0 (X : gX) (ad : Nat → Nat) (cA : Nat → ClassId) (P_wide : Int32) (P_high : Int32) (P_pinned : Nat → Int32) : Prop := gW X 0 0 [((ad 15), .inr (2, [.ref (ad 16), .ref (ad 17), .ref (ad 18), .int P_wide, .int P_high])), ((ad 17), .inl (cA 2, 64, .inl P_pinned))] 4 [(0, .ref (ad 15))] [] 0
abbrev atX2_pins_4 (X : gX) (ad : Nat → Nat) (cA : Nat → ClassId) (x1 : Int32) (x2 : Int32) (P_wide : Int32) (P_high : Int32) (P_pinned : Nat → Int32) : Prop := gW X 0 0 [((ad 15), .inr (2, [.ref (ad 16), .ref (ad 17), .ref (ad 18), .int P_wide, .int P_high])), ((ad 17), .inl (cA 2, 64, .inl P_pinned))] 4 [(0, .ref (ad 15)), (1, .int x1), (2, .int x2)] [] 4
abbrev atX2_pins_14 (X : gX) (ad : Nat → Nat) (cA : Nat → ClassId) (x1 : Int32) (x2 : Int32) (x3 : Int32) (P_wide : Int32) (P_high : Int32) (P_pinned : Nat → Int32) : Prop := gW X 0 0 [((ad 15), .inr (2, [.ref (ad 16), .ref (ad 17), .ref (ad 18), .int P_wide, .int P_high])), ((ad 17), .inl (cA 2, 64, .inl P_pinned))] 4 [(0, .ref (ad 15)), (1, .int x1), (2, .int x2), (3, .int x3)] [] 14
theorem giX2_pins_X2 : ∀ w ∈ u_ws RX2 TX2 5, w ∈ wsX2_pins := by decide +kernel
theorem gfX2_pins_26 : gF wsX2_pins RX2 26 2 4 RX2 TX2 5 := ⟨giX2_pins_X2, by decide +kernel, rfl, by decide⟩
theorem gfX2_pins_22 : gF wsX2_pins RX2 22 2 3 RX2 TX2 5 := ⟨giX2_pins_X2, by decide +kernel, rfl, by decide⟩
theorem gfX2_pins_15 : gF wsX2_pins RX2 15 2 1 RX2 TX2 5 := ⟨giX2_pins_X2, by decide +kernel, rfl, by decide⟩
set_option maxHeartbeats 4000000 in
set_option maxRecDepth 100000 in
theorem sgX2_pins_0 {X : gX} {ad : Nat → Nat} {cA : Nat → ClassId} {post : Int32 → (Unit) → Prop} {P_wide : Int32} {P_high : Int32} {P_pinned : Nat → Int32} (C : gC X (gT cA) cX2_pins 4 RX2 wsX2_pins rmX2_pins) (E : gEi X (some .int) (gT cA) 0 0 post (w1X2_pins ad cA P_wide P_high P_pinned)) (h : atX2_pins_4 X ad cA (0 : Int32) (0 : Int32) P_wide P_high P_pinned) : atX2_pins_0 X ad cA P_wide P_high P_pinned := by
  refine g_iconst C dX2_pins_0 ik_0 ?_
  refine g_istore_n (lv2 := [(0, .ref (ad 15)), (1, .int (0 : Int32))]) C dX2_pins_1 rfl (by decide) [1, 0] rfl ?_
  refine g_iconst C dX2_pins_2 ik_0 ?_
  refine g_istore_n (lv2 := [(0, .ref (ad 15)), (1, .int (0 : Int32)), (2, .int (0 : Int32))]) C dX2_pins_3 rfl (by decide) [1, 2, 0] rfl ?_
  exact g_lv [0, 1, 2] rfl h
set_option maxHeartbeats 4000000 in
set_option maxRecDepth 100000 in
theorem sgX2_pins_4 {X : gX} {ad : Nat → Nat} {cA : Nat → ClassId} {post : Int32 → (Unit) → Prop} {x1 : Int32} {x2 : Int32} {P_wide : Int32} {P_high : Int32} {P_pinned : Nat → Int32} (C : gC X (gT cA) cX2_pins 4 RX2 wsX2_pins rmX2_pins) (E : gEi X (some .int) (gT cA) 0 0 post (w1X2_pins ad cA P_wide P_high P_pinned)) (h : (P_high ≤ x2 → post x1 ()) ∧ (¬ P_high ≤ x2 → atX2_pins_14 X ad cA x1 x2 (0 : Int32) P_wide P_high P_pinned)) : atX2_pins_4 X ad cA x1 x2 P_wide P_high P_pinned := by
  refine g_iload_n C dX2_pins_4 rfl 2 rfl ?_
  refine g_aload_n C dX2_pins_5 rfl 0 rfl ?_
  refine g_get C gfX2_pins_26 0 rfl rfl dX2_pins_6 ?_
  refine g_icmp_ge (tgt := 51) C dX2_pins_9 (by decide) (fun c_1 => ?_) (fun c_1 => ?_)
  · replace h := h.1 c_1
    refine g_iload_n C dX2_pins_51 rfl 1 rfl ?_
    exact g_iret C E () h rfl dX2_pins_52
  · replace h := h.2 c_1
    refine g_iconst C dX2_pins_12 ik_0 ?_
    refine g_istore_n (lv2 := [(0, .ref (ad 15)), (1, .int x1), (2, .int x2), (3, .int (0 : Int32))]) C dX2_pins_13 rfl (by decide) [1, 2, 3, 0] rfl ?_
    exact g_lv [0, 1, 2, 3] rfl h
set_option maxHeartbeats 4000000 in
set_option maxRecDepth 100000 in
theorem sgX2_pins_14 {X : gX} {ad : Nat → Nat} {cA : Nat → ClassId} {post : Int32 → (Unit) → Prop} {x1 : Int32} {x2 : Int32} {x3 : Int32} {P_wide : Int32} {P_high : Int32} {P_pinned : Nat → Int32} (C : gC X (gT cA) cX2_pins 4 RX2 wsX2_pins rmX2_pins) (E : gEi X (some .int) (gT cA) 0 0 post (w1X2_pins ad cA P_wide P_high P_pinned)) (h : (P_wide ≤ x3 → atX2_pins_4 X ad cA x1 (x2 + 1) P_wide P_high P_pinned) ∧ (¬ P_wide ≤ x3 → vp_in (fnX2_at x3 x2 P_wide P_high) 64 ∧ atX2_pins_14 X ad cA (if (P_pinned (fnX2_at x3 x2 P_wide P_high).toNatClampNeg) = 0 then x1 else (x1 + 1)) x2 (x3 + 1) P_wide P_high P_pinned)) : atX2_pins_14 X ad cA x1 x2 x3 P_wide P_high P_pinned := by
  refine g_iload_n C dX2_pins_14 rfl 3 rfl ?_
  refine g_aload_n C dX2_pins_15 rfl 0 rfl ?_
  refine g_get C gfX2_pins_22 0 rfl rfl dX2_pins_16 ?_
  refine g_icmp_ge (tgt := 45) C dX2_pins_19 (by decide) (fun c_2 => ?_) (fun c_2 => ?_)
  · replace h := h.1 c_2
    refine g_iinc (v := (x2 + 1)) (lv2 := [(0, .ref (ad 15)), (1, .int x1), (2, .int (x2 + 1)), (3, .int x3)]) C dX2_pins_45 2 rfl (by first | rfl | decide) (by decide) [1, 2, 0, 3] rfl ?_
    refine g_goto (tgt := 4) C dX2_pins_48 (by decide) ?_
    exact g_lv [0, 1, 2] rfl h
  · replace h := h.2 c_2
    refine g_aload_n C dX2_pins_22 rfl 0 rfl ?_
    refine g_get C gfX2_pins_15 0 rfl rfl dX2_pins_23 ?_
    refine g_aload_n C dX2_pins_26 rfl 0 rfl ?_
    refine g_iload_n C dX2_pins_27 rfl 3 rfl ?_
    refine g_iload_n C dX2_pins_28 rfl 2 rfl ?_
    refine g_callVi (wr := [((ad 17), .inl (cA 2, 64, .inl P_pinned))]) C (c_X2_at ad cA x3 x2 P_wide P_high) gX2_pins_X2_at rfl hde_X2_at ⟨rfl, rfl⟩ (by decide) (by decide) [0] [1] [1, 0] rfl rfl rfl rfl (by decide) rfl (ws2 := fun u => [((ad 15), .inr (2, [.ref (ad 16), .ref (ad 17), .ref (ad 18), .int P_wide, .int P_high])), ((ad 17), .inl (cA 2, 64, .inl P_pinned))]) (fun _ => rfl) 2 0 rfl rfl rfl (rest := [.ref (ad 17)]) rfl (Nat.le_of_ble_eq_true rfl) dX2_pins_29 (fun r_3 u_3 hp_3 => ?_)
    subst hp_3
    change gW X 0 0 [((ad 15), .inr (2, [.ref (ad 16), .ref (ad 17), .ref (ad 18), .int P_wide, .int P_high])), ((ad 17), .inl (cA 2, 64, .inl P_pinned))] 4 [(0, .ref (ad 15)), (1, .int x1), (2, .int x2), (3, .int x3)] [.int (fnX2_at x3 x2 P_wide P_high), .ref (ad 17)] 32
    obtain ⟨hi_4, h⟩ := h
    refine g_zald C 1 2 rfl rfl hi_4 dX2_pins_32 ?_
    have key : gW X 0 0 [((ad 15), .inr (2, [.ref (ad 16), .ref (ad 17), .ref (ad 18), .int P_wide, .int P_high])), ((ad 17), .inl (cA 2, 64, .inl P_pinned))] 4 [(0, .ref (ad 15)), (1, .int (if (P_pinned (fnX2_at x3 x2 P_wide P_high).toNatClampNeg) = 0 then x1 else (x1 + 1))), (2, .int x2), (3, .int x3)] [] 39 := by
      refine g_iinc (v := (x3 + 1)) (lv2 := [(0, .ref (ad 15)), (1, .int (if (P_pinned (fnX2_at x3 x2 P_wide P_high).toNatClampNeg) = 0 then x1 else (x1 + 1))), (2, .int x2), (3, .int (x3 + 1))]) C dX2_pins_39 3 rfl (by first | rfl | decide) (by decide) [1, 2, 3, 0] rfl ?_
      refine g_goto (tgt := 14) C dX2_pins_42 (by decide) ?_
      exact g_lv [0, 1, 2, 3] rfl h
    refine g_if_eq (tgt := 39) C dX2_pins_33 (by decide) (fun c_5 => ?_) (fun c_5 => ?_)
    · exact g_leaf (by simp only [if_pos c_5] at key; first | exact key | (simp only [if_pos c_5]; exact key) | exact absurd rfl c_5)
    · refine g_iinc (v := (x1 + 1)) (lv2 := [(0, .ref (ad 15)), (1, .int (x1 + 1)), (2, .int x2), (3, .int x3)]) C dX2_pins_36 1 rfl (by first | rfl | decide) (by decide) [1, 0, 2, 3] rfl ?_
      exact g_leaf (by simp only [if_neg c_5] at key; first | exact key | (simp only [if_neg c_5]; exact key) | exact absurd rfl c_5)
def prX2_pins (P_wide : Int32) (P_high : Int32) (P_pinned : Nat → Int32) : Prop := netOK P_wide P_high
set_option maxHeartbeats 4000000 in
set_option maxRecDepth 100000 in
theorem c_X2_pins (ad : Nat → Nat) (cA : Nat → ClassId) (P_wide : Int32) (P_high : Int32) (P_pinned : Nat → Int32) (hq : prX2_pins P_wide P_high P_pinned) : ∀ (l : Launch) (D : va_G), gMi (S := Unit) l yX2_pins wsX2_pins rmX2_pins D (gT cA) 0 0 [.ref (ad 15)] (wcX2_pins ad cA P_wide P_high P_pinned) (fun r _ => r = pns P_wide.toNatClampNeg P_high.toNatClampNeg P_pinned) (w1X2_pins ad cA P_wide P_high P_pinned) := by
  intro l D
  unfold prX2_pins at hq
  refine g_enteri (cc := cX2_pins) (nL := 4) (ret := (some .int)) (by decide) rfl (Nat.le_of_ble_eq_true rfl) rfl (fun X C E => ?_)
  obtain ⟨w, h, hw2, hw, hh2, hh, rfl, rfl⟩ := hq
  rw [nI_clamp (by omega), nI_clamp (by omega)] at E
  refine sgX2_pins_0 C E ?_
  have outer : ∀ y, y ≤ h → atX2_pins_4 X ad cA (sumI (fun y => sumI (fun x => if P_pinned (8 * y + x) = 0 then 0 else 1) w) y) (nI y) (nI w) (nI h) P_pinned := by
    intro y hy
    refine up_loop (P := fun y => atX2_pins_4 X ad cA (sumI (fun y => sumI (fun x => if P_pinned (8 * y + x) = 0 then 0 else 1) w) y) (nI y) (nI w) (nI h) P_pinned) h ?_ (fun y hy ih => ?_) y hy
    · exact sgX2_pins_4 C E ⟨fun _ => rfl, fun c => absurd (i32_le_refl _) c⟩
    · refine sgX2_pins_4 C E ⟨fun c => absurd c (nI_ge hy (by omega)), fun _ => ?_⟩
      have inner : ∀ x, x ≤ w → atX2_pins_14 X ad cA (sumI (fun y => sumI (fun x => if P_pinned (8 * y + x) = 0 then 0 else 1) w) y + sumI (fun x => if P_pinned (8 * y + x) = 0 then 0 else 1) x) (nI y) (nI x) (nI w) (nI h) P_pinned := by
        intro x hx
        refine up_loop (P := fun x => atX2_pins_14 X ad cA (sumI (fun y => sumI (fun x => if P_pinned (8 * y + x) = 0 then 0 else 1) w) y + sumI (fun x => if P_pinned (8 * y + x) = 0 then 0 else 1) x) (nI y) (nI x) (nI w) (nI h) P_pinned) w ?_ (fun x hx ih2 => ?_) x hx
        · refine sgX2_pins_14 C E ⟨fun _ => ?_, fun c => absurd (i32_le_refl _) c⟩
          rw [nI_1]; exact ih
        · refine sgX2_pins_14 C E ⟨fun c => absurd c (nI_ge hx (by omega)), fun _ => ?_⟩
          rw [at_eq, nI_clamp (by omega), nI_1]
          refine ⟨vp_in_nI (by omega) (by decide), ?_⟩
          rw [show (if P_pinned (8 * y + x) = 0 then (sumI (fun y => sumI (fun x => if P_pinned (8 * y + x) = 0 then 0 else 1) w) y + sumI (fun x => if P_pinned (8 * y + x) = 0 then 0 else 1) x) else (sumI (fun y => sumI (fun x => if P_pinned (8 * y + x) = 0 then 0 else 1) w) y + sumI (fun x => if P_pinned (8 * y + x) = 0 then 0 else 1) x) + 1) = sumI (fun y => sumI (fun x => if P_pinned (8 * y + x) = 0 then 0 else 1) w) y + sumI (fun x => if P_pinned (8 * y + x) = 0 then 0 else 1) (x + 1) from by
            rw [sumI, ← Int32.add_assoc]
            split
            · rw [Int32.add_zero]
            · rfl]
          exact ih2
      have := inner 0 (Nat.zero_le _)
      rw [sumI, Int32.add_zero] at this
      exact this
  exact outer 0 (Nat.zero_le _)


abbrev w1X2_difference (ad : Nat → Nat) (cA : Nat → ClassId) (P_wide : Int32) (P_high : Int32) (P_heights : Nat → Int32) (u : Unit) : va_W := [((ad 15), .inr (2, [.ref (ad 16), .ref (ad 17), .ref (ad 18), .int P_wide, .int P_high])), ((ad 16), .inl (cA 0, 64, .inl P_heights))]
abbrev wcX2_difference (ad : Nat → Nat) (cA : Nat → ClassId) (P_wide : Int32) (P_high : Int32) (P_heights : Nat → Int32) : va_W := [((ad 15), .inr (2, [.ref (ad 16), .ref (ad 17), .ref (ad 18), .int P_wide, .int P_high])), ((ad 16), .inl (cA 0, 64, .inl P_heights))]
def rmX2_difference : Room := { frames := 1, cells := 0, slots := 0, locals := 22 }
abbrev atX2_difference_0 (X : gX) (ad : Nat → Nat) (cA : Nat → ClassId) (p1 : Int32) (p2 : Int32) (p3 : Int32) (p4 : Int32) (P_wide : Int32) (P_high : Int32) (P_heights : Nat → Int32) : Prop := gW X 0 0 [((ad 15), .inr (2, [.ref (ad 16), .ref (ad 17), .ref (ad 18), .int P_wide, .int P_high])), ((ad 16), .inl (cA 0, 64, .inl P_heights))] 5 [(0, .ref (ad 15)), (1, .int p1), (2, .int p2), (3, .int p3), (4, .int p4)] [] 0
theorem mmX2_difference_51a : Cond.methodLink RX2 51 Lib.Math.abs.name ∈ wsX2_difference := by decide +kernel
theorem mmX2_difference_51b : Cond.static Lib.Math.abs.name ∈ wsX2_difference := by decide +kernel
theorem mmX2_difference_51c : Cond.initialized "java/lang/Math" ∈ wsX2_difference := by decide +kernel
theorem mmX2_difference_51d : Cond.code Lib.Math.abs.name Lib.Math.abs.code 1 (some .int) ∈ wsX2_difference := by decide +kernel
theorem giX2_difference_X2 : ∀ w ∈ u_ws RX2 TX2 5, w ∈ wsX2_difference := by decide +kernel
theorem gfX2_difference_9 : gF wsX2_difference RX2 9 2 0 RX2 TX2 5 := ⟨giX2_difference_X2, by decide +kernel, rfl, by decide⟩
set_option maxHeartbeats 4000000 in
set_option maxRecDepth 100000 in
theorem sgX2_difference_0 {X : gX} {ad : Nat → Nat} {cA : Nat → ClassId} {post : Int32 → (Unit) → Prop} {p1 : Int32} {p2 : Int32} {p3 : Int32} {p4 : Int32} {P_wide : Int32} {P_high : Int32} {P_heights : Nat → Int32} (C : gC X (gT cA) cX2_difference 5 RX2 wsX2_difference rmX2_difference) (E : gEi X (some .int) (gT cA) 0 0 post (w1X2_difference ad cA P_wide P_high P_heights)) (h : ((fnX2_has p3 p4 P_wide P_high) = false → post (0 : Int32) ()) ∧ ((fnX2_has p3 p4 P_wide P_high) = true → vp_in (fnX2_at p1 p2 P_wide P_high) 64 ∧ vp_in (fnX2_at p3 p4 P_wide P_high) 64 ∧ post (if 0 ≤ ((P_heights (fnX2_at p1 p2 P_wide P_high).toNatClampNeg) - (P_heights (fnX2_at p3 p4 P_wide P_high).toNatClampNeg)) then ((P_heights (fnX2_at p1 p2 P_wide P_high).toNatClampNeg) - (P_heights (fnX2_at p3 p4 P_wide P_high).toNatClampNeg)) else 0 - ((P_heights (fnX2_at p1 p2 P_wide P_high).toNatClampNeg) - (P_heights (fnX2_at p3 p4 P_wide P_high).toNatClampNeg))) ())) : atX2_difference_0 X ad cA p1 p2 p3 p4 P_wide P_high P_heights := by
  refine g_aload_n C dX2_difference_0 rfl 0 rfl ?_
  refine g_iload_n C dX2_difference_1 rfl 3 rfl ?_
  refine g_iload C dX2_difference_2 4 rfl ?_
  refine g_callVi (wr := [((ad 16), .inl (cA 0, 64, .inl P_heights))]) C (c_X2_has ad cA p3 p4 P_wide P_high) gX2_difference_X2_has rfl hde_X2_has ⟨rfl, rfl⟩ (by decide) (by decide) [0] [1] [1, 0] rfl rfl rfl rfl (by decide) rfl (ws2 := fun u => [((ad 15), .inr (2, [.ref (ad 16), .ref (ad 17), .ref (ad 18), .int P_wide, .int P_high])), ((ad 16), .inl (cA 0, 64, .inl P_heights))]) (fun _ => rfl) 2 0 rfl rfl rfl (rest := []) rfl (Nat.le_of_ble_eq_true rfl) dX2_difference_4 (fun r_1 u_1 hp_1 => ?_)
  subst hp_1
  change gW X 0 0 [((ad 15), .inr (2, [.ref (ad 16), .ref (ad 17), .ref (ad 18), .int P_wide, .int P_high])), ((ad 16), .inl (cA 0, 64, .inl P_heights))] 5 [(0, .ref (ad 15)), (1, .int p1), (2, .int p2), (3, .int p3), (4, .int p4)] [.int (bI (fnX2_has p3 p4 P_wide P_high))] 7
  refine g_ifeq_b (tgt := 40) C dX2_difference_7 (by decide) (fun c_2 => ?_) (fun c_2 => ?_)
  · replace h := h.1 c_2
    refine g_iconst C dX2_difference_40 ik_0 ?_
    exact g_iret C E () h rfl dX2_difference_41
  · replace h := h.2 c_2
    refine g_aload_n C dX2_difference_10 rfl 0 rfl ?_
    refine g_get C gfX2_difference_9 0 rfl rfl dX2_difference_11 ?_
    refine g_aload_n C dX2_difference_14 rfl 0 rfl ?_
    refine g_iload_n C dX2_difference_15 rfl 1 rfl ?_
    refine g_iload_n C dX2_difference_16 rfl 2 rfl ?_
    refine g_callVi (wr := [((ad 16), .inl (cA 0, 64, .inl P_heights))]) C (c_X2_at ad cA p1 p2 P_wide P_high) gX2_difference_X2_at rfl hde_X2_at ⟨rfl, rfl⟩ (by decide) (by decide) [0] [1] [1, 0] rfl rfl rfl rfl (by decide) rfl (ws2 := fun u => [((ad 15), .inr (2, [.ref (ad 16), .ref (ad 17), .ref (ad 18), .int P_wide, .int P_high])), ((ad 16), .inl (cA 0, 64, .inl P_heights))]) (fun _ => rfl) 2 0 rfl rfl rfl (rest := [.ref (ad 16)]) rfl (Nat.le_of_ble_eq_true rfl) dX2_difference_17 (fun r_3 u_3 hp_3 => ?_)
    subst hp_3
    change gW X 0 0 [((ad 15), .inr (2, [.ref (ad 16), .ref (ad 17), .ref (ad 18), .int P_wide, .int P_high])), ((ad 16), .inl (cA 0, 64, .inl P_heights))] 5 [(0, .ref (ad 15)), (1, .int p1), (2, .int p2), (3, .int p3), (4, .int p4)] [.int (fnX2_at p1 p2 P_wide P_high), .ref (ad 16)] 20
    obtain ⟨hi_4, h⟩ := h
    refine g_iald C 1 0 rfl rfl hi_4 dX2_difference_20 ?_
    refine g_aload_n C dX2_difference_21 rfl 0 rfl ?_
    refine g_get C gfX2_difference_9 0 rfl rfl dX2_difference_22 ?_
    refine g_aload_n C dX2_difference_25 rfl 0 rfl ?_
    refine g_iload_n C dX2_difference_26 rfl 3 rfl ?_
    refine g_iload C dX2_difference_27 4 rfl ?_
    refine g_callVi (wr := [((ad 16), .inl (cA 0, 64, .inl P_heights))]) C (c_X2_at ad cA p3 p4 P_wide P_high) gX2_difference_X2_at rfl hde_X2_at ⟨rfl, rfl⟩ (by decide) (by decide) [0] [1] [1, 0] rfl rfl rfl rfl (by decide) rfl (ws2 := fun u => [((ad 15), .inr (2, [.ref (ad 16), .ref (ad 17), .ref (ad 18), .int P_wide, .int P_high])), ((ad 16), .inl (cA 0, 64, .inl P_heights))]) (fun _ => rfl) 2 0 rfl rfl rfl (rest := [.ref (ad 16), .int (P_heights (fnX2_at p1 p2 P_wide P_high).toNatClampNeg)]) rfl (Nat.le_of_ble_eq_true rfl) dX2_difference_29 (fun r_5 u_5 hp_5 => ?_)
    subst hp_5
    change gW X 0 0 [((ad 15), .inr (2, [.ref (ad 16), .ref (ad 17), .ref (ad 18), .int P_wide, .int P_high])), ((ad 16), .inl (cA 0, 64, .inl P_heights))] 5 [(0, .ref (ad 15)), (1, .int p1), (2, .int p2), (3, .int p3), (4, .int p4)] [.int (fnX2_at p3 p4 P_wide P_high), .ref (ad 16), .int (P_heights (fnX2_at p1 p2 P_wide P_high).toNatClampNeg)] 32
    obtain ⟨hi_6, h⟩ := h
    refine g_iald C 1 0 rfl rfl hi_6 dX2_difference_32 ?_
    refine g_isub C dX2_difference_33 ?_
    refine g_mabs C mmX2_difference_51a mmX2_difference_51b mmX2_difference_51c mmX2_difference_51d (by decide) (Nat.le_of_ble_eq_true rfl) (by decide) (by decide) dX2_difference_34 ?_
    refine g_goto (tgt := 41) C dX2_difference_37 (by decide) ?_
    exact g_iret C E () h rfl dX2_difference_41
def fnX2_difference (p1 : Int32) (p2 : Int32) (p3 : Int32) (p4 : Int32) (P_wide : Int32) (P_high : Int32) (P_heights : Nat → Int32) : Int32 := (if (fnX2_has p3 p4 P_wide P_high) = true then (if 0 ≤ ((P_heights (fnX2_at p1 p2 P_wide P_high).toNatClampNeg) - (P_heights (fnX2_at p3 p4 P_wide P_high).toNatClampNeg)) then ((P_heights (fnX2_at p1 p2 P_wide P_high).toNatClampNeg) - (P_heights (fnX2_at p3 p4 P_wide P_high).toNatClampNeg)) else 0 - ((P_heights (fnX2_at p1 p2 P_wide P_high).toNatClampNeg) - (P_heights (fnX2_at p3 p4 P_wide P_high).toNatClampNeg))) else (0 : Int32))
def prX2_difference (p1 : Int32) (p2 : Int32) (p3 : Int32) (p4 : Int32) (P_wide : Int32) (P_high : Int32) (P_heights : Nat → Int32) : Prop := ((fnX2_has p3 p4 P_wide P_high) = false → True) ∧ ((fnX2_has p3 p4 P_wide P_high) = true → vp_in (fnX2_at p1 p2 P_wide P_high) 64 ∧ vp_in (fnX2_at p3 p4 P_wide P_high) 64)
set_option maxHeartbeats 4000000 in
set_option maxRecDepth 100000 in
theorem c_X2_difference (ad : Nat → Nat) (cA : Nat → ClassId) (p1 : Int32) (p2 : Int32) (p3 : Int32) (p4 : Int32) (P_wide : Int32) (P_high : Int32) (P_heights : Nat → Int32) (hq : prX2_difference p1 p2 p3 p4 P_wide P_high P_heights) : ∀ (l : Launch) (D : va_G), gMi (S := Unit) l yX2_difference wsX2_difference rmX2_difference D (gT cA) 0 0 [.ref (ad 15), .int p1, .int p2, .int p3, .int p4] (wcX2_difference ad cA P_wide P_high P_heights) (fun r _ => r = fnX2_difference p1 p2 p3 p4 P_wide P_high P_heights) (w1X2_difference ad cA P_wide P_high P_heights) := by
  intro l D
  refine g_enteri (cc := cX2_difference) (nL := 5) (ret := (some .int)) (by decide) rfl (Nat.le_of_ble_eq_true rfl) rfl (fun X C E => sgX2_difference_0 C E ?_)
  unfold prX2_difference at hq
  refine ⟨fun c_8 => ?_, fun c_8 => ?_⟩
  · replace hq := hq.1 c_8
    exact (by unfold fnX2_difference; first | rfl | (simp only [if_neg (show ¬ (fnX2_has p3 p4 P_wide P_high) = true from by rw [c_8]; decide)]; done) | (simp only [if_neg (show ¬ (fnX2_has p3 p4 P_wide P_high) = true from by rw [c_8]; decide)]; rfl))
  · replace hq := hq.2 c_8
    refine ⟨hq.1, ?_⟩
    replace hq := hq.2
    refine ⟨hq, ?_⟩
    exact (by unfold fnX2_difference; first | rfl | (simp only [if_pos c_8]; done) | (simp only [if_pos c_8]; rfl))

theorem dif_eq {w h x y : Nat} (hw : w ≤ 8) (hh : h ≤ 8) (hx : x < w) (hy : y < h) (H : Nat → Int32) : fnX2_difference (nI x) (nI y) (nI x + 1) (nI y) (nI w) (nI h) H = (if x + 1 < w then szI (H (8 * y + x) - H (8 * y + (x + 1))) else 0) ∧ prX2_difference (nI x) (nI y) (nI x + 1) (nI y) (nI w) (nI h) H := by
  have e : fnX2_has (nI (x + 1)) (nI y) (nI w) (nI h) = decide (x + 1 < w) := by
    rw [← iI_nI, ← iI_nI, has_iI (by omega) (by omega) hw hh, decide_eq_decide]; omega
  rw [nI_1]
  unfold fnX2_difference prX2_difference
  rw [e, at_eq, at_eq, nI_clamp (by omega)]
  by_cases hc : x + 1 < w
  · rw [decide_eq_true hc, if_pos rfl, if_pos hc, nI_clamp (by omega)]
    exact ⟨rfl, fun c => absurd c (by decide), fun _ => ⟨vp_in_nI (by omega) (by decide), vp_in_nI (by omega) (by decide)⟩⟩
  · rw [decide_eq_false hc, if_neg (by decide), if_neg hc]
    exact ⟨rfl, fun _ => trivial, fun c => absurd c (by decide)⟩
theorem dif_eq2 {w h x y : Nat} (hw : w ≤ 8) (hh : h ≤ 8) (hx : x < w) (hy : y < h) (H : Nat → Int32) : fnX2_difference (nI x) (nI y) (nI x) (nI y + 1) (nI w) (nI h) H = (if y + 1 < h then szI (H (8 * y + x) - H (8 * (y + 1) + x)) else 0) ∧ prX2_difference (nI x) (nI y) (nI x) (nI y + 1) (nI w) (nI h) H := by
  have e : fnX2_has (nI x) (nI (y + 1)) (nI w) (nI h) = decide (y + 1 < h) := by
    rw [← iI_nI, ← iI_nI, has_iI (by omega) (by omega) hw hh, decide_eq_decide]; omega
  rw [nI_1]
  unfold fnX2_difference prX2_difference
  rw [e, at_eq, at_eq, nI_clamp (by omega)]
  by_cases hc : y + 1 < h
  · rw [decide_eq_true hc, if_pos rfl, if_pos hc, nI_clamp (by omega)]
    exact ⟨rfl, fun c => absurd c (by decide), fun _ => ⟨vp_in_nI (by omega) (by decide), vp_in_nI (by omega) (by decide)⟩⟩
  · rw [decide_eq_false hc, if_neg (by decide), if_neg hc]
    exact ⟨rfl, fun _ => trivial, fun c => absurd c (by decide)⟩

abbrev w1X2_sumOfDifferences (ad : Nat → Nat) (cA : Nat → ClassId) (P_wide : Int32) (P_high : Int32) (P_heights : Nat → Int32) (u : Unit) : va_W := [((ad 15), .inr (2, [.ref (ad 16), .ref (ad 17), .ref (ad 18), .int P_wide, .int P_high])), ((ad 16), .inl (cA 0, 64, .inl P_heights))]
abbrev wcX2_sumOfDifferences (ad : Nat → Nat) (cA : Nat → ClassId) (P_wide : Int32) (P_high : Int32) (P_heights : Nat → Int32) : va_W := [((ad 15), .inr (2, [.ref (ad 16), .ref (ad 17), .ref (ad 18), .int P_wide, .int P_high])), ((ad 16), .inl (cA 0, 64, .inl P_heights))]
def rmX2_sumOfDifferences : Room := { frames := 2, cells := 0, slots := 0, locals := 46 }
abbrev atX2_sumOfDifferences_0 (X : gX) (ad : Nat → Nat) (cA : Nat → ClassId) (P_wide : Int32) (P_high : Int32) (P_heights : Nat → Int32) : Prop := gW X 0 0 [((ad 15), .inr (2, [.ref (ad 16), .ref (ad 17), .ref (ad 18), .int P_wide, .int P_high])), ((ad 16), .inl (cA 0, 64, .inl P_heights))] 4 [(0, .ref (ad 15))] [] 0
abbrev atX2_sumOfDifferences_4 (X : gX) (ad : Nat → Nat) (cA : Nat → ClassId) (x1 : Int32) (x2 : Int32) (P_wide : Int32) (P_high : Int32) (P_heights : Nat → Int32) : Prop := gW X 0 0 [((ad 15), .inr (2, [.ref (ad 16), .ref (ad 17), .ref (ad 18), .int P_wide, .int P_high])), ((ad 16), .inl (cA 0, 64, .inl P_heights))] 4 [(0, .ref (ad 15)), (1, .int x1), (2, .int x2)] [] 4
abbrev atX2_sumOfDifferences_14 (X : gX) (ad : Nat → Nat) (cA : Nat → ClassId) (x1 : Int32) (x2 : Int32) (x3 : Int32) (P_wide : Int32) (P_high : Int32) (P_heights : Nat → Int32) : Prop := gW X 0 0 [((ad 15), .inr (2, [.ref (ad 16), .ref (ad 17), .ref (ad 18), .int P_wide, .int P_high])), ((ad 16), .inl (cA 0, 64, .inl P_heights))] 4 [(0, .ref (ad 15)), (1, .int x1), (2, .int x2), (3, .int x3)] [] 14
theorem giX2_sumOfDifferences_X2 : ∀ w ∈ u_ws RX2 TX2 5, w ∈ wsX2_sumOfDifferences := by decide +kernel
theorem gfX2_sumOfDifferences_26 : gF wsX2_sumOfDifferences RX2 26 2 4 RX2 TX2 5 := ⟨giX2_sumOfDifferences_X2, by decide +kernel, rfl, by decide⟩
theorem gfX2_sumOfDifferences_22 : gF wsX2_sumOfDifferences RX2 22 2 3 RX2 TX2 5 := ⟨giX2_sumOfDifferences_X2, by decide +kernel, rfl, by decide⟩
set_option maxHeartbeats 4000000 in
set_option maxRecDepth 100000 in
theorem sgX2_sumOfDifferences_0 {X : gX} {ad : Nat → Nat} {cA : Nat → ClassId} {post : Int32 → (Unit) → Prop} {P_wide : Int32} {P_high : Int32} {P_heights : Nat → Int32} (C : gC X (gT cA) cX2_sumOfDifferences 4 RX2 wsX2_sumOfDifferences rmX2_sumOfDifferences) (E : gEi X (some .int) (gT cA) 0 0 post (w1X2_sumOfDifferences ad cA P_wide P_high P_heights)) (h : atX2_sumOfDifferences_4 X ad cA (0 : Int32) (0 : Int32) P_wide P_high P_heights) : atX2_sumOfDifferences_0 X ad cA P_wide P_high P_heights := by
  refine g_iconst C dX2_sumOfDifferences_0 ik_0 ?_
  refine g_istore_n (lv2 := [(0, .ref (ad 15)), (1, .int (0 : Int32))]) C dX2_sumOfDifferences_1 rfl (by decide) [1, 0] rfl ?_
  refine g_iconst C dX2_sumOfDifferences_2 ik_0 ?_
  refine g_istore_n (lv2 := [(0, .ref (ad 15)), (1, .int (0 : Int32)), (2, .int (0 : Int32))]) C dX2_sumOfDifferences_3 rfl (by decide) [1, 2, 0] rfl ?_
  exact g_lv [0, 1, 2] rfl h
set_option maxHeartbeats 4000000 in
set_option maxRecDepth 100000 in
theorem sgX2_sumOfDifferences_4 {X : gX} {ad : Nat → Nat} {cA : Nat → ClassId} {post : Int32 → (Unit) → Prop} {x1 : Int32} {x2 : Int32} {P_wide : Int32} {P_high : Int32} {P_heights : Nat → Int32} (C : gC X (gT cA) cX2_sumOfDifferences 4 RX2 wsX2_sumOfDifferences rmX2_sumOfDifferences) (E : gEi X (some .int) (gT cA) 0 0 post (w1X2_sumOfDifferences ad cA P_wide P_high P_heights)) (h : (P_high ≤ x2 → post x1 ()) ∧ (¬ P_high ≤ x2 → atX2_sumOfDifferences_14 X ad cA x1 x2 (0 : Int32) P_wide P_high P_heights)) : atX2_sumOfDifferences_4 X ad cA x1 x2 P_wide P_high P_heights := by
  refine g_iload_n C dX2_sumOfDifferences_4 rfl 2 rfl ?_
  refine g_aload_n C dX2_sumOfDifferences_5 rfl 0 rfl ?_
  refine g_get C gfX2_sumOfDifferences_26 0 rfl rfl dX2_sumOfDifferences_6 ?_
  refine g_icmp_ge (tgt := 58) C dX2_sumOfDifferences_9 (by decide) (fun c_1 => ?_) (fun c_1 => ?_)
  · replace h := h.1 c_1
    refine g_iload_n C dX2_sumOfDifferences_58 rfl 1 rfl ?_
    exact g_iret C E () h rfl dX2_sumOfDifferences_59
  · replace h := h.2 c_1
    refine g_iconst C dX2_sumOfDifferences_12 ik_0 ?_
    refine g_istore_n (lv2 := [(0, .ref (ad 15)), (1, .int x1), (2, .int x2), (3, .int (0 : Int32))]) C dX2_sumOfDifferences_13 rfl (by decide) [1, 2, 3, 0] rfl ?_
    exact g_lv [0, 1, 2, 3] rfl h
set_option maxHeartbeats 4000000 in
set_option maxRecDepth 100000 in
theorem sgX2_sumOfDifferences_14 {X : gX} {ad : Nat → Nat} {cA : Nat → ClassId} {post : Int32 → (Unit) → Prop} {x1 : Int32} {x2 : Int32} {x3 : Int32} {P_wide : Int32} {P_high : Int32} {P_heights : Nat → Int32} (C : gC X (gT cA) cX2_sumOfDifferences 4 RX2 wsX2_sumOfDifferences rmX2_sumOfDifferences) (E : gEi X (some .int) (gT cA) 0 0 post (w1X2_sumOfDifferences ad cA P_wide P_high P_heights)) (h : (P_wide ≤ x3 → atX2_sumOfDifferences_4 X ad cA x1 (x2 + 1) P_wide P_high P_heights) ∧ (¬ P_wide ≤ x3 → prX2_difference x3 x2 (x3 + (1 : Int32)) x2 P_wide P_high P_heights ∧ prX2_difference x3 x2 x3 (x2 + (1 : Int32)) P_wide P_high P_heights ∧ ∀ x1_7 : Int32, x1_7 = (x1 + ((fnX2_difference x3 x2 (x3 + (1 : Int32)) x2 P_wide P_high P_heights) + (fnX2_difference x3 x2 x3 (x2 + (1 : Int32)) P_wide P_high P_heights))) → atX2_sumOfDifferences_14 X ad cA x1_7 x2 (x3 + 1) P_wide P_high P_heights)) : atX2_sumOfDifferences_14 X ad cA x1 x2 x3 P_wide P_high P_heights := by
  refine g_iload_n C dX2_sumOfDifferences_14 rfl 3 rfl ?_
  refine g_aload_n C dX2_sumOfDifferences_15 rfl 0 rfl ?_
  refine g_get C gfX2_sumOfDifferences_22 0 rfl rfl dX2_sumOfDifferences_16 ?_
  refine g_icmp_ge (tgt := 52) C dX2_sumOfDifferences_19 (by decide) (fun c_2 => ?_) (fun c_2 => ?_)
  · replace h := h.1 c_2
    refine g_iinc (v := (x2 + 1)) (lv2 := [(0, .ref (ad 15)), (1, .int x1), (2, .int (x2 + 1)), (3, .int x3)]) C dX2_sumOfDifferences_52 2 rfl (by first | rfl | decide) (by decide) [1, 2, 0, 3] rfl ?_
    refine g_goto (tgt := 4) C dX2_sumOfDifferences_55 (by decide) ?_
    exact g_lv [0, 1, 2] rfl h
  · replace h := h.2 c_2
    refine g_iload_n C dX2_sumOfDifferences_22 rfl 1 rfl ?_
    refine g_aload_n C dX2_sumOfDifferences_23 rfl 0 rfl ?_
    refine g_iload_n C dX2_sumOfDifferences_24 rfl 3 rfl ?_
    refine g_iload_n C dX2_sumOfDifferences_25 rfl 2 rfl ?_
    refine g_iload_n C dX2_sumOfDifferences_26 rfl 3 rfl ?_
    refine g_iconst C dX2_sumOfDifferences_27 ik_1 ?_
    refine g_iadd C dX2_sumOfDifferences_28 ?_
    refine g_iload_n C dX2_sumOfDifferences_29 rfl 2 rfl ?_
    obtain ⟨hi_3, h⟩ := h
    refine g_callVi (wr := []) C (c_X2_difference ad cA x3 x2 (x3 + (1 : Int32)) x2 P_wide P_high P_heights hi_3) gX2_sumOfDifferences_X2_difference rfl hde_X2_difference ⟨rfl, rfl⟩ (by decide) (by decide) [0, 1] [] [0, 1] rfl rfl rfl rfl (by decide) rfl (ws2 := fun u => [((ad 15), .inr (2, [.ref (ad 16), .ref (ad 17), .ref (ad 18), .int P_wide, .int P_high])), ((ad 16), .inl (cA 0, 64, .inl P_heights))]) (fun _ => rfl) 2 0 rfl rfl rfl (rest := [.int x1]) rfl (Nat.le_of_ble_eq_true rfl) dX2_sumOfDifferences_30 (fun r_4 u_4 hp_4 => ?_)
    subst hp_4
    change gW X 0 0 [((ad 15), .inr (2, [.ref (ad 16), .ref (ad 17), .ref (ad 18), .int P_wide, .int P_high])), ((ad 16), .inl (cA 0, 64, .inl P_heights))] 4 [(0, .ref (ad 15)), (1, .int x1), (2, .int x2), (3, .int x3)] [.int (fnX2_difference x3 x2 (x3 + (1 : Int32)) x2 P_wide P_high P_heights), .int x1] 33
    refine g_aload_n C dX2_sumOfDifferences_33 rfl 0 rfl ?_
    refine g_iload_n C dX2_sumOfDifferences_34 rfl 3 rfl ?_
    refine g_iload_n C dX2_sumOfDifferences_35 rfl 2 rfl ?_
    refine g_iload_n C dX2_sumOfDifferences_36 rfl 3 rfl ?_
    refine g_iload_n C dX2_sumOfDifferences_37 rfl 2 rfl ?_
    refine g_iconst C dX2_sumOfDifferences_38 ik_1 ?_
    refine g_iadd C dX2_sumOfDifferences_39 ?_
    obtain ⟨hi_5, h⟩ := h
    refine g_callVi (wr := []) C (c_X2_difference ad cA x3 x2 x3 (x2 + (1 : Int32)) P_wide P_high P_heights hi_5) gX2_sumOfDifferences_X2_difference rfl hde_X2_difference ⟨rfl, rfl⟩ (by decide) (by decide) [0, 1] [] [0, 1] rfl rfl rfl rfl (by decide) rfl (ws2 := fun u => [((ad 15), .inr (2, [.ref (ad 16), .ref (ad 17), .ref (ad 18), .int P_wide, .int P_high])), ((ad 16), .inl (cA 0, 64, .inl P_heights))]) (fun _ => rfl) 2 0 rfl rfl rfl (rest := [.int (fnX2_difference x3 x2 (x3 + (1 : Int32)) x2 P_wide P_high P_heights), .int x1]) rfl (Nat.le_of_ble_eq_true rfl) dX2_sumOfDifferences_40 (fun r_6 u_6 hp_6 => ?_)
    subst hp_6
    change gW X 0 0 [((ad 15), .inr (2, [.ref (ad 16), .ref (ad 17), .ref (ad 18), .int P_wide, .int P_high])), ((ad 16), .inl (cA 0, 64, .inl P_heights))] 4 [(0, .ref (ad 15)), (1, .int x1), (2, .int x2), (3, .int x3)] [.int (fnX2_difference x3 x2 x3 (x2 + (1 : Int32)) P_wide P_high P_heights), .int (fnX2_difference x3 x2 (x3 + (1 : Int32)) x2 P_wide P_high P_heights), .int x1] 43
    refine g_iadd C dX2_sumOfDifferences_43 ?_
    refine g_iadd C dX2_sumOfDifferences_44 ?_
    refine g_topi (fun x1_7 ex1_7 => ?_)
    replace h := h x1_7 ex1_7
    refine g_istore_n (lv2 := [(0, .ref (ad 15)), (1, .int x1_7), (2, .int x2), (3, .int x3)]) C dX2_sumOfDifferences_45 rfl (by decide) [1, 0, 2, 3] rfl ?_
    refine g_iinc (v := (x3 + 1)) (lv2 := [(0, .ref (ad 15)), (1, .int x1_7), (2, .int x2), (3, .int (x3 + 1))]) C dX2_sumOfDifferences_46 3 rfl (by first | rfl | decide) (by decide) [1, 2, 3, 0] rfl ?_
    refine g_goto (tgt := 14) C dX2_sumOfDifferences_49 (by decide) ?_
    exact g_lv [0, 1, 2, 3] rfl h
def prX2_sumOfDifferences (P_wide : Int32) (P_high : Int32) (P_heights : Nat → Int32) : Prop := netOK P_wide P_high
set_option maxHeartbeats 4000000 in
set_option maxRecDepth 100000 in
theorem c_X2_sumOfDifferences (ad : Nat → Nat) (cA : Nat → ClassId) (P_wide : Int32) (P_high : Int32) (P_heights : Nat → Int32) (hq : prX2_sumOfDifferences P_wide P_high P_heights) : ∀ (l : Launch) (D : va_G), gMi (S := Unit) l yX2_sumOfDifferences wsX2_sumOfDifferences rmX2_sumOfDifferences D (gT cA) 0 0 [.ref (ad 15)] (wcX2_sumOfDifferences ad cA P_wide P_high P_heights) (fun r _ => r = drw P_wide.toNatClampNeg P_high.toNatClampNeg P_heights) (w1X2_sumOfDifferences ad cA P_wide P_high P_heights) := by
  intro l D
  unfold prX2_sumOfDifferences at hq
  refine g_enteri (cc := cX2_sumOfDifferences) (nL := 4) (ret := (some .int)) (by decide) rfl (Nat.le_of_ble_eq_true rfl) rfl (fun X C E => ?_)
  obtain ⟨w, h, hw2, hw, hh2, hh, rfl, rfl⟩ := hq
  rw [nI_clamp (by omega), nI_clamp (by omega)] at E
  refine sgX2_sumOfDifferences_0 C E ?_
  unfold drw sum2 at E
  generalize ht : (fun (y x : Nat) => (if x + 1 < w then szI (P_heights (8 * y + x) - P_heights (8 * y + (x + 1))) else 0) + (if y + 1 < h then szI (P_heights (8 * y + x) - P_heights (8 * (y + 1) + x)) else 0)) = t at E
  have outer : ∀ y, y ≤ h → atX2_sumOfDifferences_4 X ad cA (sumI (fun y => sumI (t y) w) y) (nI y) (nI w) (nI h) P_heights := by
    intro y hy
    refine up_loop (P := fun y => atX2_sumOfDifferences_4 X ad cA (sumI (fun y => sumI (t y) w) y) (nI y) (nI w) (nI h) P_heights) h ?_ (fun y hy ih => ?_) y hy
    · exact sgX2_sumOfDifferences_4 C E ⟨fun _ => by rw [← ht], fun c => absurd (i32_le_refl _) c⟩
    · refine sgX2_sumOfDifferences_4 C E ⟨fun c => absurd c (nI_ge hy (by omega)), fun _ => ?_⟩
      have inner : ∀ x, x ≤ w → atX2_sumOfDifferences_14 X ad cA (sumI (fun y => sumI (t y) w) y + sumI (t y) x) (nI y) (nI x) (nI w) (nI h) P_heights := by
        intro x hx
        refine up_loop (P := fun x => atX2_sumOfDifferences_14 X ad cA (sumI (fun y => sumI (t y) w) y + sumI (t y) x) (nI y) (nI x) (nI w) (nI h) P_heights) w ?_ (fun x hx ih2 => ?_) x hx
        · refine sgX2_sumOfDifferences_14 C E ⟨fun _ => ?_, fun c => absurd (i32_le_refl _) c⟩
          rw [nI_1]; exact ih
        · obtain ⟨d1, d2⟩ := dif_eq hw hh hx hy P_heights
          obtain ⟨d3, d4⟩ := dif_eq2 hw hh hx hy P_heights
          refine sgX2_sumOfDifferences_14 C E ⟨fun c => absurd c (nI_ge hx (by omega)), fun _ => ⟨d2, d4, fun v ev => ?_⟩⟩
          rw [d1, d3] at ev
          rw [nI_1, ev]
          have e2 : sumI (fun y => sumI (t y) w) y + sumI (t y) x + ((if x + 1 < w then szI (P_heights (8 * y + x) - P_heights (8 * y + (x + 1))) else 0) + (if y + 1 < h then szI (P_heights (8 * y + x) - P_heights (8 * (y + 1) + x)) else 0)) = sumI (fun y => sumI (t y) w) y + sumI (t y) (x + 1) := by
            rw [sumI, ← ht, Int32.add_assoc]
          rw [e2]; exact ih2
      have := inner 0 (Nat.zero_le _)
      rw [sumI, Int32.add_zero] at this
      exact this
  exact outer 0 (Nat.zero_le _)


abbrev w1X2_sumOfChanges (ad : Nat → Nat) (cA : Nat → ClassId) (P_wide : Int32) (P_high : Int32) (P_heights : Nat → Int32) (P_pinned : Nat → Int32) (u : (Nat → Int32)) : va_W := [((ad 15), .inr (2, [.ref (ad 16), .ref (ad 17), .ref (ad 18), .int P_wide, .int P_high])), ((ad 16), .inl (cA 0, 64, .inl P_heights)), ((ad 17), .inl (cA 2, 64, .inl P_pinned)), ((ad 18), .inl (cA 0, 4, .inl u))]
abbrev wcX2_sumOfChanges (ad : Nat → Nat) (cA : Nat → ClassId) (P_wide : Int32) (P_high : Int32) (P_heights : Nat → Int32) (P_pinned : Nat → Int32) (P_near : Nat → Int32) : va_W := [((ad 15), .inr (2, [.ref (ad 16), .ref (ad 17), .ref (ad 18), .int P_wide, .int P_high])), ((ad 16), .inl (cA 0, 64, .inl P_heights)), ((ad 17), .inl (cA 2, 64, .inl P_pinned)), ((ad 18), .inl (cA 0, 4, .inl P_near))]
def rmX2_sumOfChanges : Room := { frames := 3, cells := 0, slots := 0, locals := 73 }
abbrev atX2_sumOfChanges_0 (X : gX) (ad : Nat → Nat) (cA : Nat → ClassId) (P_wide : Int32) (P_high : Int32) (P_heights : Nat → Int32) (P_pinned : Nat → Int32) (P_near : Nat → Int32) : Prop := gW X 0 0 [((ad 15), .inr (2, [.ref (ad 16), .ref (ad 17), .ref (ad 18), .int P_wide, .int P_high])), ((ad 16), .inl (cA 0, 64, .inl P_heights)), ((ad 17), .inl (cA 2, 64, .inl P_pinned)), ((ad 18), .inl (cA 0, 4, .inl P_near))] 4 [(0, .ref (ad 15))] [] 0
abbrev atX2_sumOfChanges_4 (X : gX) (ad : Nat → Nat) (cA : Nat → ClassId) (x1 : Int32) (x2 : Int32) (P_wide : Int32) (P_high : Int32) (P_heights : Nat → Int32) (P_pinned : Nat → Int32) (P_near : Nat → Int32) : Prop := gW X 0 0 [((ad 15), .inr (2, [.ref (ad 16), .ref (ad 17), .ref (ad 18), .int P_wide, .int P_high])), ((ad 16), .inl (cA 0, 64, .inl P_heights)), ((ad 17), .inl (cA 2, 64, .inl P_pinned)), ((ad 18), .inl (cA 0, 4, .inl P_near))] 4 [(0, .ref (ad 15)), (1, .int x1), (2, .int x2)] [] 4
abbrev atX2_sumOfChanges_14 (X : gX) (ad : Nat → Nat) (cA : Nat → ClassId) (x1 : Int32) (x2 : Int32) (x3 : Int32) (P_wide : Int32) (P_high : Int32) (P_heights : Nat → Int32) (P_pinned : Nat → Int32) (P_near : Nat → Int32) : Prop := gW X 0 0 [((ad 15), .inr (2, [.ref (ad 16), .ref (ad 17), .ref (ad 18), .int P_wide, .int P_high])), ((ad 16), .inl (cA 0, 64, .inl P_heights)), ((ad 17), .inl (cA 2, 64, .inl P_pinned)), ((ad 18), .inl (cA 0, 4, .inl P_near))] 4 [(0, .ref (ad 15)), (1, .int x1), (2, .int x2), (3, .int x3)] [] 14
theorem mmX2_sumOfChanges_51a : Cond.methodLink RX2 51 Lib.Math.abs.name ∈ wsX2_sumOfChanges := by decide +kernel
theorem mmX2_sumOfChanges_51b : Cond.static Lib.Math.abs.name ∈ wsX2_sumOfChanges := by decide +kernel
theorem mmX2_sumOfChanges_51c : Cond.initialized "java/lang/Math" ∈ wsX2_sumOfChanges := by decide +kernel
theorem mmX2_sumOfChanges_51d : Cond.code Lib.Math.abs.name Lib.Math.abs.code 1 (some .int) ∈ wsX2_sumOfChanges := by decide +kernel
theorem giX2_sumOfChanges_X2 : ∀ w ∈ u_ws RX2 TX2 5, w ∈ wsX2_sumOfChanges := by decide +kernel
theorem gfX2_sumOfChanges_26 : gF wsX2_sumOfChanges RX2 26 2 4 RX2 TX2 5 := ⟨giX2_sumOfChanges_X2, by decide +kernel, rfl, by decide⟩
theorem gfX2_sumOfChanges_22 : gF wsX2_sumOfChanges RX2 22 2 3 RX2 TX2 5 := ⟨giX2_sumOfChanges_X2, by decide +kernel, rfl, by decide⟩
theorem gfX2_sumOfChanges_9 : gF wsX2_sumOfChanges RX2 9 2 0 RX2 TX2 5 := ⟨giX2_sumOfChanges_X2, by decide +kernel, rfl, by decide⟩
set_option maxHeartbeats 4000000 in
set_option maxRecDepth 100000 in
theorem sgX2_sumOfChanges_0 {X : gX} {ad : Nat → Nat} {cA : Nat → ClassId} {post : Int32 → ((Nat → Int32)) → Prop} {P_wide : Int32} {P_high : Int32} {P_heights : Nat → Int32} {P_pinned : Nat → Int32} {P_near : Nat → Int32} (C : gC X (gT cA) cX2_sumOfChanges 4 RX2 wsX2_sumOfChanges rmX2_sumOfChanges) (E : gEi X (some .int) (gT cA) 0 0 post (w1X2_sumOfChanges ad cA P_wide P_high P_heights P_pinned)) (h : atX2_sumOfChanges_4 X ad cA (0 : Int32) (0 : Int32) P_wide P_high P_heights P_pinned P_near) : atX2_sumOfChanges_0 X ad cA P_wide P_high P_heights P_pinned P_near := by
  refine g_iconst C dX2_sumOfChanges_0 ik_0 ?_
  refine g_istore_n (lv2 := [(0, .ref (ad 15)), (1, .int (0 : Int32))]) C dX2_sumOfChanges_1 rfl (by decide) [1, 0] rfl ?_
  refine g_iconst C dX2_sumOfChanges_2 ik_0 ?_
  refine g_istore_n (lv2 := [(0, .ref (ad 15)), (1, .int (0 : Int32)), (2, .int (0 : Int32))]) C dX2_sumOfChanges_3 rfl (by decide) [1, 2, 0] rfl ?_
  exact g_lv [0, 1, 2] rfl h
set_option maxHeartbeats 4000000 in
set_option maxRecDepth 100000 in
theorem sgX2_sumOfChanges_4 {X : gX} {ad : Nat → Nat} {cA : Nat → ClassId} {post : Int32 → ((Nat → Int32)) → Prop} {x1 : Int32} {x2 : Int32} {P_wide : Int32} {P_high : Int32} {P_heights : Nat → Int32} {P_pinned : Nat → Int32} {P_near : Nat → Int32} (C : gC X (gT cA) cX2_sumOfChanges 4 RX2 wsX2_sumOfChanges rmX2_sumOfChanges) (E : gEi X (some .int) (gT cA) 0 0 post (w1X2_sumOfChanges ad cA P_wide P_high P_heights P_pinned)) (h : (P_high ≤ x2 → post x1 P_near) ∧ (¬ P_high ≤ x2 → atX2_sumOfChanges_14 X ad cA x1 x2 (0 : Int32) P_wide P_high P_heights P_pinned P_near)) : atX2_sumOfChanges_4 X ad cA x1 x2 P_wide P_high P_heights P_pinned P_near := by
  refine g_iload_n C dX2_sumOfChanges_4 rfl 2 rfl ?_
  refine g_aload_n C dX2_sumOfChanges_5 rfl 0 rfl ?_
  refine g_get C gfX2_sumOfChanges_26 0 rfl rfl dX2_sumOfChanges_6 ?_
  refine g_icmp_ge (tgt := 58) C dX2_sumOfChanges_9 (by decide) (fun c_1 => ?_) (fun c_1 => ?_)
  · replace h := h.1 c_1
    refine g_iload_n C dX2_sumOfChanges_58 rfl 1 rfl ?_
    exact g_iret C E P_near h rfl dX2_sumOfChanges_59
  · replace h := h.2 c_1
    refine g_iconst C dX2_sumOfChanges_12 ik_0 ?_
    refine g_istore_n (lv2 := [(0, .ref (ad 15)), (1, .int x1), (2, .int x2), (3, .int (0 : Int32))]) C dX2_sumOfChanges_13 rfl (by decide) [1, 2, 3, 0] rfl ?_
    exact g_lv [0, 1, 2, 3] rfl h
set_option maxHeartbeats 4000000 in
set_option maxRecDepth 100000 in
theorem sgX2_sumOfChanges_14 {X : gX} {ad : Nat → Nat} {cA : Nat → ClassId} {post : Int32 → ((Nat → Int32)) → Prop} {x1 : Int32} {x2 : Int32} {x3 : Int32} {P_wide : Int32} {P_high : Int32} {P_heights : Nat → Int32} {P_pinned : Nat → Int32} {P_near : Nat → Int32} (C : gC X (gT cA) cX2_sumOfChanges 4 RX2 wsX2_sumOfChanges rmX2_sumOfChanges) (E : gEi X (some .int) (gT cA) 0 0 post (w1X2_sumOfChanges ad cA P_wide P_high P_heights P_pinned)) (h : (P_wide ≤ x3 → atX2_sumOfChanges_4 X ad cA x1 (x2 + 1) P_wide P_high P_heights P_pinned P_near) ∧ (¬ P_wide ≤ x3 → prX2_stepped x3 x2 P_wide P_high P_heights P_pinned P_near ∧ ∀ (r_4 : Int32) (u4_P_near : Nat → Int32), po_X2_stepped ad cA x3 x2 P_wide P_high P_heights P_pinned P_near r_4 u4_P_near → vp_in (fnX2_at x3 x2 P_wide P_high) 64 ∧ ∀ x1_7 : Int32, x1_7 = (x1 + (if 0 ≤ (r_4 - (P_heights (fnX2_at x3 x2 P_wide P_high).toNatClampNeg)) then (r_4 - (P_heights (fnX2_at x3 x2 P_wide P_high).toNatClampNeg)) else 0 - (r_4 - (P_heights (fnX2_at x3 x2 P_wide P_high).toNatClampNeg)))) → atX2_sumOfChanges_14 X ad cA x1_7 x2 (x3 + 1) P_wide P_high P_heights P_pinned u4_P_near)) : atX2_sumOfChanges_14 X ad cA x1 x2 x3 P_wide P_high P_heights P_pinned P_near := by
  refine g_iload_n C dX2_sumOfChanges_14 rfl 3 rfl ?_
  refine g_aload_n C dX2_sumOfChanges_15 rfl 0 rfl ?_
  refine g_get C gfX2_sumOfChanges_22 0 rfl rfl dX2_sumOfChanges_16 ?_
  refine g_icmp_ge (tgt := 52) C dX2_sumOfChanges_19 (by decide) (fun c_2 => ?_) (fun c_2 => ?_)
  · replace h := h.1 c_2
    refine g_iinc (v := (x2 + 1)) (lv2 := [(0, .ref (ad 15)), (1, .int x1), (2, .int (x2 + 1)), (3, .int x3)]) C dX2_sumOfChanges_52 2 rfl (by first | rfl | decide) (by decide) [1, 2, 0, 3] rfl ?_
    refine g_goto (tgt := 4) C dX2_sumOfChanges_55 (by decide) ?_
    exact g_lv [0, 1, 2] rfl h
  · replace h := h.2 c_2
    refine g_iload_n C dX2_sumOfChanges_22 rfl 1 rfl ?_
    refine g_aload_n C dX2_sumOfChanges_23 rfl 0 rfl ?_
    refine g_iload_n C dX2_sumOfChanges_24 rfl 3 rfl ?_
    refine g_iload_n C dX2_sumOfChanges_25 rfl 2 rfl ?_
    obtain ⟨hi_3, h⟩ := h
    refine g_callVi (wr := []) C (c_X2_stepped ad cA x3 x2 P_wide P_high P_heights P_pinned P_near hi_3) gX2_sumOfChanges_X2_stepped rfl hde_X2_stepped ⟨rfl, rfl⟩ (by decide) (by decide) [0, 1, 2, 3] [] [0, 1, 2, 3] rfl rfl rfl rfl (by decide) rfl (ws2 := fun u => [((ad 15), .inr (2, [.ref (ad 16), .ref (ad 17), .ref (ad 18), .int P_wide, .int P_high])), ((ad 16), .inl (cA 0, 64, .inl P_heights)), ((ad 17), .inl (cA 2, 64, .inl P_pinned)), ((ad 18), .inl (cA 0, 4, .inl u))]) (fun _ => rfl) 2 0 rfl rfl rfl (rest := [.int x1]) rfl (Nat.le_of_ble_eq_true rfl) dX2_sumOfChanges_26 (fun r_4 u_4 hp_4 => ?_)
    obtain ⟨u4_P_near, rfl⟩ : ∃ z, z = u_4 := ⟨_, rfl⟩
    replace h := h r_4 u4_P_near hp_4
    change gW X 0 0 [((ad 15), .inr (2, [.ref (ad 16), .ref (ad 17), .ref (ad 18), .int P_wide, .int P_high])), ((ad 16), .inl (cA 0, 64, .inl P_heights)), ((ad 17), .inl (cA 2, 64, .inl P_pinned)), ((ad 18), .inl (cA 0, 4, .inl u4_P_near))] 4 [(0, .ref (ad 15)), (1, .int x1), (2, .int x2), (3, .int x3)] [.int r_4, .int x1] 29
    refine g_aload_n C dX2_sumOfChanges_29 rfl 0 rfl ?_
    refine g_get C gfX2_sumOfChanges_9 0 rfl rfl dX2_sumOfChanges_30 ?_
    refine g_aload_n C dX2_sumOfChanges_33 rfl 0 rfl ?_
    refine g_iload_n C dX2_sumOfChanges_34 rfl 3 rfl ?_
    refine g_iload_n C dX2_sumOfChanges_35 rfl 2 rfl ?_
    refine g_callVi (wr := [((ad 16), .inl (cA 0, 64, .inl P_heights)), ((ad 17), .inl (cA 2, 64, .inl P_pinned)), ((ad 18), .inl (cA 0, 4, .inl u4_P_near))]) C (c_X2_at ad cA x3 x2 P_wide P_high) gX2_sumOfChanges_X2_at rfl hde_X2_at ⟨rfl, rfl⟩ (by decide) (by decide) [0] [1, 2, 3] [3, 0, 1, 2] rfl rfl rfl rfl (by decide) rfl (ws2 := fun u => [((ad 15), .inr (2, [.ref (ad 16), .ref (ad 17), .ref (ad 18), .int P_wide, .int P_high])), ((ad 16), .inl (cA 0, 64, .inl P_heights)), ((ad 17), .inl (cA 2, 64, .inl P_pinned)), ((ad 18), .inl (cA 0, 4, .inl u4_P_near))]) (fun _ => rfl) 2 0 rfl rfl rfl (rest := [.ref (ad 16), .int r_4, .int x1]) rfl (Nat.le_of_ble_eq_true rfl) dX2_sumOfChanges_36 (fun r_5 u_5 hp_5 => ?_)
    subst hp_5
    change gW X 0 0 [((ad 15), .inr (2, [.ref (ad 16), .ref (ad 17), .ref (ad 18), .int P_wide, .int P_high])), ((ad 16), .inl (cA 0, 64, .inl P_heights)), ((ad 17), .inl (cA 2, 64, .inl P_pinned)), ((ad 18), .inl (cA 0, 4, .inl u4_P_near))] 4 [(0, .ref (ad 15)), (1, .int x1), (2, .int x2), (3, .int x3)] [.int (fnX2_at x3 x2 P_wide P_high), .ref (ad 16), .int r_4, .int x1] 39
    obtain ⟨hi_6, h⟩ := h
    refine g_iald C 1 0 rfl rfl hi_6 dX2_sumOfChanges_39 ?_
    refine g_isub C dX2_sumOfChanges_40 ?_
    refine g_mabs C mmX2_sumOfChanges_51a mmX2_sumOfChanges_51b mmX2_sumOfChanges_51c mmX2_sumOfChanges_51d (by decide) (Nat.le_of_ble_eq_true rfl) (by decide) (by decide) dX2_sumOfChanges_41 ?_
    refine g_iadd C dX2_sumOfChanges_44 ?_
    refine g_topi (fun x1_7 ex1_7 => ?_)
    replace h := h x1_7 ex1_7
    refine g_istore_n (lv2 := [(0, .ref (ad 15)), (1, .int x1_7), (2, .int x2), (3, .int x3)]) C dX2_sumOfChanges_45 rfl (by decide) [1, 0, 2, 3] rfl ?_
    refine g_iinc (v := (x3 + 1)) (lv2 := [(0, .ref (ad 15)), (1, .int x1_7), (2, .int x2), (3, .int (x3 + 1))]) C dX2_sumOfChanges_46 3 rfl (by first | rfl | decide) (by decide) [1, 2, 3, 0] rfl ?_
    refine g_goto (tgt := 14) C dX2_sumOfChanges_49 (by decide) ?_
    exact g_lv [0, 1, 2, 3] rfl h
def prX2_sumOfChanges (P_wide : Int32) (P_high : Int32) (P_heights : Nat → Int32) (P_pinned : Nat → Int32) (P_near : Nat → Int32) : Prop := netOK P_wide P_high
def po_X2_sumOfChanges (ad : Nat → Nat) (cA : Nat → ClassId) (P_wide : Int32) (P_high : Int32) (P_heights : Nat → Int32) (P_pinned : Nat → Int32) (P_near : Nat → Int32) (r : Int32) (u : (Nat → Int32)) : Prop := r = chg P_wide.toNatClampNeg P_high.toNatClampNeg P_pinned P_heights
set_option maxHeartbeats 4000000 in
set_option maxRecDepth 100000 in
theorem c_X2_sumOfChanges (ad : Nat → Nat) (cA : Nat → ClassId) (P_wide : Int32) (P_high : Int32) (P_heights : Nat → Int32) (P_pinned : Nat → Int32) (P_near : Nat → Int32) (hq : prX2_sumOfChanges P_wide P_high P_heights P_pinned P_near) : ∀ (l : Launch) (D : va_G), gMi (S := (Nat → Int32)) l yX2_sumOfChanges wsX2_sumOfChanges rmX2_sumOfChanges D (gT cA) 0 0 [.ref (ad 15)] (wcX2_sumOfChanges ad cA P_wide P_high P_heights P_pinned P_near) (po_X2_sumOfChanges ad cA P_wide P_high P_heights P_pinned P_near) (w1X2_sumOfChanges ad cA P_wide P_high P_heights P_pinned) := by
  intro l D
  unfold prX2_sumOfChanges at hq
  refine g_enteri (cc := cX2_sumOfChanges) (nL := 4) (ret := (some .int)) (by decide) rfl (Nat.le_of_ble_eq_true rfl) rfl (fun X C E => ?_)
  obtain ⟨w, h, hw2, hw, hh2, hh, rfl, rfl⟩ := hq
  have hpo : ∀ (r : Int32) (u : Nat → Int32), r = chg w h P_pinned P_heights → po_X2_sumOfChanges ad cA (nI w) (nI h) P_heights P_pinned P_near r u := fun r u e => by
    unfold po_X2_sumOfChanges
    rw [nI_clamp (by omega), nI_clamp (by omega)]; exact e
  refine sgX2_sumOfChanges_0 C E ?_
  unfold chg sum2 at hpo
  generalize ht : (fun (y x : Nat) => szI (stp w h P_pinned P_heights x y - P_heights (8 * y + x))) = t at hpo
  have outer : ∀ y, y ≤ h → ∀ nr, atX2_sumOfChanges_4 X ad cA (sumI (fun y => sumI (t y) w) y) (nI y) (nI w) (nI h) P_heights P_pinned nr := by
    intro y hy
    refine up_loop (P := fun y => ∀ nr, atX2_sumOfChanges_4 X ad cA (sumI (fun y => sumI (t y) w) y) (nI y) (nI w) (nI h) P_heights P_pinned nr) h ?_ (fun y hy ih nr => ?_) y hy
    · exact fun nr => sgX2_sumOfChanges_4 C E ⟨fun _ => hpo _ _ (by rw [← ht]), fun c => absurd (i32_le_refl _) c⟩
    · refine sgX2_sumOfChanges_4 C E ⟨fun c => absurd c (nI_ge hy (by omega)), fun _ => ?_⟩
      have inner : ∀ x, x ≤ w → ∀ nr, atX2_sumOfChanges_14 X ad cA (sumI (fun y => sumI (t y) w) y + sumI (t y) x) (nI y) (nI x) (nI w) (nI h) P_heights P_pinned nr := by
        intro x hx
        refine up_loop (P := fun x => ∀ nr, atX2_sumOfChanges_14 X ad cA (sumI (fun y => sumI (t y) w) y + sumI (t y) x) (nI y) (nI x) (nI w) (nI h) P_heights P_pinned nr) w ?_ (fun x hx ih2 nr => ?_) x hx
        · refine fun nr => sgX2_sumOfChanges_14 C E ⟨fun _ => ?_, fun c => absurd (i32_le_refl _) c⟩
          rw [nI_1]; exact ih nr
        · refine sgX2_sumOfChanges_14 C E ⟨fun c => absurd c (nI_ge hx (by omega)), fun _ => ⟨⟨w, h, x, y, hw2, hw, hh2, hh, rfl, rfl, hx, hy, rfl, rfl⟩, fun r u hr => ?_⟩⟩
          unfold po_X2_stepped at hr
          rw [nI_clamp (by omega), nI_clamp (by omega), nI_clamp (by omega), nI_clamp (by omega)] at hr
          rw [at_eq, nI_clamp (by omega)]
          refine ⟨vp_in_nI (by omega) (by decide), fun v ev => ?_⟩
          rw [nI_1, ev, hr]
          have e2 : sumI (fun y => sumI (t y) w) y + sumI (t y) x + szI (stp w h P_pinned P_heights x y - P_heights (8 * y + x)) = sumI (fun y => sumI (t y) w) y + sumI (t y) (x + 1) := by
            rw [sumI, ← ht, Int32.add_assoc]
          have e3 := ih2 u
          rw [← e2] at e3
          exact e3
      have := inner 0 (Nat.zero_le _) nr
      rw [sumI, Int32.add_zero] at this
      exact this
  exact outer 0 (Nat.zero_le _) P_near


abbrev w1X2_isAtRest (ad : Nat → Nat) (cA : Nat → ClassId) (P_wide : Int32) (P_high : Int32) (P_heights : Nat → Int32) (P_pinned : Nat → Int32) (u : (Nat → Int32)) : va_W := [((ad 15), .inr (2, [.ref (ad 16), .ref (ad 17), .ref (ad 18), .int P_wide, .int P_high])), ((ad 16), .inl (cA 0, 64, .inl P_heights)), ((ad 17), .inl (cA 2, 64, .inl P_pinned)), ((ad 18), .inl (cA 0, 4, .inl u))]
abbrev wcX2_isAtRest (ad : Nat → Nat) (cA : Nat → ClassId) (P_wide : Int32) (P_high : Int32) (P_heights : Nat → Int32) (P_pinned : Nat → Int32) (P_near : Nat → Int32) : va_W := [((ad 15), .inr (2, [.ref (ad 16), .ref (ad 17), .ref (ad 18), .int P_wide, .int P_high])), ((ad 16), .inl (cA 0, 64, .inl P_heights)), ((ad 17), .inl (cA 2, 64, .inl P_pinned)), ((ad 18), .inl (cA 0, 4, .inl P_near))]
def rmX2_isAtRest : Room := { frames := 4, cells := 0, slots := 0, locals := 96 }
abbrev atX2_isAtRest_0 (X : gX) (ad : Nat → Nat) (cA : Nat → ClassId) (P_wide : Int32) (P_high : Int32) (P_heights : Nat → Int32) (P_pinned : Nat → Int32) (P_near : Nat → Int32) : Prop := gW X 0 0 [((ad 15), .inr (2, [.ref (ad 16), .ref (ad 17), .ref (ad 18), .int P_wide, .int P_high])), ((ad 16), .inl (cA 0, 64, .inl P_heights)), ((ad 17), .inl (cA 2, 64, .inl P_pinned)), ((ad 18), .inl (cA 0, 4, .inl P_near))] 1 [(0, .ref (ad 15))] [] 0
set_option maxHeartbeats 4000000 in
set_option maxRecDepth 100000 in
theorem sgX2_isAtRest_0 {X : gX} {ad : Nat → Nat} {cA : Nat → ClassId} {post : Int32 → ((Nat → Int32)) → Prop} {P_wide : Int32} {P_high : Int32} {P_heights : Nat → Int32} {P_pinned : Nat → Int32} {P_near : Nat → Int32} (C : gC X (gT cA) cX2_isAtRest 1 RX2 wsX2_isAtRest rmX2_isAtRest) (E : gEi X (some .boolean) (gT cA) 0 0 post (w1X2_isAtRest ad cA P_wide P_high P_heights P_pinned)) (h : prX2_sumOfChanges P_wide P_high P_heights P_pinned P_near ∧ ∀ (r_2 : Int32) (u2_P_near : Nat → Int32), po_X2_sumOfChanges ad cA P_wide P_high P_heights P_pinned P_near r_2 u2_P_near → (¬ r_2 = 0 → post (0 : Int32) u2_P_near) ∧ (r_2 = 0 → post (1 : Int32) u2_P_near)) : atX2_isAtRest_0 X ad cA P_wide P_high P_heights P_pinned P_near := by
  refine g_aload_n C dX2_isAtRest_0 rfl 0 rfl ?_
  obtain ⟨hi_1, h⟩ := h
  refine g_callVi (wr := []) C (c_X2_sumOfChanges ad cA P_wide P_high P_heights P_pinned P_near hi_1) gX2_isAtRest_X2_sumOfChanges rfl hde_X2_sumOfChanges ⟨rfl, rfl⟩ (by decide) (by decide) [0, 1, 2, 3] [] [0, 1, 2, 3] rfl rfl rfl rfl (by decide) rfl (ws2 := fun u => [((ad 15), .inr (2, [.ref (ad 16), .ref (ad 17), .ref (ad 18), .int P_wide, .int P_high])), ((ad 16), .inl (cA 0, 64, .inl P_heights)), ((ad 17), .inl (cA 2, 64, .inl P_pinned)), ((ad 18), .inl (cA 0, 4, .inl u))]) (fun _ => rfl) 2 0 rfl rfl rfl (rest := []) rfl (Nat.le_of_ble_eq_true rfl) dX2_isAtRest_1 (fun r_2 u_2 hp_2 => ?_)
  obtain ⟨u2_P_near, rfl⟩ : ∃ z, z = u_2 := ⟨_, rfl⟩
  replace h := h r_2 u2_P_near hp_2
  change gW X 0 0 [((ad 15), .inr (2, [.ref (ad 16), .ref (ad 17), .ref (ad 18), .int P_wide, .int P_high])), ((ad 16), .inl (cA 0, 64, .inl P_heights)), ((ad 17), .inl (cA 2, 64, .inl P_pinned)), ((ad 18), .inl (cA 0, 4, .inl u2_P_near))] 1 [(0, .ref (ad 15))] [.int r_2] 4
  refine g_if_ne (tgt := 11) C dX2_isAtRest_4 (by decide) (fun c_3 => ?_) (fun c_3 => ?_)
  · replace h := h.1 c_3
    refine g_iconst C dX2_isAtRest_11 ik_0 ?_
    exact g_zret C E rfl u2_P_near h rfl dX2_isAtRest_12
  · replace h := h.2 c_3
    refine g_iconst C dX2_isAtRest_7 ik_1 ?_
    refine g_goto (tgt := 12) C dX2_isAtRest_8 (by decide) ?_
    exact g_zret C E rfl u2_P_near h rfl dX2_isAtRest_12
def prX2_isAtRest (P_wide : Int32) (P_high : Int32) (P_heights : Nat → Int32) (P_pinned : Nat → Int32) (P_near : Nat → Int32) : Prop := netOK P_wide P_high
def po_X2_isAtRest (ad : Nat → Nat) (cA : Nat → ClassId) (P_wide : Int32) (P_high : Int32) (P_heights : Nat → Int32) (P_pinned : Nat → Int32) (P_near : Nat → Int32) (r : Int32) (u : (Nat → Int32)) : Prop := r = bI (decide (chg P_wide.toNatClampNeg P_high.toNatClampNeg P_pinned P_heights = 0))
set_option maxHeartbeats 4000000 in
set_option maxRecDepth 100000 in
theorem c_X2_isAtRest (ad : Nat → Nat) (cA : Nat → ClassId) (P_wide : Int32) (P_high : Int32) (P_heights : Nat → Int32) (P_pinned : Nat → Int32) (P_near : Nat → Int32) (hq : prX2_isAtRest P_wide P_high P_heights P_pinned P_near) : ∀ (l : Launch) (D : va_G), gMi (S := (Nat → Int32)) l yX2_isAtRest wsX2_isAtRest rmX2_isAtRest D (gT cA) 0 0 [.ref (ad 15)] (wcX2_isAtRest ad cA P_wide P_high P_heights P_pinned P_near) (po_X2_isAtRest ad cA P_wide P_high P_heights P_pinned P_near) (w1X2_isAtRest ad cA P_wide P_high P_heights P_pinned) := by
  intro l D
  unfold prX2_isAtRest at hq
  refine g_enteri (cc := cX2_isAtRest) (nL := 1) (ret := (some .boolean)) (by decide) rfl (Nat.le_of_ble_eq_true rfl) rfl (fun X C E => ?_)
  refine sgX2_isAtRest_0 C E ⟨hq, fun r u hr => ⟨fun c => ?_, fun c => ?_⟩⟩
  · unfold po_X2_sumOfChanges at hr
    show _ = bI _
    rw [decide_eq_false (by rw [← hr]; exact c)]; rfl
  · unfold po_X2_sumOfChanges at hr
    show _ = bI _
    rw [decide_eq_true (by rw [← hr]; exact c)]; rfl


abbrev w1X2_stepAtEach (ad : Nat → Nat) (cA : Nat → ClassId) (P_wide : Int32) (P_high : Int32) (P_pinned : Nat → Int32) (u : (Nat → Int32) × (Nat → Int32)) : va_W := [((ad 15), .inr (2, [.ref (ad 16), .ref (ad 17), .ref (ad 18), .int P_wide, .int P_high])), ((ad 16), .inl (cA 0, 64, .inl u.1)), ((ad 17), .inl (cA 2, 64, .inl P_pinned)), ((ad 18), .inl (cA 0, 4, .inl u.2))]
abbrev wcX2_stepAtEach (ad : Nat → Nat) (cA : Nat → ClassId) (P_wide : Int32) (P_high : Int32) (P_heights : Nat → Int32) (P_pinned : Nat → Int32) (P_near : Nat → Int32) : va_W := [((ad 15), .inr (2, [.ref (ad 16), .ref (ad 17), .ref (ad 18), .int P_wide, .int P_high])), ((ad 16), .inl (cA 0, 64, .inl P_heights)), ((ad 17), .inl (cA 2, 64, .inl P_pinned)), ((ad 18), .inl (cA 0, 4, .inl P_near))]
def rmX2_stepAtEach : Room := { frames := 3, cells := 0, slots := 0, locals := 73 }
abbrev atX2_stepAtEach_0 (X : gX) (ad : Nat → Nat) (cA : Nat → ClassId) (P_wide : Int32) (P_high : Int32) (P_heights : Nat → Int32) (P_pinned : Nat → Int32) (P_near : Nat → Int32) : Prop := gW X 0 0 [((ad 15), .inr (2, [.ref (ad 16), .ref (ad 17), .ref (ad 18), .int P_wide, .int P_high])), ((ad 16), .inl (cA 0, 64, .inl P_heights)), ((ad 17), .inl (cA 2, 64, .inl P_pinned)), ((ad 18), .inl (cA 0, 4, .inl P_near))] 3 [(0, .ref (ad 15))] [] 0
abbrev atX2_stepAtEach_2 (X : gX) (ad : Nat → Nat) (cA : Nat → ClassId) (x1 : Int32) (P_wide : Int32) (P_high : Int32) (P_heights : Nat → Int32) (P_pinned : Nat → Int32) (P_near : Nat → Int32) : Prop := gW X 0 0 [((ad 15), .inr (2, [.ref (ad 16), .ref (ad 17), .ref (ad 18), .int P_wide, .int P_high])), ((ad 16), .inl (cA 0, 64, .inl P_heights)), ((ad 17), .inl (cA 2, 64, .inl P_pinned)), ((ad 18), .inl (cA 0, 4, .inl P_near))] 3 [(0, .ref (ad 15)), (1, .int x1)] [] 2
abbrev atX2_stepAtEach_12 (X : gX) (ad : Nat → Nat) (cA : Nat → ClassId) (x1 : Int32) (x2 : Int32) (P_wide : Int32) (P_high : Int32) (P_heights : Nat → Int32) (P_pinned : Nat → Int32) (P_near : Nat → Int32) : Prop := gW X 0 0 [((ad 15), .inr (2, [.ref (ad 16), .ref (ad 17), .ref (ad 18), .int P_wide, .int P_high])), ((ad 16), .inl (cA 0, 64, .inl P_heights)), ((ad 17), .inl (cA 2, 64, .inl P_pinned)), ((ad 18), .inl (cA 0, 4, .inl P_near))] 3 [(0, .ref (ad 15)), (1, .int x1), (2, .int x2)] [] 12
theorem giX2_stepAtEach_X2 : ∀ w ∈ u_ws RX2 TX2 5, w ∈ wsX2_stepAtEach := by decide +kernel
theorem gfX2_stepAtEach_26 : gF wsX2_stepAtEach RX2 26 2 4 RX2 TX2 5 := ⟨giX2_stepAtEach_X2, by decide +kernel, rfl, by decide⟩
theorem gfX2_stepAtEach_22 : gF wsX2_stepAtEach RX2 22 2 3 RX2 TX2 5 := ⟨giX2_stepAtEach_X2, by decide +kernel, rfl, by decide⟩
theorem gfX2_stepAtEach_9 : gF wsX2_stepAtEach RX2 9 2 0 RX2 TX2 5 := ⟨giX2_stepAtEach_X2, by decide +kernel, rfl, by decide⟩
set_option maxHeartbeats 4000000 in
set_option maxRecDepth 100000 in
theorem sgX2_stepAtEach_0 {X : gX} {ad : Nat → Nat} {cA : Nat → ClassId} {post : ((Nat → Int32) × (Nat → Int32)) → Prop} {P_wide : Int32} {P_high : Int32} {P_heights : Nat → Int32} {P_pinned : Nat → Int32} {P_near : Nat → Int32} (C : gC X (gT cA) cX2_stepAtEach 3 RX2 wsX2_stepAtEach rmX2_stepAtEach) (E : gEv X none (gT cA) 0 0 post (w1X2_stepAtEach ad cA P_wide P_high P_pinned)) (h : atX2_stepAtEach_2 X ad cA (0 : Int32) P_wide P_high P_heights P_pinned P_near) : atX2_stepAtEach_0 X ad cA P_wide P_high P_heights P_pinned P_near := by
  refine g_iconst C dX2_stepAtEach_0 ik_0 ?_
  refine g_istore_n (lv2 := [(0, .ref (ad 15)), (1, .int (0 : Int32))]) C dX2_stepAtEach_1 rfl (by decide) [1, 0] rfl ?_
  exact g_lv [0, 1] rfl h
set_option maxHeartbeats 4000000 in
set_option maxRecDepth 100000 in
theorem sgX2_stepAtEach_2 {X : gX} {ad : Nat → Nat} {cA : Nat → ClassId} {post : ((Nat → Int32) × (Nat → Int32)) → Prop} {x1 : Int32} {P_wide : Int32} {P_high : Int32} {P_heights : Nat → Int32} {P_pinned : Nat → Int32} {P_near : Nat → Int32} (C : gC X (gT cA) cX2_stepAtEach 3 RX2 wsX2_stepAtEach rmX2_stepAtEach) (E : gEv X none (gT cA) 0 0 post (w1X2_stepAtEach ad cA P_wide P_high P_pinned)) (h : (P_high ≤ x1 → post (P_heights, P_near)) ∧ (¬ P_high ≤ x1 → atX2_stepAtEach_12 X ad cA x1 (0 : Int32) P_wide P_high P_heights P_pinned P_near)) : atX2_stepAtEach_2 X ad cA x1 P_wide P_high P_heights P_pinned P_near := by
  refine g_iload_n C dX2_stepAtEach_2 rfl 1 rfl ?_
  refine g_aload_n C dX2_stepAtEach_3 rfl 0 rfl ?_
  refine g_get C gfX2_stepAtEach_26 0 rfl rfl dX2_stepAtEach_4 ?_
  refine g_icmp_ge (tgt := 49) C dX2_stepAtEach_7 (by decide) (fun c_1 => ?_) (fun c_1 => ?_)
  · replace h := h.1 c_1
    exact g_vret C E (P_heights, P_near) h rfl dX2_stepAtEach_49
  · replace h := h.2 c_1
    refine g_iconst C dX2_stepAtEach_10 ik_0 ?_
    refine g_istore_n (lv2 := [(0, .ref (ad 15)), (1, .int x1), (2, .int (0 : Int32))]) C dX2_stepAtEach_11 rfl (by decide) [1, 2, 0] rfl ?_
    exact g_lv [0, 1, 2] rfl h
set_option maxHeartbeats 4000000 in
set_option maxRecDepth 100000 in
theorem sgX2_stepAtEach_12 {X : gX} {ad : Nat → Nat} {cA : Nat → ClassId} {post : ((Nat → Int32) × (Nat → Int32)) → Prop} {x1 : Int32} {x2 : Int32} {P_wide : Int32} {P_high : Int32} {P_heights : Nat → Int32} {P_pinned : Nat → Int32} {P_near : Nat → Int32} (C : gC X (gT cA) cX2_stepAtEach 3 RX2 wsX2_stepAtEach rmX2_stepAtEach) (E : gEv X none (gT cA) 0 0 post (w1X2_stepAtEach ad cA P_wide P_high P_pinned)) (h : (P_wide ≤ x2 → atX2_stepAtEach_2 X ad cA (x1 + 1) P_wide P_high P_heights P_pinned P_near) ∧ (¬ P_wide ≤ x2 → prX2_stepped x2 x1 P_wide P_high P_heights P_pinned P_near ∧ ∀ (r_5 : Int32) (u5_P_near : Nat → Int32), po_X2_stepped ad cA x2 x1 P_wide P_high P_heights P_pinned P_near r_5 u5_P_near → vp_in (fnX2_at x2 x1 P_wide P_high) 64 ∧ atX2_stepAtEach_12 X ad cA x1 (x2 + 1) P_wide P_high (upd P_heights (fnX2_at x2 x1 P_wide P_high).toNatClampNeg r_5) P_pinned u5_P_near)) : atX2_stepAtEach_12 X ad cA x1 x2 P_wide P_high P_heights P_pinned P_near := by
  refine g_iload_n C dX2_stepAtEach_12 rfl 2 rfl ?_
  refine g_aload_n C dX2_stepAtEach_13 rfl 0 rfl ?_
  refine g_get C gfX2_stepAtEach_22 0 rfl rfl dX2_stepAtEach_14 ?_
  refine g_icmp_ge (tgt := 43) C dX2_stepAtEach_17 (by decide) (fun c_2 => ?_) (fun c_2 => ?_)
  · replace h := h.1 c_2
    refine g_iinc (v := (x1 + 1)) (lv2 := [(0, .ref (ad 15)), (1, .int (x1 + 1)), (2, .int x2)]) C dX2_stepAtEach_43 1 rfl (by first | rfl | decide) (by decide) [1, 0, 2] rfl ?_
    refine g_goto (tgt := 2) C dX2_stepAtEach_46 (by decide) ?_
    exact g_lv [0, 1] rfl h
  · replace h := h.2 c_2
    refine g_aload_n C dX2_stepAtEach_20 rfl 0 rfl ?_
    refine g_get C gfX2_stepAtEach_9 0 rfl rfl dX2_stepAtEach_21 ?_
    refine g_aload_n C dX2_stepAtEach_24 rfl 0 rfl ?_
    refine g_iload_n C dX2_stepAtEach_25 rfl 2 rfl ?_
    refine g_iload_n C dX2_stepAtEach_26 rfl 1 rfl ?_
    refine g_callVi (wr := [((ad 16), .inl (cA 0, 64, .inl P_heights)), ((ad 17), .inl (cA 2, 64, .inl P_pinned)), ((ad 18), .inl (cA 0, 4, .inl P_near))]) C (c_X2_at ad cA x2 x1 P_wide P_high) gX2_stepAtEach_X2_at rfl hde_X2_at ⟨rfl, rfl⟩ (by decide) (by decide) [0] [1, 2, 3] [3, 0, 1, 2] rfl rfl rfl rfl (by decide) rfl (ws2 := fun u => [((ad 15), .inr (2, [.ref (ad 16), .ref (ad 17), .ref (ad 18), .int P_wide, .int P_high])), ((ad 16), .inl (cA 0, 64, .inl P_heights)), ((ad 17), .inl (cA 2, 64, .inl P_pinned)), ((ad 18), .inl (cA 0, 4, .inl P_near))]) (fun _ => rfl) 2 0 rfl rfl rfl (rest := [.ref (ad 16)]) rfl (Nat.le_of_ble_eq_true rfl) dX2_stepAtEach_27 (fun r_3 u_3 hp_3 => ?_)
    subst hp_3
    change gW X 0 0 [((ad 15), .inr (2, [.ref (ad 16), .ref (ad 17), .ref (ad 18), .int P_wide, .int P_high])), ((ad 16), .inl (cA 0, 64, .inl P_heights)), ((ad 17), .inl (cA 2, 64, .inl P_pinned)), ((ad 18), .inl (cA 0, 4, .inl P_near))] 3 [(0, .ref (ad 15)), (1, .int x1), (2, .int x2)] [.int (fnX2_at x2 x1 P_wide P_high), .ref (ad 16)] 30
    refine g_aload_n C dX2_stepAtEach_30 rfl 0 rfl ?_
    refine g_iload_n C dX2_stepAtEach_31 rfl 2 rfl ?_
    refine g_iload_n C dX2_stepAtEach_32 rfl 1 rfl ?_
    obtain ⟨hi_4, h⟩ := h
    refine g_callVi (wr := []) C (c_X2_stepped ad cA x2 x1 P_wide P_high P_heights P_pinned P_near hi_4) gX2_stepAtEach_X2_stepped rfl hde_X2_stepped ⟨rfl, rfl⟩ (by decide) (by decide) [0, 1, 2, 3] [] [0, 1, 2, 3] rfl rfl rfl rfl (by decide) rfl (ws2 := fun u => [((ad 15), .inr (2, [.ref (ad 16), .ref (ad 17), .ref (ad 18), .int P_wide, .int P_high])), ((ad 16), .inl (cA 0, 64, .inl P_heights)), ((ad 17), .inl (cA 2, 64, .inl P_pinned)), ((ad 18), .inl (cA 0, 4, .inl u))]) (fun _ => rfl) 2 0 rfl rfl rfl (rest := [.int (fnX2_at x2 x1 P_wide P_high), .ref (ad 16)]) rfl (Nat.le_of_ble_eq_true rfl) dX2_stepAtEach_33 (fun r_5 u_5 hp_5 => ?_)
    obtain ⟨u5_P_near, rfl⟩ : ∃ z, z = u_5 := ⟨_, rfl⟩
    replace h := h r_5 u5_P_near hp_5
    change gW X 0 0 [((ad 15), .inr (2, [.ref (ad 16), .ref (ad 17), .ref (ad 18), .int P_wide, .int P_high])), ((ad 16), .inl (cA 0, 64, .inl P_heights)), ((ad 17), .inl (cA 2, 64, .inl P_pinned)), ((ad 18), .inl (cA 0, 4, .inl u5_P_near))] 3 [(0, .ref (ad 15)), (1, .int x1), (2, .int x2)] [.int r_5, .int (fnX2_at x2 x1 P_wide P_high), .ref (ad 16)] 36
    obtain ⟨hi_6, h⟩ := h
    refine g_iast (ws2 := [((ad 15), .inr (2, [.ref (ad 16), .ref (ad 17), .ref (ad 18), .int P_wide, .int P_high])), ((ad 16), .inl (cA 0, 64, .inl (upd P_heights (fnX2_at x2 x1 P_wide P_high).toNatClampNeg r_5))), ((ad 17), .inl (cA 2, 64, .inl P_pinned)), ((ad 18), .inl (cA 0, 4, .inl u5_P_near))]) C 1 0 rfl rfl hi_6 rfl dX2_stepAtEach_36 ?_
    refine g_iinc (v := (x2 + 1)) (lv2 := [(0, .ref (ad 15)), (1, .int x1), (2, .int (x2 + 1))]) C dX2_stepAtEach_37 2 rfl (by first | rfl | decide) (by decide) [1, 2, 0] rfl ?_
    refine g_goto (tgt := 12) C dX2_stepAtEach_40 (by decide) ?_
    exact g_lv [0, 1, 2] rfl h
def prX2_stepAtEach (P_wide : Int32) (P_high : Int32) (P_heights : Nat → Int32) (P_pinned : Nat → Int32) (P_near : Nat → Int32) : Prop := netOK P_wide P_high
def po_X2_stepAtEach (ad : Nat → Nat) (cA : Nat → ClassId) (P_wide : Int32) (P_high : Int32) (P_heights : Nat → Int32) (P_pinned : Nat → Int32) (P_near : Nat → Int32) (u : (Nat → Int32) × (Nat → Int32)) : Prop := u.1 = stR P_wide.toNatClampNeg P_high.toNatClampNeg P_pinned P_heights
set_option maxHeartbeats 4000000 in
set_option maxRecDepth 100000 in
theorem c_X2_stepAtEach (ad : Nat → Nat) (cA : Nat → ClassId) (P_wide : Int32) (P_high : Int32) (P_heights : Nat → Int32) (P_pinned : Nat → Int32) (P_near : Nat → Int32) (hq : prX2_stepAtEach P_wide P_high P_heights P_pinned P_near) : ∀ (l : Launch) (D : va_G), gMv (S := (Nat → Int32) × (Nat → Int32)) l yX2_stepAtEach wsX2_stepAtEach rmX2_stepAtEach D (gT cA) 0 0 [.ref (ad 15)] (wcX2_stepAtEach ad cA P_wide P_high P_heights P_pinned P_near) (po_X2_stepAtEach ad cA P_wide P_high P_heights P_pinned P_near) (w1X2_stepAtEach ad cA P_wide P_high P_pinned) := by
  intro l D
  unfold prX2_stepAtEach at hq
  refine g_enterv (cc := cX2_stepAtEach) (nL := 3) (ret := none) (by decide) rfl (Nat.le_of_ble_eq_true rfl) rfl (fun X C E => ?_)
  obtain ⟨w, h, hw2, hw, hh2, hh, rfl, rfl⟩ := hq
  have hpo : ∀ (H u : Nat → Int32), H = stR w h P_pinned P_heights → po_X2_stepAtEach ad cA (nI w) (nI h) P_heights P_pinned P_near (H, u) := fun H u e => by
    unfold po_X2_stepAtEach
    rw [nI_clamp (by omega), nI_clamp (by omega)]; exact e
  refine sgX2_stepAtEach_0 C E ?_
  have outer : ∀ y, y ≤ h → ∀ nr, atX2_stepAtEach_2 X ad cA (nI y) (nI w) (nI h) (stY w h P_pinned y P_heights) P_pinned nr := by
    intro y hy
    refine up_loop (P := fun y => ∀ nr, atX2_stepAtEach_2 X ad cA (nI y) (nI w) (nI h) (stY w h P_pinned y P_heights) P_pinned nr) h ?_ (fun y hy ih nr => ?_) y hy
    · exact fun nr => sgX2_stepAtEach_2 C E ⟨fun _ => hpo _ _ rfl, fun c => absurd (i32_le_refl _) c⟩
    · refine sgX2_stepAtEach_2 C E ⟨fun c => absurd c (nI_ge hy (by omega)), fun _ => ?_⟩
      have inner : ∀ x, x ≤ w → ∀ nr, atX2_stepAtEach_12 X ad cA (nI y) (nI x) (nI w) (nI h) (stX w h P_pinned y x (stY w h P_pinned y P_heights)) P_pinned nr := by
        intro x hx
        refine up_loop (P := fun x => ∀ nr, atX2_stepAtEach_12 X ad cA (nI y) (nI x) (nI w) (nI h) (stX w h P_pinned y x (stY w h P_pinned y P_heights)) P_pinned nr) w ?_ (fun x hx ih2 nr => ?_) x hx
        · refine fun nr => sgX2_stepAtEach_12 C E ⟨fun _ => ?_, fun c => absurd (i32_le_refl _) c⟩
          rw [nI_1]; exact ih nr
        · refine sgX2_stepAtEach_12 C E ⟨fun c => absurd c (nI_ge hx (by omega)), fun _ => ⟨⟨w, h, x, y, hw2, hw, hh2, hh, rfl, rfl, hx, hy, rfl, rfl⟩, fun r u hr => ?_⟩⟩
          unfold po_X2_stepped at hr
          rw [nI_clamp (by omega), nI_clamp (by omega), nI_clamp (by omega), nI_clamp (by omega)] at hr
          rw [at_eq, nI_clamp (by omega)]
          refine ⟨vp_in_nI (by omega) (by decide), ?_⟩
          rw [nI_1, hr]
          exact ih2 u
      exact inner 0 (Nat.zero_le _) nr
  exact outer 0 (Nat.zero_le _) P_near

