theorem bk_m2 : (Int8.ofInt (-2)).toInt32 = (-2 : Int32) := by decide
theorem hde_X4_finds : yX4_finds.cls = RX4 ∧ yX4_finds.cls ≠ "java/lang/invoke/MethodHandle" ∧ yX4_finds.cls ≠ "java/lang/invoke/VarHandle" ∧ (parseMethodDescriptor yX4_finds.desc).map (fun d => d.parameters.length) = some 2 := by decide +kernel
theorem hde_X4_free : yX4_free.cls = RX4 ∧ yX4_free.cls ≠ "java/lang/invoke/MethodHandle" ∧ yX4_free.cls ≠ "java/lang/invoke/VarHandle" ∧ (parseMethodDescriptor yX4_free.desc).map (fun d => d.parameters.length) = some 0 := by decide +kernel
theorem hde_X4_isCell : yX4_isCell.cls = RX4 ∧ yX4_isCell.cls ≠ "java/lang/invoke/MethodHandle" ∧ yX4_isCell.cls ≠ "java/lang/invoke/VarHandle" ∧ (parseMethodDescriptor yX4_isCell.desc).map (fun d => d.parameters.length) = some 1 := by decide +kernel
theorem hde_X4_isPoint : yX4_isPoint.cls = RX4 ∧ yX4_isPoint.cls ≠ "java/lang/invoke/MethodHandle" ∧ yX4_isPoint.cls ≠ "java/lang/invoke/VarHandle" ∧ (parseMethodDescriptor yX4_isPoint.desc).map (fun d => d.parameters.length) = some 2 := by decide +kernel
theorem hde_X4_pins : yX4_pins.cls = RX4 ∧ yX4_pins.cls ≠ "java/lang/invoke/MethodHandle" ∧ yX4_pins.cls ≠ "java/lang/invoke/VarHandle" ∧ (parseMethodDescriptor yX4_pins.desc).map (fun d => d.parameters.length) = some 0 := by decide +kernel
/-! seams, rounds, counts -/
def seam (X Y Z k c d : Nat) : Prop := k < 3 ∧ bxP X Y Z c k + 1 < bxD X Y Z k ∧ d = c + bxS X Y k
def mkC (kd : Nat) : Int64 := if kd = 0 then 1 else if kd = 1 then 11 else 111
def cstR (X Y Z : Nat) (ru : Nat → Int32) (tr : Int64) (kd a b : Nat) (r : Int32) (tr2 : Int64) : Prop := (∀ k c d, ((c = a ∧ d = b) ∨ (c = b ∧ d = a)) → seam X Y Z k c d → r = iI (sc ru kd k (bxP X Y Z c k)) ∧ tr2 = tr + mkC kd) ∧ ((∀ k c d, ((c = a ∧ d = b) ∨ (c = b ∧ d = a)) → ¬ seam X Y Z k c d) → r = -1 ∧ tr2 = tr)
theorem bxS_pos {X Y Z : Nat} (h : dimOK X Y Z) (k : Nat) : 1 ≤ bxS X Y k := by
  obtain ⟨h1, h2, h3, h4, h5, h6, h7⟩ := h
  have : 1 ≤ X * Y := Nat.mul_pos h1 h3
  unfold bxS; (repeat' split) <;> omega
theorem seam_u {X Y Z k k' c d : Nat} (h : dimOK X Y Z) (h1 : seam X Y Z k c d) (h2 : seam X Y Z k' c d) : k = k' := by
  obtain ⟨a1, a2, a3, a4, a5, a6, a7⟩ := h
  obtain ⟨b1, b2, b3⟩ := h1
  obtain ⟨c1, c2, c3⟩ := h2
  have e : bxS X Y k = bxS X Y k' := by omega
  have xy1 : X * Y = 1 → X = 1 := fun q => by
    have : X * 1 ≤ X * Y := Nat.mul_le_mul (Nat.le_refl X) a3
    omega
  have xyX : X * Y = X → Y = 1 := fun q => by
    rcases Nat.lt_or_ge 1 Y with g | g
    · have : X * 2 ≤ X * Y := Nat.mul_le_mul (Nat.le_refl X) g
      omega
    · omega
  rcases (show k = 0 ∨ k = 1 ∨ k = 2 by omega) with rfl | rfl | rfl <;> rcases (show k' = 0 ∨ k' = 1 ∨ k' = 2 by omega) with rfl | rfl | rfl <;> simp [bxS, bxD] at * <;> (try (have := xy1 e.symm; omega)) <;> (try (have := xy1 e; omega)) <;> (try (have := xyX e.symm; omega)) <;> (try (have := xyX e; omega)) <;> (try omega)
def htOK (H : Nat → Int32) : Prop := ∀ j, j < 64 → -100 ≤ (H j).toInt ∧ (H j).toInt ≤ 100
theorem sumI_bd {f : Nat → Int32} {n : Nat} {b : Int} (hb : 0 ≤ b) (hnb : (n : Int) * b ≤ 1000000) (h : ∀ i, i < n → 0 ≤ (f i).toInt ∧ (f i).toInt ≤ b) : 0 ≤ (sumI f n).toInt ∧ (sumI f n).toInt ≤ (n : Int) * b := by
  induction n with
  | zero => simp [sumI]
  | succ n ih =>
    have e : ((n + 1 : Nat) : Int) * b = (n : Int) * b + b := by rw [Int.natCast_add, Int.add_mul]; simp
    rw [e] at hnb ⊢
    have i := ih (by omega) (fun i hi => h i (by omega))
    have q := h n (by omega)
    have s : (sumI f (n + 1)).toInt = (sumI f n).toInt + (f n).toInt := by
      show (sumI f n + f n).toInt = _
      exact toInt_add (by omega) (by omega)
    rw [s]; omega
theorem szI_bd {x y : Int32} (hx : -100 ≤ x.toInt ∧ x.toInt ≤ 100) (hy : -100 ≤ y.toInt ∧ y.toInt ≤ 100) : 0 ≤ (szI (x - y)).toInt ∧ (szI (x - y)).toInt ≤ 200 := by
  have e : (x - y).toInt = x.toInt - y.toInt := toInt_sub (by omega) (by omega)
  unfold szI
  by_cases q : 0 ≤ x - y
  · rw [if_pos q, e]
    rw [Int32.le_iff_toInt_le, e] at q
    have : (0 : Int32).toInt = 0 := rfl
    omega
  · rw [if_neg q]
    rw [Int32.le_iff_toInt_le, e, show (0 : Int32).toInt = 0 from rfl] at q
    have s : (0 - (x - y)).toInt = 0 - (x - y).toInt := toInt_sub (by rw [e]; show -2147483648 ≤ 0 - _; omega) (by rw [e]; show 0 - _ < 2147483648; omega)
    rw [s, e]; omega
theorem chg_nn {w h : Nat} (hw : 2 ≤ w) (hh : 2 ≤ h) (hw8 : w ≤ 8) (hh8 : h ≤ 8) (pin : Nat → Int32) {H : Nat → Int32} (hH : htOK H) : chg w h pin H ≤ 0 ↔ chg w h pin H = 0 := by
  have b : 0 ≤ (chg w h pin H).toInt := by
    have row : ∀ y, y < h → 0 ≤ (sumI (fun x => szI (stp w h pin H x y - H (8 * y + x))) w).toInt ∧ (sumI (fun x => szI (stp w h pin H x y - H (8 * y + x))) w).toInt ≤ 1600 := fun y hy => by
      have := sumI_bd (f := fun x => szI (stp w h pin H x y - H (8 * y + x))) (n := w) (b := 200) (by decide) (by omega) (fun x hx => szI_bd (stp_all (P := fun z => -100 ≤ z.toInt ∧ z.toInt ≤ 100) hw hh hw8 hh8 hx hy pin H hH) (hH _ (by omega)))
      omega
    exact (sumI_bd (f := fun y => sumI (fun x => szI (stp w h pin H x y - H (8 * y + x))) w) (n := h) (b := 1600) (by decide) (by omega) row).1
  rw [Int32.le_iff_toInt_le, show (0 : Int32).toInt = 0 from rfl]
  constructor
  · intro q
    have e : (chg w h pin H).toInt = 0 := by omega
    exact Int32.toInt_inj.mp e
  · intro q; rw [q]; exact Int.le_refl _
theorem stR_ht {w h : Nat} (hw : 2 ≤ w) (hh : 2 ≤ h) (hw8 : w ≤ 8) (hh8 : h ≤ 8) (pin : Nat → Int32) {H : Nat → Int32} (hH : htOK H) : htOK (stR w h pin H) := stY_all (P := fun z => -100 ≤ z.toInt ∧ z.toInt ≤ 100) hw hh hw8 hh8 pin h (Nat.le_refl h) H hH
def rnd (w h : Nat) (pin : Nat → Int32) : Nat → (Nat → Int32) → Nat × (Nat → Int32)
  | 0, H => (0, H)
  | m + 1, H => if chg w h pin H = 0 then (0, H) else ((rnd w h pin m (stR w h pin H)).1 + 1, (rnd w h pin m (stR w h pin H)).2)
theorem rnd_pin {w h : Nat} {p1 p2 : Nat → Int32} (e : pinEq w h p1 p2) : ∀ (m : Nat) (H : Nat → Int32), rnd w h p1 m H = rnd w h p2 m H := by
  intro m
  induction m with
  | zero => intro H; rfl
  | succ m ih => intro H; rw [rnd, rnd, chg_pin e, stR_pin e, ih]
theorem rnd_ht {w h : Nat} (hw : 2 ≤ w) (hh : 2 ≤ h) (hw8 : w ≤ 8) (hh8 : h ≤ 8) (pin : Nat → Int32) : ∀ (m : Nat) (H : Nat → Int32), htOK H → htOK (rnd w h pin m H).2 := by
  intro m
  induction m with
  | zero => intro H hH; exact hH
  | succ m ih =>
    intro H hH
    rw [rnd]
    split
    · exact hH
    · exact ih _ (stR_ht hw hh hw8 hh8 pin hH)
def cntR (sd : Nat → Int32) (fr w h pn ch p : Int32) : Int32 := if p = 0 then sd 0 else if p = 1 then sd 1 else if p = 2 then sd 2 else if p = 3 then fr else if p = 4 then w else if p = 5 then h else if p = 6 then pn else if p = 7 then (if ch = 0 then 1 else 0) else -1
theorem net_iff (p1 p2 : Int32) : netOK p1 p2 ↔ (2 ≤ p1.toInt ∧ p1.toInt ≤ 8) ∧ (2 ≤ p2.toInt ∧ p2.toInt ≤ 8) := by
  constructor
  · rintro ⟨w, h, h1, h2, h3, h4, rfl, rfl⟩
    rw [nI_toInt (by omega), nI_toInt (by omega)]; omega
  · rintro ⟨⟨a1, a2⟩, ⟨b1, b2⟩⟩
    obtain ⟨w, hw, rfl⟩ := i_nat (n := 8) (by omega : 0 ≤ p1.toInt) a2
    obtain ⟨h, hh, rfl⟩ := i_nat (n := 8) (by omega : 0 ≤ p2.toInt) b2
    rw [nI_toInt (by omega)] at a1 b1
    exact ⟨w, h, by omega, hw, by omega, hh, rfl, rfl⟩
theorem lI_div {a : Int} (h1 : -100000 ≤ a) (h2 : a ≤ 100000) : lI (64 * a) / (64 : Int64) = lI a := by
  have e : (64 : Int64) = lI 64 := rfl
  rw [e]
  unfold lI
  rw [← Int64.ofInt_tdiv (by show (-9223372036854775808 : Int) ≤ _; omega) (by show _ ≤ (9223372036854775807 : Int); omega) (by decide) (by decide), Int.mul_tdiv_cancel_left _ (by decide)]
theorem lN_i32 {n : Nat} (h : n < 2 ^ 31) : (lN n).toInt32 = nI n := by
  rw [← Int32.toInt_inj, nI_toInt h]
  show (Int64.ofNat n).toInt32.toInt = _
  rw [Int64.toInt_toInt32, show (Int64.ofNat n).toInt = (n : Int) from pk_lT (n := n) (by omega)]
  exact Int.bmod_eq_of_le (by omega) (by omega)

abbrev w1X4_cost (ad : Nat → Nat) (cA : Nat → ClassId) (M_found : Int64) (M_foundSet : Int64) (M_foundTimes : Int64) (M_w : Int32) (M_h : Int32) (M_sides : Nat → Int32) (M_rules : Nat → Int32) (u : (Int32) × (Int64)) : va_W := [((ad 19), .inr (4, [.int u.1, .long u.2, .ref (ad 20), .ref (ad 21), .ref (ad 22), .ref (ad 23), .ref (ad 24), .ref (ad 25), .ref (ad 26), .ref (ad 27), .ref (ad 28), .ref (ad 29), .ref (ad 30), .ref (ad 31), .long M_found, .long M_foundSet, .long M_foundTimes, .int M_w, .int M_h, .ref (ad 32), .ref (ad 33), .ref (ad 34)])), ((ad 20), .inl (cA 0, 3, .inl M_sides)), ((ad 23), .inl (cA 0, 7, .inl M_rules))]
abbrev wcX4_cost (ad : Nat → Nat) (cA : Nat → ClassId) (M_thrown : Int32) (M_trace : Int64) (M_found : Int64) (M_foundSet : Int64) (M_foundTimes : Int64) (M_w : Int32) (M_h : Int32) (M_sides : Nat → Int32) (M_rules : Nat → Int32) : va_W := [((ad 19), .inr (4, [.int M_thrown, .long M_trace, .ref (ad 20), .ref (ad 21), .ref (ad 22), .ref (ad 23), .ref (ad 24), .ref (ad 25), .ref (ad 26), .ref (ad 27), .ref (ad 28), .ref (ad 29), .ref (ad 30), .ref (ad 31), .long M_found, .long M_foundSet, .long M_foundTimes, .int M_w, .int M_h, .ref (ad 32), .ref (ad 33), .ref (ad 34)])), ((ad 20), .inl (cA 0, 3, .inl M_sides)), ((ad 23), .inl (cA 0, 7, .inl M_rules))]
def rmX4_cost : Room := { frames := 2, cells := 0, slots := 0, locals := 46 }
abbrev atX4_cost_0 (X : gX) (ad : Nat → Nat) (cA : Nat → ClassId) (p1 : Int32) (p2 : Int32) (p3 : Int32) (M_thrown : Int32) (M_trace : Int64) (M_found : Int64) (M_foundSet : Int64) (M_foundTimes : Int64) (M_w : Int32) (M_h : Int32) (M_sides : Nat → Int32) (M_rules : Nat → Int32) : Prop := gW X 0 0 [((ad 19), .inr (4, [.int M_thrown, .long M_trace, .ref (ad 20), .ref (ad 21), .ref (ad 22), .ref (ad 23), .ref (ad 24), .ref (ad 25), .ref (ad 26), .ref (ad 27), .ref (ad 28), .ref (ad 29), .ref (ad 30), .ref (ad 31), .long M_found, .long M_foundSet, .long M_foundTimes, .int M_w, .int M_h, .ref (ad 32), .ref (ad 33), .ref (ad 34)])), ((ad 20), .inl (cA 0, 3, .inl M_sides)), ((ad 23), .inl (cA 0, 7, .inl M_rules))] 7 [(0, .ref (ad 19)), (1, .int p1), (2, .int p2), (3, .int p3)] [] 0
abbrev atX4_cost_62 (X : gX) (ad : Nat → Nat) (cA : Nat → ClassId) (x1 : Int32) (x4 : Int32) (x5 : Int32) (x6 : Int32) (M_thrown : Int32) (M_trace : Int64) (M_found : Int64) (M_foundSet : Int64) (M_foundTimes : Int64) (M_w : Int32) (M_h : Int32) (M_sides : Nat → Int32) (M_rules : Nat → Int32) : Prop := gW X 0 0 [((ad 19), .inr (4, [.int M_thrown, .long M_trace, .ref (ad 20), .ref (ad 21), .ref (ad 22), .ref (ad 23), .ref (ad 24), .ref (ad 25), .ref (ad 26), .ref (ad 27), .ref (ad 28), .ref (ad 29), .ref (ad 30), .ref (ad 31), .long M_found, .long M_foundSet, .long M_foundTimes, .int M_w, .int M_h, .ref (ad 32), .ref (ad 33), .ref (ad 34)])), ((ad 20), .inl (cA 0, 3, .inl M_sides)), ((ad 23), .inl (cA 0, 7, .inl M_rules))] 7 [(0, .ref (ad 19)), (1, .int x1), (4, .int x4), (5, .int x5), (6, .int x6)] [] 62
theorem cnX4_cost_84 : Cond.constantLong RX4 84 (2) ∈ wsX4_cost := by decide +kernel
theorem cnX4_cost_107 : Cond.constantLong RX4 107 (11) ∈ wsX4_cost := by decide +kernel
theorem cnX4_cost_109 : Cond.constantLong RX4 109 (111) ∈ wsX4_cost := by decide +kernel
theorem giX4_cost_X4 : ∀ w ∈ u_ws RX4 TX4 22, w ∈ wsX4_cost := by decide +kernel
theorem gfX4_cost_67 : gF wsX4_cost RX4 67 4 0 RX4 TX4 22 := ⟨giX4_cost_X4, by decide +kernel, rfl, by decide⟩
theorem gfX4_cost_103 : gF wsX4_cost RX4 103 4 1 RX4 TX4 22 := ⟨giX4_cost_X4, by decide +kernel, rfl, by decide⟩
set_option maxHeartbeats 4000000 in
set_option maxRecDepth 100000 in
theorem sgX4_cost_0 {X : gX} {ad : Nat → Nat} {cA : Nat → ClassId} {post : Int32 → ((Int32) × (Int64)) → Prop} {p1 : Int32} {p2 : Int32} {p3 : Int32} {M_thrown : Int32} {M_trace : Int64} {M_found : Int64} {M_foundSet : Int64} {M_foundTimes : Int64} {M_w : Int32} {M_h : Int32} {M_sides : Nat → Int32} {M_rules : Nat → Int32} (C : gC X (gT cA) cX4_cost 7 RX4 wsX4_cost rmX4_cost) (E : gEi X (some .int) (gT cA) 0 0 post (w1X4_cost ad cA M_found M_foundSet M_foundTimes M_w M_h M_sides M_rules)) (h : ((fnX4_in p1.toInt64 (0 : Int64) (2 : Int64)) = false → post (-1 : Int32) ((0 : Int32), M_trace)) ∧ ((fnX4_in p1.toInt64 (0 : Int64) (2 : Int64)) = true → prX4_isCell p2 (0 : Int32) M_trace M_found M_foundSet M_foundTimes M_w M_h M_sides ∧ ((fnX4_isCell p2 (0 : Int32) M_trace M_found M_foundSet M_foundTimes M_w M_h M_sides) = false → post (-1 : Int32) ((0 : Int32), M_trace)) ∧ ((fnX4_isCell p2 (0 : Int32) M_trace M_found M_foundSet M_foundTimes M_w M_h M_sides) = true → prX4_isCell p3 (0 : Int32) M_trace M_found M_foundSet M_foundTimes M_w M_h M_sides ∧ ((fnX4_isCell p3 (0 : Int32) M_trace M_found M_foundSet M_foundTimes M_w M_h M_sides) = true → atX4_cost_62 X ad cA p1 (if p3 ≤ p2 then p3 else p2) (if p3 ≤ p2 then p2 else p3) (0 : Int32) (0 : Int32) M_trace M_found M_foundSet M_foundTimes M_w M_h M_sides M_rules) ∧ ((fnX4_isCell p3 (0 : Int32) M_trace M_found M_foundSet M_foundTimes M_w M_h M_sides) = false → post (-1 : Int32) ((0 : Int32), M_trace))))) : atX4_cost_0 X ad cA p1 p2 p3 M_thrown M_trace M_found M_foundSet M_foundTimes M_w M_h M_sides M_rules := by
  refine g_aload_n C dX4_cost_0 rfl 0 rfl ?_
  refine g_iconst C dX4_cost_1 ik_0 ?_
  refine g_put (ws2 := [((ad 19), .inr (4, [.int (0 : Int32), .long M_trace, .ref (ad 20), .ref (ad 21), .ref (ad 22), .ref (ad 23), .ref (ad 24), .ref (ad 25), .ref (ad 26), .ref (ad 27), .ref (ad 28), .ref (ad 29), .ref (ad 30), .ref (ad 31), .long M_found, .long M_foundSet, .long M_foundTimes, .int M_w, .int M_h, .ref (ad 32), .ref (ad 33), .ref (ad 34)])), ((ad 20), .inl (cA 0, 3, .inl M_sides)), ((ad 23), .inl (cA 0, 7, .inl M_rules))]) C gfX4_cost_67 0 tyX4_ok nmX4 rfl rfl rfl rfl (Nat.le_of_ble_eq_true rfl) rfl dX4_cost_2 ?_
  refine g_iload_n C dX4_cost_5 rfl 1 rfl ?_
  refine g_i2l C dX4_cost_6 ?_
  refine g_lconst C dX4_cost_7 lk_0 ?_
  refine g_ldc2_w C cnX4_cost_84 dX4_cost_8 ?_
  refine g_callSi (b := 0) (wr := [((ad 19), .inr (4, [.int (0 : Int32), .long M_trace, .ref (ad 20), .ref (ad 21), .ref (ad 22), .ref (ad 23), .ref (ad 24), .ref (ad 25), .ref (ad 26), .ref (ad 27), .ref (ad 28), .ref (ad 29), .ref (ad 30), .ref (ad 31), .long M_found, .long M_foundSet, .long M_foundTimes, .int M_w, .int M_h, .ref (ad 32), .ref (ad 33), .ref (ad 34)])), ((ad 20), .inl (cA 0, 3, .inl M_sides)), ((ad 23), .inl (cA 0, 7, .inl M_rules))]) C (c_X4_in ad cA p1.toInt64 (0 : Int64) (2 : Int64)) gX4_cost_X4_in rfl hde_X4_in ⟨rfl, rfl⟩ (by decide) (by decide) [] [0, 1, 2] [0, 1, 2] rfl rfl rfl rfl (by decide) rfl (ws2 := fun u => [((ad 19), .inr (4, [.int (0 : Int32), .long M_trace, .ref (ad 20), .ref (ad 21), .ref (ad 22), .ref (ad 23), .ref (ad 24), .ref (ad 25), .ref (ad 26), .ref (ad 27), .ref (ad 28), .ref (ad 29), .ref (ad 30), .ref (ad 31), .long M_found, .long M_foundSet, .long M_foundTimes, .int M_w, .int M_h, .ref (ad 32), .ref (ad 33), .ref (ad 34)])), ((ad 20), .inl (cA 0, 3, .inl M_sides)), ((ad 23), .inl (cA 0, 7, .inl M_rules))]) (fun _ => rfl) (rest := []) rfl (Nat.le_of_ble_eq_true rfl) dX4_cost_11 (fun r_1 u_1 hp_1 => ?_)
  subst hp_1
  change gW X 0 0 [((ad 19), .inr (4, [.int (0 : Int32), .long M_trace, .ref (ad 20), .ref (ad 21), .ref (ad 22), .ref (ad 23), .ref (ad 24), .ref (ad 25), .ref (ad 26), .ref (ad 27), .ref (ad 28), .ref (ad 29), .ref (ad 30), .ref (ad 31), .long M_found, .long M_foundSet, .long M_foundTimes, .int M_w, .int M_h, .ref (ad 32), .ref (ad 33), .ref (ad 34)])), ((ad 20), .inl (cA 0, 3, .inl M_sides)), ((ad 23), .inl (cA 0, 7, .inl M_rules))] 7 [(0, .ref (ad 19)), (1, .int p1), (2, .int p2), (3, .int p3)] [.int (bI (fnX4_in p1.toInt64 (0 : Int64) (2 : Int64)))] 14
  refine g_ifeq_b (tgt := 33) C dX4_cost_14 (by decide) (fun c_2 => ?_) (fun c_2 => ?_)
  · replace h := h.1 c_2
    refine g_iconst C dX4_cost_33 ik_m1 ?_
    exact g_iret C E ((0 : Int32), M_trace) h rfl dX4_cost_34
  · replace h := h.2 c_2
    refine g_aload_n C dX4_cost_17 rfl 0 rfl ?_
    refine g_iload_n C dX4_cost_18 rfl 2 rfl ?_
    obtain ⟨hi_3, h⟩ := h
    refine g_callVi (wr := [((ad 23), .inl (cA 0, 7, .inl M_rules))]) C (c_X4_isCell ad cA p2 (0 : Int32) M_trace M_found M_foundSet M_foundTimes M_w M_h M_sides hi_3) gX4_cost_X4_isCell rfl hde_X4_isCell ⟨rfl, rfl⟩ (by decide) (by decide) [0, 1] [2] [1, 2, 0] rfl rfl rfl rfl (by decide) rfl (ws2 := fun u => [((ad 19), .inr (4, [.int (0 : Int32), .long M_trace, .ref (ad 20), .ref (ad 21), .ref (ad 22), .ref (ad 23), .ref (ad 24), .ref (ad 25), .ref (ad 26), .ref (ad 27), .ref (ad 28), .ref (ad 29), .ref (ad 30), .ref (ad 31), .long M_found, .long M_foundSet, .long M_foundTimes, .int M_w, .int M_h, .ref (ad 32), .ref (ad 33), .ref (ad 34)])), ((ad 20), .inl (cA 0, 3, .inl M_sides)), ((ad 23), .inl (cA 0, 7, .inl M_rules))]) (fun _ => rfl) 4 0 rfl rfl rfl (rest := []) rfl (Nat.le_of_ble_eq_true rfl) dX4_cost_19 (fun r_4 u_4 hp_4 => ?_)
    subst hp_4
    change gW X 0 0 [((ad 19), .inr (4, [.int (0 : Int32), .long M_trace, .ref (ad 20), .ref (ad 21), .ref (ad 22), .ref (ad 23), .ref (ad 24), .ref (ad 25), .ref (ad 26), .ref (ad 27), .ref (ad 28), .ref (ad 29), .ref (ad 30), .ref (ad 31), .long M_found, .long M_foundSet, .long M_foundTimes, .int M_w, .int M_h, .ref (ad 32), .ref (ad 33), .ref (ad 34)])), ((ad 20), .inl (cA 0, 3, .inl M_sides)), ((ad 23), .inl (cA 0, 7, .inl M_rules))] 7 [(0, .ref (ad 19)), (1, .int p1), (2, .int p2), (3, .int p3)] [.int (bI (fnX4_isCell p2 (0 : Int32) M_trace M_found M_foundSet M_foundTimes M_w M_h M_sides))] 22
    refine g_ifeq_b (tgt := 33) C dX4_cost_22 (by decide) (fun c_5 => ?_) (fun c_5 => ?_)
    · replace h := h.1 c_5
      refine g_iconst C dX4_cost_33 ik_m1 ?_
      exact g_iret C E ((0 : Int32), M_trace) h rfl dX4_cost_34
    · replace h := h.2 c_5
      refine g_aload_n C dX4_cost_25 rfl 0 rfl ?_
      refine g_iload_n C dX4_cost_26 rfl 3 rfl ?_
      obtain ⟨hi_6, h⟩ := h
      refine g_callVi (wr := [((ad 23), .inl (cA 0, 7, .inl M_rules))]) C (c_X4_isCell ad cA p3 (0 : Int32) M_trace M_found M_foundSet M_foundTimes M_w M_h M_sides hi_6) gX4_cost_X4_isCell rfl hde_X4_isCell ⟨rfl, rfl⟩ (by decide) (by decide) [0, 1] [2] [1, 2, 0] rfl rfl rfl rfl (by decide) rfl (ws2 := fun u => [((ad 19), .inr (4, [.int (0 : Int32), .long M_trace, .ref (ad 20), .ref (ad 21), .ref (ad 22), .ref (ad 23), .ref (ad 24), .ref (ad 25), .ref (ad 26), .ref (ad 27), .ref (ad 28), .ref (ad 29), .ref (ad 30), .ref (ad 31), .long M_found, .long M_foundSet, .long M_foundTimes, .int M_w, .int M_h, .ref (ad 32), .ref (ad 33), .ref (ad 34)])), ((ad 20), .inl (cA 0, 3, .inl M_sides)), ((ad 23), .inl (cA 0, 7, .inl M_rules))]) (fun _ => rfl) 4 0 rfl rfl rfl (rest := []) rfl (Nat.le_of_ble_eq_true rfl) dX4_cost_27 (fun r_7 u_7 hp_7 => ?_)
      subst hp_7
      change gW X 0 0 [((ad 19), .inr (4, [.int (0 : Int32), .long M_trace, .ref (ad 20), .ref (ad 21), .ref (ad 22), .ref (ad 23), .ref (ad 24), .ref (ad 25), .ref (ad 26), .ref (ad 27), .ref (ad 28), .ref (ad 29), .ref (ad 30), .ref (ad 31), .long M_found, .long M_foundSet, .long M_foundTimes, .int M_w, .int M_h, .ref (ad 32), .ref (ad 33), .ref (ad 34)])), ((ad 20), .inl (cA 0, 3, .inl M_sides)), ((ad 23), .inl (cA 0, 7, .inl M_rules))] 7 [(0, .ref (ad 19)), (1, .int p1), (2, .int p2), (3, .int p3)] [.int (bI (fnX4_isCell p3 (0 : Int32) M_trace M_found M_foundSet M_foundTimes M_w M_h M_sides))] 30
      refine g_ifne_b (tgt := 35) C dX4_cost_30 (by decide) (fun c_8 => ?_) (fun c_8 => ?_)
      · replace h := h.1 c_8
        refine g_iload_n C dX4_cost_35 rfl 2 rfl ?_
        refine g_iload_n C dX4_cost_36 rfl 3 rfl ?_
        have key : gW X 0 0 [((ad 19), .inr (4, [.int (0 : Int32), .long M_trace, .ref (ad 20), .ref (ad 21), .ref (ad 22), .ref (ad 23), .ref (ad 24), .ref (ad 25), .ref (ad 26), .ref (ad 27), .ref (ad 28), .ref (ad 29), .ref (ad 30), .ref (ad 31), .long M_found, .long M_foundSet, .long M_foundTimes, .int M_w, .int M_h, .ref (ad 32), .ref (ad 33), .ref (ad 34)])), ((ad 20), .inl (cA 0, 3, .inl M_sides)), ((ad 23), .inl (cA 0, 7, .inl M_rules))] 7 [(0, .ref (ad 19)), (1, .int p1), (2, .int p2), (3, .int p3)] [.int (if p3 ≤ p2 then p3 else p2)] 45 := by
          refine g_istore (lv2 := [(0, .ref (ad 19)), (1, .int p1), (2, .int p2), (3, .int p3), (4, .int (if p3 ≤ p2 then p3 else p2))]) C dX4_cost_45 (by decide) [1, 2, 3, 4, 0] rfl ?_
          refine g_iload_n C dX4_cost_47 rfl 2 rfl ?_
          refine g_iload_n C dX4_cost_48 rfl 3 rfl ?_
          have key : gW X 0 0 [((ad 19), .inr (4, [.int (0 : Int32), .long M_trace, .ref (ad 20), .ref (ad 21), .ref (ad 22), .ref (ad 23), .ref (ad 24), .ref (ad 25), .ref (ad 26), .ref (ad 27), .ref (ad 28), .ref (ad 29), .ref (ad 30), .ref (ad 31), .long M_found, .long M_foundSet, .long M_foundTimes, .int M_w, .int M_h, .ref (ad 32), .ref (ad 33), .ref (ad 34)])), ((ad 20), .inl (cA 0, 3, .inl M_sides)), ((ad 23), .inl (cA 0, 7, .inl M_rules))] 7 [(0, .ref (ad 19)), (1, .int p1), (2, .int p2), (3, .int p3), (4, .int (if p3 ≤ p2 then p3 else p2))] [.int (if p3 ≤ p2 then p2 else p3)] 57 := by
            refine g_istore (lv2 := [(0, .ref (ad 19)), (1, .int p1), (2, .int p2), (3, .int p3), (4, .int (if p3 ≤ p2 then p3 else p2)), (5, .int (if p3 ≤ p2 then p2 else p3))]) C dX4_cost_57 (by decide) [1, 2, 3, 4, 5, 0] rfl ?_
            refine g_iconst C dX4_cost_59 ik_0 ?_
            refine g_istore (lv2 := [(0, .ref (ad 19)), (1, .int p1), (2, .int p2), (3, .int p3), (4, .int (if p3 ≤ p2 then p3 else p2)), (5, .int (if p3 ≤ p2 then p2 else p3)), (6, .int (0 : Int32))]) C dX4_cost_60 (by decide) [1, 2, 3, 4, 5, 6, 0] rfl ?_
            exact g_lv [0, 1, 4, 5, 6] rfl h
          refine g_icmp_ge (tgt := 56) C dX4_cost_49 (by decide) (fun c_10 => ?_) (fun c_10 => ?_)
          · refine g_iload_n C dX4_cost_56 rfl 2 rfl ?_
            exact g_leaf (by simp only [if_pos c_10] at key; first | exact key | (simp only [if_pos c_10]; exact key) | exact absurd rfl c_10)
          · refine g_iload_n C dX4_cost_52 rfl 3 rfl ?_
            refine g_goto (tgt := 57) C dX4_cost_53 (by decide) ?_
            exact g_leaf (by simp only [if_neg c_10] at key; first | exact key | (simp only [if_neg c_10]; exact key) | exact absurd rfl c_10)
        refine g_icmp_ge (tgt := 44) C dX4_cost_37 (by decide) (fun c_9 => ?_) (fun c_9 => ?_)
        · refine g_iload_n C dX4_cost_44 rfl 3 rfl ?_
          exact g_leaf (by simp only [if_pos c_9] at key; first | exact key | (simp only [if_pos c_9]; exact key) | exact absurd rfl c_9)
        · refine g_iload_n C dX4_cost_40 rfl 2 rfl ?_
          refine g_goto (tgt := 45) C dX4_cost_41 (by decide) ?_
          exact g_leaf (by simp only [if_neg c_9] at key; first | exact key | (simp only [if_neg c_9]; exact key) | exact absurd rfl c_9)
      · replace h := h.2 c_8
        refine g_iconst C dX4_cost_33 ik_m1 ?_
        exact g_iret C E ((0 : Int32), M_trace) h rfl dX4_cost_34
set_option maxHeartbeats 4000000 in
set_option maxRecDepth 100000 in
theorem sgX4_cost_62 {X : gX} {ad : Nat → Nat} {cA : Nat → ClassId} {post : Int32 → ((Int32) × (Int64)) → Prop} {x1 : Int32} {x4 : Int32} {x5 : Int32} {x6 : Int32} {M_thrown : Int32} {M_trace : Int64} {M_found : Int64} {M_foundSet : Int64} {M_foundTimes : Int64} {M_w : Int32} {M_h : Int32} {M_sides : Nat → Int32} {M_rules : Nat → Int32} (C : gC X (gT cA) cX4_cost 7 RX4 wsX4_cost rmX4_cost) (E : gEi X (some .int) (gT cA) 0 0 post (w1X4_cost ad cA M_found M_foundSet M_foundTimes M_w M_h M_sides M_rules)) (h : ((3 : Int32) ≤ x6 → post (-1 : Int32) (M_thrown, M_trace)) ∧ (¬ (3 : Int32) ≤ x6 → prX4_stride x6 M_thrown M_trace M_found M_foundSet M_foundTimes M_w M_h M_sides ∧ (¬ (x5 - x4) = (fnX4_stride x6 M_thrown M_trace M_found M_foundSet M_foundTimes M_w M_h M_sides) → atX4_cost_62 X ad cA x1 x4 x5 (x6 + 1) M_thrown M_trace M_found M_foundSet M_foundTimes M_w M_h M_sides M_rules) ∧ ((x5 - x4) = (fnX4_stride x6 M_thrown M_trace M_found M_foundSet M_foundTimes M_w M_h M_sides) → prX4_placeOf x4 x6 M_thrown M_trace M_found M_foundSet M_foundTimes M_w M_h M_sides ∧ prX4_placeOf x5 x6 M_thrown M_trace M_found M_foundSet M_foundTimes M_w M_h M_sides ∧ (¬ ((fnX4_placeOf x4 x6 M_thrown M_trace M_found M_foundSet M_foundTimes M_w M_h M_sides) + (1 : Int32)) = (fnX4_placeOf x5 x6 M_thrown M_trace M_found M_foundSet M_foundTimes M_w M_h M_sides) → atX4_cost_62 X ad cA x1 x4 x5 (x6 + 1) M_thrown M_trace M_found M_foundSet M_foundTimes M_w M_h M_sides M_rules) ∧ (((fnX4_placeOf x4 x6 M_thrown M_trace M_found M_foundSet M_foundTimes M_w M_h M_sides) + (1 : Int32)) = (fnX4_placeOf x5 x6 M_thrown M_trace M_found M_foundSet M_foundTimes M_w M_h M_sides) → prX4_placeOf x4 x6 M_thrown (M_trace + (if x1 = 0 then (1 : Int64) else (if x1 = (1 : Int32) then (11 : Int64) else (111 : Int64)))) M_found M_foundSet M_foundTimes M_w M_h M_sides ∧ prX4_faceCost x1 x6 (fnX4_placeOf x4 x6 M_thrown (M_trace + (if x1 = 0 then (1 : Int64) else (if x1 = (1 : Int32) then (11 : Int64) else (111 : Int64)))) M_found M_foundSet M_foundTimes M_w M_h M_sides) M_thrown (M_trace + (if x1 = 0 then (1 : Int64) else (if x1 = (1 : Int32) then (11 : Int64) else (111 : Int64)))) M_found M_foundSet M_foundTimes M_w M_h M_rules ∧ post (fnX4_faceCost x1 x6 (fnX4_placeOf x4 x6 M_thrown (M_trace + (if x1 = 0 then (1 : Int64) else (if x1 = (1 : Int32) then (11 : Int64) else (111 : Int64)))) M_found M_foundSet M_foundTimes M_w M_h M_sides) M_thrown (M_trace + (if x1 = 0 then (1 : Int64) else (if x1 = (1 : Int32) then (11 : Int64) else (111 : Int64)))) M_found M_foundSet M_foundTimes M_w M_h M_rules) (M_thrown, (M_trace + (if x1 = 0 then (1 : Int64) else (if x1 = (1 : Int32) then (11 : Int64) else (111 : Int64))))))))) : atX4_cost_62 X ad cA x1 x4 x5 x6 M_thrown M_trace M_found M_foundSet M_foundTimes M_w M_h M_sides M_rules := by
  refine g_iload C dX4_cost_62 4 rfl ?_
  refine g_iconst C dX4_cost_64 ik_3 ?_
  refine g_icmp_ge (tgt := 156) C dX4_cost_65 (by decide) (fun c_11 => ?_) (fun c_11 => ?_)
  · replace h := h.1 c_11
    refine g_iconst C dX4_cost_156 ik_m1 ?_
    exact g_iret C E (M_thrown, M_trace) h rfl dX4_cost_157
  · replace h := h.2 c_11
    refine g_iload C dX4_cost_68 3 rfl ?_
    refine g_iload C dX4_cost_70 2 rfl ?_
    refine g_isub C dX4_cost_72 ?_
    refine g_aload_n C dX4_cost_73 rfl 0 rfl ?_
    refine g_iload C dX4_cost_74 4 rfl ?_
    obtain ⟨hi_12, h⟩ := h
    refine g_callVi (wr := [((ad 23), .inl (cA 0, 7, .inl M_rules))]) C (c_X4_stride ad cA x6 M_thrown M_trace M_found M_foundSet M_foundTimes M_w M_h M_sides hi_12) gX4_cost_X4_stride rfl hde_X4_stride ⟨rfl, rfl⟩ (by decide) (by decide) [0, 1] [2] [1, 2, 0] rfl rfl rfl rfl (by decide) rfl (ws2 := fun u => [((ad 19), .inr (4, [.int M_thrown, .long M_trace, .ref (ad 20), .ref (ad 21), .ref (ad 22), .ref (ad 23), .ref (ad 24), .ref (ad 25), .ref (ad 26), .ref (ad 27), .ref (ad 28), .ref (ad 29), .ref (ad 30), .ref (ad 31), .long M_found, .long M_foundSet, .long M_foundTimes, .int M_w, .int M_h, .ref (ad 32), .ref (ad 33), .ref (ad 34)])), ((ad 20), .inl (cA 0, 3, .inl M_sides)), ((ad 23), .inl (cA 0, 7, .inl M_rules))]) (fun _ => rfl) 4 0 rfl rfl rfl (rest := [.int (x5 - x4)]) rfl (Nat.le_of_ble_eq_true rfl) dX4_cost_76 (fun r_13 u_13 hp_13 => ?_)
    subst hp_13
    change gW X 0 0 [((ad 19), .inr (4, [.int M_thrown, .long M_trace, .ref (ad 20), .ref (ad 21), .ref (ad 22), .ref (ad 23), .ref (ad 24), .ref (ad 25), .ref (ad 26), .ref (ad 27), .ref (ad 28), .ref (ad 29), .ref (ad 30), .ref (ad 31), .long M_found, .long M_foundSet, .long M_foundTimes, .int M_w, .int M_h, .ref (ad 32), .ref (ad 33), .ref (ad 34)])), ((ad 20), .inl (cA 0, 3, .inl M_sides)), ((ad 23), .inl (cA 0, 7, .inl M_rules))] 7 [(0, .ref (ad 19)), (1, .int x1), (4, .int x4), (5, .int x5), (6, .int x6)] [.int (fnX4_stride x6 M_thrown M_trace M_found M_foundSet M_foundTimes M_w M_h M_sides), .int (x5 - x4)] 79
    refine g_icmp_ne (tgt := 150) C dX4_cost_79 (by decide) (fun c_14 => ?_) (fun c_14 => ?_)
    · replace h := h.1 c_14
      refine g_iinc (v := (x6 + 1)) (lv2 := [(0, .ref (ad 19)), (1, .int x1), (4, .int x4), (5, .int x5), (6, .int (x6 + 1))]) C dX4_cost_150 4 rfl (by first | rfl | decide) (by decide) [1, 2, 3, 4, 0] rfl ?_
      refine g_goto (tgt := 62) C dX4_cost_153 (by decide) ?_
      exact g_lv [0, 1, 2, 3, 4] rfl h
    · replace h := h.2 c_14
      refine g_aload_n C dX4_cost_82 rfl 0 rfl ?_
      refine g_iload C dX4_cost_83 2 rfl ?_
      refine g_iload C dX4_cost_85 4 rfl ?_
      obtain ⟨hi_15, h⟩ := h
      refine g_callVi (wr := [((ad 23), .inl (cA 0, 7, .inl M_rules))]) C (c_X4_placeOf ad cA x4 x6 M_thrown M_trace M_found M_foundSet M_foundTimes M_w M_h M_sides hi_15) gX4_cost_X4_placeOf rfl hde_X4_placeOf ⟨rfl, rfl⟩ (by decide) (by decide) [0, 1] [2] [1, 2, 0] rfl rfl rfl rfl (by decide) rfl (ws2 := fun u => [((ad 19), .inr (4, [.int M_thrown, .long M_trace, .ref (ad 20), .ref (ad 21), .ref (ad 22), .ref (ad 23), .ref (ad 24), .ref (ad 25), .ref (ad 26), .ref (ad 27), .ref (ad 28), .ref (ad 29), .ref (ad 30), .ref (ad 31), .long M_found, .long M_foundSet, .long M_foundTimes, .int M_w, .int M_h, .ref (ad 32), .ref (ad 33), .ref (ad 34)])), ((ad 20), .inl (cA 0, 3, .inl M_sides)), ((ad 23), .inl (cA 0, 7, .inl M_rules))]) (fun _ => rfl) 4 0 rfl rfl rfl (rest := []) rfl (Nat.le_of_ble_eq_true rfl) dX4_cost_87 (fun r_16 u_16 hp_16 => ?_)
      subst hp_16
      change gW X 0 0 [((ad 19), .inr (4, [.int M_thrown, .long M_trace, .ref (ad 20), .ref (ad 21), .ref (ad 22), .ref (ad 23), .ref (ad 24), .ref (ad 25), .ref (ad 26), .ref (ad 27), .ref (ad 28), .ref (ad 29), .ref (ad 30), .ref (ad 31), .long M_found, .long M_foundSet, .long M_foundTimes, .int M_w, .int M_h, .ref (ad 32), .ref (ad 33), .ref (ad 34)])), ((ad 20), .inl (cA 0, 3, .inl M_sides)), ((ad 23), .inl (cA 0, 7, .inl M_rules))] 7 [(0, .ref (ad 19)), (1, .int x1), (4, .int x4), (5, .int x5), (6, .int x6)] [.int (fnX4_placeOf x4 x6 M_thrown M_trace M_found M_foundSet M_foundTimes M_w M_h M_sides)] 90
      refine g_iconst C dX4_cost_90 ik_1 ?_
      refine g_iadd C dX4_cost_91 ?_
      refine g_aload_n C dX4_cost_92 rfl 0 rfl ?_
      refine g_iload C dX4_cost_93 3 rfl ?_
      refine g_iload C dX4_cost_95 4 rfl ?_
      obtain ⟨hi_17, h⟩ := h
      refine g_callVi (wr := [((ad 23), .inl (cA 0, 7, .inl M_rules))]) C (c_X4_placeOf ad cA x5 x6 M_thrown M_trace M_found M_foundSet M_foundTimes M_w M_h M_sides hi_17) gX4_cost_X4_placeOf rfl hde_X4_placeOf ⟨rfl, rfl⟩ (by decide) (by decide) [0, 1] [2] [1, 2, 0] rfl rfl rfl rfl (by decide) rfl (ws2 := fun u => [((ad 19), .inr (4, [.int M_thrown, .long M_trace, .ref (ad 20), .ref (ad 21), .ref (ad 22), .ref (ad 23), .ref (ad 24), .ref (ad 25), .ref (ad 26), .ref (ad 27), .ref (ad 28), .ref (ad 29), .ref (ad 30), .ref (ad 31), .long M_found, .long M_foundSet, .long M_foundTimes, .int M_w, .int M_h, .ref (ad 32), .ref (ad 33), .ref (ad 34)])), ((ad 20), .inl (cA 0, 3, .inl M_sides)), ((ad 23), .inl (cA 0, 7, .inl M_rules))]) (fun _ => rfl) 4 0 rfl rfl rfl (rest := [.int ((fnX4_placeOf x4 x6 M_thrown M_trace M_found M_foundSet M_foundTimes M_w M_h M_sides) + (1 : Int32))]) rfl (Nat.le_of_ble_eq_true rfl) dX4_cost_97 (fun r_18 u_18 hp_18 => ?_)
      subst hp_18
      change gW X 0 0 [((ad 19), .inr (4, [.int M_thrown, .long M_trace, .ref (ad 20), .ref (ad 21), .ref (ad 22), .ref (ad 23), .ref (ad 24), .ref (ad 25), .ref (ad 26), .ref (ad 27), .ref (ad 28), .ref (ad 29), .ref (ad 30), .ref (ad 31), .long M_found, .long M_foundSet, .long M_foundTimes, .int M_w, .int M_h, .ref (ad 32), .ref (ad 33), .ref (ad 34)])), ((ad 20), .inl (cA 0, 3, .inl M_sides)), ((ad 23), .inl (cA 0, 7, .inl M_rules))] 7 [(0, .ref (ad 19)), (1, .int x1), (4, .int x4), (5, .int x5), (6, .int x6)] [.int (fnX4_placeOf x5 x6 M_thrown M_trace M_found M_foundSet M_foundTimes M_w M_h M_sides), .int ((fnX4_placeOf x4 x6 M_thrown M_trace M_found M_foundSet M_foundTimes M_w M_h M_sides) + (1 : Int32))] 100
      refine g_icmp_ne (tgt := 150) C dX4_cost_100 (by decide) (fun c_19 => ?_) (fun c_19 => ?_)
      · replace h := h.1 c_19
        refine g_iinc (v := (x6 + 1)) (lv2 := [(0, .ref (ad 19)), (1, .int x1), (4, .int x4), (5, .int x5), (6, .int (x6 + 1))]) C dX4_cost_150 4 rfl (by first | rfl | decide) (by decide) [1, 2, 3, 4, 0] rfl ?_
        refine g_goto (tgt := 62) C dX4_cost_153 (by decide) ?_
        exact g_lv [0, 1, 2, 3, 4] rfl h
      · replace h := h.2 c_19
        refine g_aload_n C dX4_cost_103 rfl 0 rfl ?_
        refine g_dup C dX4_cost_104 rfl ?_
        refine g_get C gfX4_cost_103 0 rfl rfl dX4_cost_105 ?_
        refine g_iload_n C dX4_cost_108 rfl 1 rfl ?_
        have key : gW X 0 0 [((ad 19), .inr (4, [.int M_thrown, .long M_trace, .ref (ad 20), .ref (ad 21), .ref (ad 22), .ref (ad 23), .ref (ad 24), .ref (ad 25), .ref (ad 26), .ref (ad 27), .ref (ad 28), .ref (ad 29), .ref (ad 30), .ref (ad 31), .long M_found, .long M_foundSet, .long M_foundTimes, .int M_w, .int M_h, .ref (ad 32), .ref (ad 33), .ref (ad 34)])), ((ad 20), .inl (cA 0, 3, .inl M_sides)), ((ad 23), .inl (cA 0, 7, .inl M_rules))] 7 [(0, .ref (ad 19)), (1, .int x1), (4, .int x4), (5, .int x5), (6, .int x6)] [.long (if x1 = 0 then (1 : Int64) else (if x1 = (1 : Int32) then (11 : Int64) else (111 : Int64))), .long M_trace, .ref (ad 19)] 130 := by
          refine g_ladd C dX4_cost_130 ?_
          refine g_put (ws2 := [((ad 19), .inr (4, [.int M_thrown, .long (M_trace + (if x1 = 0 then (1 : Int64) else (if x1 = (1 : Int32) then (11 : Int64) else (111 : Int64)))), .ref (ad 20), .ref (ad 21), .ref (ad 22), .ref (ad 23), .ref (ad 24), .ref (ad 25), .ref (ad 26), .ref (ad 27), .ref (ad 28), .ref (ad 29), .ref (ad 30), .ref (ad 31), .long M_found, .long M_foundSet, .long M_foundTimes, .int M_w, .int M_h, .ref (ad 32), .ref (ad 33), .ref (ad 34)])), ((ad 20), .inl (cA 0, 3, .inl M_sides)), ((ad 23), .inl (cA 0, 7, .inl M_rules))]) C gfX4_cost_103 0 tyX4_ok nmX4 rfl rfl rfl rfl (Nat.le_of_ble_eq_true rfl) rfl dX4_cost_131 ?_
          refine g_aload_n C dX4_cost_134 rfl 0 rfl ?_
          refine g_iload_n C dX4_cost_135 rfl 1 rfl ?_
          refine g_iload C dX4_cost_136 4 rfl ?_
          refine g_aload_n C dX4_cost_138 rfl 0 rfl ?_
          refine g_iload C dX4_cost_139 2 rfl ?_
          refine g_iload C dX4_cost_141 4 rfl ?_
          obtain ⟨hi_22, h⟩ := h
          refine g_callVi (wr := [((ad 23), .inl (cA 0, 7, .inl M_rules))]) C (c_X4_placeOf ad cA x4 x6 M_thrown (M_trace + (if x1 = 0 then (1 : Int64) else (if x1 = (1 : Int32) then (11 : Int64) else (111 : Int64)))) M_found M_foundSet M_foundTimes M_w M_h M_sides hi_22) gX4_cost_X4_placeOf rfl hde_X4_placeOf ⟨rfl, rfl⟩ (by decide) (by decide) [0, 1] [2] [1, 2, 0] rfl rfl rfl rfl (by decide) rfl (ws2 := fun u => [((ad 19), .inr (4, [.int M_thrown, .long (M_trace + (if x1 = 0 then (1 : Int64) else (if x1 = (1 : Int32) then (11 : Int64) else (111 : Int64)))), .ref (ad 20), .ref (ad 21), .ref (ad 22), .ref (ad 23), .ref (ad 24), .ref (ad 25), .ref (ad 26), .ref (ad 27), .ref (ad 28), .ref (ad 29), .ref (ad 30), .ref (ad 31), .long M_found, .long M_foundSet, .long M_foundTimes, .int M_w, .int M_h, .ref (ad 32), .ref (ad 33), .ref (ad 34)])), ((ad 20), .inl (cA 0, 3, .inl M_sides)), ((ad 23), .inl (cA 0, 7, .inl M_rules))]) (fun _ => rfl) 4 0 rfl rfl rfl (rest := [.int x6, .int x1, .ref (ad 19)]) rfl (Nat.le_of_ble_eq_true rfl) dX4_cost_143 (fun r_23 u_23 hp_23 => ?_)
          subst hp_23
          change gW X 0 0 [((ad 19), .inr (4, [.int M_thrown, .long (M_trace + (if x1 = 0 then (1 : Int64) else (if x1 = (1 : Int32) then (11 : Int64) else (111 : Int64)))), .ref (ad 20), .ref (ad 21), .ref (ad 22), .ref (ad 23), .ref (ad 24), .ref (ad 25), .ref (ad 26), .ref (ad 27), .ref (ad 28), .ref (ad 29), .ref (ad 30), .ref (ad 31), .long M_found, .long M_foundSet, .long M_foundTimes, .int M_w, .int M_h, .ref (ad 32), .ref (ad 33), .ref (ad 34)])), ((ad 20), .inl (cA 0, 3, .inl M_sides)), ((ad 23), .inl (cA 0, 7, .inl M_rules))] 7 [(0, .ref (ad 19)), (1, .int x1), (4, .int x4), (5, .int x5), (6, .int x6)] [.int (fnX4_placeOf x4 x6 M_thrown (M_trace + (if x1 = 0 then (1 : Int64) else (if x1 = (1 : Int32) then (11 : Int64) else (111 : Int64)))) M_found M_foundSet M_foundTimes M_w M_h M_sides), .int x6, .int x1, .ref (ad 19)] 146
          obtain ⟨hi_24, h⟩ := h
          refine g_callVi (wr := [((ad 20), .inl (cA 0, 3, .inl M_sides))]) C (c_X4_faceCost ad cA x1 x6 (fnX4_placeOf x4 x6 M_thrown (M_trace + (if x1 = 0 then (1 : Int64) else (if x1 = (1 : Int32) then (11 : Int64) else (111 : Int64)))) M_found M_foundSet M_foundTimes M_w M_h M_sides) M_thrown (M_trace + (if x1 = 0 then (1 : Int64) else (if x1 = (1 : Int32) then (11 : Int64) else (111 : Int64)))) M_found M_foundSet M_foundTimes M_w M_h M_rules hi_24) gX4_cost_X4_faceCost rfl hde_X4_faceCost ⟨rfl, rfl⟩ (by decide) (by decide) [0, 2] [1] [1, 0, 2] rfl rfl rfl rfl (by decide) rfl (ws2 := fun u => [((ad 19), .inr (4, [.int M_thrown, .long (M_trace + (if x1 = 0 then (1 : Int64) else (if x1 = (1 : Int32) then (11 : Int64) else (111 : Int64)))), .ref (ad 20), .ref (ad 21), .ref (ad 22), .ref (ad 23), .ref (ad 24), .ref (ad 25), .ref (ad 26), .ref (ad 27), .ref (ad 28), .ref (ad 29), .ref (ad 30), .ref (ad 31), .long M_found, .long M_foundSet, .long M_foundTimes, .int M_w, .int M_h, .ref (ad 32), .ref (ad 33), .ref (ad 34)])), ((ad 20), .inl (cA 0, 3, .inl M_sides)), ((ad 23), .inl (cA 0, 7, .inl M_rules))]) (fun _ => rfl) 4 0 rfl rfl rfl (rest := []) rfl (Nat.le_of_ble_eq_true rfl) dX4_cost_146 (fun r_25 u_25 hp_25 => ?_)
          subst hp_25
          change gW X 0 0 [((ad 19), .inr (4, [.int M_thrown, .long (M_trace + (if x1 = 0 then (1 : Int64) else (if x1 = (1 : Int32) then (11 : Int64) else (111 : Int64)))), .ref (ad 20), .ref (ad 21), .ref (ad 22), .ref (ad 23), .ref (ad 24), .ref (ad 25), .ref (ad 26), .ref (ad 27), .ref (ad 28), .ref (ad 29), .ref (ad 30), .ref (ad 31), .long M_found, .long M_foundSet, .long M_foundTimes, .int M_w, .int M_h, .ref (ad 32), .ref (ad 33), .ref (ad 34)])), ((ad 20), .inl (cA 0, 3, .inl M_sides)), ((ad 23), .inl (cA 0, 7, .inl M_rules))] 7 [(0, .ref (ad 19)), (1, .int x1), (4, .int x4), (5, .int x5), (6, .int x6)] [.int (fnX4_faceCost x1 x6 (fnX4_placeOf x4 x6 M_thrown (M_trace + (if x1 = 0 then (1 : Int64) else (if x1 = (1 : Int32) then (11 : Int64) else (111 : Int64)))) M_found M_foundSet M_foundTimes M_w M_h M_sides) M_thrown (M_trace + (if x1 = 0 then (1 : Int64) else (if x1 = (1 : Int32) then (11 : Int64) else (111 : Int64)))) M_found M_foundSet M_foundTimes M_w M_h M_rules)] 149
          exact g_iret C E (M_thrown, (M_trace + (if x1 = 0 then (1 : Int64) else (if x1 = (1 : Int32) then (11 : Int64) else (111 : Int64))))) h rfl dX4_cost_149
        refine g_if_ne (tgt := 116) C dX4_cost_109 (by decide) (fun c_20 => ?_) (fun c_20 => ?_)
        · refine g_iload_n C dX4_cost_116 rfl 1 rfl ?_
          refine g_iconst C dX4_cost_117 ik_1 ?_
          have key : gW X 0 0 [((ad 19), .inr (4, [.int M_thrown, .long M_trace, .ref (ad 20), .ref (ad 21), .ref (ad 22), .ref (ad 23), .ref (ad 24), .ref (ad 25), .ref (ad 26), .ref (ad 27), .ref (ad 28), .ref (ad 29), .ref (ad 30), .ref (ad 31), .long M_found, .long M_foundSet, .long M_foundTimes, .int M_w, .int M_h, .ref (ad 32), .ref (ad 33), .ref (ad 34)])), ((ad 20), .inl (cA 0, 3, .inl M_sides)), ((ad 23), .inl (cA 0, 7, .inl M_rules))] 7 [(0, .ref (ad 19)), (1, .int x1), (4, .int x4), (5, .int x5), (6, .int x6)] [.long (if x1 = (1 : Int32) then (11 : Int64) else (111 : Int64)), .long M_trace, .ref (ad 19)] 130 := by
            exact g_leaf (by simp only [if_neg c_20] at key; first | exact key | (simp only [if_neg c_20]; exact key) | exact absurd rfl c_20)
          refine g_icmp_ne (tgt := 127) C dX4_cost_118 (by decide) (fun c_21 => ?_) (fun c_21 => ?_)
          · refine g_ldc2_w C cnX4_cost_109 dX4_cost_127 ?_
            exact g_leaf (by simp only [if_neg c_21] at key; first | exact key | (simp only [if_neg c_21]; exact key) | exact absurd rfl c_21)
          · refine g_ldc2_w C cnX4_cost_107 dX4_cost_121 ?_
            refine g_goto (tgt := 130) C dX4_cost_124 (by decide) ?_
            exact g_leaf (by simp only [if_pos c_21] at key; first | exact key | (simp only [if_pos c_21]; exact key) | exact absurd rfl c_21)
        · refine g_lconst C dX4_cost_112 lk_1 ?_
          refine g_goto (tgt := 130) C dX4_cost_113 (by decide) ?_
          exact g_leaf (by simp only [if_pos c_20] at key; first | exact key | (simp only [if_pos c_20]; exact key) | exact absurd rfl c_20)
def prX4_cost (dx : Nat) (dy : Nat) (dz : Nat) (p1 : Int32) (p2 : Int32) (p3 : Int32) (M_thrown : Int32) (M_trace : Int64) (M_found : Int64) (M_foundSet : Int64) (M_foundTimes : Int64) (M_w : Int32) (M_h : Int32) (M_sides : Nat → Int32) (M_rules : Nat → Int32) : Prop := dimOK dx dy dz ∧ sdOK M_sides dx dy dz ∧ ruOK M_rules
def po_X4_cost (ad : Nat → Nat) (cA : Nat → ClassId) (dx : Nat) (dy : Nat) (dz : Nat) (p1 : Int32) (p2 : Int32) (p3 : Int32) (M_thrown : Int32) (M_trace : Int64) (M_found : Int64) (M_foundSet : Int64) (M_foundTimes : Int64) (M_w : Int32) (M_h : Int32) (M_sides : Nat → Int32) (M_rules : Nat → Int32) (r : Int32) (u : (Int32) × (Int64)) : Prop := (∀ kd a b, kd ≤ 2 → a < dx * dy * dz → b < dx * dy * dz → p1 = nI kd → p2 = nI a → p3 = nI b → cstR dx dy dz M_rules M_trace kd a b r u.2) ∧ (¬ ((0 ≤ p1.toInt ∧ p1.toInt ≤ 2) ∧ (0 ≤ p2.toInt ∧ p2.toInt < (dx * dy * dz : Nat)) ∧ (0 ≤ p3.toInt ∧ p3.toInt < (dx * dy * dz : Nat))) → r = -1 ∧ u.2 = M_trace)
set_option maxHeartbeats 4000000 in
set_option maxRecDepth 100000 in
theorem c_X4_cost (ad : Nat → Nat) (cA : Nat → ClassId) (dx : Nat) (dy : Nat) (dz : Nat) (p1 : Int32) (p2 : Int32) (p3 : Int32) (M_thrown : Int32) (M_trace : Int64) (M_found : Int64) (M_foundSet : Int64) (M_foundTimes : Int64) (M_w : Int32) (M_h : Int32) (M_sides : Nat → Int32) (M_rules : Nat → Int32) (hq : prX4_cost dx dy dz p1 p2 p3 M_thrown M_trace M_found M_foundSet M_foundTimes M_w M_h M_sides M_rules) : ∀ (l : Launch) (D : va_G), gMi (S := (Int32) × (Int64)) l yX4_cost wsX4_cost rmX4_cost D (gT cA) 0 0 [.ref (ad 19), .int p1, .int p2, .int p3] (wcX4_cost ad cA M_thrown M_trace M_found M_foundSet M_foundTimes M_w M_h M_sides M_rules) (po_X4_cost ad cA dx dy dz p1 p2 p3 M_thrown M_trace M_found M_foundSet M_foundTimes M_w M_h M_sides M_rules) (w1X4_cost ad cA M_found M_foundSet M_foundTimes M_w M_h M_sides M_rules) := by
  intro l D
  unfold prX4_cost at hq
  refine g_enteri (cc := cX4_cost) (nL := 7) (ret := (some .int)) (by decide) rfl (Nat.le_of_ble_eq_true rfl) rfl (fun X C E => ?_)
  obtain ⟨hd, hs, hr⟩ := hq
  have hV := hd.2.2.2.2.2.2
  refine sgX4_cost_0 C E ?_
  obtain ⟨i1, i2⟩ := isCell4_eq (M_thrown := 0) (M_trace := M_trace) (M_found := M_found) (M_foundSet := M_foundSet) (M_foundTimes := M_foundTimes) (M_w := M_w) (M_h := M_h) hd hs p2
  obtain ⟨j1, j2⟩ := isCell4_eq (M_thrown := 0) (M_trace := M_trace) (M_found := M_found) (M_foundSet := M_foundSet) (M_foundTimes := M_foundTimes) (M_w := M_w) (M_h := M_h) hd hs p3
  rw [i1, j1]
  have no : ∀ (q : ¬ ((0 ≤ p1.toInt ∧ p1.toInt ≤ 2) ∧ (0 ≤ p2.toInt ∧ p2.toInt < (dx * dy * dz : Nat)) ∧ (0 ≤ p3.toInt ∧ p3.toInt < (dx * dy * dz : Nat)))), po_X4_cost ad cA dx dy dz p1 p2 p3 M_thrown M_trace M_found M_foundSet M_foundTimes M_w M_h M_sides M_rules (-1) (0, M_trace) := fun q => by
    refine ⟨fun kd a b h1 h2 h3 e1 e2 e3 => absurd ?_ q, fun _ => ⟨rfl, rfl⟩⟩
    rw [e1, e2, e3, nI_toInt (by omega), nI_toInt (by omega), nI_toInt (by omega)]; omega
  refine ⟨fun c => no (fun q => in_f c q.1), fun c1 => ⟨i2, fun c => no (fun q => of_decide_eq_false c q.2.1), fun c2 => ⟨j2, fun c3 => ?_, fun c => no (fun q => of_decide_eq_false c q.2.2)⟩⟩⟩
  have g1 := in_t c1
  have g2 := of_decide_eq_true c2
  have g3 := of_decide_eq_true c3
  have g1' : 0 ≤ p1.toInt ∧ p1.toInt ≤ 2 := g1
  obtain ⟨kd, hkd, rfl⟩ := i_nat (n := 2) g1'.1 g1'.2
  obtain ⟨a, ha, rfl⟩ := i_nat (n := dx * dy * dz - 1) g2.1 (by omega)
  obtain ⟨b, hb, rfl⟩ := i_nat (n := dx * dy * dz - 1) g3.1 (by omega)
  have hp := dim_pos hd
  have ha' : a < dx * dy * dz := by omega
  have hb' : b < dx * dy * dz := by omega
  have yes : ∀ r t, cstR dx dy dz M_rules M_trace kd a b r t → po_X4_cost ad cA dx dy dz (nI kd) (nI a) (nI b) M_thrown M_trace M_found M_foundSet M_foundTimes M_w M_h M_sides M_rules r (0, t) := fun r t h => by
    refine ⟨fun kd' a' b' h1 h2 h3 e1 e2 e3 => ?_, fun q => absurd ⟨g1', g2, g3⟩ q⟩
    rw [nI_eq (by omega) (by omega)] at e1 e2 e3
    subst e1; subst e2; subst e3; exact h
  clear no i1 i2 j1 j2 c1 c2 c3 g1
  have go : ∀ lo hi, lo < dx * dy * dz → hi < dx * dy * dz → lo ≤ hi → ((lo = a ∧ hi = b) ∨ (lo = b ∧ hi = a)) → atX4_cost_62 X ad cA (nI kd) (nI lo) (nI hi) 0 0 M_trace M_found M_foundSet M_foundTimes M_w M_h M_sides M_rules := by
    intro lo hi hlo hhi hle hab
    have only : ∀ k c d, ((c = a ∧ d = b) ∨ (c = b ∧ d = a)) → seam dx dy dz k c d → c = lo ∧ d = hi := fun k c d h hsm => by
      have := bxS_pos hd k
      obtain ⟨_, _, e⟩ := hsm
      omega
    have loop : ∀ k, k ≤ 3 → (∀ k', k' < k → ¬ seam dx dy dz k' lo hi) → atX4_cost_62 X ad cA (nI kd) (nI lo) (nI hi) (nI k) 0 M_trace M_found M_foundSet M_foundTimes M_w M_h M_sides M_rules := by
      intro k hk'
      refine up_loop (P := fun k => (∀ k', k' < k → ¬ seam dx dy dz k' lo hi) → atX4_cost_62 X ad cA (nI kd) (nI lo) (nI hi) (nI k) 0 M_trace M_found M_foundSet M_foundTimes M_w M_h M_sides M_rules) 3 ?_ (fun k hk ih => ?_) k hk'
      · intro none
        refine sgX4_cost_62 C E ⟨fun _ => yes _ _ ⟨fun k c d h hsm => ?_, fun _ => ⟨rfl, rfl⟩⟩, fun c => absurd (i32_le_refl _) c⟩
        obtain ⟨e1, e2⟩ := only k c d h hsm
        subst e1; subst e2
        exact absurd hsm (none k hsm.1)
      · intro none
        obtain ⟨q1, q2⟩ := stride_eq (M_thrown := 0) (M_trace := M_trace) (M_found := M_found) (M_foundSet := M_foundSet) (M_foundTimes := M_foundTimes) (M_w := M_w) (M_h := M_h) hs hk
        obtain ⟨l1, l2⟩ := place_eq (M_thrown := 0) (M_trace := M_trace) (M_found := M_found) (M_foundSet := M_foundSet) (M_foundTimes := M_foundTimes) (M_w := M_w) (M_h := M_h) hd hs hlo hk
        obtain ⟨h1, h2⟩ := place_eq (M_thrown := 0) (M_trace := M_trace) (M_found := M_found) (M_foundSet := M_foundSet) (M_foundTimes := M_foundTimes) (M_w := M_w) (M_h := M_h) hd hs hhi hk
        obtain ⟨m1, m2⟩ := place_eq (M_thrown := 0) (M_trace := M_trace + (if nI kd = 0 then (1 : Int64) else (if nI kd = 1 then (11 : Int64) else (111 : Int64)))) (M_found := M_found) (M_foundSet := M_foundSet) (M_foundTimes := M_foundTimes) (M_w := M_w) (M_h := M_h) hd hs hlo hk
        obtain ⟨f1, f2, f3⟩ := geo_f hd hlo hk
        have f4 := (geo_f hd hhi hk).1
        have bs := bxS_le hd k
        obtain ⟨y1, y2⟩ := face_eq (M_thrown := 0) (M_trace := M_trace + (if nI kd = 0 then (1 : Int64) else (if nI kd = 1 then (11 : Int64) else (111 : Int64)))) (M_found := M_found) (M_foundSet := M_foundSet) (M_foundTimes := M_foundTimes) (M_w := M_w) (M_h := M_h) hr hkd hk f1
        have sm : seam dx dy dz k lo hi ↔ hi - lo = bxS dx dy k ∧ bxP dx dy dz lo k + 1 = bxP dx dy dz hi k := by
          constructor
          · rintro ⟨_, z1, z2⟩
            have := (f2 z1).2.1
            rw [← z2] at this
            omega
          · rintro ⟨z1, z2⟩
            have := bxP_lt hd hi k
            exact ⟨hk, by omega, by omega⟩
        have nx : ¬ seam dx dy dz k lo hi → atX4_cost_62 X ad cA (nI kd) (nI lo) (nI hi) (nI (k + 1)) 0 M_trace M_found M_foundSet M_foundTimes M_w M_h M_sides M_rules := fun h => ih (fun k' hk2 => by
          rcases Nat.lt_or_ge k' k with g | g
          · exact none k' g
          · rw [show k' = k by omega]; exact h)
        refine sgX4_cost_62 C E ⟨fun c => absurd c (nI_ge (b := 3) hk (by decide)), fun _ => ?_⟩
        rw [q1, l1, h1, m1, y1, pk_sub hle, nI_1 k, show nI (bxP dx dy dz lo k) + 1 = nI (bxP dx dy dz lo k + 1) from nI_1 _]
        refine ⟨q2, fun c => nx (fun z => c (by rw [(sm.mp z).1])), fun c => ⟨l2, h2, fun c2 => nx (fun z => c2 (by rw [(sm.mp z).2])), fun c2 => ⟨m2, y2, yes _ _ ⟨fun k2 c_ d h hsm => ?_, fun h => ?_⟩⟩⟩⟩
        · rw [nI_eq (by omega) (by omega)] at c c2
          obtain ⟨e1, e2⟩ := only k2 c_ d h hsm
          subst e1; subst e2
          have e3 := seam_u hd hsm (sm.mpr ⟨c, c2⟩)
          subst e3
          refine ⟨rfl, ?_⟩
          congr 1
          unfold mkC
          have b0 : (nI kd = 0) = (kd = 0) := propext (nI_eq (b := 0) (by omega) (by decide))
          have b1 : (nI kd = 1) = (kd = 1) := propext (nI_eq (b := 1) (by omega) (by decide))
          simp only [b0, b1]
        · rw [nI_eq (by omega) (by omega)] at c c2
          exact absurd (sm.mpr ⟨c, c2⟩) (h k lo hi hab)
    exact loop 0 (Nat.zero_le _) (fun k' h => absurd h (Nat.not_lt_zero k'))
  by_cases q : nI b ≤ nI a
  · rw [if_pos q, if_pos q]
    rw [nI_leI (by omega) (by omega)] at q
    exact go b a hb' ha' q (Or.inr ⟨rfl, rfl⟩)
  · rw [if_neg q, if_neg q]
    rw [nI_leI (by omega) (by omega)] at q
    exact go a b ha' hb' (by omega) (Or.inl ⟨rfl, rfl⟩)


abbrev w1X4_least (ad : Nat → Nat) (cA : Nat → ClassId) (M_trace : Int64) (M_w : Int32) (M_h : Int32) (M_sides : Nat → Int32) (M_held : Nat → Int32) (M_price : Nat → Int32) (M_rules : Nat → Int32) (u : (Int32) × (Int64) × (Int64) × (Int64) × (Nat → Int32) × (Nat → Int32) × (Nat → Int64) × (Nat → Int64) × (Nat → Int64) × (Nat → Int64) × (Nat → Int64) × (Nat → Int64)) : va_W := [((ad 19), .inr (4, [.int u.1, .long M_trace, .ref (ad 20), .ref (ad 21), .ref (ad 22), .ref (ad 23), .ref (ad 24), .ref (ad 25), .ref (ad 26), .ref (ad 27), .ref (ad 28), .ref (ad 29), .ref (ad 30), .ref (ad 31), .long u.2.1, .long u.2.2.1, .long u.2.2.2.1, .int M_w, .int M_h, .ref (ad 32), .ref (ad 33), .ref (ad 34)])), ((ad 20), .inl (cA 0, 3, .inl M_sides)), ((ad 21), .inl (cA 0, 36, .inl M_held)), ((ad 22), .inl (cA 0, 36, .inl M_price)), ((ad 23), .inl (cA 0, 7, .inl M_rules)), ((ad 24), .inl (cA 0, 3, .inl u.2.2.2.2.1)), ((ad 25), .inl (cA 0, 3, .inl u.2.2.2.2.2.1)), ((ad 26), .inl (cA 1, 512, .inr (.inl u.2.2.2.2.2.2.1))), ((ad 27), .inl (cA 1, 512, .inr (.inl u.2.2.2.2.2.2.2.1))), ((ad 28), .inl (cA 1, 512, .inr (.inl u.2.2.2.2.2.2.2.2.1))), ((ad 29), .inl (cA 1, 512, .inr (.inl u.2.2.2.2.2.2.2.2.2.1))), ((ad 30), .inl (cA 1, 512, .inr (.inl u.2.2.2.2.2.2.2.2.2.2.1))), ((ad 31), .inl (cA 1, 512, .inr (.inl u.2.2.2.2.2.2.2.2.2.2.2)))]
abbrev wcX4_least (ad : Nat → Nat) (cA : Nat → ClassId) (M_thrown : Int32) (M_trace : Int64) (M_found : Int64) (M_foundSet : Int64) (M_foundTimes : Int64) (M_w : Int32) (M_h : Int32) (M_sides : Nat → Int32) (M_held : Nat → Int32) (M_price : Nat → Int32) (M_rules : Nat → Int32) (M_ways : Nat → Int32) (M_place : Nat → Int32) (M_value : Nat → Int64) (M_sets : Nat → Int64) (M_times : Nat → Int64) (M_nextValue : Nat → Int64) (M_nextSets : Nat → Int64) (M_nextTimes : Nat → Int64) : va_W := [((ad 19), .inr (4, [.int M_thrown, .long M_trace, .ref (ad 20), .ref (ad 21), .ref (ad 22), .ref (ad 23), .ref (ad 24), .ref (ad 25), .ref (ad 26), .ref (ad 27), .ref (ad 28), .ref (ad 29), .ref (ad 30), .ref (ad 31), .long M_found, .long M_foundSet, .long M_foundTimes, .int M_w, .int M_h, .ref (ad 32), .ref (ad 33), .ref (ad 34)])), ((ad 20), .inl (cA 0, 3, .inl M_sides)), ((ad 21), .inl (cA 0, 36, .inl M_held)), ((ad 22), .inl (cA 0, 36, .inl M_price)), ((ad 23), .inl (cA 0, 7, .inl M_rules)), ((ad 24), .inl (cA 0, 3, .inl M_ways)), ((ad 25), .inl (cA 0, 3, .inl M_place)), ((ad 26), .inl (cA 1, 512, .inr (.inl M_value))), ((ad 27), .inl (cA 1, 512, .inr (.inl M_sets))), ((ad 28), .inl (cA 1, 512, .inr (.inl M_times))), ((ad 29), .inl (cA 1, 512, .inr (.inl M_nextValue))), ((ad 30), .inl (cA 1, 512, .inr (.inl M_nextSets))), ((ad 31), .inl (cA 1, 512, .inr (.inl M_nextTimes)))]
def rmX4_least : Room := { frames := 4, cells := 0, slots := 0, locals := 103 }
abbrev atX4_least_0 (X : gX) (ad : Nat → Nat) (cA : Nat → ClassId) (M_thrown : Int32) (M_trace : Int64) (M_found : Int64) (M_foundSet : Int64) (M_foundTimes : Int64) (M_w : Int32) (M_h : Int32) (M_sides : Nat → Int32) (M_held : Nat → Int32) (M_price : Nat → Int32) (M_rules : Nat → Int32) (M_ways : Nat → Int32) (M_place : Nat → Int32) (M_value : Nat → Int64) (M_sets : Nat → Int64) (M_times : Nat → Int64) (M_nextValue : Nat → Int64) (M_nextSets : Nat → Int64) (M_nextTimes : Nat → Int64) : Prop := gW X 0 0 [((ad 19), .inr (4, [.int M_thrown, .long M_trace, .ref (ad 20), .ref (ad 21), .ref (ad 22), .ref (ad 23), .ref (ad 24), .ref (ad 25), .ref (ad 26), .ref (ad 27), .ref (ad 28), .ref (ad 29), .ref (ad 30), .ref (ad 31), .long M_found, .long M_foundSet, .long M_foundTimes, .int M_w, .int M_h, .ref (ad 32), .ref (ad 33), .ref (ad 34)])), ((ad 20), .inl (cA 0, 3, .inl M_sides)), ((ad 21), .inl (cA 0, 36, .inl M_held)), ((ad 22), .inl (cA 0, 36, .inl M_price)), ((ad 23), .inl (cA 0, 7, .inl M_rules)), ((ad 24), .inl (cA 0, 3, .inl M_ways)), ((ad 25), .inl (cA 0, 3, .inl M_place)), ((ad 26), .inl (cA 1, 512, .inr (.inl M_value))), ((ad 27), .inl (cA 1, 512, .inr (.inl M_sets))), ((ad 28), .inl (cA 1, 512, .inr (.inl M_times))), ((ad 29), .inl (cA 1, 512, .inr (.inl M_nextValue))), ((ad 30), .inl (cA 1, 512, .inr (.inl M_nextSets))), ((ad 31), .inl (cA 1, 512, .inr (.inl M_nextTimes)))] 1 [(0, .ref (ad 19))] [] 0
theorem cnX4_least_138 : Cond.constantLong RX4 138 (64) ∈ wsX4_least := by decide +kernel
theorem giX4_least_X4 : ∀ w ∈ u_ws RX4 TX4 22, w ∈ wsX4_least := by decide +kernel
theorem gfX4_least_67 : gF wsX4_least RX4 67 4 0 RX4 TX4 22 := ⟨giX4_least_X4, by decide +kernel, rfl, by decide⟩
theorem gfX4_least_144 : gF wsX4_least RX4 144 4 14 RX4 TX4 22 := ⟨giX4_least_X4, by decide +kernel, rfl, by decide⟩
set_option maxHeartbeats 4000000 in
set_option maxRecDepth 100000 in
theorem sgX4_least_0 {X : gX} {ad : Nat → Nat} {cA : Nat → ClassId} {post : Int64 → ((Int32) × (Int64) × (Int64) × (Int64) × (Nat → Int32) × (Nat → Int32) × (Nat → Int64) × (Nat → Int64) × (Nat → Int64) × (Nat → Int64) × (Nat → Int64) × (Nat → Int64)) → Prop} {M_thrown : Int32} {M_trace : Int64} {M_found : Int64} {M_foundSet : Int64} {M_foundTimes : Int64} {M_w : Int32} {M_h : Int32} {M_sides : Nat → Int32} {M_held : Nat → Int32} {M_price : Nat → Int32} {M_rules : Nat → Int32} {M_ways : Nat → Int32} {M_place : Nat → Int32} {M_value : Nat → Int64} {M_sets : Nat → Int64} {M_times : Nat → Int64} {M_nextValue : Nat → Int64} {M_nextSets : Nat → Int64} {M_nextTimes : Nat → Int64} (C : gC X (gT cA) cX4_least 1 RX4 wsX4_least rmX4_least) (E : gEl X (some .long) (gT cA) 0 0 post (w1X4_least ad cA M_trace M_w M_h M_sides M_held M_price M_rules)) (h : ∃ (dx_1 : Nat) (dy_1 : Nat) (dz_1 : Nat), prX4_finds dx_1 dy_1 dz_1 (0 : Int32) (0 : Int32) (0 : Int32) M_trace M_found M_foundSet M_foundTimes M_w M_h M_sides M_held M_price M_rules M_ways M_place M_value M_sets M_times M_nextValue M_nextSets M_nextTimes ∧ ∀ (u3_M_found : Int64) (u3_M_foundSet : Int64) (u3_M_foundTimes : Int64) (u3_M_ways : Nat → Int32) (u3_M_place : Nat → Int32) (u3_M_value : Nat → Int64) (u3_M_sets : Nat → Int64) (u3_M_times : Nat → Int64) (u3_M_nextValue : Nat → Int64) (u3_M_nextSets : Nat → Int64) (u3_M_nextTimes : Nat → Int64), po_X4_finds ad cA dx_1 dy_1 dz_1 (0 : Int32) (0 : Int32) (0 : Int32) M_trace M_found M_foundSet M_foundTimes M_w M_h M_sides M_held M_price M_rules M_ways M_place M_value M_sets M_times M_nextValue M_nextSets M_nextTimes (u3_M_found, u3_M_foundSet, u3_M_foundTimes, u3_M_ways, u3_M_place, u3_M_value, u3_M_sets, u3_M_times, u3_M_nextValue, u3_M_nextSets, u3_M_nextTimes) → post (u3_M_found / (64 : Int64)) ((0 : Int32), u3_M_found, u3_M_foundSet, u3_M_foundTimes, u3_M_ways, u3_M_place, u3_M_value, u3_M_sets, u3_M_times, u3_M_nextValue, u3_M_nextSets, u3_M_nextTimes)) : atX4_least_0 X ad cA M_thrown M_trace M_found M_foundSet M_foundTimes M_w M_h M_sides M_held M_price M_rules M_ways M_place M_value M_sets M_times M_nextValue M_nextSets M_nextTimes := by
  refine g_aload_n C dX4_least_0 rfl 0 rfl ?_
  refine g_iconst C dX4_least_1 ik_0 ?_
  refine g_put (ws2 := [((ad 19), .inr (4, [.int (0 : Int32), .long M_trace, .ref (ad 20), .ref (ad 21), .ref (ad 22), .ref (ad 23), .ref (ad 24), .ref (ad 25), .ref (ad 26), .ref (ad 27), .ref (ad 28), .ref (ad 29), .ref (ad 30), .ref (ad 31), .long M_found, .long M_foundSet, .long M_foundTimes, .int M_w, .int M_h, .ref (ad 32), .ref (ad 33), .ref (ad 34)])), ((ad 20), .inl (cA 0, 3, .inl M_sides)), ((ad 21), .inl (cA 0, 36, .inl M_held)), ((ad 22), .inl (cA 0, 36, .inl M_price)), ((ad 23), .inl (cA 0, 7, .inl M_rules)), ((ad 24), .inl (cA 0, 3, .inl M_ways)), ((ad 25), .inl (cA 0, 3, .inl M_place)), ((ad 26), .inl (cA 1, 512, .inr (.inl M_value))), ((ad 27), .inl (cA 1, 512, .inr (.inl M_sets))), ((ad 28), .inl (cA 1, 512, .inr (.inl M_times))), ((ad 29), .inl (cA 1, 512, .inr (.inl M_nextValue))), ((ad 30), .inl (cA 1, 512, .inr (.inl M_nextSets))), ((ad 31), .inl (cA 1, 512, .inr (.inl M_nextTimes)))]) C gfX4_least_67 0 tyX4_ok nmX4 rfl rfl rfl rfl (Nat.le_of_ble_eq_true rfl) rfl dX4_least_2 ?_
  refine g_aload_n C dX4_least_5 rfl 0 rfl ?_
  refine g_iconst C dX4_least_6 ik_0 ?_
  refine g_iconst C dX4_least_7 ik_0 ?_
  obtain ⟨dx_1, dy_1, dz_1, h⟩ := h
  obtain ⟨hi_2, h⟩ := h
  refine g_callVv (wr := []) C (c_X4_finds ad cA dx_1 dy_1 dz_1 (0 : Int32) (0 : Int32) (0 : Int32) M_trace M_found M_foundSet M_foundTimes M_w M_h M_sides M_held M_price M_rules M_ways M_place M_value M_sets M_times M_nextValue M_nextSets M_nextTimes hi_2) gX4_least_X4_finds rfl hde_X4_finds ⟨rfl, rfl⟩ (by decide) (by decide) [0, 1, 2, 3, 4, 5, 6, 7, 8, 9, 10, 11, 12] [] [0, 1, 2, 3, 4, 5, 6, 7, 8, 9, 10, 11, 12] rfl rfl rfl rfl (by decide) rfl (ws2 := fun u => [((ad 19), .inr (4, [.int (0 : Int32), .long M_trace, .ref (ad 20), .ref (ad 21), .ref (ad 22), .ref (ad 23), .ref (ad 24), .ref (ad 25), .ref (ad 26), .ref (ad 27), .ref (ad 28), .ref (ad 29), .ref (ad 30), .ref (ad 31), .long u.1, .long u.2.1, .long u.2.2.1, .int M_w, .int M_h, .ref (ad 32), .ref (ad 33), .ref (ad 34)])), ((ad 20), .inl (cA 0, 3, .inl M_sides)), ((ad 21), .inl (cA 0, 36, .inl M_held)), ((ad 22), .inl (cA 0, 36, .inl M_price)), ((ad 23), .inl (cA 0, 7, .inl M_rules)), ((ad 24), .inl (cA 0, 3, .inl u.2.2.2.1)), ((ad 25), .inl (cA 0, 3, .inl u.2.2.2.2.1)), ((ad 26), .inl (cA 1, 512, .inr (.inl u.2.2.2.2.2.1))), ((ad 27), .inl (cA 1, 512, .inr (.inl u.2.2.2.2.2.2.1))), ((ad 28), .inl (cA 1, 512, .inr (.inl u.2.2.2.2.2.2.2.1))), ((ad 29), .inl (cA 1, 512, .inr (.inl u.2.2.2.2.2.2.2.2.1))), ((ad 30), .inl (cA 1, 512, .inr (.inl u.2.2.2.2.2.2.2.2.2.1))), ((ad 31), .inl (cA 1, 512, .inr (.inl u.2.2.2.2.2.2.2.2.2.2)))]) (fun _ => rfl) 4 0 rfl rfl rfl (rest := []) rfl (Nat.le_of_ble_eq_true rfl) dX4_least_8 (fun u_3 hp_3 => ?_)
  obtain ⟨u3_M_found, u3_M_foundSet, u3_M_foundTimes, u3_M_ways, u3_M_place, u3_M_value, u3_M_sets, u3_M_times, u3_M_nextValue, u3_M_nextSets, u3_M_nextTimes⟩ := u_3
  replace h := h u3_M_found u3_M_foundSet u3_M_foundTimes u3_M_ways u3_M_place u3_M_value u3_M_sets u3_M_times u3_M_nextValue u3_M_nextSets u3_M_nextTimes hp_3
  change gW X 0 0 [((ad 19), .inr (4, [.int (0 : Int32), .long M_trace, .ref (ad 20), .ref (ad 21), .ref (ad 22), .ref (ad 23), .ref (ad 24), .ref (ad 25), .ref (ad 26), .ref (ad 27), .ref (ad 28), .ref (ad 29), .ref (ad 30), .ref (ad 31), .long u3_M_found, .long u3_M_foundSet, .long u3_M_foundTimes, .int M_w, .int M_h, .ref (ad 32), .ref (ad 33), .ref (ad 34)])), ((ad 20), .inl (cA 0, 3, .inl M_sides)), ((ad 21), .inl (cA 0, 36, .inl M_held)), ((ad 22), .inl (cA 0, 36, .inl M_price)), ((ad 23), .inl (cA 0, 7, .inl M_rules)), ((ad 24), .inl (cA 0, 3, .inl u3_M_ways)), ((ad 25), .inl (cA 0, 3, .inl u3_M_place)), ((ad 26), .inl (cA 1, 512, .inr (.inl u3_M_value))), ((ad 27), .inl (cA 1, 512, .inr (.inl u3_M_sets))), ((ad 28), .inl (cA 1, 512, .inr (.inl u3_M_times))), ((ad 29), .inl (cA 1, 512, .inr (.inl u3_M_nextValue))), ((ad 30), .inl (cA 1, 512, .inr (.inl u3_M_nextSets))), ((ad 31), .inl (cA 1, 512, .inr (.inl u3_M_nextTimes)))] 1 [(0, .ref (ad 19))] [] 11
  refine g_aload_n C dX4_least_11 rfl 0 rfl ?_
  refine g_get C gfX4_least_144 0 rfl rfl dX4_least_12 ?_
  refine g_ldc2_w C cnX4_least_138 dX4_least_15 ?_
  refine g_ldiv C dX4_least_18 (by decide) ?_
  exact g_lret C E ((0 : Int32), u3_M_found, u3_M_foundSet, u3_M_foundTimes, u3_M_ways, u3_M_place, u3_M_value, u3_M_sets, u3_M_times, u3_M_nextValue, u3_M_nextSets, u3_M_nextTimes) h rfl dX4_least_19
def prX4_least (dx : Nat) (dy : Nat) (dz : Nat) (M_thrown : Int32) (M_trace : Int64) (M_found : Int64) (M_foundSet : Int64) (M_foundTimes : Int64) (M_w : Int32) (M_h : Int32) (M_sides : Nat → Int32) (M_held : Nat → Int32) (M_price : Nat → Int32) (M_rules : Nat → Int32) (M_ways : Nat → Int32) (M_place : Nat → Int32) (M_value : Nat → Int64) (M_sets : Nat → Int64) (M_times : Nat → Int64) (M_nextValue : Nat → Int64) (M_nextSets : Nat → Int64) (M_nextTimes : Nat → Int64) : Prop := dimOK dx dy dz ∧ sdOK M_sides dx dy dz ∧ ruOK M_rules ∧ prOK (dx * dy * dz) M_price
def po_X4_least (ad : Nat → Nat) (cA : Nat → ClassId) (dx : Nat) (dy : Nat) (dz : Nat) (M_thrown : Int32) (M_trace : Int64) (M_found : Int64) (M_foundSet : Int64) (M_foundTimes : Int64) (M_w : Int32) (M_h : Int32) (M_sides : Nat → Int32) (M_held : Nat → Int32) (M_price : Nat → Int32) (M_rules : Nat → Int32) (M_ways : Nat → Int32) (M_place : Nat → Int32) (M_value : Nat → Int64) (M_sets : Nat → Int64) (M_times : Nat → Int64) (M_nextValue : Nat → Int64) (M_nextSets : Nat → Int64) (M_nextTimes : Nat → Int64) (r : Int64) (u : (Int32) × (Int64) × (Int64) × (Int64) × (Nat → Int32) × (Nat → Int32) × (Nat → Int64) × (Nat → Int64) × (Nat → Int64) × (Nat → Int64) × (Nat → Int64) × (Nat → Int64)) : Prop := ∀ be pl am lo hi, geoOK dx dy dz pl be → setOK (dx * dy * dz) be pl M_rules M_price M_held 0 am lo hi → r = am
set_option maxHeartbeats 4000000 in
set_option maxRecDepth 100000 in
theorem c_X4_least (ad : Nat → Nat) (cA : Nat → ClassId) (dx : Nat) (dy : Nat) (dz : Nat) (M_thrown : Int32) (M_trace : Int64) (M_found : Int64) (M_foundSet : Int64) (M_foundTimes : Int64) (M_w : Int32) (M_h : Int32) (M_sides : Nat → Int32) (M_held : Nat → Int32) (M_price : Nat → Int32) (M_rules : Nat → Int32) (M_ways : Nat → Int32) (M_place : Nat → Int32) (M_value : Nat → Int64) (M_sets : Nat → Int64) (M_times : Nat → Int64) (M_nextValue : Nat → Int64) (M_nextSets : Nat → Int64) (M_nextTimes : Nat → Int64) (hq : prX4_least dx dy dz M_thrown M_trace M_found M_foundSet M_foundTimes M_w M_h M_sides M_held M_price M_rules M_ways M_place M_value M_sets M_times M_nextValue M_nextSets M_nextTimes) : ∀ (l : Launch) (D : va_G), gMl (S := (Int32) × (Int64) × (Int64) × (Int64) × (Nat → Int32) × (Nat → Int32) × (Nat → Int64) × (Nat → Int64) × (Nat → Int64) × (Nat → Int64) × (Nat → Int64) × (Nat → Int64)) l yX4_least wsX4_least rmX4_least D (gT cA) 0 0 [.ref (ad 19)] (wcX4_least ad cA M_thrown M_trace M_found M_foundSet M_foundTimes M_w M_h M_sides M_held M_price M_rules M_ways M_place M_value M_sets M_times M_nextValue M_nextSets M_nextTimes) (po_X4_least ad cA dx dy dz M_thrown M_trace M_found M_foundSet M_foundTimes M_w M_h M_sides M_held M_price M_rules M_ways M_place M_value M_sets M_times M_nextValue M_nextSets M_nextTimes) (w1X4_least ad cA M_trace M_w M_h M_sides M_held M_price M_rules) := by
  intro l D
  unfold prX4_least at hq
  refine g_enterl (cc := cX4_least) (nL := 1) (ret := (some .long)) (by decide) rfl (Nat.le_of_ble_eq_true rfl) rfl (fun X C E => ?_)
  obtain ⟨hd, hs, hr, hp⟩ := hq
  refine sgX4_least_0 C E ⟨dx, dy, dz, ⟨hd, hs, hr, hp, by decide, by decide, by decide, by decide⟩, fun fv fs ft _ _ _ _ _ _ _ _ hf => ?_⟩
  intro be pl am lo hi hg hset
  obtain ⟨w0, w1, w2, hw, hsm⟩ := hf
  obtain ⟨a, e1, e2, e3, e4, _⟩ := sm_least hd hw hg hset hsm
  have e4' : fv = lI (64 * a) := e4
  rw [e4', e1, lI_div e2 e3]


abbrev w1X4_film (ad : Nat → Nat) (cA : Nat → ClassId) (M_trace : Int64) (M_w : Int32) (M_h : Int32) (M_sides : Nat → Int32) (M_held : Nat → Int32) (M_price : Nat → Int32) (M_rules : Nat → Int32) (u : (Int32) × (Int64) × (Int64) × (Int64) × (Nat → Int32) × (Nat → Int32) × (Nat → Int64) × (Nat → Int64) × (Nat → Int64) × (Nat → Int64) × (Nat → Int64) × (Nat → Int64)) : va_W := [((ad 19), .inr (4, [.int u.1, .long M_trace, .ref (ad 20), .ref (ad 21), .ref (ad 22), .ref (ad 23), .ref (ad 24), .ref (ad 25), .ref (ad 26), .ref (ad 27), .ref (ad 28), .ref (ad 29), .ref (ad 30), .ref (ad 31), .long u.2.1, .long u.2.2.1, .long u.2.2.2.1, .int M_w, .int M_h, .ref (ad 32), .ref (ad 33), .ref (ad 34)])), ((ad 20), .inl (cA 0, 3, .inl M_sides)), ((ad 21), .inl (cA 0, 36, .inl M_held)), ((ad 22), .inl (cA 0, 36, .inl M_price)), ((ad 23), .inl (cA 0, 7, .inl M_rules)), ((ad 24), .inl (cA 0, 3, .inl u.2.2.2.2.1)), ((ad 25), .inl (cA 0, 3, .inl u.2.2.2.2.2.1)), ((ad 26), .inl (cA 1, 512, .inr (.inl u.2.2.2.2.2.2.1))), ((ad 27), .inl (cA 1, 512, .inr (.inl u.2.2.2.2.2.2.2.1))), ((ad 28), .inl (cA 1, 512, .inr (.inl u.2.2.2.2.2.2.2.2.1))), ((ad 29), .inl (cA 1, 512, .inr (.inl u.2.2.2.2.2.2.2.2.2.1))), ((ad 30), .inl (cA 1, 512, .inr (.inl u.2.2.2.2.2.2.2.2.2.2.1))), ((ad 31), .inl (cA 1, 512, .inr (.inl u.2.2.2.2.2.2.2.2.2.2.2)))]
abbrev wcX4_film (ad : Nat → Nat) (cA : Nat → ClassId) (M_thrown : Int32) (M_trace : Int64) (M_found : Int64) (M_foundSet : Int64) (M_foundTimes : Int64) (M_w : Int32) (M_h : Int32) (M_sides : Nat → Int32) (M_held : Nat → Int32) (M_price : Nat → Int32) (M_rules : Nat → Int32) (M_ways : Nat → Int32) (M_place : Nat → Int32) (M_value : Nat → Int64) (M_sets : Nat → Int64) (M_times : Nat → Int64) (M_nextValue : Nat → Int64) (M_nextSets : Nat → Int64) (M_nextTimes : Nat → Int64) : va_W := [((ad 19), .inr (4, [.int M_thrown, .long M_trace, .ref (ad 20), .ref (ad 21), .ref (ad 22), .ref (ad 23), .ref (ad 24), .ref (ad 25), .ref (ad 26), .ref (ad 27), .ref (ad 28), .ref (ad 29), .ref (ad 30), .ref (ad 31), .long M_found, .long M_foundSet, .long M_foundTimes, .int M_w, .int M_h, .ref (ad 32), .ref (ad 33), .ref (ad 34)])), ((ad 20), .inl (cA 0, 3, .inl M_sides)), ((ad 21), .inl (cA 0, 36, .inl M_held)), ((ad 22), .inl (cA 0, 36, .inl M_price)), ((ad 23), .inl (cA 0, 7, .inl M_rules)), ((ad 24), .inl (cA 0, 3, .inl M_ways)), ((ad 25), .inl (cA 0, 3, .inl M_place)), ((ad 26), .inl (cA 1, 512, .inr (.inl M_value))), ((ad 27), .inl (cA 1, 512, .inr (.inl M_sets))), ((ad 28), .inl (cA 1, 512, .inr (.inl M_times))), ((ad 29), .inl (cA 1, 512, .inr (.inl M_nextValue))), ((ad 30), .inl (cA 1, 512, .inr (.inl M_nextSets))), ((ad 31), .inl (cA 1, 512, .inr (.inl M_nextTimes)))]
def rmX4_film : Room := { frames := 4, cells := 0, slots := 0, locals := 103 }
abbrev atX4_film_0 (X : gX) (ad : Nat → Nat) (cA : Nat → ClassId) (p1 : Int32) (M_thrown : Int32) (M_trace : Int64) (M_found : Int64) (M_foundSet : Int64) (M_foundTimes : Int64) (M_w : Int32) (M_h : Int32) (M_sides : Nat → Int32) (M_held : Nat → Int32) (M_price : Nat → Int32) (M_rules : Nat → Int32) (M_ways : Nat → Int32) (M_place : Nat → Int32) (M_value : Nat → Int64) (M_sets : Nat → Int64) (M_times : Nat → Int64) (M_nextValue : Nat → Int64) (M_nextSets : Nat → Int64) (M_nextTimes : Nat → Int64) : Prop := gW X 0 0 [((ad 19), .inr (4, [.int M_thrown, .long M_trace, .ref (ad 20), .ref (ad 21), .ref (ad 22), .ref (ad 23), .ref (ad 24), .ref (ad 25), .ref (ad 26), .ref (ad 27), .ref (ad 28), .ref (ad 29), .ref (ad 30), .ref (ad 31), .long M_found, .long M_foundSet, .long M_foundTimes, .int M_w, .int M_h, .ref (ad 32), .ref (ad 33), .ref (ad 34)])), ((ad 20), .inl (cA 0, 3, .inl M_sides)), ((ad 21), .inl (cA 0, 36, .inl M_held)), ((ad 22), .inl (cA 0, 36, .inl M_price)), ((ad 23), .inl (cA 0, 7, .inl M_rules)), ((ad 24), .inl (cA 0, 3, .inl M_ways)), ((ad 25), .inl (cA 0, 3, .inl M_place)), ((ad 26), .inl (cA 1, 512, .inr (.inl M_value))), ((ad 27), .inl (cA 1, 512, .inr (.inl M_sets))), ((ad 28), .inl (cA 1, 512, .inr (.inl M_times))), ((ad 29), .inl (cA 1, 512, .inr (.inl M_nextValue))), ((ad 30), .inl (cA 1, 512, .inr (.inl M_nextSets))), ((ad 31), .inl (cA 1, 512, .inr (.inl M_nextTimes)))] 2 [(0, .ref (ad 19)), (1, .int p1)] [] 0
theorem cnX4_film_126 : Cond.constantLong RX4 126 (-1) ∈ wsX4_film := by decide +kernel
theorem giX4_film_X4 : ∀ w ∈ u_ws RX4 TX4 22, w ∈ wsX4_film := by decide +kernel
theorem gfX4_film_67 : gF wsX4_film RX4 67 4 0 RX4 TX4 22 := ⟨giX4_film_X4, by decide +kernel, rfl, by decide⟩
theorem gfX4_film_150 : gF wsX4_film RX4 150 4 15 RX4 TX4 22 := ⟨giX4_film_X4, by decide +kernel, rfl, by decide⟩
set_option maxHeartbeats 4000000 in
set_option maxRecDepth 100000 in
theorem sgX4_film_0 {X : gX} {ad : Nat → Nat} {cA : Nat → ClassId} {post : Int64 → ((Int32) × (Int64) × (Int64) × (Int64) × (Nat → Int32) × (Nat → Int32) × (Nat → Int64) × (Nat → Int64) × (Nat → Int64) × (Nat → Int64) × (Nat → Int64) × (Nat → Int64)) → Prop} {p1 : Int32} {M_thrown : Int32} {M_trace : Int64} {M_found : Int64} {M_foundSet : Int64} {M_foundTimes : Int64} {M_w : Int32} {M_h : Int32} {M_sides : Nat → Int32} {M_held : Nat → Int32} {M_price : Nat → Int32} {M_rules : Nat → Int32} {M_ways : Nat → Int32} {M_place : Nat → Int32} {M_value : Nat → Int64} {M_sets : Nat → Int64} {M_times : Nat → Int64} {M_nextValue : Nat → Int64} {M_nextSets : Nat → Int64} {M_nextTimes : Nat → Int64} (C : gC X (gT cA) cX4_film 2 RX4 wsX4_film rmX4_film) (E : gEl X (some .long) (gT cA) 0 0 post (w1X4_film ad cA M_trace M_w M_h M_sides M_held M_price M_rules)) (h : ((fnX4_in p1.toInt64 (0 : Int64) (1 : Int64)) = true → ∃ (dx_4 : Nat) (dy_4 : Nat) (dz_4 : Nat), prX4_finds dx_4 dy_4 dz_4 (0 : Int32) (if p1 = 0 then (1 : Int32) else (-1 : Int32)) (0 : Int32) M_trace M_found M_foundSet M_foundTimes M_w M_h M_sides M_held M_price M_rules M_ways M_place M_value M_sets M_times M_nextValue M_nextSets M_nextTimes ∧ ∀ (u6_M_found : Int64) (u6_M_foundSet : Int64) (u6_M_foundTimes : Int64) (u6_M_ways : Nat → Int32) (u6_M_place : Nat → Int32) (u6_M_value : Nat → Int64) (u6_M_sets : Nat → Int64) (u6_M_times : Nat → Int64) (u6_M_nextValue : Nat → Int64) (u6_M_nextSets : Nat → Int64) (u6_M_nextTimes : Nat → Int64), po_X4_finds ad cA dx_4 dy_4 dz_4 (0 : Int32) (if p1 = 0 then (1 : Int32) else (-1 : Int32)) (0 : Int32) M_trace M_found M_foundSet M_foundTimes M_w M_h M_sides M_held M_price M_rules M_ways M_place M_value M_sets M_times M_nextValue M_nextSets M_nextTimes (u6_M_found, u6_M_foundSet, u6_M_foundTimes, u6_M_ways, u6_M_place, u6_M_value, u6_M_sets, u6_M_times, u6_M_nextValue, u6_M_nextSets, u6_M_nextTimes) → post u6_M_foundSet ((0 : Int32), u6_M_found, u6_M_foundSet, u6_M_foundTimes, u6_M_ways, u6_M_place, u6_M_value, u6_M_sets, u6_M_times, u6_M_nextValue, u6_M_nextSets, u6_M_nextTimes)) ∧ ((fnX4_in p1.toInt64 (0 : Int64) (1 : Int64)) = false → post (-1 : Int64) ((0 : Int32), M_found, M_foundSet, M_foundTimes, M_ways, M_place, M_value, M_sets, M_times, M_nextValue, M_nextSets, M_nextTimes))) : atX4_film_0 X ad cA p1 M_thrown M_trace M_found M_foundSet M_foundTimes M_w M_h M_sides M_held M_price M_rules M_ways M_place M_value M_sets M_times M_nextValue M_nextSets M_nextTimes := by
  refine g_aload_n C dX4_film_0 rfl 0 rfl ?_
  refine g_iconst C dX4_film_1 ik_0 ?_
  refine g_put (ws2 := [((ad 19), .inr (4, [.int (0 : Int32), .long M_trace, .ref (ad 20), .ref (ad 21), .ref (ad 22), .ref (ad 23), .ref (ad 24), .ref (ad 25), .ref (ad 26), .ref (ad 27), .ref (ad 28), .ref (ad 29), .ref (ad 30), .ref (ad 31), .long M_found, .long M_foundSet, .long M_foundTimes, .int M_w, .int M_h, .ref (ad 32), .ref (ad 33), .ref (ad 34)])), ((ad 20), .inl (cA 0, 3, .inl M_sides)), ((ad 21), .inl (cA 0, 36, .inl M_held)), ((ad 22), .inl (cA 0, 36, .inl M_price)), ((ad 23), .inl (cA 0, 7, .inl M_rules)), ((ad 24), .inl (cA 0, 3, .inl M_ways)), ((ad 25), .inl (cA 0, 3, .inl M_place)), ((ad 26), .inl (cA 1, 512, .inr (.inl M_value))), ((ad 27), .inl (cA 1, 512, .inr (.inl M_sets))), ((ad 28), .inl (cA 1, 512, .inr (.inl M_times))), ((ad 29), .inl (cA 1, 512, .inr (.inl M_nextValue))), ((ad 30), .inl (cA 1, 512, .inr (.inl M_nextSets))), ((ad 31), .inl (cA 1, 512, .inr (.inl M_nextTimes)))]) C gfX4_film_67 0 tyX4_ok nmX4 rfl rfl rfl rfl (Nat.le_of_ble_eq_true rfl) rfl dX4_film_2 ?_
  refine g_iload_n C dX4_film_5 rfl 1 rfl ?_
  refine g_i2l C dX4_film_6 ?_
  refine g_lconst C dX4_film_7 lk_0 ?_
  refine g_lconst C dX4_film_8 lk_1 ?_
  refine g_callSi (b := 0) (wr := [((ad 19), .inr (4, [.int (0 : Int32), .long M_trace, .ref (ad 20), .ref (ad 21), .ref (ad 22), .ref (ad 23), .ref (ad 24), .ref (ad 25), .ref (ad 26), .ref (ad 27), .ref (ad 28), .ref (ad 29), .ref (ad 30), .ref (ad 31), .long M_found, .long M_foundSet, .long M_foundTimes, .int M_w, .int M_h, .ref (ad 32), .ref (ad 33), .ref (ad 34)])), ((ad 20), .inl (cA 0, 3, .inl M_sides)), ((ad 21), .inl (cA 0, 36, .inl M_held)), ((ad 22), .inl (cA 0, 36, .inl M_price)), ((ad 23), .inl (cA 0, 7, .inl M_rules)), ((ad 24), .inl (cA 0, 3, .inl M_ways)), ((ad 25), .inl (cA 0, 3, .inl M_place)), ((ad 26), .inl (cA 1, 512, .inr (.inl M_value))), ((ad 27), .inl (cA 1, 512, .inr (.inl M_sets))), ((ad 28), .inl (cA 1, 512, .inr (.inl M_times))), ((ad 29), .inl (cA 1, 512, .inr (.inl M_nextValue))), ((ad 30), .inl (cA 1, 512, .inr (.inl M_nextSets))), ((ad 31), .inl (cA 1, 512, .inr (.inl M_nextTimes)))]) C (c_X4_in ad cA p1.toInt64 (0 : Int64) (1 : Int64)) gX4_film_X4_in rfl hde_X4_in ⟨rfl, rfl⟩ (by decide) (by decide) [] [0, 1, 2, 3, 4, 5, 6, 7, 8, 9, 10, 11, 12] [0, 1, 2, 3, 4, 5, 6, 7, 8, 9, 10, 11, 12] rfl rfl rfl rfl (by decide) rfl (ws2 := fun u => [((ad 19), .inr (4, [.int (0 : Int32), .long M_trace, .ref (ad 20), .ref (ad 21), .ref (ad 22), .ref (ad 23), .ref (ad 24), .ref (ad 25), .ref (ad 26), .ref (ad 27), .ref (ad 28), .ref (ad 29), .ref (ad 30), .ref (ad 31), .long M_found, .long M_foundSet, .long M_foundTimes, .int M_w, .int M_h, .ref (ad 32), .ref (ad 33), .ref (ad 34)])), ((ad 20), .inl (cA 0, 3, .inl M_sides)), ((ad 21), .inl (cA 0, 36, .inl M_held)), ((ad 22), .inl (cA 0, 36, .inl M_price)), ((ad 23), .inl (cA 0, 7, .inl M_rules)), ((ad 24), .inl (cA 0, 3, .inl M_ways)), ((ad 25), .inl (cA 0, 3, .inl M_place)), ((ad 26), .inl (cA 1, 512, .inr (.inl M_value))), ((ad 27), .inl (cA 1, 512, .inr (.inl M_sets))), ((ad 28), .inl (cA 1, 512, .inr (.inl M_times))), ((ad 29), .inl (cA 1, 512, .inr (.inl M_nextValue))), ((ad 30), .inl (cA 1, 512, .inr (.inl M_nextSets))), ((ad 31), .inl (cA 1, 512, .inr (.inl M_nextTimes)))]) (fun _ => rfl) (rest := []) rfl (Nat.le_of_ble_eq_true rfl) dX4_film_9 (fun r_1 u_1 hp_1 => ?_)
  subst hp_1
  change gW X 0 0 [((ad 19), .inr (4, [.int (0 : Int32), .long M_trace, .ref (ad 20), .ref (ad 21), .ref (ad 22), .ref (ad 23), .ref (ad 24), .ref (ad 25), .ref (ad 26), .ref (ad 27), .ref (ad 28), .ref (ad 29), .ref (ad 30), .ref (ad 31), .long M_found, .long M_foundSet, .long M_foundTimes, .int M_w, .int M_h, .ref (ad 32), .ref (ad 33), .ref (ad 34)])), ((ad 20), .inl (cA 0, 3, .inl M_sides)), ((ad 21), .inl (cA 0, 36, .inl M_held)), ((ad 22), .inl (cA 0, 36, .inl M_price)), ((ad 23), .inl (cA 0, 7, .inl M_rules)), ((ad 24), .inl (cA 0, 3, .inl M_ways)), ((ad 25), .inl (cA 0, 3, .inl M_place)), ((ad 26), .inl (cA 1, 512, .inr (.inl M_value))), ((ad 27), .inl (cA 1, 512, .inr (.inl M_sets))), ((ad 28), .inl (cA 1, 512, .inr (.inl M_times))), ((ad 29), .inl (cA 1, 512, .inr (.inl M_nextValue))), ((ad 30), .inl (cA 1, 512, .inr (.inl M_nextSets))), ((ad 31), .inl (cA 1, 512, .inr (.inl M_nextTimes)))] 2 [(0, .ref (ad 19)), (1, .int p1)] [.int (bI (fnX4_in p1.toInt64 (0 : Int64) (1 : Int64)))] 12
  refine g_ifne_b (tgt := 19) C dX4_film_12 (by decide) (fun c_2 => ?_) (fun c_2 => ?_)
  · replace h := h.1 c_2
    refine g_aload_n C dX4_film_19 rfl 0 rfl ?_
    refine g_iconst C dX4_film_20 ik_0 ?_
    refine g_iload_n C dX4_film_21 rfl 1 rfl ?_
    have key : gW X 0 0 [((ad 19), .inr (4, [.int (0 : Int32), .long M_trace, .ref (ad 20), .ref (ad 21), .ref (ad 22), .ref (ad 23), .ref (ad 24), .ref (ad 25), .ref (ad 26), .ref (ad 27), .ref (ad 28), .ref (ad 29), .ref (ad 30), .ref (ad 31), .long M_found, .long M_foundSet, .long M_foundTimes, .int M_w, .int M_h, .ref (ad 32), .ref (ad 33), .ref (ad 34)])), ((ad 20), .inl (cA 0, 3, .inl M_sides)), ((ad 21), .inl (cA 0, 36, .inl M_held)), ((ad 22), .inl (cA 0, 36, .inl M_price)), ((ad 23), .inl (cA 0, 7, .inl M_rules)), ((ad 24), .inl (cA 0, 3, .inl M_ways)), ((ad 25), .inl (cA 0, 3, .inl M_place)), ((ad 26), .inl (cA 1, 512, .inr (.inl M_value))), ((ad 27), .inl (cA 1, 512, .inr (.inl M_sets))), ((ad 28), .inl (cA 1, 512, .inr (.inl M_times))), ((ad 29), .inl (cA 1, 512, .inr (.inl M_nextValue))), ((ad 30), .inl (cA 1, 512, .inr (.inl M_nextSets))), ((ad 31), .inl (cA 1, 512, .inr (.inl M_nextTimes)))] 2 [(0, .ref (ad 19)), (1, .int p1)] [.int (if p1 = 0 then (1 : Int32) else (-1 : Int32)), .int (0 : Int32), .ref (ad 19)] 30 := by
      obtain ⟨dx_4, dy_4, dz_4, h⟩ := h
      obtain ⟨hi_5, h⟩ := h
      refine g_callVv (wr := []) C (c_X4_finds ad cA dx_4 dy_4 dz_4 (0 : Int32) (if p1 = 0 then (1 : Int32) else (-1 : Int32)) (0 : Int32) M_trace M_found M_foundSet M_foundTimes M_w M_h M_sides M_held M_price M_rules M_ways M_place M_value M_sets M_times M_nextValue M_nextSets M_nextTimes hi_5) gX4_film_X4_finds rfl hde_X4_finds ⟨rfl, rfl⟩ (by decide) (by decide) [0, 1, 2, 3, 4, 5, 6, 7, 8, 9, 10, 11, 12] [] [0, 1, 2, 3, 4, 5, 6, 7, 8, 9, 10, 11, 12] rfl rfl rfl rfl (by decide) rfl (ws2 := fun u => [((ad 19), .inr (4, [.int (0 : Int32), .long M_trace, .ref (ad 20), .ref (ad 21), .ref (ad 22), .ref (ad 23), .ref (ad 24), .ref (ad 25), .ref (ad 26), .ref (ad 27), .ref (ad 28), .ref (ad 29), .ref (ad 30), .ref (ad 31), .long u.1, .long u.2.1, .long u.2.2.1, .int M_w, .int M_h, .ref (ad 32), .ref (ad 33), .ref (ad 34)])), ((ad 20), .inl (cA 0, 3, .inl M_sides)), ((ad 21), .inl (cA 0, 36, .inl M_held)), ((ad 22), .inl (cA 0, 36, .inl M_price)), ((ad 23), .inl (cA 0, 7, .inl M_rules)), ((ad 24), .inl (cA 0, 3, .inl u.2.2.2.1)), ((ad 25), .inl (cA 0, 3, .inl u.2.2.2.2.1)), ((ad 26), .inl (cA 1, 512, .inr (.inl u.2.2.2.2.2.1))), ((ad 27), .inl (cA 1, 512, .inr (.inl u.2.2.2.2.2.2.1))), ((ad 28), .inl (cA 1, 512, .inr (.inl u.2.2.2.2.2.2.2.1))), ((ad 29), .inl (cA 1, 512, .inr (.inl u.2.2.2.2.2.2.2.2.1))), ((ad 30), .inl (cA 1, 512, .inr (.inl u.2.2.2.2.2.2.2.2.2.1))), ((ad 31), .inl (cA 1, 512, .inr (.inl u.2.2.2.2.2.2.2.2.2.2)))]) (fun _ => rfl) 4 0 rfl rfl rfl (rest := []) rfl (Nat.le_of_ble_eq_true rfl) dX4_film_30 (fun u_6 hp_6 => ?_)
      obtain ⟨u6_M_found, u6_M_foundSet, u6_M_foundTimes, u6_M_ways, u6_M_place, u6_M_value, u6_M_sets, u6_M_times, u6_M_nextValue, u6_M_nextSets, u6_M_nextTimes⟩ := u_6
      replace h := h u6_M_found u6_M_foundSet u6_M_foundTimes u6_M_ways u6_M_place u6_M_value u6_M_sets u6_M_times u6_M_nextValue u6_M_nextSets u6_M_nextTimes hp_6
      change gW X 0 0 [((ad 19), .inr (4, [.int (0 : Int32), .long M_trace, .ref (ad 20), .ref (ad 21), .ref (ad 22), .ref (ad 23), .ref (ad 24), .ref (ad 25), .ref (ad 26), .ref (ad 27), .ref (ad 28), .ref (ad 29), .ref (ad 30), .ref (ad 31), .long u6_M_found, .long u6_M_foundSet, .long u6_M_foundTimes, .int M_w, .int M_h, .ref (ad 32), .ref (ad 33), .ref (ad 34)])), ((ad 20), .inl (cA 0, 3, .inl M_sides)), ((ad 21), .inl (cA 0, 36, .inl M_held)), ((ad 22), .inl (cA 0, 36, .inl M_price)), ((ad 23), .inl (cA 0, 7, .inl M_rules)), ((ad 24), .inl (cA 0, 3, .inl u6_M_ways)), ((ad 25), .inl (cA 0, 3, .inl u6_M_place)), ((ad 26), .inl (cA 1, 512, .inr (.inl u6_M_value))), ((ad 27), .inl (cA 1, 512, .inr (.inl u6_M_sets))), ((ad 28), .inl (cA 1, 512, .inr (.inl u6_M_times))), ((ad 29), .inl (cA 1, 512, .inr (.inl u6_M_nextValue))), ((ad 30), .inl (cA 1, 512, .inr (.inl u6_M_nextSets))), ((ad 31), .inl (cA 1, 512, .inr (.inl u6_M_nextTimes)))] 2 [(0, .ref (ad 19)), (1, .int p1)] [] 33
      refine g_aload_n C dX4_film_33 rfl 0 rfl ?_
      refine g_get C gfX4_film_150 0 rfl rfl dX4_film_34 ?_
      exact g_lret C E ((0 : Int32), u6_M_found, u6_M_foundSet, u6_M_foundTimes, u6_M_ways, u6_M_place, u6_M_value, u6_M_sets, u6_M_times, u6_M_nextValue, u6_M_nextSets, u6_M_nextTimes) h rfl dX4_film_37
    refine g_if_ne (tgt := 29) C dX4_film_22 (by decide) (fun c_3 => ?_) (fun c_3 => ?_)
    · refine g_iconst C dX4_film_29 ik_m1 ?_
      exact g_leaf (by simp only [if_neg c_3] at key; first | exact key | (simp only [if_neg c_3]; exact key) | exact absurd rfl c_3)
    · refine g_iconst C dX4_film_25 ik_1 ?_
      refine g_goto (tgt := 30) C dX4_film_26 (by decide) ?_
      exact g_leaf (by simp only [if_pos c_3] at key; first | exact key | (simp only [if_pos c_3]; exact key) | exact absurd rfl c_3)
  · replace h := h.2 c_2
    refine g_ldc2_w C cnX4_film_126 dX4_film_15 ?_
    exact g_lret C E ((0 : Int32), M_found, M_foundSet, M_foundTimes, M_ways, M_place, M_value, M_sets, M_times, M_nextValue, M_nextSets, M_nextTimes) h rfl dX4_film_18
def prX4_film (dx : Nat) (dy : Nat) (dz : Nat) (p1 : Int32) (M_thrown : Int32) (M_trace : Int64) (M_found : Int64) (M_foundSet : Int64) (M_foundTimes : Int64) (M_w : Int32) (M_h : Int32) (M_sides : Nat → Int32) (M_held : Nat → Int32) (M_price : Nat → Int32) (M_rules : Nat → Int32) (M_ways : Nat → Int32) (M_place : Nat → Int32) (M_value : Nat → Int64) (M_sets : Nat → Int64) (M_times : Nat → Int64) (M_nextValue : Nat → Int64) (M_nextSets : Nat → Int64) (M_nextTimes : Nat → Int64) : Prop := dimOK dx dy dz ∧ sdOK M_sides dx dy dz ∧ ruOK M_rules ∧ prOK (dx * dy * dz) M_price
def po_X4_film (ad : Nat → Nat) (cA : Nat → ClassId) (dx : Nat) (dy : Nat) (dz : Nat) (p1 : Int32) (M_thrown : Int32) (M_trace : Int64) (M_found : Int64) (M_foundSet : Int64) (M_foundTimes : Int64) (M_w : Int32) (M_h : Int32) (M_sides : Nat → Int32) (M_held : Nat → Int32) (M_price : Nat → Int32) (M_rules : Nat → Int32) (M_ways : Nat → Int32) (M_place : Nat → Int32) (M_value : Nat → Int64) (M_sets : Nat → Int64) (M_times : Nat → Int64) (M_nextValue : Nat → Int64) (M_nextSets : Nat → Int64) (M_nextTimes : Nat → Int64) (r : Int64) (u : (Int32) × (Int64) × (Int64) × (Int64) × (Nat → Int32) × (Nat → Int32) × (Nat → Int64) × (Nat → Int64) × (Nat → Int64) × (Nat → Int64) × (Nat → Int64) × (Nat → Int64)) : Prop := ((0 ≤ p1.toInt ∧ p1.toInt ≤ 1) → ∀ be pl am lo hi, geoOK dx dy dz pl be → setOK (dx * dy * dz) be pl M_rules M_price M_held 0 am lo hi → r = (if p1 = 0 then lo else hi)) ∧ (¬ (0 ≤ p1.toInt ∧ p1.toInt ≤ 1) → r = -1)
set_option maxHeartbeats 4000000 in
set_option maxRecDepth 100000 in
theorem c_X4_film (ad : Nat → Nat) (cA : Nat → ClassId) (dx : Nat) (dy : Nat) (dz : Nat) (p1 : Int32) (M_thrown : Int32) (M_trace : Int64) (M_found : Int64) (M_foundSet : Int64) (M_foundTimes : Int64) (M_w : Int32) (M_h : Int32) (M_sides : Nat → Int32) (M_held : Nat → Int32) (M_price : Nat → Int32) (M_rules : Nat → Int32) (M_ways : Nat → Int32) (M_place : Nat → Int32) (M_value : Nat → Int64) (M_sets : Nat → Int64) (M_times : Nat → Int64) (M_nextValue : Nat → Int64) (M_nextSets : Nat → Int64) (M_nextTimes : Nat → Int64) (hq : prX4_film dx dy dz p1 M_thrown M_trace M_found M_foundSet M_foundTimes M_w M_h M_sides M_held M_price M_rules M_ways M_place M_value M_sets M_times M_nextValue M_nextSets M_nextTimes) : ∀ (l : Launch) (D : va_G), gMl (S := (Int32) × (Int64) × (Int64) × (Int64) × (Nat → Int32) × (Nat → Int32) × (Nat → Int64) × (Nat → Int64) × (Nat → Int64) × (Nat → Int64) × (Nat → Int64) × (Nat → Int64)) l yX4_film wsX4_film rmX4_film D (gT cA) 0 0 [.ref (ad 19), .int p1] (wcX4_film ad cA M_thrown M_trace M_found M_foundSet M_foundTimes M_w M_h M_sides M_held M_price M_rules M_ways M_place M_value M_sets M_times M_nextValue M_nextSets M_nextTimes) (po_X4_film ad cA dx dy dz p1 M_thrown M_trace M_found M_foundSet M_foundTimes M_w M_h M_sides M_held M_price M_rules M_ways M_place M_value M_sets M_times M_nextValue M_nextSets M_nextTimes) (w1X4_film ad cA M_trace M_w M_h M_sides M_held M_price M_rules) := by
  intro l D
  unfold prX4_film at hq
  refine g_enterl (cc := cX4_film) (nL := 2) (ret := (some .long)) (by decide) rfl (Nat.le_of_ble_eq_true rfl) rfl (fun X C E => ?_)
  obtain ⟨hd, hs, hr, hp⟩ := hq
  refine sgX4_film_0 C E ⟨fun c => ⟨dx, dy, dz, ⟨hd, hs, hr, hp, by decide, by decide, by split <;> decide, by split <;> decide⟩, fun fv fs ft _ _ _ _ _ _ _ _ hf => ⟨fun _ => ?_, fun q => absurd (in_t c) q⟩⟩, fun c => ⟨fun q => absurd q (in_f c), fun _ => rfl⟩⟩
  intro be pl am lo hi hg hset
  obtain ⟨w0, w1, w2, hw, hsm⟩ := hf
  by_cases q : p1 = 0
  · rw [if_pos q] at hsm ⊢
    exact sm_low hd hw hg hset hsm
  · rw [if_neg q] at hsm ⊢
    exact sm_high hd hw hg hset hsm


abbrev w1X4_room (ad : Nat → Nat) (cA : Nat → ClassId) (M_trace : Int64) (M_w : Int32) (M_h : Int32) (M_sides : Nat → Int32) (M_held : Nat → Int32) (M_price : Nat → Int32) (M_rules : Nat → Int32) (u : (Int32) × (Int64) × (Int64) × (Int64) × (Nat → Int32) × (Nat → Int32) × (Nat → Int64) × (Nat → Int64) × (Nat → Int64) × (Nat → Int64) × (Nat → Int64) × (Nat → Int64)) : va_W := [((ad 19), .inr (4, [.int u.1, .long M_trace, .ref (ad 20), .ref (ad 21), .ref (ad 22), .ref (ad 23), .ref (ad 24), .ref (ad 25), .ref (ad 26), .ref (ad 27), .ref (ad 28), .ref (ad 29), .ref (ad 30), .ref (ad 31), .long u.2.1, .long u.2.2.1, .long u.2.2.2.1, .int M_w, .int M_h, .ref (ad 32), .ref (ad 33), .ref (ad 34)])), ((ad 20), .inl (cA 0, 3, .inl M_sides)), ((ad 21), .inl (cA 0, 36, .inl M_held)), ((ad 22), .inl (cA 0, 36, .inl M_price)), ((ad 23), .inl (cA 0, 7, .inl M_rules)), ((ad 24), .inl (cA 0, 3, .inl u.2.2.2.2.1)), ((ad 25), .inl (cA 0, 3, .inl u.2.2.2.2.2.1)), ((ad 26), .inl (cA 1, 512, .inr (.inl u.2.2.2.2.2.2.1))), ((ad 27), .inl (cA 1, 512, .inr (.inl u.2.2.2.2.2.2.2.1))), ((ad 28), .inl (cA 1, 512, .inr (.inl u.2.2.2.2.2.2.2.2.1))), ((ad 29), .inl (cA 1, 512, .inr (.inl u.2.2.2.2.2.2.2.2.2.1))), ((ad 30), .inl (cA 1, 512, .inr (.inl u.2.2.2.2.2.2.2.2.2.2.1))), ((ad 31), .inl (cA 1, 512, .inr (.inl u.2.2.2.2.2.2.2.2.2.2.2)))]
abbrev wcX4_room (ad : Nat → Nat) (cA : Nat → ClassId) (M_thrown : Int32) (M_trace : Int64) (M_found : Int64) (M_foundSet : Int64) (M_foundTimes : Int64) (M_w : Int32) (M_h : Int32) (M_sides : Nat → Int32) (M_held : Nat → Int32) (M_price : Nat → Int32) (M_rules : Nat → Int32) (M_ways : Nat → Int32) (M_place : Nat → Int32) (M_value : Nat → Int64) (M_sets : Nat → Int64) (M_times : Nat → Int64) (M_nextValue : Nat → Int64) (M_nextSets : Nat → Int64) (M_nextTimes : Nat → Int64) : va_W := [((ad 19), .inr (4, [.int M_thrown, .long M_trace, .ref (ad 20), .ref (ad 21), .ref (ad 22), .ref (ad 23), .ref (ad 24), .ref (ad 25), .ref (ad 26), .ref (ad 27), .ref (ad 28), .ref (ad 29), .ref (ad 30), .ref (ad 31), .long M_found, .long M_foundSet, .long M_foundTimes, .int M_w, .int M_h, .ref (ad 32), .ref (ad 33), .ref (ad 34)])), ((ad 20), .inl (cA 0, 3, .inl M_sides)), ((ad 21), .inl (cA 0, 36, .inl M_held)), ((ad 22), .inl (cA 0, 36, .inl M_price)), ((ad 23), .inl (cA 0, 7, .inl M_rules)), ((ad 24), .inl (cA 0, 3, .inl M_ways)), ((ad 25), .inl (cA 0, 3, .inl M_place)), ((ad 26), .inl (cA 1, 512, .inr (.inl M_value))), ((ad 27), .inl (cA 1, 512, .inr (.inl M_sets))), ((ad 28), .inl (cA 1, 512, .inr (.inl M_times))), ((ad 29), .inl (cA 1, 512, .inr (.inl M_nextValue))), ((ad 30), .inl (cA 1, 512, .inr (.inl M_nextSets))), ((ad 31), .inl (cA 1, 512, .inr (.inl M_nextTimes)))]
def rmX4_room : Room := { frames := 4, cells := 0, slots := 0, locals := 103 }
abbrev atX4_room_0 (X : gX) (ad : Nat → Nat) (cA : Nat → ClassId) (p1 : Int32) (p2 : Int32) (M_thrown : Int32) (M_trace : Int64) (M_found : Int64) (M_foundSet : Int64) (M_foundTimes : Int64) (M_w : Int32) (M_h : Int32) (M_sides : Nat → Int32) (M_held : Nat → Int32) (M_price : Nat → Int32) (M_rules : Nat → Int32) (M_ways : Nat → Int32) (M_place : Nat → Int32) (M_value : Nat → Int64) (M_sets : Nat → Int64) (M_times : Nat → Int64) (M_nextValue : Nat → Int64) (M_nextSets : Nat → Int64) (M_nextTimes : Nat → Int64) : Prop := gW X 0 0 [((ad 19), .inr (4, [.int M_thrown, .long M_trace, .ref (ad 20), .ref (ad 21), .ref (ad 22), .ref (ad 23), .ref (ad 24), .ref (ad 25), .ref (ad 26), .ref (ad 27), .ref (ad 28), .ref (ad 29), .ref (ad 30), .ref (ad 31), .long M_found, .long M_foundSet, .long M_foundTimes, .int M_w, .int M_h, .ref (ad 32), .ref (ad 33), .ref (ad 34)])), ((ad 20), .inl (cA 0, 3, .inl M_sides)), ((ad 21), .inl (cA 0, 36, .inl M_held)), ((ad 22), .inl (cA 0, 36, .inl M_price)), ((ad 23), .inl (cA 0, 7, .inl M_rules)), ((ad 24), .inl (cA 0, 3, .inl M_ways)), ((ad 25), .inl (cA 0, 3, .inl M_place)), ((ad 26), .inl (cA 1, 512, .inr (.inl M_value))), ((ad 27), .inl (cA 1, 512, .inr (.inl M_sets))), ((ad 28), .inl (cA 1, 512, .inr (.inl M_times))), ((ad 29), .inl (cA 1, 512, .inr (.inl M_nextValue))), ((ad 30), .inl (cA 1, 512, .inr (.inl M_nextSets))), ((ad 31), .inl (cA 1, 512, .inr (.inl M_nextTimes)))] 5 [(0, .ref (ad 19)), (1, .int p1), (2, .int p2)] [] 0
abbrev atX4_room_50 (X : gX) (ad : Nat → Nat) (cA : Nat → ClassId) (x3 : Int32) (x4 : Int32) (M_thrown : Int32) (M_trace : Int64) (M_found : Int64) (M_foundSet : Int64) (M_foundTimes : Int64) (M_w : Int32) (M_h : Int32) (M_sides : Nat → Int32) (M_held : Nat → Int32) (M_price : Nat → Int32) (M_rules : Nat → Int32) (M_ways : Nat → Int32) (M_place : Nat → Int32) (M_value : Nat → Int64) (M_sets : Nat → Int64) (M_times : Nat → Int64) (M_nextValue : Nat → Int64) (M_nextSets : Nat → Int64) (M_nextTimes : Nat → Int64) : Prop := gW X 0 0 [((ad 19), .inr (4, [.int M_thrown, .long M_trace, .ref (ad 20), .ref (ad 21), .ref (ad 22), .ref (ad 23), .ref (ad 24), .ref (ad 25), .ref (ad 26), .ref (ad 27), .ref (ad 28), .ref (ad 29), .ref (ad 30), .ref (ad 31), .long M_found, .long M_foundSet, .long M_foundTimes, .int M_w, .int M_h, .ref (ad 32), .ref (ad 33), .ref (ad 34)])), ((ad 20), .inl (cA 0, 3, .inl M_sides)), ((ad 21), .inl (cA 0, 36, .inl M_held)), ((ad 22), .inl (cA 0, 36, .inl M_price)), ((ad 23), .inl (cA 0, 7, .inl M_rules)), ((ad 24), .inl (cA 0, 3, .inl M_ways)), ((ad 25), .inl (cA 0, 3, .inl M_place)), ((ad 26), .inl (cA 1, 512, .inr (.inl M_value))), ((ad 27), .inl (cA 1, 512, .inr (.inl M_sets))), ((ad 28), .inl (cA 1, 512, .inr (.inl M_times))), ((ad 29), .inl (cA 1, 512, .inr (.inl M_nextValue))), ((ad 30), .inl (cA 1, 512, .inr (.inl M_nextSets))), ((ad 31), .inl (cA 1, 512, .inr (.inl M_nextTimes)))] 5 [(0, .ref (ad 19)), (3, .int x3), (4, .int x4)] [] 50
theorem cnX4_room_157 : Cond.constantLong RX4 157 (-60) ∈ wsX4_room := by decide +kernel
theorem cnX4_room_159 : Cond.constantLong RX4 159 (60) ∈ wsX4_room := by decide +kernel
theorem giX4_room_X4 : ∀ w ∈ u_ws RX4 TX4 22, w ∈ wsX4_room := by decide +kernel
theorem gfX4_room_67 : gF wsX4_room RX4 67 4 0 RX4 TX4 22 := ⟨giX4_room_X4, by decide +kernel, rfl, by decide⟩
theorem gfX4_room_150 : gF wsX4_room RX4 150 4 15 RX4 TX4 22 := ⟨giX4_room_X4, by decide +kernel, rfl, by decide⟩
set_option maxHeartbeats 4000000 in
set_option maxRecDepth 100000 in
theorem sgX4_room_0 {X : gX} {ad : Nat → Nat} {cA : Nat → ClassId} {post : Int32 → ((Int32) × (Int64) × (Int64) × (Int64) × (Nat → Int32) × (Nat → Int32) × (Nat → Int64) × (Nat → Int64) × (Nat → Int64) × (Nat → Int64) × (Nat → Int64) × (Nat → Int64)) → Prop} {p1 : Int32} {p2 : Int32} {M_thrown : Int32} {M_trace : Int64} {M_found : Int64} {M_foundSet : Int64} {M_foundTimes : Int64} {M_w : Int32} {M_h : Int32} {M_sides : Nat → Int32} {M_held : Nat → Int32} {M_price : Nat → Int32} {M_rules : Nat → Int32} {M_ways : Nat → Int32} {M_place : Nat → Int32} {M_value : Nat → Int64} {M_sets : Nat → Int64} {M_times : Nat → Int64} {M_nextValue : Nat → Int64} {M_nextSets : Nat → Int64} {M_nextTimes : Nat → Int64} (C : gC X (gT cA) cX4_room 5 RX4 wsX4_room rmX4_room) (E : gEi X (some .int) (gT cA) 0 0 post (w1X4_room ad cA M_trace M_w M_h M_sides M_held M_price M_rules)) (h : ((fnX4_in p1.toInt64 (-60 : Int64) (60 : Int64)) = false → post (-1 : Int32) ((0 : Int32), M_found, M_foundSet, M_foundTimes, M_ways, M_place, M_value, M_sets, M_times, M_nextValue, M_nextSets, M_nextTimes)) ∧ ((fnX4_in p1.toInt64 (-60 : Int64) (60 : Int64)) = true → ((fnX4_in p2.toInt64 (0 : Int64) (1 : Int64)) = true → ∃ (dx_6 : Nat) (dy_6 : Nat) (dz_6 : Nat), prX4_finds dx_6 dy_6 dz_6 p1 (if p2 = 0 then (1 : Int32) else (-1 : Int32)) (0 : Int32) M_trace M_found M_foundSet M_foundTimes M_w M_h M_sides M_held M_price M_rules M_ways M_place M_value M_sets M_times M_nextValue M_nextSets M_nextTimes ∧ ∀ (u8_M_found : Int64) (u8_M_foundSet : Int64) (u8_M_foundTimes : Int64) (u8_M_ways : Nat → Int32) (u8_M_place : Nat → Int32) (u8_M_value : Nat → Int64) (u8_M_sets : Nat → Int64) (u8_M_times : Nat → Int64) (u8_M_nextValue : Nat → Int64) (u8_M_nextSets : Nat → Int64) (u8_M_nextTimes : Nat → Int64), po_X4_finds ad cA dx_6 dy_6 dz_6 p1 (if p2 = 0 then (1 : Int32) else (-1 : Int32)) (0 : Int32) M_trace M_found M_foundSet M_foundTimes M_w M_h M_sides M_held M_price M_rules M_ways M_place M_value M_sets M_times M_nextValue M_nextSets M_nextTimes (u8_M_found, u8_M_foundSet, u8_M_foundTimes, u8_M_ways, u8_M_place, u8_M_value, u8_M_sets, u8_M_times, u8_M_nextValue, u8_M_nextSets, u8_M_nextTimes) → atX4_room_50 X ad cA (0 : Int32) (0 : Int32) (0 : Int32) M_trace u8_M_found u8_M_foundSet u8_M_foundTimes M_w M_h M_sides M_held M_price M_rules u8_M_ways u8_M_place u8_M_value u8_M_sets u8_M_times u8_M_nextValue u8_M_nextSets u8_M_nextTimes) ∧ ((fnX4_in p2.toInt64 (0 : Int64) (1 : Int64)) = false → post (-1 : Int32) ((0 : Int32), M_found, M_foundSet, M_foundTimes, M_ways, M_place, M_value, M_sets, M_times, M_nextValue, M_nextSets, M_nextTimes)))) : atX4_room_0 X ad cA p1 p2 M_thrown M_trace M_found M_foundSet M_foundTimes M_w M_h M_sides M_held M_price M_rules M_ways M_place M_value M_sets M_times M_nextValue M_nextSets M_nextTimes := by
  refine g_aload_n C dX4_room_0 rfl 0 rfl ?_
  refine g_iconst C dX4_room_1 ik_0 ?_
  refine g_put (ws2 := [((ad 19), .inr (4, [.int (0 : Int32), .long M_trace, .ref (ad 20), .ref (ad 21), .ref (ad 22), .ref (ad 23), .ref (ad 24), .ref (ad 25), .ref (ad 26), .ref (ad 27), .ref (ad 28), .ref (ad 29), .ref (ad 30), .ref (ad 31), .long M_found, .long M_foundSet, .long M_foundTimes, .int M_w, .int M_h, .ref (ad 32), .ref (ad 33), .ref (ad 34)])), ((ad 20), .inl (cA 0, 3, .inl M_sides)), ((ad 21), .inl (cA 0, 36, .inl M_held)), ((ad 22), .inl (cA 0, 36, .inl M_price)), ((ad 23), .inl (cA 0, 7, .inl M_rules)), ((ad 24), .inl (cA 0, 3, .inl M_ways)), ((ad 25), .inl (cA 0, 3, .inl M_place)), ((ad 26), .inl (cA 1, 512, .inr (.inl M_value))), ((ad 27), .inl (cA 1, 512, .inr (.inl M_sets))), ((ad 28), .inl (cA 1, 512, .inr (.inl M_times))), ((ad 29), .inl (cA 1, 512, .inr (.inl M_nextValue))), ((ad 30), .inl (cA 1, 512, .inr (.inl M_nextSets))), ((ad 31), .inl (cA 1, 512, .inr (.inl M_nextTimes)))]) C gfX4_room_67 0 tyX4_ok nmX4 rfl rfl rfl rfl (Nat.le_of_ble_eq_true rfl) rfl dX4_room_2 ?_
  refine g_iload_n C dX4_room_5 rfl 1 rfl ?_
  refine g_i2l C dX4_room_6 ?_
  refine g_ldc2_w C cnX4_room_157 dX4_room_7 ?_
  refine g_ldc2_w C cnX4_room_159 dX4_room_10 ?_
  refine g_callSi (b := 0) (wr := [((ad 19), .inr (4, [.int (0 : Int32), .long M_trace, .ref (ad 20), .ref (ad 21), .ref (ad 22), .ref (ad 23), .ref (ad 24), .ref (ad 25), .ref (ad 26), .ref (ad 27), .ref (ad 28), .ref (ad 29), .ref (ad 30), .ref (ad 31), .long M_found, .long M_foundSet, .long M_foundTimes, .int M_w, .int M_h, .ref (ad 32), .ref (ad 33), .ref (ad 34)])), ((ad 20), .inl (cA 0, 3, .inl M_sides)), ((ad 21), .inl (cA 0, 36, .inl M_held)), ((ad 22), .inl (cA 0, 36, .inl M_price)), ((ad 23), .inl (cA 0, 7, .inl M_rules)), ((ad 24), .inl (cA 0, 3, .inl M_ways)), ((ad 25), .inl (cA 0, 3, .inl M_place)), ((ad 26), .inl (cA 1, 512, .inr (.inl M_value))), ((ad 27), .inl (cA 1, 512, .inr (.inl M_sets))), ((ad 28), .inl (cA 1, 512, .inr (.inl M_times))), ((ad 29), .inl (cA 1, 512, .inr (.inl M_nextValue))), ((ad 30), .inl (cA 1, 512, .inr (.inl M_nextSets))), ((ad 31), .inl (cA 1, 512, .inr (.inl M_nextTimes)))]) C (c_X4_in ad cA p1.toInt64 (-60 : Int64) (60 : Int64)) gX4_room_X4_in rfl hde_X4_in ⟨rfl, rfl⟩ (by decide) (by decide) [] [0, 1, 2, 3, 4, 5, 6, 7, 8, 9, 10, 11, 12] [0, 1, 2, 3, 4, 5, 6, 7, 8, 9, 10, 11, 12] rfl rfl rfl rfl (by decide) rfl (ws2 := fun u => [((ad 19), .inr (4, [.int (0 : Int32), .long M_trace, .ref (ad 20), .ref (ad 21), .ref (ad 22), .ref (ad 23), .ref (ad 24), .ref (ad 25), .ref (ad 26), .ref (ad 27), .ref (ad 28), .ref (ad 29), .ref (ad 30), .ref (ad 31), .long M_found, .long M_foundSet, .long M_foundTimes, .int M_w, .int M_h, .ref (ad 32), .ref (ad 33), .ref (ad 34)])), ((ad 20), .inl (cA 0, 3, .inl M_sides)), ((ad 21), .inl (cA 0, 36, .inl M_held)), ((ad 22), .inl (cA 0, 36, .inl M_price)), ((ad 23), .inl (cA 0, 7, .inl M_rules)), ((ad 24), .inl (cA 0, 3, .inl M_ways)), ((ad 25), .inl (cA 0, 3, .inl M_place)), ((ad 26), .inl (cA 1, 512, .inr (.inl M_value))), ((ad 27), .inl (cA 1, 512, .inr (.inl M_sets))), ((ad 28), .inl (cA 1, 512, .inr (.inl M_times))), ((ad 29), .inl (cA 1, 512, .inr (.inl M_nextValue))), ((ad 30), .inl (cA 1, 512, .inr (.inl M_nextSets))), ((ad 31), .inl (cA 1, 512, .inr (.inl M_nextTimes)))]) (fun _ => rfl) (rest := []) rfl (Nat.le_of_ble_eq_true rfl) dX4_room_13 (fun r_1 u_1 hp_1 => ?_)
  subst hp_1
  change gW X 0 0 [((ad 19), .inr (4, [.int (0 : Int32), .long M_trace, .ref (ad 20), .ref (ad 21), .ref (ad 22), .ref (ad 23), .ref (ad 24), .ref (ad 25), .ref (ad 26), .ref (ad 27), .ref (ad 28), .ref (ad 29), .ref (ad 30), .ref (ad 31), .long M_found, .long M_foundSet, .long M_foundTimes, .int M_w, .int M_h, .ref (ad 32), .ref (ad 33), .ref (ad 34)])), ((ad 20), .inl (cA 0, 3, .inl M_sides)), ((ad 21), .inl (cA 0, 36, .inl M_held)), ((ad 22), .inl (cA 0, 36, .inl M_price)), ((ad 23), .inl (cA 0, 7, .inl M_rules)), ((ad 24), .inl (cA 0, 3, .inl M_ways)), ((ad 25), .inl (cA 0, 3, .inl M_place)), ((ad 26), .inl (cA 1, 512, .inr (.inl M_value))), ((ad 27), .inl (cA 1, 512, .inr (.inl M_sets))), ((ad 28), .inl (cA 1, 512, .inr (.inl M_times))), ((ad 29), .inl (cA 1, 512, .inr (.inl M_nextValue))), ((ad 30), .inl (cA 1, 512, .inr (.inl M_nextSets))), ((ad 31), .inl (cA 1, 512, .inr (.inl M_nextTimes)))] 5 [(0, .ref (ad 19)), (1, .int p1), (2, .int p2)] [.int (bI (fnX4_in p1.toInt64 (-60 : Int64) (60 : Int64)))] 16
  refine g_ifeq_b (tgt := 29) C dX4_room_16 (by decide) (fun c_2 => ?_) (fun c_2 => ?_)
  · replace h := h.1 c_2
    refine g_iconst C dX4_room_29 ik_m1 ?_
    exact g_iret C E ((0 : Int32), M_found, M_foundSet, M_foundTimes, M_ways, M_place, M_value, M_sets, M_times, M_nextValue, M_nextSets, M_nextTimes) h rfl dX4_room_30
  · replace h := h.2 c_2
    refine g_iload_n C dX4_room_19 rfl 2 rfl ?_
    refine g_i2l C dX4_room_20 ?_
    refine g_lconst C dX4_room_21 lk_0 ?_
    refine g_lconst C dX4_room_22 lk_1 ?_
    refine g_callSi (b := 0) (wr := [((ad 19), .inr (4, [.int (0 : Int32), .long M_trace, .ref (ad 20), .ref (ad 21), .ref (ad 22), .ref (ad 23), .ref (ad 24), .ref (ad 25), .ref (ad 26), .ref (ad 27), .ref (ad 28), .ref (ad 29), .ref (ad 30), .ref (ad 31), .long M_found, .long M_foundSet, .long M_foundTimes, .int M_w, .int M_h, .ref (ad 32), .ref (ad 33), .ref (ad 34)])), ((ad 20), .inl (cA 0, 3, .inl M_sides)), ((ad 21), .inl (cA 0, 36, .inl M_held)), ((ad 22), .inl (cA 0, 36, .inl M_price)), ((ad 23), .inl (cA 0, 7, .inl M_rules)), ((ad 24), .inl (cA 0, 3, .inl M_ways)), ((ad 25), .inl (cA 0, 3, .inl M_place)), ((ad 26), .inl (cA 1, 512, .inr (.inl M_value))), ((ad 27), .inl (cA 1, 512, .inr (.inl M_sets))), ((ad 28), .inl (cA 1, 512, .inr (.inl M_times))), ((ad 29), .inl (cA 1, 512, .inr (.inl M_nextValue))), ((ad 30), .inl (cA 1, 512, .inr (.inl M_nextSets))), ((ad 31), .inl (cA 1, 512, .inr (.inl M_nextTimes)))]) C (c_X4_in ad cA p2.toInt64 (0 : Int64) (1 : Int64)) gX4_room_X4_in rfl hde_X4_in ⟨rfl, rfl⟩ (by decide) (by decide) [] [0, 1, 2, 3, 4, 5, 6, 7, 8, 9, 10, 11, 12] [0, 1, 2, 3, 4, 5, 6, 7, 8, 9, 10, 11, 12] rfl rfl rfl rfl (by decide) rfl (ws2 := fun u => [((ad 19), .inr (4, [.int (0 : Int32), .long M_trace, .ref (ad 20), .ref (ad 21), .ref (ad 22), .ref (ad 23), .ref (ad 24), .ref (ad 25), .ref (ad 26), .ref (ad 27), .ref (ad 28), .ref (ad 29), .ref (ad 30), .ref (ad 31), .long M_found, .long M_foundSet, .long M_foundTimes, .int M_w, .int M_h, .ref (ad 32), .ref (ad 33), .ref (ad 34)])), ((ad 20), .inl (cA 0, 3, .inl M_sides)), ((ad 21), .inl (cA 0, 36, .inl M_held)), ((ad 22), .inl (cA 0, 36, .inl M_price)), ((ad 23), .inl (cA 0, 7, .inl M_rules)), ((ad 24), .inl (cA 0, 3, .inl M_ways)), ((ad 25), .inl (cA 0, 3, .inl M_place)), ((ad 26), .inl (cA 1, 512, .inr (.inl M_value))), ((ad 27), .inl (cA 1, 512, .inr (.inl M_sets))), ((ad 28), .inl (cA 1, 512, .inr (.inl M_times))), ((ad 29), .inl (cA 1, 512, .inr (.inl M_nextValue))), ((ad 30), .inl (cA 1, 512, .inr (.inl M_nextSets))), ((ad 31), .inl (cA 1, 512, .inr (.inl M_nextTimes)))]) (fun _ => rfl) (rest := []) rfl (Nat.le_of_ble_eq_true rfl) dX4_room_23 (fun r_3 u_3 hp_3 => ?_)
    subst hp_3
    change gW X 0 0 [((ad 19), .inr (4, [.int (0 : Int32), .long M_trace, .ref (ad 20), .ref (ad 21), .ref (ad 22), .ref (ad 23), .ref (ad 24), .ref (ad 25), .ref (ad 26), .ref (ad 27), .ref (ad 28), .ref (ad 29), .ref (ad 30), .ref (ad 31), .long M_found, .long M_foundSet, .long M_foundTimes, .int M_w, .int M_h, .ref (ad 32), .ref (ad 33), .ref (ad 34)])), ((ad 20), .inl (cA 0, 3, .inl M_sides)), ((ad 21), .inl (cA 0, 36, .inl M_held)), ((ad 22), .inl (cA 0, 36, .inl M_price)), ((ad 23), .inl (cA 0, 7, .inl M_rules)), ((ad 24), .inl (cA 0, 3, .inl M_ways)), ((ad 25), .inl (cA 0, 3, .inl M_place)), ((ad 26), .inl (cA 1, 512, .inr (.inl M_value))), ((ad 27), .inl (cA 1, 512, .inr (.inl M_sets))), ((ad 28), .inl (cA 1, 512, .inr (.inl M_times))), ((ad 29), .inl (cA 1, 512, .inr (.inl M_nextValue))), ((ad 30), .inl (cA 1, 512, .inr (.inl M_nextSets))), ((ad 31), .inl (cA 1, 512, .inr (.inl M_nextTimes)))] 5 [(0, .ref (ad 19)), (1, .int p1), (2, .int p2)] [.int (bI (fnX4_in p2.toInt64 (0 : Int64) (1 : Int64)))] 26
    refine g_ifne_b (tgt := 31) C dX4_room_26 (by decide) (fun c_4 => ?_) (fun c_4 => ?_)
    · replace h := h.1 c_4
      refine g_aload_n C dX4_room_31 rfl 0 rfl ?_
      refine g_iload_n C dX4_room_32 rfl 1 rfl ?_
      refine g_iload_n C dX4_room_33 rfl 2 rfl ?_
      have key : gW X 0 0 [((ad 19), .inr (4, [.int (0 : Int32), .long M_trace, .ref (ad 20), .ref (ad 21), .ref (ad 22), .ref (ad 23), .ref (ad 24), .ref (ad 25), .ref (ad 26), .ref (ad 27), .ref (ad 28), .ref (ad 29), .ref (ad 30), .ref (ad 31), .long M_found, .long M_foundSet, .long M_foundTimes, .int M_w, .int M_h, .ref (ad 32), .ref (ad 33), .ref (ad 34)])), ((ad 20), .inl (cA 0, 3, .inl M_sides)), ((ad 21), .inl (cA 0, 36, .inl M_held)), ((ad 22), .inl (cA 0, 36, .inl M_price)), ((ad 23), .inl (cA 0, 7, .inl M_rules)), ((ad 24), .inl (cA 0, 3, .inl M_ways)), ((ad 25), .inl (cA 0, 3, .inl M_place)), ((ad 26), .inl (cA 1, 512, .inr (.inl M_value))), ((ad 27), .inl (cA 1, 512, .inr (.inl M_sets))), ((ad 28), .inl (cA 1, 512, .inr (.inl M_times))), ((ad 29), .inl (cA 1, 512, .inr (.inl M_nextValue))), ((ad 30), .inl (cA 1, 512, .inr (.inl M_nextSets))), ((ad 31), .inl (cA 1, 512, .inr (.inl M_nextTimes)))] 5 [(0, .ref (ad 19)), (1, .int p1), (2, .int p2)] [.int (if p2 = 0 then (1 : Int32) else (-1 : Int32)), .int p1, .ref (ad 19)] 42 := by
        obtain ⟨dx_6, dy_6, dz_6, h⟩ := h
        obtain ⟨hi_7, h⟩ := h
        refine g_callVv (wr := []) C (c_X4_finds ad cA dx_6 dy_6 dz_6 p1 (if p2 = 0 then (1 : Int32) else (-1 : Int32)) (0 : Int32) M_trace M_found M_foundSet M_foundTimes M_w M_h M_sides M_held M_price M_rules M_ways M_place M_value M_sets M_times M_nextValue M_nextSets M_nextTimes hi_7) gX4_room_X4_finds rfl hde_X4_finds ⟨rfl, rfl⟩ (by decide) (by decide) [0, 1, 2, 3, 4, 5, 6, 7, 8, 9, 10, 11, 12] [] [0, 1, 2, 3, 4, 5, 6, 7, 8, 9, 10, 11, 12] rfl rfl rfl rfl (by decide) rfl (ws2 := fun u => [((ad 19), .inr (4, [.int (0 : Int32), .long M_trace, .ref (ad 20), .ref (ad 21), .ref (ad 22), .ref (ad 23), .ref (ad 24), .ref (ad 25), .ref (ad 26), .ref (ad 27), .ref (ad 28), .ref (ad 29), .ref (ad 30), .ref (ad 31), .long u.1, .long u.2.1, .long u.2.2.1, .int M_w, .int M_h, .ref (ad 32), .ref (ad 33), .ref (ad 34)])), ((ad 20), .inl (cA 0, 3, .inl M_sides)), ((ad 21), .inl (cA 0, 36, .inl M_held)), ((ad 22), .inl (cA 0, 36, .inl M_price)), ((ad 23), .inl (cA 0, 7, .inl M_rules)), ((ad 24), .inl (cA 0, 3, .inl u.2.2.2.1)), ((ad 25), .inl (cA 0, 3, .inl u.2.2.2.2.1)), ((ad 26), .inl (cA 1, 512, .inr (.inl u.2.2.2.2.2.1))), ((ad 27), .inl (cA 1, 512, .inr (.inl u.2.2.2.2.2.2.1))), ((ad 28), .inl (cA 1, 512, .inr (.inl u.2.2.2.2.2.2.2.1))), ((ad 29), .inl (cA 1, 512, .inr (.inl u.2.2.2.2.2.2.2.2.1))), ((ad 30), .inl (cA 1, 512, .inr (.inl u.2.2.2.2.2.2.2.2.2.1))), ((ad 31), .inl (cA 1, 512, .inr (.inl u.2.2.2.2.2.2.2.2.2.2)))]) (fun _ => rfl) 4 0 rfl rfl rfl (rest := []) rfl (Nat.le_of_ble_eq_true rfl) dX4_room_42 (fun u_8 hp_8 => ?_)
        obtain ⟨u8_M_found, u8_M_foundSet, u8_M_foundTimes, u8_M_ways, u8_M_place, u8_M_value, u8_M_sets, u8_M_times, u8_M_nextValue, u8_M_nextSets, u8_M_nextTimes⟩ := u_8
        replace h := h u8_M_found u8_M_foundSet u8_M_foundTimes u8_M_ways u8_M_place u8_M_value u8_M_sets u8_M_times u8_M_nextValue u8_M_nextSets u8_M_nextTimes hp_8
        change gW X 0 0 [((ad 19), .inr (4, [.int (0 : Int32), .long M_trace, .ref (ad 20), .ref (ad 21), .ref (ad 22), .ref (ad 23), .ref (ad 24), .ref (ad 25), .ref (ad 26), .ref (ad 27), .ref (ad 28), .ref (ad 29), .ref (ad 30), .ref (ad 31), .long u8_M_found, .long u8_M_foundSet, .long u8_M_foundTimes, .int M_w, .int M_h, .ref (ad 32), .ref (ad 33), .ref (ad 34)])), ((ad 20), .inl (cA 0, 3, .inl M_sides)), ((ad 21), .inl (cA 0, 36, .inl M_held)), ((ad 22), .inl (cA 0, 36, .inl M_price)), ((ad 23), .inl (cA 0, 7, .inl M_rules)), ((ad 24), .inl (cA 0, 3, .inl u8_M_ways)), ((ad 25), .inl (cA 0, 3, .inl u8_M_place)), ((ad 26), .inl (cA 1, 512, .inr (.inl u8_M_value))), ((ad 27), .inl (cA 1, 512, .inr (.inl u8_M_sets))), ((ad 28), .inl (cA 1, 512, .inr (.inl u8_M_times))), ((ad 29), .inl (cA 1, 512, .inr (.inl u8_M_nextValue))), ((ad 30), .inl (cA 1, 512, .inr (.inl u8_M_nextSets))), ((ad 31), .inl (cA 1, 512, .inr (.inl u8_M_nextTimes)))] 5 [(0, .ref (ad 19)), (1, .int p1), (2, .int p2)] [] 45
        refine g_iconst C dX4_room_45 ik_0 ?_
        refine g_istore_n (lv2 := [(0, .ref (ad 19)), (1, .int p1), (2, .int p2), (3, .int (0 : Int32))]) C dX4_room_46 rfl (by decide) [1, 2, 3, 0] rfl ?_
        refine g_iconst C dX4_room_47 ik_0 ?_
        refine g_istore (lv2 := [(0, .ref (ad 19)), (1, .int p1), (2, .int p2), (3, .int (0 : Int32)), (4, .int (0 : Int32))]) C dX4_room_48 (by decide) [1, 2, 3, 4, 0] rfl ?_
        exact g_lv [0, 3, 4] rfl h
      refine g_if_ne (tgt := 41) C dX4_room_34 (by decide) (fun c_5 => ?_) (fun c_5 => ?_)
      · refine g_iconst C dX4_room_41 ik_m1 ?_
        exact g_leaf (by simp only [if_neg c_5] at key; first | exact key | (simp only [if_neg c_5]; exact key) | exact absurd rfl c_5)
      · refine g_iconst C dX4_room_37 ik_1 ?_
        refine g_goto (tgt := 42) C dX4_room_38 (by decide) ?_
        exact g_leaf (by simp only [if_pos c_5] at key; first | exact key | (simp only [if_pos c_5]; exact key) | exact absurd rfl c_5)
    · replace h := h.2 c_4
      refine g_iconst C dX4_room_29 ik_m1 ?_
      exact g_iret C E ((0 : Int32), M_found, M_foundSet, M_foundTimes, M_ways, M_place, M_value, M_sets, M_times, M_nextValue, M_nextSets, M_nextTimes) h rfl dX4_room_30
set_option maxHeartbeats 4000000 in
set_option maxRecDepth 100000 in
theorem sgX4_room_50 {X : gX} {ad : Nat → Nat} {cA : Nat → ClassId} {post : Int32 → ((Int32) × (Int64) × (Int64) × (Int64) × (Nat → Int32) × (Nat → Int32) × (Nat → Int64) × (Nat → Int64) × (Nat → Int64) × (Nat → Int64) × (Nat → Int64) × (Nat → Int64)) → Prop} {x3 : Int32} {x4 : Int32} {M_thrown : Int32} {M_trace : Int64} {M_found : Int64} {M_foundSet : Int64} {M_foundTimes : Int64} {M_w : Int32} {M_h : Int32} {M_sides : Nat → Int32} {M_held : Nat → Int32} {M_price : Nat → Int32} {M_rules : Nat → Int32} {M_ways : Nat → Int32} {M_place : Nat → Int32} {M_value : Nat → Int64} {M_sets : Nat → Int64} {M_times : Nat → Int64} {M_nextValue : Nat → Int64} {M_nextSets : Nat → Int64} {M_nextTimes : Nat → Int64} (C : gC X (gT cA) cX4_room 5 RX4 wsX4_room rmX4_room) (E : gEi X (some .int) (gT cA) 0 0 post (w1X4_room ad cA M_trace M_w M_h M_sides M_held M_price M_rules)) (h : prX4_cells M_thrown M_trace M_found M_foundSet M_foundTimes M_w M_h M_sides ∧ ((fnX4_cells M_thrown M_trace M_found M_foundSet M_foundTimes M_w M_h M_sides) ≤ x4 → post x3 (M_thrown, M_found, M_foundSet, M_foundTimes, M_ways, M_place, M_value, M_sets, M_times, M_nextValue, M_nextSets, M_nextTimes)) ∧ (¬ (fnX4_cells M_thrown M_trace M_found M_foundSet M_foundTimes M_w M_h M_sides) ≤ x4 → ∀ x3_12 : Int32, x3_12 = (x3 + (((M_foundSet >>> (x4.toInt64 &&& 63)) &&& (1 : Int64)).toInt32)) → atX4_room_50 X ad cA x3_12 (x4 + 1) M_thrown M_trace M_found M_foundSet M_foundTimes M_w M_h M_sides M_held M_price M_rules M_ways M_place M_value M_sets M_times M_nextValue M_nextSets M_nextTimes)) : atX4_room_50 X ad cA x3 x4 M_thrown M_trace M_found M_foundSet M_foundTimes M_w M_h M_sides M_held M_price M_rules M_ways M_place M_value M_sets M_times M_nextValue M_nextSets M_nextTimes := by
  refine g_iload C dX4_room_50 2 rfl ?_
  refine g_aload_n C dX4_room_52 rfl 0 rfl ?_
  obtain ⟨hi_9, h⟩ := h
  refine g_callVi (wr := [((ad 21), .inl (cA 0, 36, .inl M_held)), ((ad 22), .inl (cA 0, 36, .inl M_price)), ((ad 23), .inl (cA 0, 7, .inl M_rules)), ((ad 24), .inl (cA 0, 3, .inl M_ways)), ((ad 25), .inl (cA 0, 3, .inl M_place)), ((ad 26), .inl (cA 1, 512, .inr (.inl M_value))), ((ad 27), .inl (cA 1, 512, .inr (.inl M_sets))), ((ad 28), .inl (cA 1, 512, .inr (.inl M_times))), ((ad 29), .inl (cA 1, 512, .inr (.inl M_nextValue))), ((ad 30), .inl (cA 1, 512, .inr (.inl M_nextSets))), ((ad 31), .inl (cA 1, 512, .inr (.inl M_nextTimes)))]) C (c_X4_cells ad cA M_thrown M_trace M_found M_foundSet M_foundTimes M_w M_h M_sides hi_9) gX4_room_X4_cells rfl hde_X4_cells ⟨rfl, rfl⟩ (by decide) (by decide) [0, 1] [2, 3, 4, 5, 6, 7, 8, 9, 10, 11, 12] [11, 12, 0, 1, 2, 3, 4, 5, 6, 7, 8, 9, 10] rfl rfl rfl rfl (by decide) rfl (ws2 := fun u => [((ad 19), .inr (4, [.int M_thrown, .long M_trace, .ref (ad 20), .ref (ad 21), .ref (ad 22), .ref (ad 23), .ref (ad 24), .ref (ad 25), .ref (ad 26), .ref (ad 27), .ref (ad 28), .ref (ad 29), .ref (ad 30), .ref (ad 31), .long M_found, .long M_foundSet, .long M_foundTimes, .int M_w, .int M_h, .ref (ad 32), .ref (ad 33), .ref (ad 34)])), ((ad 20), .inl (cA 0, 3, .inl M_sides)), ((ad 21), .inl (cA 0, 36, .inl M_held)), ((ad 22), .inl (cA 0, 36, .inl M_price)), ((ad 23), .inl (cA 0, 7, .inl M_rules)), ((ad 24), .inl (cA 0, 3, .inl M_ways)), ((ad 25), .inl (cA 0, 3, .inl M_place)), ((ad 26), .inl (cA 1, 512, .inr (.inl M_value))), ((ad 27), .inl (cA 1, 512, .inr (.inl M_sets))), ((ad 28), .inl (cA 1, 512, .inr (.inl M_times))), ((ad 29), .inl (cA 1, 512, .inr (.inl M_nextValue))), ((ad 30), .inl (cA 1, 512, .inr (.inl M_nextSets))), ((ad 31), .inl (cA 1, 512, .inr (.inl M_nextTimes)))]) (fun _ => rfl) 4 0 rfl rfl rfl (rest := [.int x4]) rfl (Nat.le_of_ble_eq_true rfl) dX4_room_53 (fun r_10 u_10 hp_10 => ?_)
  subst hp_10
  change gW X 0 0 [((ad 19), .inr (4, [.int M_thrown, .long M_trace, .ref (ad 20), .ref (ad 21), .ref (ad 22), .ref (ad 23), .ref (ad 24), .ref (ad 25), .ref (ad 26), .ref (ad 27), .ref (ad 28), .ref (ad 29), .ref (ad 30), .ref (ad 31), .long M_found, .long M_foundSet, .long M_foundTimes, .int M_w, .int M_h, .ref (ad 32), .ref (ad 33), .ref (ad 34)])), ((ad 20), .inl (cA 0, 3, .inl M_sides)), ((ad 21), .inl (cA 0, 36, .inl M_held)), ((ad 22), .inl (cA 0, 36, .inl M_price)), ((ad 23), .inl (cA 0, 7, .inl M_rules)), ((ad 24), .inl (cA 0, 3, .inl M_ways)), ((ad 25), .inl (cA 0, 3, .inl M_place)), ((ad 26), .inl (cA 1, 512, .inr (.inl M_value))), ((ad 27), .inl (cA 1, 512, .inr (.inl M_sets))), ((ad 28), .inl (cA 1, 512, .inr (.inl M_times))), ((ad 29), .inl (cA 1, 512, .inr (.inl M_nextValue))), ((ad 30), .inl (cA 1, 512, .inr (.inl M_nextSets))), ((ad 31), .inl (cA 1, 512, .inr (.inl M_nextTimes)))] 5 [(0, .ref (ad 19)), (3, .int x3), (4, .int x4)] [.int (fnX4_cells M_thrown M_trace M_found M_foundSet M_foundTimes M_w M_h M_sides), .int x4] 56
  refine g_icmp_ge (tgt := 78) C dX4_room_56 (by decide) (fun c_11 => ?_) (fun c_11 => ?_)
  · replace h := h.1 c_11
    refine g_iload_n C dX4_room_78 rfl 1 rfl ?_
    exact g_iret C E (M_thrown, M_found, M_foundSet, M_foundTimes, M_ways, M_place, M_value, M_sets, M_times, M_nextValue, M_nextSets, M_nextTimes) h rfl dX4_room_79
  · replace h := h.2 c_11
    refine g_iload_n C dX4_room_59 rfl 1 rfl ?_
    refine g_aload_n C dX4_room_60 rfl 0 rfl ?_
    refine g_get C gfX4_room_150 0 rfl rfl dX4_room_61 ?_
    refine g_iload C dX4_room_64 2 rfl ?_
    refine g_lshr C dX4_room_66 ?_
    refine g_lconst C dX4_room_67 lk_1 ?_
    refine g_land C dX4_room_68 ?_
    refine g_l2i C dX4_room_69 ?_
    refine g_iadd C dX4_room_70 ?_
    refine g_topi (fun x3_12 ex3_12 => ?_)
    replace h := h x3_12 ex3_12
    refine g_istore_n (lv2 := [(0, .ref (ad 19)), (3, .int x3_12), (4, .int x4)]) C dX4_room_71 rfl (by decide) [1, 0, 2] rfl ?_
    refine g_iinc (v := (x4 + 1)) (lv2 := [(0, .ref (ad 19)), (3, .int x3_12), (4, .int (x4 + 1))]) C dX4_room_72 2 rfl (by first | rfl | decide) (by decide) [1, 2, 0] rfl ?_
    refine g_goto (tgt := 50) C dX4_room_75 (by decide) ?_
    exact g_lv [0, 1, 2] rfl h
def prX4_room (dx : Nat) (dy : Nat) (dz : Nat) (p1 : Int32) (p2 : Int32) (M_thrown : Int32) (M_trace : Int64) (M_found : Int64) (M_foundSet : Int64) (M_foundTimes : Int64) (M_w : Int32) (M_h : Int32) (M_sides : Nat → Int32) (M_held : Nat → Int32) (M_price : Nat → Int32) (M_rules : Nat → Int32) (M_ways : Nat → Int32) (M_place : Nat → Int32) (M_value : Nat → Int64) (M_sets : Nat → Int64) (M_times : Nat → Int64) (M_nextValue : Nat → Int64) (M_nextSets : Nat → Int64) (M_nextTimes : Nat → Int64) : Prop := dimOK dx dy dz ∧ sdOK M_sides dx dy dz ∧ ruOK M_rules ∧ prOK (dx * dy * dz) M_price
def po_X4_room (ad : Nat → Nat) (cA : Nat → ClassId) (dx : Nat) (dy : Nat) (dz : Nat) (p1 : Int32) (p2 : Int32) (M_thrown : Int32) (M_trace : Int64) (M_found : Int64) (M_foundSet : Int64) (M_foundTimes : Int64) (M_w : Int32) (M_h : Int32) (M_sides : Nat → Int32) (M_held : Nat → Int32) (M_price : Nat → Int32) (M_rules : Nat → Int32) (M_ways : Nat → Int32) (M_place : Nat → Int32) (M_value : Nat → Int64) (M_sets : Nat → Int64) (M_times : Nat → Int64) (M_nextValue : Nat → Int64) (M_nextSets : Nat → Int64) (M_nextTimes : Nat → Int64) (r : Int32) (u : (Int32) × (Int64) × (Int64) × (Int64) × (Nat → Int32) × (Nat → Int32) × (Nat → Int64) × (Nat → Int64) × (Nat → Int64) × (Nat → Int64) × (Nat → Int64) × (Nat → Int64)) : Prop := ((-60 ≤ p1.toInt ∧ p1.toInt ≤ 60) ∧ (0 ≤ p2.toInt ∧ p2.toInt ≤ 1) → ∀ be pl am lo hi, geoOK dx dy dz pl be → setOK (dx * dy * dz) be pl M_rules M_price M_held p1.toInt am lo hi → r = nI (cntA (dx * dy * dz) (sb (if p2 = 0 then lo else hi)))) ∧ (¬ ((-60 ≤ p1.toInt ∧ p1.toInt ≤ 60) ∧ (0 ≤ p2.toInt ∧ p2.toInt ≤ 1)) → r = -1)
set_option maxHeartbeats 4000000 in
set_option maxRecDepth 100000 in
theorem c_X4_room (ad : Nat → Nat) (cA : Nat → ClassId) (dx : Nat) (dy : Nat) (dz : Nat) (p1 : Int32) (p2 : Int32) (M_thrown : Int32) (M_trace : Int64) (M_found : Int64) (M_foundSet : Int64) (M_foundTimes : Int64) (M_w : Int32) (M_h : Int32) (M_sides : Nat → Int32) (M_held : Nat → Int32) (M_price : Nat → Int32) (M_rules : Nat → Int32) (M_ways : Nat → Int32) (M_place : Nat → Int32) (M_value : Nat → Int64) (M_sets : Nat → Int64) (M_times : Nat → Int64) (M_nextValue : Nat → Int64) (M_nextSets : Nat → Int64) (M_nextTimes : Nat → Int64) (hq : prX4_room dx dy dz p1 p2 M_thrown M_trace M_found M_foundSet M_foundTimes M_w M_h M_sides M_held M_price M_rules M_ways M_place M_value M_sets M_times M_nextValue M_nextSets M_nextTimes) : ∀ (l : Launch) (D : va_G), gMi (S := (Int32) × (Int64) × (Int64) × (Int64) × (Nat → Int32) × (Nat → Int32) × (Nat → Int64) × (Nat → Int64) × (Nat → Int64) × (Nat → Int64) × (Nat → Int64) × (Nat → Int64)) l yX4_room wsX4_room rmX4_room D (gT cA) 0 0 [.ref (ad 19), .int p1, .int p2] (wcX4_room ad cA M_thrown M_trace M_found M_foundSet M_foundTimes M_w M_h M_sides M_held M_price M_rules M_ways M_place M_value M_sets M_times M_nextValue M_nextSets M_nextTimes) (po_X4_room ad cA dx dy dz p1 p2 M_thrown M_trace M_found M_foundSet M_foundTimes M_w M_h M_sides M_held M_price M_rules M_ways M_place M_value M_sets M_times M_nextValue M_nextSets M_nextTimes) (w1X4_room ad cA M_trace M_w M_h M_sides M_held M_price M_rules) := by
  intro l D
  unfold prX4_room at hq
  refine g_enteri (cc := cX4_room) (nL := 5) (ret := (some .int)) (by decide) rfl (Nat.le_of_ble_eq_true rfl) rfl (fun X C E => ?_)
  obtain ⟨hd, hs, hr, hp⟩ := hq
  have hV := hd.2.2.2.2.2.2
  obtain ⟨c1, c2⟩ := cells_eq (M_thrown := 0) (M_trace := M_trace) (M_w := M_w) (M_h := M_h) (M_found := 0) (M_foundSet := 0) (M_foundTimes := 0) hs
  refine sgX4_room_0 C E ⟨fun c => ⟨fun q => absurd q.1 (in_f c), fun _ => rfl⟩, fun ca => ⟨fun cb => ⟨dx, dy, dz, ⟨hd, hs, hr, hp, (in_t ca).1, (in_t ca).2, by split <;> decide, by split <;> decide⟩, fun fv fs ft wy pl va se ti nv ns nt hf => ?_⟩, fun c => ⟨fun q => absurd q.2 (in_f c), fun _ => rfl⟩⟩⟩
  have fin : ∀ u, po_X4_room ad cA dx dy dz p1 p2 M_thrown M_trace M_found M_foundSet M_foundTimes M_w M_h M_sides M_held M_price M_rules M_ways M_place M_value M_sets M_times M_nextValue M_nextSets M_nextTimes (nI (cntA (dx * dy * dz) (sb fs))) u := by
    intro u
    refine ⟨fun _ => ?_, fun q => absurd ⟨in_t ca, in_t cb⟩ q⟩
    intro be pl am lo hi hg hset
    obtain ⟨w0, w1, w2, hw, hsm⟩ := hf
    by_cases q : p2 = 0
    · rw [if_pos q] at hsm ⊢
      have e : fs = lo := sm_low hd hw hg hset hsm
      rw [e]
    · rw [if_neg q] at hsm ⊢
      have e : fs = hi := sm_high hd hw hg hset hsm
      rw [e]
  have loop : ∀ c, c ≤ dx * dy * dz → atX4_room_50 X ad cA (nI (cntA c (sb fs))) (nI c) 0 M_trace fv fs ft M_w M_h M_sides M_held M_price M_rules wy pl va se ti nv ns nt := by
    intro c hc'
    refine up_loop (P := fun c => atX4_room_50 X ad cA (nI (cntA c (sb fs))) (nI c) 0 M_trace fv fs ft M_w M_h M_sides M_held M_price M_rules wy pl va se ti nv ns nt) (dx * dy * dz) ?_ (fun c hc ih => ?_) c hc'
    · refine sgX4_room_50 C E ⟨c2, fun _ => fin _, fun c => ?_⟩
      have c' : ¬ fnX4_cells 0 M_trace 0 0 0 M_w M_h M_sides ≤ nI (dx * dy * dz) := c
      rw [c1] at c'; exact absurd (i32_le_refl _) c'
    · refine sgX4_room_50 C E ⟨c2, fun c_ => ?_, fun _ x e => ?_⟩
      · have c' : fnX4_cells 0 M_trace 0 0 0 M_w M_h M_sides ≤ nI c := c_
        rw [c1] at c'; exact absurd c' (nI_ge hc (by omega))
      · have e2 : x = nI (cntA (c + 1) (sb fs)) := by
          rw [e, zb_bit' fs (by omega)]
          simp only [cntA]
          by_cases q : sb fs c = true
          · rw [if_pos q, if_pos q]; exact nI_1 _
          · rw [if_neg q, if_neg q]; exact Int32.add_zero _
        rw [e2, nI_1 c]; exact ih
  exact loop 0 (Nat.zero_le _)


abbrev w1X4_many (ad : Nat → Nat) (cA : Nat → ClassId) (M_trace : Int64) (M_w : Int32) (M_h : Int32) (M_sides : Nat → Int32) (M_held : Nat → Int32) (M_price : Nat → Int32) (M_rules : Nat → Int32) (u : (Int32) × (Int64) × (Int64) × (Int64) × (Nat → Int32) × (Nat → Int32) × (Nat → Int64) × (Nat → Int64) × (Nat → Int64) × (Nat → Int64) × (Nat → Int64) × (Nat → Int64)) : va_W := [((ad 19), .inr (4, [.int u.1, .long M_trace, .ref (ad 20), .ref (ad 21), .ref (ad 22), .ref (ad 23), .ref (ad 24), .ref (ad 25), .ref (ad 26), .ref (ad 27), .ref (ad 28), .ref (ad 29), .ref (ad 30), .ref (ad 31), .long u.2.1, .long u.2.2.1, .long u.2.2.2.1, .int M_w, .int M_h, .ref (ad 32), .ref (ad 33), .ref (ad 34)])), ((ad 20), .inl (cA 0, 3, .inl M_sides)), ((ad 21), .inl (cA 0, 36, .inl M_held)), ((ad 22), .inl (cA 0, 36, .inl M_price)), ((ad 23), .inl (cA 0, 7, .inl M_rules)), ((ad 24), .inl (cA 0, 3, .inl u.2.2.2.2.1)), ((ad 25), .inl (cA 0, 3, .inl u.2.2.2.2.2.1)), ((ad 26), .inl (cA 1, 512, .inr (.inl u.2.2.2.2.2.2.1))), ((ad 27), .inl (cA 1, 512, .inr (.inl u.2.2.2.2.2.2.2.1))), ((ad 28), .inl (cA 1, 512, .inr (.inl u.2.2.2.2.2.2.2.2.1))), ((ad 29), .inl (cA 1, 512, .inr (.inl u.2.2.2.2.2.2.2.2.2.1))), ((ad 30), .inl (cA 1, 512, .inr (.inl u.2.2.2.2.2.2.2.2.2.2.1))), ((ad 31), .inl (cA 1, 512, .inr (.inl u.2.2.2.2.2.2.2.2.2.2.2)))]
abbrev wcX4_many (ad : Nat → Nat) (cA : Nat → ClassId) (M_thrown : Int32) (M_trace : Int64) (M_found : Int64) (M_foundSet : Int64) (M_foundTimes : Int64) (M_w : Int32) (M_h : Int32) (M_sides : Nat → Int32) (M_held : Nat → Int32) (M_price : Nat → Int32) (M_rules : Nat → Int32) (M_ways : Nat → Int32) (M_place : Nat → Int32) (M_value : Nat → Int64) (M_sets : Nat → Int64) (M_times : Nat → Int64) (M_nextValue : Nat → Int64) (M_nextSets : Nat → Int64) (M_nextTimes : Nat → Int64) : va_W := [((ad 19), .inr (4, [.int M_thrown, .long M_trace, .ref (ad 20), .ref (ad 21), .ref (ad 22), .ref (ad 23), .ref (ad 24), .ref (ad 25), .ref (ad 26), .ref (ad 27), .ref (ad 28), .ref (ad 29), .ref (ad 30), .ref (ad 31), .long M_found, .long M_foundSet, .long M_foundTimes, .int M_w, .int M_h, .ref (ad 32), .ref (ad 33), .ref (ad 34)])), ((ad 20), .inl (cA 0, 3, .inl M_sides)), ((ad 21), .inl (cA 0, 36, .inl M_held)), ((ad 22), .inl (cA 0, 36, .inl M_price)), ((ad 23), .inl (cA 0, 7, .inl M_rules)), ((ad 24), .inl (cA 0, 3, .inl M_ways)), ((ad 25), .inl (cA 0, 3, .inl M_place)), ((ad 26), .inl (cA 1, 512, .inr (.inl M_value))), ((ad 27), .inl (cA 1, 512, .inr (.inl M_sets))), ((ad 28), .inl (cA 1, 512, .inr (.inl M_times))), ((ad 29), .inl (cA 1, 512, .inr (.inl M_nextValue))), ((ad 30), .inl (cA 1, 512, .inr (.inl M_nextSets))), ((ad 31), .inl (cA 1, 512, .inr (.inl M_nextTimes)))]
def rmX4_many : Room := { frames := 4, cells := 0, slots := 0, locals := 103 }
abbrev atX4_many_0 (X : gX) (ad : Nat → Nat) (cA : Nat → ClassId) (M_thrown : Int32) (M_trace : Int64) (M_found : Int64) (M_foundSet : Int64) (M_foundTimes : Int64) (M_w : Int32) (M_h : Int32) (M_sides : Nat → Int32) (M_held : Nat → Int32) (M_price : Nat → Int32) (M_rules : Nat → Int32) (M_ways : Nat → Int32) (M_place : Nat → Int32) (M_value : Nat → Int64) (M_sets : Nat → Int64) (M_times : Nat → Int64) (M_nextValue : Nat → Int64) (M_nextSets : Nat → Int64) (M_nextTimes : Nat → Int64) : Prop := gW X 0 0 [((ad 19), .inr (4, [.int M_thrown, .long M_trace, .ref (ad 20), .ref (ad 21), .ref (ad 22), .ref (ad 23), .ref (ad 24), .ref (ad 25), .ref (ad 26), .ref (ad 27), .ref (ad 28), .ref (ad 29), .ref (ad 30), .ref (ad 31), .long M_found, .long M_foundSet, .long M_foundTimes, .int M_w, .int M_h, .ref (ad 32), .ref (ad 33), .ref (ad 34)])), ((ad 20), .inl (cA 0, 3, .inl M_sides)), ((ad 21), .inl (cA 0, 36, .inl M_held)), ((ad 22), .inl (cA 0, 36, .inl M_price)), ((ad 23), .inl (cA 0, 7, .inl M_rules)), ((ad 24), .inl (cA 0, 3, .inl M_ways)), ((ad 25), .inl (cA 0, 3, .inl M_place)), ((ad 26), .inl (cA 1, 512, .inr (.inl M_value))), ((ad 27), .inl (cA 1, 512, .inr (.inl M_sets))), ((ad 28), .inl (cA 1, 512, .inr (.inl M_times))), ((ad 29), .inl (cA 1, 512, .inr (.inl M_nextValue))), ((ad 30), .inl (cA 1, 512, .inr (.inl M_nextSets))), ((ad 31), .inl (cA 1, 512, .inr (.inl M_nextTimes)))] 1 [(0, .ref (ad 19))] [] 0
theorem giX4_many_X4 : ∀ w ∈ u_ws RX4 TX4 22, w ∈ wsX4_many := by decide +kernel
theorem gfX4_many_67 : gF wsX4_many RX4 67 4 0 RX4 TX4 22 := ⟨giX4_many_X4, by decide +kernel, rfl, by decide⟩
theorem gfX4_many_147 : gF wsX4_many RX4 147 4 16 RX4 TX4 22 := ⟨giX4_many_X4, by decide +kernel, rfl, by decide⟩
set_option maxHeartbeats 4000000 in
set_option maxRecDepth 100000 in
theorem sgX4_many_0 {X : gX} {ad : Nat → Nat} {cA : Nat → ClassId} {post : Int32 → ((Int32) × (Int64) × (Int64) × (Int64) × (Nat → Int32) × (Nat → Int32) × (Nat → Int64) × (Nat → Int64) × (Nat → Int64) × (Nat → Int64) × (Nat → Int64) × (Nat → Int64)) → Prop} {M_thrown : Int32} {M_trace : Int64} {M_found : Int64} {M_foundSet : Int64} {M_foundTimes : Int64} {M_w : Int32} {M_h : Int32} {M_sides : Nat → Int32} {M_held : Nat → Int32} {M_price : Nat → Int32} {M_rules : Nat → Int32} {M_ways : Nat → Int32} {M_place : Nat → Int32} {M_value : Nat → Int64} {M_sets : Nat → Int64} {M_times : Nat → Int64} {M_nextValue : Nat → Int64} {M_nextSets : Nat → Int64} {M_nextTimes : Nat → Int64} (C : gC X (gT cA) cX4_many 1 RX4 wsX4_many rmX4_many) (E : gEi X (some .int) (gT cA) 0 0 post (w1X4_many ad cA M_trace M_w M_h M_sides M_held M_price M_rules)) (h : ∃ (dx_1 : Nat) (dy_1 : Nat) (dz_1 : Nat), prX4_free dx_1 dy_1 dz_1 (0 : Int32) M_trace M_found M_foundSet M_foundTimes M_w M_h M_sides M_held ∧ ∀ (r_3 : Int32), po_X4_free ad cA dx_1 dy_1 dz_1 (0 : Int32) M_trace M_found M_foundSet M_foundTimes M_w M_h M_sides M_held r_3 () → (r_3 ≤ (12 : Int32) → ∃ (dx_5 : Nat) (dy_5 : Nat) (dz_5 : Nat), prX4_finds dx_5 dy_5 dz_5 (0 : Int32) (0 : Int32) (0 : Int32) M_trace M_found M_foundSet M_foundTimes M_w M_h M_sides M_held M_price M_rules M_ways M_place M_value M_sets M_times M_nextValue M_nextSets M_nextTimes ∧ ∀ (u7_M_found : Int64) (u7_M_foundSet : Int64) (u7_M_foundTimes : Int64) (u7_M_ways : Nat → Int32) (u7_M_place : Nat → Int32) (u7_M_value : Nat → Int64) (u7_M_sets : Nat → Int64) (u7_M_times : Nat → Int64) (u7_M_nextValue : Nat → Int64) (u7_M_nextSets : Nat → Int64) (u7_M_nextTimes : Nat → Int64), po_X4_finds ad cA dx_5 dy_5 dz_5 (0 : Int32) (0 : Int32) (0 : Int32) M_trace M_found M_foundSet M_foundTimes M_w M_h M_sides M_held M_price M_rules M_ways M_place M_value M_sets M_times M_nextValue M_nextSets M_nextTimes (u7_M_found, u7_M_foundSet, u7_M_foundTimes, u7_M_ways, u7_M_place, u7_M_value, u7_M_sets, u7_M_times, u7_M_nextValue, u7_M_nextSets, u7_M_nextTimes) → post u7_M_foundTimes.toInt32 ((0 : Int32), u7_M_found, u7_M_foundSet, u7_M_foundTimes, u7_M_ways, u7_M_place, u7_M_value, u7_M_sets, u7_M_times, u7_M_nextValue, u7_M_nextSets, u7_M_nextTimes)) ∧ (¬ r_3 ≤ (12 : Int32) → post (-2 : Int32) ((0 : Int32), M_found, M_foundSet, M_foundTimes, M_ways, M_place, M_value, M_sets, M_times, M_nextValue, M_nextSets, M_nextTimes))) : atX4_many_0 X ad cA M_thrown M_trace M_found M_foundSet M_foundTimes M_w M_h M_sides M_held M_price M_rules M_ways M_place M_value M_sets M_times M_nextValue M_nextSets M_nextTimes := by
  refine g_aload_n C dX4_many_0 rfl 0 rfl ?_
  refine g_iconst C dX4_many_1 ik_0 ?_
  refine g_put (ws2 := [((ad 19), .inr (4, [.int (0 : Int32), .long M_trace, .ref (ad 20), .ref (ad 21), .ref (ad 22), .ref (ad 23), .ref (ad 24), .ref (ad 25), .ref (ad 26), .ref (ad 27), .ref (ad 28), .ref (ad 29), .ref (ad 30), .ref (ad 31), .long M_found, .long M_foundSet, .long M_foundTimes, .int M_w, .int M_h, .ref (ad 32), .ref (ad 33), .ref (ad 34)])), ((ad 20), .inl (cA 0, 3, .inl M_sides)), ((ad 21), .inl (cA 0, 36, .inl M_held)), ((ad 22), .inl (cA 0, 36, .inl M_price)), ((ad 23), .inl (cA 0, 7, .inl M_rules)), ((ad 24), .inl (cA 0, 3, .inl M_ways)), ((ad 25), .inl (cA 0, 3, .inl M_place)), ((ad 26), .inl (cA 1, 512, .inr (.inl M_value))), ((ad 27), .inl (cA 1, 512, .inr (.inl M_sets))), ((ad 28), .inl (cA 1, 512, .inr (.inl M_times))), ((ad 29), .inl (cA 1, 512, .inr (.inl M_nextValue))), ((ad 30), .inl (cA 1, 512, .inr (.inl M_nextSets))), ((ad 31), .inl (cA 1, 512, .inr (.inl M_nextTimes)))]) C gfX4_many_67 0 tyX4_ok nmX4 rfl rfl rfl rfl (Nat.le_of_ble_eq_true rfl) rfl dX4_many_2 ?_
  refine g_aload_n C dX4_many_5 rfl 0 rfl ?_
  obtain ⟨dx_1, dy_1, dz_1, h⟩ := h
  obtain ⟨hi_2, h⟩ := h
  refine g_callVi (wr := [((ad 22), .inl (cA 0, 36, .inl M_price)), ((ad 23), .inl (cA 0, 7, .inl M_rules)), ((ad 24), .inl (cA 0, 3, .inl M_ways)), ((ad 25), .inl (cA 0, 3, .inl M_place)), ((ad 26), .inl (cA 1, 512, .inr (.inl M_value))), ((ad 27), .inl (cA 1, 512, .inr (.inl M_sets))), ((ad 28), .inl (cA 1, 512, .inr (.inl M_times))), ((ad 29), .inl (cA 1, 512, .inr (.inl M_nextValue))), ((ad 30), .inl (cA 1, 512, .inr (.inl M_nextSets))), ((ad 31), .inl (cA 1, 512, .inr (.inl M_nextTimes)))]) C (c_X4_free ad cA dx_1 dy_1 dz_1 (0 : Int32) M_trace M_found M_foundSet M_foundTimes M_w M_h M_sides M_held hi_2) gX4_many_X4_free rfl hde_X4_free ⟨rfl, rfl⟩ (by decide) (by decide) [0, 1, 2] [3, 4, 5, 6, 7, 8, 9, 10, 11, 12] [10, 11, 12, 0, 1, 2, 3, 4, 5, 6, 7, 8, 9] rfl rfl rfl rfl (by decide) rfl (ws2 := fun u => [((ad 19), .inr (4, [.int (0 : Int32), .long M_trace, .ref (ad 20), .ref (ad 21), .ref (ad 22), .ref (ad 23), .ref (ad 24), .ref (ad 25), .ref (ad 26), .ref (ad 27), .ref (ad 28), .ref (ad 29), .ref (ad 30), .ref (ad 31), .long M_found, .long M_foundSet, .long M_foundTimes, .int M_w, .int M_h, .ref (ad 32), .ref (ad 33), .ref (ad 34)])), ((ad 20), .inl (cA 0, 3, .inl M_sides)), ((ad 21), .inl (cA 0, 36, .inl M_held)), ((ad 22), .inl (cA 0, 36, .inl M_price)), ((ad 23), .inl (cA 0, 7, .inl M_rules)), ((ad 24), .inl (cA 0, 3, .inl M_ways)), ((ad 25), .inl (cA 0, 3, .inl M_place)), ((ad 26), .inl (cA 1, 512, .inr (.inl M_value))), ((ad 27), .inl (cA 1, 512, .inr (.inl M_sets))), ((ad 28), .inl (cA 1, 512, .inr (.inl M_times))), ((ad 29), .inl (cA 1, 512, .inr (.inl M_nextValue))), ((ad 30), .inl (cA 1, 512, .inr (.inl M_nextSets))), ((ad 31), .inl (cA 1, 512, .inr (.inl M_nextTimes)))]) (fun _ => rfl) 4 0 rfl rfl rfl (rest := []) rfl (Nat.le_of_ble_eq_true rfl) dX4_many_6 (fun r_3 u_3 hp_3 => ?_)
  replace h := h r_3 hp_3
  change gW X 0 0 [((ad 19), .inr (4, [.int (0 : Int32), .long M_trace, .ref (ad 20), .ref (ad 21), .ref (ad 22), .ref (ad 23), .ref (ad 24), .ref (ad 25), .ref (ad 26), .ref (ad 27), .ref (ad 28), .ref (ad 29), .ref (ad 30), .ref (ad 31), .long M_found, .long M_foundSet, .long M_foundTimes, .int M_w, .int M_h, .ref (ad 32), .ref (ad 33), .ref (ad 34)])), ((ad 20), .inl (cA 0, 3, .inl M_sides)), ((ad 21), .inl (cA 0, 36, .inl M_held)), ((ad 22), .inl (cA 0, 36, .inl M_price)), ((ad 23), .inl (cA 0, 7, .inl M_rules)), ((ad 24), .inl (cA 0, 3, .inl M_ways)), ((ad 25), .inl (cA 0, 3, .inl M_place)), ((ad 26), .inl (cA 1, 512, .inr (.inl M_value))), ((ad 27), .inl (cA 1, 512, .inr (.inl M_sets))), ((ad 28), .inl (cA 1, 512, .inr (.inl M_times))), ((ad 29), .inl (cA 1, 512, .inr (.inl M_nextValue))), ((ad 30), .inl (cA 1, 512, .inr (.inl M_nextSets))), ((ad 31), .inl (cA 1, 512, .inr (.inl M_nextTimes)))] 1 [(0, .ref (ad 19))] [.int r_3] 9
  refine g_bipush C dX4_many_9 bk_12 ?_
  refine g_icmp_le (tgt := 17) C dX4_many_11 (by decide) (fun c_4 => ?_) (fun c_4 => ?_)
  · replace h := h.1 c_4
    refine g_aload_n C dX4_many_17 rfl 0 rfl ?_
    refine g_iconst C dX4_many_18 ik_0 ?_
    refine g_iconst C dX4_many_19 ik_0 ?_
    obtain ⟨dx_5, dy_5, dz_5, h⟩ := h
    obtain ⟨hi_6, h⟩ := h
    refine g_callVv (wr := []) C (c_X4_finds ad cA dx_5 dy_5 dz_5 (0 : Int32) (0 : Int32) (0 : Int32) M_trace M_found M_foundSet M_foundTimes M_w M_h M_sides M_held M_price M_rules M_ways M_place M_value M_sets M_times M_nextValue M_nextSets M_nextTimes hi_6) gX4_many_X4_finds rfl hde_X4_finds ⟨rfl, rfl⟩ (by decide) (by decide) [0, 1, 2, 3, 4, 5, 6, 7, 8, 9, 10, 11, 12] [] [0, 1, 2, 3, 4, 5, 6, 7, 8, 9, 10, 11, 12] rfl rfl rfl rfl (by decide) rfl (ws2 := fun u => [((ad 19), .inr (4, [.int (0 : Int32), .long M_trace, .ref (ad 20), .ref (ad 21), .ref (ad 22), .ref (ad 23), .ref (ad 24), .ref (ad 25), .ref (ad 26), .ref (ad 27), .ref (ad 28), .ref (ad 29), .ref (ad 30), .ref (ad 31), .long u.1, .long u.2.1, .long u.2.2.1, .int M_w, .int M_h, .ref (ad 32), .ref (ad 33), .ref (ad 34)])), ((ad 20), .inl (cA 0, 3, .inl M_sides)), ((ad 21), .inl (cA 0, 36, .inl M_held)), ((ad 22), .inl (cA 0, 36, .inl M_price)), ((ad 23), .inl (cA 0, 7, .inl M_rules)), ((ad 24), .inl (cA 0, 3, .inl u.2.2.2.1)), ((ad 25), .inl (cA 0, 3, .inl u.2.2.2.2.1)), ((ad 26), .inl (cA 1, 512, .inr (.inl u.2.2.2.2.2.1))), ((ad 27), .inl (cA 1, 512, .inr (.inl u.2.2.2.2.2.2.1))), ((ad 28), .inl (cA 1, 512, .inr (.inl u.2.2.2.2.2.2.2.1))), ((ad 29), .inl (cA 1, 512, .inr (.inl u.2.2.2.2.2.2.2.2.1))), ((ad 30), .inl (cA 1, 512, .inr (.inl u.2.2.2.2.2.2.2.2.2.1))), ((ad 31), .inl (cA 1, 512, .inr (.inl u.2.2.2.2.2.2.2.2.2.2)))]) (fun _ => rfl) 4 0 rfl rfl rfl (rest := []) rfl (Nat.le_of_ble_eq_true rfl) dX4_many_20 (fun u_7 hp_7 => ?_)
    obtain ⟨u7_M_found, u7_M_foundSet, u7_M_foundTimes, u7_M_ways, u7_M_place, u7_M_value, u7_M_sets, u7_M_times, u7_M_nextValue, u7_M_nextSets, u7_M_nextTimes⟩ := u_7
    replace h := h u7_M_found u7_M_foundSet u7_M_foundTimes u7_M_ways u7_M_place u7_M_value u7_M_sets u7_M_times u7_M_nextValue u7_M_nextSets u7_M_nextTimes hp_7
    change gW X 0 0 [((ad 19), .inr (4, [.int (0 : Int32), .long M_trace, .ref (ad 20), .ref (ad 21), .ref (ad 22), .ref (ad 23), .ref (ad 24), .ref (ad 25), .ref (ad 26), .ref (ad 27), .ref (ad 28), .ref (ad 29), .ref (ad 30), .ref (ad 31), .long u7_M_found, .long u7_M_foundSet, .long u7_M_foundTimes, .int M_w, .int M_h, .ref (ad 32), .ref (ad 33), .ref (ad 34)])), ((ad 20), .inl (cA 0, 3, .inl M_sides)), ((ad 21), .inl (cA 0, 36, .inl M_held)), ((ad 22), .inl (cA 0, 36, .inl M_price)), ((ad 23), .inl (cA 0, 7, .inl M_rules)), ((ad 24), .inl (cA 0, 3, .inl u7_M_ways)), ((ad 25), .inl (cA 0, 3, .inl u7_M_place)), ((ad 26), .inl (cA 1, 512, .inr (.inl u7_M_value))), ((ad 27), .inl (cA 1, 512, .inr (.inl u7_M_sets))), ((ad 28), .inl (cA 1, 512, .inr (.inl u7_M_times))), ((ad 29), .inl (cA 1, 512, .inr (.inl u7_M_nextValue))), ((ad 30), .inl (cA 1, 512, .inr (.inl u7_M_nextSets))), ((ad 31), .inl (cA 1, 512, .inr (.inl u7_M_nextTimes)))] 1 [(0, .ref (ad 19))] [] 23
    refine g_aload_n C dX4_many_23 rfl 0 rfl ?_
    refine g_get C gfX4_many_147 0 rfl rfl dX4_many_24 ?_
    refine g_l2i C dX4_many_27 ?_
    exact g_iret C E ((0 : Int32), u7_M_found, u7_M_foundSet, u7_M_foundTimes, u7_M_ways, u7_M_place, u7_M_value, u7_M_sets, u7_M_times, u7_M_nextValue, u7_M_nextSets, u7_M_nextTimes) h rfl dX4_many_28
  · replace h := h.2 c_4
    refine g_bipush C dX4_many_14 bk_m2 ?_
    exact g_iret C E ((0 : Int32), M_found, M_foundSet, M_foundTimes, M_ways, M_place, M_value, M_sets, M_times, M_nextValue, M_nextSets, M_nextTimes) h rfl dX4_many_16
def prX4_many (dx : Nat) (dy : Nat) (dz : Nat) (M_thrown : Int32) (M_trace : Int64) (M_found : Int64) (M_foundSet : Int64) (M_foundTimes : Int64) (M_w : Int32) (M_h : Int32) (M_sides : Nat → Int32) (M_held : Nat → Int32) (M_price : Nat → Int32) (M_rules : Nat → Int32) (M_ways : Nat → Int32) (M_place : Nat → Int32) (M_value : Nat → Int64) (M_sets : Nat → Int64) (M_times : Nat → Int64) (M_nextValue : Nat → Int64) (M_nextSets : Nat → Int64) (M_nextTimes : Nat → Int64) : Prop := dimOK dx dy dz ∧ sdOK M_sides dx dy dz ∧ ruOK M_rules ∧ prOK (dx * dy * dz) M_price
def po_X4_many (ad : Nat → Nat) (cA : Nat → ClassId) (dx : Nat) (dy : Nat) (dz : Nat) (M_thrown : Int32) (M_trace : Int64) (M_found : Int64) (M_foundSet : Int64) (M_foundTimes : Int64) (M_w : Int32) (M_h : Int32) (M_sides : Nat → Int32) (M_held : Nat → Int32) (M_price : Nat → Int32) (M_rules : Nat → Int32) (M_ways : Nat → Int32) (M_place : Nat → Int32) (M_value : Nat → Int64) (M_sets : Nat → Int64) (M_times : Nat → Int64) (M_nextValue : Nat → Int64) (M_nextSets : Nat → Int64) (M_nextTimes : Nat → Int64) (r : Int32) (u : (Int32) × (Int64) × (Int64) × (Int64) × (Nat → Int32) × (Nat → Int32) × (Nat → Int64) × (Nat → Int64) × (Nat → Int64) × (Nat → Int64) × (Nat → Int64) × (Nat → Int64)) : Prop := (12 < cntA (dx * dy * dz) (fun c => decide (M_held c = 0)) → r = -2) ∧ (cntA (dx * dy * dz) (fun c => decide (M_held c = 0)) ≤ 12 → ∀ be pl am lo hi, geoOK dx dy dz pl be → setOK (dx * dy * dz) be pl M_rules M_price M_held 0 am lo hi → ∀ a, am = lI a → -100000 ≤ a → a ≤ 100000 → ∀ L : List Int64, L.Nodup → (∀ s, s ∈ L ↔ isSol (dx * dy * dz) be pl M_rules M_price M_held a s) → L.length ≤ 4096 → r = nI L.length)
set_option maxHeartbeats 4000000 in
set_option maxRecDepth 100000 in
theorem c_X4_many (ad : Nat → Nat) (cA : Nat → ClassId) (dx : Nat) (dy : Nat) (dz : Nat) (M_thrown : Int32) (M_trace : Int64) (M_found : Int64) (M_foundSet : Int64) (M_foundTimes : Int64) (M_w : Int32) (M_h : Int32) (M_sides : Nat → Int32) (M_held : Nat → Int32) (M_price : Nat → Int32) (M_rules : Nat → Int32) (M_ways : Nat → Int32) (M_place : Nat → Int32) (M_value : Nat → Int64) (M_sets : Nat → Int64) (M_times : Nat → Int64) (M_nextValue : Nat → Int64) (M_nextSets : Nat → Int64) (M_nextTimes : Nat → Int64) (hq : prX4_many dx dy dz M_thrown M_trace M_found M_foundSet M_foundTimes M_w M_h M_sides M_held M_price M_rules M_ways M_place M_value M_sets M_times M_nextValue M_nextSets M_nextTimes) : ∀ (l : Launch) (D : va_G), gMi (S := (Int32) × (Int64) × (Int64) × (Int64) × (Nat → Int32) × (Nat → Int32) × (Nat → Int64) × (Nat → Int64) × (Nat → Int64) × (Nat → Int64) × (Nat → Int64) × (Nat → Int64)) l yX4_many wsX4_many rmX4_many D (gT cA) 0 0 [.ref (ad 19)] (wcX4_many ad cA M_thrown M_trace M_found M_foundSet M_foundTimes M_w M_h M_sides M_held M_price M_rules M_ways M_place M_value M_sets M_times M_nextValue M_nextSets M_nextTimes) (po_X4_many ad cA dx dy dz M_thrown M_trace M_found M_foundSet M_foundTimes M_w M_h M_sides M_held M_price M_rules M_ways M_place M_value M_sets M_times M_nextValue M_nextSets M_nextTimes) (w1X4_many ad cA M_trace M_w M_h M_sides M_held M_price M_rules) := by
  intro l D
  unfold prX4_many at hq
  refine g_enteri (cc := cX4_many) (nL := 1) (ret := (some .int)) (by decide) rfl (Nat.le_of_ble_eq_true rfl) rfl (fun X C E => ?_)
  obtain ⟨hd, hs, hr, hp⟩ := hq
  have hV := hd.2.2.2.2.2.2
  refine sgX4_many_0 C E ⟨dx, dy, dz, ⟨hd, hs⟩, fun r0 h0 => ?_⟩
  have e0 : r0 = nI (cntA (dx * dy * dz) (fun c => decide (M_held c = 0))) := h0
  have le := cntA_le (dx * dy * dz) (fun c => decide (M_held c = 0))
  have iff : r0 ≤ 12 ↔ cntA (dx * dy * dz) (fun c => decide (M_held c = 0)) ≤ 12 := by
    rw [e0, show (12 : Int32) = nI 12 from rfl, nI_leI (by omega) (by decide)]
  refine ⟨fun c => ⟨dx, dy, dz, ⟨hd, hs, hr, hp, by decide, by decide, by decide, by decide⟩, fun fv fs ft _ _ _ _ _ _ _ _ hf => ⟨fun q => absurd (iff.mp c) (by omega), fun _ => ?_⟩⟩, fun c => ⟨fun _ => rfl, fun q => absurd (iff.mpr q) c⟩⟩
  intro be pl am lo hi hg hset a ea a1 a2 L hL hm hlen
  obtain ⟨w0, w1, w2, hw, hsm⟩ := hf
  obtain ⟨a', e1, e2, e3, _, L', n1, n2, n3⟩ := sm_least hd hw hg hset hsm
  have eaa : a' = a := by rw [e1] at ea; exact (lI_eq (by omega) (by omega) (by omega) (by omega)).mp ea
  subst eaa
  have pm : L'.Perm L := (List.perm_ext_iff_of_nodup n1 hL).mpr (fun s => by rw [n3 s, hm s]; rfl)
  have n2' : ft = lN L'.length := n2
  rw [n2', pm.length_eq]
  exact lN_i32 (by omega)


abbrev w1X4_net (ad : Nat → Nat) (cA : Nat → ClassId) (M_trace : Int64) (M_found : Int64) (M_foundSet : Int64) (M_foundTimes : Int64) (u : (Int32) × (Int32) × (Int32) × (Nat → Int32) × (Nat → Int32)) : va_W := [((ad 19), .inr (4, [.int u.1, .long M_trace, .ref (ad 20), .ref (ad 21), .ref (ad 22), .ref (ad 23), .ref (ad 24), .ref (ad 25), .ref (ad 26), .ref (ad 27), .ref (ad 28), .ref (ad 29), .ref (ad 30), .ref (ad 31), .long M_found, .long M_foundSet, .long M_foundTimes, .int u.2.1, .int u.2.2.1, .ref (ad 32), .ref (ad 33), .ref (ad 34)])), ((ad 32), .inl (cA 0, 64, .inl u.2.2.2.1)), ((ad 33), .inl (cA 2, 64, .inl u.2.2.2.2))]
abbrev wcX4_net (ad : Nat → Nat) (cA : Nat → ClassId) (M_thrown : Int32) (M_trace : Int64) (M_found : Int64) (M_foundSet : Int64) (M_foundTimes : Int64) (M_w : Int32) (M_h : Int32) (M_height : Nat → Int32) (M_isPinned : Nat → Int32) : va_W := [((ad 19), .inr (4, [.int M_thrown, .long M_trace, .ref (ad 20), .ref (ad 21), .ref (ad 22), .ref (ad 23), .ref (ad 24), .ref (ad 25), .ref (ad 26), .ref (ad 27), .ref (ad 28), .ref (ad 29), .ref (ad 30), .ref (ad 31), .long M_found, .long M_foundSet, .long M_foundTimes, .int M_w, .int M_h, .ref (ad 32), .ref (ad 33), .ref (ad 34)])), ((ad 32), .inl (cA 0, 64, .inl M_height)), ((ad 33), .inl (cA 2, 64, .inl M_isPinned))]
def rmX4_net : Room := { frames := 1, cells := 0, slots := 0, locals := 25 }
abbrev atX4_net_0 (X : gX) (ad : Nat → Nat) (cA : Nat → ClassId) (p1 : Int32) (p2 : Int32) (M_thrown : Int32) (M_trace : Int64) (M_found : Int64) (M_foundSet : Int64) (M_foundTimes : Int64) (M_w : Int32) (M_h : Int32) (M_height : Nat → Int32) (M_isPinned : Nat → Int32) : Prop := gW X 0 0 [((ad 19), .inr (4, [.int M_thrown, .long M_trace, .ref (ad 20), .ref (ad 21), .ref (ad 22), .ref (ad 23), .ref (ad 24), .ref (ad 25), .ref (ad 26), .ref (ad 27), .ref (ad 28), .ref (ad 29), .ref (ad 30), .ref (ad 31), .long M_found, .long M_foundSet, .long M_foundTimes, .int M_w, .int M_h, .ref (ad 32), .ref (ad 33), .ref (ad 34)])), ((ad 32), .inl (cA 0, 64, .inl M_height)), ((ad 33), .inl (cA 2, 64, .inl M_isPinned))] 3 [(0, .ref (ad 19)), (1, .int p1), (2, .int p2)] [] 0
theorem cnX4_net_84 : Cond.constantLong RX4 84 (2) ∈ wsX4_net := by decide +kernel
theorem cnX4_net_164 : Cond.constantLong RX4 164 (8) ∈ wsX4_net := by decide +kernel
theorem giX4_net_X4 : ∀ w ∈ u_ws RX4 TX4 22, w ∈ wsX4_net := by decide +kernel
theorem gfX4_net_67 : gF wsX4_net RX4 67 4 0 RX4 TX4 22 := ⟨giX4_net_X4, by decide +kernel, rfl, by decide⟩
theorem gfX4_net_47 : gF wsX4_net RX4 47 4 17 RX4 TX4 22 := ⟨giX4_net_X4, by decide +kernel, rfl, by decide⟩
theorem gfX4_net_51 : gF wsX4_net RX4 51 4 18 RX4 TX4 22 := ⟨giX4_net_X4, by decide +kernel, rfl, by decide⟩
set_option maxHeartbeats 4000000 in
set_option maxRecDepth 100000 in
theorem sgX4_net_0 {X : gX} {ad : Nat → Nat} {cA : Nat → ClassId} {post : Int32 → ((Int32) × (Int32) × (Int32) × (Nat → Int32) × (Nat → Int32)) → Prop} {p1 : Int32} {p2 : Int32} {M_thrown : Int32} {M_trace : Int64} {M_found : Int64} {M_foundSet : Int64} {M_foundTimes : Int64} {M_w : Int32} {M_h : Int32} {M_height : Nat → Int32} {M_isPinned : Nat → Int32} (C : gC X (gT cA) cX4_net 3 RX4 wsX4_net rmX4_net) (E : gEi X (some .int) (gT cA) 0 0 post (w1X4_net ad cA M_trace M_found M_foundSet M_foundTimes)) (h : ((fnX4_in p1.toInt64 (2 : Int64) (8 : Int64)) = false → post (-1 : Int32) ((0 : Int32), M_w, M_h, M_height, M_isPinned)) ∧ ((fnX4_in p1.toInt64 (2 : Int64) (8 : Int64)) = true → ((fnX4_in p2.toInt64 (2 : Int64) (8 : Int64)) = true → prX4_pins (0 : Int32) M_trace M_found M_foundSet M_foundTimes p1 p2 M_height M_isPinned ∧ ∀ (u6_M_height : Nat → Int32) (u6_M_isPinned : Nat → Int32), po_X4_pins ad cA (0 : Int32) M_trace M_found M_foundSet M_foundTimes p1 p2 M_height M_isPinned (u6_M_height, u6_M_isPinned) → post ((p1 - (2 : Int32)) * (p2 - (2 : Int32))) ((0 : Int32), p1, p2, u6_M_height, u6_M_isPinned)) ∧ ((fnX4_in p2.toInt64 (2 : Int64) (8 : Int64)) = false → post (-1 : Int32) ((0 : Int32), M_w, M_h, M_height, M_isPinned)))) : atX4_net_0 X ad cA p1 p2 M_thrown M_trace M_found M_foundSet M_foundTimes M_w M_h M_height M_isPinned := by
  refine g_aload_n C dX4_net_0 rfl 0 rfl ?_
  refine g_iconst C dX4_net_1 ik_0 ?_
  refine g_put (ws2 := [((ad 19), .inr (4, [.int (0 : Int32), .long M_trace, .ref (ad 20), .ref (ad 21), .ref (ad 22), .ref (ad 23), .ref (ad 24), .ref (ad 25), .ref (ad 26), .ref (ad 27), .ref (ad 28), .ref (ad 29), .ref (ad 30), .ref (ad 31), .long M_found, .long M_foundSet, .long M_foundTimes, .int M_w, .int M_h, .ref (ad 32), .ref (ad 33), .ref (ad 34)])), ((ad 32), .inl (cA 0, 64, .inl M_height)), ((ad 33), .inl (cA 2, 64, .inl M_isPinned))]) C gfX4_net_67 0 tyX4_ok nmX4 rfl rfl rfl rfl (Nat.le_of_ble_eq_true rfl) rfl dX4_net_2 ?_
  refine g_iload_n C dX4_net_5 rfl 1 rfl ?_
  refine g_i2l C dX4_net_6 ?_
  refine g_ldc2_w C cnX4_net_84 dX4_net_7 ?_
  refine g_ldc2_w C cnX4_net_164 dX4_net_10 ?_
  refine g_callSi (b := 0) (wr := [((ad 19), .inr (4, [.int (0 : Int32), .long M_trace, .ref (ad 20), .ref (ad 21), .ref (ad 22), .ref (ad 23), .ref (ad 24), .ref (ad 25), .ref (ad 26), .ref (ad 27), .ref (ad 28), .ref (ad 29), .ref (ad 30), .ref (ad 31), .long M_found, .long M_foundSet, .long M_foundTimes, .int M_w, .int M_h, .ref (ad 32), .ref (ad 33), .ref (ad 34)])), ((ad 32), .inl (cA 0, 64, .inl M_height)), ((ad 33), .inl (cA 2, 64, .inl M_isPinned))]) C (c_X4_in ad cA p1.toInt64 (2 : Int64) (8 : Int64)) gX4_net_X4_in rfl hde_X4_in ⟨rfl, rfl⟩ (by decide) (by decide) [] [0, 1, 2] [0, 1, 2] rfl rfl rfl rfl (by decide) rfl (ws2 := fun u => [((ad 19), .inr (4, [.int (0 : Int32), .long M_trace, .ref (ad 20), .ref (ad 21), .ref (ad 22), .ref (ad 23), .ref (ad 24), .ref (ad 25), .ref (ad 26), .ref (ad 27), .ref (ad 28), .ref (ad 29), .ref (ad 30), .ref (ad 31), .long M_found, .long M_foundSet, .long M_foundTimes, .int M_w, .int M_h, .ref (ad 32), .ref (ad 33), .ref (ad 34)])), ((ad 32), .inl (cA 0, 64, .inl M_height)), ((ad 33), .inl (cA 2, 64, .inl M_isPinned))]) (fun _ => rfl) (rest := []) rfl (Nat.le_of_ble_eq_true rfl) dX4_net_13 (fun r_1 u_1 hp_1 => ?_)
  subst hp_1
  change gW X 0 0 [((ad 19), .inr (4, [.int (0 : Int32), .long M_trace, .ref (ad 20), .ref (ad 21), .ref (ad 22), .ref (ad 23), .ref (ad 24), .ref (ad 25), .ref (ad 26), .ref (ad 27), .ref (ad 28), .ref (ad 29), .ref (ad 30), .ref (ad 31), .long M_found, .long M_foundSet, .long M_foundTimes, .int M_w, .int M_h, .ref (ad 32), .ref (ad 33), .ref (ad 34)])), ((ad 32), .inl (cA 0, 64, .inl M_height)), ((ad 33), .inl (cA 2, 64, .inl M_isPinned))] 3 [(0, .ref (ad 19)), (1, .int p1), (2, .int p2)] [.int (bI (fnX4_in p1.toInt64 (2 : Int64) (8 : Int64)))] 16
  refine g_ifeq_b (tgt := 33) C dX4_net_16 (by decide) (fun c_2 => ?_) (fun c_2 => ?_)
  · replace h := h.1 c_2
    refine g_iconst C dX4_net_33 ik_m1 ?_
    exact g_iret C E ((0 : Int32), M_w, M_h, M_height, M_isPinned) h rfl dX4_net_34
  · replace h := h.2 c_2
    refine g_iload_n C dX4_net_19 rfl 2 rfl ?_
    refine g_i2l C dX4_net_20 ?_
    refine g_ldc2_w C cnX4_net_84 dX4_net_21 ?_
    refine g_ldc2_w C cnX4_net_164 dX4_net_24 ?_
    refine g_callSi (b := 0) (wr := [((ad 19), .inr (4, [.int (0 : Int32), .long M_trace, .ref (ad 20), .ref (ad 21), .ref (ad 22), .ref (ad 23), .ref (ad 24), .ref (ad 25), .ref (ad 26), .ref (ad 27), .ref (ad 28), .ref (ad 29), .ref (ad 30), .ref (ad 31), .long M_found, .long M_foundSet, .long M_foundTimes, .int M_w, .int M_h, .ref (ad 32), .ref (ad 33), .ref (ad 34)])), ((ad 32), .inl (cA 0, 64, .inl M_height)), ((ad 33), .inl (cA 2, 64, .inl M_isPinned))]) C (c_X4_in ad cA p2.toInt64 (2 : Int64) (8 : Int64)) gX4_net_X4_in rfl hde_X4_in ⟨rfl, rfl⟩ (by decide) (by decide) [] [0, 1, 2] [0, 1, 2] rfl rfl rfl rfl (by decide) rfl (ws2 := fun u => [((ad 19), .inr (4, [.int (0 : Int32), .long M_trace, .ref (ad 20), .ref (ad 21), .ref (ad 22), .ref (ad 23), .ref (ad 24), .ref (ad 25), .ref (ad 26), .ref (ad 27), .ref (ad 28), .ref (ad 29), .ref (ad 30), .ref (ad 31), .long M_found, .long M_foundSet, .long M_foundTimes, .int M_w, .int M_h, .ref (ad 32), .ref (ad 33), .ref (ad 34)])), ((ad 32), .inl (cA 0, 64, .inl M_height)), ((ad 33), .inl (cA 2, 64, .inl M_isPinned))]) (fun _ => rfl) (rest := []) rfl (Nat.le_of_ble_eq_true rfl) dX4_net_27 (fun r_3 u_3 hp_3 => ?_)
    subst hp_3
    change gW X 0 0 [((ad 19), .inr (4, [.int (0 : Int32), .long M_trace, .ref (ad 20), .ref (ad 21), .ref (ad 22), .ref (ad 23), .ref (ad 24), .ref (ad 25), .ref (ad 26), .ref (ad 27), .ref (ad 28), .ref (ad 29), .ref (ad 30), .ref (ad 31), .long M_found, .long M_foundSet, .long M_foundTimes, .int M_w, .int M_h, .ref (ad 32), .ref (ad 33), .ref (ad 34)])), ((ad 32), .inl (cA 0, 64, .inl M_height)), ((ad 33), .inl (cA 2, 64, .inl M_isPinned))] 3 [(0, .ref (ad 19)), (1, .int p1), (2, .int p2)] [.int (bI (fnX4_in p2.toInt64 (2 : Int64) (8 : Int64)))] 30
    refine g_ifne_b (tgt := 35) C dX4_net_30 (by decide) (fun c_4 => ?_) (fun c_4 => ?_)
    · replace h := h.1 c_4
      refine g_aload_n C dX4_net_35 rfl 0 rfl ?_
      refine g_iload_n C dX4_net_36 rfl 1 rfl ?_
      refine g_put (ws2 := [((ad 19), .inr (4, [.int (0 : Int32), .long M_trace, .ref (ad 20), .ref (ad 21), .ref (ad 22), .ref (ad 23), .ref (ad 24), .ref (ad 25), .ref (ad 26), .ref (ad 27), .ref (ad 28), .ref (ad 29), .ref (ad 30), .ref (ad 31), .long M_found, .long M_foundSet, .long M_foundTimes, .int p1, .int M_h, .ref (ad 32), .ref (ad 33), .ref (ad 34)])), ((ad 32), .inl (cA 0, 64, .inl M_height)), ((ad 33), .inl (cA 2, 64, .inl M_isPinned))]) C gfX4_net_47 0 tyX4_ok nmX4 rfl rfl rfl rfl (Nat.le_of_ble_eq_true rfl) rfl dX4_net_37 ?_
      refine g_aload_n C dX4_net_40 rfl 0 rfl ?_
      refine g_iload_n C dX4_net_41 rfl 2 rfl ?_
      refine g_put (ws2 := [((ad 19), .inr (4, [.int (0 : Int32), .long M_trace, .ref (ad 20), .ref (ad 21), .ref (ad 22), .ref (ad 23), .ref (ad 24), .ref (ad 25), .ref (ad 26), .ref (ad 27), .ref (ad 28), .ref (ad 29), .ref (ad 30), .ref (ad 31), .long M_found, .long M_foundSet, .long M_foundTimes, .int p1, .int p2, .ref (ad 32), .ref (ad 33), .ref (ad 34)])), ((ad 32), .inl (cA 0, 64, .inl M_height)), ((ad 33), .inl (cA 2, 64, .inl M_isPinned))]) C gfX4_net_51 0 tyX4_ok nmX4 rfl rfl rfl rfl (Nat.le_of_ble_eq_true rfl) rfl dX4_net_42 ?_
      refine g_aload_n C dX4_net_45 rfl 0 rfl ?_
      obtain ⟨hi_5, h⟩ := h
      refine g_callVv (wr := []) C (c_X4_pins ad cA (0 : Int32) M_trace M_found M_foundSet M_foundTimes p1 p2 M_height M_isPinned hi_5) gX4_net_X4_pins rfl hde_X4_pins ⟨rfl, rfl⟩ (by decide) (by decide) [0, 1, 2] [] [0, 1, 2] rfl rfl rfl rfl (by decide) rfl (ws2 := fun u => [((ad 19), .inr (4, [.int (0 : Int32), .long M_trace, .ref (ad 20), .ref (ad 21), .ref (ad 22), .ref (ad 23), .ref (ad 24), .ref (ad 25), .ref (ad 26), .ref (ad 27), .ref (ad 28), .ref (ad 29), .ref (ad 30), .ref (ad 31), .long M_found, .long M_foundSet, .long M_foundTimes, .int p1, .int p2, .ref (ad 32), .ref (ad 33), .ref (ad 34)])), ((ad 32), .inl (cA 0, 64, .inl u.1)), ((ad 33), .inl (cA 2, 64, .inl u.2))]) (fun _ => rfl) 4 0 rfl rfl rfl (rest := []) rfl (Nat.le_of_ble_eq_true rfl) dX4_net_46 (fun u_6 hp_6 => ?_)
      obtain ⟨u6_M_height, u6_M_isPinned⟩ := u_6
      replace h := h u6_M_height u6_M_isPinned hp_6
      change gW X 0 0 [((ad 19), .inr (4, [.int (0 : Int32), .long M_trace, .ref (ad 20), .ref (ad 21), .ref (ad 22), .ref (ad 23), .ref (ad 24), .ref (ad 25), .ref (ad 26), .ref (ad 27), .ref (ad 28), .ref (ad 29), .ref (ad 30), .ref (ad 31), .long M_found, .long M_foundSet, .long M_foundTimes, .int p1, .int p2, .ref (ad 32), .ref (ad 33), .ref (ad 34)])), ((ad 32), .inl (cA 0, 64, .inl u6_M_height)), ((ad 33), .inl (cA 2, 64, .inl u6_M_isPinned))] 3 [(0, .ref (ad 19)), (1, .int p1), (2, .int p2)] [] 49
      refine g_aload_n C dX4_net_49 rfl 0 rfl ?_
      refine g_get C gfX4_net_47 0 rfl rfl dX4_net_50 ?_
      refine g_iconst C dX4_net_53 ik_2 ?_
      refine g_isub C dX4_net_54 ?_
      refine g_aload_n C dX4_net_55 rfl 0 rfl ?_
      refine g_get C gfX4_net_51 0 rfl rfl dX4_net_56 ?_
      refine g_iconst C dX4_net_59 ik_2 ?_
      refine g_isub C dX4_net_60 ?_
      refine g_imul C dX4_net_61 ?_
      exact g_iret C E ((0 : Int32), p1, p2, u6_M_height, u6_M_isPinned) h rfl dX4_net_62
    · replace h := h.2 c_4
      refine g_iconst C dX4_net_33 ik_m1 ?_
      exact g_iret C E ((0 : Int32), M_w, M_h, M_height, M_isPinned) h rfl dX4_net_34
def po_X4_net (ad : Nat → Nat) (cA : Nat → ClassId) (p1 : Int32) (p2 : Int32) (M_thrown : Int32) (M_trace : Int64) (M_found : Int64) (M_foundSet : Int64) (M_foundTimes : Int64) (M_w : Int32) (M_h : Int32) (M_height : Nat → Int32) (M_isPinned : Nat → Int32) (r : Int32) (u : (Int32) × (Int32) × (Int32) × (Nat → Int32) × (Nat → Int32)) : Prop := (netOK p1 p2 → r = (p1 - 2) * (p2 - 2) ∧ u.2.1 = p1 ∧ u.2.2.1 = p2 ∧ u.2.2.2.1 = fillA 64 0 M_height ∧ ∀ y, y < 8 → ∀ x, x < 8 → u.2.2.2.2 (8 * y + x) = rimI p1.toNatClampNeg p2.toNatClampNeg x y) ∧ (¬ netOK p1 p2 → r = -1 ∧ u.2 = (M_w, M_h, M_height, M_isPinned))
set_option maxHeartbeats 4000000 in
set_option maxRecDepth 100000 in
theorem c_X4_net (ad : Nat → Nat) (cA : Nat → ClassId) (p1 : Int32) (p2 : Int32) (M_thrown : Int32) (M_trace : Int64) (M_found : Int64) (M_foundSet : Int64) (M_foundTimes : Int64) (M_w : Int32) (M_h : Int32) (M_height : Nat → Int32) (M_isPinned : Nat → Int32) : ∀ (l : Launch) (D : va_G), gMi (S := (Int32) × (Int32) × (Int32) × (Nat → Int32) × (Nat → Int32)) l yX4_net wsX4_net rmX4_net D (gT cA) 0 0 [.ref (ad 19), .int p1, .int p2] (wcX4_net ad cA M_thrown M_trace M_found M_foundSet M_foundTimes M_w M_h M_height M_isPinned) (po_X4_net ad cA p1 p2 M_thrown M_trace M_found M_foundSet M_foundTimes M_w M_h M_height M_isPinned) (w1X4_net ad cA M_trace M_found M_foundSet M_foundTimes) := by
  intro l D
  refine g_enteri (cc := cX4_net) (nL := 3) (ret := (some .int)) (by decide) rfl (Nat.le_of_ble_eq_true rfl) rfl (fun X C E => ?_)
  refine sgX4_net_0 C E ⟨fun c => ⟨fun q => absurd ((net_iff _ _).mp q).1 (in_f c), fun _ => ⟨rfl, rfl⟩⟩, fun c1 => ⟨fun c2 => ?_, fun c => ⟨fun q => absurd ((net_iff _ _).mp q).2 (in_f c), fun _ => ⟨rfl, rfl⟩⟩⟩⟩
  have ok : netOK p1 p2 := (net_iff _ _).mpr ⟨in_t c1, in_t c2⟩
  exact ⟨ok, fun H P hp => ⟨fun _ => ⟨rfl, rfl, rfl, hp.1, hp.2⟩, fun q => absurd ok q⟩⟩


abbrev w1X4_rounds (ad : Nat → Nat) (cA : Nat → ClassId) (M_trace : Int64) (M_found : Int64) (M_foundSet : Int64) (M_foundTimes : Int64) (M_w : Int32) (M_h : Int32) (M_isPinned : Nat → Int32) (u : (Int32) × (Nat → Int32) × (Nat → Int32)) : va_W := [((ad 19), .inr (4, [.int u.1, .long M_trace, .ref (ad 20), .ref (ad 21), .ref (ad 22), .ref (ad 23), .ref (ad 24), .ref (ad 25), .ref (ad 26), .ref (ad 27), .ref (ad 28), .ref (ad 29), .ref (ad 30), .ref (ad 31), .long M_found, .long M_foundSet, .long M_foundTimes, .int M_w, .int M_h, .ref (ad 32), .ref (ad 33), .ref (ad 34)])), ((ad 32), .inl (cA 0, 64, .inl u.2.1)), ((ad 33), .inl (cA 2, 64, .inl M_isPinned)), ((ad 34), .inl (cA 0, 4, .inl u.2.2))]
abbrev wcX4_rounds (ad : Nat → Nat) (cA : Nat → ClassId) (M_thrown : Int32) (M_trace : Int64) (M_found : Int64) (M_foundSet : Int64) (M_foundTimes : Int64) (M_w : Int32) (M_h : Int32) (M_height : Nat → Int32) (M_isPinned : Nat → Int32) (M_beside : Nat → Int32) : va_W := [((ad 19), .inr (4, [.int M_thrown, .long M_trace, .ref (ad 20), .ref (ad 21), .ref (ad 22), .ref (ad 23), .ref (ad 24), .ref (ad 25), .ref (ad 26), .ref (ad 27), .ref (ad 28), .ref (ad 29), .ref (ad 30), .ref (ad 31), .long M_found, .long M_foundSet, .long M_foundTimes, .int M_w, .int M_h, .ref (ad 32), .ref (ad 33), .ref (ad 34)])), ((ad 32), .inl (cA 0, 64, .inl M_height)), ((ad 33), .inl (cA 2, 64, .inl M_isPinned)), ((ad 34), .inl (cA 0, 4, .inl M_beside))]
def rmX4_rounds : Room := { frames := 3, cells := 0, slots := 0, locals := 72 }
abbrev atX4_rounds_0 (X : gX) (ad : Nat → Nat) (cA : Nat → ClassId) (p1 : Int32) (M_thrown : Int32) (M_trace : Int64) (M_found : Int64) (M_foundSet : Int64) (M_foundTimes : Int64) (M_w : Int32) (M_h : Int32) (M_height : Nat → Int32) (M_isPinned : Nat → Int32) (M_beside : Nat → Int32) : Prop := gW X 0 0 [((ad 19), .inr (4, [.int M_thrown, .long M_trace, .ref (ad 20), .ref (ad 21), .ref (ad 22), .ref (ad 23), .ref (ad 24), .ref (ad 25), .ref (ad 26), .ref (ad 27), .ref (ad 28), .ref (ad 29), .ref (ad 30), .ref (ad 31), .long M_found, .long M_foundSet, .long M_foundTimes, .int M_w, .int M_h, .ref (ad 32), .ref (ad 33), .ref (ad 34)])), ((ad 32), .inl (cA 0, 64, .inl M_height)), ((ad 33), .inl (cA 2, 64, .inl M_isPinned)), ((ad 34), .inl (cA 0, 4, .inl M_beside))] 5 [(0, .ref (ad 19)), (1, .int p1)] [] 0
abbrev atX4_rounds_21 (X : gX) (ad : Nat → Nat) (cA : Nat → ClassId) (x1 : Int32) (x2 : Int32) (M_thrown : Int32) (M_trace : Int64) (M_found : Int64) (M_foundSet : Int64) (M_foundTimes : Int64) (M_w : Int32) (M_h : Int32) (M_height : Nat → Int32) (M_isPinned : Nat → Int32) (M_beside : Nat → Int32) : Prop := gW X 0 0 [((ad 19), .inr (4, [.int M_thrown, .long M_trace, .ref (ad 20), .ref (ad 21), .ref (ad 22), .ref (ad 23), .ref (ad 24), .ref (ad 25), .ref (ad 26), .ref (ad 27), .ref (ad 28), .ref (ad 29), .ref (ad 30), .ref (ad 31), .long M_found, .long M_foundSet, .long M_foundTimes, .int M_w, .int M_h, .ref (ad 32), .ref (ad 33), .ref (ad 34)])), ((ad 32), .inl (cA 0, 64, .inl M_height)), ((ad 33), .inl (cA 2, 64, .inl M_isPinned)), ((ad 34), .inl (cA 0, 4, .inl M_beside))] 5 [(0, .ref (ad 19)), (1, .int x1), (2, .int x2)] [] 21
abbrev atX4_rounds_35 (X : gX) (ad : Nat → Nat) (cA : Nat → ClassId) (x1 : Int32) (x2 : Int32) (x3 : Int32) (M_thrown : Int32) (M_trace : Int64) (M_found : Int64) (M_foundSet : Int64) (M_foundTimes : Int64) (M_w : Int32) (M_h : Int32) (M_height : Nat → Int32) (M_isPinned : Nat → Int32) (M_beside : Nat → Int32) : Prop := gW X 0 0 [((ad 19), .inr (4, [.int M_thrown, .long M_trace, .ref (ad 20), .ref (ad 21), .ref (ad 22), .ref (ad 23), .ref (ad 24), .ref (ad 25), .ref (ad 26), .ref (ad 27), .ref (ad 28), .ref (ad 29), .ref (ad 30), .ref (ad 31), .long M_found, .long M_foundSet, .long M_foundTimes, .int M_w, .int M_h, .ref (ad 32), .ref (ad 33), .ref (ad 34)])), ((ad 32), .inl (cA 0, 64, .inl M_height)), ((ad 33), .inl (cA 2, 64, .inl M_isPinned)), ((ad 34), .inl (cA 0, 4, .inl M_beside))] 5 [(0, .ref (ad 19)), (1, .int x1), (2, .int x2), (3, .int x3)] [] 35
abbrev atX4_rounds_46 (X : gX) (ad : Nat → Nat) (cA : Nat → ClassId) (x1 : Int32) (x2 : Int32) (x3 : Int32) (x4 : Int32) (M_thrown : Int32) (M_trace : Int64) (M_found : Int64) (M_foundSet : Int64) (M_foundTimes : Int64) (M_w : Int32) (M_h : Int32) (M_height : Nat → Int32) (M_isPinned : Nat → Int32) (M_beside : Nat → Int32) : Prop := gW X 0 0 [((ad 19), .inr (4, [.int M_thrown, .long M_trace, .ref (ad 20), .ref (ad 21), .ref (ad 22), .ref (ad 23), .ref (ad 24), .ref (ad 25), .ref (ad 26), .ref (ad 27), .ref (ad 28), .ref (ad 29), .ref (ad 30), .ref (ad 31), .long M_found, .long M_foundSet, .long M_foundTimes, .int M_w, .int M_h, .ref (ad 32), .ref (ad 33), .ref (ad 34)])), ((ad 32), .inl (cA 0, 64, .inl M_height)), ((ad 33), .inl (cA 2, 64, .inl M_isPinned)), ((ad 34), .inl (cA 0, 4, .inl M_beside))] 5 [(0, .ref (ad 19)), (1, .int x1), (2, .int x2), (3, .int x3), (4, .int x4)] [] 46
theorem cnX4_rounds_186 : Cond.constantLong RX4 186 (50) ∈ wsX4_rounds := by decide +kernel
theorem giX4_rounds_X4 : ∀ w ∈ u_ws RX4 TX4 22, w ∈ wsX4_rounds := by decide +kernel
theorem gfX4_rounds_67 : gF wsX4_rounds RX4 67 4 0 RX4 TX4 22 := ⟨giX4_rounds_X4, by decide +kernel, rfl, by decide⟩
theorem gfX4_rounds_51 : gF wsX4_rounds RX4 51 4 18 RX4 TX4 22 := ⟨giX4_rounds_X4, by decide +kernel, rfl, by decide⟩
theorem gfX4_rounds_47 : gF wsX4_rounds RX4 47 4 17 RX4 TX4 22 := ⟨giX4_rounds_X4, by decide +kernel, rfl, by decide⟩
theorem gfX4_rounds_54 : gF wsX4_rounds RX4 54 4 19 RX4 TX4 22 := ⟨giX4_rounds_X4, by decide +kernel, rfl, by decide⟩
set_option maxHeartbeats 4000000 in
set_option maxRecDepth 100000 in
theorem sgX4_rounds_0 {X : gX} {ad : Nat → Nat} {cA : Nat → ClassId} {post : Int32 → ((Int32) × (Nat → Int32) × (Nat → Int32)) → Prop} {p1 : Int32} {M_thrown : Int32} {M_trace : Int64} {M_found : Int64} {M_foundSet : Int64} {M_foundTimes : Int64} {M_w : Int32} {M_h : Int32} {M_height : Nat → Int32} {M_isPinned : Nat → Int32} {M_beside : Nat → Int32} (C : gC X (gT cA) cX4_rounds 5 RX4 wsX4_rounds rmX4_rounds) (E : gEi X (some .int) (gT cA) 0 0 post (w1X4_rounds ad cA M_trace M_found M_foundSet M_foundTimes M_w M_h M_isPinned)) (h : ((fnX4_in p1.toInt64 (1 : Int64) (50 : Int64)) = true → atX4_rounds_21 X ad cA p1 (0 : Int32) (0 : Int32) M_trace M_found M_foundSet M_foundTimes M_w M_h M_height M_isPinned M_beside) ∧ ((fnX4_in p1.toInt64 (1 : Int64) (50 : Int64)) = false → post (-1 : Int32) ((0 : Int32), M_height, M_beside))) : atX4_rounds_0 X ad cA p1 M_thrown M_trace M_found M_foundSet M_foundTimes M_w M_h M_height M_isPinned M_beside := by
  refine g_aload_n C dX4_rounds_0 rfl 0 rfl ?_
  refine g_iconst C dX4_rounds_1 ik_0 ?_
  refine g_put (ws2 := [((ad 19), .inr (4, [.int (0 : Int32), .long M_trace, .ref (ad 20), .ref (ad 21), .ref (ad 22), .ref (ad 23), .ref (ad 24), .ref (ad 25), .ref (ad 26), .ref (ad 27), .ref (ad 28), .ref (ad 29), .ref (ad 30), .ref (ad 31), .long M_found, .long M_foundSet, .long M_foundTimes, .int M_w, .int M_h, .ref (ad 32), .ref (ad 33), .ref (ad 34)])), ((ad 32), .inl (cA 0, 64, .inl M_height)), ((ad 33), .inl (cA 2, 64, .inl M_isPinned)), ((ad 34), .inl (cA 0, 4, .inl M_beside))]) C gfX4_rounds_67 0 tyX4_ok nmX4 rfl rfl rfl rfl (Nat.le_of_ble_eq_true rfl) rfl dX4_rounds_2 ?_
  refine g_iload_n C dX4_rounds_5 rfl 1 rfl ?_
  refine g_i2l C dX4_rounds_6 ?_
  refine g_lconst C dX4_rounds_7 lk_1 ?_
  refine g_ldc2_w C cnX4_rounds_186 dX4_rounds_8 ?_
  refine g_callSi (b := 0) (wr := [((ad 19), .inr (4, [.int (0 : Int32), .long M_trace, .ref (ad 20), .ref (ad 21), .ref (ad 22), .ref (ad 23), .ref (ad 24), .ref (ad 25), .ref (ad 26), .ref (ad 27), .ref (ad 28), .ref (ad 29), .ref (ad 30), .ref (ad 31), .long M_found, .long M_foundSet, .long M_foundTimes, .int M_w, .int M_h, .ref (ad 32), .ref (ad 33), .ref (ad 34)])), ((ad 32), .inl (cA 0, 64, .inl M_height)), ((ad 33), .inl (cA 2, 64, .inl M_isPinned)), ((ad 34), .inl (cA 0, 4, .inl M_beside))]) C (c_X4_in ad cA p1.toInt64 (1 : Int64) (50 : Int64)) gX4_rounds_X4_in rfl hde_X4_in ⟨rfl, rfl⟩ (by decide) (by decide) [] [0, 1, 2, 3] [0, 1, 2, 3] rfl rfl rfl rfl (by decide) rfl (ws2 := fun u => [((ad 19), .inr (4, [.int (0 : Int32), .long M_trace, .ref (ad 20), .ref (ad 21), .ref (ad 22), .ref (ad 23), .ref (ad 24), .ref (ad 25), .ref (ad 26), .ref (ad 27), .ref (ad 28), .ref (ad 29), .ref (ad 30), .ref (ad 31), .long M_found, .long M_foundSet, .long M_foundTimes, .int M_w, .int M_h, .ref (ad 32), .ref (ad 33), .ref (ad 34)])), ((ad 32), .inl (cA 0, 64, .inl M_height)), ((ad 33), .inl (cA 2, 64, .inl M_isPinned)), ((ad 34), .inl (cA 0, 4, .inl M_beside))]) (fun _ => rfl) (rest := []) rfl (Nat.le_of_ble_eq_true rfl) dX4_rounds_11 (fun r_1 u_1 hp_1 => ?_)
  subst hp_1
  change gW X 0 0 [((ad 19), .inr (4, [.int (0 : Int32), .long M_trace, .ref (ad 20), .ref (ad 21), .ref (ad 22), .ref (ad 23), .ref (ad 24), .ref (ad 25), .ref (ad 26), .ref (ad 27), .ref (ad 28), .ref (ad 29), .ref (ad 30), .ref (ad 31), .long M_found, .long M_foundSet, .long M_foundTimes, .int M_w, .int M_h, .ref (ad 32), .ref (ad 33), .ref (ad 34)])), ((ad 32), .inl (cA 0, 64, .inl M_height)), ((ad 33), .inl (cA 2, 64, .inl M_isPinned)), ((ad 34), .inl (cA 0, 4, .inl M_beside))] 5 [(0, .ref (ad 19)), (1, .int p1)] [.int (bI (fnX4_in p1.toInt64 (1 : Int64) (50 : Int64)))] 14
  refine g_ifne_b (tgt := 19) C dX4_rounds_14 (by decide) (fun c_2 => ?_) (fun c_2 => ?_)
  · replace h := h.1 c_2
    refine g_iconst C dX4_rounds_19 ik_0 ?_
    refine g_istore_n (lv2 := [(0, .ref (ad 19)), (1, .int p1), (2, .int (0 : Int32))]) C dX4_rounds_20 rfl (by decide) [1, 2, 0] rfl ?_
    exact g_lv [0, 1, 2] rfl h
  · replace h := h.2 c_2
    refine g_iconst C dX4_rounds_17 ik_m1 ?_
    exact g_iret C E ((0 : Int32), M_height, M_beside) h rfl dX4_rounds_18
set_option maxHeartbeats 4000000 in
set_option maxRecDepth 100000 in
theorem sgX4_rounds_21 {X : gX} {ad : Nat → Nat} {cA : Nat → ClassId} {post : Int32 → ((Int32) × (Nat → Int32) × (Nat → Int32)) → Prop} {x1 : Int32} {x2 : Int32} {M_thrown : Int32} {M_trace : Int64} {M_found : Int64} {M_foundSet : Int64} {M_foundTimes : Int64} {M_w : Int32} {M_h : Int32} {M_height : Nat → Int32} {M_isPinned : Nat → Int32} {M_beside : Nat → Int32} (C : gC X (gT cA) cX4_rounds 5 RX4 wsX4_rounds rmX4_rounds) (E : gEi X (some .int) (gT cA) 0 0 post (w1X4_rounds ad cA M_trace M_found M_foundSet M_foundTimes M_w M_h M_isPinned)) (h : (x1 ≤ x2 → post x2 (M_thrown, M_height, M_beside)) ∧ (¬ x1 ≤ x2 → prX4_slackOf M_thrown M_trace M_found M_foundSet M_foundTimes M_w M_h M_height M_isPinned M_beside ∧ ∀ (r_5 : Int32) (u5_M_beside : Nat → Int32), po_X4_slackOf ad cA M_thrown M_trace M_found M_foundSet M_foundTimes M_w M_h M_height M_isPinned M_beside r_5 u5_M_beside → (r_5 ≤ 0 → post x2 (M_thrown, M_height, u5_M_beside)) ∧ (¬ r_5 ≤ 0 → atX4_rounds_35 X ad cA x1 x2 (0 : Int32) M_thrown M_trace M_found M_foundSet M_foundTimes M_w M_h M_height M_isPinned u5_M_beside))) : atX4_rounds_21 X ad cA x1 x2 M_thrown M_trace M_found M_foundSet M_foundTimes M_w M_h M_height M_isPinned M_beside := by
  refine g_iload_n C dX4_rounds_21 rfl 2 rfl ?_
  refine g_iload_n C dX4_rounds_22 rfl 1 rfl ?_
  refine g_icmp_ge (tgt := 92) C dX4_rounds_23 (by decide) (fun c_3 => ?_) (fun c_3 => ?_)
  · replace h := h.1 c_3
    refine g_iload_n C dX4_rounds_92 rfl 2 rfl ?_
    exact g_iret C E (M_thrown, M_height, M_beside) h rfl dX4_rounds_93
  · replace h := h.2 c_3
    refine g_aload_n C dX4_rounds_26 rfl 0 rfl ?_
    obtain ⟨hi_4, h⟩ := h
    refine g_callVi (wr := []) C (c_X4_slackOf ad cA M_thrown M_trace M_found M_foundSet M_foundTimes M_w M_h M_height M_isPinned M_beside hi_4) gX4_rounds_X4_slackOf rfl hde_X4_slackOf ⟨rfl, rfl⟩ (by decide) (by decide) [0, 1, 2, 3] [] [0, 1, 2, 3] rfl rfl rfl rfl (by decide) rfl (ws2 := fun u => [((ad 19), .inr (4, [.int M_thrown, .long M_trace, .ref (ad 20), .ref (ad 21), .ref (ad 22), .ref (ad 23), .ref (ad 24), .ref (ad 25), .ref (ad 26), .ref (ad 27), .ref (ad 28), .ref (ad 29), .ref (ad 30), .ref (ad 31), .long M_found, .long M_foundSet, .long M_foundTimes, .int M_w, .int M_h, .ref (ad 32), .ref (ad 33), .ref (ad 34)])), ((ad 32), .inl (cA 0, 64, .inl M_height)), ((ad 33), .inl (cA 2, 64, .inl M_isPinned)), ((ad 34), .inl (cA 0, 4, .inl u))]) (fun _ => rfl) 4 0 rfl rfl rfl (rest := []) rfl (Nat.le_of_ble_eq_true rfl) dX4_rounds_27 (fun r_5 u_5 hp_5 => ?_)
    obtain ⟨u5_M_beside, rfl⟩ : ∃ z, z = u_5 := ⟨_, rfl⟩
    replace h := h r_5 u5_M_beside hp_5
    change gW X 0 0 [((ad 19), .inr (4, [.int M_thrown, .long M_trace, .ref (ad 20), .ref (ad 21), .ref (ad 22), .ref (ad 23), .ref (ad 24), .ref (ad 25), .ref (ad 26), .ref (ad 27), .ref (ad 28), .ref (ad 29), .ref (ad 30), .ref (ad 31), .long M_found, .long M_foundSet, .long M_foundTimes, .int M_w, .int M_h, .ref (ad 32), .ref (ad 33), .ref (ad 34)])), ((ad 32), .inl (cA 0, 64, .inl M_height)), ((ad 33), .inl (cA 2, 64, .inl M_isPinned)), ((ad 34), .inl (cA 0, 4, .inl u5_M_beside))] 5 [(0, .ref (ad 19)), (1, .int x1), (2, .int x2)] [.int r_5] 30
    refine g_if_le (tgt := 92) C dX4_rounds_30 (by decide) (fun c_6 => ?_) (fun c_6 => ?_)
    · replace h := h.1 c_6
      refine g_iload_n C dX4_rounds_92 rfl 2 rfl ?_
      exact g_iret C E (M_thrown, M_height, u5_M_beside) h rfl dX4_rounds_93
    · replace h := h.2 c_6
      refine g_iconst C dX4_rounds_33 ik_0 ?_
      refine g_istore_n (lv2 := [(0, .ref (ad 19)), (1, .int x1), (2, .int x2), (3, .int (0 : Int32))]) C dX4_rounds_34 rfl (by decide) [1, 2, 3, 0] rfl ?_
      exact g_lv [0, 1, 2, 3] rfl h
set_option maxHeartbeats 4000000 in
set_option maxRecDepth 100000 in
theorem sgX4_rounds_35 {X : gX} {ad : Nat → Nat} {cA : Nat → ClassId} {post : Int32 → ((Int32) × (Nat → Int32) × (Nat → Int32)) → Prop} {x1 : Int32} {x2 : Int32} {x3 : Int32} {M_thrown : Int32} {M_trace : Int64} {M_found : Int64} {M_foundSet : Int64} {M_foundTimes : Int64} {M_w : Int32} {M_h : Int32} {M_height : Nat → Int32} {M_isPinned : Nat → Int32} {M_beside : Nat → Int32} (C : gC X (gT cA) cX4_rounds 5 RX4 wsX4_rounds rmX4_rounds) (E : gEi X (some .int) (gT cA) 0 0 post (w1X4_rounds ad cA M_trace M_found M_foundSet M_foundTimes M_w M_h M_isPinned)) (h : (M_h ≤ x3 → atX4_rounds_21 X ad cA x1 (x2 + 1) M_thrown M_trace M_found M_foundSet M_foundTimes M_w M_h M_height M_isPinned M_beside) ∧ (¬ M_h ≤ x3 → atX4_rounds_46 X ad cA x1 x2 x3 (0 : Int32) M_thrown M_trace M_found M_foundSet M_foundTimes M_w M_h M_height M_isPinned M_beside)) : atX4_rounds_35 X ad cA x1 x2 x3 M_thrown M_trace M_found M_foundSet M_foundTimes M_w M_h M_height M_isPinned M_beside := by
  refine g_iload_n C dX4_rounds_35 rfl 3 rfl ?_
  refine g_aload_n C dX4_rounds_36 rfl 0 rfl ?_
  refine g_get C gfX4_rounds_51 0 rfl rfl dX4_rounds_37 ?_
  refine g_icmp_ge (tgt := 86) C dX4_rounds_40 (by decide) (fun c_7 => ?_) (fun c_7 => ?_)
  · replace h := h.1 c_7
    refine g_iinc (v := (x2 + 1)) (lv2 := [(0, .ref (ad 19)), (1, .int x1), (2, .int (x2 + 1)), (3, .int x3)]) C dX4_rounds_86 2 rfl (by first | rfl | decide) (by decide) [1, 2, 0, 3] rfl ?_
    refine g_goto (tgt := 21) C dX4_rounds_89 (by decide) ?_
    exact g_lv [0, 1, 2] rfl h
  · replace h := h.2 c_7
    refine g_iconst C dX4_rounds_43 ik_0 ?_
    refine g_istore (lv2 := [(0, .ref (ad 19)), (1, .int x1), (2, .int x2), (3, .int x3), (4, .int (0 : Int32))]) C dX4_rounds_44 (by decide) [1, 2, 3, 4, 0] rfl ?_
    exact g_lv [0, 1, 2, 3, 4] rfl h
set_option maxHeartbeats 4000000 in
set_option maxRecDepth 100000 in
theorem sgX4_rounds_46 {X : gX} {ad : Nat → Nat} {cA : Nat → ClassId} {post : Int32 → ((Int32) × (Nat → Int32) × (Nat → Int32)) → Prop} {x1 : Int32} {x2 : Int32} {x3 : Int32} {x4 : Int32} {M_thrown : Int32} {M_trace : Int64} {M_found : Int64} {M_foundSet : Int64} {M_foundTimes : Int64} {M_w : Int32} {M_h : Int32} {M_height : Nat → Int32} {M_isPinned : Nat → Int32} {M_beside : Nat → Int32} (C : gC X (gT cA) cX4_rounds 5 RX4 wsX4_rounds rmX4_rounds) (E : gEi X (some .int) (gT cA) 0 0 post (w1X4_rounds ad cA M_trace M_found M_foundSet M_foundTimes M_w M_h M_isPinned)) (h : (M_w ≤ x4 → atX4_rounds_35 X ad cA x1 x2 (x3 + 1) M_thrown M_trace M_found M_foundSet M_foundTimes M_w M_h M_height M_isPinned M_beside) ∧ (¬ M_w ≤ x4 → prX4_stepOf x4 x3 M_thrown M_trace M_found M_foundSet M_foundTimes M_w M_h M_height M_isPinned M_beside ∧ ∀ (r_10 : Int32) (u10_M_beside : Nat → Int32), po_X4_stepOf ad cA x4 x3 M_thrown M_trace M_found M_foundSet M_foundTimes M_w M_h M_height M_isPinned M_beside r_10 u10_M_beside → vp_in (((8 : Int32) * x3) + x4) 64 ∧ atX4_rounds_46 X ad cA x1 x2 x3 (x4 + 1) M_thrown M_trace M_found M_foundSet M_foundTimes M_w M_h (upd M_height (((8 : Int32) * x3) + x4).toNatClampNeg r_10) M_isPinned u10_M_beside)) : atX4_rounds_46 X ad cA x1 x2 x3 x4 M_thrown M_trace M_found M_foundSet M_foundTimes M_w M_h M_height M_isPinned M_beside := by
  refine g_iload C dX4_rounds_46 4 rfl ?_
  refine g_aload_n C dX4_rounds_48 rfl 0 rfl ?_
  refine g_get C gfX4_rounds_47 0 rfl rfl dX4_rounds_49 ?_
  refine g_icmp_ge (tgt := 80) C dX4_rounds_52 (by decide) (fun c_8 => ?_) (fun c_8 => ?_)
  · replace h := h.1 c_8
    refine g_iinc (v := (x3 + 1)) (lv2 := [(0, .ref (ad 19)), (1, .int x1), (2, .int x2), (3, .int (x3 + 1)), (4, .int x4)]) C dX4_rounds_80 3 rfl (by first | rfl | decide) (by decide) [1, 2, 3, 0, 4] rfl ?_
    refine g_goto (tgt := 35) C dX4_rounds_83 (by decide) ?_
    exact g_lv [0, 1, 2, 3] rfl h
  · replace h := h.2 c_8
    refine g_aload_n C dX4_rounds_55 rfl 0 rfl ?_
    refine g_get C gfX4_rounds_54 0 rfl rfl dX4_rounds_56 ?_
    refine g_bipush C dX4_rounds_59 bk_8 ?_
    refine g_iload_n C dX4_rounds_61 rfl 3 rfl ?_
    refine g_imul C dX4_rounds_62 ?_
    refine g_iload C dX4_rounds_63 4 rfl ?_
    refine g_iadd C dX4_rounds_65 ?_
    refine g_aload_n C dX4_rounds_66 rfl 0 rfl ?_
    refine g_iload C dX4_rounds_67 4 rfl ?_
    refine g_iload_n C dX4_rounds_69 rfl 3 rfl ?_
    obtain ⟨hi_9, h⟩ := h
    refine g_callVi (wr := []) C (c_X4_stepOf ad cA x4 x3 M_thrown M_trace M_found M_foundSet M_foundTimes M_w M_h M_height M_isPinned M_beside hi_9) gX4_rounds_X4_stepOf rfl hde_X4_stepOf ⟨rfl, rfl⟩ (by decide) (by decide) [0, 1, 2, 3] [] [0, 1, 2, 3] rfl rfl rfl rfl (by decide) rfl (ws2 := fun u => [((ad 19), .inr (4, [.int M_thrown, .long M_trace, .ref (ad 20), .ref (ad 21), .ref (ad 22), .ref (ad 23), .ref (ad 24), .ref (ad 25), .ref (ad 26), .ref (ad 27), .ref (ad 28), .ref (ad 29), .ref (ad 30), .ref (ad 31), .long M_found, .long M_foundSet, .long M_foundTimes, .int M_w, .int M_h, .ref (ad 32), .ref (ad 33), .ref (ad 34)])), ((ad 32), .inl (cA 0, 64, .inl M_height)), ((ad 33), .inl (cA 2, 64, .inl M_isPinned)), ((ad 34), .inl (cA 0, 4, .inl u))]) (fun _ => rfl) 4 0 rfl rfl rfl (rest := [.int (((8 : Int32) * x3) + x4), .ref (ad 32)]) rfl (Nat.le_of_ble_eq_true rfl) dX4_rounds_70 (fun r_10 u_10 hp_10 => ?_)
    obtain ⟨u10_M_beside, rfl⟩ : ∃ z, z = u_10 := ⟨_, rfl⟩
    replace h := h r_10 u10_M_beside hp_10
    change gW X 0 0 [((ad 19), .inr (4, [.int M_thrown, .long M_trace, .ref (ad 20), .ref (ad 21), .ref (ad 22), .ref (ad 23), .ref (ad 24), .ref (ad 25), .ref (ad 26), .ref (ad 27), .ref (ad 28), .ref (ad 29), .ref (ad 30), .ref (ad 31), .long M_found, .long M_foundSet, .long M_foundTimes, .int M_w, .int M_h, .ref (ad 32), .ref (ad 33), .ref (ad 34)])), ((ad 32), .inl (cA 0, 64, .inl M_height)), ((ad 33), .inl (cA 2, 64, .inl M_isPinned)), ((ad 34), .inl (cA 0, 4, .inl u10_M_beside))] 5 [(0, .ref (ad 19)), (1, .int x1), (2, .int x2), (3, .int x3), (4, .int x4)] [.int r_10, .int (((8 : Int32) * x3) + x4), .ref (ad 32)] 73
    obtain ⟨hi_11, h⟩ := h
    refine g_iast (ws2 := [((ad 19), .inr (4, [.int M_thrown, .long M_trace, .ref (ad 20), .ref (ad 21), .ref (ad 22), .ref (ad 23), .ref (ad 24), .ref (ad 25), .ref (ad 26), .ref (ad 27), .ref (ad 28), .ref (ad 29), .ref (ad 30), .ref (ad 31), .long M_found, .long M_foundSet, .long M_foundTimes, .int M_w, .int M_h, .ref (ad 32), .ref (ad 33), .ref (ad 34)])), ((ad 32), .inl (cA 0, 64, .inl (upd M_height (((8 : Int32) * x3) + x4).toNatClampNeg r_10))), ((ad 33), .inl (cA 2, 64, .inl M_isPinned)), ((ad 34), .inl (cA 0, 4, .inl u10_M_beside))]) C 1 0 rfl rfl hi_11 rfl dX4_rounds_73 ?_
    refine g_iinc (v := (x4 + 1)) (lv2 := [(0, .ref (ad 19)), (1, .int x1), (2, .int x2), (3, .int x3), (4, .int (x4 + 1))]) C dX4_rounds_74 4 rfl (by first | rfl | decide) (by decide) [1, 2, 3, 4, 0] rfl ?_
    refine g_goto (tgt := 46) C dX4_rounds_77 (by decide) ?_
    exact g_lv [0, 1, 2, 3, 4] rfl h
def prX4_rounds (p1 : Int32) (M_thrown : Int32) (M_trace : Int64) (M_found : Int64) (M_foundSet : Int64) (M_foundTimes : Int64) (M_w : Int32) (M_h : Int32) (M_height : Nat → Int32) (M_isPinned : Nat → Int32) (M_beside : Nat → Int32) : Prop := netOK M_w M_h ∧ htOK M_height
def po_X4_rounds (ad : Nat → Nat) (cA : Nat → ClassId) (p1 : Int32) (M_thrown : Int32) (M_trace : Int64) (M_found : Int64) (M_foundSet : Int64) (M_foundTimes : Int64) (M_w : Int32) (M_h : Int32) (M_height : Nat → Int32) (M_isPinned : Nat → Int32) (M_beside : Nat → Int32) (r : Int32) (u : (Int32) × (Nat → Int32) × (Nat → Int32)) : Prop := ((1 ≤ p1.toInt ∧ p1.toInt ≤ 50) → r = nI (rnd M_w.toNatClampNeg M_h.toNatClampNeg M_isPinned p1.toNatClampNeg M_height).1 ∧ u.2.1 = (rnd M_w.toNatClampNeg M_h.toNatClampNeg M_isPinned p1.toNatClampNeg M_height).2) ∧ (¬ (1 ≤ p1.toInt ∧ p1.toInt ≤ 50) → r = -1 ∧ u.2.1 = M_height)
set_option maxHeartbeats 4000000 in
set_option maxRecDepth 100000 in
theorem c_X4_rounds (ad : Nat → Nat) (cA : Nat → ClassId) (p1 : Int32) (M_thrown : Int32) (M_trace : Int64) (M_found : Int64) (M_foundSet : Int64) (M_foundTimes : Int64) (M_w : Int32) (M_h : Int32) (M_height : Nat → Int32) (M_isPinned : Nat → Int32) (M_beside : Nat → Int32) (hq : prX4_rounds p1 M_thrown M_trace M_found M_foundSet M_foundTimes M_w M_h M_height M_isPinned M_beside) : ∀ (l : Launch) (D : va_G), gMi (S := (Int32) × (Nat → Int32) × (Nat → Int32)) l yX4_rounds wsX4_rounds rmX4_rounds D (gT cA) 0 0 [.ref (ad 19), .int p1] (wcX4_rounds ad cA M_thrown M_trace M_found M_foundSet M_foundTimes M_w M_h M_height M_isPinned M_beside) (po_X4_rounds ad cA p1 M_thrown M_trace M_found M_foundSet M_foundTimes M_w M_h M_height M_isPinned M_beside) (w1X4_rounds ad cA M_trace M_found M_foundSet M_foundTimes M_w M_h M_isPinned) := by
  intro l D
  unfold prX4_rounds at hq
  refine g_enteri (cc := cX4_rounds) (nL := 5) (ret := (some .int)) (by decide) rfl (Nat.le_of_ble_eq_true rfl) rfl (fun X C E => ?_)
  obtain ⟨⟨w, h, hw2, hw, hh2, hh, rfl, rfl⟩, hH0⟩ := hq
  refine sgX4_rounds_0 C E ⟨fun c => ?_, fun c => ⟨fun q => absurd q (in_f c), fun _ => ⟨rfl, rfl⟩⟩⟩
  have c' : 1 ≤ p1.toInt ∧ p1.toInt ≤ 50 := in_t c
  obtain ⟨n, hn, rfl⟩ := i_nat (n := 50) (by omega : 0 ≤ p1.toInt) c'.2
  have fin : ∀ r t H B, r = nI (rnd w h M_isPinned n M_height).1 → H = (rnd w h M_isPinned n M_height).2 → po_X4_rounds ad cA (nI n) M_thrown M_trace M_found M_foundSet M_foundTimes (nI w) (nI h) M_height M_isPinned M_beside r (t, H, B) := by
    intro r t H B e1 e2
    refine ⟨fun _ => ?_, fun q => absurd c' q⟩
    rw [nI_clamp (by omega), nI_clamp (by omega), nI_clamp (by omega)]
    exact ⟨e1, e2⟩
  have loop : ∀ (m d : Nat) (H B : Nat → Int32), d + m = n → htOK H → d + (rnd w h M_isPinned m H).1 = (rnd w h M_isPinned n M_height).1 → (rnd w h M_isPinned m H).2 = (rnd w h M_isPinned n M_height).2 → atX4_rounds_21 X ad cA (nI n) (nI d) 0 M_trace M_found M_foundSet M_foundTimes (nI w) (nI h) H M_isPinned B := by
    intro m
    induction m with
    | zero =>
      intro d H B e hH e1 e2
      refine sgX4_rounds_21 C E ⟨fun _ => fin _ _ _ _ ?_ e2, fun c => absurd (nI_le (by omega) (by omega)) c⟩
      rw [← e1]; rfl
    | succ m ih =>
      intro d H B e hH e1 e2
      refine sgX4_rounds_21 C E ⟨fun c => absurd c (nI_ge (by omega) (by omega)), fun _ => ⟨⟨w, h, hw2, hw, hh2, hh, rfl, rfl⟩, fun r B2 hr => ?_⟩⟩
      unfold po_X4_slackOf at hr
      rw [nI_clamp (by omega), nI_clamp (by omega)] at hr
      rw [rnd] at e1 e2
      rw [hr, chg_nn hw2 hh2 hw hh M_isPinned hH]
      refine ⟨fun c => fin _ _ _ _ ?_ ?_, fun c => ?_⟩
      · rw [if_pos c] at e1; rw [← e1]; rfl
      · rw [if_pos c] at e2; exact e2
      rw [if_neg c] at e1 e2
      have outer : ∀ y, y ≤ h → ∀ nr, atX4_rounds_35 X ad cA (nI n) (nI d) (nI y) 0 M_trace M_found M_foundSet M_foundTimes (nI w) (nI h) (stY w h M_isPinned y H) M_isPinned nr := by
        intro y hy
        refine up_loop (P := fun y => ∀ nr, atX4_rounds_35 X ad cA (nI n) (nI d) (nI y) 0 M_trace M_found M_foundSet M_foundTimes (nI w) (nI h) (stY w h M_isPinned y H) M_isPinned nr) h ?_ (fun y hy ih2 nr => ?_) y hy
        · refine fun nr => sgX4_rounds_35 C E ⟨fun _ => ?_, fun c => absurd (i32_le_refl _) c⟩
          rw [nI_1 d]
          refine ih (d + 1) _ nr (by omega) (stR_ht hw2 hh2 hw hh M_isPinned hH) ?_ e2
          rw [← e1]
          show d + 1 + (rnd w h M_isPinned m (stR w h M_isPinned H)).1 = d + ((rnd w h M_isPinned m (stR w h M_isPinned H)).1 + 1)
          omega
        · refine sgX4_rounds_35 C E ⟨fun c => absurd c (nI_ge hy (by omega)), fun _ => ?_⟩
          have inner : ∀ x, x ≤ w → ∀ nr, atX4_rounds_46 X ad cA (nI n) (nI d) (nI y) (nI x) 0 M_trace M_found M_foundSet M_foundTimes (nI w) (nI h) (stX w h M_isPinned y x (stY w h M_isPinned y H)) M_isPinned nr := by
            intro x hx
            refine up_loop (P := fun x => ∀ nr, atX4_rounds_46 X ad cA (nI n) (nI d) (nI y) (nI x) 0 M_trace M_found M_foundSet M_foundTimes (nI w) (nI h) (stX w h M_isPinned y x (stY w h M_isPinned y H)) M_isPinned nr) w ?_ (fun x hx ih3 nr => ?_) x hx
            · refine fun nr => sgX4_rounds_46 C E ⟨fun _ => ?_, fun c => absurd (i32_le_refl _) c⟩
              rw [nI_1]; exact ih2 nr
            · refine sgX4_rounds_46 C E ⟨fun c => absurd c (nI_ge hx (by omega)), fun _ => ⟨⟨w, h, x, y, hw2, hw, hh2, hh, rfl, rfl, hx, hy, rfl, rfl⟩, fun r u hr => ?_⟩⟩
              unfold po_X4_stepOf at hr
              rw [nI_clamp (by omega), nI_clamp (by omega), nI_clamp (by omega), nI_clamp (by omega)] at hr
              have ep : (8 : Int32) * nI y + nI x = nI (8 * y + x) := by rw [show (8 : Int32) = nI 8 from rfl, pk_mul, nI_add]
              rw [ep, nI_clamp (by omega)]
              refine ⟨vp_in_nI (by omega) (by decide), ?_⟩
              rw [nI_1, hr]
              exact ih3 u
          exact inner 0 (Nat.zero_le _) nr
      exact outer 0 (Nat.zero_le _) B2
  exact loop n 0 M_height M_beside (by omega) hH0 (by omega) rfl


abbrev w1X4_count (ad : Nat → Nat) (cA : Nat → ClassId) (M_trace : Int64) (M_found : Int64) (M_foundSet : Int64) (M_foundTimes : Int64) (M_w : Int32) (M_h : Int32) (M_sides : Nat → Int32) (M_held : Nat → Int32) (M_height : Nat → Int32) (M_isPinned : Nat → Int32) (u : (Int32) × (Nat → Int32)) : va_W := [((ad 19), .inr (4, [.int u.1, .long M_trace, .ref (ad 20), .ref (ad 21), .ref (ad 22), .ref (ad 23), .ref (ad 24), .ref (ad 25), .ref (ad 26), .ref (ad 27), .ref (ad 28), .ref (ad 29), .ref (ad 30), .ref (ad 31), .long M_found, .long M_foundSet, .long M_foundTimes, .int M_w, .int M_h, .ref (ad 32), .ref (ad 33), .ref (ad 34)])), ((ad 20), .inl (cA 0, 3, .inl M_sides)), ((ad 21), .inl (cA 0, 36, .inl M_held)), ((ad 32), .inl (cA 0, 64, .inl M_height)), ((ad 33), .inl (cA 2, 64, .inl M_isPinned)), ((ad 34), .inl (cA 0, 4, .inl u.2))]
abbrev wcX4_count (ad : Nat → Nat) (cA : Nat → ClassId) (M_thrown : Int32) (M_trace : Int64) (M_found : Int64) (M_foundSet : Int64) (M_foundTimes : Int64) (M_w : Int32) (M_h : Int32) (M_sides : Nat → Int32) (M_held : Nat → Int32) (M_height : Nat → Int32) (M_isPinned : Nat → Int32) (M_beside : Nat → Int32) : va_W := [((ad 19), .inr (4, [.int M_thrown, .long M_trace, .ref (ad 20), .ref (ad 21), .ref (ad 22), .ref (ad 23), .ref (ad 24), .ref (ad 25), .ref (ad 26), .ref (ad 27), .ref (ad 28), .ref (ad 29), .ref (ad 30), .ref (ad 31), .long M_found, .long M_foundSet, .long M_foundTimes, .int M_w, .int M_h, .ref (ad 32), .ref (ad 33), .ref (ad 34)])), ((ad 20), .inl (cA 0, 3, .inl M_sides)), ((ad 21), .inl (cA 0, 36, .inl M_held)), ((ad 32), .inl (cA 0, 64, .inl M_height)), ((ad 33), .inl (cA 2, 64, .inl M_isPinned)), ((ad 34), .inl (cA 0, 4, .inl M_beside))]
def rmX4_count : Room := { frames := 3, cells := 0, slots := 0, locals := 72 }
abbrev atX4_count_0 (X : gX) (ad : Nat → Nat) (cA : Nat → ClassId) (p1 : Int32) (M_thrown : Int32) (M_trace : Int64) (M_found : Int64) (M_foundSet : Int64) (M_foundTimes : Int64) (M_w : Int32) (M_h : Int32) (M_sides : Nat → Int32) (M_held : Nat → Int32) (M_height : Nat → Int32) (M_isPinned : Nat → Int32) (M_beside : Nat → Int32) : Prop := gW X 0 0 [((ad 19), .inr (4, [.int M_thrown, .long M_trace, .ref (ad 20), .ref (ad 21), .ref (ad 22), .ref (ad 23), .ref (ad 24), .ref (ad 25), .ref (ad 26), .ref (ad 27), .ref (ad 28), .ref (ad 29), .ref (ad 30), .ref (ad 31), .long M_found, .long M_foundSet, .long M_foundTimes, .int M_w, .int M_h, .ref (ad 32), .ref (ad 33), .ref (ad 34)])), ((ad 20), .inl (cA 0, 3, .inl M_sides)), ((ad 21), .inl (cA 0, 36, .inl M_held)), ((ad 32), .inl (cA 0, 64, .inl M_height)), ((ad 33), .inl (cA 2, 64, .inl M_isPinned)), ((ad 34), .inl (cA 0, 4, .inl M_beside))] 5 [(0, .ref (ad 19)), (1, .int p1)] [] 0
abbrev atX4_count_9 (X : gX) (ad : Nat → Nat) (cA : Nat → ClassId) (x1 : Int32) (x2 : Int32) (x3 : Int32) (M_thrown : Int32) (M_trace : Int64) (M_found : Int64) (M_foundSet : Int64) (M_foundTimes : Int64) (M_w : Int32) (M_h : Int32) (M_sides : Nat → Int32) (M_held : Nat → Int32) (M_height : Nat → Int32) (M_isPinned : Nat → Int32) (M_beside : Nat → Int32) : Prop := gW X 0 0 [((ad 19), .inr (4, [.int M_thrown, .long M_trace, .ref (ad 20), .ref (ad 21), .ref (ad 22), .ref (ad 23), .ref (ad 24), .ref (ad 25), .ref (ad 26), .ref (ad 27), .ref (ad 28), .ref (ad 29), .ref (ad 30), .ref (ad 31), .long M_found, .long M_foundSet, .long M_foundTimes, .int M_w, .int M_h, .ref (ad 32), .ref (ad 33), .ref (ad 34)])), ((ad 20), .inl (cA 0, 3, .inl M_sides)), ((ad 21), .inl (cA 0, 36, .inl M_held)), ((ad 32), .inl (cA 0, 64, .inl M_height)), ((ad 33), .inl (cA 2, 64, .inl M_isPinned)), ((ad 34), .inl (cA 0, 4, .inl M_beside))] 5 [(0, .ref (ad 19)), (1, .int x1), (2, .int x2), (3, .int x3)] [] 9
abbrev atX4_count_20 (X : gX) (ad : Nat → Nat) (cA : Nat → ClassId) (x1 : Int32) (x2 : Int32) (x3 : Int32) (x4 : Int32) (M_thrown : Int32) (M_trace : Int64) (M_found : Int64) (M_foundSet : Int64) (M_foundTimes : Int64) (M_w : Int32) (M_h : Int32) (M_sides : Nat → Int32) (M_held : Nat → Int32) (M_height : Nat → Int32) (M_isPinned : Nat → Int32) (M_beside : Nat → Int32) : Prop := gW X 0 0 [((ad 19), .inr (4, [.int M_thrown, .long M_trace, .ref (ad 20), .ref (ad 21), .ref (ad 22), .ref (ad 23), .ref (ad 24), .ref (ad 25), .ref (ad 26), .ref (ad 27), .ref (ad 28), .ref (ad 29), .ref (ad 30), .ref (ad 31), .long M_found, .long M_foundSet, .long M_foundTimes, .int M_w, .int M_h, .ref (ad 32), .ref (ad 33), .ref (ad 34)])), ((ad 20), .inl (cA 0, 3, .inl M_sides)), ((ad 21), .inl (cA 0, 36, .inl M_held)), ((ad 32), .inl (cA 0, 64, .inl M_height)), ((ad 33), .inl (cA 2, 64, .inl M_isPinned)), ((ad 34), .inl (cA 0, 4, .inl M_beside))] 5 [(0, .ref (ad 19)), (1, .int x1), (2, .int x2), (3, .int x3), (4, .int x4)] [] 20
theorem giX4_count_X4 : ∀ w ∈ u_ws RX4 TX4 22, w ∈ wsX4_count := by decide +kernel
theorem gfX4_count_67 : gF wsX4_count RX4 67 4 0 RX4 TX4 22 := ⟨giX4_count_X4, by decide +kernel, rfl, by decide⟩
theorem gfX4_count_51 : gF wsX4_count RX4 51 4 18 RX4 TX4 22 := ⟨giX4_count_X4, by decide +kernel, rfl, by decide⟩
theorem gfX4_count_7 : gF wsX4_count RX4 7 4 2 RX4 TX4 22 := ⟨giX4_count_X4, by decide +kernel, rfl, by decide⟩
theorem gfX4_count_47 : gF wsX4_count RX4 47 4 17 RX4 TX4 22 := ⟨giX4_count_X4, by decide +kernel, rfl, by decide⟩
theorem gfX4_count_57 : gF wsX4_count RX4 57 4 20 RX4 TX4 22 := ⟨giX4_count_X4, by decide +kernel, rfl, by decide⟩
set_option maxHeartbeats 4000000 in
set_option maxRecDepth 100000 in
theorem sgX4_count_0 {X : gX} {ad : Nat → Nat} {cA : Nat → ClassId} {post : Int32 → ((Int32) × (Nat → Int32)) → Prop} {p1 : Int32} {M_thrown : Int32} {M_trace : Int64} {M_found : Int64} {M_foundSet : Int64} {M_foundTimes : Int64} {M_w : Int32} {M_h : Int32} {M_sides : Nat → Int32} {M_held : Nat → Int32} {M_height : Nat → Int32} {M_isPinned : Nat → Int32} {M_beside : Nat → Int32} (C : gC X (gT cA) cX4_count 5 RX4 wsX4_count rmX4_count) (E : gEi X (some .int) (gT cA) 0 0 post (w1X4_count ad cA M_trace M_found M_foundSet M_foundTimes M_w M_h M_sides M_held M_height M_isPinned)) (h : atX4_count_9 X ad cA p1 (0 : Int32) (0 : Int32) (0 : Int32) M_trace M_found M_foundSet M_foundTimes M_w M_h M_sides M_held M_height M_isPinned M_beside) : atX4_count_0 X ad cA p1 M_thrown M_trace M_found M_foundSet M_foundTimes M_w M_h M_sides M_held M_height M_isPinned M_beside := by
  refine g_aload_n C dX4_count_0 rfl 0 rfl ?_
  refine g_iconst C dX4_count_1 ik_0 ?_
  refine g_put (ws2 := [((ad 19), .inr (4, [.int (0 : Int32), .long M_trace, .ref (ad 20), .ref (ad 21), .ref (ad 22), .ref (ad 23), .ref (ad 24), .ref (ad 25), .ref (ad 26), .ref (ad 27), .ref (ad 28), .ref (ad 29), .ref (ad 30), .ref (ad 31), .long M_found, .long M_foundSet, .long M_foundTimes, .int M_w, .int M_h, .ref (ad 32), .ref (ad 33), .ref (ad 34)])), ((ad 20), .inl (cA 0, 3, .inl M_sides)), ((ad 21), .inl (cA 0, 36, .inl M_held)), ((ad 32), .inl (cA 0, 64, .inl M_height)), ((ad 33), .inl (cA 2, 64, .inl M_isPinned)), ((ad 34), .inl (cA 0, 4, .inl M_beside))]) C gfX4_count_67 0 tyX4_ok nmX4 rfl rfl rfl rfl (Nat.le_of_ble_eq_true rfl) rfl dX4_count_2 ?_
  refine g_iconst C dX4_count_5 ik_0 ?_
  refine g_istore_n (lv2 := [(0, .ref (ad 19)), (1, .int p1), (2, .int (0 : Int32))]) C dX4_count_6 rfl (by decide) [1, 2, 0] rfl ?_
  refine g_iconst C dX4_count_7 ik_0 ?_
  refine g_istore_n (lv2 := [(0, .ref (ad 19)), (1, .int p1), (2, .int (0 : Int32)), (3, .int (0 : Int32))]) C dX4_count_8 rfl (by decide) [1, 2, 3, 0] rfl ?_
  exact g_lv [0, 1, 2, 3] rfl h
set_option maxHeartbeats 4000000 in
set_option maxRecDepth 100000 in
theorem sgX4_count_9 {X : gX} {ad : Nat → Nat} {cA : Nat → ClassId} {post : Int32 → ((Int32) × (Nat → Int32)) → Prop} {x1 : Int32} {x2 : Int32} {x3 : Int32} {M_thrown : Int32} {M_trace : Int64} {M_found : Int64} {M_foundSet : Int64} {M_foundTimes : Int64} {M_w : Int32} {M_h : Int32} {M_sides : Nat → Int32} {M_held : Nat → Int32} {M_height : Nat → Int32} {M_isPinned : Nat → Int32} {M_beside : Nat → Int32} (C : gC X (gT cA) cX4_count 5 RX4 wsX4_count rmX4_count) (E : gEi X (some .int) (gT cA) 0 0 post (w1X4_count ad cA M_trace M_found M_foundSet M_foundTimes M_w M_h M_sides M_held M_height M_isPinned)) (h : (M_h ≤ x3 → (x1 = 0 → vp_in (0 : Int32) 3 ∧ post (M_sides (0 : Int32).toNatClampNeg) (M_thrown, M_beside)) ∧ (x1 = 1 → vp_in (1 : Int32) 3 ∧ post (M_sides (1 : Int32).toNatClampNeg) (M_thrown, M_beside)) ∧ (x1 = 2 → vp_in (2 : Int32) 3 ∧ post (M_sides (2 : Int32).toNatClampNeg) (M_thrown, M_beside)) ∧ (x1 = 3 → ∃ (dx_5 : Nat) (dy_5 : Nat) (dz_5 : Nat), prX4_free dx_5 dy_5 dz_5 M_thrown M_trace M_found M_foundSet M_foundTimes M_w M_h M_sides M_held ∧ ∀ (r_7 : Int32), po_X4_free ad cA dx_5 dy_5 dz_5 M_thrown M_trace M_found M_foundSet M_foundTimes M_w M_h M_sides M_held r_7 () → post r_7 (M_thrown, M_beside)) ∧ (x1 = 4 → post M_w (M_thrown, M_beside)) ∧ (x1 = 5 → post M_h (M_thrown, M_beside)) ∧ (x1 = 6 → post x2 (M_thrown, M_beside)) ∧ (x1 = 7 → prX4_slackOf M_thrown M_trace M_found M_foundSet M_foundTimes M_w M_h M_height M_isPinned M_beside ∧ ∀ (r_9 : Int32) (u9_M_beside : Nat → Int32), po_X4_slackOf ad cA M_thrown M_trace M_found M_foundSet M_foundTimes M_w M_h M_height M_isPinned M_beside r_9 u9_M_beside → (¬ r_9 = 0 → post (0 : Int32) (M_thrown, u9_M_beside)) ∧ (r_9 = 0 → post (1 : Int32) (M_thrown, u9_M_beside))) ∧ ((x1.toInt < 0 ∨ 7 < x1.toInt) → post (-1 : Int32) (M_thrown, M_beside))) ∧ (¬ M_h ≤ x3 → atX4_count_20 X ad cA x1 x2 x3 (0 : Int32) M_thrown M_trace M_found M_foundSet M_foundTimes M_w M_h M_sides M_held M_height M_isPinned M_beside)) : atX4_count_9 X ad cA x1 x2 x3 M_thrown M_trace M_found M_foundSet M_foundTimes M_w M_h M_sides M_held M_height M_isPinned M_beside := by
  refine g_iload_n C dX4_count_9 rfl 3 rfl ?_
  refine g_aload_n C dX4_count_10 rfl 0 rfl ?_
  refine g_get C gfX4_count_51 0 rfl rfl dX4_count_11 ?_
  refine g_icmp_ge (tgt := 64) C dX4_count_14 (by decide) (fun c_1 => ?_) (fun c_1 => ?_)
  · replace h := h.1 c_1
    refine g_iload_n C dX4_count_64 rfl 1 rfl ?_
    refine g_tsw (tgd := 163) C dX4_count_65 (by decide) (fun j_ hj hx => ?_) (fun c_ => ?_)
    · rcases (show j_ = 0 ∨ j_ = 1 ∨ j_ = 2 ∨ j_ = 3 ∨ j_ = 4 ∨ j_ = 5 ∨ j_ = 6 ∨ j_ = 7 by omega) with rfl | rfl | rfl | rfl | rfl | rfl | rfl | rfl
      · refine ⟨47, 112, rfl, by decide, ?_⟩
        replace h := h.1 hx
        refine g_aload_n C dX4_count_112 rfl 0 rfl ?_
        refine g_get C gfX4_count_7 0 rfl rfl dX4_count_113 ?_
        refine g_iconst C dX4_count_116 ik_0 ?_
        obtain ⟨hi_2, h⟩ := h
        refine g_iald C 1 0 rfl rfl hi_2 dX4_count_117 ?_
        exact g_iret C E (M_thrown, M_beside) h rfl dX4_count_118
      · refine ⟨54, 119, rfl, by decide, ?_⟩
        replace h := h.2.1 hx
        refine g_aload_n C dX4_count_119 rfl 0 rfl ?_
        refine g_get C gfX4_count_7 0 rfl rfl dX4_count_120 ?_
        refine g_iconst C dX4_count_123 ik_1 ?_
        obtain ⟨hi_3, h⟩ := h
        refine g_iald C 1 0 rfl rfl hi_3 dX4_count_124 ?_
        exact g_iret C E (M_thrown, M_beside) h rfl dX4_count_125
      · refine ⟨61, 126, rfl, by decide, ?_⟩
        replace h := h.2.2.1 hx
        refine g_aload_n C dX4_count_126 rfl 0 rfl ?_
        refine g_get C gfX4_count_7 0 rfl rfl dX4_count_127 ?_
        refine g_iconst C dX4_count_130 ik_2 ?_
        obtain ⟨hi_4, h⟩ := h
        refine g_iald C 1 0 rfl rfl hi_4 dX4_count_131 ?_
        exact g_iret C E (M_thrown, M_beside) h rfl dX4_count_132
      · refine ⟨68, 133, rfl, by decide, ?_⟩
        replace h := h.2.2.2.1 hx
        refine g_aload_n C dX4_count_133 rfl 0 rfl ?_
        obtain ⟨dx_5, dy_5, dz_5, h⟩ := h
        obtain ⟨hi_6, h⟩ := h
        refine g_callVi (wr := [((ad 32), .inl (cA 0, 64, .inl M_height)), ((ad 33), .inl (cA 2, 64, .inl M_isPinned)), ((ad 34), .inl (cA 0, 4, .inl M_beside))]) C (c_X4_free ad cA dx_5 dy_5 dz_5 M_thrown M_trace M_found M_foundSet M_foundTimes M_w M_h M_sides M_held hi_6) gX4_count_X4_free rfl hde_X4_free ⟨rfl, rfl⟩ (by decide) (by decide) [0, 1, 2] [3, 4, 5] [3, 4, 5, 0, 1, 2] rfl rfl rfl rfl (by decide) rfl (ws2 := fun u => [((ad 19), .inr (4, [.int M_thrown, .long M_trace, .ref (ad 20), .ref (ad 21), .ref (ad 22), .ref (ad 23), .ref (ad 24), .ref (ad 25), .ref (ad 26), .ref (ad 27), .ref (ad 28), .ref (ad 29), .ref (ad 30), .ref (ad 31), .long M_found, .long M_foundSet, .long M_foundTimes, .int M_w, .int M_h, .ref (ad 32), .ref (ad 33), .ref (ad 34)])), ((ad 20), .inl (cA 0, 3, .inl M_sides)), ((ad 21), .inl (cA 0, 36, .inl M_held)), ((ad 32), .inl (cA 0, 64, .inl M_height)), ((ad 33), .inl (cA 2, 64, .inl M_isPinned)), ((ad 34), .inl (cA 0, 4, .inl M_beside))]) (fun _ => rfl) 4 0 rfl rfl rfl (rest := []) rfl (Nat.le_of_ble_eq_true rfl) dX4_count_134 (fun r_7 u_7 hp_7 => ?_)
        replace h := h r_7 hp_7
        change gW X 0 0 [((ad 19), .inr (4, [.int M_thrown, .long M_trace, .ref (ad 20), .ref (ad 21), .ref (ad 22), .ref (ad 23), .ref (ad 24), .ref (ad 25), .ref (ad 26), .ref (ad 27), .ref (ad 28), .ref (ad 29), .ref (ad 30), .ref (ad 31), .long M_found, .long M_foundSet, .long M_foundTimes, .int M_w, .int M_h, .ref (ad 32), .ref (ad 33), .ref (ad 34)])), ((ad 20), .inl (cA 0, 3, .inl M_sides)), ((ad 21), .inl (cA 0, 36, .inl M_held)), ((ad 32), .inl (cA 0, 64, .inl M_height)), ((ad 33), .inl (cA 2, 64, .inl M_isPinned)), ((ad 34), .inl (cA 0, 4, .inl M_beside))] 5 [(0, .ref (ad 19)), (1, .int x1), (2, .int x2), (3, .int x3)] [.int r_7] 137
        exact g_iret C E (M_thrown, M_beside) h rfl dX4_count_137
      · refine ⟨73, 138, rfl, by decide, ?_⟩
        replace h := h.2.2.2.2.1 hx
        refine g_aload_n C dX4_count_138 rfl 0 rfl ?_
        refine g_get C gfX4_count_47 0 rfl rfl dX4_count_139 ?_
        exact g_iret C E (M_thrown, M_beside) h rfl dX4_count_142
      · refine ⟨78, 143, rfl, by decide, ?_⟩
        replace h := h.2.2.2.2.2.1 hx
        refine g_aload_n C dX4_count_143 rfl 0 rfl ?_
        refine g_get C gfX4_count_51 0 rfl rfl dX4_count_144 ?_
        exact g_iret C E (M_thrown, M_beside) h rfl dX4_count_147
      · refine ⟨83, 148, rfl, by decide, ?_⟩
        replace h := h.2.2.2.2.2.2.1 hx
        refine g_iload_n C dX4_count_148 rfl 2 rfl ?_
        exact g_iret C E (M_thrown, M_beside) h rfl dX4_count_149
      · refine ⟨85, 150, rfl, by decide, ?_⟩
        replace h := h.2.2.2.2.2.2.2.1 hx
        refine g_aload_n C dX4_count_150 rfl 0 rfl ?_
        obtain ⟨hi_8, h⟩ := h
        refine g_callVi (wr := [((ad 20), .inl (cA 0, 3, .inl M_sides)), ((ad 21), .inl (cA 0, 36, .inl M_held))]) C (c_X4_slackOf ad cA M_thrown M_trace M_found M_foundSet M_foundTimes M_w M_h M_height M_isPinned M_beside hi_8) gX4_count_X4_slackOf rfl hde_X4_slackOf ⟨rfl, rfl⟩ (by decide) (by decide) [0, 3, 4, 5] [1, 2] [2, 0, 1, 3, 4, 5] rfl rfl rfl rfl (by decide) rfl (ws2 := fun u => [((ad 19), .inr (4, [.int M_thrown, .long M_trace, .ref (ad 20), .ref (ad 21), .ref (ad 22), .ref (ad 23), .ref (ad 24), .ref (ad 25), .ref (ad 26), .ref (ad 27), .ref (ad 28), .ref (ad 29), .ref (ad 30), .ref (ad 31), .long M_found, .long M_foundSet, .long M_foundTimes, .int M_w, .int M_h, .ref (ad 32), .ref (ad 33), .ref (ad 34)])), ((ad 20), .inl (cA 0, 3, .inl M_sides)), ((ad 21), .inl (cA 0, 36, .inl M_held)), ((ad 32), .inl (cA 0, 64, .inl M_height)), ((ad 33), .inl (cA 2, 64, .inl M_isPinned)), ((ad 34), .inl (cA 0, 4, .inl u))]) (fun _ => rfl) 4 0 rfl rfl rfl (rest := []) rfl (Nat.le_of_ble_eq_true rfl) dX4_count_151 (fun r_9 u_9 hp_9 => ?_)
        obtain ⟨u9_M_beside, rfl⟩ : ∃ z, z = u_9 := ⟨_, rfl⟩
        replace h := h r_9 u9_M_beside hp_9
        change gW X 0 0 [((ad 19), .inr (4, [.int M_thrown, .long M_trace, .ref (ad 20), .ref (ad 21), .ref (ad 22), .ref (ad 23), .ref (ad 24), .ref (ad 25), .ref (ad 26), .ref (ad 27), .ref (ad 28), .ref (ad 29), .ref (ad 30), .ref (ad 31), .long M_found, .long M_foundSet, .long M_foundTimes, .int M_w, .int M_h, .ref (ad 32), .ref (ad 33), .ref (ad 34)])), ((ad 20), .inl (cA 0, 3, .inl M_sides)), ((ad 21), .inl (cA 0, 36, .inl M_held)), ((ad 32), .inl (cA 0, 64, .inl M_height)), ((ad 33), .inl (cA 2, 64, .inl M_isPinned)), ((ad 34), .inl (cA 0, 4, .inl u9_M_beside))] 5 [(0, .ref (ad 19)), (1, .int x1), (2, .int x2), (3, .int x3)] [.int r_9] 154
        refine g_if_ne (tgt := 161) C dX4_count_154 (by decide) (fun c_10 => ?_) (fun c_10 => ?_)
        · replace h := h.1 c_10
          refine g_iconst C dX4_count_161 ik_0 ?_
          exact g_iret C E (M_thrown, u9_M_beside) h rfl dX4_count_162
        · replace h := h.2 c_10
          refine g_iconst C dX4_count_157 ik_1 ?_
          refine g_goto (tgt := 162) C dX4_count_158 (by decide) ?_
          exact g_iret C E (M_thrown, u9_M_beside) h rfl dX4_count_162
    · replace h := h.2.2.2.2.2.2.2.2 c_
      refine g_iconst C dX4_count_163 ik_m1 ?_
      exact g_iret C E (M_thrown, M_beside) h rfl dX4_count_164
  · replace h := h.2 c_1
    refine g_iconst C dX4_count_17 ik_0 ?_
    refine g_istore (lv2 := [(0, .ref (ad 19)), (1, .int x1), (2, .int x2), (3, .int x3), (4, .int (0 : Int32))]) C dX4_count_18 (by decide) [1, 2, 3, 4, 0] rfl ?_
    exact g_lv [0, 1, 2, 3, 4] rfl h
set_option maxHeartbeats 4000000 in
set_option maxRecDepth 100000 in
theorem sgX4_count_20 {X : gX} {ad : Nat → Nat} {cA : Nat → ClassId} {post : Int32 → ((Int32) × (Nat → Int32)) → Prop} {x1 : Int32} {x2 : Int32} {x3 : Int32} {x4 : Int32} {M_thrown : Int32} {M_trace : Int64} {M_found : Int64} {M_foundSet : Int64} {M_foundTimes : Int64} {M_w : Int32} {M_h : Int32} {M_sides : Nat → Int32} {M_held : Nat → Int32} {M_height : Nat → Int32} {M_isPinned : Nat → Int32} {M_beside : Nat → Int32} (C : gC X (gT cA) cX4_count 5 RX4 wsX4_count rmX4_count) (E : gEi X (some .int) (gT cA) 0 0 post (w1X4_count ad cA M_trace M_found M_foundSet M_foundTimes M_w M_h M_sides M_held M_height M_isPinned)) (h : (M_w ≤ x4 → atX4_count_9 X ad cA x1 x2 (x3 + 1) M_thrown M_trace M_found M_foundSet M_foundTimes M_w M_h M_sides M_held M_height M_isPinned M_beside) ∧ (¬ M_w ≤ x4 → vp_in (((8 : Int32) * x3) + x4) 64 ∧ ∀ x2_14 : Int32, x2_14 = (x2 + (if (M_isPinned (((8 : Int32) * x3) + x4).toNatClampNeg) = 0 then (0 : Int32) else (1 : Int32))) → atX4_count_20 X ad cA x1 x2_14 x3 (x4 + 1) M_thrown M_trace M_found M_foundSet M_foundTimes M_w M_h M_sides M_held M_height M_isPinned M_beside)) : atX4_count_20 X ad cA x1 x2 x3 x4 M_thrown M_trace M_found M_foundSet M_foundTimes M_w M_h M_sides M_held M_height M_isPinned M_beside := by
  refine g_iload C dX4_count_20 4 rfl ?_
  refine g_aload_n C dX4_count_22 rfl 0 rfl ?_
  refine g_get C gfX4_count_47 0 rfl rfl dX4_count_23 ?_
  refine g_icmp_ge (tgt := 58) C dX4_count_26 (by decide) (fun c_11 => ?_) (fun c_11 => ?_)
  · replace h := h.1 c_11
    refine g_iinc (v := (x3 + 1)) (lv2 := [(0, .ref (ad 19)), (1, .int x1), (2, .int x2), (3, .int (x3 + 1)), (4, .int x4)]) C dX4_count_58 3 rfl (by first | rfl | decide) (by decide) [1, 2, 3, 0, 4] rfl ?_
    refine g_goto (tgt := 9) C dX4_count_61 (by decide) ?_
    exact g_lv [0, 1, 2, 3] rfl h
  · replace h := h.2 c_11
    refine g_iload_n C dX4_count_29 rfl 2 rfl ?_
    refine g_aload_n C dX4_count_30 rfl 0 rfl ?_
    refine g_get C gfX4_count_57 0 rfl rfl dX4_count_31 ?_
    refine g_bipush C dX4_count_34 bk_8 ?_
    refine g_iload_n C dX4_count_36 rfl 3 rfl ?_
    refine g_imul C dX4_count_37 ?_
    refine g_iload C dX4_count_38 4 rfl ?_
    refine g_iadd C dX4_count_40 ?_
    obtain ⟨hi_12, h⟩ := h
    refine g_zald C 4 2 rfl rfl hi_12 dX4_count_41 ?_
    have key : gW X 0 0 [((ad 19), .inr (4, [.int M_thrown, .long M_trace, .ref (ad 20), .ref (ad 21), .ref (ad 22), .ref (ad 23), .ref (ad 24), .ref (ad 25), .ref (ad 26), .ref (ad 27), .ref (ad 28), .ref (ad 29), .ref (ad 30), .ref (ad 31), .long M_found, .long M_foundSet, .long M_foundTimes, .int M_w, .int M_h, .ref (ad 32), .ref (ad 33), .ref (ad 34)])), ((ad 20), .inl (cA 0, 3, .inl M_sides)), ((ad 21), .inl (cA 0, 36, .inl M_held)), ((ad 32), .inl (cA 0, 64, .inl M_height)), ((ad 33), .inl (cA 2, 64, .inl M_isPinned)), ((ad 34), .inl (cA 0, 4, .inl M_beside))] 5 [(0, .ref (ad 19)), (1, .int x1), (2, .int x2), (3, .int x3), (4, .int x4)] [.int (if (M_isPinned (((8 : Int32) * x3) + x4).toNatClampNeg) = 0 then (0 : Int32) else (1 : Int32)), .int x2] 50 := by
      refine g_iadd C dX4_count_50 ?_
      refine g_topi (fun x2_14 ex2_14 => ?_)
      replace h := h x2_14 ex2_14
      refine g_istore_n (lv2 := [(0, .ref (ad 19)), (1, .int x1), (2, .int x2_14), (3, .int x3), (4, .int x4)]) C dX4_count_51 rfl (by decide) [1, 2, 0, 3, 4] rfl ?_
      refine g_iinc (v := (x4 + 1)) (lv2 := [(0, .ref (ad 19)), (1, .int x1), (2, .int x2_14), (3, .int x3), (4, .int (x4 + 1))]) C dX4_count_52 4 rfl (by first | rfl | decide) (by decide) [1, 2, 3, 4, 0] rfl ?_
      refine g_goto (tgt := 20) C dX4_count_55 (by decide) ?_
      exact g_lv [0, 1, 2, 3, 4] rfl h
    refine g_if_eq (tgt := 49) C dX4_count_42 (by decide) (fun c_13 => ?_) (fun c_13 => ?_)
    · refine g_iconst C dX4_count_49 ik_0 ?_
      exact g_leaf (by simp only [if_pos c_13] at key; first | exact key | (simp only [if_pos c_13]; exact key) | exact absurd rfl c_13)
    · refine g_iconst C dX4_count_45 ik_1 ?_
      refine g_goto (tgt := 50) C dX4_count_46 (by decide) ?_
      exact g_leaf (by simp only [if_neg c_13] at key; first | exact key | (simp only [if_neg c_13]; exact key) | exact absurd rfl c_13)
def prX4_count (dx : Nat) (dy : Nat) (dz : Nat) (p1 : Int32) (M_thrown : Int32) (M_trace : Int64) (M_found : Int64) (M_foundSet : Int64) (M_foundTimes : Int64) (M_w : Int32) (M_h : Int32) (M_sides : Nat → Int32) (M_held : Nat → Int32) (M_height : Nat → Int32) (M_isPinned : Nat → Int32) (M_beside : Nat → Int32) : Prop := dimOK dx dy dz ∧ sdOK M_sides dx dy dz ∧ netOK M_w M_h
def po_X4_count (ad : Nat → Nat) (cA : Nat → ClassId) (dx : Nat) (dy : Nat) (dz : Nat) (p1 : Int32) (M_thrown : Int32) (M_trace : Int64) (M_found : Int64) (M_foundSet : Int64) (M_foundTimes : Int64) (M_w : Int32) (M_h : Int32) (M_sides : Nat → Int32) (M_held : Nat → Int32) (M_height : Nat → Int32) (M_isPinned : Nat → Int32) (M_beside : Nat → Int32) (r : Int32) (u : (Int32) × (Nat → Int32)) : Prop := r = cntR M_sides (nI (cntA (dx * dy * dz) (fun c => decide (M_held c = 0)))) M_w M_h (pns M_w.toNatClampNeg M_h.toNatClampNeg M_isPinned) (chg M_w.toNatClampNeg M_h.toNatClampNeg M_isPinned M_height) p1
set_option maxHeartbeats 4000000 in
set_option maxRecDepth 100000 in
theorem c_X4_count (ad : Nat → Nat) (cA : Nat → ClassId) (dx : Nat) (dy : Nat) (dz : Nat) (p1 : Int32) (M_thrown : Int32) (M_trace : Int64) (M_found : Int64) (M_foundSet : Int64) (M_foundTimes : Int64) (M_w : Int32) (M_h : Int32) (M_sides : Nat → Int32) (M_held : Nat → Int32) (M_height : Nat → Int32) (M_isPinned : Nat → Int32) (M_beside : Nat → Int32) (hq : prX4_count dx dy dz p1 M_thrown M_trace M_found M_foundSet M_foundTimes M_w M_h M_sides M_held M_height M_isPinned M_beside) : ∀ (l : Launch) (D : va_G), gMi (S := (Int32) × (Nat → Int32)) l yX4_count wsX4_count rmX4_count D (gT cA) 0 0 [.ref (ad 19), .int p1] (wcX4_count ad cA M_thrown M_trace M_found M_foundSet M_foundTimes M_w M_h M_sides M_held M_height M_isPinned M_beside) (po_X4_count ad cA dx dy dz p1 M_thrown M_trace M_found M_foundSet M_foundTimes M_w M_h M_sides M_held M_height M_isPinned M_beside) (w1X4_count ad cA M_trace M_found M_foundSet M_foundTimes M_w M_h M_sides M_held M_height M_isPinned) := by
  intro l D
  unfold prX4_count at hq
  refine g_enteri (cc := cX4_count) (nL := 5) (ret := (some .int)) (by decide) rfl (Nat.le_of_ble_eq_true rfl) rfl (fun X C E => ?_)
  obtain ⟨hd, hs, w, h, hw2, hw, hh2, hh, rfl, rfl⟩ := hq
  have fin : ∀ r u, r = cntR M_sides (nI (cntA (dx * dy * dz) (fun c => decide (M_held c = 0)))) (nI w) (nI h) (pns w h M_isPinned) (chg w h M_isPinned M_height) p1 → po_X4_count ad cA dx dy dz p1 M_thrown M_trace M_found M_foundSet M_foundTimes (nI w) (nI h) M_sides M_held M_height M_isPinned M_beside r u := fun r u e => by
    unfold po_X4_count
    rw [nI_clamp (by omega), nI_clamp (by omega)]; exact e
  unfold pns at fin
  refine sgX4_count_0 C E ?_
  have outer : ∀ y, y ≤ h → atX4_count_9 X ad cA p1 (sumI (fun y => sumI (fun x => if M_isPinned (8 * y + x) = 0 then 0 else 1) w) y) (nI y) 0 M_trace M_found M_foundSet M_foundTimes (nI w) (nI h) M_sides M_held M_height M_isPinned M_beside := by
    intro y hy
    refine up_loop (P := fun y => atX4_count_9 X ad cA p1 (sumI (fun y => sumI (fun x => if M_isPinned (8 * y + x) = 0 then 0 else 1) w) y) (nI y) 0 M_trace M_found M_foundSet M_foundTimes (nI w) (nI h) M_sides M_held M_height M_isPinned M_beside) h ?_ (fun y hy ih => ?_) y hy
    · refine sgX4_count_9 C E ⟨fun _ => ⟨fun e => ⟨vi_0_3, fin _ _ (by rw [e]; rfl)⟩, fun e => ⟨vi_1_3, fin _ _ (by rw [e]; rfl)⟩, fun e => ⟨vi_2_3, fin _ _ (by rw [e]; rfl)⟩, fun e => ⟨dx, dy, dz, ⟨hd, hs⟩, fun r hr => fin _ _ (by rw [e]; exact hr)⟩, fun e => fin _ _ (by rw [e]; rfl), fun e => fin _ _ (by rw [e]; rfl), fun e => fin _ _ (by rw [e]; rfl), fun e => ⟨⟨w, h, hw2, hw, hh2, hh, rfl, rfl⟩, fun r B2 hr => ?_⟩, fun e => fin _ _ ?_⟩, fun c => absurd (i32_le_refl _) c⟩
      · unfold po_X4_slackOf at hr
        rw [nI_clamp (by omega), nI_clamp (by omega)] at hr
        rw [hr]
        refine ⟨fun c => fin _ _ ?_, fun c => fin _ _ ?_⟩
        · rw [e]; show (0 : Int32) = if _ then 1 else 0; rw [if_neg c]
        · rw [e]; show (1 : Int32) = if _ then 1 else 0; rw [if_pos c]
      · unfold cntR
        rw [if_neg (by rintro rfl; exact absurd e (by decide)), if_neg (by rintro rfl; exact absurd e (by decide)), if_neg (by rintro rfl; exact absurd e (by decide)), if_neg (by rintro rfl; exact absurd e (by decide)), if_neg (by rintro rfl; exact absurd e (by decide)), if_neg (by rintro rfl; exact absurd e (by decide)), if_neg (by rintro rfl; exact absurd e (by decide)), if_neg (by rintro rfl; exact absurd e (by decide))]
    · refine sgX4_count_9 C E ⟨fun c => absurd c (nI_ge hy (by omega)), fun _ => ?_⟩
      have inner : ∀ x, x ≤ w → atX4_count_20 X ad cA p1 (sumI (fun y => sumI (fun x => if M_isPinned (8 * y + x) = 0 then 0 else 1) w) y + sumI (fun x => if M_isPinned (8 * y + x) = 0 then 0 else 1) x) (nI y) (nI x) 0 M_trace M_found M_foundSet M_foundTimes (nI w) (nI h) M_sides M_held M_height M_isPinned M_beside := by
        intro x hx
        refine up_loop (P := fun x => atX4_count_20 X ad cA p1 (sumI (fun y => sumI (fun x => if M_isPinned (8 * y + x) = 0 then 0 else 1) w) y + sumI (fun x => if M_isPinned (8 * y + x) = 0 then 0 else 1) x) (nI y) (nI x) 0 M_trace M_found M_foundSet M_foundTimes (nI w) (nI h) M_sides M_held M_height M_isPinned M_beside) w ?_ (fun x hx ih2 => ?_) x hx
        · refine sgX4_count_20 C E ⟨fun _ => ?_, fun c => absurd (i32_le_refl _) c⟩
          rw [nI_1]; exact ih
        · refine sgX4_count_20 C E ⟨fun c => absurd c (nI_ge hx (by omega)), fun _ => ?_⟩
          have ep : (8 : Int32) * nI y + nI x = nI (8 * y + x) := by rw [show (8 : Int32) = nI 8 from rfl, pk_mul, nI_add]
          rw [ep, nI_clamp (by omega), nI_1]
          refine ⟨vp_in_nI (by omega) (by decide), fun x2 e2 => ?_⟩
          rw [Int32.add_assoc] at e2
          rw [e2]; exact ih2
      have := inner 0 (Nat.zero_le _)
      rw [sumI, Int32.add_zero] at this
      exact this
  exact outer 0 (Nat.zero_le _)


def ptOK (w h x y : Int32) : Prop := (0 ≤ x.toInt ∧ x.toInt < w.toInt) ∧ (0 ≤ y.toInt ∧ y.toInt < h.toInt)
theorem pt_nat {w h : Nat} (hw : w ≤ 8) (hh : h ≤ 8) {x y : Int32} (q : ptOK (nI w) (nI h) x y) : ∃ a b, a < w ∧ b < h ∧ x = nI a ∧ y = nI b := by
  obtain ⟨⟨a1, a2⟩, ⟨b1, b2⟩⟩ := q
  rw [nI_toInt (by omega)] at a2 b2
  obtain ⟨a, ha, rfl⟩ := i_nat (n := 8) a1 (by omega)
  obtain ⟨b, hb, rfl⟩ := i_nat (n := 8) b1 (by omega)
  rw [nI_toInt (by omega)] at a2 b2
  exact ⟨a, b, by omega, by omega, rfl, rfl⟩
section M4p
variable {M_thrown : Int32} {M_trace M_found M_foundSet M_foundTimes : Int64}
theorem isPoint4_eq {w h : Nat} (hw2 : 2 ≤ w) (hw : w ≤ 8) (hh2 : 2 ≤ h) (hh : h ≤ 8) (x y : Int32) : fnX4_isPoint x y M_thrown M_trace M_found M_foundSet M_foundTimes (nI w) (nI h) = true ↔ ptOK (nI w) (nI h) x y := by
  unfold fnX4_isPoint ptOK
  rw [in_eq, in_eq, show nI w - 1 = nI (w - 1) from pk_sub (b := 1) (by omega), show nI h - 1 = nI (h - 1) from pk_sub (b := 1) (by omega), Int32.toInt_toInt64, Int32.toInt_toInt64, nI_toInt (by omega), nI_toInt (by omega), nI_toInt (by omega), nI_toInt (by omega), show (0 : Int64).toInt = 0 from rfl]
  constructor
  · intro q
    by_cases c1 : (0 ≤ x.toInt ∧ x.toInt ≤ (w - 1 : Nat))
    · rw [if_pos (decide_eq_true c1)] at q
      by_cases c2 : (0 ≤ y.toInt ∧ y.toInt ≤ (h - 1 : Nat))
      · omega
      · rw [if_neg (by rw [decide_eq_false c2]; decide)] at q; exact absurd q (by decide)
    · rw [if_neg (by rw [decide_eq_false c1]; decide)] at q; exact absurd q (by decide)
  · intro q
    rw [if_pos (decide_eq_true (by omega)), if_pos (decide_eq_true (by omega))]
end M4p
theorem bt_f {b : Bool} {P : Prop} (h : b = true ↔ P) (e : b = false) : ¬ P := fun q => by rw [h.mpr q] at e; exact absurd e (by decide)

abbrev w1X4_hold (ad : Nat → Nat) (cA : Nat → ClassId) (M_trace : Int64) (M_found : Int64) (M_foundSet : Int64) (M_foundTimes : Int64) (M_w : Int32) (M_h : Int32) (M_sides : Nat → Int32) (u : (Int32) × (Nat → Int32)) : va_W := [((ad 19), .inr (4, [.int u.1, .long M_trace, .ref (ad 20), .ref (ad 21), .ref (ad 22), .ref (ad 23), .ref (ad 24), .ref (ad 25), .ref (ad 26), .ref (ad 27), .ref (ad 28), .ref (ad 29), .ref (ad 30), .ref (ad 31), .long M_found, .long M_foundSet, .long M_foundTimes, .int M_w, .int M_h, .ref (ad 32), .ref (ad 33), .ref (ad 34)])), ((ad 20), .inl (cA 0, 3, .inl M_sides)), ((ad 21), .inl (cA 0, 36, .inl u.2))]
abbrev wcX4_hold (ad : Nat → Nat) (cA : Nat → ClassId) (M_thrown : Int32) (M_trace : Int64) (M_found : Int64) (M_foundSet : Int64) (M_foundTimes : Int64) (M_w : Int32) (M_h : Int32) (M_sides : Nat → Int32) (M_held : Nat → Int32) : va_W := [((ad 19), .inr (4, [.int M_thrown, .long M_trace, .ref (ad 20), .ref (ad 21), .ref (ad 22), .ref (ad 23), .ref (ad 24), .ref (ad 25), .ref (ad 26), .ref (ad 27), .ref (ad 28), .ref (ad 29), .ref (ad 30), .ref (ad 31), .long M_found, .long M_foundSet, .long M_foundTimes, .int M_w, .int M_h, .ref (ad 32), .ref (ad 33), .ref (ad 34)])), ((ad 20), .inl (cA 0, 3, .inl M_sides)), ((ad 21), .inl (cA 0, 36, .inl M_held))]
def rmX4_hold : Room := { frames := 2, cells := 0, slots := 0, locals := 46 }
abbrev atX4_hold_0 (X : gX) (ad : Nat → Nat) (cA : Nat → ClassId) (p1 : Int32) (p2 : Int32) (M_thrown : Int32) (M_trace : Int64) (M_found : Int64) (M_foundSet : Int64) (M_foundTimes : Int64) (M_w : Int32) (M_h : Int32) (M_sides : Nat → Int32) (M_held : Nat → Int32) : Prop := gW X 0 0 [((ad 19), .inr (4, [.int M_thrown, .long M_trace, .ref (ad 20), .ref (ad 21), .ref (ad 22), .ref (ad 23), .ref (ad 24), .ref (ad 25), .ref (ad 26), .ref (ad 27), .ref (ad 28), .ref (ad 29), .ref (ad 30), .ref (ad 31), .long M_found, .long M_foundSet, .long M_foundTimes, .int M_w, .int M_h, .ref (ad 32), .ref (ad 33), .ref (ad 34)])), ((ad 20), .inl (cA 0, 3, .inl M_sides)), ((ad 21), .inl (cA 0, 36, .inl M_held))] 4 [(0, .ref (ad 19)), (1, .int p1), (2, .int p2)] [] 0
theorem cnX4_hold_84 : Cond.constantLong RX4 84 (2) ∈ wsX4_hold := by decide +kernel
theorem giX4_hold_X4 : ∀ w ∈ u_ws RX4 TX4 22, w ∈ wsX4_hold := by decide +kernel
theorem gfX4_hold_67 : gF wsX4_hold RX4 67 4 0 RX4 TX4 22 := ⟨giX4_hold_X4, by decide +kernel, rfl, by decide⟩
theorem gfX4_hold_13 : gF wsX4_hold RX4 13 4 3 RX4 TX4 22 := ⟨giX4_hold_X4, by decide +kernel, rfl, by decide⟩
set_option maxHeartbeats 4000000 in
set_option maxRecDepth 100000 in
theorem sgX4_hold_0 {X : gX} {ad : Nat → Nat} {cA : Nat → ClassId} {post : Int32 → ((Int32) × (Nat → Int32)) → Prop} {p1 : Int32} {p2 : Int32} {M_thrown : Int32} {M_trace : Int64} {M_found : Int64} {M_foundSet : Int64} {M_foundTimes : Int64} {M_w : Int32} {M_h : Int32} {M_sides : Nat → Int32} {M_held : Nat → Int32} (C : gC X (gT cA) cX4_hold 4 RX4 wsX4_hold rmX4_hold) (E : gEi X (some .int) (gT cA) 0 0 post (w1X4_hold ad cA M_trace M_found M_foundSet M_foundTimes M_w M_h M_sides)) (h : prX4_isCell p1 (0 : Int32) M_trace M_found M_foundSet M_foundTimes M_w M_h M_sides ∧ ((fnX4_isCell p1 (0 : Int32) M_trace M_found M_foundSet M_foundTimes M_w M_h M_sides) = false → post (-1 : Int32) ((0 : Int32), M_held)) ∧ ((fnX4_isCell p1 (0 : Int32) M_trace M_found M_foundSet M_foundTimes M_w M_h M_sides) = true → ((fnX4_in p2.toInt64 (0 : Int64) (2 : Int64)) = true → vp_in p1 36 ∧ vp_in p1 36 ∧ post (M_held p1.toNatClampNeg) ((0 : Int32), (upd M_held p1.toNatClampNeg p2))) ∧ ((fnX4_in p2.toInt64 (0 : Int64) (2 : Int64)) = false → post (-1 : Int32) ((0 : Int32), M_held)))) : atX4_hold_0 X ad cA p1 p2 M_thrown M_trace M_found M_foundSet M_foundTimes M_w M_h M_sides M_held := by
  refine g_aload_n C dX4_hold_0 rfl 0 rfl ?_
  refine g_iconst C dX4_hold_1 ik_0 ?_
  refine g_put (ws2 := [((ad 19), .inr (4, [.int (0 : Int32), .long M_trace, .ref (ad 20), .ref (ad 21), .ref (ad 22), .ref (ad 23), .ref (ad 24), .ref (ad 25), .ref (ad 26), .ref (ad 27), .ref (ad 28), .ref (ad 29), .ref (ad 30), .ref (ad 31), .long M_found, .long M_foundSet, .long M_foundTimes, .int M_w, .int M_h, .ref (ad 32), .ref (ad 33), .ref (ad 34)])), ((ad 20), .inl (cA 0, 3, .inl M_sides)), ((ad 21), .inl (cA 0, 36, .inl M_held))]) C gfX4_hold_67 0 tyX4_ok nmX4 rfl rfl rfl rfl (Nat.le_of_ble_eq_true rfl) rfl dX4_hold_2 ?_
  refine g_aload_n C dX4_hold_5 rfl 0 rfl ?_
  refine g_iload_n C dX4_hold_6 rfl 1 rfl ?_
  obtain ⟨hi_1, h⟩ := h
  refine g_callVi (wr := [((ad 21), .inl (cA 0, 36, .inl M_held))]) C (c_X4_isCell ad cA p1 (0 : Int32) M_trace M_found M_foundSet M_foundTimes M_w M_h M_sides hi_1) gX4_hold_X4_isCell rfl hde_X4_isCell ⟨rfl, rfl⟩ (by decide) (by decide) [0, 1] [2] [1, 2, 0] rfl rfl rfl rfl (by decide) rfl (ws2 := fun u => [((ad 19), .inr (4, [.int (0 : Int32), .long M_trace, .ref (ad 20), .ref (ad 21), .ref (ad 22), .ref (ad 23), .ref (ad 24), .ref (ad 25), .ref (ad 26), .ref (ad 27), .ref (ad 28), .ref (ad 29), .ref (ad 30), .ref (ad 31), .long M_found, .long M_foundSet, .long M_foundTimes, .int M_w, .int M_h, .ref (ad 32), .ref (ad 33), .ref (ad 34)])), ((ad 20), .inl (cA 0, 3, .inl M_sides)), ((ad 21), .inl (cA 0, 36, .inl M_held))]) (fun _ => rfl) 4 0 rfl rfl rfl (rest := []) rfl (Nat.le_of_ble_eq_true rfl) dX4_hold_7 (fun r_2 u_2 hp_2 => ?_)
  subst hp_2
  change gW X 0 0 [((ad 19), .inr (4, [.int (0 : Int32), .long M_trace, .ref (ad 20), .ref (ad 21), .ref (ad 22), .ref (ad 23), .ref (ad 24), .ref (ad 25), .ref (ad 26), .ref (ad 27), .ref (ad 28), .ref (ad 29), .ref (ad 30), .ref (ad 31), .long M_found, .long M_foundSet, .long M_foundTimes, .int M_w, .int M_h, .ref (ad 32), .ref (ad 33), .ref (ad 34)])), ((ad 20), .inl (cA 0, 3, .inl M_sides)), ((ad 21), .inl (cA 0, 36, .inl M_held))] 4 [(0, .ref (ad 19)), (1, .int p1), (2, .int p2)] [.int (bI (fnX4_isCell p1 (0 : Int32) M_trace M_found M_foundSet M_foundTimes M_w M_h M_sides))] 10
  refine g_ifeq_b (tgt := 25) C dX4_hold_10 (by decide) (fun c_3 => ?_) (fun c_3 => ?_)
  · replace h := h.1 c_3
    refine g_iconst C dX4_hold_25 ik_m1 ?_
    exact g_iret C E ((0 : Int32), M_held) h rfl dX4_hold_26
  · replace h := h.2 c_3
    refine g_iload_n C dX4_hold_13 rfl 2 rfl ?_
    refine g_i2l C dX4_hold_14 ?_
    refine g_lconst C dX4_hold_15 lk_0 ?_
    refine g_ldc2_w C cnX4_hold_84 dX4_hold_16 ?_
    refine g_callSi (b := 0) (wr := [((ad 19), .inr (4, [.int (0 : Int32), .long M_trace, .ref (ad 20), .ref (ad 21), .ref (ad 22), .ref (ad 23), .ref (ad 24), .ref (ad 25), .ref (ad 26), .ref (ad 27), .ref (ad 28), .ref (ad 29), .ref (ad 30), .ref (ad 31), .long M_found, .long M_foundSet, .long M_foundTimes, .int M_w, .int M_h, .ref (ad 32), .ref (ad 33), .ref (ad 34)])), ((ad 20), .inl (cA 0, 3, .inl M_sides)), ((ad 21), .inl (cA 0, 36, .inl M_held))]) C (c_X4_in ad cA p2.toInt64 (0 : Int64) (2 : Int64)) gX4_hold_X4_in rfl hde_X4_in ⟨rfl, rfl⟩ (by decide) (by decide) [] [0, 1, 2] [0, 1, 2] rfl rfl rfl rfl (by decide) rfl (ws2 := fun u => [((ad 19), .inr (4, [.int (0 : Int32), .long M_trace, .ref (ad 20), .ref (ad 21), .ref (ad 22), .ref (ad 23), .ref (ad 24), .ref (ad 25), .ref (ad 26), .ref (ad 27), .ref (ad 28), .ref (ad 29), .ref (ad 30), .ref (ad 31), .long M_found, .long M_foundSet, .long M_foundTimes, .int M_w, .int M_h, .ref (ad 32), .ref (ad 33), .ref (ad 34)])), ((ad 20), .inl (cA 0, 3, .inl M_sides)), ((ad 21), .inl (cA 0, 36, .inl M_held))]) (fun _ => rfl) (rest := []) rfl (Nat.le_of_ble_eq_true rfl) dX4_hold_19 (fun r_4 u_4 hp_4 => ?_)
    subst hp_4
    change gW X 0 0 [((ad 19), .inr (4, [.int (0 : Int32), .long M_trace, .ref (ad 20), .ref (ad 21), .ref (ad 22), .ref (ad 23), .ref (ad 24), .ref (ad 25), .ref (ad 26), .ref (ad 27), .ref (ad 28), .ref (ad 29), .ref (ad 30), .ref (ad 31), .long M_found, .long M_foundSet, .long M_foundTimes, .int M_w, .int M_h, .ref (ad 32), .ref (ad 33), .ref (ad 34)])), ((ad 20), .inl (cA 0, 3, .inl M_sides)), ((ad 21), .inl (cA 0, 36, .inl M_held))] 4 [(0, .ref (ad 19)), (1, .int p1), (2, .int p2)] [.int (bI (fnX4_in p2.toInt64 (0 : Int64) (2 : Int64)))] 22
    refine g_ifne_b (tgt := 27) C dX4_hold_22 (by decide) (fun c_5 => ?_) (fun c_5 => ?_)
    · replace h := h.1 c_5
      refine g_aload_n C dX4_hold_27 rfl 0 rfl ?_
      refine g_get C gfX4_hold_13 0 rfl rfl dX4_hold_28 ?_
      refine g_iload_n C dX4_hold_31 rfl 1 rfl ?_
      obtain ⟨hi_6, h⟩ := h
      refine g_iald C 2 0 rfl rfl hi_6 dX4_hold_32 ?_
      refine g_istore_n (lv2 := [(0, .ref (ad 19)), (1, .int p1), (2, .int p2), (3, .int (M_held p1.toNatClampNeg))]) C dX4_hold_33 rfl (by decide) [1, 2, 3, 0] rfl ?_
      refine g_aload_n C dX4_hold_34 rfl 0 rfl ?_
      refine g_get C gfX4_hold_13 0 rfl rfl dX4_hold_35 ?_
      refine g_iload_n C dX4_hold_38 rfl 1 rfl ?_
      refine g_iload_n C dX4_hold_39 rfl 2 rfl ?_
      obtain ⟨hi_7, h⟩ := h
      refine g_iast (ws2 := [((ad 19), .inr (4, [.int (0 : Int32), .long M_trace, .ref (ad 20), .ref (ad 21), .ref (ad 22), .ref (ad 23), .ref (ad 24), .ref (ad 25), .ref (ad 26), .ref (ad 27), .ref (ad 28), .ref (ad 29), .ref (ad 30), .ref (ad 31), .long M_found, .long M_foundSet, .long M_foundTimes, .int M_w, .int M_h, .ref (ad 32), .ref (ad 33), .ref (ad 34)])), ((ad 20), .inl (cA 0, 3, .inl M_sides)), ((ad 21), .inl (cA 0, 36, .inl (upd M_held p1.toNatClampNeg p2)))]) C 2 0 rfl rfl hi_7 rfl dX4_hold_40 ?_
      refine g_iload_n C dX4_hold_41 rfl 3 rfl ?_
      exact g_iret C E ((0 : Int32), (upd M_held p1.toNatClampNeg p2)) h rfl dX4_hold_42
    · replace h := h.2 c_5
      refine g_iconst C dX4_hold_25 ik_m1 ?_
      exact g_iret C E ((0 : Int32), M_held) h rfl dX4_hold_26
def prX4_hold (dx : Nat) (dy : Nat) (dz : Nat) (p1 : Int32) (p2 : Int32) (M_thrown : Int32) (M_trace : Int64) (M_found : Int64) (M_foundSet : Int64) (M_foundTimes : Int64) (M_w : Int32) (M_h : Int32) (M_sides : Nat → Int32) (M_held : Nat → Int32) : Prop := dimOK dx dy dz ∧ sdOK M_sides dx dy dz
def po_X4_hold (ad : Nat → Nat) (cA : Nat → ClassId) (dx : Nat) (dy : Nat) (dz : Nat) (p1 : Int32) (p2 : Int32) (M_thrown : Int32) (M_trace : Int64) (M_found : Int64) (M_foundSet : Int64) (M_foundTimes : Int64) (M_w : Int32) (M_h : Int32) (M_sides : Nat → Int32) (M_held : Nat → Int32) (r : Int32) (u : (Int32) × (Nat → Int32)) : Prop := ((0 ≤ p1.toInt ∧ p1.toInt < (dx * dy * dz : Nat)) ∧ (0 ≤ p2.toInt ∧ p2.toInt ≤ 2) → r = M_held p1.toNatClampNeg ∧ u.2 = upd M_held p1.toNatClampNeg p2) ∧ (¬ ((0 ≤ p1.toInt ∧ p1.toInt < (dx * dy * dz : Nat)) ∧ (0 ≤ p2.toInt ∧ p2.toInt ≤ 2)) → r = -1 ∧ u.2 = M_held)
set_option maxHeartbeats 4000000 in
set_option maxRecDepth 100000 in
theorem c_X4_hold (ad : Nat → Nat) (cA : Nat → ClassId) (dx : Nat) (dy : Nat) (dz : Nat) (p1 : Int32) (p2 : Int32) (M_thrown : Int32) (M_trace : Int64) (M_found : Int64) (M_foundSet : Int64) (M_foundTimes : Int64) (M_w : Int32) (M_h : Int32) (M_sides : Nat → Int32) (M_held : Nat → Int32) (hq : prX4_hold dx dy dz p1 p2 M_thrown M_trace M_found M_foundSet M_foundTimes M_w M_h M_sides M_held) : ∀ (l : Launch) (D : va_G), gMi (S := (Int32) × (Nat → Int32)) l yX4_hold wsX4_hold rmX4_hold D (gT cA) 0 0 [.ref (ad 19), .int p1, .int p2] (wcX4_hold ad cA M_thrown M_trace M_found M_foundSet M_foundTimes M_w M_h M_sides M_held) (po_X4_hold ad cA dx dy dz p1 p2 M_thrown M_trace M_found M_foundSet M_foundTimes M_w M_h M_sides M_held) (w1X4_hold ad cA M_trace M_found M_foundSet M_foundTimes M_w M_h M_sides) := by
  intro l D
  unfold prX4_hold at hq
  refine g_enteri (cc := cX4_hold) (nL := 4) (ret := (some .int)) (by decide) rfl (Nat.le_of_ble_eq_true rfl) rfl (fun X C E => ?_)
  obtain ⟨hd, hs⟩ := hq
  have hV := hd.2.2.2.2.2.2
  refine sgX4_hold_0 C E ?_
  obtain ⟨i1, i2⟩ := isCell4_eq (M_thrown := 0) (M_trace := M_trace) (M_found := M_found) (M_foundSet := M_foundSet) (M_foundTimes := M_foundTimes) (M_w := M_w) (M_h := M_h) hd hs p1
  rw [i1]
  refine ⟨i2, fun c => ⟨fun q => absurd q.1 (of_decide_eq_false c), fun _ => ⟨rfl, rfl⟩⟩, fun c => ?_⟩
  have c' := of_decide_eq_true c
  obtain ⟨j, hj, rfl⟩ := i_nat (n := 35) c'.1 (by omega)
  have v : vp_in (nI j) 36 := vp_in_nI (by omega) (by decide)
  exact ⟨fun c2 => ⟨v, v, fun _ => ⟨rfl, rfl⟩, fun q => absurd ⟨c', in_t c2⟩ q⟩, fun c2 => ⟨fun q => absurd q.2 (in_f c2), fun _ => ⟨rfl, rfl⟩⟩⟩


abbrev w1X4_price (ad : Nat → Nat) (cA : Nat → ClassId) (M_trace : Int64) (M_found : Int64) (M_foundSet : Int64) (M_foundTimes : Int64) (M_w : Int32) (M_h : Int32) (M_sides : Nat → Int32) (u : (Int32) × (Nat → Int32)) : va_W := [((ad 19), .inr (4, [.int u.1, .long M_trace, .ref (ad 20), .ref (ad 21), .ref (ad 22), .ref (ad 23), .ref (ad 24), .ref (ad 25), .ref (ad 26), .ref (ad 27), .ref (ad 28), .ref (ad 29), .ref (ad 30), .ref (ad 31), .long M_found, .long M_foundSet, .long M_foundTimes, .int M_w, .int M_h, .ref (ad 32), .ref (ad 33), .ref (ad 34)])), ((ad 20), .inl (cA 0, 3, .inl M_sides)), ((ad 22), .inl (cA 0, 36, .inl u.2))]
abbrev wcX4_price (ad : Nat → Nat) (cA : Nat → ClassId) (M_thrown : Int32) (M_trace : Int64) (M_found : Int64) (M_foundSet : Int64) (M_foundTimes : Int64) (M_w : Int32) (M_h : Int32) (M_sides : Nat → Int32) (M_price : Nat → Int32) : va_W := [((ad 19), .inr (4, [.int M_thrown, .long M_trace, .ref (ad 20), .ref (ad 21), .ref (ad 22), .ref (ad 23), .ref (ad 24), .ref (ad 25), .ref (ad 26), .ref (ad 27), .ref (ad 28), .ref (ad 29), .ref (ad 30), .ref (ad 31), .long M_found, .long M_foundSet, .long M_foundTimes, .int M_w, .int M_h, .ref (ad 32), .ref (ad 33), .ref (ad 34)])), ((ad 20), .inl (cA 0, 3, .inl M_sides)), ((ad 22), .inl (cA 0, 36, .inl M_price))]
def rmX4_price : Room := { frames := 2, cells := 0, slots := 0, locals := 46 }
abbrev atX4_price_0 (X : gX) (ad : Nat → Nat) (cA : Nat → ClassId) (p1 : Int32) (p2 : Int32) (M_thrown : Int32) (M_trace : Int64) (M_found : Int64) (M_foundSet : Int64) (M_foundTimes : Int64) (M_w : Int32) (M_h : Int32) (M_sides : Nat → Int32) (M_price : Nat → Int32) : Prop := gW X 0 0 [((ad 19), .inr (4, [.int M_thrown, .long M_trace, .ref (ad 20), .ref (ad 21), .ref (ad 22), .ref (ad 23), .ref (ad 24), .ref (ad 25), .ref (ad 26), .ref (ad 27), .ref (ad 28), .ref (ad 29), .ref (ad 30), .ref (ad 31), .long M_found, .long M_foundSet, .long M_foundTimes, .int M_w, .int M_h, .ref (ad 32), .ref (ad 33), .ref (ad 34)])), ((ad 20), .inl (cA 0, 3, .inl M_sides)), ((ad 22), .inl (cA 0, 36, .inl M_price))] 4 [(0, .ref (ad 19)), (1, .int p1), (2, .int p2)] [] 0
theorem cnX4_price_86 : Cond.constantLong RX4 86 (-20) ∈ wsX4_price := by decide +kernel
theorem cnX4_price_88 : Cond.constantLong RX4 88 (20) ∈ wsX4_price := by decide +kernel
theorem cnX4_price_90 : Cond.constant RX4 90 (-1000000) ∈ wsX4_price := by decide +kernel
theorem giX4_price_X4 : ∀ w ∈ u_ws RX4 TX4 22, w ∈ wsX4_price := by decide +kernel
theorem gfX4_price_67 : gF wsX4_price RX4 67 4 0 RX4 TX4 22 := ⟨giX4_price_X4, by decide +kernel, rfl, by decide⟩
theorem gfX4_price_16 : gF wsX4_price RX4 16 4 4 RX4 TX4 22 := ⟨giX4_price_X4, by decide +kernel, rfl, by decide⟩
set_option maxHeartbeats 4000000 in
set_option maxRecDepth 100000 in
theorem sgX4_price_0 {X : gX} {ad : Nat → Nat} {cA : Nat → ClassId} {post : Int32 → ((Int32) × (Nat → Int32)) → Prop} {p1 : Int32} {p2 : Int32} {M_thrown : Int32} {M_trace : Int64} {M_found : Int64} {M_foundSet : Int64} {M_foundTimes : Int64} {M_w : Int32} {M_h : Int32} {M_sides : Nat → Int32} {M_price : Nat → Int32} (C : gC X (gT cA) cX4_price 4 RX4 wsX4_price rmX4_price) (E : gEi X (some .int) (gT cA) 0 0 post (w1X4_price ad cA M_trace M_found M_foundSet M_foundTimes M_w M_h M_sides)) (h : prX4_isCell p1 (0 : Int32) M_trace M_found M_foundSet M_foundTimes M_w M_h M_sides ∧ ((fnX4_isCell p1 (0 : Int32) M_trace M_found M_foundSet M_foundTimes M_w M_h M_sides) = false → post (-1000000 : Int32) ((0 : Int32), M_price)) ∧ ((fnX4_isCell p1 (0 : Int32) M_trace M_found M_foundSet M_foundTimes M_w M_h M_sides) = true → ((fnX4_in p2.toInt64 (-20 : Int64) (20 : Int64)) = true → vp_in p1 36 ∧ vp_in p1 36 ∧ post (M_price p1.toNatClampNeg) ((0 : Int32), (upd M_price p1.toNatClampNeg p2))) ∧ ((fnX4_in p2.toInt64 (-20 : Int64) (20 : Int64)) = false → post (-1000000 : Int32) ((0 : Int32), M_price)))) : atX4_price_0 X ad cA p1 p2 M_thrown M_trace M_found M_foundSet M_foundTimes M_w M_h M_sides M_price := by
  refine g_aload_n C dX4_price_0 rfl 0 rfl ?_
  refine g_iconst C dX4_price_1 ik_0 ?_
  refine g_put (ws2 := [((ad 19), .inr (4, [.int (0 : Int32), .long M_trace, .ref (ad 20), .ref (ad 21), .ref (ad 22), .ref (ad 23), .ref (ad 24), .ref (ad 25), .ref (ad 26), .ref (ad 27), .ref (ad 28), .ref (ad 29), .ref (ad 30), .ref (ad 31), .long M_found, .long M_foundSet, .long M_foundTimes, .int M_w, .int M_h, .ref (ad 32), .ref (ad 33), .ref (ad 34)])), ((ad 20), .inl (cA 0, 3, .inl M_sides)), ((ad 22), .inl (cA 0, 36, .inl M_price))]) C gfX4_price_67 0 tyX4_ok nmX4 rfl rfl rfl rfl (Nat.le_of_ble_eq_true rfl) rfl dX4_price_2 ?_
  refine g_aload_n C dX4_price_5 rfl 0 rfl ?_
  refine g_iload_n C dX4_price_6 rfl 1 rfl ?_
  obtain ⟨hi_1, h⟩ := h
  refine g_callVi (wr := [((ad 22), .inl (cA 0, 36, .inl M_price))]) C (c_X4_isCell ad cA p1 (0 : Int32) M_trace M_found M_foundSet M_foundTimes M_w M_h M_sides hi_1) gX4_price_X4_isCell rfl hde_X4_isCell ⟨rfl, rfl⟩ (by decide) (by decide) [0, 1] [2] [1, 2, 0] rfl rfl rfl rfl (by decide) rfl (ws2 := fun u => [((ad 19), .inr (4, [.int (0 : Int32), .long M_trace, .ref (ad 20), .ref (ad 21), .ref (ad 22), .ref (ad 23), .ref (ad 24), .ref (ad 25), .ref (ad 26), .ref (ad 27), .ref (ad 28), .ref (ad 29), .ref (ad 30), .ref (ad 31), .long M_found, .long M_foundSet, .long M_foundTimes, .int M_w, .int M_h, .ref (ad 32), .ref (ad 33), .ref (ad 34)])), ((ad 20), .inl (cA 0, 3, .inl M_sides)), ((ad 22), .inl (cA 0, 36, .inl M_price))]) (fun _ => rfl) 4 0 rfl rfl rfl (rest := []) rfl (Nat.le_of_ble_eq_true rfl) dX4_price_7 (fun r_2 u_2 hp_2 => ?_)
  subst hp_2
  change gW X 0 0 [((ad 19), .inr (4, [.int (0 : Int32), .long M_trace, .ref (ad 20), .ref (ad 21), .ref (ad 22), .ref (ad 23), .ref (ad 24), .ref (ad 25), .ref (ad 26), .ref (ad 27), .ref (ad 28), .ref (ad 29), .ref (ad 30), .ref (ad 31), .long M_found, .long M_foundSet, .long M_foundTimes, .int M_w, .int M_h, .ref (ad 32), .ref (ad 33), .ref (ad 34)])), ((ad 20), .inl (cA 0, 3, .inl M_sides)), ((ad 22), .inl (cA 0, 36, .inl M_price))] 4 [(0, .ref (ad 19)), (1, .int p1), (2, .int p2)] [.int (bI (fnX4_isCell p1 (0 : Int32) M_trace M_found M_foundSet M_foundTimes M_w M_h M_sides))] 10
  refine g_ifeq_b (tgt := 27) C dX4_price_10 (by decide) (fun c_3 => ?_) (fun c_3 => ?_)
  · replace h := h.1 c_3
    refine g_ldc C cnX4_price_90 dX4_price_27 ?_
    exact g_iret C E ((0 : Int32), M_price) h rfl dX4_price_29
  · replace h := h.2 c_3
    refine g_iload_n C dX4_price_13 rfl 2 rfl ?_
    refine g_i2l C dX4_price_14 ?_
    refine g_ldc2_w C cnX4_price_86 dX4_price_15 ?_
    refine g_ldc2_w C cnX4_price_88 dX4_price_18 ?_
    refine g_callSi (b := 0) (wr := [((ad 19), .inr (4, [.int (0 : Int32), .long M_trace, .ref (ad 20), .ref (ad 21), .ref (ad 22), .ref (ad 23), .ref (ad 24), .ref (ad 25), .ref (ad 26), .ref (ad 27), .ref (ad 28), .ref (ad 29), .ref (ad 30), .ref (ad 31), .long M_found, .long M_foundSet, .long M_foundTimes, .int M_w, .int M_h, .ref (ad 32), .ref (ad 33), .ref (ad 34)])), ((ad 20), .inl (cA 0, 3, .inl M_sides)), ((ad 22), .inl (cA 0, 36, .inl M_price))]) C (c_X4_in ad cA p2.toInt64 (-20 : Int64) (20 : Int64)) gX4_price_X4_in rfl hde_X4_in ⟨rfl, rfl⟩ (by decide) (by decide) [] [0, 1, 2] [0, 1, 2] rfl rfl rfl rfl (by decide) rfl (ws2 := fun u => [((ad 19), .inr (4, [.int (0 : Int32), .long M_trace, .ref (ad 20), .ref (ad 21), .ref (ad 22), .ref (ad 23), .ref (ad 24), .ref (ad 25), .ref (ad 26), .ref (ad 27), .ref (ad 28), .ref (ad 29), .ref (ad 30), .ref (ad 31), .long M_found, .long M_foundSet, .long M_foundTimes, .int M_w, .int M_h, .ref (ad 32), .ref (ad 33), .ref (ad 34)])), ((ad 20), .inl (cA 0, 3, .inl M_sides)), ((ad 22), .inl (cA 0, 36, .inl M_price))]) (fun _ => rfl) (rest := []) rfl (Nat.le_of_ble_eq_true rfl) dX4_price_21 (fun r_4 u_4 hp_4 => ?_)
    subst hp_4
    change gW X 0 0 [((ad 19), .inr (4, [.int (0 : Int32), .long M_trace, .ref (ad 20), .ref (ad 21), .ref (ad 22), .ref (ad 23), .ref (ad 24), .ref (ad 25), .ref (ad 26), .ref (ad 27), .ref (ad 28), .ref (ad 29), .ref (ad 30), .ref (ad 31), .long M_found, .long M_foundSet, .long M_foundTimes, .int M_w, .int M_h, .ref (ad 32), .ref (ad 33), .ref (ad 34)])), ((ad 20), .inl (cA 0, 3, .inl M_sides)), ((ad 22), .inl (cA 0, 36, .inl M_price))] 4 [(0, .ref (ad 19)), (1, .int p1), (2, .int p2)] [.int (bI (fnX4_in p2.toInt64 (-20 : Int64) (20 : Int64)))] 24
    refine g_ifne_b (tgt := 30) C dX4_price_24 (by decide) (fun c_5 => ?_) (fun c_5 => ?_)
    · replace h := h.1 c_5
      refine g_aload_n C dX4_price_30 rfl 0 rfl ?_
      refine g_get C gfX4_price_16 0 rfl rfl dX4_price_31 ?_
      refine g_iload_n C dX4_price_34 rfl 1 rfl ?_
      obtain ⟨hi_6, h⟩ := h
      refine g_iald C 2 0 rfl rfl hi_6 dX4_price_35 ?_
      refine g_istore_n (lv2 := [(0, .ref (ad 19)), (1, .int p1), (2, .int p2), (3, .int (M_price p1.toNatClampNeg))]) C dX4_price_36 rfl (by decide) [1, 2, 3, 0] rfl ?_
      refine g_aload_n C dX4_price_37 rfl 0 rfl ?_
      refine g_get C gfX4_price_16 0 rfl rfl dX4_price_38 ?_
      refine g_iload_n C dX4_price_41 rfl 1 rfl ?_
      refine g_iload_n C dX4_price_42 rfl 2 rfl ?_
      obtain ⟨hi_7, h⟩ := h
      refine g_iast (ws2 := [((ad 19), .inr (4, [.int (0 : Int32), .long M_trace, .ref (ad 20), .ref (ad 21), .ref (ad 22), .ref (ad 23), .ref (ad 24), .ref (ad 25), .ref (ad 26), .ref (ad 27), .ref (ad 28), .ref (ad 29), .ref (ad 30), .ref (ad 31), .long M_found, .long M_foundSet, .long M_foundTimes, .int M_w, .int M_h, .ref (ad 32), .ref (ad 33), .ref (ad 34)])), ((ad 20), .inl (cA 0, 3, .inl M_sides)), ((ad 22), .inl (cA 0, 36, .inl (upd M_price p1.toNatClampNeg p2)))]) C 2 0 rfl rfl hi_7 rfl dX4_price_43 ?_
      refine g_iload_n C dX4_price_44 rfl 3 rfl ?_
      exact g_iret C E ((0 : Int32), (upd M_price p1.toNatClampNeg p2)) h rfl dX4_price_45
    · replace h := h.2 c_5
      refine g_ldc C cnX4_price_90 dX4_price_27 ?_
      exact g_iret C E ((0 : Int32), M_price) h rfl dX4_price_29
def prX4_price (dx : Nat) (dy : Nat) (dz : Nat) (p1 : Int32) (p2 : Int32) (M_thrown : Int32) (M_trace : Int64) (M_found : Int64) (M_foundSet : Int64) (M_foundTimes : Int64) (M_w : Int32) (M_h : Int32) (M_sides : Nat → Int32) (M_price : Nat → Int32) : Prop := dimOK dx dy dz ∧ sdOK M_sides dx dy dz
def po_X4_price (ad : Nat → Nat) (cA : Nat → ClassId) (dx : Nat) (dy : Nat) (dz : Nat) (p1 : Int32) (p2 : Int32) (M_thrown : Int32) (M_trace : Int64) (M_found : Int64) (M_foundSet : Int64) (M_foundTimes : Int64) (M_w : Int32) (M_h : Int32) (M_sides : Nat → Int32) (M_price : Nat → Int32) (r : Int32) (u : (Int32) × (Nat → Int32)) : Prop := ((0 ≤ p1.toInt ∧ p1.toInt < (dx * dy * dz : Nat)) ∧ (-20 ≤ p2.toInt ∧ p2.toInt ≤ 20) → r = M_price p1.toNatClampNeg ∧ u.2 = upd M_price p1.toNatClampNeg p2) ∧ (¬ ((0 ≤ p1.toInt ∧ p1.toInt < (dx * dy * dz : Nat)) ∧ (-20 ≤ p2.toInt ∧ p2.toInt ≤ 20)) → r = -1000000 ∧ u.2 = M_price)
set_option maxHeartbeats 4000000 in
set_option maxRecDepth 100000 in
theorem c_X4_price (ad : Nat → Nat) (cA : Nat → ClassId) (dx : Nat) (dy : Nat) (dz : Nat) (p1 : Int32) (p2 : Int32) (M_thrown : Int32) (M_trace : Int64) (M_found : Int64) (M_foundSet : Int64) (M_foundTimes : Int64) (M_w : Int32) (M_h : Int32) (M_sides : Nat → Int32) (M_price : Nat → Int32) (hq : prX4_price dx dy dz p1 p2 M_thrown M_trace M_found M_foundSet M_foundTimes M_w M_h M_sides M_price) : ∀ (l : Launch) (D : va_G), gMi (S := (Int32) × (Nat → Int32)) l yX4_price wsX4_price rmX4_price D (gT cA) 0 0 [.ref (ad 19), .int p1, .int p2] (wcX4_price ad cA M_thrown M_trace M_found M_foundSet M_foundTimes M_w M_h M_sides M_price) (po_X4_price ad cA dx dy dz p1 p2 M_thrown M_trace M_found M_foundSet M_foundTimes M_w M_h M_sides M_price) (w1X4_price ad cA M_trace M_found M_foundSet M_foundTimes M_w M_h M_sides) := by
  intro l D
  unfold prX4_price at hq
  refine g_enteri (cc := cX4_price) (nL := 4) (ret := (some .int)) (by decide) rfl (Nat.le_of_ble_eq_true rfl) rfl (fun X C E => ?_)
  obtain ⟨hd, hs⟩ := hq
  have hV := hd.2.2.2.2.2.2
  refine sgX4_price_0 C E ?_
  obtain ⟨i1, i2⟩ := isCell4_eq (M_thrown := 0) (M_trace := M_trace) (M_found := M_found) (M_foundSet := M_foundSet) (M_foundTimes := M_foundTimes) (M_w := M_w) (M_h := M_h) hd hs p1
  rw [i1]
  refine ⟨i2, fun c => ⟨fun q => absurd q.1 (of_decide_eq_false c), fun _ => ⟨rfl, rfl⟩⟩, fun c => ?_⟩
  have c' := of_decide_eq_true c
  obtain ⟨j, hj, rfl⟩ := i_nat (n := 35) c'.1 (by omega)
  have v : vp_in (nI j) 36 := vp_in_nI (by omega) (by decide)
  exact ⟨fun c2 => ⟨v, v, fun _ => ⟨rfl, rfl⟩, fun q => absurd ⟨c', in_t c2⟩ q⟩, fun c2 => ⟨fun q => absurd q.2 (in_f c2), fun _ => ⟨rfl, rfl⟩⟩⟩


theorem lo_eq : ∀ j, j < 7 → (if nI j = (5 : Int32) then (1 : Int64) else 0).toInt = (lowR j).toInt := by decide +kernel
theorem hg_eq : ∀ j, j < 7 → (if nI j = (6 : Int32) then (2 : Int64) else 9).toInt = (hgR j).toInt := by decide +kernel

abbrev w1X4_set (ad : Nat → Nat) (cA : Nat → ClassId) (M_trace : Int64) (M_found : Int64) (M_foundSet : Int64) (M_foundTimes : Int64) (M_w : Int32) (M_h : Int32) (u : (Int32) × (Nat → Int32)) : va_W := [((ad 19), .inr (4, [.int u.1, .long M_trace, .ref (ad 20), .ref (ad 21), .ref (ad 22), .ref (ad 23), .ref (ad 24), .ref (ad 25), .ref (ad 26), .ref (ad 27), .ref (ad 28), .ref (ad 29), .ref (ad 30), .ref (ad 31), .long M_found, .long M_foundSet, .long M_foundTimes, .int M_w, .int M_h, .ref (ad 32), .ref (ad 33), .ref (ad 34)])), ((ad 23), .inl (cA 0, 7, .inl u.2))]
abbrev wcX4_set (ad : Nat → Nat) (cA : Nat → ClassId) (M_thrown : Int32) (M_trace : Int64) (M_found : Int64) (M_foundSet : Int64) (M_foundTimes : Int64) (M_w : Int32) (M_h : Int32) (M_rules : Nat → Int32) : va_W := [((ad 19), .inr (4, [.int M_thrown, .long M_trace, .ref (ad 20), .ref (ad 21), .ref (ad 22), .ref (ad 23), .ref (ad 24), .ref (ad 25), .ref (ad 26), .ref (ad 27), .ref (ad 28), .ref (ad 29), .ref (ad 30), .ref (ad 31), .long M_found, .long M_foundSet, .long M_foundTimes, .int M_w, .int M_h, .ref (ad 32), .ref (ad 33), .ref (ad 34)])), ((ad 23), .inl (cA 0, 7, .inl M_rules))]
def rmX4_set : Room := { frames := 1, cells := 0, slots := 0, locals := 25 }
abbrev atX4_set_0 (X : gX) (ad : Nat → Nat) (cA : Nat → ClassId) (p1 : Int32) (p2 : Int32) (M_thrown : Int32) (M_trace : Int64) (M_found : Int64) (M_foundSet : Int64) (M_foundTimes : Int64) (M_w : Int32) (M_h : Int32) (M_rules : Nat → Int32) : Prop := gW X 0 0 [((ad 19), .inr (4, [.int M_thrown, .long M_trace, .ref (ad 20), .ref (ad 21), .ref (ad 22), .ref (ad 23), .ref (ad 24), .ref (ad 25), .ref (ad 26), .ref (ad 27), .ref (ad 28), .ref (ad 29), .ref (ad 30), .ref (ad 31), .long M_found, .long M_foundSet, .long M_foundTimes, .int M_w, .int M_h, .ref (ad 32), .ref (ad 33), .ref (ad 34)])), ((ad 23), .inl (cA 0, 7, .inl M_rules))] 4 [(0, .ref (ad 19)), (1, .int p1), (2, .int p2)] [] 0
theorem cnX4_set_91 : Cond.constantLong RX4 91 (6) ∈ wsX4_set := by decide +kernel
theorem cnX4_set_84 : Cond.constantLong RX4 84 (2) ∈ wsX4_set := by decide +kernel
theorem cnX4_set_93 : Cond.constantLong RX4 93 (9) ∈ wsX4_set := by decide +kernel
theorem giX4_set_X4 : ∀ w ∈ u_ws RX4 TX4 22, w ∈ wsX4_set := by decide +kernel
theorem gfX4_set_67 : gF wsX4_set RX4 67 4 0 RX4 TX4 22 := ⟨giX4_set_X4, by decide +kernel, rfl, by decide⟩
theorem gfX4_set_19 : gF wsX4_set RX4 19 4 5 RX4 TX4 22 := ⟨giX4_set_X4, by decide +kernel, rfl, by decide⟩
set_option maxHeartbeats 4000000 in
set_option maxRecDepth 100000 in
theorem sgX4_set_0 {X : gX} {ad : Nat → Nat} {cA : Nat → ClassId} {post : Int32 → ((Int32) × (Nat → Int32)) → Prop} {p1 : Int32} {p2 : Int32} {M_thrown : Int32} {M_trace : Int64} {M_found : Int64} {M_foundSet : Int64} {M_foundTimes : Int64} {M_w : Int32} {M_h : Int32} {M_rules : Nat → Int32} (C : gC X (gT cA) cX4_set 4 RX4 wsX4_set rmX4_set) (E : gEi X (some .int) (gT cA) 0 0 post (w1X4_set ad cA M_trace M_found M_foundSet M_foundTimes M_w M_h)) (h : ((fnX4_in p1.toInt64 (0 : Int64) (6 : Int64)) = false → post (-1 : Int32) ((0 : Int32), M_rules)) ∧ ((fnX4_in p1.toInt64 (0 : Int64) (6 : Int64)) = true → ((fnX4_in p2.toInt64 (if p1 = (5 : Int32) then (1 : Int64) else (0 : Int64)) (if p1 = (6 : Int32) then (2 : Int64) else (9 : Int64))) = true → vp_in p1 7 ∧ vp_in p1 7 ∧ post (M_rules p1.toNatClampNeg) ((0 : Int32), (upd M_rules p1.toNatClampNeg p2))) ∧ ((fnX4_in p2.toInt64 (if p1 = (5 : Int32) then (1 : Int64) else (0 : Int64)) (if p1 = (6 : Int32) then (2 : Int64) else (9 : Int64))) = false → post (-1 : Int32) ((0 : Int32), M_rules)))) : atX4_set_0 X ad cA p1 p2 M_thrown M_trace M_found M_foundSet M_foundTimes M_w M_h M_rules := by
  refine g_aload_n C dX4_set_0 rfl 0 rfl ?_
  refine g_iconst C dX4_set_1 ik_0 ?_
  refine g_put (ws2 := [((ad 19), .inr (4, [.int (0 : Int32), .long M_trace, .ref (ad 20), .ref (ad 21), .ref (ad 22), .ref (ad 23), .ref (ad 24), .ref (ad 25), .ref (ad 26), .ref (ad 27), .ref (ad 28), .ref (ad 29), .ref (ad 30), .ref (ad 31), .long M_found, .long M_foundSet, .long M_foundTimes, .int M_w, .int M_h, .ref (ad 32), .ref (ad 33), .ref (ad 34)])), ((ad 23), .inl (cA 0, 7, .inl M_rules))]) C gfX4_set_67 0 tyX4_ok nmX4 rfl rfl rfl rfl (Nat.le_of_ble_eq_true rfl) rfl dX4_set_2 ?_
  refine g_iload_n C dX4_set_5 rfl 1 rfl ?_
  refine g_i2l C dX4_set_6 ?_
  refine g_lconst C dX4_set_7 lk_0 ?_
  refine g_ldc2_w C cnX4_set_91 dX4_set_8 ?_
  refine g_callSi (b := 0) (wr := [((ad 19), .inr (4, [.int (0 : Int32), .long M_trace, .ref (ad 20), .ref (ad 21), .ref (ad 22), .ref (ad 23), .ref (ad 24), .ref (ad 25), .ref (ad 26), .ref (ad 27), .ref (ad 28), .ref (ad 29), .ref (ad 30), .ref (ad 31), .long M_found, .long M_foundSet, .long M_foundTimes, .int M_w, .int M_h, .ref (ad 32), .ref (ad 33), .ref (ad 34)])), ((ad 23), .inl (cA 0, 7, .inl M_rules))]) C (c_X4_in ad cA p1.toInt64 (0 : Int64) (6 : Int64)) gX4_set_X4_in rfl hde_X4_in ⟨rfl, rfl⟩ (by decide) (by decide) [] [0, 1] [0, 1] rfl rfl rfl rfl (by decide) rfl (ws2 := fun u => [((ad 19), .inr (4, [.int (0 : Int32), .long M_trace, .ref (ad 20), .ref (ad 21), .ref (ad 22), .ref (ad 23), .ref (ad 24), .ref (ad 25), .ref (ad 26), .ref (ad 27), .ref (ad 28), .ref (ad 29), .ref (ad 30), .ref (ad 31), .long M_found, .long M_foundSet, .long M_foundTimes, .int M_w, .int M_h, .ref (ad 32), .ref (ad 33), .ref (ad 34)])), ((ad 23), .inl (cA 0, 7, .inl M_rules))]) (fun _ => rfl) (rest := []) rfl (Nat.le_of_ble_eq_true rfl) dX4_set_11 (fun r_1 u_1 hp_1 => ?_)
  subst hp_1
  change gW X 0 0 [((ad 19), .inr (4, [.int (0 : Int32), .long M_trace, .ref (ad 20), .ref (ad 21), .ref (ad 22), .ref (ad 23), .ref (ad 24), .ref (ad 25), .ref (ad 26), .ref (ad 27), .ref (ad 28), .ref (ad 29), .ref (ad 30), .ref (ad 31), .long M_found, .long M_foundSet, .long M_foundTimes, .int M_w, .int M_h, .ref (ad 32), .ref (ad 33), .ref (ad 34)])), ((ad 23), .inl (cA 0, 7, .inl M_rules))] 4 [(0, .ref (ad 19)), (1, .int p1), (2, .int p2)] [.int (bI (fnX4_in p1.toInt64 (0 : Int64) (6 : Int64)))] 14
  refine g_ifeq_b (tgt := 50) C dX4_set_14 (by decide) (fun c_2 => ?_) (fun c_2 => ?_)
  · replace h := h.1 c_2
    refine g_iconst C dX4_set_50 ik_m1 ?_
    exact g_iret C E ((0 : Int32), M_rules) h rfl dX4_set_51
  · replace h := h.2 c_2
    refine g_iload_n C dX4_set_17 rfl 2 rfl ?_
    refine g_i2l C dX4_set_18 ?_
    refine g_iload_n C dX4_set_19 rfl 1 rfl ?_
    refine g_iconst C dX4_set_20 ik_5 ?_
    have key : gW X 0 0 [((ad 19), .inr (4, [.int (0 : Int32), .long M_trace, .ref (ad 20), .ref (ad 21), .ref (ad 22), .ref (ad 23), .ref (ad 24), .ref (ad 25), .ref (ad 26), .ref (ad 27), .ref (ad 28), .ref (ad 29), .ref (ad 30), .ref (ad 31), .long M_found, .long M_foundSet, .long M_foundTimes, .int M_w, .int M_h, .ref (ad 32), .ref (ad 33), .ref (ad 34)])), ((ad 23), .inl (cA 0, 7, .inl M_rules))] 4 [(0, .ref (ad 19)), (1, .int p1), (2, .int p2)] [.long (if p1 = (5 : Int32) then (1 : Int64) else (0 : Int64)), .long p2.toInt64] 29 := by
      refine g_iload_n C dX4_set_29 rfl 1 rfl ?_
      refine g_bipush C dX4_set_30 bk_6 ?_
      have key : gW X 0 0 [((ad 19), .inr (4, [.int (0 : Int32), .long M_trace, .ref (ad 20), .ref (ad 21), .ref (ad 22), .ref (ad 23), .ref (ad 24), .ref (ad 25), .ref (ad 26), .ref (ad 27), .ref (ad 28), .ref (ad 29), .ref (ad 30), .ref (ad 31), .long M_found, .long M_foundSet, .long M_foundTimes, .int M_w, .int M_h, .ref (ad 32), .ref (ad 33), .ref (ad 34)])), ((ad 23), .inl (cA 0, 7, .inl M_rules))] 4 [(0, .ref (ad 19)), (1, .int p1), (2, .int p2)] [.long (if p1 = (6 : Int32) then (2 : Int64) else (9 : Int64)), .long (if p1 = (5 : Int32) then (1 : Int64) else (0 : Int64)), .long p2.toInt64] 44 := by
        refine g_callSi (b := 0) (wr := [((ad 19), .inr (4, [.int (0 : Int32), .long M_trace, .ref (ad 20), .ref (ad 21), .ref (ad 22), .ref (ad 23), .ref (ad 24), .ref (ad 25), .ref (ad 26), .ref (ad 27), .ref (ad 28), .ref (ad 29), .ref (ad 30), .ref (ad 31), .long M_found, .long M_foundSet, .long M_foundTimes, .int M_w, .int M_h, .ref (ad 32), .ref (ad 33), .ref (ad 34)])), ((ad 23), .inl (cA 0, 7, .inl M_rules))]) C (c_X4_in ad cA p2.toInt64 (if p1 = (5 : Int32) then (1 : Int64) else (0 : Int64)) (if p1 = (6 : Int32) then (2 : Int64) else (9 : Int64))) gX4_set_X4_in rfl hde_X4_in ⟨rfl, rfl⟩ (by decide) (by decide) [] [0, 1] [0, 1] rfl rfl rfl rfl (by decide) rfl (ws2 := fun u => [((ad 19), .inr (4, [.int (0 : Int32), .long M_trace, .ref (ad 20), .ref (ad 21), .ref (ad 22), .ref (ad 23), .ref (ad 24), .ref (ad 25), .ref (ad 26), .ref (ad 27), .ref (ad 28), .ref (ad 29), .ref (ad 30), .ref (ad 31), .long M_found, .long M_foundSet, .long M_foundTimes, .int M_w, .int M_h, .ref (ad 32), .ref (ad 33), .ref (ad 34)])), ((ad 23), .inl (cA 0, 7, .inl M_rules))]) (fun _ => rfl) (rest := []) rfl (Nat.le_of_ble_eq_true rfl) dX4_set_44 (fun r_5 u_5 hp_5 => ?_)
        subst hp_5
        change gW X 0 0 [((ad 19), .inr (4, [.int (0 : Int32), .long M_trace, .ref (ad 20), .ref (ad 21), .ref (ad 22), .ref (ad 23), .ref (ad 24), .ref (ad 25), .ref (ad 26), .ref (ad 27), .ref (ad 28), .ref (ad 29), .ref (ad 30), .ref (ad 31), .long M_found, .long M_foundSet, .long M_foundTimes, .int M_w, .int M_h, .ref (ad 32), .ref (ad 33), .ref (ad 34)])), ((ad 23), .inl (cA 0, 7, .inl M_rules))] 4 [(0, .ref (ad 19)), (1, .int p1), (2, .int p2)] [.int (bI (fnX4_in p2.toInt64 (if p1 = (5 : Int32) then (1 : Int64) else (0 : Int64)) (if p1 = (6 : Int32) then (2 : Int64) else (9 : Int64))))] 47
        refine g_ifne_b (tgt := 52) C dX4_set_47 (by decide) (fun c_6 => ?_) (fun c_6 => ?_)
        · replace h := h.1 c_6
          refine g_aload_n C dX4_set_52 rfl 0 rfl ?_
          refine g_get C gfX4_set_19 0 rfl rfl dX4_set_53 ?_
          refine g_iload_n C dX4_set_56 rfl 1 rfl ?_
          obtain ⟨hi_7, h⟩ := h
          refine g_iald C 1 0 rfl rfl hi_7 dX4_set_57 ?_
          refine g_istore_n (lv2 := [(0, .ref (ad 19)), (1, .int p1), (2, .int p2), (3, .int (M_rules p1.toNatClampNeg))]) C dX4_set_58 rfl (by decide) [1, 2, 3, 0] rfl ?_
          refine g_aload_n C dX4_set_59 rfl 0 rfl ?_
          refine g_get C gfX4_set_19 0 rfl rfl dX4_set_60 ?_
          refine g_iload_n C dX4_set_63 rfl 1 rfl ?_
          refine g_iload_n C dX4_set_64 rfl 2 rfl ?_
          obtain ⟨hi_8, h⟩ := h
          refine g_iast (ws2 := [((ad 19), .inr (4, [.int (0 : Int32), .long M_trace, .ref (ad 20), .ref (ad 21), .ref (ad 22), .ref (ad 23), .ref (ad 24), .ref (ad 25), .ref (ad 26), .ref (ad 27), .ref (ad 28), .ref (ad 29), .ref (ad 30), .ref (ad 31), .long M_found, .long M_foundSet, .long M_foundTimes, .int M_w, .int M_h, .ref (ad 32), .ref (ad 33), .ref (ad 34)])), ((ad 23), .inl (cA 0, 7, .inl (upd M_rules p1.toNatClampNeg p2)))]) C 1 0 rfl rfl hi_8 rfl dX4_set_65 ?_
          refine g_iload_n C dX4_set_66 rfl 3 rfl ?_
          exact g_iret C E ((0 : Int32), (upd M_rules p1.toNatClampNeg p2)) h rfl dX4_set_67
        · replace h := h.2 c_6
          refine g_iconst C dX4_set_50 ik_m1 ?_
          exact g_iret C E ((0 : Int32), M_rules) h rfl dX4_set_51
      refine g_icmp_ne (tgt := 41) C dX4_set_32 (by decide) (fun c_4 => ?_) (fun c_4 => ?_)
      · refine g_ldc2_w C cnX4_set_93 dX4_set_41 ?_
        exact g_leaf (by simp only [if_neg c_4] at key; first | exact key | (simp only [if_neg c_4]; exact key) | exact absurd rfl c_4)
      · refine g_ldc2_w C cnX4_set_84 dX4_set_35 ?_
        refine g_goto (tgt := 44) C dX4_set_38 (by decide) ?_
        exact g_leaf (by simp only [if_pos c_4] at key; first | exact key | (simp only [if_pos c_4]; exact key) | exact absurd rfl c_4)
    refine g_icmp_ne (tgt := 28) C dX4_set_21 (by decide) (fun c_3 => ?_) (fun c_3 => ?_)
    · refine g_lconst C dX4_set_28 lk_0 ?_
      exact g_leaf (by simp only [if_neg c_3] at key; first | exact key | (simp only [if_neg c_3]; exact key) | exact absurd rfl c_3)
    · refine g_lconst C dX4_set_24 lk_1 ?_
      refine g_goto (tgt := 29) C dX4_set_25 (by decide) ?_
      exact g_leaf (by simp only [if_pos c_3] at key; first | exact key | (simp only [if_pos c_3]; exact key) | exact absurd rfl c_3)
def po_X4_set (ad : Nat → Nat) (cA : Nat → ClassId) (p1 : Int32) (p2 : Int32) (M_thrown : Int32) (M_trace : Int64) (M_found : Int64) (M_foundSet : Int64) (M_foundTimes : Int64) (M_w : Int32) (M_h : Int32) (M_rules : Nat → Int32) (r : Int32) (u : (Int32) × (Nat → Int32)) : Prop := ((0 ≤ p1.toInt ∧ p1.toInt ≤ 6) ∧ ((lowR p1.toNatClampNeg).toInt ≤ p2.toInt ∧ p2.toInt ≤ (hgR p1.toNatClampNeg).toInt) → r = M_rules p1.toNatClampNeg ∧ u.2 = upd M_rules p1.toNatClampNeg p2) ∧ (¬ ((0 ≤ p1.toInt ∧ p1.toInt ≤ 6) ∧ ((lowR p1.toNatClampNeg).toInt ≤ p2.toInt ∧ p2.toInt ≤ (hgR p1.toNatClampNeg).toInt)) → r = -1 ∧ u.2 = M_rules)
set_option maxHeartbeats 4000000 in
set_option maxRecDepth 100000 in
theorem c_X4_set (ad : Nat → Nat) (cA : Nat → ClassId) (p1 : Int32) (p2 : Int32) (M_thrown : Int32) (M_trace : Int64) (M_found : Int64) (M_foundSet : Int64) (M_foundTimes : Int64) (M_w : Int32) (M_h : Int32) (M_rules : Nat → Int32) : ∀ (l : Launch) (D : va_G), gMi (S := (Int32) × (Nat → Int32)) l yX4_set wsX4_set rmX4_set D (gT cA) 0 0 [.ref (ad 19), .int p1, .int p2] (wcX4_set ad cA M_thrown M_trace M_found M_foundSet M_foundTimes M_w M_h M_rules) (po_X4_set ad cA p1 p2 M_thrown M_trace M_found M_foundSet M_foundTimes M_w M_h M_rules) (w1X4_set ad cA M_trace M_found M_foundSet M_foundTimes M_w M_h) := by
  intro l D
  refine g_enteri (cc := cX4_set) (nL := 4) (ret := (some .int)) (by decide) rfl (Nat.le_of_ble_eq_true rfl) rfl (fun X C E => ?_)
  refine sgX4_set_0 C E ⟨fun c => ⟨fun q => absurd q.1 (in_f c), fun _ => ⟨rfl, rfl⟩⟩, fun c => ?_⟩
  have c' : 0 ≤ p1.toInt ∧ p1.toInt ≤ 6 := in_t c
  obtain ⟨j, hj, rfl⟩ := i_nat (n := 6) c'.1 c'.2
  have v : vp_in (nI j) 7 := vp_in_nI (by omega) (by decide)
  have e1 := lo_eq j (by omega)
  have e2 := hg_eq j (by omega)
  have ec : (nI j).toNatClampNeg = j := nI_clamp (by omega)
  refine ⟨fun c2 => ⟨v, v, fun _ => ⟨rfl, rfl⟩, fun q => absurd ⟨c', ?_⟩ q⟩, fun c2 => ⟨fun q => absurd ?_ (in_f c2), fun _ => ⟨rfl, rfl⟩⟩⟩
  · rw [e1, e2]; have := q.2; rw [ec] at this; exact this
  · have := in_t c2; rw [e1, e2] at this; rw [ec]; exact this


abbrev w1X4_lift (ad : Nat → Nat) (cA : Nat → ClassId) (M_trace : Int64) (M_found : Int64) (M_foundSet : Int64) (M_foundTimes : Int64) (M_w : Int32) (M_h : Int32) (u : (Int32) × (Nat → Int32)) : va_W := [((ad 19), .inr (4, [.int u.1, .long M_trace, .ref (ad 20), .ref (ad 21), .ref (ad 22), .ref (ad 23), .ref (ad 24), .ref (ad 25), .ref (ad 26), .ref (ad 27), .ref (ad 28), .ref (ad 29), .ref (ad 30), .ref (ad 31), .long M_found, .long M_foundSet, .long M_foundTimes, .int M_w, .int M_h, .ref (ad 32), .ref (ad 33), .ref (ad 34)])), ((ad 32), .inl (cA 0, 64, .inl u.2))]
abbrev wcX4_lift (ad : Nat → Nat) (cA : Nat → ClassId) (M_thrown : Int32) (M_trace : Int64) (M_found : Int64) (M_foundSet : Int64) (M_foundTimes : Int64) (M_w : Int32) (M_h : Int32) (M_height : Nat → Int32) : va_W := [((ad 19), .inr (4, [.int M_thrown, .long M_trace, .ref (ad 20), .ref (ad 21), .ref (ad 22), .ref (ad 23), .ref (ad 24), .ref (ad 25), .ref (ad 26), .ref (ad 27), .ref (ad 28), .ref (ad 29), .ref (ad 30), .ref (ad 31), .long M_found, .long M_foundSet, .long M_foundTimes, .int M_w, .int M_h, .ref (ad 32), .ref (ad 33), .ref (ad 34)])), ((ad 32), .inl (cA 0, 64, .inl M_height))]
def rmX4_lift : Room := { frames := 2, cells := 0, slots := 0, locals := 47 }
abbrev atX4_lift_0 (X : gX) (ad : Nat → Nat) (cA : Nat → ClassId) (p1 : Int32) (p2 : Int32) (p3 : Int32) (M_thrown : Int32) (M_trace : Int64) (M_found : Int64) (M_foundSet : Int64) (M_foundTimes : Int64) (M_w : Int32) (M_h : Int32) (M_height : Nat → Int32) : Prop := gW X 0 0 [((ad 19), .inr (4, [.int M_thrown, .long M_trace, .ref (ad 20), .ref (ad 21), .ref (ad 22), .ref (ad 23), .ref (ad 24), .ref (ad 25), .ref (ad 26), .ref (ad 27), .ref (ad 28), .ref (ad 29), .ref (ad 30), .ref (ad 31), .long M_found, .long M_foundSet, .long M_foundTimes, .int M_w, .int M_h, .ref (ad 32), .ref (ad 33), .ref (ad 34)])), ((ad 32), .inl (cA 0, 64, .inl M_height))] 5 [(0, .ref (ad 19)), (1, .int p1), (2, .int p2), (3, .int p3)] [] 0
theorem cnX4_lift_170 : Cond.constantLong RX4 170 (-100) ∈ wsX4_lift := by decide +kernel
theorem cnX4_lift_172 : Cond.constantLong RX4 172 (100) ∈ wsX4_lift := by decide +kernel
theorem cnX4_lift_90 : Cond.constant RX4 90 (-1000000) ∈ wsX4_lift := by decide +kernel
theorem giX4_lift_X4 : ∀ w ∈ u_ws RX4 TX4 22, w ∈ wsX4_lift := by decide +kernel
theorem gfX4_lift_67 : gF wsX4_lift RX4 67 4 0 RX4 TX4 22 := ⟨giX4_lift_X4, by decide +kernel, rfl, by decide⟩
theorem gfX4_lift_54 : gF wsX4_lift RX4 54 4 19 RX4 TX4 22 := ⟨giX4_lift_X4, by decide +kernel, rfl, by decide⟩
set_option maxHeartbeats 4000000 in
set_option maxRecDepth 100000 in
theorem sgX4_lift_0 {X : gX} {ad : Nat → Nat} {cA : Nat → ClassId} {post : Int32 → ((Int32) × (Nat → Int32)) → Prop} {p1 : Int32} {p2 : Int32} {p3 : Int32} {M_thrown : Int32} {M_trace : Int64} {M_found : Int64} {M_foundSet : Int64} {M_foundTimes : Int64} {M_w : Int32} {M_h : Int32} {M_height : Nat → Int32} (C : gC X (gT cA) cX4_lift 5 RX4 wsX4_lift rmX4_lift) (E : gEi X (some .int) (gT cA) 0 0 post (w1X4_lift ad cA M_trace M_found M_foundSet M_foundTimes M_w M_h)) (h : ((fnX4_isPoint p1 p2 (0 : Int32) M_trace M_found M_foundSet M_foundTimes M_w M_h) = false → post (-1000000 : Int32) ((0 : Int32), M_height)) ∧ ((fnX4_isPoint p1 p2 (0 : Int32) M_trace M_found M_foundSet M_foundTimes M_w M_h) = true → ((fnX4_in p3.toInt64 (-100 : Int64) (100 : Int64)) = true → vp_in (((8 : Int32) * p2) + p1) 64 ∧ ∀ x4_6 : Int32, x4_6 = (M_height (((8 : Int32) * p2) + p1).toNatClampNeg) → vp_in (((8 : Int32) * p2) + p1) 64 ∧ post x4_6 ((0 : Int32), (upd M_height (((8 : Int32) * p2) + p1).toNatClampNeg p3))) ∧ ((fnX4_in p3.toInt64 (-100 : Int64) (100 : Int64)) = false → post (-1000000 : Int32) ((0 : Int32), M_height)))) : atX4_lift_0 X ad cA p1 p2 p3 M_thrown M_trace M_found M_foundSet M_foundTimes M_w M_h M_height := by
  refine g_aload_n C dX4_lift_0 rfl 0 rfl ?_
  refine g_iconst C dX4_lift_1 ik_0 ?_
  refine g_put (ws2 := [((ad 19), .inr (4, [.int (0 : Int32), .long M_trace, .ref (ad 20), .ref (ad 21), .ref (ad 22), .ref (ad 23), .ref (ad 24), .ref (ad 25), .ref (ad 26), .ref (ad 27), .ref (ad 28), .ref (ad 29), .ref (ad 30), .ref (ad 31), .long M_found, .long M_foundSet, .long M_foundTimes, .int M_w, .int M_h, .ref (ad 32), .ref (ad 33), .ref (ad 34)])), ((ad 32), .inl (cA 0, 64, .inl M_height))]) C gfX4_lift_67 0 tyX4_ok nmX4 rfl rfl rfl rfl (Nat.le_of_ble_eq_true rfl) rfl dX4_lift_2 ?_
  refine g_aload_n C dX4_lift_5 rfl 0 rfl ?_
  refine g_iload_n C dX4_lift_6 rfl 1 rfl ?_
  refine g_iload_n C dX4_lift_7 rfl 2 rfl ?_
  refine g_callVi (wr := [((ad 32), .inl (cA 0, 64, .inl M_height))]) C (c_X4_isPoint ad cA p1 p2 (0 : Int32) M_trace M_found M_foundSet M_foundTimes M_w M_h) gX4_lift_X4_isPoint rfl hde_X4_isPoint ⟨rfl, rfl⟩ (by decide) (by decide) [0] [1] [1, 0] rfl rfl rfl rfl (by decide) rfl (ws2 := fun u => [((ad 19), .inr (4, [.int (0 : Int32), .long M_trace, .ref (ad 20), .ref (ad 21), .ref (ad 22), .ref (ad 23), .ref (ad 24), .ref (ad 25), .ref (ad 26), .ref (ad 27), .ref (ad 28), .ref (ad 29), .ref (ad 30), .ref (ad 31), .long M_found, .long M_foundSet, .long M_foundTimes, .int M_w, .int M_h, .ref (ad 32), .ref (ad 33), .ref (ad 34)])), ((ad 32), .inl (cA 0, 64, .inl M_height))]) (fun _ => rfl) 4 0 rfl rfl rfl (rest := []) rfl (Nat.le_of_ble_eq_true rfl) dX4_lift_8 (fun r_1 u_1 hp_1 => ?_)
  subst hp_1
  change gW X 0 0 [((ad 19), .inr (4, [.int (0 : Int32), .long M_trace, .ref (ad 20), .ref (ad 21), .ref (ad 22), .ref (ad 23), .ref (ad 24), .ref (ad 25), .ref (ad 26), .ref (ad 27), .ref (ad 28), .ref (ad 29), .ref (ad 30), .ref (ad 31), .long M_found, .long M_foundSet, .long M_foundTimes, .int M_w, .int M_h, .ref (ad 32), .ref (ad 33), .ref (ad 34)])), ((ad 32), .inl (cA 0, 64, .inl M_height))] 5 [(0, .ref (ad 19)), (1, .int p1), (2, .int p2), (3, .int p3)] [.int (bI (fnX4_isPoint p1 p2 (0 : Int32) M_trace M_found M_foundSet M_foundTimes M_w M_h))] 11
  refine g_ifeq_b (tgt := 28) C dX4_lift_11 (by decide) (fun c_2 => ?_) (fun c_2 => ?_)
  · replace h := h.1 c_2
    refine g_ldc C cnX4_lift_90 dX4_lift_28 ?_
    exact g_iret C E ((0 : Int32), M_height) h rfl dX4_lift_30
  · replace h := h.2 c_2
    refine g_iload_n C dX4_lift_14 rfl 3 rfl ?_
    refine g_i2l C dX4_lift_15 ?_
    refine g_ldc2_w C cnX4_lift_170 dX4_lift_16 ?_
    refine g_ldc2_w C cnX4_lift_172 dX4_lift_19 ?_
    refine g_callSi (b := 0) (wr := [((ad 19), .inr (4, [.int (0 : Int32), .long M_trace, .ref (ad 20), .ref (ad 21), .ref (ad 22), .ref (ad 23), .ref (ad 24), .ref (ad 25), .ref (ad 26), .ref (ad 27), .ref (ad 28), .ref (ad 29), .ref (ad 30), .ref (ad 31), .long M_found, .long M_foundSet, .long M_foundTimes, .int M_w, .int M_h, .ref (ad 32), .ref (ad 33), .ref (ad 34)])), ((ad 32), .inl (cA 0, 64, .inl M_height))]) C (c_X4_in ad cA p3.toInt64 (-100 : Int64) (100 : Int64)) gX4_lift_X4_in rfl hde_X4_in ⟨rfl, rfl⟩ (by decide) (by decide) [] [0, 1] [0, 1] rfl rfl rfl rfl (by decide) rfl (ws2 := fun u => [((ad 19), .inr (4, [.int (0 : Int32), .long M_trace, .ref (ad 20), .ref (ad 21), .ref (ad 22), .ref (ad 23), .ref (ad 24), .ref (ad 25), .ref (ad 26), .ref (ad 27), .ref (ad 28), .ref (ad 29), .ref (ad 30), .ref (ad 31), .long M_found, .long M_foundSet, .long M_foundTimes, .int M_w, .int M_h, .ref (ad 32), .ref (ad 33), .ref (ad 34)])), ((ad 32), .inl (cA 0, 64, .inl M_height))]) (fun _ => rfl) (rest := []) rfl (Nat.le_of_ble_eq_true rfl) dX4_lift_22 (fun r_3 u_3 hp_3 => ?_)
    subst hp_3
    change gW X 0 0 [((ad 19), .inr (4, [.int (0 : Int32), .long M_trace, .ref (ad 20), .ref (ad 21), .ref (ad 22), .ref (ad 23), .ref (ad 24), .ref (ad 25), .ref (ad 26), .ref (ad 27), .ref (ad 28), .ref (ad 29), .ref (ad 30), .ref (ad 31), .long M_found, .long M_foundSet, .long M_foundTimes, .int M_w, .int M_h, .ref (ad 32), .ref (ad 33), .ref (ad 34)])), ((ad 32), .inl (cA 0, 64, .inl M_height))] 5 [(0, .ref (ad 19)), (1, .int p1), (2, .int p2), (3, .int p3)] [.int (bI (fnX4_in p3.toInt64 (-100 : Int64) (100 : Int64)))] 25
    refine g_ifne_b (tgt := 31) C dX4_lift_25 (by decide) (fun c_4 => ?_) (fun c_4 => ?_)
    · replace h := h.1 c_4
      refine g_aload_n C dX4_lift_31 rfl 0 rfl ?_
      refine g_get C gfX4_lift_54 0 rfl rfl dX4_lift_32 ?_
      refine g_bipush C dX4_lift_35 bk_8 ?_
      refine g_iload_n C dX4_lift_37 rfl 2 rfl ?_
      refine g_imul C dX4_lift_38 ?_
      refine g_iload_n C dX4_lift_39 rfl 1 rfl ?_
      refine g_iadd C dX4_lift_40 ?_
      obtain ⟨hi_5, h⟩ := h
      refine g_iald C 1 0 rfl rfl hi_5 dX4_lift_41 ?_
      refine g_topi (fun x4_6 ex4_6 => ?_)
      replace h := h x4_6 ex4_6
      refine g_istore (lv2 := [(0, .ref (ad 19)), (1, .int p1), (2, .int p2), (3, .int p3), (4, .int x4_6)]) C dX4_lift_42 (by decide) [1, 2, 3, 4, 0] rfl ?_
      refine g_aload_n C dX4_lift_44 rfl 0 rfl ?_
      refine g_get C gfX4_lift_54 0 rfl rfl dX4_lift_45 ?_
      refine g_bipush C dX4_lift_48 bk_8 ?_
      refine g_iload_n C dX4_lift_50 rfl 2 rfl ?_
      refine g_imul C dX4_lift_51 ?_
      refine g_iload_n C dX4_lift_52 rfl 1 rfl ?_
      refine g_iadd C dX4_lift_53 ?_
      refine g_iload_n C dX4_lift_54 rfl 3 rfl ?_
      obtain ⟨hi_7, h⟩ := h
      refine g_iast (ws2 := [((ad 19), .inr (4, [.int (0 : Int32), .long M_trace, .ref (ad 20), .ref (ad 21), .ref (ad 22), .ref (ad 23), .ref (ad 24), .ref (ad 25), .ref (ad 26), .ref (ad 27), .ref (ad 28), .ref (ad 29), .ref (ad 30), .ref (ad 31), .long M_found, .long M_foundSet, .long M_foundTimes, .int M_w, .int M_h, .ref (ad 32), .ref (ad 33), .ref (ad 34)])), ((ad 32), .inl (cA 0, 64, .inl (upd M_height (((8 : Int32) * p2) + p1).toNatClampNeg p3)))]) C 1 0 rfl rfl hi_7 rfl dX4_lift_55 ?_
      refine g_iload C dX4_lift_56 4 rfl ?_
      exact g_iret C E ((0 : Int32), (upd M_height (((8 : Int32) * p2) + p1).toNatClampNeg p3)) h rfl dX4_lift_58
    · replace h := h.2 c_4
      refine g_ldc C cnX4_lift_90 dX4_lift_28 ?_
      exact g_iret C E ((0 : Int32), M_height) h rfl dX4_lift_30
def prX4_lift (p1 : Int32) (p2 : Int32) (p3 : Int32) (M_thrown : Int32) (M_trace : Int64) (M_found : Int64) (M_foundSet : Int64) (M_foundTimes : Int64) (M_w : Int32) (M_h : Int32) (M_height : Nat → Int32) : Prop := netOK M_w M_h
def po_X4_lift (ad : Nat → Nat) (cA : Nat → ClassId) (p1 : Int32) (p2 : Int32) (p3 : Int32) (M_thrown : Int32) (M_trace : Int64) (M_found : Int64) (M_foundSet : Int64) (M_foundTimes : Int64) (M_w : Int32) (M_h : Int32) (M_height : Nat → Int32) (r : Int32) (u : (Int32) × (Nat → Int32)) : Prop := (ptOK M_w M_h p1 p2 ∧ (-100 ≤ p3.toInt ∧ p3.toInt ≤ 100) → r = M_height (8 * p2.toNatClampNeg + p1.toNatClampNeg) ∧ u.2 = upd M_height (8 * p2.toNatClampNeg + p1.toNatClampNeg) p3) ∧ (¬ (ptOK M_w M_h p1 p2 ∧ (-100 ≤ p3.toInt ∧ p3.toInt ≤ 100)) → r = -1000000 ∧ u.2 = M_height)
set_option maxHeartbeats 4000000 in
set_option maxRecDepth 100000 in
theorem c_X4_lift (ad : Nat → Nat) (cA : Nat → ClassId) (p1 : Int32) (p2 : Int32) (p3 : Int32) (M_thrown : Int32) (M_trace : Int64) (M_found : Int64) (M_foundSet : Int64) (M_foundTimes : Int64) (M_w : Int32) (M_h : Int32) (M_height : Nat → Int32) (hq : prX4_lift p1 p2 p3 M_thrown M_trace M_found M_foundSet M_foundTimes M_w M_h M_height) : ∀ (l : Launch) (D : va_G), gMi (S := (Int32) × (Nat → Int32)) l yX4_lift wsX4_lift rmX4_lift D (gT cA) 0 0 [.ref (ad 19), .int p1, .int p2, .int p3] (wcX4_lift ad cA M_thrown M_trace M_found M_foundSet M_foundTimes M_w M_h M_height) (po_X4_lift ad cA p1 p2 p3 M_thrown M_trace M_found M_foundSet M_foundTimes M_w M_h M_height) (w1X4_lift ad cA M_trace M_found M_foundSet M_foundTimes M_w M_h) := by
  intro l D
  unfold prX4_lift at hq
  refine g_enteri (cc := cX4_lift) (nL := 5) (ret := (some .int)) (by decide) rfl (Nat.le_of_ble_eq_true rfl) rfl (fun X C E => ?_)
  obtain ⟨w, h, hw2, hw, hh2, hh, rfl, rfl⟩ := hq
  have ip := isPoint4_eq (M_thrown := 0) (M_trace := M_trace) (M_found := M_found) (M_foundSet := M_foundSet) (M_foundTimes := M_foundTimes) hw2 hw hh2 hh p1 p2
  refine sgX4_lift_0 C E ⟨fun c => ⟨fun q => absurd q.1 (bt_f ip c), fun _ => ⟨rfl, rfl⟩⟩, fun c => ⟨fun c2 => ?_, fun c2 => ⟨fun q => absurd q.2 (in_f c2), fun _ => ⟨rfl, rfl⟩⟩⟩⟩
  · have pk := ip.mp c
    obtain ⟨a, b, ha, hb, rfl, rfl⟩ := pt_nat hw hh (ip.mp c)
    have ep : (8 : Int32) * nI b + nI a = nI (8 * b + a) := by rw [show (8 : Int32) = nI 8 from rfl, pk_mul, nI_add]
    have v : vp_in (nI (8 * b + a)) 64 := vp_in_nI (by omega) (by decide)
    have ei : 8 * (nI b).toNatClampNeg + (nI a).toNatClampNeg = 8 * b + a := by rw [nI_clamp (by omega), nI_clamp (by omega)]
    unfold po_X4_lift
    rw [ep, ei, nI_clamp (n := 8 * b + a) (by omega)]
    exact ⟨v, fun x e => ⟨v, fun _ => ⟨e, rfl⟩, fun q => absurd ⟨pk, in_t c2⟩ q⟩⟩


abbrev w1X4_pin (ad : Nat → Nat) (cA : Nat → ClassId) (M_trace : Int64) (M_found : Int64) (M_foundSet : Int64) (M_foundTimes : Int64) (M_w : Int32) (M_h : Int32) (u : (Int32) × (Nat → Int32)) : va_W := [((ad 19), .inr (4, [.int u.1, .long M_trace, .ref (ad 20), .ref (ad 21), .ref (ad 22), .ref (ad 23), .ref (ad 24), .ref (ad 25), .ref (ad 26), .ref (ad 27), .ref (ad 28), .ref (ad 29), .ref (ad 30), .ref (ad 31), .long M_found, .long M_foundSet, .long M_foundTimes, .int M_w, .int M_h, .ref (ad 32), .ref (ad 33), .ref (ad 34)])), ((ad 33), .inl (cA 2, 64, .inl u.2))]
abbrev wcX4_pin (ad : Nat → Nat) (cA : Nat → ClassId) (M_thrown : Int32) (M_trace : Int64) (M_found : Int64) (M_foundSet : Int64) (M_foundTimes : Int64) (M_w : Int32) (M_h : Int32) (M_isPinned : Nat → Int32) : va_W := [((ad 19), .inr (4, [.int M_thrown, .long M_trace, .ref (ad 20), .ref (ad 21), .ref (ad 22), .ref (ad 23), .ref (ad 24), .ref (ad 25), .ref (ad 26), .ref (ad 27), .ref (ad 28), .ref (ad 29), .ref (ad 30), .ref (ad 31), .long M_found, .long M_foundSet, .long M_foundTimes, .int M_w, .int M_h, .ref (ad 32), .ref (ad 33), .ref (ad 34)])), ((ad 33), .inl (cA 2, 64, .inl M_isPinned))]
def rmX4_pin : Room := { frames := 2, cells := 0, slots := 0, locals := 47 }
abbrev atX4_pin_0 (X : gX) (ad : Nat → Nat) (cA : Nat → ClassId) (p1 : Int32) (p2 : Int32) (p3 : Int32) (M_thrown : Int32) (M_trace : Int64) (M_found : Int64) (M_foundSet : Int64) (M_foundTimes : Int64) (M_w : Int32) (M_h : Int32) (M_isPinned : Nat → Int32) : Prop := gW X 0 0 [((ad 19), .inr (4, [.int M_thrown, .long M_trace, .ref (ad 20), .ref (ad 21), .ref (ad 22), .ref (ad 23), .ref (ad 24), .ref (ad 25), .ref (ad 26), .ref (ad 27), .ref (ad 28), .ref (ad 29), .ref (ad 30), .ref (ad 31), .long M_found, .long M_foundSet, .long M_foundTimes, .int M_w, .int M_h, .ref (ad 32), .ref (ad 33), .ref (ad 34)])), ((ad 33), .inl (cA 2, 64, .inl M_isPinned))] 5 [(0, .ref (ad 19)), (1, .int p1), (2, .int p2), (3, .int p3)] [] 0
theorem giX4_pin_X4 : ∀ w ∈ u_ws RX4 TX4 22, w ∈ wsX4_pin := by decide +kernel
theorem gfX4_pin_67 : gF wsX4_pin RX4 67 4 0 RX4 TX4 22 := ⟨giX4_pin_X4, by decide +kernel, rfl, by decide⟩
theorem gfX4_pin_57 : gF wsX4_pin RX4 57 4 20 RX4 TX4 22 := ⟨giX4_pin_X4, by decide +kernel, rfl, by decide⟩
set_option maxHeartbeats 4000000 in
set_option maxRecDepth 100000 in
theorem sgX4_pin_0 {X : gX} {ad : Nat → Nat} {cA : Nat → ClassId} {post : Int32 → ((Int32) × (Nat → Int32)) → Prop} {p1 : Int32} {p2 : Int32} {p3 : Int32} {M_thrown : Int32} {M_trace : Int64} {M_found : Int64} {M_foundSet : Int64} {M_foundTimes : Int64} {M_w : Int32} {M_h : Int32} {M_isPinned : Nat → Int32} (C : gC X (gT cA) cX4_pin 5 RX4 wsX4_pin rmX4_pin) (E : gEi X (some .int) (gT cA) 0 0 post (w1X4_pin ad cA M_trace M_found M_foundSet M_foundTimes M_w M_h)) (h : ((fnX4_isPoint p1 p2 (0 : Int32) M_trace M_found M_foundSet M_foundTimes M_w M_h) = true → vp_in (((8 : Int32) * p2) + p1) 64 ∧ ∀ x4_5 : Int32, x4_5 = (if (M_isPinned (((8 : Int32) * p2) + p1).toNatClampNeg) = 0 then (0 : Int32) else (1 : Int32)) → vp_in (((8 : Int32) * p2) + p1) 64 ∧ post x4_5 ((0 : Int32), (upd M_isPinned (((8 : Int32) * p2) + p1).toNatClampNeg (vp_nar .boolean p3)))) ∧ ((fnX4_isPoint p1 p2 (0 : Int32) M_trace M_found M_foundSet M_foundTimes M_w M_h) = false → post (-1 : Int32) ((0 : Int32), M_isPinned))) : atX4_pin_0 X ad cA p1 p2 p3 M_thrown M_trace M_found M_foundSet M_foundTimes M_w M_h M_isPinned := by
  refine g_aload_n C dX4_pin_0 rfl 0 rfl ?_
  refine g_iconst C dX4_pin_1 ik_0 ?_
  refine g_put (ws2 := [((ad 19), .inr (4, [.int (0 : Int32), .long M_trace, .ref (ad 20), .ref (ad 21), .ref (ad 22), .ref (ad 23), .ref (ad 24), .ref (ad 25), .ref (ad 26), .ref (ad 27), .ref (ad 28), .ref (ad 29), .ref (ad 30), .ref (ad 31), .long M_found, .long M_foundSet, .long M_foundTimes, .int M_w, .int M_h, .ref (ad 32), .ref (ad 33), .ref (ad 34)])), ((ad 33), .inl (cA 2, 64, .inl M_isPinned))]) C gfX4_pin_67 0 tyX4_ok nmX4 rfl rfl rfl rfl (Nat.le_of_ble_eq_true rfl) rfl dX4_pin_2 ?_
  refine g_aload_n C dX4_pin_5 rfl 0 rfl ?_
  refine g_iload_n C dX4_pin_6 rfl 1 rfl ?_
  refine g_iload_n C dX4_pin_7 rfl 2 rfl ?_
  refine g_callVi (wr := [((ad 33), .inl (cA 2, 64, .inl M_isPinned))]) C (c_X4_isPoint ad cA p1 p2 (0 : Int32) M_trace M_found M_foundSet M_foundTimes M_w M_h) gX4_pin_X4_isPoint rfl hde_X4_isPoint ⟨rfl, rfl⟩ (by decide) (by decide) [0] [1] [1, 0] rfl rfl rfl rfl (by decide) rfl (ws2 := fun u => [((ad 19), .inr (4, [.int (0 : Int32), .long M_trace, .ref (ad 20), .ref (ad 21), .ref (ad 22), .ref (ad 23), .ref (ad 24), .ref (ad 25), .ref (ad 26), .ref (ad 27), .ref (ad 28), .ref (ad 29), .ref (ad 30), .ref (ad 31), .long M_found, .long M_foundSet, .long M_foundTimes, .int M_w, .int M_h, .ref (ad 32), .ref (ad 33), .ref (ad 34)])), ((ad 33), .inl (cA 2, 64, .inl M_isPinned))]) (fun _ => rfl) 4 0 rfl rfl rfl (rest := []) rfl (Nat.le_of_ble_eq_true rfl) dX4_pin_8 (fun r_1 u_1 hp_1 => ?_)
  subst hp_1
  change gW X 0 0 [((ad 19), .inr (4, [.int (0 : Int32), .long M_trace, .ref (ad 20), .ref (ad 21), .ref (ad 22), .ref (ad 23), .ref (ad 24), .ref (ad 25), .ref (ad 26), .ref (ad 27), .ref (ad 28), .ref (ad 29), .ref (ad 30), .ref (ad 31), .long M_found, .long M_foundSet, .long M_foundTimes, .int M_w, .int M_h, .ref (ad 32), .ref (ad 33), .ref (ad 34)])), ((ad 33), .inl (cA 2, 64, .inl M_isPinned))] 5 [(0, .ref (ad 19)), (1, .int p1), (2, .int p2), (3, .int p3)] [.int (bI (fnX4_isPoint p1 p2 (0 : Int32) M_trace M_found M_foundSet M_foundTimes M_w M_h))] 11
  refine g_ifne_b (tgt := 16) C dX4_pin_11 (by decide) (fun c_2 => ?_) (fun c_2 => ?_)
  · replace h := h.1 c_2
    refine g_aload_n C dX4_pin_16 rfl 0 rfl ?_
    refine g_get C gfX4_pin_57 0 rfl rfl dX4_pin_17 ?_
    refine g_bipush C dX4_pin_20 bk_8 ?_
    refine g_iload_n C dX4_pin_22 rfl 2 rfl ?_
    refine g_imul C dX4_pin_23 ?_
    refine g_iload_n C dX4_pin_24 rfl 1 rfl ?_
    refine g_iadd C dX4_pin_25 ?_
    obtain ⟨hi_3, h⟩ := h
    refine g_zald C 1 2 rfl rfl hi_3 dX4_pin_26 ?_
    have key : gW X 0 0 [((ad 19), .inr (4, [.int (0 : Int32), .long M_trace, .ref (ad 20), .ref (ad 21), .ref (ad 22), .ref (ad 23), .ref (ad 24), .ref (ad 25), .ref (ad 26), .ref (ad 27), .ref (ad 28), .ref (ad 29), .ref (ad 30), .ref (ad 31), .long M_found, .long M_foundSet, .long M_foundTimes, .int M_w, .int M_h, .ref (ad 32), .ref (ad 33), .ref (ad 34)])), ((ad 33), .inl (cA 2, 64, .inl M_isPinned))] 5 [(0, .ref (ad 19)), (1, .int p1), (2, .int p2), (3, .int p3)] [.int (if (M_isPinned (((8 : Int32) * p2) + p1).toNatClampNeg) = 0 then (0 : Int32) else (1 : Int32))] 35 := by
      refine g_topi (fun x4_5 ex4_5 => ?_)
      replace h := h x4_5 ex4_5
      refine g_istore (lv2 := [(0, .ref (ad 19)), (1, .int p1), (2, .int p2), (3, .int p3), (4, .int x4_5)]) C dX4_pin_35 (by decide) [1, 2, 3, 4, 0] rfl ?_
      refine g_aload_n C dX4_pin_37 rfl 0 rfl ?_
      refine g_get C gfX4_pin_57 0 rfl rfl dX4_pin_38 ?_
      refine g_bipush C dX4_pin_41 bk_8 ?_
      refine g_iload_n C dX4_pin_43 rfl 2 rfl ?_
      refine g_imul C dX4_pin_44 ?_
      refine g_iload_n C dX4_pin_45 rfl 1 rfl ?_
      refine g_iadd C dX4_pin_46 ?_
      refine g_iload_n C dX4_pin_47 rfl 3 rfl ?_
      obtain ⟨hi_6, h⟩ := h
      refine g_zast (ws2 := [((ad 19), .inr (4, [.int (0 : Int32), .long M_trace, .ref (ad 20), .ref (ad 21), .ref (ad 22), .ref (ad 23), .ref (ad 24), .ref (ad 25), .ref (ad 26), .ref (ad 27), .ref (ad 28), .ref (ad 29), .ref (ad 30), .ref (ad 31), .long M_found, .long M_foundSet, .long M_foundTimes, .int M_w, .int M_h, .ref (ad 32), .ref (ad 33), .ref (ad 34)])), ((ad 33), .inl (cA 2, 64, .inl (upd M_isPinned (((8 : Int32) * p2) + p1).toNatClampNeg (vp_nar .boolean p3))))]) C 1 2 rfl rfl hi_6 rfl dX4_pin_48 ?_
      refine g_iload C dX4_pin_49 4 rfl ?_
      exact g_iret C E ((0 : Int32), (upd M_isPinned (((8 : Int32) * p2) + p1).toNatClampNeg (vp_nar .boolean p3))) h rfl dX4_pin_51
    refine g_if_eq (tgt := 34) C dX4_pin_27 (by decide) (fun c_4 => ?_) (fun c_4 => ?_)
    · refine g_iconst C dX4_pin_34 ik_0 ?_
      exact g_leaf (by simp only [if_pos c_4] at key; first | exact key | (simp only [if_pos c_4]; exact key) | exact absurd rfl c_4)
    · refine g_iconst C dX4_pin_30 ik_1 ?_
      refine g_goto (tgt := 35) C dX4_pin_31 (by decide) ?_
      exact g_leaf (by simp only [if_neg c_4] at key; first | exact key | (simp only [if_neg c_4]; exact key) | exact absurd rfl c_4)
  · replace h := h.2 c_2
    refine g_iconst C dX4_pin_14 ik_m1 ?_
    exact g_iret C E ((0 : Int32), M_isPinned) h rfl dX4_pin_15
def prX4_pin (p1 : Int32) (p2 : Int32) (p3 : Int32) (M_thrown : Int32) (M_trace : Int64) (M_found : Int64) (M_foundSet : Int64) (M_foundTimes : Int64) (M_w : Int32) (M_h : Int32) (M_isPinned : Nat → Int32) : Prop := netOK M_w M_h
def po_X4_pin (ad : Nat → Nat) (cA : Nat → ClassId) (p1 : Int32) (p2 : Int32) (p3 : Int32) (M_thrown : Int32) (M_trace : Int64) (M_found : Int64) (M_foundSet : Int64) (M_foundTimes : Int64) (M_w : Int32) (M_h : Int32) (M_isPinned : Nat → Int32) (r : Int32) (u : (Int32) × (Nat → Int32)) : Prop := (ptOK M_w M_h p1 p2 → r = (if M_isPinned (8 * p2.toNatClampNeg + p1.toNatClampNeg) = 0 then 0 else 1) ∧ u.2 = upd M_isPinned (8 * p2.toNatClampNeg + p1.toNatClampNeg) (vp_nar .boolean p3)) ∧ (¬ ptOK M_w M_h p1 p2 → r = -1 ∧ u.2 = M_isPinned)
set_option maxHeartbeats 4000000 in
set_option maxRecDepth 100000 in
theorem c_X4_pin (ad : Nat → Nat) (cA : Nat → ClassId) (p1 : Int32) (p2 : Int32) (p3 : Int32) (M_thrown : Int32) (M_trace : Int64) (M_found : Int64) (M_foundSet : Int64) (M_foundTimes : Int64) (M_w : Int32) (M_h : Int32) (M_isPinned : Nat → Int32) (hq : prX4_pin p1 p2 p3 M_thrown M_trace M_found M_foundSet M_foundTimes M_w M_h M_isPinned) : ∀ (l : Launch) (D : va_G), gMi (S := (Int32) × (Nat → Int32)) l yX4_pin wsX4_pin rmX4_pin D (gT cA) 0 0 [.ref (ad 19), .int p1, .int p2, .int p3] (wcX4_pin ad cA M_thrown M_trace M_found M_foundSet M_foundTimes M_w M_h M_isPinned) (po_X4_pin ad cA p1 p2 p3 M_thrown M_trace M_found M_foundSet M_foundTimes M_w M_h M_isPinned) (w1X4_pin ad cA M_trace M_found M_foundSet M_foundTimes M_w M_h) := by
  intro l D
  unfold prX4_pin at hq
  refine g_enteri (cc := cX4_pin) (nL := 5) (ret := (some .int)) (by decide) rfl (Nat.le_of_ble_eq_true rfl) rfl (fun X C E => ?_)
  obtain ⟨w, h, hw2, hw, hh2, hh, rfl, rfl⟩ := hq
  have ip := isPoint4_eq (M_thrown := 0) (M_trace := M_trace) (M_found := M_found) (M_foundSet := M_foundSet) (M_foundTimes := M_foundTimes) hw2 hw hh2 hh p1 p2
  refine sgX4_pin_0 C E ⟨fun c => ?_, fun c => ⟨fun q => absurd q (bt_f ip c), fun _ => ⟨rfl, rfl⟩⟩⟩
  · have pk := ip.mp c
    obtain ⟨a, b, ha, hb, rfl, rfl⟩ := pt_nat hw hh (ip.mp c)
    have ep : (8 : Int32) * nI b + nI a = nI (8 * b + a) := by rw [show (8 : Int32) = nI 8 from rfl, pk_mul, nI_add]
    have v : vp_in (nI (8 * b + a)) 64 := vp_in_nI (by omega) (by decide)
    have ei : 8 * (nI b).toNatClampNeg + (nI a).toNatClampNeg = 8 * b + a := by rw [nI_clamp (by omega), nI_clamp (by omega)]
    unfold po_X4_pin
    rw [ep, ei, nI_clamp (n := 8 * b + a) (by omega)]
    refine ⟨v, fun x e => ⟨v, fun _ => ⟨e, rfl⟩, fun q => absurd pk q⟩⟩


abbrev w1X4_height (ad : Nat → Nat) (cA : Nat → ClassId) (M_trace : Int64) (M_found : Int64) (M_foundSet : Int64) (M_foundTimes : Int64) (M_w : Int32) (M_h : Int32) (M_height : Nat → Int32) (u : (Int32)) : va_W := [((ad 19), .inr (4, [.int u, .long M_trace, .ref (ad 20), .ref (ad 21), .ref (ad 22), .ref (ad 23), .ref (ad 24), .ref (ad 25), .ref (ad 26), .ref (ad 27), .ref (ad 28), .ref (ad 29), .ref (ad 30), .ref (ad 31), .long M_found, .long M_foundSet, .long M_foundTimes, .int M_w, .int M_h, .ref (ad 32), .ref (ad 33), .ref (ad 34)])), ((ad 32), .inl (cA 0, 64, .inl M_height))]
abbrev wcX4_height (ad : Nat → Nat) (cA : Nat → ClassId) (M_thrown : Int32) (M_trace : Int64) (M_found : Int64) (M_foundSet : Int64) (M_foundTimes : Int64) (M_w : Int32) (M_h : Int32) (M_height : Nat → Int32) : va_W := [((ad 19), .inr (4, [.int M_thrown, .long M_trace, .ref (ad 20), .ref (ad 21), .ref (ad 22), .ref (ad 23), .ref (ad 24), .ref (ad 25), .ref (ad 26), .ref (ad 27), .ref (ad 28), .ref (ad 29), .ref (ad 30), .ref (ad 31), .long M_found, .long M_foundSet, .long M_foundTimes, .int M_w, .int M_h, .ref (ad 32), .ref (ad 33), .ref (ad 34)])), ((ad 32), .inl (cA 0, 64, .inl M_height))]
def rmX4_height : Room := { frames := 2, cells := 0, slots := 0, locals := 47 }
abbrev atX4_height_0 (X : gX) (ad : Nat → Nat) (cA : Nat → ClassId) (p1 : Int32) (p2 : Int32) (M_thrown : Int32) (M_trace : Int64) (M_found : Int64) (M_foundSet : Int64) (M_foundTimes : Int64) (M_w : Int32) (M_h : Int32) (M_height : Nat → Int32) : Prop := gW X 0 0 [((ad 19), .inr (4, [.int M_thrown, .long M_trace, .ref (ad 20), .ref (ad 21), .ref (ad 22), .ref (ad 23), .ref (ad 24), .ref (ad 25), .ref (ad 26), .ref (ad 27), .ref (ad 28), .ref (ad 29), .ref (ad 30), .ref (ad 31), .long M_found, .long M_foundSet, .long M_foundTimes, .int M_w, .int M_h, .ref (ad 32), .ref (ad 33), .ref (ad 34)])), ((ad 32), .inl (cA 0, 64, .inl M_height))] 3 [(0, .ref (ad 19)), (1, .int p1), (2, .int p2)] [] 0
theorem cnX4_height_90 : Cond.constant RX4 90 (-1000000) ∈ wsX4_height := by decide +kernel
theorem giX4_height_X4 : ∀ w ∈ u_ws RX4 TX4 22, w ∈ wsX4_height := by decide +kernel
theorem gfX4_height_67 : gF wsX4_height RX4 67 4 0 RX4 TX4 22 := ⟨giX4_height_X4, by decide +kernel, rfl, by decide⟩
theorem gfX4_height_54 : gF wsX4_height RX4 54 4 19 RX4 TX4 22 := ⟨giX4_height_X4, by decide +kernel, rfl, by decide⟩
set_option maxHeartbeats 4000000 in
set_option maxRecDepth 100000 in
theorem sgX4_height_0 {X : gX} {ad : Nat → Nat} {cA : Nat → ClassId} {post : Int32 → ((Int32)) → Prop} {p1 : Int32} {p2 : Int32} {M_thrown : Int32} {M_trace : Int64} {M_found : Int64} {M_foundSet : Int64} {M_foundTimes : Int64} {M_w : Int32} {M_h : Int32} {M_height : Nat → Int32} (C : gC X (gT cA) cX4_height 3 RX4 wsX4_height rmX4_height) (E : gEi X (some .int) (gT cA) 0 0 post (w1X4_height ad cA M_trace M_found M_foundSet M_foundTimes M_w M_h M_height)) (h : ((fnX4_isPoint p1 p2 (0 : Int32) M_trace M_found M_foundSet M_foundTimes M_w M_h) = false → post (-1000000 : Int32) (0 : Int32)) ∧ ((fnX4_isPoint p1 p2 (0 : Int32) M_trace M_found M_foundSet M_foundTimes M_w M_h) = true → vp_in (((8 : Int32) * p2) + p1) 64 ∧ post (M_height (((8 : Int32) * p2) + p1).toNatClampNeg) (0 : Int32))) : atX4_height_0 X ad cA p1 p2 M_thrown M_trace M_found M_foundSet M_foundTimes M_w M_h M_height := by
  refine g_aload_n C dX4_height_0 rfl 0 rfl ?_
  refine g_iconst C dX4_height_1 ik_0 ?_
  refine g_put (ws2 := [((ad 19), .inr (4, [.int (0 : Int32), .long M_trace, .ref (ad 20), .ref (ad 21), .ref (ad 22), .ref (ad 23), .ref (ad 24), .ref (ad 25), .ref (ad 26), .ref (ad 27), .ref (ad 28), .ref (ad 29), .ref (ad 30), .ref (ad 31), .long M_found, .long M_foundSet, .long M_foundTimes, .int M_w, .int M_h, .ref (ad 32), .ref (ad 33), .ref (ad 34)])), ((ad 32), .inl (cA 0, 64, .inl M_height))]) C gfX4_height_67 0 tyX4_ok nmX4 rfl rfl rfl rfl (Nat.le_of_ble_eq_true rfl) rfl dX4_height_2 ?_
  refine g_aload_n C dX4_height_5 rfl 0 rfl ?_
  refine g_iload_n C dX4_height_6 rfl 1 rfl ?_
  refine g_iload_n C dX4_height_7 rfl 2 rfl ?_
  refine g_callVi (wr := [((ad 32), .inl (cA 0, 64, .inl M_height))]) C (c_X4_isPoint ad cA p1 p2 (0 : Int32) M_trace M_found M_foundSet M_foundTimes M_w M_h) gX4_height_X4_isPoint rfl hde_X4_isPoint ⟨rfl, rfl⟩ (by decide) (by decide) [0] [1] [1, 0] rfl rfl rfl rfl (by decide) rfl (ws2 := fun u => [((ad 19), .inr (4, [.int (0 : Int32), .long M_trace, .ref (ad 20), .ref (ad 21), .ref (ad 22), .ref (ad 23), .ref (ad 24), .ref (ad 25), .ref (ad 26), .ref (ad 27), .ref (ad 28), .ref (ad 29), .ref (ad 30), .ref (ad 31), .long M_found, .long M_foundSet, .long M_foundTimes, .int M_w, .int M_h, .ref (ad 32), .ref (ad 33), .ref (ad 34)])), ((ad 32), .inl (cA 0, 64, .inl M_height))]) (fun _ => rfl) 4 0 rfl rfl rfl (rest := []) rfl (Nat.le_of_ble_eq_true rfl) dX4_height_8 (fun r_1 u_1 hp_1 => ?_)
  subst hp_1
  change gW X 0 0 [((ad 19), .inr (4, [.int (0 : Int32), .long M_trace, .ref (ad 20), .ref (ad 21), .ref (ad 22), .ref (ad 23), .ref (ad 24), .ref (ad 25), .ref (ad 26), .ref (ad 27), .ref (ad 28), .ref (ad 29), .ref (ad 30), .ref (ad 31), .long M_found, .long M_foundSet, .long M_foundTimes, .int M_w, .int M_h, .ref (ad 32), .ref (ad 33), .ref (ad 34)])), ((ad 32), .inl (cA 0, 64, .inl M_height))] 3 [(0, .ref (ad 19)), (1, .int p1), (2, .int p2)] [.int (bI (fnX4_isPoint p1 p2 (0 : Int32) M_trace M_found M_foundSet M_foundTimes M_w M_h))] 11
  refine g_ifeq_b (tgt := 28) C dX4_height_11 (by decide) (fun c_2 => ?_) (fun c_2 => ?_)
  · replace h := h.1 c_2
    refine g_ldc C cnX4_height_90 dX4_height_28 ?_
    exact g_iret C E (0 : Int32) h rfl dX4_height_30
  · replace h := h.2 c_2
    refine g_aload_n C dX4_height_14 rfl 0 rfl ?_
    refine g_get C gfX4_height_54 0 rfl rfl dX4_height_15 ?_
    refine g_bipush C dX4_height_18 bk_8 ?_
    refine g_iload_n C dX4_height_20 rfl 2 rfl ?_
    refine g_imul C dX4_height_21 ?_
    refine g_iload_n C dX4_height_22 rfl 1 rfl ?_
    refine g_iadd C dX4_height_23 ?_
    obtain ⟨hi_3, h⟩ := h
    refine g_iald C 1 0 rfl rfl hi_3 dX4_height_24 ?_
    refine g_goto (tgt := 30) C dX4_height_25 (by decide) ?_
    exact g_iret C E (0 : Int32) h rfl dX4_height_30
def prX4_height (p1 : Int32) (p2 : Int32) (M_thrown : Int32) (M_trace : Int64) (M_found : Int64) (M_foundSet : Int64) (M_foundTimes : Int64) (M_w : Int32) (M_h : Int32) (M_height : Nat → Int32) : Prop := netOK M_w M_h
def po_X4_height (ad : Nat → Nat) (cA : Nat → ClassId) (p1 : Int32) (p2 : Int32) (M_thrown : Int32) (M_trace : Int64) (M_found : Int64) (M_foundSet : Int64) (M_foundTimes : Int64) (M_w : Int32) (M_h : Int32) (M_height : Nat → Int32) (r : Int32) (u : (Int32)) : Prop := (ptOK M_w M_h p1 p2 → r = M_height (8 * p2.toNatClampNeg + p1.toNatClampNeg)) ∧ (¬ ptOK M_w M_h p1 p2 → r = -1000000)
set_option maxHeartbeats 4000000 in
set_option maxRecDepth 100000 in
theorem c_X4_height (ad : Nat → Nat) (cA : Nat → ClassId) (p1 : Int32) (p2 : Int32) (M_thrown : Int32) (M_trace : Int64) (M_found : Int64) (M_foundSet : Int64) (M_foundTimes : Int64) (M_w : Int32) (M_h : Int32) (M_height : Nat → Int32) (hq : prX4_height p1 p2 M_thrown M_trace M_found M_foundSet M_foundTimes M_w M_h M_height) : ∀ (l : Launch) (D : va_G), gMi (S := (Int32)) l yX4_height wsX4_height rmX4_height D (gT cA) 0 0 [.ref (ad 19), .int p1, .int p2] (wcX4_height ad cA M_thrown M_trace M_found M_foundSet M_foundTimes M_w M_h M_height) (po_X4_height ad cA p1 p2 M_thrown M_trace M_found M_foundSet M_foundTimes M_w M_h M_height) (w1X4_height ad cA M_trace M_found M_foundSet M_foundTimes M_w M_h M_height) := by
  intro l D
  unfold prX4_height at hq
  refine g_enteri (cc := cX4_height) (nL := 3) (ret := (some .int)) (by decide) rfl (Nat.le_of_ble_eq_true rfl) rfl (fun X C E => ?_)
  obtain ⟨w, h, hw2, hw, hh2, hh, rfl, rfl⟩ := hq
  have ip := isPoint4_eq (M_thrown := 0) (M_trace := M_trace) (M_found := M_found) (M_foundSet := M_foundSet) (M_foundTimes := M_foundTimes) hw2 hw hh2 hh p1 p2
  refine sgX4_height_0 C E ⟨fun c => ⟨fun q => absurd q (bt_f ip c), fun _ => rfl⟩, fun c => ?_⟩
  · have pk := ip.mp c
    obtain ⟨a, b, ha, hb, rfl, rfl⟩ := pt_nat hw hh (ip.mp c)
    have ep : (8 : Int32) * nI b + nI a = nI (8 * b + a) := by rw [show (8 : Int32) = nI 8 from rfl, pk_mul, nI_add]
    have v : vp_in (nI (8 * b + a)) 64 := vp_in_nI (by omega) (by decide)
    have ei : 8 * (nI b).toNatClampNeg + (nI a).toNatClampNeg = 8 * b + a := by rw [nI_clamp (by omega), nI_clamp (by omega)]
    unfold po_X4_height
    rw [ep, ei, nI_clamp (n := 8 * b + a) (by omega)]
    exact ⟨v, fun _ => rfl, fun q => absurd pk q⟩


abbrev w1X4_trace (ad : Nat → Nat) (cA : Nat → ClassId) (M_trace : Int64) (M_found : Int64) (M_foundSet : Int64) (M_foundTimes : Int64) (M_w : Int32) (M_h : Int32) (u : (Int32)) : va_W := [((ad 19), .inr (4, [.int u, .long M_trace, .ref (ad 20), .ref (ad 21), .ref (ad 22), .ref (ad 23), .ref (ad 24), .ref (ad 25), .ref (ad 26), .ref (ad 27), .ref (ad 28), .ref (ad 29), .ref (ad 30), .ref (ad 31), .long M_found, .long M_foundSet, .long M_foundTimes, .int M_w, .int M_h, .ref (ad 32), .ref (ad 33), .ref (ad 34)]))]
abbrev wcX4_trace (ad : Nat → Nat) (cA : Nat → ClassId) (M_thrown : Int32) (M_trace : Int64) (M_found : Int64) (M_foundSet : Int64) (M_foundTimes : Int64) (M_w : Int32) (M_h : Int32) : va_W := [((ad 19), .inr (4, [.int M_thrown, .long M_trace, .ref (ad 20), .ref (ad 21), .ref (ad 22), .ref (ad 23), .ref (ad 24), .ref (ad 25), .ref (ad 26), .ref (ad 27), .ref (ad 28), .ref (ad 29), .ref (ad 30), .ref (ad 31), .long M_found, .long M_foundSet, .long M_foundTimes, .int M_w, .int M_h, .ref (ad 32), .ref (ad 33), .ref (ad 34)]))]
def rmX4_trace : Room := { frames := 0, cells := 0, slots := 0, locals := 0 }
abbrev atX4_trace_0 (X : gX) (ad : Nat → Nat) (cA : Nat → ClassId) (M_thrown : Int32) (M_trace : Int64) (M_found : Int64) (M_foundSet : Int64) (M_foundTimes : Int64) (M_w : Int32) (M_h : Int32) : Prop := gW X 0 0 [((ad 19), .inr (4, [.int M_thrown, .long M_trace, .ref (ad 20), .ref (ad 21), .ref (ad 22), .ref (ad 23), .ref (ad 24), .ref (ad 25), .ref (ad 26), .ref (ad 27), .ref (ad 28), .ref (ad 29), .ref (ad 30), .ref (ad 31), .long M_found, .long M_foundSet, .long M_foundTimes, .int M_w, .int M_h, .ref (ad 32), .ref (ad 33), .ref (ad 34)]))] 1 [(0, .ref (ad 19))] [] 0
theorem giX4_trace_X4 : ∀ w ∈ u_ws RX4 TX4 22, w ∈ wsX4_trace := by decide +kernel
theorem gfX4_trace_67 : gF wsX4_trace RX4 67 4 0 RX4 TX4 22 := ⟨giX4_trace_X4, by decide +kernel, rfl, by decide⟩
theorem gfX4_trace_103 : gF wsX4_trace RX4 103 4 1 RX4 TX4 22 := ⟨giX4_trace_X4, by decide +kernel, rfl, by decide⟩
set_option maxHeartbeats 4000000 in
set_option maxRecDepth 100000 in
theorem sgX4_trace_0 {X : gX} {ad : Nat → Nat} {cA : Nat → ClassId} {post : Int64 → ((Int32)) → Prop} {M_thrown : Int32} {M_trace : Int64} {M_found : Int64} {M_foundSet : Int64} {M_foundTimes : Int64} {M_w : Int32} {M_h : Int32} (C : gC X (gT cA) cX4_trace 1 RX4 wsX4_trace rmX4_trace) (E : gEl X (some .long) (gT cA) 0 0 post (w1X4_trace ad cA M_trace M_found M_foundSet M_foundTimes M_w M_h)) (h : post M_trace (0 : Int32)) : atX4_trace_0 X ad cA M_thrown M_trace M_found M_foundSet M_foundTimes M_w M_h := by
  refine g_aload_n C dX4_trace_0 rfl 0 rfl ?_
  refine g_iconst C dX4_trace_1 ik_0 ?_
  refine g_put (ws2 := [((ad 19), .inr (4, [.int (0 : Int32), .long M_trace, .ref (ad 20), .ref (ad 21), .ref (ad 22), .ref (ad 23), .ref (ad 24), .ref (ad 25), .ref (ad 26), .ref (ad 27), .ref (ad 28), .ref (ad 29), .ref (ad 30), .ref (ad 31), .long M_found, .long M_foundSet, .long M_foundTimes, .int M_w, .int M_h, .ref (ad 32), .ref (ad 33), .ref (ad 34)]))]) C gfX4_trace_67 0 tyX4_ok nmX4 rfl rfl rfl rfl (Nat.le_of_ble_eq_true rfl) rfl dX4_trace_2 ?_
  refine g_aload_n C dX4_trace_5 rfl 0 rfl ?_
  refine g_get C gfX4_trace_103 0 rfl rfl dX4_trace_6 ?_
  exact g_lret C E (0 : Int32) h rfl dX4_trace_9
def fnX4_trace (M_thrown : Int32) (M_trace : Int64) (M_found : Int64) (M_foundSet : Int64) (M_foundTimes : Int64) (M_w : Int32) (M_h : Int32) : Int64 := M_trace
def fuX4_trace (M_thrown : Int32) (M_trace : Int64) (M_found : Int64) (M_foundSet : Int64) (M_foundTimes : Int64) (M_w : Int32) (M_h : Int32) : (Int32) := (0 : Int32)
set_option maxHeartbeats 4000000 in
set_option maxRecDepth 100000 in
theorem c_X4_trace (ad : Nat → Nat) (cA : Nat → ClassId) (M_thrown : Int32) (M_trace : Int64) (M_found : Int64) (M_foundSet : Int64) (M_foundTimes : Int64) (M_w : Int32) (M_h : Int32) : ∀ (l : Launch) (D : va_G), gMl (S := (Int32)) l yX4_trace wsX4_trace rmX4_trace D (gT cA) 0 0 [.ref (ad 19)] (wcX4_trace ad cA M_thrown M_trace M_found M_foundSet M_foundTimes M_w M_h) (fun r u => r = fnX4_trace M_thrown M_trace M_found M_foundSet M_foundTimes M_w M_h ∧ u = fuX4_trace M_thrown M_trace M_found M_foundSet M_foundTimes M_w M_h) (w1X4_trace ad cA M_trace M_found M_foundSet M_foundTimes M_w M_h) := by
  intro l D
  refine g_enterl (cc := cX4_trace) (nL := 1) (ret := (some .long)) (by decide) rfl (Nat.le_of_ble_eq_true rfl) rfl (fun X C E => sgX4_trace_0 C E ?_)
  exact ⟨(by unfold fnX4_trace; first | rfl | (simp only []; done) | (simp only []; rfl)), (by unfold fuX4_trace; first | rfl | simp only [])⟩
