/-! how the BOX lies -/
def bxS (X Y k : Nat) : Nat := if k = 0 then 1 else if k = 1 then X else X * Y
def bxD (X Y Z k : Nat) : Nat := if k = 0 then X else if k = 1 then Y else Z
def bxP (X Y Z c k : Nat) : Nat := c / bxS X Y k % bxD X Y Z k
def dimOK (X Y Z : Nat) : Prop := 1 ≤ X ∧ X ≤ 4 ∧ 1 ≤ Y ∧ Y ≤ 4 ∧ 1 ≤ Z ∧ Z ≤ 4 ∧ X * Y * Z ≤ 36
def geoC (X Y Z : Nat) (pl be : Nat → Int32) (c : Nat) : Prop := ∀ k, k < 3 → pl (3 * c + k) = nI (bxP X Y Z c k) ∧ be (6 * c + 2 * k) = (if bxP X Y Z c k + 1 < bxD X Y Z k then nI (c + bxS X Y k) else -1) ∧ be (6 * c + 2 * k + 1) = (if 0 < bxP X Y Z c k then nI (c - bxS X Y k) else -1)
def geoOK (X Y Z : Nat) (pl be : Nat → Int32) : Prop := ∀ c, c < X * Y * Z → geoC X Y Z pl be c
def allN (n : Nat) (f : Nat → Bool) : Bool := (List.range n).all f
theorem allN_s {n : Nat} {f : Nat → Bool} (h : allN n f = true) {i : Nat} (hi : i < n) : f i = true := List.all_eq_true.mp h i (List.mem_range.mpr hi)
theorem imp_s {a b : Bool} (h : (!a || b) = true) (ha : a = true) : b = true := by cases a <;> simp_all
def geoB (X Y Z c k : Nat) : Bool := decide (bxP X Y Z c k < 4) && decide (bxP X Y Z c k + 1 < bxD X Y Z k → c + bxS X Y k < X * Y * Z ∧ bxP X Y Z (c + bxS X Y k) k = bxP X Y Z c k + 1 ∧ 1 ≤ bxS X Y k) && decide (0 < bxP X Y Z c k → bxS X Y k ≤ c ∧ bxP X Y Z (c - bxS X Y k) k + 1 = bxP X Y Z c k ∧ 1 ≤ bxS X Y k ∧ bxP X Y Z c k < bxD X Y Z k)
set_option maxRecDepth 100000 in
theorem geo_b1 : allN 5 (fun X => allN 5 (fun Y => allN 5 (fun Z => !(decide (1 ≤ X) && decide (1 ≤ Y) && decide (1 ≤ Z) && decide (X * Y * Z ≤ 36)) || allN 36 (fun c => !(decide (c < X * Y * Z)) || allN 3 (fun k => geoB X Y Z c k))))) = true := by decide +kernel
theorem geo_f1 (X : Nat) (hX : X < 5) (Y : Nat) (hY : Y < 5) (Z : Nat) (hZ : Z < 5) (h : 1 ≤ X ∧ 1 ≤ Y ∧ 1 ≤ Z ∧ X * Y * Z ≤ 36) (c : Nat) (hc : c < 36) (hc2 : c < X * Y * Z) (k : Nat) (hk : k < 3) : bxP X Y Z c k < 4 ∧ (bxP X Y Z c k + 1 < bxD X Y Z k → c + bxS X Y k < X * Y * Z ∧ bxP X Y Z (c + bxS X Y k) k = bxP X Y Z c k + 1 ∧ 1 ≤ bxS X Y k) ∧ (0 < bxP X Y Z c k → bxS X Y k ≤ c ∧ bxP X Y Z (c - bxS X Y k) k + 1 = bxP X Y Z c k ∧ 1 ≤ bxS X Y k ∧ bxP X Y Z c k < bxD X Y Z k) := by
  have h1 := allN_s (imp_s (allN_s (imp_s (allN_s (allN_s (allN_s geo_b1 hX) hY) hZ) (by simp [h])) hc) (by simp [hc2])) hk
  unfold geoB at h1
  simp only [Bool.and_eq_true, decide_eq_true_eq] at h1
  exact ⟨h1.1.1, h1.1.2, h1.2⟩
theorem geo_f {X Y Z : Nat} (h : dimOK X Y Z) {c : Nat} (hc : c < X * Y * Z) {k : Nat} (hk : k < 3) : bxP X Y Z c k < 4 ∧ (bxP X Y Z c k + 1 < bxD X Y Z k → c + bxS X Y k < X * Y * Z ∧ bxP X Y Z (c + bxS X Y k) k = bxP X Y Z c k + 1 ∧ 1 ≤ bxS X Y k) ∧ (0 < bxP X Y Z c k → bxS X Y k ≤ c ∧ bxP X Y Z (c - bxS X Y k) k + 1 = bxP X Y Z c k ∧ 1 ≤ bxS X Y k ∧ bxP X Y Z c k < bxD X Y Z k) := by
  obtain ⟨h1, h2, h3, h4, h5, h6, h7⟩ := h
  exact geo_f1 X (by omega) Y (by omega) Z (by omega) ⟨h1, h3, h5, h7⟩ c (by omega) hc k hk
theorem dim_pos {X Y Z : Nat} (h : dimOK X Y Z) : 1 ≤ X * Y * Z := by
  obtain ⟨h1, h2, h3, h4, h5, h6, h7⟩ := h
  exact Nat.mul_pos (Nat.mul_pos h1 h3) h5
theorem geo_gr {X Y Z : Nat} (h : dimOK X Y Z) {pl be : Nat → Int32} (g : geoOK X Y Z pl be) : grOK (X * Y * Z) be pl := by
  have hn := h.2.2.2.2.2.2
  refine ⟨dim_pos h, hn, fun c hc => ⟨fun k hk => ⟨bxP X Y Z c k, (geo_f h hc hk).1, (g c hc k hk).1⟩, fun s hs => ?_⟩⟩
  have hk : s / 2 < 3 := by omega
  obtain ⟨f1, f2, f3⟩ := geo_f h hc hk
  obtain ⟨g1, g2, g3⟩ := g c hc (s / 2) hk
  rcases Nat.mod_two_eq_zero_or_one s with e | e
  · have e1 : 6 * c + 2 * (s / 2) = 6 * c + s := by omega
    have e2 : rv s = 2 * (s / 2) + 1 := by unfold rv; rw [if_pos e]; omega
    rw [e1] at g2
    by_cases q : bxP X Y Z c (s / 2) + 1 < bxD X Y Z (s / 2)
    · rw [if_pos q] at g2
      obtain ⟨a1, a2, a3⟩ := f2 q
      obtain ⟨b1, b2, b3⟩ := g (c + bxS X Y (s / 2)) a1 (s / 2) hk
      rw [a2, if_pos (by omega)] at b3
      refine Or.inr ⟨c + bxS X Y (s / 2), a1, by omega, g2, ?_, by omega, ?_⟩
      · rw [e2, ← Nat.add_assoc, b3]; congr 1; omega
      · rw [g1, b1, a2, nI_clamp (by omega), nI_clamp (by omega), e2, e]; omega
    · rw [if_neg q] at g2; exact Or.inl g2
  · have e1 : 6 * c + 2 * (s / 2) + 1 = 6 * c + s := by omega
    have e2 : rv s = 2 * (s / 2) := by unfold rv; rw [if_neg (by omega)]; omega
    rw [e1] at g3
    by_cases q : 0 < bxP X Y Z c (s / 2)
    · rw [if_pos q] at g3
      obtain ⟨a1, a2, a3, a4⟩ := f3 q
      have a5 : c - bxS X Y (s / 2) < X * Y * Z := by omega
      obtain ⟨b1, b2, b3⟩ := g (c - bxS X Y (s / 2)) a5 (s / 2) hk
      rw [if_pos (by omega)] at b2
      refine Or.inr ⟨c - bxS X Y (s / 2), a5, by omega, g3, ?_, ?_, ?_⟩
      · rw [e2, b2]; congr 1; omega
      · rw [g1, nI_clamp (by omega)]; omega
      · rw [g1, b1, nI_clamp (by omega), nI_clamp (by omega), e2]; omega
    · rw [if_neg q] at g3; exact Or.inl g3
def geoB2 (X Y Z z y x : Nat) : Bool := decide (X * Y * z + X * y + x < X * Y * Z) && decide (bxP X Y Z (X * Y * z + X * y + x) 0 = x) && decide (bxP X Y Z (X * Y * z + X * y + x) 1 = y) && decide (bxP X Y Z (X * Y * z + X * y + x) 2 = z) && decide (0 < x → 1 ≤ X * Y * z + X * y + x) && decide (0 < y → X ≤ X * Y * z + X * y + x) && decide (0 < z → X * Y ≤ X * Y * z + X * y + x) && decide (X * Y ≤ 16)
set_option maxRecDepth 100000 in
theorem geo_b2 : allN 5 (fun X => allN 5 (fun Y => allN 5 (fun Z => allN Z (fun z => allN Y (fun y => allN X (fun x => geoB2 X Y Z z y x)))))) = true := by decide +kernel
theorem geo_f2 (X : Nat) (hX : X < 5) (Y : Nat) (hY : Y < 5) (Z : Nat) (hZ : Z < 5) (h : X * Y * Z ≤ 36) (z : Nat) (hz : z < Z) (y : Nat) (hy : y < Y) (x : Nat) (hx : x < X) : X * Y * z + X * y + x < X * Y * Z ∧ bxP X Y Z (X * Y * z + X * y + x) 0 = x ∧ bxP X Y Z (X * Y * z + X * y + x) 1 = y ∧ bxP X Y Z (X * Y * z + X * y + x) 2 = z ∧ (0 < x → 1 ≤ X * Y * z + X * y + x) ∧ (0 < y → X ≤ X * Y * z + X * y + x) ∧ (0 < z → X * Y ≤ X * Y * z + X * y + x) ∧ X * Y ≤ 16 := by
  have h1 := allN_s (allN_s (allN_s (allN_s (allN_s (allN_s geo_b2 hX) hY) hZ) hz) hy) hx
  unfold geoB2 at h1
  simp only [Bool.and_eq_true, decide_eq_true_eq] at h1
  obtain ⟨⟨⟨⟨⟨⟨⟨a1, a2⟩, a3⟩, a4⟩, a5⟩, a6⟩, a7⟩, a8⟩ := h1
  exact ⟨a1, a2, a3, a4, a5, a6, a7, a8⟩
theorem geo_new {X Y Z c x y z : Nat} {pl be : Nat → Int32} (hx : bxP X Y Z c 0 = x) (hy : bxP X Y Z c 1 = y) (hz : bxP X Y Z c 2 = z) (h : ∀ c', c' < c → geoC X Y Z pl be c') : ∀ c', c' < c + 1 → geoC X Y Z (upd (upd (upd pl (3 * c + 0) (nI x)) (3 * c + 1) (nI y)) (3 * c + 2) (nI z)) (upd (upd (upd (upd (upd (upd be (6 * c + 2 * 0) (if x + 1 < X then nI (c + 1) else -1)) (6 * c + 2 * 0 + 1) (if 0 < x then nI (c - 1) else -1)) (6 * c + 2 * 1) (if y + 1 < Y then nI (c + X) else -1)) (6 * c + 2 * 1 + 1) (if 0 < y then nI (c - X) else -1)) (6 * c + 2 * 2) (if z + 1 < Z then nI (c + X * Y) else -1)) (6 * c + 2 * 2 + 1) (if 0 < z then nI (c - X * Y) else -1)) c' := by
  intro c' hc' k hk
  rcases Nat.lt_or_ge c' c with q | q
  · obtain ⟨g1, g2, g3⟩ := h c' q k hk
    refine ⟨?_, ?_, ?_⟩
    · rw [upd_n _ _ (by omega), upd_n _ _ (by omega), upd_n _ _ (by omega)]; exact g1
    · rw [upd_n _ _ (by omega), upd_n _ _ (by omega), upd_n _ _ (by omega), upd_n _ _ (by omega), upd_n _ _ (by omega), upd_n _ _ (by omega)]; exact g2
    · rw [upd_n _ _ (by omega), upd_n _ _ (by omega), upd_n _ _ (by omega), upd_n _ _ (by omega), upd_n _ _ (by omega), upd_n _ _ (by omega)]; exact g3
  · have e : c' = c := by omega
    subst e
    rcases (show k = 0 ∨ k = 1 ∨ k = 2 by omega) with rfl | rfl | rfl
    · rw [hx]
      refine ⟨?_, ?_, ?_⟩
      · rw [upd_n _ _ (by omega), upd_n _ _ (by omega), upd_s]
      · rw [upd_n _ _ (by omega), upd_n _ _ (by omega), upd_n _ _ (by omega), upd_n _ _ (by omega), upd_n _ _ (by omega), upd_s]; rfl
      · rw [upd_n _ _ (by omega), upd_n _ _ (by omega), upd_n _ _ (by omega), upd_n _ _ (by omega), upd_s]; rfl
    · rw [hy]
      refine ⟨?_, ?_, ?_⟩
      · rw [upd_n _ _ (by omega), upd_s]
      · rw [upd_n _ _ (by omega), upd_n _ _ (by omega), upd_n _ _ (by omega), upd_s]; rfl
      · rw [upd_n _ _ (by omega), upd_n _ _ (by omega), upd_s]; rfl
    · rw [hz]
      refine ⟨?_, ?_, ?_⟩
      · rw [upd_s]
      · rw [upd_n _ _ (by omega), upd_s]; rfl
      · rw [upd_s]; rfl
