/-! the order in which the reference goes through the box -/
def pkQ (a b q k : Nat) : Nat := if q = 0 then k % a else if q = 1 then k / a % b else k / a / b
def bkQ (a b q : Nat) : Nat := if q = 0 then 1 else if q = 1 then a else a * b
def w3 (w0 w1 w2 q : Nat) : Nat := if q = 0 then w0 else if q = 1 then w1 else w2
def kcell (X Y Z w0 w1 w2 k : Nat) : Nat := pkQ (bxD X Y Z w0) (bxD X Y Z w1) 0 k * bxS X Y w0 + pkQ (bxD X Y Z w0) (bxD X Y Z w1) 1 k * bxS X Y w1 + pkQ (bxD X Y Z w0) (bxD X Y Z w1) 2 k * bxS X Y w2
def kinv (X Y Z w0 w1 w2 c : Nat) : Nat := bxP X Y Z c w0 + bxD X Y Z w0 * (bxP X Y Z c w1 + bxD X Y Z w1 * bxP X Y Z c w2)
def prm (w0 w1 w2 : Nat) : Prop := w0 < 3 ∧ w1 < 3 ∧ w2 < 3 ∧ w0 ≠ w1 ∧ w0 ≠ w2 ∧ w1 ≠ w2
def ordOK (X Y Z w0 w1 w2 : Nat) : Prop := prm w0 w1 w2 ∧ bxD X Y Z w0 ≤ bxD X Y Z w1 ∧ bxD X Y Z w1 ≤ bxD X Y Z w2
def geoB3 (X Y Z w0 w1 w2 k : Nat) : Bool := decide (kcell X Y Z w0 w1 w2 k < X * Y * Z) && decide (kinv X Y Z w0 w1 w2 (kcell X Y Z w0 w1 w2 k) = k) && decide (kinv X Y Z w0 w1 w2 k < X * Y * Z) && decide (kcell X Y Z w0 w1 w2 (kinv X Y Z w0 w1 w2 k) = k) && decide (pkQ (bxD X Y Z w0) (bxD X Y Z w1) 2 k < 4) && allN 3 (fun q => decide (bxP X Y Z (kcell X Y Z w0 w1 w2 k) (w3 w0 w1 w2 q) = pkQ (bxD X Y Z w0) (bxD X Y Z w1) q k) && decide (0 < pkQ (bxD X Y Z w0) (bxD X Y Z w1) q k → bkQ (bxD X Y Z w0) (bxD X Y Z w1) q ≤ k ∧ kcell X Y Z w0 w1 w2 (k - bkQ (bxD X Y Z w0) (bxD X Y Z w1) q) = kcell X Y Z w0 w1 w2 k - bxS X Y (w3 w0 w1 w2 q)))
set_option maxRecDepth 100000 in
theorem geo_b3 : allN 5 (fun X => allN 5 (fun Y => allN 5 (fun Z => !(decide (1 ≤ X) && decide (1 ≤ Y) && decide (1 ≤ Z) && decide (X * Y * Z ≤ 36)) || allN 3 (fun w0 => allN 3 (fun w1 => allN 3 (fun w2 => !(decide (w0 ≠ w1) && decide (w0 ≠ w2) && decide (w1 ≠ w2)) || ((!(decide (bxD X Y Z w0 ≤ bxD X Y Z w1) && decide (bxD X Y Z w1 ≤ bxD X Y Z w2)) || decide (bxD X Y Z w0 * bxD X Y Z w1 ≤ 9)) && allN (X * Y * Z) (fun k => geoB3 X Y Z w0 w1 w2 k)))))))) = true := by decide +kernel
theorem geo_f3 {X Y Z w0 w1 w2 : Nat} (h : dimOK X Y Z) (hw : prm w0 w1 w2) : (bxD X Y Z w0 ≤ bxD X Y Z w1 → bxD X Y Z w1 ≤ bxD X Y Z w2 → bxD X Y Z w0 * bxD X Y Z w1 ≤ 9) ∧ ∀ k, k < X * Y * Z → kcell X Y Z w0 w1 w2 k < X * Y * Z ∧ kinv X Y Z w0 w1 w2 (kcell X Y Z w0 w1 w2 k) = k ∧ kinv X Y Z w0 w1 w2 k < X * Y * Z ∧ kcell X Y Z w0 w1 w2 (kinv X Y Z w0 w1 w2 k) = k ∧ pkQ (bxD X Y Z w0) (bxD X Y Z w1) 2 k < 4 ∧ ∀ q, q < 3 → bxP X Y Z (kcell X Y Z w0 w1 w2 k) (w3 w0 w1 w2 q) = pkQ (bxD X Y Z w0) (bxD X Y Z w1) q k ∧ (0 < pkQ (bxD X Y Z w0) (bxD X Y Z w1) q k → bkQ (bxD X Y Z w0) (bxD X Y Z w1) q ≤ k ∧ kcell X Y Z w0 w1 w2 (k - bkQ (bxD X Y Z w0) (bxD X Y Z w1) q) = kcell X Y Z w0 w1 w2 k - bxS X Y (w3 w0 w1 w2 q)) := by
  obtain ⟨h1, h2, h3, h4, h5, h6, h7⟩ := h
  obtain ⟨g1, g2, g3, g4, g5, g6⟩ := hw
  have a := imp_s (allN_s (allN_s (allN_s (imp_s (allN_s (allN_s (allN_s geo_b3 (show X < 5 by omega)) (show Y < 5 by omega)) (show Z < 5 by omega)) (by simp [h1, h3, h5, h7])) g1) g2) g3) (by simp [g4, g5, g6])
  simp only [Bool.and_eq_true] at a
  refine ⟨fun q1 q2 => ?_, fun k hk => ?_⟩
  · have := imp_s a.1 (by simp [q1, q2])
    simpa using this
  · have b := allN_s a.2 hk
    unfold geoB3 at b
    simp only [Bool.and_eq_true, decide_eq_true_eq] at b
    obtain ⟨⟨⟨⟨⟨b1, b2⟩, b3⟩, b4⟩, b5⟩, b6⟩ := b
    refine ⟨b1, b2, b3, b4, b5, fun q hq => ?_⟩
    have c := allN_s b6 hq
    simp only [Bool.and_eq_true, decide_eq_true_eq] at c
    exact c
theorem bxD_le {X Y Z : Nat} (h : dimOK X Y Z) (k : Nat) : 1 ≤ bxD X Y Z k ∧ bxD X Y Z k ≤ 4 := by
  obtain ⟨h1, h2, h3, h4, h5, h6, h7⟩ := h
  unfold bxD; split
  · omega
  · split <;> omega
theorem dim_xy {X Y Z : Nat} (h : dimOK X Y Z) : X * Y ≤ 16 := by
  obtain ⟨h1, h2, h3, h4, h5, h6, h7⟩ := h
  exact Nat.le_trans (Nat.mul_le_mul h2 h4) (by decide)
theorem bxS_le {X Y Z : Nat} (h : dimOK X Y Z) (k : Nat) : bxS X Y k ≤ 16 := by
  have := dim_xy h
  obtain ⟨h1, h2, h3, h4, h5, h6, h7⟩ := h
  unfold bxS; split
  · omega
  · split <;> omega
def sdOK (sd : Nat → Int32) (X Y Z : Nat) : Prop := sd 0 = nI X ∧ sd 1 = nI Y ∧ sd 2 = nI Z
theorem sd_at {sd : Nat → Int32} {X Y Z : Nat} (h : sdOK sd X Y Z) {k : Nat} (hk : k < 3) : sd k = nI (bxD X Y Z k) := by
  rcases (show k = 0 ∨ k = 1 ∨ k = 2 by omega) with rfl | rfl | rfl
  · exact h.1
  · exact h.2.1
  · exact h.2.2
def outsZ (X Y Z c : Nat) : Int := sumZ (fun k => (if bxP X Y Z c k = 0 then 1 else 0) + (if bxP X Y Z c k + 1 = bxD X Y Z k then 1 else 0)) 3
theorem outsZ_bd (X Y Z c : Nat) : 0 ≤ outsZ X Y Z c ∧ outsZ X Y Z c ≤ 6 := by
  have := sumZ_bd (f := fun k => (if bxP X Y Z c k = 0 then (1 : Int) else 0) + (if bxP X Y Z c k + 1 = bxD X Y Z k then 1 else 0)) (n := 3) (a := 0) (b := 2) (fun k hk => by (repeat' split) <;> omega)
  unfold outsZ; omega
