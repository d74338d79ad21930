/-! the net: what a STEP leaves, purely -/
def netOK (a b : Int32) : Prop := ∃ w h : Nat, 2 ≤ w ∧ w ≤ 8 ∧ 2 ≤ h ∧ h ≤ 8 ∧ a = nI w ∧ b = nI h
def fillA (n : Nat) (v : Int32) (f : Nat → Int32) : Nat → Int32 := fun j => if j < n then v else f j
def insA (f : Nat → Int32) : Nat → Int32 → (Nat → Int32)
  | 0, v => upd f 0 v
  | n + 1, v => if v < f n then insA (upd f (n + 1) (f n)) n v else upd f (n + 1) v
def srt (f : Nat → Int32) (n : Nat) : Prop := ∀ i j, i ≤ j → j < n → f i ≤ f j
theorem i32_le_refl (x : Int32) : x ≤ x := by rw [Int32.le_iff_toInt_le]; omega
theorem i32_le_trans {x y z : Int32} (h1 : x ≤ y) (h2 : y ≤ z) : x ≤ z := by rw [Int32.le_iff_toInt_le] at *; omega
theorem i32_le_of_lt {x y : Int32} (h : x < y) : x ≤ y := by rw [Int32.le_iff_toInt_le]; rw [Int32.lt_iff_toInt_lt] at h; omega
theorem i32_le_of_nlt {x y : Int32} (h : ¬ x < y) : y ≤ x := by rw [Int32.le_iff_toInt_le]; rw [Int32.lt_iff_toInt_lt] at h; omega
theorem insA_hi (v : Int32) : ∀ (n : Nat) (f : Nat → Int32) (j : Nat), n < j → insA f n v j = f j := by
  intro n
  induction n with
  | zero => intro f j hj; rw [insA]; exact upd_n _ _ (by omega)
  | succ n ih =>
    intro f j hj
    rw [insA]
    split
    · rw [ih _ j (by omega)]; exact upd_n _ _ (by omega)
    · exact upd_n _ _ (by omega)
theorem insA_ag (v : Int32) : ∀ (n : Nat) (f g : Nat → Int32), (∀ i, i < n → f i = g i) → ∀ i, i ≤ n → insA f n v i = insA g n v i := by
  intro n
  induction n with
  | zero =>
    intro f g _ i hi
    have e : i = 0 := by omega
    rw [insA, insA, e, upd_s, upd_s]
  | succ n ih =>
    intro f g hfg i hi
    rw [insA, insA, hfg n (by omega)]
    split
    · rcases Nat.lt_or_ge n i with h | h
      · have e : i = n + 1 := by omega
        rw [insA_hi v n _ i h, insA_hi v n _ i h, e, upd_s, upd_s]
      · refine ih _ _ (fun k hk => ?_) i h
        rw [upd_n _ _ (by omega), upd_n _ _ (by omega), hfg k (by omega)]
    · rcases Nat.lt_or_ge n i with h | h
      · have e : i = n + 1 := by omega
        rw [e, upd_s, upd_s]
      · rw [upd_n _ _ (by omega), upd_n _ _ (by omega), hfg i (by omega)]
theorem insA_mem (v : Int32) : ∀ (n : Nat) (f : Nat → Int32) (i : Nat), i ≤ n → insA f n v i = v ∨ ∃ j, j < n ∧ insA f n v i = f j := by
  intro n
  induction n with
  | zero =>
    intro f i hi
    have e : i = 0 := by omega
    rw [insA, e, upd_s]; exact Or.inl rfl
  | succ n ih =>
    intro f i hi
    rw [insA]
    split
    · rcases Nat.lt_or_ge n i with h | h
      · have e : i = n + 1 := by omega
        rw [insA_hi v n _ i h, e, upd_s]; exact Or.inr ⟨n, by omega, rfl⟩
      · rcases ih (upd f (n + 1) (f n)) i h with q | ⟨j, hj, q⟩
        · exact Or.inl q
        · rw [upd_n _ _ (by omega)] at q
          exact Or.inr ⟨j, by omega, q⟩
    · rcases Nat.lt_or_ge n i with h | h
      · have e : i = n + 1 := by omega
        rw [e, upd_s]; exact Or.inl rfl
      · rw [upd_n _ _ (by omega)]; exact Or.inr ⟨i, by omega, rfl⟩
theorem insA_srt (v : Int32) : ∀ (n : Nat) (f : Nat → Int32), srt f n → srt (insA f n v) (n + 1) := by
  intro n
  induction n with
  | zero =>
    intro f _ i j hij hj
    have e1 : i = 0 := by omega
    have e2 : j = 0 := by omega
    rw [e1, e2]; exact i32_le_refl _
  | succ n ih =>
    intro f hs i j hij hj
    rw [insA]
    split
    · rename_i hv
      have hg : srt (upd f (n + 1) (f n)) n := fun a b hab hb => by
        rw [upd_n _ _ (by omega), upd_n _ _ (by omega)]; exact hs a b hab (by omega)
      rcases Nat.lt_or_ge n j with h | h
      · have e : j = n + 1 := by omega
        rw [insA_hi v n _ j h, e, upd_s]
        rcases Nat.lt_or_ge n i with h2 | h2
        · have e2 : i = n + 1 := by omega
          rw [insA_hi v n _ i h2, e2, upd_s]; exact i32_le_refl _
        · rcases insA_mem v n (upd f (n + 1) (f n)) i h2 with q | ⟨k, hk, q⟩
          · rw [q]; exact i32_le_of_lt hv
          · rw [q, upd_n _ _ (by omega)]; exact hs k n (by omega) (by omega)
      · exact ih _ hg i j hij (by omega)
    · rename_i hv
      rcases Nat.lt_or_ge n j with h | h
      · have e : j = n + 1 := by omega
        rw [e, upd_s]
        rcases Nat.lt_or_ge n i with h2 | h2
        · have e2 : i = n + 1 := by omega
          rw [e2, upd_s]; exact i32_le_refl _
        · rw [upd_n _ _ (by omega)]
          exact i32_le_trans (hs i n (by omega) (by omega)) (i32_le_of_nlt hv)
      · rw [upd_n _ _ (by omega), upd_n _ _ (by omega)]; exact hs i j hij (by omega)
def pst (b : Bool) (v : Int32) (q : Nat × (Nat → Int32)) : Nat × (Nat → Int32) := if b = true then (q.1 + 1, insA q.2 q.1 v) else q
theorem pst_t (v : Int32) (q : Nat × (Nat → Int32)) : pst true v q = (q.1 + 1, insA q.2 q.1 v) := rfl
theorem pst_f (v : Int32) (q : Nat × (Nat → Int32)) : pst false v q = q := rfl
def agr (q q' : Nat × (Nat → Int32)) : Prop := q.1 = q'.1 ∧ ∀ i, i < q.1 → q.2 i = q'.2 i
theorem pst_agr {b : Bool} {v : Int32} {q q' : Nat × (Nat → Int32)} (h : agr q q') : agr (pst b v q) (pst b v q') := by
  cases b
  · exact h
  · refine ⟨by rw [pst_t, pst_t]; show q.1 + 1 = q'.1 + 1; rw [h.1], fun i hi => ?_⟩
    rw [pst_t] at hi ⊢
    rw [pst_t]
    show insA q.2 q.1 v i = insA q'.2 q'.1 v i
    rw [← h.1]
    exact insA_ag v q.1 _ _ h.2 i (by show i ≤ q.1; have : i < q.1 + 1 := hi; omega)
theorem pst_srt {b : Bool} {v : Int32} {q : Nat × (Nat → Int32)} (h : srt q.2 q.1) : srt (pst b v q).2 (pst b v q).1 := by
  cases b
  · exact h
  · exact insA_srt v q.1 q.2 h
theorem pst_all {P : Int32 → Prop} {b : Bool} {v : Int32} {q : Nat × (Nat → Int32)} (h : ∀ i, i < q.1 → P (q.2 i)) (hv : b = true → P v) : ∀ i, i < (pst b v q).1 → P ((pst b v q).2 i) := by
  cases b
  · exact h
  · intro i hi
    rcases insA_mem v q.1 q.2 i (by have : i < q.1 + 1 := hi; omega) with e | ⟨j, hj, e⟩
    · show P (insA q.2 q.1 v i); rw [e]; exact hv rfl
    · show P (insA q.2 q.1 v i); rw [e]; exact h j hj
theorem pst_1 (b : Bool) (v : Int32) (q : Nat × (Nat → Int32)) : (pst b v q).1 = q.1 + (if b = true then 1 else 0) := by cases b <;> rfl
def stq (w h : Nat) (H : Nat → Int32) (x y : Nat) (f : Nat → Int32) : Nat × (Nat → Int32) :=
  pst (decide (y + 1 < h)) (H (8 * (y + 1) + x)) (pst (decide (0 < y)) (H (8 * (y - 1) + x)) (pst (decide (x + 1 < w)) (H (8 * y + (x + 1))) (pst (decide (0 < x)) (H (8 * y + (x - 1))) (0, f))))
theorem stq_1 {w h : Nat} (hw : 2 ≤ w) (hh : 2 ≤ h) {x y : Nat} (hx : x < w) (hy : y < h) (H f : Nat → Int32) : 2 ≤ (stq w h H x y f).1 ∧ (stq w h H x y f).1 ≤ 4 := by
  unfold stq
  simp only [pst_1, decide_eq_true_eq]
  constructor <;> (repeat' split) <;> omega
theorem stq_agr (w h : Nat) (H : Nat → Int32) (x y : Nat) (f g : Nat → Int32) : agr (stq w h H x y f) (stq w h H x y g) :=
  pst_agr (pst_agr (pst_agr (pst_agr ⟨rfl, fun i hi => absurd hi (Nat.not_lt_zero i)⟩)))
theorem stq_srt (w h : Nat) (H : Nat → Int32) (x y : Nat) (f : Nat → Int32) : srt (stq w h H x y f).2 (stq w h H x y f).1 :=
  pst_srt (pst_srt (pst_srt (pst_srt (fun i j _ hj => absurd hj (Nat.not_lt_zero j)))))
def clp (o lo hi : Int32) : Int32 := if o < lo then lo else if hi < o then hi else o
def stp (w h : Nat) (pin H : Nat → Int32) (x y : Nat) : Int32 :=
  if pin (8 * y + x) = 0 then clp (H (8 * y + x)) ((stq w h H x y (fun _ => 0)).2 (((stq w h H x y (fun _ => 0)).1 - 1) / 2)) ((stq w h H x y (fun _ => 0)).2 ((stq w h H x y (fun _ => 0)).1 / 2)) else H (8 * y + x)
theorem clp_mm {o lo hi : Int32} (h : lo ≤ hi) : (if lo < (if o < hi then o else hi) then (if o < hi then o else hi) else lo) = clp o lo hi := by
  unfold clp
  rw [Int32.le_iff_toInt_le] at h
  by_cases h1 : o < lo
  · rw [if_pos h1]
    rw [Int32.lt_iff_toInt_lt] at h1
    have h2 : o < hi := by rw [Int32.lt_iff_toInt_lt]; omega
    rw [if_pos h2, if_neg (by rw [Int32.lt_iff_toInt_lt]; omega)]
  · rw [if_neg h1]
    rw [Int32.lt_iff_toInt_lt] at h1
    by_cases h2 : hi < o
    · rw [if_pos h2]
      rw [Int32.lt_iff_toInt_lt] at h2
      rw [if_neg (show ¬ o < hi by rw [Int32.lt_iff_toInt_lt]; omega)]
      by_cases h3 : lo < hi
      · rw [if_pos h3]
      · rw [if_neg h3]
        rw [Int32.lt_iff_toInt_lt] at h3
        rw [← Int32.toInt_inj]; omega
    · rw [if_neg h2]
      rw [Int32.lt_iff_toInt_lt] at h2
      have e : (if o < hi then o else hi) = o := by
        split
        · rfl
        · rename_i h3
          rw [Int32.lt_iff_toInt_lt] at h3
          rw [← Int32.toInt_inj]; omega
      rw [e]
      by_cases h3 : lo < o
      · rw [if_pos h3]
      · rw [if_neg h3]
        rw [Int32.lt_iff_toInt_lt] at h3
        rw [← Int32.toInt_inj]; omega
/-- the middle ones are the same whatever lay in the row before -/
theorem stp_any {w h : Nat} (hw : 2 ≤ w) (hh : 2 ≤ h) {x y : Nat} (hx : x < w) (hy : y < h) (pin H f : Nat → Int32) (h0 : pin (8 * y + x) = 0) : clp (H (8 * y + x)) ((stq w h H x y f).2 (((stq w h H x y f).1 - 1) / 2)) ((stq w h H x y f).2 ((stq w h H x y f).1 / 2)) = stp w h pin H x y := by
  unfold stp
  rw [if_pos h0]
  obtain ⟨a1, a2⟩ := stq_agr w h H x y f (fun _ => 0)
  have c := stq_1 hw hh hx hy H f
  rw [a2 _ (by omega), a2 _ (by omega), a1]
theorem stq_lohi {w h : Nat} (hw : 2 ≤ w) (hh : 2 ≤ h) {x y : Nat} (hx : x < w) (hy : y < h) (H f : Nat → Int32) : (stq w h H x y f).2 (((stq w h H x y f).1 - 1) / 2) ≤ (stq w h H x y f).2 ((stq w h H x y f).1 / 2) := by
  have c := stq_1 hw hh hx hy H f
  exact stq_srt w h H x y f _ _ (by omega) (by omega)
/-- a STEP leaves a height that was there -/
theorem stp_all {P : Int32 → Prop} {w h : Nat} (hw : 2 ≤ w) (hh : 2 ≤ h) (hw8 : w ≤ 8) (hh8 : h ≤ 8) {x y : Nat} (hx : x < w) (hy : y < h) (pin H : Nat → Int32) (hH : ∀ j, j < 64 → P (H j)) : P (stp w h pin H x y) := by
  have all : ∀ i, i < (stq w h H x y (fun _ => 0)).1 → P ((stq w h H x y (fun _ => 0)).2 i) := by
    refine pst_all (pst_all (pst_all (pst_all (fun i hi => absurd hi (Nat.not_lt_zero i)) ?_) ?_) ?_) ?_
    · intro c; exact hH _ (by omega)
    · intro c; have := of_decide_eq_true c; exact hH _ (by omega)
    · intro c; exact hH _ (by omega)
    · intro c; have := of_decide_eq_true c; exact hH _ (by omega)
  have c := stq_1 hw hh hx hy H (fun _ => 0)
  unfold stp clp
  split
  · split
    · exact all _ (by omega)
    · split
      · exact all _ (by omega)
      · exact hH _ (by omega)
  · exact hH _ (by omega)
/-- a ROUND: rows, then columns -/
def stX (w h : Nat) (pin : Nat → Int32) (y : Nat) : Nat → (Nat → Int32) → (Nat → Int32)
  | 0, H => H
  | x + 1, H => upd (stX w h pin y x H) (8 * y + x) (stp w h pin (stX w h pin y x H) x y)
def stY (w h : Nat) (pin : Nat → Int32) : Nat → (Nat → Int32) → (Nat → Int32)
  | 0, H => H
  | y + 1, H => stX w h pin y w (stY w h pin y H)
def stR (w h : Nat) (pin : Nat → Int32) (H : Nat → Int32) : Nat → Int32 := stY w h pin h H
/-- sizes of differences -/
def szI (x : Int32) : Int32 := if 0 ≤ x then x else 0 - x
def chg (w h : Nat) (pin H : Nat → Int32) : Int32 := sum2 (fun y x => szI (stp w h pin H x y - H (8 * y + x))) w h
def drw (w h : Nat) (H : Nat → Int32) : Int32 := sum2 (fun y x => (if x + 1 < w then szI (H (8 * y + x) - H (8 * y + (x + 1))) else 0) + (if y + 1 < h then szI (H (8 * y + x) - H (8 * (y + 1) + x)) else 0)) w h
def pns (w h : Nat) (pin : Nat → Int32) : Int32 := sum2 (fun y x => if pin (8 * y + x) = 0 then 0 else 1) w h
theorem stp_pin {w h : Nat} {p1 p2 H : Nat → Int32} {x y : Nat} (e : p1 (8 * y + x) = p2 (8 * y + x)) : stp w h p1 H x y = stp w h p2 H x y := by unfold stp; rw [e]
def pinEq (w h : Nat) (p1 p2 : Nat → Int32) : Prop := ∀ y, y < h → ∀ x, x < w → p1 (8 * y + x) = p2 (8 * y + x)
theorem stX_pin {w h : Nat} {p1 p2 : Nat → Int32} (e : pinEq w h p1 p2) {y : Nat} (hy : y < h) : ∀ (x : Nat), x ≤ w → ∀ H, stX w h p1 y x H = stX w h p2 y x H := by
  intro x
  induction x with
  | zero => intro _ H; rfl
  | succ x ih => intro hx H; rw [stX, stX, ih (by omega) H, stp_pin (e y hy x (by omega))]
theorem stY_pin {w h : Nat} {p1 p2 : Nat → Int32} (e : pinEq w h p1 p2) : ∀ (y : Nat), y ≤ h → ∀ H, stY w h p1 y H = stY w h p2 y H := by
  intro y
  induction y with
  | zero => intro _ H; rfl
  | succ y ih => intro hy H; rw [stY, stY, ih (by omega) H, stX_pin e (by omega) w (Nat.le_refl w)]
theorem stR_pin {w h : Nat} {p1 p2 : Nat → Int32} (e : pinEq w h p1 p2) (H : Nat → Int32) : stR w h p1 H = stR w h p2 H := stY_pin e h (Nat.le_refl h) H
theorem chg_pin {w h : Nat} {p1 p2 : Nat → Int32} (e : pinEq w h p1 p2) (H : Nat → Int32) : chg w h p1 H = chg w h p2 H :=
  sum2_congr (fun y hy x hx => by rw [stp_pin (e y hy x hx)])
theorem pns_pin {w h : Nat} {p1 p2 : Nat → Int32} (e : pinEq w h p1 p2) : pns w h p1 = pns w h p2 :=
  sum2_congr (fun y hy x hx => by rw [e y hy x hx])
/-- heights stay within what they were -/
theorem stX_all {P : Int32 → Prop} {w h : Nat} (hw : 2 ≤ w) (hh : 2 ≤ h) (hw8 : w ≤ 8) (hh8 : h ≤ 8) (pin : Nat → Int32) {y : Nat} (hy : y < h) : ∀ (x : Nat), x ≤ w → ∀ H, (∀ j, j < 64 → P (H j)) → ∀ j, j < 64 → P (stX w h pin y x H j) := by
  intro x
  induction x with
  | zero => intro _ H hH j hj; exact hH j hj
  | succ x ih =>
    intro hx H hH j hj
    rw [stX]
    by_cases e : j = 8 * y + x
    · rw [e, upd_s]; exact stp_all hw hh hw8 hh8 (by omega) hy pin _ (ih (by omega) H hH)
    · rw [upd_n _ _ e]; exact ih (by omega) H hH j hj
theorem stY_all {P : Int32 → Prop} {w h : Nat} (hw : 2 ≤ w) (hh : 2 ≤ h) (hw8 : w ≤ 8) (hh8 : h ≤ 8) (pin : Nat → Int32) : ∀ (y : Nat), y ≤ h → ∀ H, (∀ j, j < 64 → P (H j)) → ∀ j, j < 64 → P (stY w h pin y H j) := by
  intro y
  induction y with
  | zero => intro _ H hH j hj; exact hH j hj
  | succ y ih => intro hy H hH; exact stX_all hw hh hw8 hh8 pin (by omega) w (Nat.le_refl w) _ (ih (by omega) H hH)
