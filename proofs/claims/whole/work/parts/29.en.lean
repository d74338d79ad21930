/-! ALL of a set: the class' sum is the reference's -/
theorem sumZ_mul (a : Int) (f : Nat → Int) (n : Nat) : a * sumZ f n = sumZ (fun i => a * f i) n := by
  induction n with
  | zero => simp [sumZ]
  | succ n ih => simp only [sumZ]; rw [Int.mul_add, ih]
theorem sum6_3 (f : Nat → Int) : sumZ f 6 = sumZ (fun k => f (2 * k) + f (2 * k + 1)) 3 := by
  simp only [sumZ]
  show 0 + f 0 + f 1 + f 2 + f 3 + f 4 + f 5 = 0 + (f 0 + f 1) + (f 2 + f 3) + (f 4 + f 5)
  omega
theorem sumZ_bij {n : Nat} {A B : Nat → Prop} [DecidablePred A] [DecidablePred B] {f g : Nat → Int} (φ ψ : Nat → Nat) (h1 : ∀ i, i < n → A i → φ i < n ∧ B (φ i) ∧ ψ (φ i) = i ∧ g (φ i) = f i) (h2 : ∀ j, j < n → B j → ψ j < n ∧ A (ψ j) ∧ φ (ψ j) = j) : sumZ (fun i => if A i then f i else 0) n = sumZ (fun j => if B j then g j else 0) n := by
  have e1 : sumZ (fun i => if A i then f i else 0) n = sumZ (fun i => sumZ (fun j => if A i ∧ j = φ i then f i else 0) n) n := by
    refine sumZ_congr (fun i hi => ?_)
    by_cases q : A i
    · rw [if_pos q, sumZ_single (k := φ i) (h1 i hi q).1 (fun j _ hne => if_neg (fun z => hne z.2)), if_pos ⟨q, rfl⟩]
    · rw [if_neg q, sumZ_congr (g := fun _ => 0) (fun j _ => if_neg (fun z => q z.1)), sumZ_0]
  rw [e1, sumZ_comm]
  refine sumZ_congr (fun j hj => ?_)
  by_cases q : B j
  · obtain ⟨a1, a2, a3⟩ := h2 j hj q
    rw [if_pos q, sumZ_single (k := ψ j) a1 (fun i hi hne => if_neg (fun z => hne (by rw [z.2, (h1 i hi z.1).2.2.1]))), if_pos ⟨a2, a3.symm⟩]
    have := (h1 (ψ j) a1 a2).2.2.2
    rw [a3] at this; exact this.symm
  · rw [if_neg q, sumZ_congr (g := fun _ => 0) (fun i hi => if_neg (fun z => q (by rw [z.2]; exact (h1 i hi z.1).2.1))), sumZ_0]
theorem bxP_lt {X Y Z : Nat} (h : dimOK X Y Z) (c k : Nat) : bxP X Y Z c k < bxD X Y Z k := Nat.mod_lt _ (by have := (bxD_le h k).1; omega)
theorem sum_shift {X Y Z : Nat} (h : dimOK X Y Z) {k : Nat} (hk : k < 3) (F : Nat → Int) : sumZ (fun c => if 0 < bxP X Y Z c k then F c else 0) (X * Y * Z) = sumZ (fun c => if bxP X Y Z c k + 1 < bxD X Y Z k then F (c + bxS X Y k) else 0) (X * Y * Z) := by
  refine sumZ_bij (fun c => c - bxS X Y k) (fun c => c + bxS X Y k) (fun c hc q => ?_) (fun c hc q => ?_)
  · obtain ⟨_, _, f3⟩ := geo_f h hc hk
    obtain ⟨a1, a2, a3, a4⟩ := f3 q
    refine ⟨by omega, by omega, by omega, ?_⟩
    show F (c - bxS X Y k + bxS X Y k) = F c
    rw [Nat.sub_add_cancel a1]
  · obtain ⟨_, f2, _⟩ := geo_f h hc hk
    obtain ⟨a1, a2, a3⟩ := f2 q
    exact ⟨a1, by omega, by omega⟩
theorem sum_perm {X Y Z w0 w1 w2 : Nat} (h : dimOK X Y Z) (hw : prm w0 w1 w2) (F : Nat → Int) : sumZ (fun k => F (kcell X Y Z w0 w1 w2 k)) (X * Y * Z) = sumZ F (X * Y * Z) := by
  have := sumZ_bij (n := X * Y * Z) (A := fun _ => True) (B := fun _ => True) (f := fun k => F (kcell X Y Z w0 w1 w2 k)) (g := F) (kcell X Y Z w0 w1 w2) (kinv X Y Z w0 w1 w2) (fun i hi _ => ⟨((geo_f3 h hw).2 i hi).1, trivial, ((geo_f3 h hw).2 i hi).2.1, rfl⟩) (fun j hj _ => ⟨((geo_f3 h hw).2 j hj).2.2.1, trivial, ((geo_f3 h hw).2 j hj).2.2.2.1⟩)
  simpa using this
theorem sum3_w {w0 w1 w2 : Nat} (hw : prm w0 w1 w2) (F : Nat → Int) : sumZ (fun q => F (w3 w0 w1 w2 q)) 3 = sumZ F 3 := by
  obtain ⟨g1, g2, g3, g4, g5, g6⟩ := hw
  simp only [sumZ]
  show 0 + F w0 + F w1 + F w2 = 0 + F 0 + F 1 + F 2
  rcases (show w0 = 0 ∨ w0 = 1 ∨ w0 = 2 by omega) with rfl | rfl | rfl <;> rcases (show w1 = 0 ∨ w1 = 1 ∨ w1 = 2 by omega) with rfl | rfl | rfl <;> rcases (show w2 = 0 ∨ w2 = 1 ∨ w2 = 2 by omega) with rfl | rfl | rfl <;> first | omega | contradiction
/-- what a cell costs in every set that has it; the seams onward -/
def ocZ (X Y Z : Nat) (ru pr : Nat → Int32) (more : Int) (c : Nat) : Int := (pr c).toInt + more + (ru 3).toInt * outsZ X Y Z c
def onw (X Y Z : Nat) (ru : Nat → Int32) (S : Nat → Bool) (c k : Nat) : Int := if bxP X Y Z c k + 1 < bxD X Y Z k then (if S (c + bxS X Y k) = S c then 0 else sc ru (kdN ru) k (bxP X Y Z c k)) else 0
def EZ (X Y Z : Nat) (ru pr : Nat → Int32) (more : Int) (S : Nat → Bool) : Int := sumZ (fun c => if S c = true then ocZ X Y Z ru pr more c else 0) (X * Y * Z) + sumZ (fun k => sumZ (fun c => onw X Y Z ru S c k) (X * Y * Z)) 3
theorem own_outs {X Y Z : Nat} (h : dimOK X Y Z) {pl be : Nat → Int32} (g : geoOK X Y Z pl be) (pr ru : Nat → Int32) {c : Nat} (hc : c < X * Y * Z) : ownA pr ru be c = (pr c).toInt + (ru 3).toInt * outsZ X Y Z c := by
  unfold ownA outsZ
  rw [sumZ_mul, sum6_3]
  congr 1
  refine sumZ_congr (fun k hk => ?_)
  obtain ⟨_, g2, g3⟩ := g c hc k hk
  obtain ⟨f1, f2, f3⟩ := geo_f h hc hk
  have hV := h.2.2.2.2.2.2
  have lt := bxP_lt h c k
  have st := bxS_le h k
  rw [← Nat.add_assoc, g2, g3]
  have e1 : (if (if bxP X Y Z c k + 1 < bxD X Y Z k then nI (c + bxS X Y k) else -1) = -1 then (ru 3).toInt else 0) = (ru 3).toInt * (if bxP X Y Z c k + 1 = bxD X Y Z k then 1 else 0) := by
    by_cases q : bxP X Y Z c k + 1 < bxD X Y Z k
    · rw [if_pos q, if_neg (n1_ne (by have := (f2 q).1; omega)), if_neg (by omega)]; omega
    · rw [if_neg q, if_pos rfl, if_pos (by omega)]; omega
  have e2 : (if (if 0 < bxP X Y Z c k then nI (c - bxS X Y k) else -1) = -1 then (ru 3).toInt else 0) = (ru 3).toInt * (if bxP X Y Z c k = 0 then 1 else 0) := by
    by_cases q : 0 < bxP X Y Z c k
    · rw [if_pos q, if_neg (n1_ne (by omega)), if_neg (by omega)]; omega
    · rw [if_neg q, if_pos rfl, if_pos (by omega)]; omega
  rw [e1, e2, Int.mul_add]; omega
def onA (X Y Z : Nat) (ru : Nat → Int32) (S : Nat → Bool) (c k : Nat) : Int := if bxP X Y Z c k + 1 < bxD X Y Z k then (if S (c + bxS X Y k) = true then 0 else sc ru (kdN ru) k (bxP X Y Z c k)) else 0
def bkA (X Y Z : Nat) (ru : Nat → Int32) (S : Nat → Bool) (c k : Nat) : Int := if 0 < bxP X Y Z c k then (if S (c - bxS X Y k) = true then 0 else sc ru (kdN ru) k (bxP X Y Z c k - 1)) else 0
theorem Ein_geo {X Y Z : Nat} (h : dimOK X Y Z) {pl be : Nat → Int32} (g : geoOK X Y Z pl be) (ru : Nat → Int32) (S : Nat → Bool) {c : Nat} (hc : c < X * Y * Z) : Ein be pl ru S c = sumZ (fun k => onA X Y Z ru S c k + bkA X Y Z ru S c k) 3 := by
  unfold Ein
  rw [sum6_3]
  refine sumZ_congr (fun k hk => ?_)
  obtain ⟨g1, g2, g3⟩ := g c hc k hk
  obtain ⟨f1, f2, f3⟩ := geo_f h hc hk
  have hV := h.2.2.2.2.2.2
  rw [← Nat.add_assoc, g2, g3]
  unfold onA bkA cwA
  rw [show 2 * k / 2 = k by omega, show 2 * k % 2 = 0 by omega, show (2 * k + 1) / 2 = k by omega, show (2 * k + 1) % 2 = 1 by omega, g1, nI_clamp (by omega)]
  congr 1
  · by_cases q : bxP X Y Z c k + 1 < bxD X Y Z k
    · have := (f2 q).1
      rw [if_pos q, if_pos q, if_neg (n1_ne (by omega)), nI_clamp (by omega)]; rfl
    · rw [if_neg q, if_neg q, if_pos rfl]
  · by_cases q : 0 < bxP X Y Z c k
    · rw [if_pos q, if_pos q, if_neg (n1_ne (by omega)), nI_clamp (by omega)]; rfl
    · rw [if_neg q, if_neg q, if_pos rfl]
theorem Ef_EZ {X Y Z : Nat} (h : dimOK X Y Z) {pl be : Nat → Int32} (g : geoOK X Y Z pl be) (ru pr : Nat → Int32) (more : Int) (S : Nat → Bool) : Ef (X * Y * Z) be pl ru pr more S = EZ X Y Z ru pr more S := by
  have e1 : Ef (X * Y * Z) be pl ru pr more S = sumZ (fun c => (if S c = true then ocZ X Y Z ru pr more c else 0) + sumZ (fun k => (if S c = true then onA X Y Z ru S c k else 0) + (if S c = true then bkA X Y Z ru S c k else 0)) 3) (X * Y * Z) := by
    refine sumZ_congr (fun c hc => ?_)
    rw [own_outs h g pr ru hc, Ein_geo h g ru S hc]
    by_cases q : S c = true
    · simp only [if_pos q]; unfold ocZ; omega
    · simp only [if_neg q]; rfl
  rw [e1, sumZ_add, sumZ_comm]
  unfold EZ
  congr 1
  refine sumZ_congr (fun k hk => ?_)
  have e2 : sumZ (fun c => if S c = true then bkA X Y Z ru S c k else 0) (X * Y * Z) = sumZ (fun c => if bxP X Y Z c k + 1 < bxD X Y Z k then (if S (c + bxS X Y k) = true then (if S c = true then 0 else sc ru (kdN ru) k (bxP X Y Z c k)) else 0) else 0) (X * Y * Z) := by
    have e3 := sum_shift h hk (fun c => if S c = true then (if S (c - bxS X Y k) = true then 0 else sc ru (kdN ru) k (bxP X Y Z c k - 1)) else 0)
    rw [sumZ_congr (g := fun c => if 0 < bxP X Y Z c k then (if S c = true then (if S (c - bxS X Y k) = true then 0 else sc ru (kdN ru) k (bxP X Y Z c k - 1)) else 0) else 0) (fun c hc => ?_), e3]
    · refine sumZ_congr (fun c hc => ?_)
      by_cases q : bxP X Y Z c k + 1 < bxD X Y Z k
      · obtain ⟨a1, a2, a3⟩ := (geo_f h hc hk).2.1 q
        rw [if_pos q, if_pos q, Nat.add_sub_cancel, a2, Nat.add_sub_cancel]
      · rw [if_neg q, if_neg q]
    · unfold bkA
      by_cases q : 0 < bxP X Y Z c k
      · rw [if_pos q, if_pos q]
      · rw [if_neg q, if_neg q]; split <;> rfl
  rw [sumZ_add, e2, ← sumZ_add]
  refine sumZ_congr (fun c hc => ?_)
  unfold onA onw
  by_cases q : bxP X Y Z c k + 1 < bxD X Y Z k
  · simp only [if_pos q]
    cases S c <;> cases S (c + bxS X Y k) <;> simp
  · simp only [if_neg q]; split <;> rfl
theorem dE_EZ {X Y Z w0 w1 w2 : Nat} (h : dimOK X Y Z) (hw : prm w0 w1 w2) (ru pr : Nat → Int32) (more : Int) (s : Int64) : dE (ocM X Y Z w0 w1 w2 ru pr more) (bqM X Y Z w0 w1) (fqM X Y Z w0 w1 w2 ru) (X * Y * Z) (dT (kcell X Y Z w0 w1 w2) s) = EZ X Y Z ru pr more (sb s) := by
  have e1 : dE (ocM X Y Z w0 w1 w2 ru pr more) (bqM X Y Z w0 w1) (fqM X Y Z w0 w1 w2 ru) (X * Y * Z) (dT (kcell X Y Z w0 w1 w2) s) = sumZ (fun j => (fun c => (if sb s c = true then ocZ X Y Z ru pr more c else 0) + sumZ (fun k => if 0 < bxP X Y Z c k then (if sb s (c - bxS X Y k) = sb s c then 0 else sc ru (kdN ru) k (bxP X Y Z c k - 1)) else 0) 3) (kcell X Y Z w0 w1 w2 j)) (X * Y * Z) := by
    unfold dE
    refine sumZ_congr (fun j hj => ?_)
    obtain ⟨a1, a2, a3, a4, a5, a6⟩ := (geo_f3 h hw).2 j hj
    unfold dad
    dsimp only
    congr 1
    rw [← sum3_w hw (fun k => if 0 < bxP X Y Z (kcell X Y Z w0 w1 w2 j) k then (if sb s (kcell X Y Z w0 w1 w2 j - bxS X Y k) = sb s (kcell X Y Z w0 w1 w2 j) then 0 else sc ru (kdN ru) k (bxP X Y Z (kcell X Y Z w0 w1 w2 j) k - 1)) else 0)]
    refine sumZ_congr (fun q hq => ?_)
    obtain ⟨c1, c2⟩ := a6 q hq
    rw [c1]
    unfold fqM
    by_cases p : 0 < pkQ (bxD X Y Z w0) (bxD X Y Z w1) q j
    · rw [if_pos p, if_pos p]
      have e : dT (kcell X Y Z w0 w1 w2) s (j - bqM X Y Z w0 w1 q) = sb s (kcell X Y Z w0 w1 w2 j - bxS X Y (w3 w0 w1 w2 q)) := by
        show sb s (kcell X Y Z w0 w1 w2 (j - bkQ (bxD X Y Z w0) (bxD X Y Z w1) q)) = _
        rw [(c2 p).2]
      rw [e]; rfl
    · rw [if_neg p, if_neg p]; split <;> rfl
  rw [e1, sum_perm h hw (fun c => (if sb s c = true then ocZ X Y Z ru pr more c else 0) + sumZ (fun k => if 0 < bxP X Y Z c k then (if sb s (c - bxS X Y k) = sb s c then 0 else sc ru (kdN ru) k (bxP X Y Z c k - 1)) else 0) 3), sumZ_add, sumZ_comm]
  unfold EZ
  congr 1
  refine sumZ_congr (fun k hk => ?_)
  rw [sum_shift h hk (fun c => if sb s (c - bxS X Y k) = sb s c then 0 else sc ru (kdN ru) k (bxP X Y Z c k - 1))]
  refine sumZ_congr (fun c hc => ?_)
  unfold onw
  by_cases q : bxP X Y Z c k + 1 < bxD X Y Z k
  · obtain ⟨a1, a2, a3⟩ := (geo_f h hc hk).2.1 q
    rw [if_pos q, if_pos q, Nat.add_sub_cancel, a2, Nat.add_sub_cancel]
    cases sb s c <;> cases sb s (c + bxS X Y k) <;> simp
  · rw [if_neg q, if_neg q]
theorem cntA_Z (n : Nat) (P : Nat → Bool) : ((cntA n P : Nat) : Int) = sumZ (fun c => if P c = true then 1 else 0) n := by
  induction n with
  | zero => rfl
  | succ n ih => simp only [cntA, sumZ]; rw [← ih]; split <;> simp
theorem vM_eq {X Y Z w0 w1 w2 : Nat} (h : dimOK X Y Z) (hw : prm w0 w1 w2) {pl be : Nat → Int32} (g : geoOK X Y Z pl be) (ru pr : Nat → Int32) (more b : Int) (s : Int64) : vM X Y Z w0 w1 w2 ru pr more b (X * Y * Z) s = 64 * Ef (X * Y * Z) be pl ru pr more (sb s) + b * (cntA (X * Y * Z) (sb s) : Nat) := by
  unfold vM dV
  rw [dE_EZ h hw, Ef_EZ h g, cntA_Z]
  congr 2
  exact sum_perm h hw (fun c => if sb s c = true then 1 else 0)
theorem vdM_eq {X Y Z w0 w1 w2 : Nat} (h : dimOK X Y Z) (hw : prm w0 w1 w2) (hd : Nat → Int32) (s : Int64) : vdM X Y Z w0 w1 w2 hd (X * Y * Z) s ↔ rgtP (X * Y * Z) hd (sb s) ∧ ∀ i, i < 64 → X * Y * Z ≤ i → sb s i = false := by
  constructor
  · intro ⟨h1, h2⟩
    refine ⟨fun c hc => ?_, fun i hi hni => ?_⟩
    · obtain ⟨_, _, a3, a4, _⟩ := (geo_f3 h hw).2 c hc
      have := h2 _ a3
      rw [a4] at this; exact this
    · cases q : sb s i
      · rfl
      · obtain ⟨j, hj, e⟩ := h1 i hi q
        have := ((geo_f3 h hw).2 j hj).1
        omega
  · intro ⟨h1, h2⟩
    refine ⟨fun i hi hb => ?_, fun j hj => h1 _ ((geo_f3 h hw).2 j hj).1⟩
    rcases Nat.lt_or_ge i (X * Y * Z) with q | q
    · obtain ⟨_, _, a3, a4, _⟩ := (geo_f3 h hw).2 i q
      exact ⟨_, a3, a4⟩
    · rw [h2 i hi q] at hb; exact absurd hb (by decide)
theorem cnt_sub {n : Nat} {P Q : Nat → Bool} (h : ∀ c, c < n → P c = true → Q c = true) : cntA n P ≤ cntA n Q ∧ (cntA n Q ≤ cntA n P → ∀ c, c < n → P c = Q c) := by
  induction n with
  | zero => exact ⟨Nat.le_refl _, fun _ c hc => absurd hc (Nat.not_lt_zero c)⟩
  | succ n ih =>
    obtain ⟨i1, i2⟩ := ih (fun c hc => h c (by omega))
    have hn := h n (by omega)
    simp only [cntA]
    cases p : P n <;> cases q : Q n <;> rw [p, q] at hn <;> simp at hn ⊢
    · refine ⟨i1, fun z c hc => ?_⟩
      rcases Nat.lt_or_ge c n with g | g
      · exact i2 z c g
      · rw [show c = n by omega, p, q]
    · refine ⟨by omega, fun z => ?_⟩
      omega
    · refine ⟨i1, fun z c hc => ?_⟩
      rcases Nat.lt_or_ge c n with g | g
      · exact i2 z c g
      · rw [show c = n by omega, p, q]
/-- what the reference finds is what the class has settled -/
theorem sm_low {X Y Z w0 w1 w2 : Nat} (h : dimOK X Y Z) (hw : prm w0 w1 w2) {pl be ru pr hd : Nat → Int32} (g : geoOK X Y Z pl be) {more : Int} {am lo hi : Int64} (hs : setOK (X * Y * Z) be pl ru pr hd more am lo hi) {val st tm : Int64} (hf : smry (vdM X Y Z w0 w1 w2 hd (X * Y * Z)) (vM X Y Z w0 w1 w2 ru pr more 1 (X * Y * Z)) val st tm) : st = lo := by
  have hV := h.2.2.2.2.2.2
  obtain ⟨a, _, _, _, h1, ⟨l1, l2, l3⟩, _, h4⟩ := hs
  have hlo : vdM X Y Z w0 w1 w2 hd (X * Y * Z) lo := (vdM_eq h hw hd lo).mpr ⟨l1, fun i hi hni => (h4 i hi hni).1⟩
  obtain ⟨L, _, _, q | ⟨v, _, q2, q3, q4⟩⟩ := hf
  · exact absurd hlo (q.2.2 lo)
  · obtain ⟨z1, z2⟩ := (q3 st).mp q2
    have z3 := q4 lo hlo
    obtain ⟨z4, z5⟩ := (vdM_eq h hw hd st).mp z1
    rw [vM_eq h hw g] at z2 z3
    have z6 := h1 _ z4
    have c1 := cntA_le (X * Y * Z) (sb lo)
    rw [l2] at z3
    have z7 : Ef (X * Y * Z) be pl ru pr more (sb st) = a := by omega
    obtain ⟨y1, y2⟩ := cnt_sub (l3 _ z4 z7)
    have y3 := y2 (by omega)
    refine zb_ext (fun i hi => ?_)
    rcases Nat.lt_or_ge i (X * Y * Z) with q | q
    · exact (y3 i q).symm
    · rw [z5 i hi q, (h4 i hi q).1]
theorem sm_high {X Y Z w0 w1 w2 : Nat} (h : dimOK X Y Z) (hw : prm w0 w1 w2) {pl be ru pr hd : Nat → Int32} (g : geoOK X Y Z pl be) {more : Int} {am lo hi : Int64} (hs : setOK (X * Y * Z) be pl ru pr hd more am lo hi) {val st tm : Int64} (hf : smry (vdM X Y Z w0 w1 w2 hd (X * Y * Z)) (vM X Y Z w0 w1 w2 ru pr more (-1) (X * Y * Z)) val st tm) : st = hi := by
  have hV := h.2.2.2.2.2.2
  obtain ⟨a, _, _, _, h1, _, ⟨l1, l2, l3⟩, h4⟩ := hs
  have hlo : vdM X Y Z w0 w1 w2 hd (X * Y * Z) hi := (vdM_eq h hw hd hi).mpr ⟨l1, fun i hi hni => (h4 i hi hni).2⟩
  obtain ⟨L, _, _, q | ⟨v, _, q2, q3, q4⟩⟩ := hf
  · exact absurd hlo (q.2.2 hi)
  · obtain ⟨z1, z2⟩ := (q3 st).mp q2
    have z3 := q4 hi hlo
    obtain ⟨z4, z5⟩ := (vdM_eq h hw hd st).mp z1
    rw [vM_eq h hw g] at z2 z3
    have z6 := h1 _ z4
    have c1 := cntA_le (X * Y * Z) (sb st)
    rw [l2] at z3
    have z7 : Ef (X * Y * Z) be pl ru pr more (sb st) = a := by omega
    obtain ⟨y1, y2⟩ := cnt_sub (l3 _ z4 z7)
    have y3 := y2 (by omega)
    refine zb_ext (fun i hi' => ?_)
    rcases Nat.lt_or_ge i (X * Y * Z) with q | q
    · exact y3 i q
    · rw [z5 i hi' q, (h4 i hi' q).2]
theorem sm_least {X Y Z w0 w1 w2 : Nat} (h : dimOK X Y Z) (hw : prm w0 w1 w2) {pl be ru pr hd : Nat → Int32} (g : geoOK X Y Z pl be) {more : Int} {am lo hi : Int64} (hs : setOK (X * Y * Z) be pl ru pr hd more am lo hi) {val st tm : Int64} (hf : smry (vdM X Y Z w0 w1 w2 hd (X * Y * Z)) (vM X Y Z w0 w1 w2 ru pr more 0 (X * Y * Z)) val st tm) : ∃ a : Int, am = lI a ∧ -100000 ≤ a ∧ a ≤ 100000 ∧ val = lI (64 * a) ∧ ∃ L : List Int64, L.Nodup ∧ tm = lN L.length ∧ ∀ s, s ∈ L ↔ (rgtP (X * Y * Z) hd (sb s) ∧ Ef (X * Y * Z) be pl ru pr more (sb s) = a ∧ ∀ i, i < 64 → X * Y * Z ≤ i → sb s i = false) := by
  obtain ⟨a, a1, a2, a3, h1, ⟨l1, l2, l3⟩, _, h4⟩ := hs
  have hlo : vdM X Y Z w0 w1 w2 hd (X * Y * Z) lo := (vdM_eq h hw hd lo).mpr ⟨l1, fun i hi hni => (h4 i hi hni).1⟩
  refine ⟨a, a1, a2, a3, ?_⟩
  obtain ⟨L, n1, n2, q | ⟨v, q1, q2, q3, q4⟩⟩ := hf
  · exact absurd hlo (q.2.2 lo)
  · obtain ⟨z1, z2⟩ := (q3 st).mp q2
    have z3 := q4 lo hlo
    obtain ⟨z4, z5⟩ := (vdM_eq h hw hd st).mp z1
    rw [vM_eq h hw g] at z2 z3
    have z6 := h1 _ z4
    rw [l2] at z3
    have ev : v = 64 * a := by omega
    refine ⟨by rw [q1, ev], L, n1, n2, fun s => ?_⟩
    rw [q3 s, vdM_eq h hw hd s, vM_eq h hw g, ev]
    constructor
    · rintro ⟨⟨b1, b2⟩, b3⟩; exact ⟨b1, by omega, b2⟩
    · rintro ⟨b1, b2, b3⟩; exact ⟨⟨b1, b3⟩, by omega⟩
theorem skn_EZ {X Y Z : Nat} (h : dimOK X Y Z) {pl be : Nat → Int32} (g : geoOK X Y Z pl be) (ru : Nat → Int32) (S : Nat → Bool) : sknA (X * Y * Z) ru pl be S = sumZ (fun c => if S c = true then (ru 3).toInt * outsZ X Y Z c else 0) (X * Y * Z) + sumZ (fun k => sumZ (fun c => onw X Y Z ru S c k) (X * Y * Z)) 3 := by
  have e := all_Ef (X * Y * Z) be pl ru (fun _ => 0) S
  rw [Ef_EZ h g] at e
  unfold EZ at e
  have z : prsA (X * Y * Z) (fun _ => 0) S = 0 := by
    unfold prsA
    rw [sumZ_congr (g := fun _ => 0) (fun c hc => by split <;> rfl), sumZ_0]
  rw [z, Int.add_zero] at e
  rw [e]
  congr 1
  refine sumZ_congr (fun c hc => ?_)
  unfold ocZ
  split
  · show (0 : Int) + 0 + _ = _; omega
  · rfl
