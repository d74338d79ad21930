/-! least values with all that have them: how two such accounts are joined -/
abbrev FARc : Int64 := 4000000000000000
theorem FAR_lI : FARc = lI 4000000000000000 := by decide
theorem lI_le {a b : Int} (ha : -9000000000000000000 ≤ a) (ha2 : a ≤ 9000000000000000000) (hb : -9000000000000000000 ≤ b) (hb2 : b ≤ 9000000000000000000) : lI a ≤ lI b ↔ a ≤ b := by
  rw [Int64.le_iff_toInt_le, toInt_lI (by omega) (by omega), toInt_lI (by omega) (by omega)]
theorem lI_eq {a b : Int} (ha : -9000000000000000000 ≤ a) (ha2 : a ≤ 9000000000000000000) (hb : -9000000000000000000 ≤ b) (hb2 : b ≤ 9000000000000000000) : lI a = lI b ↔ a = b := by
  rw [← Int64.toInt_inj, toInt_lI (by omega) (by omega), toInt_lI (by omega) (by omega)]
def smry (P : Int64 → Prop) (w : Int64 → Int) (val st tm : Int64) : Prop := ∃ L : List Int64, L.Nodup ∧ tm = lN L.length ∧ ((L = [] ∧ val = FARc ∧ ∀ s, ¬ P s) ∨ ∃ v : Int, val = lI v ∧ st ∈ L ∧ (∀ s, s ∈ L ↔ P s ∧ w s = v) ∧ ∀ s, P s → v ≤ w s)
def wBd (w : Int64 → Int) : Prop := ∀ s, -10000000 ≤ w s ∧ w s ≤ 10000000
theorem smry_congr {P P2 : Int64 → Prop} {w w2 : Int64 → Int} {val st tm : Int64} (h : smry P w val st tm) (hP : ∀ s, P s ↔ P2 s) (hw : ∀ s, P s → w s = w2 s) : smry P2 w2 val st tm := by
  obtain ⟨L, h1, h2, h3⟩ := h
  refine ⟨L, h1, h2, ?_⟩
  rcases h3 with ⟨a, b, c⟩ | ⟨v, a, b, c, d⟩
  · exact Or.inl ⟨a, b, fun s hs => c s ((hP s).mpr hs)⟩
  · refine Or.inr ⟨v, a, b, fun s => ?_, fun s hs => by rw [← hw s ((hP s).mpr hs)]; exact d s ((hP s).mpr hs)⟩
    rw [c s]
    exact ⟨fun ⟨q1, q2⟩ => ⟨(hP s).mp q1, by rw [← hw s q1]; exact q2⟩, fun ⟨q1, q2⟩ => ⟨(hP s).mpr q1, by rw [hw s ((hP s).mpr q1)]; exact q2⟩⟩
theorem smry_none {P : Int64 → Prop} {w : Int64 → Int} (h : ∀ s, ¬ P s) (st : Int64) : smry P w FARc st 0 := ⟨[], List.nodup_nil, rfl, Or.inl ⟨rfl, rfl, h⟩⟩
theorem smry_v {P : Int64 → Prop} {w : Int64 → Int} {val st tm : Int64} (hw : wBd w) (h : smry P w val st tm) : (val = FARc ∧ tm = 0 ∧ ∀ s, ¬ P s) ∨ ∃ v : Int, val = lI v ∧ -10000000 ≤ v ∧ v ≤ 10000000 ∧ P st ∧ w st = v ∧ ∀ s, P s → v ≤ w s := by
  obtain ⟨L, h1, h2, h3⟩ := h
  rcases h3 with ⟨a, b, c⟩ | ⟨v, a, b, c, d⟩
  · exact Or.inl ⟨b, by rw [h2, a]; rfl, c⟩
  · have h4 := (c st).mp b
    have h5 := hw st
    exact Or.inr ⟨v, a, by omega, by omega, h4.1, h4.2, d⟩
/-- an account of nothing changes nothing -/
theorem smry_orN {P Q : Int64 → Prop} {w : Int64 → Int} {val st tm : Int64} (h : smry P w val st tm) (hQ : ∀ s, ¬ Q s) : smry (fun s => P s ∨ Q s) w val st tm :=
  smry_congr h (fun s => ⟨Or.inl, fun q => q.resolve_right (hQ s)⟩) (fun _ _ => rfl)
theorem smry_or {P Q : Int64 → Prop} {w : Int64 → Int} {v1 s1 t1 v2 s2 t2 : Int64} (hw : wBd w) (h1 : smry P w v1 s1 t1) (h2 : smry Q w v2 s2 t2) (hne : ¬ FARc ≤ v2) (hd : ∀ s, P s → ¬ Q s) : (v1 ≤ v2 → smry (fun s => P s ∨ Q s) w v1 s1 (t1 + (if v2 = v1 then t2 else 0))) ∧ (¬ v1 ≤ v2 → smry (fun s => P s ∨ Q s) w v2 s2 t2) := by
  obtain ⟨L1, a1, a2, a3⟩ := h1
  obtain ⟨L2, b1, b2, b3⟩ := h2
  rcases b3 with ⟨c1, c2, c3⟩ | ⟨y, c1, c2, c3, c4⟩
  · exact absurd (by rw [c2]; exact (Int64.le_iff_toInt_le.mpr (Int.le_refl _))) hne
  have by_ := (c3 s2).mp c2
  have hy := hw s2
  rcases a3 with ⟨d1, d2, d3⟩ | ⟨x, d1, d2, d3, d4⟩
  · have hnle : ¬ v1 ≤ v2 := by rw [d2]; exact hne
    refine ⟨fun q => absurd q hnle, fun _ => ⟨L2, b1, b2, Or.inr ⟨y, c1, c2, fun s => ?_, fun s hs => c4 s (hs.resolve_left (d3 s))⟩⟩⟩
    rw [c3 s]
    exact ⟨fun q => ⟨Or.inr q.1, q.2⟩, fun q => ⟨q.1.resolve_left (d3 s), q.2⟩⟩
  · have bx := (d3 s1).mp d2
    have hx := hw s1
    have hle : v1 ≤ v2 ↔ x ≤ y := by rw [d1, c1]; exact lI_le (by omega) (by omega) (by omega) (by omega)
    have heq : v2 = v1 ↔ y = x := by rw [d1, c1]; exact lI_eq (by omega) (by omega) (by omega) (by omega)
    refine ⟨fun q => ?_, fun q => ?_⟩
    · rw [hle] at q
      by_cases e : v2 = v1
      · rw [if_pos e]
        have e2 := heq.mp e
        refine ⟨L1 ++ L2, List.nodup_append.mpr ⟨a1, b1, fun s hs s' hs' hss => ?_⟩, by rw [List.length_append, ← lN_add, a2, b2], Or.inr ⟨x, d1, List.mem_append_left _ d2, fun s => ?_, fun s hs => ?_⟩⟩
        · subst hss
          exact hd s ((d3 s).mp hs).1 ((c3 s).mp hs').1
        · rw [List.mem_append, d3 s, c3 s, e2]
          exact ⟨fun q => q.elim (fun q => ⟨Or.inl q.1, q.2⟩) (fun q => ⟨Or.inr q.1, q.2⟩), fun q => q.1.elim (fun z => Or.inl ⟨z, q.2⟩) (fun z => Or.inr ⟨z, q.2⟩)⟩
        · rcases hs with hs | hs
          · exact d4 s hs
          · rw [← e2]; exact c4 s hs
      · rw [if_neg e, Int64.add_zero]
        have e2 : ¬ y = x := fun z => e (heq.mpr z)
        refine ⟨L1, a1, a2, Or.inr ⟨x, d1, d2, fun s => ?_, fun s hs => ?_⟩⟩
        · rw [d3 s]
          refine ⟨fun q => ⟨Or.inl q.1, q.2⟩, fun q => ⟨q.1.resolve_right (fun z => ?_), q.2⟩⟩
          have := c4 s z
          have := q.2
          omega
        · rcases hs with hs | hs
          · exact d4 s hs
          · have := c4 s hs; omega
    · rw [hle] at q
      refine ⟨L2, b1, b2, Or.inr ⟨y, c1, c2, fun s => ?_, fun s hs => ?_⟩⟩
      · rw [c3 s]
        refine ⟨fun q => ⟨Or.inr q.1, q.2⟩, fun q => ⟨q.1.resolve_left (fun z => ?_), q.2⟩⟩
        have := d4 s z
        have := q.2
        omega
      · rcases hs with hs | hs
        · have := d4 s hs; omega
        · exact c4 s hs
/-- an account carried over by a one-to-one change -/
theorem smry_map {P Q : Int64 → Prop} {w w2 : Int64 → Int} {val st tm val2 : Int64} (f : Int64 → Int64) (d : Int) (hw : wBd w) (h : smry P w val st tm) (hne : ¬ FARc ≤ val) (hv : ∀ v : Int, -10000000 ≤ v → v ≤ 10000000 → val = lI v → val2 = lI (v + d)) (hf : ∀ s, P s → Q (f s) ∧ w2 (f s) = w s + d) (hb : ∀ s, Q s → ∃ s0, P s0 ∧ f s0 = s) (hi : ∀ s s', P s → P s' → f s = f s' → s = s') : smry Q w2 val2 (f st) tm := by
  obtain ⟨L, a1, a2, a3⟩ := h
  rcases a3 with ⟨c1, c2, c3⟩ | ⟨v, c1, c2, c3, c4⟩
  · exact absurd (by rw [c2]; exact (Int64.le_iff_toInt_le.mpr (Int.le_refl _))) hne
  have h1 := (c3 st).mp c2
  have h2 := hw st
  refine ⟨L.map f, ?_, by rw [List.length_map]; exact a2, Or.inr ⟨v + d, hv v (by omega) (by omega) c1, List.mem_map_of_mem c2, fun s => ?_, fun s hs => ?_⟩⟩
  · rw [List.Nodup, List.pairwise_map]
    refine List.Pairwise.imp_of_mem ?_ a1
    intro x y hx hy hne2 e
    exact hne2 (hi x y ((c3 x).mp hx).1 ((c3 y).mp hy).1 e)
  · rw [List.mem_map]
    constructor
    · intro ⟨s0, q1, q2⟩
      obtain ⟨z1, z2⟩ := (c3 s0).mp q1
      obtain ⟨g1, g2⟩ := hf s0 z1
      rw [← q2]; exact ⟨g1, by rw [g2, z2]⟩
    · intro ⟨q1, q2⟩
      obtain ⟨s0, z1, z2⟩ := hb s q1
      have g2 := (hf s0 z1).2
      rw [z2] at g2
      exact ⟨s0, (c3 s0).mpr ⟨z1, by omega⟩, z2⟩
  · obtain ⟨s0, z1, z2⟩ := hb s hs
    have g2 := (hf s0 z1).2
    rw [z2] at g2
    have := c4 s0 z1
    omega
/-! the box gone through cell by cell -/
def dT (cell : Nat → Nat) (s : Int64) : Nat → Bool := fun j => sb s (cell j)
def dad (oc : Nat → Int) (bq : Nat → Nat) (fq : Nat → Nat → Int) (k : Nat) (T : Nat → Bool) : Int := (if T k = true then oc k else 0) + sumZ (fun q => if T (k - bq q) = T k then 0 else fq q k) 3
def dE (oc : Nat → Int) (bq : Nat → Nat) (fq : Nat → Nat → Int) (k : Nat) (T : Nat → Bool) : Int := sumZ (fun j => dad oc bq fq j T) k
def dC (k : Nat) (T : Nat → Bool) : Int := sumZ (fun j => if T j = true then 1 else 0) k
def dV (oc : Nat → Int) (bq : Nat → Nat) (fq : Nat → Nat → Int) (be : Int) (k : Nat) (T : Nat → Bool) : Int := 64 * dE oc bq fq k T + be * dC k T
def vdK (cell : Nat → Nat) (hd : Nat → Int32) (k : Nat) (s : Int64) : Prop := (∀ i, i < 64 → sb s i = true → ∃ j, j < k ∧ cell j = i) ∧ ∀ j, j < k → ¬ hd (cell j) = (if sb s (cell j) = true then 2 else 1)
def rowK (kp : Nat) (T : Nat → Bool) : Nat → Nat
  | 0 => 0
  | k + 1 => (2 * rowK kp T k + (if T k = true then 1 else 0)) % 2 ^ kp
theorem rowK_congr {kp : Nat} {T T2 : Nat → Bool} {k : Nat} (h : ∀ j, j < k → T j = T2 j) : rowK kp T k = rowK kp T2 k := by
  induction k with
  | zero => rfl
  | succ k ih => simp only [rowK]; rw [ih (fun j hj => h j (by omega)), h k (by omega)]
theorem rowK_lt (kp : Nat) (T : Nat → Bool) (k : Nat) : rowK kp T k < 2 ^ kp := by
  cases k with
  | zero => exact Nat.two_pow_pos kp
  | succ k => exact Nat.mod_lt _ (Nat.two_pow_pos kp)
theorem rowK_bit (kp : Nat) (T : Nat → Bool) : ∀ (k i : Nat), i < kp → (rowK kp T k).testBit i = (decide (i < k) && T (k - 1 - i)) := by
  intro k
  induction k with
  | zero => intro i hi; simp [rowK]
  | succ k ih =>
    intro i hi
    rw [rowK, Nat.testBit_mod_two_pow, decide_eq_true hi, Bool.true_and]
    cases i with
    | zero =>
      have e : (2 * rowK kp T k + (if T k = true then 1 else 0)).testBit 0 = T k := by
        rw [Nat.testBit_zero]
        cases T k <;> simp <;> omega
      rw [e]; simp
    | succ i =>
      have e : (2 * rowK kp T k + (if T k = true then 1 else 0)) / 2 = rowK kp T k := by split <;> omega
      rw [Nat.testBit_succ, e, ih i (by omega)]
      congr 1
      · rw [decide_eq_decide]; omega
      · congr 1; omega
theorem dad_congr {oc : Nat → Int} {bq : Nat → Nat} {fq : Nat → Nat → Int} {k : Nat} {T T2 : Nat → Bool} (h : ∀ j, j ≤ k → T j = T2 j) : dad oc bq fq k T = dad oc bq fq k T2 := by
  unfold dad
  rw [h k (Nat.le_refl k)]
  congr 1
  exact sumZ_congr (fun q hq => by rw [h (k - bq q) (by omega)])
theorem dV_congr {oc : Nat → Int} {bq : Nat → Nat} {fq : Nat → Nat → Int} {be : Int} {k : Nat} {T T2 : Nat → Bool} (h : ∀ j, j < k → T j = T2 j) : dV oc bq fq be k T = dV oc bq fq be k T2 := by
  unfold dV dE dC
  rw [sumZ_congr (fun j hj => dad_congr (fun i hi => h i (by omega))), sumZ_congr (f := fun j => if T j = true then (1 : Int) else 0) (g := fun j => if T2 j = true then 1 else 0) (fun j hj => by rw [h j hj])]
theorem dV_succ (oc : Nat → Int) (bq : Nat → Nat) (fq : Nat → Nat → Int) (be : Int) (k : Nat) (T : Nat → Bool) : dV oc bq fq be (k + 1) T = dV oc bq fq be k T + (64 * dad oc bq fq k T + be * (if T k = true then 1 else 0)) := by
  unfold dV dE dC
  simp only [sumZ]
  rw [Int.mul_add, Int.mul_add]; omega
/-- one cell more: in (b = 1), or not -/
theorem vd_step {cell : Nat → Nat} {hd : Nat → Int32} {k : Nat} (hc : cell k < 64) (hinj : ∀ j, j < k → cell j ≠ cell k) (b : Bool) (hh : ¬ hd (cell k) = (if b = true then 2 else 1)) (f : Int64 → Int64) (hf : ∀ s i, i < 64 → sb (f s) i = (sb s i || (b && decide (i = cell k)))) : (∀ s, vdK cell hd k s → vdK cell hd (k + 1) (f s) ∧ (∀ j, j < k → dT cell (f s) j = dT cell s j) ∧ dT cell (f s) k = b) ∧ (∀ s, vdK cell hd (k + 1) s → dT cell s k = b → ∃ s0, vdK cell hd k s0 ∧ f s0 = s ∧ ∀ j, j < k → dT cell s0 j = dT cell s j) ∧ ∀ s s', vdK cell hd k s → vdK cell hd k s' → f s = f s' → s = s' := by
  have hc64 : ∀ s, vdK cell hd k s → sb s (cell k) = false := fun s hs => by
    cases q : sb s (cell k)
    · rfl
    · obtain ⟨j, h1, h2⟩ := hs.1 (cell k) hc q
      exact absurd h2 (hinj j h1)
  have hlow : ∀ s i, i < 64 → i ≠ cell k → sb (f s) i = sb s i := fun s i hi hne => by
    rw [hf s i hi, decide_eq_false hne, Bool.and_false, Bool.or_false]
  have hbig : ∀ (s : Int64) (i : Nat), 64 ≤ i → sb s i = false := fun s i hi => BitVec.getLsbD_of_ge _ _ hi
  have hlow2 : ∀ s j, j < k → sb (f s) (cell j) = sb s (cell j) := fun s j hj => by
    rcases Nat.lt_or_ge (cell j) 64 with g | g
    · exact hlow s _ g (hinj j hj)
    · rw [hbig _ _ g, hbig _ _ g]
  refine ⟨fun s hs => ⟨⟨fun i hi hb => ?_, fun j hj => ?_⟩, fun j hj => hlow2 s j hj, ?_⟩, fun s hs hb => ?_, fun s s' hs hs' e => ?_⟩
  · by_cases q : i = cell k
    · exact ⟨k, by omega, q.symm⟩
    · rw [hlow s i hi q] at hb
      obtain ⟨j, h1, h2⟩ := hs.1 i hi hb
      exact ⟨j, by omega, h2⟩
  · rcases Nat.lt_or_ge j k with g | g
    · rw [hlow2 s j g]; exact hs.2 j g
    · have e : j = k := by omega
      rw [e, hf s _ hc, hc64 s hs, decide_eq_true rfl, Bool.and_true, Bool.false_or]; exact hh
  · show sb (f s) (cell k) = b
    rw [hf s _ hc, hc64 s hs, decide_eq_true rfl, Bool.and_true, Bool.false_or]
  · -- the set without the cell
    obtain ⟨s0, h0⟩ : ∃ s0 : Int64, ∀ i, i < 64 → sb s0 i = (sb s i && !decide (i = cell k)) := by
      refine ⟨s &&& (((1 : Int64) <<< ((nI (cell k)).toInt64 &&& 63)) ^^^ (-1)), fun i hi => ?_⟩
      rw [zb_and, zb_xor, zb_one hc hi, zb_m1 hi]
      cases decide (i = cell k) <;> rfl
    have e0 : ∀ j, j < k → sb s0 (cell j) = sb s (cell j) := fun j hj => by
      rcases Nat.lt_or_ge (cell j) 64 with g | g
      · rw [h0 _ g, decide_eq_false (hinj j hj), Bool.not_false, Bool.and_true]
      · rw [hbig _ _ g, hbig _ _ g]
    refine ⟨s0, ⟨fun i hi hb2 => ?_, fun j hj => by rw [e0 j hj]; exact hs.2 j (by omega)⟩, ?_, fun j hj => e0 j hj⟩
    · rw [h0 i hi] at hb2
      simp only [Bool.and_eq_true, Bool.not_eq_true', decide_eq_false_iff_not] at hb2
      obtain ⟨j, h1, h2⟩ := hs.1 i hi hb2.1
      rcases Nat.lt_or_ge j k with g | g
      · exact ⟨j, g, h2⟩
      · have e : j = k := by omega
        rw [e] at h2; exact absurd h2.symm hb2.2
    · apply zb_ext
      intro i hi
      rw [hf s0 i hi, h0 i hi]
      by_cases q : i = cell k
      · have hb' : sb s (cell k) = b := hb
        rw [decide_eq_true q, q, hb']; cases b <;> rfl
      · rw [decide_eq_false q]; simp
  · apply zb_ext
    intro i hi
    by_cases q : i = cell k
    · rw [q, hc64 s hs, hc64 s' hs']
    · rw [← hlow s i hi q, ← hlow s' i hi q, e]
