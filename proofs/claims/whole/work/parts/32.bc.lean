/-! how many bits a long has, by bytes -/
def u64 (x : Int64) : Nat := x.toBitVec.toNat
theorem u_and (x y : Int64) : u64 (x &&& y) = u64 x &&& u64 y := by unfold u64; rw [Int64.toBitVec_and, BitVec.toNat_and]
theorem u_add {x y : Int64} (h : u64 x + u64 y < 2 ^ 64) : u64 (x + y) = u64 x + u64 y := by
  unfold u64 at *
  rw [Int64.toBitVec_add, BitVec.toNat_add, Nat.mod_eq_of_lt h]
theorem u_sub {x y : Int64} (h : u64 y ≤ u64 x) : u64 (x - y) = u64 x - u64 y := by
  unfold u64 at *
  rw [Int64.toBitVec_sub, BitVec.toNat_sub_of_le (by rw [BitVec.le_def]; exact h)]
theorem u_shr (x : Int64) (s : Int32) (k : Nat) (hs : ((s.toInt64.toUInt64 &&& Int64.toUInt64 63).toBitVec % 64).toNat = k) : u64 ((x.toUInt64 >>> (s.toInt64.toUInt64 &&& Int64.toUInt64 63)).toInt64) = u64 x / 2 ^ k := by
  have e : (x.toUInt64 >>> (s.toInt64.toUInt64 &&& Int64.toUInt64 63)).toInt64.toBitVec = x.toBitVec >>> k := by
    rw [← hs]
    exact UInt64.toBitVec_shiftRight _ _
  unfold u64
  rw [e, BitVec.toNat_ushiftRight, Nat.shiftRight_eq_div_pow]
theorem u_i32 (x : Int64) : x.toInt32 &&& 127 = nI (u64 x % 128) := by
  rw [pk_and _ 7 (by decide)]
  congr 1
  have e : x.toInt32.toBitVec.toNat = u64 x % 2 ^ 32 := by
    unfold u64
    show (x.toBitVec.signExtend 32).toNat = _
    rw [BitVec.signExtend_eq_setWidth_of_le _ (by decide), BitVec.toNat_setWidth]
  rw [e]
  show u64 x % 4294967296 % 128 = u64 x % 128
  omega
def vB : List Nat → Nat
  | [] => 0
  | y :: l => 256 * vB l + y
def mB (c : Nat) : Nat → Nat
  | 0 => 0
  | k + 1 => 256 * mB c k + c
theorem and_split {m y M c : Nat} (hy : y < 256) (hc : c < 256) : (256 * m + y) &&& (256 * M + c) = 256 * (m &&& M) + (y &&& c) := by
  apply Nat.eq_of_testBit_eq
  intro i
  have hyc : y &&& c < 2 ^ 8 := Nat.lt_of_le_of_lt Nat.and_le_left hy
  rw [Nat.testBit_and, show 256 * m + y = 2 ^ 8 * m + y from rfl, show 256 * M + c = 2 ^ 8 * M + c from rfl, show 256 * (m &&& M) + (y &&& c) = 2 ^ 8 * (m &&& M) + (y &&& c) from rfl, Nat.testBit_two_pow_mul_add _ hy, Nat.testBit_two_pow_mul_add _ hc, Nat.testBit_two_pow_mul_add _ hyc]
  split
  · rw [Nat.testBit_and]
  · rw [Nat.testBit_and]
theorem and_shr {m y M c s : Nat} (hs : s ≤ 8) (hy : y < 256) (hc : c < 2 ^ (8 - s)) : ((256 * m + y) / 2 ^ s) &&& (256 * M + c) = 256 * ((m / 2 ^ s) &&& M) + ((y / 2 ^ s) &&& c) := by
  apply Nat.eq_of_testBit_eq
  intro i
  have hc8 : c < 2 ^ 8 := Nat.lt_of_lt_of_le hc (Nat.pow_le_pow_right (by decide) (by omega))
  have hyc : (y / 2 ^ s) &&& c < 2 ^ 8 := Nat.lt_of_le_of_lt Nat.and_le_right hc8
  rw [Nat.testBit_and, show 256 * m + y = 2 ^ 8 * m + y from rfl, show 256 * M + c = 2 ^ 8 * M + c from rfl, show 256 * ((m / 2 ^ s) &&& M) + ((y / 2 ^ s) &&& c) = 2 ^ 8 * ((m / 2 ^ s) &&& M) + ((y / 2 ^ s) &&& c) from rfl, Nat.testBit_two_pow_mul_add _ hc8, Nat.testBit_two_pow_mul_add _ hyc, Nat.testBit_div_two_pow, Nat.testBit_two_pow_mul_add _ hy]
  by_cases q : i < 8
  · rw [if_pos q, if_pos q, Nat.testBit_and, Nat.testBit_div_two_pow]
    by_cases g : s + i < 8
    · rw [if_pos (by omega)]
    · have z : c.testBit i = false := Nat.testBit_lt_two_pow (Nat.lt_of_lt_of_le hc (Nat.pow_le_pow_right (by decide) (by omega)))
      rw [z, Bool.and_false, Bool.and_false]
  · rw [if_neg q, if_neg q, if_neg (by omega), Nat.testBit_and, Nat.testBit_div_two_pow]
    congr 2; omega
def a1 (y : Nat) : Nat := y - (y / 2 ^ 1 &&& 85)
def b1 (y : Nat) : Nat := (y &&& 51) + (y / 2 ^ 2 &&& 51)
def c1 (y : Nat) : Nat := (y + y / 2 ^ 4) % 16
theorem vB_a : ∀ l : List Nat, (∀ y, y ∈ l → y < 256) → vB l - (vB l / 2 ^ 1 &&& mB 85 l.length) = vB (l.map a1) ∧ (vB l / 2 ^ 1 &&& mB 85 l.length) ≤ vB l := by
  intro l
  induction l with
  | nil => intro _; exact ⟨rfl, Nat.and_le_right⟩
  | cons y l ih =>
    intro h
    obtain ⟨i1, i2⟩ := ih (fun z hz => h z (List.mem_cons_of_mem _ hz))
    have hy := h y (List.mem_cons_self ..)
    have e : vB (y :: l) / 2 ^ 1 &&& mB 85 (y :: l).length = 256 * (vB l / 2 ^ 1 &&& mB 85 l.length) + (y / 2 ^ 1 &&& 85) := and_shr (s := 1) (by decide) hy (by decide)
    have le : (y / 2 ^ 1 &&& 85) ≤ y := Nat.le_trans Nat.and_le_left (Nat.div_le_self _ _)
    rw [e]
    simp only [List.map, vB]
    rw [← i1]
    unfold a1
    omega
theorem vB_b : ∀ l : List Nat, (∀ y, y ∈ l → y < 256) → (vB l &&& mB 51 l.length) + (vB l / 2 ^ 2 &&& mB 51 l.length) = vB (l.map b1) := by
  intro l
  induction l with
  | nil => intro _; rfl
  | cons y l ih =>
    intro h
    have i1 := ih (fun z hz => h z (List.mem_cons_of_mem _ hz))
    have hy := h y (List.mem_cons_self ..)
    have e : vB (y :: l) / 2 ^ 2 &&& mB 51 (y :: l).length = 256 * (vB l / 2 ^ 2 &&& mB 51 l.length) + (y / 2 ^ 2 &&& 51) := and_shr (s := 2) (by decide) hy (by decide)
    have e2 : vB (y :: l) &&& mB 51 (y :: l).length = 256 * (vB l &&& mB 51 l.length) + (y &&& 51) := and_split hy (by decide)
    rw [e, e2]
    simp only [List.map, vB]
    rw [← i1]
    unfold b1
    omega
theorem vB_c : ∀ l : List Nat, (∀ y, y ∈ l → y % 16 ≤ 4 ∧ y / 16 ≤ 4) → (vB l + vB l / 2 ^ 4) &&& mB 15 l.length = vB (l.map c1) ∧ vB l % 16 ≤ 4 := by
  intro l
  induction l with
  | nil => intro _; exact ⟨rfl, by decide⟩
  | cons y l ih =>
    intro h
    obtain ⟨i1, i2⟩ := ih (fun z hz => h z (List.mem_cons_of_mem _ hz))
    have hy := h y (List.mem_cons_self ..)
    have s : vB (y :: l) + vB (y :: l) / 2 ^ 4 = 256 * (vB l + vB l / 2 ^ 4) + (16 * (vB l % 16) + y + y / 16) := by
      show 256 * vB l + y + (256 * vB l + y) / 16 = 256 * (vB l + vB l / 16) + (16 * (vB l % 16) + y + y / 16)
      omega
    have e : (16 * (vB l % 16) + y + y / 16) &&& 15 = (y + y / 16) % 16 := by
      rw [show (15 : Nat) = 2 ^ 4 - 1 from rfl, Nat.and_two_pow_sub_one_eq_mod]
      omega
    refine ⟨?_, ?_⟩
    · rw [s, show mB 15 (y :: l).length = 256 * mB 15 l.length + 15 from rfl, and_split (by omega) (by decide), i1, e]
      rfl
    · show (256 * vB l + y) % 16 ≤ 4
      omega
def p8 (y : Nat) : Nat := cntA 8 (fun j => y.testBit j)
set_option maxRecDepth 100000 in
theorem byte_ok : allN 256 (fun y => decide (a1 y < 256) && decide (b1 (a1 y) % 16 ≤ 4) && decide (b1 (a1 y) / 16 ≤ 4) && decide (c1 (b1 (a1 y)) = p8 y)) = true := by decide +kernel
theorem byte_f {y : Nat} (h : y < 256) : a1 y < 256 ∧ b1 (a1 y) % 16 ≤ 4 ∧ b1 (a1 y) / 16 ≤ 4 ∧ c1 (b1 (a1 y)) = p8 y := by
  have := allN_s byte_ok h
  simp only [Bool.and_eq_true, decide_eq_true_eq] at this
  exact ⟨this.1.1.1, this.1.1.2, this.1.2, this.2⟩
def bys : Nat → Nat → List Nat
  | 0, _ => []
  | k + 1, n => n % 256 :: bys k (n / 256)
theorem bys_len (k n : Nat) : (bys k n).length = k := by
  induction k generalizing n with
  | zero => rfl
  | succ k ih => simp only [bys, List.length_cons, ih]
theorem bys_lt (k n : Nat) : ∀ y, y ∈ bys k n → y < 256 := by
  induction k generalizing n with
  | zero => intro y h; exact absurd h (by simp [bys])
  | succ k ih =>
    intro y h
    rcases List.mem_cons.mp h with e | e
    · rw [e]; exact Nat.mod_lt _ (by decide)
    · exact ih _ y e
theorem bys_val : ∀ k n : Nat, n < 256 ^ k → vB (bys k n) = n := by
  intro k
  induction k with
  | zero => intro n h; simp at h; rw [h]; rfl
  | succ k ih =>
    intro n h
    have : n / 256 < 256 ^ k := Nat.div_lt_of_lt_mul (by rw [Nat.pow_succ, Nat.mul_comm] at h; exact h)
    show 256 * vB (bys k (n / 256)) + n % 256 = n
    rw [ih _ this]; omega
theorem cntA_split (P : Nat → Bool) (k : Nat) : cntA (8 + k) P = cntA 8 P + cntA k (fun i => P (8 + i)) := by
  induction k with
  | zero => rfl
  | succ k ih => rw [← Nat.add_assoc]; show cntA (8 + k) P + _ = cntA 8 P + (cntA k (fun i => P (8 + i)) + _); rw [ih]; dsimp only; omega
theorem cntA_cg {n : Nat} {P Q : Nat → Bool} (h : ∀ i, i < n → P i = Q i) : cntA n P = cntA n Q := by
  induction n with
  | zero => rfl
  | succ n ih => simp only [cntA]; rw [ih (fun i hi => h i (by omega)), h n (by omega)]
def sumL : List Nat → Nat
  | [] => 0
  | y :: l => y + sumL l
theorem cnt_bys : ∀ k n : Nat, cntA (8 * k) (fun j => n.testBit j) = sumL ((bys k n).map p8) := by
  intro k
  induction k with
  | zero => intro n; rfl
  | succ k ih =>
    intro n
    rw [show 8 * (k + 1) = 8 + 8 * k by omega, cntA_split]
    show _ = p8 (n % 256) + sumL ((bys k (n / 256)).map p8)
    rw [← ih (n / 256)]
    congr 1
    · refine cntA_cg (fun i hi => ?_)
      rw [show (256 : Nat) = 2 ^ 8 from rfl, Nat.testBit_mod_two_pow, decide_eq_true hi, Bool.true_and]
    · refine cntA_cg (fun i hi => ?_)
      rw [show (256 : Nat) = 2 ^ 8 from rfl, Nat.testBit_div_two_pow, Nat.add_comm 8 i]
theorem fold8 {p0 p1 p2 p3 p4 p5 p6 p7 c d e f : Nat} (h0 : p0 ≤ 8) (h1 : p1 ≤ 8) (h2 : p2 ≤ 8) (h3 : p3 ≤ 8) (h4 : p4 ≤ 8) (h5 : p5 ≤ 8) (h6 : p6 ≤ 8) (h7 : p7 ≤ 8) (hc : c = vB [p0, p1, p2, p3, p4, p5, p6, p7]) (hd : d = c + c / 2 ^ 8) (he : e = d + d / 2 ^ 16) (hf : f = e + e / 2 ^ 32) : f % 128 = p0 + (p1 + (p2 + (p3 + (p4 + (p5 + (p6 + (p7 + 0))))))) ∧ d < 2 ^ 62 ∧ e < 2 ^ 62 ∧ f < 2 ^ 62 := by
  have c1 : c / 2 ^ 8 = vB [p1, p2, p3, p4, p5, p6, p7] := by rw [hc]; simp only [vB]; omega
  have d1 : d = vB [p0 + p1, p1 + p2, p2 + p3, p3 + p4, p4 + p5, p5 + p6, p6 + p7, p7] := by rw [hd, c1, hc]; simp only [vB]; omega
  have d2 : d / 2 ^ 16 = vB [p2 + p3, p3 + p4, p4 + p5, p5 + p6, p6 + p7, p7] := by rw [d1]; simp only [vB]; omega
  have e1 : e = vB [p0 + p1 + (p2 + p3), p1 + p2 + (p3 + p4), p2 + p3 + (p4 + p5), p3 + p4 + (p5 + p6), p4 + p5 + (p6 + p7), p5 + p6 + p7, p6 + p7, p7] := by rw [he, d2, d1]; simp only [vB]; omega
  have e2 : e / 2 ^ 32 = vB [p4 + p5 + (p6 + p7), p5 + p6 + p7, p6 + p7, p7] := by rw [e1]; simp only [vB]; omega
  refine ⟨?_, ?_, ?_, ?_⟩
  · rw [hf, e2, e1]; simp only [vB]; omega
  · rw [d1]; simp only [vB]; omega
  · rw [e1]; simp only [vB]; omega
  · rw [hf, e2, e1]; simp only [vB]; omega
def sA (x : Int64) : Int64 := x - (((x.toUInt64 >>> ((1 : Int32).toInt64.toUInt64 &&& Int64.toUInt64 63)).toInt64) &&& (6148914691236517205 : Int64))
def sB (a : Int64) : Int64 := (a &&& (3689348814741910323 : Int64)) + (((a.toUInt64 >>> ((2 : Int32).toInt64.toUInt64 &&& Int64.toUInt64 63)).toInt64) &&& (3689348814741910323 : Int64))
def sC (b : Int64) : Int64 := (b + ((b.toUInt64 >>> ((4 : Int32).toInt64.toUInt64 &&& Int64.toUInt64 63)).toInt64)) &&& (1085102592571150095 : Int64)
def sD (c : Int64) : Int64 := c + ((c.toUInt64 >>> ((8 : Int32).toInt64.toUInt64 &&& Int64.toUInt64 63)).toInt64)
def sE (c : Int64) : Int64 := c + ((c.toUInt64 >>> ((16 : Int32).toInt64.toUInt64 &&& Int64.toUInt64 63)).toInt64)
def sF (c : Int64) : Int64 := c + ((c.toUInt64 >>> ((32 : Int32).toInt64.toUInt64 &&& Int64.toUInt64 63)).toInt64)
theorem bcL_eq (x : Int64) : (sF (sE (sD (sC (sB (sA x)))))).toInt32 &&& 127 = nI (cntA 64 (sb x)) := by
  rw [u_i32]
  congr 1
  have hx : u64 x < 256 ^ 8 := x.toBitVec.isLt
  have ev := bys_val 8 (u64 x) hx
  have ln := bys_len 8 (u64 x)
  have lt := bys_lt 8 (u64 x)
  have ec : cntA 64 (sb x) = sumL ((bys 8 (u64 x)).map p8) := by
    rw [← cnt_bys 8]
    exact cntA_cg (fun i hi => rfl)
  rw [ec]
  generalize hl : bys 8 (u64 x) = l at *
  obtain ⟨y0, y1, y2, y3, y4, y5, y6, y7, rfl⟩ : ∃ y0 y1 y2 y3 y4 y5 y6 y7, l = [y0, y1, y2, y3, y4, y5, y6, y7] := by
    rw [← hl]; exact ⟨_, _, _, _, _, _, _, _, rfl⟩
  clear hl ln
  have g : ∀ y, y ∈ [y0, y1, y2, y3, y4, y5, y6, y7] → a1 y < 256 ∧ b1 (a1 y) % 16 ≤ 4 ∧ b1 (a1 y) / 16 ≤ 4 ∧ c1 (b1 (a1 y)) = p8 y := fun y hy => byte_f (lt y hy)
  -- a
  have A := vB_a _ lt
  have mA : u64 (6148914691236517205 : Int64) = mB 85 8 := by decide +kernel
  have ua : u64 (sA x) = vB ([y0, y1, y2, y3, y4, y5, y6, y7].map a1) := by
    unfold sA
    rw [u_sub, u_and, u_shr x 1 1 (by decide), mA, ← ev]
    · exact A.1
    · rw [u_and, u_shr x 1 1 (by decide), mA, ← ev]; exact A.2
  -- b
  have ltA : ∀ y, y ∈ [y0, y1, y2, y3, y4, y5, y6, y7].map a1 → y < 256 := fun y hy => by
    obtain ⟨z, hz, rfl⟩ := List.mem_map.mp hy
    exact (g z hz).1
  have B := vB_b _ ltA
  have mBe : u64 (3689348814741910323 : Int64) = mB 51 8 := by decide +kernel
  have mlt : mB 51 8 < 2 ^ 62 := by decide +kernel
  have ub : u64 (sB (sA x)) = vB (([y0, y1, y2, y3, y4, y5, y6, y7].map a1).map b1) := by
    unfold sB
    rw [u_add, u_and, u_and, u_shr _ 2 2 (by decide), mBe, ua]
    · exact B
    · rw [u_and, u_and, mBe]
      have q1 : u64 (sA x) &&& mB 51 8 ≤ mB 51 8 := Nat.and_le_right
      have q2 : u64 ((sA x).toUInt64 >>> ((2 : Int32).toInt64.toUInt64 &&& Int64.toUInt64 63)).toInt64 &&& mB 51 8 ≤ mB 51 8 := Nat.and_le_right
      omega
  -- c
  have nbB : ∀ y, y ∈ ([y0, y1, y2, y3, y4, y5, y6, y7].map a1).map b1 → y % 16 ≤ 4 ∧ y / 16 ≤ 4 := fun y hy => by
    obtain ⟨z, hz, rfl⟩ := List.mem_map.mp hy
    obtain ⟨t, ht, rfl⟩ := List.mem_map.mp hz
    exact ⟨(g t ht).2.1, (g t ht).2.2.1⟩
  have CC := vB_c _ nbB
  have mC : u64 (1085102592571150095 : Int64) = mB 15 8 := by decide +kernel
  have uc : u64 (sC (sB (sA x))) = vB ((([y0, y1, y2, y3, y4, y5, y6, y7].map a1).map b1).map c1) := by
    unfold sC
    rw [u_and, u_add, u_shr _ 4 4 (by decide), mC, ub]
    · exact CC.1
    · rw [u_shr _ 4 4 (by decide), ub]
      have n0 := nbB _ (show b1 (a1 y0) ∈ _ by simp)
      have n1 := nbB _ (show b1 (a1 y1) ∈ _ by simp)
      have n2 := nbB _ (show b1 (a1 y2) ∈ _ by simp)
      have n3 := nbB _ (show b1 (a1 y3) ∈ _ by simp)
      have n4 := nbB _ (show b1 (a1 y4) ∈ _ by simp)
      have n5 := nbB _ (show b1 (a1 y5) ∈ _ by simp)
      have n6 := nbB _ (show b1 (a1 y6) ∈ _ by simp)
      have n7 := nbB _ (show b1 (a1 y7) ∈ _ by simp)
      simp only [List.map, vB]
      omega
  have e0 := (g y0 (by simp)).2.2.2
  have e1 := (g y1 (by simp)).2.2.2
  have e2 := (g y2 (by simp)).2.2.2
  have e3 := (g y3 (by simp)).2.2.2
  have e4 := (g y4 (by simp)).2.2.2
  have e5 := (g y5 (by simp)).2.2.2
  have e6 := (g y6 (by simp)).2.2.2
  have e7 := (g y7 (by simp)).2.2.2
  simp only [List.map] at uc ⊢
  rw [e0, e1, e2, e3, e4, e5, e6, e7] at uc
  have le : ∀ y, p8 y ≤ 8 := fun y => cntA_le 8 _
  obtain ⟨r1, r2, r3, r4⟩ := fold8 (le y0) (le y1) (le y2) (le y3) (le y4) (le y5) (le y6) (le y7) uc rfl rfl rfl
  have cb : u64 (sC (sB (sA x))) / 2 ^ 8 ≤ u64 (sC (sB (sA x))) := Nat.div_le_self _ _
  have ud : u64 (sD (sC (sB (sA x)))) = u64 (sC (sB (sA x))) + u64 (sC (sB (sA x))) / 2 ^ 8 := by
    unfold sD
    have h : u64 ((sC (sB (sA x))).toUInt64 >>> ((8 : Int32).toInt64.toUInt64 &&& Int64.toUInt64 63)).toInt64 = u64 (sC (sB (sA x))) / 2 ^ 8 := u_shr _ 8 8 (by decide)
    rw [u_add (by rw [h]; omega), h]
  rw [← ud] at r1 r2 r3 r4
  have ue : u64 (sE (sD (sC (sB (sA x))))) = u64 (sD (sC (sB (sA x)))) + u64 (sD (sC (sB (sA x)))) / 2 ^ 16 := by
    unfold sE
    have h : u64 ((sD (sC (sB (sA x)))).toUInt64 >>> ((16 : Int32).toInt64.toUInt64 &&& Int64.toUInt64 63)).toInt64 = u64 (sD (sC (sB (sA x)))) / 2 ^ 16 := u_shr _ 16 16 (by decide)
    rw [u_add (by rw [h]; omega), h]
  rw [← ue] at r1 r3 r4
  have uf : u64 (sF (sE (sD (sC (sB (sA x)))))) = u64 (sE (sD (sC (sB (sA x))))) + u64 (sE (sD (sC (sB (sA x))))) / 2 ^ 32 := by
    unfold sF
    have h : u64 ((sE (sD (sC (sB (sA x))))).toUInt64 >>> ((32 : Int32).toInt64.toUInt64 &&& Int64.toUInt64 63)).toInt64 = u64 (sE (sD (sC (sB (sA x))))) / 2 ^ 32 := u_shr _ 32 32 (by decide)
    rw [u_add (by rw [h]; omega), h]
  rw [uf, r1]
  rfl
theorem cnt_36 {n : Nat} (hn : n ≤ 64) {x : Int64} (h : ∀ i, i < 64 → n ≤ i → sb x i = false) : cntA 64 (sb x) = cntA n (sb x) := by
  have : ∀ m, n + m ≤ 64 → cntA (n + m) (sb x) = cntA n (sb x) := by
    intro m
    induction m with
    | zero => intro _; rfl
    | succ m ih =>
      intro hm
      rw [← Nat.add_assoc]
      show cntA (n + m) (sb x) + _ = _
      rw [h (n + m) (by omega) (by omega), ih (by omega)]; rfl
  have e := this (64 - n) (by omega)
  rw [show n + (64 - n) = 64 by omega] at e
  exact e
