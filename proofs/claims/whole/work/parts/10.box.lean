/-! sums of whole numbers -/
def sumZ (f : Nat → Int) : Nat → Int
  | 0 => 0
  | n + 1 => sumZ f n + f n
theorem sumZ_congr {f g : Nat → Int} {n : Nat} (h : ∀ i, i < n → f i = g i) : sumZ f n = sumZ g n := by
  induction n with
  | zero => rfl
  | succ n ih => simp only [sumZ]; rw [ih (fun i hi => h i (by omega)), h n (by omega)]
theorem sumZ_add (f g : Nat → Int) (n : Nat) : sumZ (fun i => f i + g i) n = sumZ f n + sumZ g n := by
  induction n with
  | zero => rfl
  | succ n ih => simp only [sumZ]; rw [ih]; omega
theorem sumZ_sub (f g : Nat → Int) (n : Nat) : sumZ (fun i => f i - g i) n = sumZ f n - sumZ g n := by
  induction n with
  | zero => rfl
  | succ n ih => simp only [sumZ]; rw [ih]; omega
theorem sumZ_bd {f : Nat → Int} {n : Nat} {a b : Int} (h : ∀ i, i < n → a ≤ f i ∧ f i ≤ b) : (n : Int) * a ≤ sumZ f n ∧ sumZ f n ≤ (n : Int) * b := by
  induction n with
  | zero => simp [sumZ]
  | succ n ih =>
    have h1 := ih (fun i hi => h i (by omega))
    have h2 := h n (by omega)
    simp only [sumZ]
    have e1 : ((n + 1 : Nat) : Int) * a = (n : Int) * a + a := by rw [Int.natCast_add, Int.add_mul]; simp
    have e2 : ((n + 1 : Nat) : Int) * b = (n : Int) * b + b := by rw [Int.natCast_add, Int.add_mul]; simp
    rw [e1, e2]; omega
theorem sumZ_le {f g : Nat → Int} {n : Nat} (h : ∀ i, i < n → f i ≤ g i) : sumZ f n ≤ sumZ g n := by
  induction n with
  | zero => exact Int.le_refl _
  | succ n ih =>
    have h1 := ih (fun i hi => h i (by omega))
    have h2 := h n (by omega)
    simp only [sumZ]; omega
theorem sumZ_0 (n : Nat) : sumZ (fun _ => 0) n = 0 := by
  induction n with
  | zero => rfl
  | succ n ih => simp only [sumZ]; rw [ih]; rfl
theorem sumZ_nn {f : Nat → Int} {n : Nat} (h : ∀ i, i < n → 0 ≤ f i) : 0 ≤ sumZ f n := by
  have := sumZ_le (f := fun _ => 0) (g := f) h
  rw [sumZ_0] at this; exact this
theorem sumZ_z {f : Nat → Int} {n : Nat} (h : ∀ i, i < n → 0 ≤ f i) (e : sumZ f n = 0) : ∀ i, i < n → f i = 0 := by
  induction n with
  | zero => intro i hi; exact absurd hi (Nat.not_lt_zero i)
  | succ n ih =>
    have h1 := sumZ_nn (fun i hi => h i (Nat.lt_succ_of_lt hi))
    have h2 := h n (by omega)
    simp only [sumZ] at e
    intro i hi
    rcases Nat.lt_or_ge i n with q | q
    · exact ih (fun i hi => h i (by omega)) (by omega) i q
    · have e2 : i = n := by omega
      rw [e2]; omega
theorem sumZ_one {f g : Nat → Int} {n k : Nat} (hk : k < n) (h : ∀ i, i < n → i ≠ k → f i = g i) : sumZ f n = sumZ g n + (f k - g k) := by
  induction n with
  | zero => exact absurd hk (Nat.not_lt_zero k)
  | succ n ih =>
    simp only [sumZ]
    rcases Nat.lt_or_ge k n with q | q
    · rw [ih q (fun i hi hne => h i (by omega) hne), h n (by omega) (by omega)]; omega
    · have e : k = n := by omega
      rw [sumZ_congr (fun i hi => h i (by omega) (by omega)), e]; omega
/-! a long as a set of bits -/
def sb (s : Int64) (c : Nat) : Bool := s.toBitVec.getLsbD c
theorem zb_tb (n : Nat) : (lN n).toBitVec = BitVec.ofNat 64 n := rfl
theorem zb_c : ∀ k, k < 64 → ((nI k).toInt64 &&& 63) = lN k := by decide +kernel
theorem zb_sm : ∀ k, k < 64 → (BitVec.ofNat 64 k).smod 64 = BitVec.ofNat 64 k := by decide +kernel
theorem zb_ext {a b : Int64} (h : ∀ i, i < 64 → sb a i = sb b i) : a = b := Int64.toBitVec_inj.mp (BitVec.eq_of_getLsbD_eq h)
theorem zb_shr (s : Int64) {c : Nat} (hc : c < 64) : (s >>> ((nI c).toInt64 &&& 63)).toBitVec = s.toBitVec.sshiftRight c := by
  rw [zb_c c hc]
  show s.toBitVec.sshiftRight' ((lN c).toBitVec.smod 64) = _
  rw [zb_tb, zb_sm c hc, BitVec.sshiftRight_eq', BitVec.toNat_ofNat, Nat.mod_eq_of_lt (by omega)]
theorem zb_and1 (x : Int64) : (x &&& 1) = 1 ↔ x.toBitVec.getLsbD 0 = true := by
  rw [← Int64.toBitVec_inj, Int64.toBitVec_and, Int64.toBitVec_one, BitVec.and_one_eq_setWidth_ofBool_getLsbD]
  cases x.toBitVec.getLsbD 0 <;> decide
theorem zb_and1' (x : Int64) : (x &&& 1) = if x.toBitVec.getLsbD 0 = true then 1 else 0 := by
  by_cases h : x.toBitVec.getLsbD 0 = true
  · rw [if_pos h]; exact (zb_and1 x).mpr h
  · rw [if_neg h, ← Int64.toBitVec_inj, Int64.toBitVec_and, Int64.toBitVec_one, BitVec.and_one_eq_setWidth_ofBool_getLsbD]
    revert h
    cases x.toBitVec.getLsbD 0 <;> decide
theorem zb_bit (s : Int64) {c : Nat} (hc : c < 64) : (s >>> ((nI c).toInt64 &&& 63)) &&& 1 = 1 ↔ sb s c = true := by
  rw [zb_and1, zb_shr s hc, BitVec.getLsbD_sshiftRight]
  simp [sb, hc]
theorem zb_bit' (s : Int64) {c : Nat} (hc : c < 64) : (s >>> ((nI c).toInt64 &&& 63)) &&& 1 = if sb s c = true then 1 else 0 := by
  rw [zb_and1', zb_shr s hc, BitVec.getLsbD_sshiftRight]
  simp [sb, hc]
theorem zb_shl (n : Nat) {k : Nat} (hk : k < 64) : lN n <<< ((nI k).toInt64 &&& 63) = lN (n * 2 ^ k) := by
  rw [zb_c k hk]
  apply Int64.toBitVec_inj.mp
  rw [Int64.toBitVec_shiftLeft, zb_tb, zb_tb, zb_tb, zb_sm k hk]
  apply BitVec.eq_of_toNat_eq
  rw [BitVec.shiftLeft_eq', BitVec.toNat_shiftLeft, BitVec.toNat_ofNat, BitVec.toNat_ofNat, BitVec.toNat_ofNat, Nat.mod_eq_of_lt (show k < 2 ^ 64 by omega), Nat.shiftLeft_eq, Nat.mul_mod, Nat.mod_mod, ← Nat.mul_mod]
theorem zb_one {k i : Nat} (hk : k < 64) (hi : i < 64) : sb ((1 : Int64) <<< ((nI k).toInt64 &&& 63)) i = decide (i = k) := by
  have e : ((1 : Int64) <<< ((nI k).toInt64 &&& 63)) = lN (1 * 2 ^ k) := zb_shl 1 hk
  rw [e, Nat.one_mul]
  show (BitVec.ofNat 64 (2 ^ k)).getLsbD i = _
  rw [BitVec.getLsbD_ofNat, Nat.testBit_two_pow]
  simp [hi, eq_comm]
theorem zb_every {n i : Nat} (hn : n < 63) (hi : i < 64) : sb (((1 : Int64) <<< ((nI n).toInt64 &&& 63)) - 1) i = decide (i < n) := by
  have e : ((1 : Int64) <<< ((nI n).toInt64 &&& 63)) = lN (1 * 2 ^ n) := zb_shl 1 (by omega)
  have p : 1 ≤ 2 ^ n := Nat.one_le_two_pow
  have e2 : lN (2 ^ n) - (1 : Int64) = lN (2 ^ n - 1) := lN_sub (b := 1) p
  rw [e, Nat.one_mul, e2]
  show (BitVec.ofNat 64 (2 ^ n - 1)).getLsbD i = _
  rw [BitVec.getLsbD_ofNat, Nat.testBit_two_pow_sub_one]
  simp [hi]
theorem zb_or (a b : Int64) (i : Nat) : sb (a ||| b) i = (sb a i || sb b i) := by unfold sb; rw [Int64.toBitVec_or, BitVec.getLsbD_or]
theorem zb_and (a b : Int64) (i : Nat) : sb (a &&& b) i = (sb a i && sb b i) := by unfold sb; rw [Int64.toBitVec_and, BitVec.getLsbD_and]
theorem zb_xor (a b : Int64) (i : Nat) : sb (a ^^^ b) i = (sb a i ^^ sb b i) := by unfold sb; rw [Int64.toBitVec_xor, BitVec.getLsbD_xor]
theorem zb_m1 {i : Nat} (hi : i < 64) : sb (-1) i = true := by
  show (-1#64).getLsbD i = true
  rw [BitVec.neg_one_eq_allOnes, BitVec.getLsbD_allOnes]; exact decide_eq_true hi
theorem zb_0 (i : Nat) : sb 0 i = false := by
  show (0#64).getLsbD i = false
  exact BitVec.getLsbD_zero
/-! the CELLS, as the class has them -/
def rv (s : Nat) : Nat := if s % 2 = 0 then s + 1 else s - 1
def sc (ru : Nat → Int32) (kd k p : Nat) : Int :=
  if kd = 2 ∧ (ru 5).toInt < (ru k).toInt + (if 0 < kd ∧ p % 2 = 1 then (ru 4).toInt else 0) then (ru 5).toInt else (ru k).toInt + (if 0 < kd ∧ p % 2 = 1 then (ru 4).toInt else 0)
def cwA (ru pl : Nat → Int32) (kd c s : Nat) : Int := sc ru kd (s / 2) ((pl (3 * c + s / 2)).toNatClampNeg - s % 2)
def ruOK (ru : Nat → Int32) : Prop := (∀ k, k < 5 → 0 ≤ (ru k).toInt ∧ (ru k).toInt ≤ 9) ∧ 1 ≤ (ru 5).toInt ∧ (ru 5).toInt ≤ 9 ∧ ∃ kd, kd ≤ 2 ∧ ru 6 = nI kd
def grOK (n : Nat) (be pl : Nat → Int32) : Prop := 1 ≤ n ∧ n ≤ 36 ∧ ∀ c, c < n → (∀ k, k < 3 → ∃ p, p < 4 ∧ pl (3 * c + k) = nI p) ∧ ∀ s, s < 6 → be (6 * c + s) = -1 ∨ ∃ d, d < n ∧ d ≠ c ∧ be (6 * c + s) = nI d ∧ be (6 * d + rv s) = nI c ∧ s % 2 ≤ (pl (3 * c + s / 2)).toNatClampNeg ∧ (pl (3 * c + s / 2)).toNatClampNeg - s % 2 = (pl (3 * d + s / 2)).toNatClampNeg - rv s % 2
def ownA (pr ru be : Nat → Int32) (c : Nat) : Int := (pr c).toInt + sumZ (fun s => if be (6 * c + s) = -1 then (ru 3).toInt else 0) 6
def grwA (ru pl be : Nat → Int32) (S : Nat → Bool) (c : Nat) : Int := sumZ (fun s => if be (6 * c + s) = -1 then 0 else if S (be (6 * c + s)).toNatClampNeg = true then -cwA ru pl (ru 6).toNatClampNeg c s else cwA ru pl (ru 6).toNatClampNeg c s) 6
def skcA (ru pl be : Nat → Int32) (S : Nat → Bool) (c : Nat) : Int := sumZ (fun s => if be (6 * c + s) = -1 then (ru 3).toInt else if S (be (6 * c + s)).toNatClampNeg = true then 0 else cwA ru pl (ru 6).toNatClampNeg c s) 6
def sknA (n : Nat) (ru pl be : Nat → Int32) (S : Nat → Bool) : Int := sumZ (fun c => if S c = true then skcA ru pl be S c else 0) n
def prsA (n : Nat) (pr : Nat → Int32) (S : Nat → Bool) : Int := sumZ (fun c => if S c = true then (pr c).toInt else 0) n
def cntA (n : Nat) (P : Nat → Bool) : Nat := match n with
  | 0 => 0
  | n + 1 => cntA n P + (if P n = true then 1 else 0)
theorem cntA_le (n : Nat) (P : Nat → Bool) : cntA n P ≤ n := by
  induction n with
  | zero => exact Nat.le_refl _
  | succ n ih => simp only [cntA]; split <;> omega
theorem sc_bd {ru : Nat → Int32} (h : ruOK ru) {kd k : Nat} (hk : k < 3) (p : Nat) : 0 ≤ sc ru kd k p ∧ sc ru kd k p ≤ 18 := by
  have h1 := h.1 k (by omega)
  have h2 := h.1 4 (by omega)
  have h3 := h.2.1
  have h4 := h.2.2.1
  unfold sc
  (repeat' split) <;> omega
theorem cwA_bd {ru : Nat → Int32} (h : ruOK ru) (pl : Nat → Int32) (kd c : Nat) {s : Nat} (hs : s < 6) : 0 ≤ cwA ru pl kd c s ∧ cwA ru pl kd c s ≤ 18 := sc_bd h (by omega) _
