/-! loops that count up, sums, small numbers -/
theorem up_loop {P : Nat → Prop} (n : Nat) (hend : P n) (hstep : ∀ k, k < n → P (k + 1) → P k) (i : Nat) (hi : i ≤ n) : P i := by
  obtain ⟨d, hd⟩ : ∃ d, i + d = n := ⟨n - i, by omega⟩
  induction d generalizing i with
  | zero =>
    have e : i = n := by omega
    rw [e]; exact hend
  | succ d ih => exact hstep i (by omega) (ih (i + 1) (by omega) (by omega))
theorem g_monoi {S : Type} {l : Launch} {y : MethodName} {wsy : List Cond} {rm : Room} {D : va_G} {tys : List (ClassId × FieldType)} {mc ms : Nat} {av : List Value} {wc : va_W} {post post2 : Int32 → S → Prop} {w1 : S → va_W} (h : gMi l y wsy rm D tys mc ms av wc post w1) (hp : ∀ r u, post r u → post2 r u) : gMi l y wsy rm D tys mc ms av wc post2 w1 := by
  intro sz p e ha hc hk s m args below hf hS hP hT
  obtain ⟨n, o, h1, h2, h3, ⟨⟨r, u, e1, e2, e3⟩, e4⟩, h5⟩ := h sz p e ha hc hk s m args below hf hS hP hT
  exact ⟨n, o, h1, h2, h3, ⟨⟨r, u, e1, hp r u e2, e3⟩, e4⟩, h5⟩
theorem g_monol {S : Type} {l : Launch} {y : MethodName} {wsy : List Cond} {rm : Room} {D : va_G} {tys : List (ClassId × FieldType)} {mc ms : Nat} {av : List Value} {wc : va_W} {post post2 : Int64 → S → Prop} {w1 : S → va_W} (h : gMl l y wsy rm D tys mc ms av wc post w1) (hp : ∀ r u, post r u → post2 r u) : gMl l y wsy rm D tys mc ms av wc post2 w1 := by
  intro sz p e ha hc hk s m args below hf hS hP hT
  obtain ⟨n, o, h1, h2, h3, ⟨⟨r, u, e1, e2, e3⟩, e4⟩, h5⟩ := h sz p e ha hc hk s m args below hf hS hP hT
  exact ⟨n, o, h1, h2, h3, ⟨⟨r, u, e1, hp r u e2, e3⟩, e4⟩, h5⟩
theorem g_monov {S : Type} {l : Launch} {y : MethodName} {wsy : List Cond} {rm : Room} {D : va_G} {tys : List (ClassId × FieldType)} {mc ms : Nat} {av : List Value} {wc : va_W} {post post2 : S → Prop} {w1 : S → va_W} (h : gMv l y wsy rm D tys mc ms av wc post w1) (hp : ∀ u, post u → post2 u) : gMv l y wsy rm D tys mc ms av wc post2 w1 := by
  intro sz p e ha hc hk s m args below hf hS hP hT
  obtain ⟨n, o, h1, h2, h3, ⟨⟨u, e1, e2, e3⟩, e4⟩, h5⟩ := h sz p e ha hc hk s m args below hf hS hP hT
  exact ⟨n, o, h1, h2, h3, ⟨⟨u, e1, hp u e2, e3⟩, e4⟩, h5⟩
def iI (z : Int) : Int32 := Int32.ofInt z
def lI (z : Int) : Int64 := Int64.ofInt z
theorem iI_nI (n : Nat) : iI (n : Int) = nI n := Int32.ofInt_eq_ofNat
theorem iI_add (a b : Int) : iI a + iI b = iI (a + b) := (Int32.ofInt_add a b).symm
theorem iI_sub (a b : Int) : iI a - iI b = iI (a - b) := (Int32.ofInt_sub a b).symm
theorem iI_mul (a b : Int) : iI a * iI b = iI (a * b) := (Int32.ofInt_mul a b).symm
theorem iI_neg (a : Int) : -iI a = iI (-a) := (Int32.ofInt_neg a).symm
theorem iI_toInt (x : Int32) : iI x.toInt = x := Int32.ofInt_toInt x
theorem toInt_iI {z : Int} (h1 : -2147483648 ≤ z) (h2 : z < 2147483648) : (iI z).toInt = z := Int32.toInt_ofInt_of_le (by omega) (by omega)
theorem lI_add (a b : Int) : lI a + lI b = lI (a + b) := (Int64.ofInt_add a b).symm
theorem lI_sub (a b : Int) : lI a - lI b = lI (a - b) := (Int64.ofInt_sub a b).symm
theorem lI_mul (a b : Int) : lI a * lI b = lI (a * b) := (Int64.ofInt_mul a b).symm
theorem lI_neg (a : Int) : -lI a = lI (-a) := (Int64.ofInt_neg a).symm
theorem lI_toInt (x : Int64) : lI x.toInt = x := Int64.ofInt_toInt x
theorem toInt_lI {z : Int} (h1 : -9223372036854775808 ≤ z) (h2 : z < 9223372036854775808) : (lI z).toInt = z := Int64.toInt_ofInt_of_le (by omega) (by omega)
theorem iI_long {z : Int} (h1 : -2147483648 ≤ z) (h2 : z < 2147483648) : (iI z).toInt64 = lI z := by
  rw [← Int64.toInt_inj, Int32.toInt_toInt64, toInt_iI h1 h2, toInt_lI (by omega) (by omega)]
theorem i2l_lI (x : Int32) : x.toInt64 = lI x.toInt := by
  have h1 := Int32.le_toInt x
  have h2 := Int32.toInt_lt x
  rw [← Int64.toInt_inj, Int32.toInt_toInt64, toInt_lI (by omega) (by omega)]
theorem toInt_add {x y : Int32} (h1 : -2147483648 ≤ x.toInt + y.toInt) (h2 : x.toInt + y.toInt < 2147483648) : (x + y).toInt = x.toInt + y.toInt := by
  rw [← iI_toInt x, ← iI_toInt y, iI_add, toInt_iI h1 h2, iI_toInt, iI_toInt]
theorem toInt_sub {x y : Int32} (h1 : -2147483648 ≤ x.toInt - y.toInt) (h2 : x.toInt - y.toInt < 2147483648) : (x - y).toInt = x.toInt - y.toInt := by
  rw [← iI_toInt x, ← iI_toInt y, iI_sub, toInt_iI h1 h2, iI_toInt, iI_toInt]
theorem toInt_neg {x : Int32} (h1 : -2147483647 ≤ x.toInt) : (-x).toInt = -x.toInt := by
  have h2 := Int32.toInt_lt x
  rw [← iI_toInt x, iI_neg, toInt_iI (by omega) (by omega), iI_toInt]
theorem toInt_mul {x y : Int32} (h1 : -2147483648 ≤ x.toInt * y.toInt) (h2 : x.toInt * y.toInt < 2147483648) : (x * y).toInt = x.toInt * y.toInt := by
  rw [← iI_toInt x, ← iI_toInt y, iI_mul, toInt_iI h1 h2, iI_toInt, iI_toInt]
theorem vp_in_cl {x : Int32} {n : Nat} (h : vp_in x n) (hn : n < 2 ^ 31) : x.toNatClampNeg < n ∧ x = nI x.toNatClampNeg := by
  obtain ⟨j, hj, rfl⟩ := vp_in_of h hn
  rw [nI_clamp (by omega)]
  exact ⟨hj, rfl⟩
theorem upd_s (f : Nat → Int32) (k : Nat) (x : Int32) : upd f k x k = x := by simp [upd]
theorem upd_n (f : Nat → Int32) {k j : Nat} (x : Int32) (h : j ≠ k) : upd f k x j = f j := by simp [upd, h]
theorem updL_s (f : Nat → Int64) (k : Nat) (x : Int64) : vp_updL f k x k = x := by simp [vp_updL]
theorem updL_n (f : Nat → Int64) {k j : Nat} (x : Int64) (h : j ≠ k) : vp_updL f k x j = f j := by simp [vp_updL, h]
/-- sums of machine numbers -/
def sumI (f : Nat → Int32) : Nat → Int32
  | 0 => 0
  | n + 1 => sumI f n + f n
def sum2 (t : Nat → Nat → Int32) (w h : Nat) : Int32 := sumI (fun y => sumI (t y) w) h
theorem sumI_congr {f g : Nat → Int32} {n : Nat} (h : ∀ i, i < n → f i = g i) : sumI f n = sumI g n := by
  induction n with
  | zero => rfl
  | succ n ih => simp only [sumI]; rw [ih (fun i hi => h i (by omega)), h n (by omega)]
theorem sum2_congr {t u : Nat → Nat → Int32} {w h : Nat} (e : ∀ y, y < h → ∀ x, x < w → t y x = u y x) : sum2 t w h = sum2 u w h :=
  sumI_congr (fun y hy => sumI_congr (fun x hx => e y hy x hx))
