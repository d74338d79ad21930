/-! the reference's way through the box: its pictures -/
def kdN (ru : Nat → Int32) : Nat := (ru 6).toNatClampNeg
def ocM (X Y Z w0 w1 w2 : Nat) (ru pr : Nat → Int32) (more : Int) (k : Nat) : Int := (pr (kcell X Y Z w0 w1 w2 k)).toInt + more + (ru 3).toInt * outsZ X Y Z (kcell X Y Z w0 w1 w2 k)
def fqM (X Y Z w0 w1 w2 : Nat) (ru : Nat → Int32) (q k : Nat) : Int := if 0 < pkQ (bxD X Y Z w0) (bxD X Y Z w1) q k then sc ru (kdN ru) (w3 w0 w1 w2 q) (pkQ (bxD X Y Z w0) (bxD X Y Z w1) q k - 1) else 0
def bqM (X Y Z w0 w1 : Nat) (q : Nat) : Nat := bkQ (bxD X Y Z w0) (bxD X Y Z w1) q
def kpM (X Y Z w0 w1 : Nat) : Nat := bxD X Y Z w0 * bxD X Y Z w1
def vM (X Y Z w0 w1 w2 : Nat) (ru pr : Nat → Int32) (more be : Int) (k : Nat) (s : Int64) : Int := dV (ocM X Y Z w0 w1 w2 ru pr more) (bqM X Y Z w0 w1) (fqM X Y Z w0 w1 w2 ru) be k (dT (kcell X Y Z w0 w1 w2) s)
def rM (X Y Z w0 w1 w2 : Nat) (s : Int64) (k : Nat) : Nat := rowK (kpM X Y Z w0 w1) (dT (kcell X Y Z w0 w1 w2) s) k
def tM (X Y Z w0 w1 w2 : Nat) (s : Int64) (k : Nat) : Nat := if dT (kcell X Y Z w0 w1 w2) s k = true then 1 else 0
def cM (X Y Z w0 w1 w2 : Nat) (s : Int64) (k : Nat) : Nat := 2 * rM X Y Z w0 w1 w2 s k + tM X Y Z w0 w1 w2 s k
def vdM (X Y Z w0 w1 w2 : Nat) (hd : Nat → Int32) (k : Nat) (s : Int64) : Prop := vdK (kcell X Y Z w0 w1 w2) hd k s
def dpOK (X Y Z w0 w1 w2 : Nat) (ru pr hd : Nat → Int32) (more be : Int) (k : Nat) (val st tm : Nat → Int64) : Prop := ∀ r, r < 2 ^ kpM X Y Z w0 w1 → smry (fun s => vdM X Y Z w0 w1 w2 hd k s ∧ rM X Y Z w0 w1 w2 s k = r) (vM X Y Z w0 w1 w2 ru pr more be k) (val r) (st r) (tm r)
def dpN (X Y Z w0 w1 w2 : Nat) (ru pr hd : Nat → Int32) (more be : Int) (k m : Nat) (val st tm : Nat → Int64) : Prop := ∀ t, t < 2 ^ kpM X Y Z w0 w1 → smry (fun s => vdM X Y Z w0 w1 w2 hd (k + 1) s ∧ rM X Y Z w0 w1 w2 s (k + 1) = t ∧ cM X Y Z w0 w1 w2 s k < m) (vM X Y Z w0 w1 w2 ru pr more be (k + 1)) (val t) (st t) (tm t)
def dpF (X Y Z w0 w1 w2 : Nat) (ru pr hd : Nat → Int32) (more be : Int) (m : Nat) (val st tm : Int64) : Prop := smry (fun s => vdM X Y Z w0 w1 w2 hd (X * Y * Z) s ∧ rM X Y Z w0 w1 w2 s (X * Y * Z) < m) (vM X Y Z w0 w1 w2 ru pr more be (X * Y * Z)) val st tm
theorem fqM_bd {X Y Z w0 w1 w2 : Nat} {ru : Nat → Int32} (hr : ruOK ru) (hw : prm w0 w1 w2) {q : Nat} (hq : q < 3) (k : Nat) : 0 ≤ fqM X Y Z w0 w1 w2 ru q k ∧ fqM X Y Z w0 w1 w2 ru q k ≤ 18 := by
  obtain ⟨g1, g2, g3, _⟩ := hw
  have h3 : w3 w0 w1 w2 q < 3 := by unfold w3; (repeat' split) <;> omega
  unfold fqM; split
  · exact sc_bd hr h3 _
  · omega
theorem ocM_bd {X Y Z w0 w1 w2 : Nat} {ru pr : Nat → Int32} {more : Int} (hd : dimOK X Y Z) (hw : prm w0 w1 w2) (hr : ruOK ru) (hp : prOK (X * Y * Z) pr) (h1 : -60 ≤ more) (h2 : more ≤ 60) {k : Nat} (hk : k < X * Y * Z) : -80 ≤ ocM X Y Z w0 w1 w2 ru pr more k ∧ ocM X Y Z w0 w1 w2 ru pr more k ≤ 134 := by
  have a := ((geo_f3 hd hw).2 k hk).1
  have b := hp _ a
  have c := outsZ_bd X Y Z (kcell X Y Z w0 w1 w2 k)
  have d := hr.1 3 (by omega)
  have e1 : 0 ≤ (ru 3).toInt * outsZ X Y Z (kcell X Y Z w0 w1 w2 k) := Int.mul_nonneg d.1 c.1
  have e2 : (ru 3).toInt * outsZ X Y Z (kcell X Y Z w0 w1 w2 k) ≤ 9 * 6 := Int.mul_le_mul d.2 c.2 c.1 (by decide)
  unfold ocM; omega
theorem dadM_bd {X Y Z w0 w1 w2 : Nat} {ru pr : Nat → Int32} {more : Int} (hd : dimOK X Y Z) (hw : prm w0 w1 w2) (hr : ruOK ru) (hp : prOK (X * Y * Z) pr) (h1 : -60 ≤ more) (h2 : more ≤ 60) {k : Nat} (hk : k < X * Y * Z) (T : Nat → Bool) : -80 ≤ dad (ocM X Y Z w0 w1 w2 ru pr more) (bqM X Y Z w0 w1) (fqM X Y Z w0 w1 w2 ru) k T ∧ dad (ocM X Y Z w0 w1 w2 ru pr more) (bqM X Y Z w0 w1) (fqM X Y Z w0 w1 w2 ru) k T ≤ 188 := by
  have a := ocM_bd (w0 := w0) (w1 := w1) (w2 := w2) hd hw hr hp h1 h2 hk
  have b := sumZ_bd (f := fun q => if T (k - bqM X Y Z w0 w1 q) = T k then (0 : Int) else fqM X Y Z w0 w1 w2 ru q k) (n := 3) (a := 0) (b := 18) (fun q hq => by
    have := fqM_bd (X := X) (Y := Y) (Z := Z) hr hw hq k
    split <;> omega)
  unfold dad; split <;> omega
theorem vM_bd {X Y Z w0 w1 w2 : Nat} {ru pr : Nat → Int32} {more be : Int} (hd : dimOK X Y Z) (hw : prm w0 w1 w2) (hr : ruOK ru) (hp : prOK (X * Y * Z) pr) (h1 : -60 ≤ more) (h2 : more ≤ 60) (b1 : -1 ≤ be) (b2 : be ≤ 1) {k : Nat} (hk : k ≤ X * Y * Z) : wBd (vM X Y Z w0 w1 w2 ru pr more be k) := by
  intro s
  have hV := hd.2.2.2.2.2.2
  have a := sumZ_bd (f := fun j => dad (ocM X Y Z w0 w1 w2 ru pr more) (bqM X Y Z w0 w1) (fqM X Y Z w0 w1 w2 ru) j (dT (kcell X Y Z w0 w1 w2) s)) (n := k) (a := -80) (b := 188) (fun j hj => dadM_bd hd hw hr hp h1 h2 (by omega) _)
  have b := sumZ_bd (f := fun j => if dT (kcell X Y Z w0 w1 w2) s j = true then (1 : Int) else 0) (n := k) (a := 0) (b := 1) (fun j hj => by split <;> omega)
  have c : be = -1 ∨ be = 0 ∨ be = 1 := by omega
  unfold vM dV dE dC
  rcases c with c | c | c <;> rw [c] <;> omega
/-- the reference's own sum, by the row -/
def adZ (X Y Z w0 w1 w2 : Nat) (ru pr : Nat → Int32) (more : Int) (k ro : Nat) (b : Bool) : Int := (if b = true then ocM X Y Z w0 w1 w2 ru pr more k else 0) + sumZ (fun q => if ro.testBit (bqM X Y Z w0 w1 q - 1) = b then 0 else fqM X Y Z w0 w1 w2 ru q k) 3
theorem adZ_eq {X Y Z w0 w1 w2 : Nat} {ru pr : Nat → Int32} {more : Int} (hd : dimOK X Y Z) (hw : prm w0 w1 w2) {k : Nat} (hk : k < X * Y * Z) (T : Nat → Bool) : adZ X Y Z w0 w1 w2 ru pr more k (rowK (kpM X Y Z w0 w1) T k) (T k) = dad (ocM X Y Z w0 w1 w2 ru pr more) (bqM X Y Z w0 w1) (fqM X Y Z w0 w1 w2 ru) k T := by
  unfold adZ dad
  congr 1
  refine sumZ_congr (fun q hq => ?_)
  obtain ⟨_, _, _, _, _, a6⟩ := (geo_f3 hd hw).2 k hk
  obtain ⟨c1, c2⟩ := a6 q hq
  have d0 := bxD_le hd w0
  have d1 := bxD_le hd w1
  by_cases p : 0 < pkQ (bxD X Y Z w0) (bxD X Y Z w1) q k
  · have c3 := (c2 p).1
    have hb : 1 ≤ bkQ (bxD X Y Z w0) (bxD X Y Z w1) q ∧ bkQ (bxD X Y Z w0) (bxD X Y Z w1) q ≤ bxD X Y Z w0 * bxD X Y Z w1 := by
      have m1 : bxD X Y Z w0 * 1 ≤ bxD X Y Z w0 * bxD X Y Z w1 := Nat.mul_le_mul (Nat.le_refl _) d1.1
      unfold bkQ; (repeat' split) <;> omega
    have hx : bqM X Y Z w0 w1 q = bkQ (bxD X Y Z w0) (bxD X Y Z w1) q := rfl
    rw [rowK_bit _ T k (bqM X Y Z w0 w1 q - 1) (by rw [hx]; unfold kpM; omega), decide_eq_true (by rw [hx]; omega), Bool.true_and, show k - 1 - (bqM X Y Z w0 w1 q - 1) = k - bqM X Y Z w0 w1 q by rw [hx]; omega]
  · have z : fqM X Y Z w0 w1 w2 ru q k = 0 := if_neg p
    rw [z]; split <;> split <;> rfl
theorem vM_succ {X Y Z w0 w1 w2 : Nat} {ru pr : Nat → Int32} {more be : Int} (hd : dimOK X Y Z) (hw : prm w0 w1 w2) {k : Nat} (hk : k < X * Y * Z) (s : Int64) : vM X Y Z w0 w1 w2 ru pr more be (k + 1) s = vM X Y Z w0 w1 w2 ru pr more be k s + (64 * adZ X Y Z w0 w1 w2 ru pr more k (rM X Y Z w0 w1 w2 s k) (dT (kcell X Y Z w0 w1 w2) s k) + be * (if dT (kcell X Y Z w0 w1 w2) s k = true then 1 else 0)) := by
  unfold vM rM
  rw [dV_succ, adZ_eq hd hw hk]
theorem kinj {X Y Z w0 w1 w2 : Nat} (hd : dimOK X Y Z) (hw : prm w0 w1 w2) {k j : Nat} (hk : k < X * Y * Z) (hj : j < k) : kcell X Y Z w0 w1 w2 j ≠ kcell X Y Z w0 w1 w2 k := fun e => by
  have a := ((geo_f3 hd hw).2 k hk).2.1
  have b := ((geo_f3 hd hw).2 j (by omega)).2.1
  rw [e, a] at b; omega
theorem dp_0 {X Y Z w0 w1 w2 : Nat} {ru pr hd : Nat → Int32} {more be : Int} {val st tm : Nat → Int64} (hv : ∀ r, r < 2 ^ kpM X Y Z w0 w1 → val r = (if r = 0 then 0 else FARc) ∧ st r = 0 ∧ tm r = (if r = 0 then 1 else 0)) : dpOK X Y Z w0 w1 w2 ru pr hd more be 0 val st tm := by
  intro r hr
  obtain ⟨h1, h2, h3⟩ := hv r hr
  have only : ∀ s, vdM X Y Z w0 w1 w2 hd 0 s → s = 0 := fun s hs => zb_ext (fun i hi => by
    rw [zb_0]
    cases q : sb s i
    · rfl
    · obtain ⟨j, hj, _⟩ := hs.1 i hi q
      exact absurd hj (Nat.not_lt_zero j))
  by_cases q : r = 0
  · rw [if_pos q] at h1 h3
    rw [h1, h2, h3]
    refine ⟨[0], by simp, rfl, Or.inr ⟨0, rfl, List.mem_singleton.mpr rfl, fun s => ?_, fun s hs => ?_⟩⟩
    · rw [List.mem_singleton]
      constructor
      · intro e
        refine ⟨⟨⟨fun i hi hb => by rw [e, zb_0] at hb; exact absurd hb (by decide), fun j hj => absurd hj (Nat.not_lt_zero j)⟩, q.symm⟩, ?_⟩
        show 64 * sumZ _ 0 + be * sumZ _ 0 = 0
        simp only [sumZ]; omega
      · intro h; exact only s h.1.1
    · show (0 : Int) ≤ 64 * sumZ _ 0 + be * sumZ _ 0
      simp only [sumZ]; omega
  · rw [if_neg q] at h1 h3
    rw [h1, h3]
    exact smry_none (fun s hs => q hs.2.symm) _
theorem dpN_0 {X Y Z w0 w1 w2 : Nat} {ru pr hd : Nat → Int32} {more be : Int} {k : Nat} {val st tm : Nat → Int64} (hv : ∀ r, r < 2 ^ kpM X Y Z w0 w1 → val r = FARc ∧ tm r = 0) : dpN X Y Z w0 w1 w2 ru pr hd more be k 0 val st tm := by
  intro t ht
  rw [(hv t ht).1, (hv t ht).2]
  exact smry_none (fun s hs => absurd hs.2.2 (Nat.not_lt_zero _)) _
/-- nothing comes from a row that there is none of, or into a cell that may not be so -/
theorem dpN_skip {X Y Z w0 w1 w2 : Nat} {ru pr hd : Nat → Int32} {more be : Int} {k m : Nat} {val st tm : Nat → Int64} (h : dpN X Y Z w0 w1 w2 ru pr hd more be k m val st tm) (hn : ∀ s, vdM X Y Z w0 w1 w2 hd (k + 1) s → cM X Y Z w0 w1 w2 s k ≠ m) : dpN X Y Z w0 w1 w2 ru pr hd more be k (m + 1) val st tm := by
  intro t ht
  refine smry_congr (h t ht) (fun s => ⟨fun ⟨a, b, c⟩ => ⟨a, b, by omega⟩, fun ⟨a, b, c⟩ => ⟨a, b, ?_⟩⟩) (fun _ _ => rfl)
  have := hn s a
  omega
def putB (c : Nat) (b : Bool) (s : Int64) : Int64 := s ||| ((bI b).toInt64 <<< ((nI c).toInt64 &&& 63))
theorem putB_sb {c : Nat} (hc : c < 64) (b : Bool) (s : Int64) {i : Nat} (hi : i < 64) : sb (putB c b s) i = (sb s i || (b && decide (i = c))) := by
  unfold putB
  rw [zb_or]
  cases b
  · have e : ((bI false).toInt64 <<< ((nI c).toInt64 &&& 63)) = lN 0 := by
      rw [show (bI false).toInt64 = lN 0 from rfl, zb_shl 0 hc, Nat.zero_mul]
    rw [e, show sb (lN 0) i = false from zb_0 i]; rfl
  · have e : ((bI true).toInt64 <<< ((nI c).toInt64 &&& 63)) = ((1 : Int64) <<< ((nI c).toInt64 &&& 63)) := rfl
    rw [e, zb_one hc hi, Bool.true_and]
theorem tM_b {X Y Z w0 w1 w2 : Nat} {s : Int64} {k : Nat} {b : Bool} : tM X Y Z w0 w1 w2 s k = (if b = true then 1 else 0) ↔ dT (kcell X Y Z w0 w1 w2) s k = b := by
  unfold tM
  cases dT (kcell X Y Z w0 w1 w2) s k <;> cases b <;> simp
theorem cM_eq {X Y Z w0 w1 w2 : Nat} {s : Int64} {k r : Nat} {b : Bool} : cM X Y Z w0 w1 w2 s k = 2 * r + (if b = true then 1 else 0) ↔ rM X Y Z w0 w1 w2 s k = r ∧ dT (kcell X Y Z w0 w1 w2) s k = b := by
  rw [← tM_b (X := X) (Y := Y) (Z := Z) (w0 := w0) (w1 := w1) (w2 := w2)]
  unfold cM
  have : tM X Y Z w0 w1 w2 s k ≤ 1 := by unfold tM; split <;> omega
  constructor
  · intro h
    cases b
    · rw [show (if false = true then 1 else 0) = (0 : Nat) from rfl] at h ⊢
      constructor <;> omega
    · rw [show (if true = true then 1 else 0) = (1 : Nat) from rfl] at h ⊢
      constructor <;> omega
  · intro ⟨h1, h2⟩; rw [h1, h2]
theorem rM_succ {X Y Z w0 w1 w2 : Nat} (s : Int64) (k : Nat) : rM X Y Z w0 w1 w2 s (k + 1) = cM X Y Z w0 w1 w2 s k % 2 ^ kpM X Y Z w0 w1 := rfl
/-- a cell that is so, behind the sets of a row: what comes of it -/
theorem dp_next {X Y Z w0 w1 w2 : Nat} {ru pr hd : Nat → Int32} {more be : Int} (hdm : dimOK X Y Z) (hw : prm w0 w1 w2) (hr : ruOK ru) (hp : prOK (X * Y * Z) pr) (h1 : -60 ≤ more) (h2 : more ≤ 60) (b1 : -1 ≤ be) (b2 : be ≤ 1) {k : Nat} (hk : k < X * Y * Z) {val st tm : Nat → Int64} (h : dpOK X Y Z w0 w1 w2 ru pr hd more be k val st tm) {r : Nat} (hrr : r < 2 ^ kpM X Y Z w0 w1) (b : Bool) (hne : ¬ FARc ≤ val r) (hh : ¬ hd (kcell X Y Z w0 w1 w2 k) = (if b = true then 2 else 1)) {v : Int64} (hv : ∀ x : Int, -10000000 ≤ x → x ≤ 10000000 → val r = lI x → v = lI (x + (64 * adZ X Y Z w0 w1 w2 ru pr more k r b + be * (if b = true then 1 else 0)))) : smry (fun s => vdM X Y Z w0 w1 w2 hd (k + 1) s ∧ cM X Y Z w0 w1 w2 s k = 2 * r + (if b = true then 1 else 0)) (vM X Y Z w0 w1 w2 ru pr more be (k + 1)) v (putB (kcell X Y Z w0 w1 w2 k) b (st r)) (tm r) := by
  have hV := hdm.2.2.2.2.2.2
  have hc : kcell X Y Z w0 w1 w2 k < 64 := by have := ((geo_f3 hdm hw).2 k hk).1; omega
  obtain ⟨a1, a2, a3⟩ := vd_step (hd := hd) hc (fun j hj => kinj hdm hw hk hj) b hh (putB (kcell X Y Z w0 w1 w2 k) b) (fun s i hi => putB_sb hc b s hi)
  refine smry_map (putB (kcell X Y Z w0 w1 w2 k) b) (64 * adZ X Y Z w0 w1 w2 ru pr more k r b + be * (if b = true then 1 else 0)) (vM_bd hdm hw hr hp h1 h2 b1 b2 (Nat.le_of_lt hk)) (h r hrr) hne hv (fun s hs => ?_) (fun s hs => ?_) (fun s s' hs hs' e => a3 s s' hs.1 hs'.1 e)
  · obtain ⟨c1, c2, c3⟩ := a1 s hs.1
    have er : rM X Y Z w0 w1 w2 (putB (kcell X Y Z w0 w1 w2 k) b s) k = r := by
      rw [← hs.2]; exact rowK_congr c2
    refine ⟨⟨c1, cM_eq.mpr ⟨er, c3⟩⟩, ?_⟩
    rw [vM_succ hdm hw hk, er, c3]
    congr 1
    exact dV_congr c2
  · obtain ⟨e1, e2⟩ := cM_eq.mp hs.2
    obtain ⟨s0, c1, c2, c3⟩ := a2 s hs.1 e2
    exact ⟨s0, ⟨c1, by rw [← e1]; exact rowK_congr c3⟩, c2⟩
theorem dpN_step {X Y Z w0 w1 w2 : Nat} {ru pr hd : Nat → Int32} {more be : Int} (hdm : dimOK X Y Z) (hw : prm w0 w1 w2) (hr : ruOK ru) (hp : prOK (X * Y * Z) pr) (h1 : -60 ≤ more) (h2 : more ≤ 60) (b1 : -1 ≤ be) (b2 : be ≤ 1) {k : Nat} (hk : k < X * Y * Z) {val st tm nv ns nt : Nat → Int64} (h : dpOK X Y Z w0 w1 w2 ru pr hd more be k val st tm) {r : Nat} (hrr : r < 2 ^ kpM X Y Z w0 w1) (b : Bool) (hN : dpN X Y Z w0 w1 w2 ru pr hd more be k (2 * r + (if b = true then 1 else 0)) nv ns nt) (hne : ¬ FARc ≤ val r) (hh : ¬ hd (kcell X Y Z w0 w1 w2 k) = (if b = true then 2 else 1)) {v : Int64} (hv : ∀ x : Int, -10000000 ≤ x → x ≤ 10000000 → val r = lI x → v = lI (x + (64 * adZ X Y Z w0 w1 w2 ru pr more k r b + be * (if b = true then 1 else 0)))) {t : Nat} (ht : t = (2 * r + (if b = true then 1 else 0)) % 2 ^ kpM X Y Z w0 w1) : (nv t ≤ v → dpN X Y Z w0 w1 w2 ru pr hd more be k (2 * r + (if b = true then 1 else 0) + 1) nv ns (vp_updL nt t (nt t + (if v = nv t then tm r else 0)))) ∧ (¬ nv t ≤ v → dpN X Y Z w0 w1 w2 ru pr hd more be k (2 * r + (if b = true then 1 else 0) + 1) (vp_updL nv t v) (vp_updL ns t (putB (kcell X Y Z w0 w1 w2 k) b (st r))) (vp_updL nt t (tm r))) := by
  have htl : t < 2 ^ kpM X Y Z w0 w1 := by rw [ht]; exact Nat.mod_lt _ (Nat.two_pow_pos _)
  have hwb := vM_bd (be := be) hdm hw hr hp h1 h2 b1 b2 (show k + 1 ≤ X * Y * Z by omega)
  have hx := dp_next hdm hw hr hp h1 h2 b1 b2 hk h hrr b hne hh hv
  generalize hm : 2 * r + (if b = true then 1 else 0) = m at *
  have hvne : ¬ FARc ≤ v := by
    rcases smry_v hwb hx with ⟨e, _, _⟩ | ⟨y, e, y1, y2, _⟩
    · rcases smry_v (vM_bd (be := be) hdm hw hr hp h1 h2 b1 b2 (Nat.le_of_lt hk)) (h r hrr) with ⟨g, _, _⟩ | ⟨y, g, y1, y2, _⟩
      · rw [g] at hne; exact absurd (Int64.le_iff_toInt_le.mpr (Int.le_refl _)) hne
      · have e2 := hv y y1 y2 g
        have a := dadM_bd (w0 := w0) (w1 := w1) (w2 := w2) hdm hw hr hp h1 h2 hk (fun _ => b)
        have ab : -1000 ≤ adZ X Y Z w0 w1 w2 ru pr more k r b ∧ adZ X Y Z w0 w1 w2 ru pr more k r b ≤ 1000 := by
          have o := ocM_bd (w0 := w0) (w1 := w1) (w2 := w2) hdm hw hr hp h1 h2 hk
          have b := sumZ_bd (f := fun q => if r.testBit (bqM X Y Z w0 w1 q - 1) = b then (0 : Int) else fqM X Y Z w0 w1 w2 ru q k) (n := 3) (a := 0) (b := 18) (fun q hq => by
            have := fqM_bd (X := X) (Y := Y) (Z := Z) hr hw hq k
            split <;> omega)
          unfold adZ; split <;> omega
        have bb : -1 ≤ be * (if b = true then 1 else 0) ∧ be * (if b = true then 1 else 0) ≤ 1 := by split <;> omega
        rw [e2, FAR_lI, lI_le (by omega) (by omega) (by omega) (by omega)]; omega
    · rw [e, FAR_lI, lI_le (by omega) (by omega) (by omega) (by omega)]; omega
  have hor := smry_or hwb (hN t htl) hx hvne (fun s hs hq => by have := hs.2.2; omega)
  have cong : ∀ s, ((vdM X Y Z w0 w1 w2 hd (k + 1) s ∧ rM X Y Z w0 w1 w2 s (k + 1) = t ∧ cM X Y Z w0 w1 w2 s k < m) ∨ (vdM X Y Z w0 w1 w2 hd (k + 1) s ∧ cM X Y Z w0 w1 w2 s k = m)) ↔ (vdM X Y Z w0 w1 w2 hd (k + 1) s ∧ rM X Y Z w0 w1 w2 s (k + 1) = t ∧ cM X Y Z w0 w1 w2 s k < m + 1) := by
    intro s
    constructor
    · rintro (⟨a, c, d⟩ | ⟨a, c⟩)
      · exact ⟨a, c, by omega⟩
      · exact ⟨a, by rw [rM_succ, c, ht], by omega⟩
    · intro ⟨a, c, d⟩
      rcases Nat.lt_or_ge (cM X Y Z w0 w1 w2 s k) m with g | g
      · exact Or.inl ⟨a, c, g⟩
      · exact Or.inr ⟨a, by omega⟩
  have other : ∀ t', t' < 2 ^ kpM X Y Z w0 w1 → t' ≠ t → smry (fun s => vdM X Y Z w0 w1 w2 hd (k + 1) s ∧ rM X Y Z w0 w1 w2 s (k + 1) = t' ∧ cM X Y Z w0 w1 w2 s k < m + 1) (vM X Y Z w0 w1 w2 ru pr more be (k + 1)) (nv t') (ns t') (nt t') := by
    intro t' ht' hne'
    refine smry_congr (hN t' ht') (fun s => ⟨fun ⟨a, c, d⟩ => ⟨a, c, by omega⟩, fun ⟨a, c, d⟩ => ⟨a, c, ?_⟩⟩) (fun _ _ => rfl)
    rcases Nat.lt_or_ge (cM X Y Z w0 w1 w2 s k) m with g | g
    · exact g
    · have e : cM X Y Z w0 w1 w2 s k = m := by omega
      rw [rM_succ, e, ← ht] at c
      exact absurd c.symm hne'
  refine ⟨fun q t' ht' => ?_, fun q t' ht' => ?_⟩
  · by_cases e : t' = t
    · subst e
      rw [updL_s]
      exact smry_congr (hor.1 q) cong (fun _ _ => rfl)
    · rw [updL_n _ _ e]; exact other t' ht' e
  · by_cases e : t' = t
    · subst e
      rw [updL_s, updL_s, updL_s]
      exact smry_congr (hor.2 q) cong (fun _ _ => rfl)
    · rw [updL_n _ _ e, updL_n _ _ e, updL_n _ _ e]; exact other t' ht' e
theorem dp_up {X Y Z w0 w1 w2 : Nat} {ru pr hd : Nat → Int32} {more be : Int} {k : Nat} {val st tm : Nat → Int64} (h : dpN X Y Z w0 w1 w2 ru pr hd more be k (2 * 2 ^ kpM X Y Z w0 w1) val st tm) : dpOK X Y Z w0 w1 w2 ru pr hd more be (k + 1) val st tm := by
  intro r hr
  refine smry_congr (h r hr) (fun s => ⟨fun ⟨a, b, _⟩ => ⟨a, b⟩, fun ⟨a, b⟩ => ⟨a, b, ?_⟩⟩) (fun _ _ => rfl)
  have h1 : rM X Y Z w0 w1 w2 s k < 2 ^ kpM X Y Z w0 w1 := rowK_lt _ _ _
  have h2 : tM X Y Z w0 w1 w2 s k ≤ 1 := by unfold tM; split <;> omega
  unfold cM; omega
theorem dp_rowNone {X Y Z w0 w1 w2 : Nat} {ru pr hd : Nat → Int32} {more be : Int} (hdm : dimOK X Y Z) (hw : prm w0 w1 w2) (hr : ruOK ru) (hp : prOK (X * Y * Z) pr) (h1 : -60 ≤ more) (h2 : more ≤ 60) (b1 : -1 ≤ be) (b2 : be ≤ 1) {k : Nat} (hk : k < X * Y * Z) {val st tm : Nat → Int64} (h : dpOK X Y Z w0 w1 w2 ru pr hd more be k val st tm) {r : Nat} (hrr : r < 2 ^ kpM X Y Z w0 w1) (hF : FARc ≤ val r) : ∀ s, vdM X Y Z w0 w1 w2 hd (k + 1) s → rM X Y Z w0 w1 w2 s k ≠ r := by
  intro s hs e
  have hV := hdm.2.2.2.2.2.2
  have hc : kcell X Y Z w0 w1 w2 k < 64 := by have := ((geo_f3 hdm hw).2 k hk).1; omega
  rcases smry_v (vM_bd (be := be) hdm hw hr hp h1 h2 b1 b2 (Nat.le_of_lt hk)) (h r hrr) with ⟨_, _, g⟩ | ⟨y, g, y1, y2, _⟩
  · obtain ⟨a1, a2, a3⟩ := vd_step (hd := hd) hc (fun j hj => kinj hdm hw hk hj) (dT (kcell X Y Z w0 w1 w2) s k) (hs.2 k (by omega)) (putB (kcell X Y Z w0 w1 w2 k) (dT (kcell X Y Z w0 w1 w2) s k)) (fun s i hi => putB_sb hc _ s hi)
    obtain ⟨s0, c1, c2, c3⟩ := a2 s hs rfl
    exact g s0 ⟨c1, by rw [← e]; exact rowK_congr c3⟩
  · rw [g, FAR_lI, lI_le (by omega) (by omega) (by omega) (by omega)] at hF; omega
theorem dpF_0 {X Y Z w0 w1 w2 : Nat} {ru pr hd : Nat → Int32} {more be : Int} (st : Int64) : dpF X Y Z w0 w1 w2 ru pr hd more be 0 FARc st 0 := smry_none (fun s hs => absurd hs.2 (Nat.not_lt_zero _)) _
theorem dpF_step {X Y Z w0 w1 w2 : Nat} {ru pr hd : Nat → Int32} {more be : Int} (hdm : dimOK X Y Z) (hw : prm w0 w1 w2) (hr : ruOK ru) (hp : prOK (X * Y * Z) pr) (h1 : -60 ≤ more) (h2 : more ≤ 60) (b1 : -1 ≤ be) (b2 : be ≤ 1) {val st tm : Nat → Int64} (h : dpOK X Y Z w0 w1 w2 ru pr hd more be (X * Y * Z) val st tm) {r : Nat} (hrr : r < 2 ^ kpM X Y Z w0 w1) {fv fs ft : Int64} (hF : dpF X Y Z w0 w1 w2 ru pr hd more be r fv fs ft) : (fv ≤ val r → dpF X Y Z w0 w1 w2 ru pr hd more be (r + 1) fv fs (ft + (if val r = fv then (if FARc ≤ fv then 0 else tm r) else 0))) ∧ (¬ fv ≤ val r → dpF X Y Z w0 w1 w2 ru pr hd more be (r + 1) (val r) (st r) (0 + (if val r = val r then (if FARc ≤ val r then 0 else tm r) else 0))) := by
  have hwb := vM_bd (be := be) hdm hw hr hp h1 h2 b1 b2 (Nat.le_refl (X * Y * Z))
  have cong : ∀ s, ((vdM X Y Z w0 w1 w2 hd (X * Y * Z) s ∧ rM X Y Z w0 w1 w2 s (X * Y * Z) < r) ∨ (vdM X Y Z w0 w1 w2 hd (X * Y * Z) s ∧ rM X Y Z w0 w1 w2 s (X * Y * Z) = r)) ↔ (vdM X Y Z w0 w1 w2 hd (X * Y * Z) s ∧ rM X Y Z w0 w1 w2 s (X * Y * Z) < r + 1) := by
    intro s
    constructor
    · rintro (⟨a, c⟩ | ⟨a, c⟩)
      · exact ⟨a, by omega⟩
      · exact ⟨a, by omega⟩
    · intro ⟨a, c⟩
      rcases Nat.lt_or_ge (rM X Y Z w0 w1 w2 s (X * Y * Z)) r with g | g
      · exact Or.inl ⟨a, g⟩
      · exact Or.inr ⟨a, by omega⟩
  by_cases hne : FARc ≤ val r
  · rcases smry_v hwb (h r hrr) with ⟨g, g2, g3⟩ | ⟨y, g, y1, y2, _⟩
    · have le : fv ≤ val r := by
        rcases smry_v hwb hF with ⟨e, _, _⟩ | ⟨y, e, y1, y2, _⟩
        · rw [e, g]; exact Int64.le_iff_toInt_le.mpr (Int.le_refl _)
        · rw [e, g, FAR_lI, lI_le (by omega) (by omega) (by omega) (by omega)]; omega
      refine ⟨fun _ => ?_, fun q => absurd le q⟩
      have e0 : ft + (if val r = fv then (if FARc ≤ fv then 0 else tm r) else 0) = ft := by
        rw [g2]
        by_cases e : val r = fv
        · rw [if_pos e]; split <;> exact Int64.add_zero _
        · rw [if_neg e]; exact Int64.add_zero _
      rw [e0]
      exact smry_congr (smry_orN hF g3) cong (fun _ _ => rfl)
    · rw [g, FAR_lI, lI_le (by omega) (by omega) (by omega) (by omega)] at hne; omega
  · have hor := smry_or hwb hF (h r hrr) hne (fun s hs hq => by have := hs.2; have := hq.2; omega)
    refine ⟨fun q => ?_, fun q => ?_⟩
    · have e0 : (if val r = fv then (if FARc ≤ fv then 0 else tm r) else 0) = (if val r = fv then tm r else 0) := by
        by_cases e : val r = fv
        · rw [if_pos e, if_pos e, if_neg (by rw [← e]; exact hne)]
        · rw [if_neg e, if_neg e]
      rw [e0]
      exact smry_congr (hor.1 q) cong (fun _ _ => rfl)
    · rw [if_pos rfl, if_neg hne, Int64.zero_add]
      exact smry_congr (hor.2 q) cong (fun _ _ => rfl)
