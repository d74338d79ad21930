/-! flows, purely: what every push keeps, and what is left when no way leads on -/
def ind (S : Nat → Bool) (c : Nat) : Int := if S c = true then 1 else 0
def Rin (be pa : Nat → Int32) (S : Nat → Bool) (c : Nat) : Int := sumZ (fun s => if be (6 * c + s) = -1 then 0 else if S (be (6 * c + s)).toNatClampNeg = true then 0 else (pa (6 * c + s)).toInt) 6
def Rf (n : Nat) (be : Nat → Int32) (am : Int) (sp dr pa : Nat → Int32) (S : Nat → Bool) : Int := am + sumZ (fun c => if S c = true then (dr c).toInt + Rin be pa S c else (sp c).toInt) n
def paOK (n : Nat) (be pa : Nat → Int32) : Prop := ∀ c, c < n → ∀ s, s < 6 → 0 ≤ (pa (6 * c + s)).toInt ∧ ∀ d, d < n → be (6 * c + s) = nI d → (pa (6 * c + s)).toInt + (pa (6 * d + rv s)).toInt ≤ 36
def vlOK (n : Nat) (f : Nat → Int32) : Prop := ∀ c, c < n → 0 ≤ (f c).toInt ∧ (f c).toInt ≤ 1000000
theorem gr_side {n : Nat} {be pl : Nat → Int32} (h : grOK n be pl) {f s c : Nat} (hf : f < n) (hs : s < 6) (hc : c < n) (e : be (6 * f + s) = nI c) : c ≠ f ∧ be (6 * c + rv s) = nI f := by
  have hn := h.2.1
  rcases (h.2.2 f hf).2 s hs with q | ⟨d, h1, h2, h3, h4, _, _⟩
  · exact absurd (e.symm.trans q) (n1_ne (by omega))
  · rw [e, nI_eq (by omega) (by omega)] at h3
    subst h3
    exact ⟨h2, h4⟩
theorem Rin_pass {n : Nat} {be pl : Nat → Int32} (h : grOK n be pl) (pa : Nat → Int32) (S : Nat → Bool) {f s c : Nat} (hf : f < n) (hs : s < 6) (hc : c < n) (e : be (6 * f + s) = nI c) (v : Int32) (a : Nat) : Rin be (upd pa (6 * f + s) v) S a = Rin be pa S a + (if a = f then (if S c = true then 0 else v.toInt - (pa (6 * f + s)).toInt) else 0) := by
  have hn := h.2.1
  unfold Rin
  by_cases q : a = f
  · rw [if_pos q, q]
    rw [sumZ_one (k := s) (g := fun s => if be (6 * f + s) = -1 then 0 else if S (be (6 * f + s)).toNatClampNeg = true then 0 else (pa (6 * f + s)).toInt) hs (fun i hi hne => by rw [upd_n _ _ (by omega)])]
    rw [e, if_neg (n1_ne (by omega)), if_neg (n1_ne (by omega)), nI_clamp (by omega), upd_s]
    split <;> omega
  · rw [if_neg q, Int.add_zero]
    exact sumZ_congr (fun i hi => by rw [upd_n _ _ (by omega)])
theorem Rf_pass {n : Nat} {be pl : Nat → Int32} (h : grOK n be pl) (am : Int) (sp dr pa : Nat → Int32) (S : Nat → Bool) {f s c : Nat} (hf : f < n) (hs : s < 6) (hc : c < n) (e : be (6 * f + s) = nI c) (v : Int32) : Rf n be am sp dr (upd pa (6 * f + s) v) S = Rf n be am sp dr pa S + (if S f = true ∧ ¬ S c = true then v.toInt - (pa (6 * f + s)).toInt else 0) := by
  unfold Rf
  rw [sumZ_one (k := f) (g := fun c => if S c = true then (dr c).toInt + Rin be pa S c else (sp c).toInt) hf (fun i hi hne => by rw [Rin_pass h pa S hf hs hc e v i, if_neg hne, Int.add_zero])]
  rw [Rin_pass h pa S hf hs hc e v f, if_pos rfl]
  by_cases h1 : S f = true <;> by_cases h2 : S c = true <;> simp only [h1, h2, if_true, if_false, not_true_eq_false, not_false_eq_true, and_self, and_true, and_false, true_and, false_and] <;> simp <;> omega
theorem Rf_sp {n : Nat} (be : Nat → Int32) (am : Int) (sp dr pa : Nat → Int32) (S : Nat → Bool) {k : Nat} (hk : k < n) (v : Int32) : Rf n be am (upd sp k v) dr pa S = Rf n be am sp dr pa S + (1 - ind S k) * (v.toInt - (sp k).toInt) := by
  unfold Rf ind
  rw [sumZ_one (k := k) (g := fun c => if S c = true then (dr c).toInt + Rin be pa S c else (sp c).toInt) hk (fun i hi hne => by rw [upd_n _ _ hne]), upd_s]
  by_cases h1 : S k = true <;> simp [h1] <;> omega
theorem Rf_dr {n : Nat} (be : Nat → Int32) (am : Int) (sp dr pa : Nat → Int32) (S : Nat → Bool) {k : Nat} (hk : k < n) (v : Int32) : Rf n be am sp (upd dr k v) pa S = Rf n be am sp dr pa S + ind S k * (v.toInt - (dr k).toInt) := by
  unfold Rf ind
  rw [sumZ_one (k := k) (g := fun c => if S c = true then (dr c).toInt + Rin be pa S c else (sp c).toInt) hk (fun i hi hne => by rw [upd_n _ _ hne]), upd_s]
  by_cases h1 : S k = true <;> simp [h1] <;> omega
theorem Rf_am (n : Nat) (be : Nat → Int32) (am b : Int) (sp dr pa : Nat → Int32) (S : Nat → Bool) : Rf n be (am + b) sp dr pa S = Rf n be am sp dr pa S + b := by unfold Rf; omega
/-- one edge of a push -/
theorem push_edge {n : Nat} {be pl : Nat → Int32} (h : grOK n be pl) {pa : Nat → Int32} (hp : paOK n be pa) {f s c : Nat} (hf : f < n) (hs : s < 6) (hc : c < n) (e : be (6 * f + s) = nI c) {m : Int32} (hm : 0 ≤ m.toInt) (hmp : m.toInt ≤ (pa (6 * f + s)).toInt) {pa2 : Nat → Int32} (ep : pa2 = upd (upd pa (6 * f + s) (pa (6 * f + s) - m)) (6 * c + rv s) (upd pa (6 * f + s) (pa (6 * f + s) - m) (6 * c + rv s) + m)) : paOK n be pa2 ∧ (∀ (am : Int) (sp dr : Nat → Int32) (S : Nat → Bool), Rf n be am sp dr pa2 S = Rf n be am sp dr pa S + m.toInt * (ind S c - ind S f)) ∧ ∀ a t, a < n → t < 6 → ¬ be (6 * a + t) = nI c → (pa (6 * a + t)).toInt ≤ (pa2 (6 * a + t)).toInt := by
  have hn := h.2.1
  obtain ⟨hcf, hbc⟩ := gr_side h hf hs hc e
  have hrs := rv_lt hs
  have hne : 6 * c + rv s ≠ 6 * f + s := by omega
  obtain ⟨n1, n2⟩ := hp f hf s hs
  have n3 := n2 c hc e
  obtain ⟨k1, k2⟩ := hp c hc (rv s) hrs
  have v1 : (pa (6 * f + s) - m).toInt = (pa (6 * f + s)).toInt - m.toInt := toInt_sub (by omega) (by omega)
  have v2 : (pa (6 * c + rv s) + m).toInt = (pa (6 * c + rv s)).toInt + m.toInt := toInt_add (by omega) (by omega)
  have x1 : pa2 (6 * f + s) = pa (6 * f + s) - m := by rw [ep, upd_n _ _ (Ne.symm hne), upd_s]
  have x2 : pa2 (6 * c + rv s) = pa (6 * c + rv s) + m := by rw [ep, upd_s, upd_n _ _ hne]
  have x3 : ∀ i, i ≠ 6 * f + s → i ≠ 6 * c + rv s → pa2 i = pa i := fun i h1 h2 => by rw [ep, upd_n _ _ h2, upd_n _ _ h1]
  refine ⟨fun a ha t ht => ⟨?_, fun d hd hbe => ?_⟩, fun am sp dr S => ?_, fun a t ha ht hb => ?_⟩
  · by_cases q1 : 6 * a + t = 6 * f + s
    · rw [q1, x1, v1]; omega
    · by_cases q2 : 6 * a + t = 6 * c + rv s
      · rw [q2, x2, v2]; omega
      · rw [x3 _ q1 q2]; exact (hp a ha t ht).1
  · obtain ⟨_, hrev⟩ := gr_side h ha ht hd hbe
    have hrt := rv_lt ht
    by_cases q1 : 6 * a + t = 6 * f + s
    · have ea : a = f := by omega
      have et : t = s := by omega
      rw [ea, et, e, nI_eq (by omega) (by omega)] at hbe
      rw [ea, et, ← hbe, x1, x2, v1, v2]; omega
    · by_cases q2 : 6 * a + t = 6 * c + rv s
      · have ea : a = c := by omega
        have et : t = rv s := by omega
        rw [ea, et, hbc, nI_eq (by omega) (by omega)] at hbe
        rw [ea, et, ← hbe, rv_rv hs, x1, x2, v1, v2]; omega
      · have q3 : 6 * d + rv t ≠ 6 * f + s := by
          intro q
          have e1 : d = f := by omega
          have e2 : rv t = s := by omega
          rw [e1, e2, e, nI_eq (by omega) (by omega)] at hrev
          rw [← e2, rv_rv ht] at q2
          omega
        have q4 : 6 * d + rv t ≠ 6 * c + rv s := by
          intro q
          have e1 : d = c := by omega
          have e2 : rv t = rv s := by omega
          rw [e1, e2, hbc, nI_eq (by omega) (by omega)] at hrev
          have e3 : t = s := by rw [← rv_rv ht, ← rv_rv hs, e2]
          omega
        rw [x3 _ q1 q2, x3 _ q3 q4]
        exact (hp a ha t ht).2 d hd hbe
  · rw [ep, Rf_pass h am sp dr _ S hc hrs hf hbc, Rf_pass h am sp dr pa S hf hs hc e, upd_n _ _ hne, v1, v2]
    unfold ind
    by_cases h1 : S f = true <;> by_cases h2 : S c = true <;> simp [h1, h2] <;> omega
  · have q1 : 6 * a + t ≠ 6 * f + s := fun q => by
      have ea : a = f := by omega
      have et : t = s := by omega
      rw [ea, et] at hb; exact hb e
    by_cases q2 : 6 * a + t = 6 * c + rv s
    · rw [q2, x2, v2]; omega
    · rw [x3 _ q1 q2]; omega
/-- the way that a search found, from its end to the spring -/
def chn (n : Nat) (be cf cb : Nat → Int32) : List Nat → Prop
  | [] => False
  | [r] => r < n ∧ cb r = 6
  | c :: f :: t => (c < n ∧ f < n ∧ ∃ s, s < 6 ∧ cf c = nI f ∧ cb c = nI s ∧ be (6 * f + s) = nI c) ∧ chn n be cf cb (f :: t)
def eOK (pa cb : Nat → Int32) (m : Int) : List Nat → Prop
  | [] => True
  | [_] => True
  | c :: f :: t => m ≤ (pa (6 * f + (cb c).toNatClampNeg)).toInt ∧ eOK pa cb m (f :: t)
def rot : List Nat → Nat
  | [] => 0
  | [r] => r
  | _ :: f :: t => rot (f :: t)
def mnL (sp pa cb : Nat → Int32) : List Nat → Int32 → Int32
  | [], m => m
  | [r], m => if sp r < m then sp r else m
  | c :: f :: t, m => mnL sp pa cb (f :: t) (if pa (6 * f + (cb c).toNatClampNeg) < m then pa (6 * f + (cb c).toNatClampNeg) else m)
theorem min_le {x y : Int32} : (if x < y then x else y).toInt ≤ x.toInt ∧ (if x < y then x else y).toInt ≤ y.toInt := by
  by_cases h : x < y
  · rw [if_pos h]; rw [Int32.lt_iff_toInt_lt] at h; omega
  · rw [if_neg h]; rw [Int32.lt_iff_toInt_lt] at h; omega
theorem min_pos {x y : Int32} (hx : 0 < x.toInt) (hy : 0 < y.toInt) : 0 < (if x < y then x else y).toInt := by split <;> assumption
theorem mnL_le (sp pa cb : Nat → Int32) : ∀ (l : List Nat) (m : Int32), (mnL sp pa cb l m).toInt ≤ m.toInt
  | [], m => Int.le_refl _
  | [r], m => min_le.2
  | c :: f :: t, m => Int.le_trans (mnL_le sp pa cb (f :: t) _) min_le.2
theorem mnL_e (sp pa cb : Nat → Int32) : ∀ (l : List Nat) (m : Int32), l ≠ [] → eOK pa cb (mnL sp pa cb l m).toInt l ∧ (mnL sp pa cb l m).toInt ≤ (sp (rot l)).toInt
  | [], m, h => absurd rfl h
  | [r], m, _ => ⟨trivial, min_le.1⟩
  | c :: f :: t, m, _ => by
    obtain ⟨h1, h2⟩ := mnL_e sp pa cb (f :: t) (if pa (6 * f + (cb c).toNatClampNeg) < m then pa (6 * f + (cb c).toNatClampNeg) else m) (by simp)
    exact ⟨⟨Int.le_trans (mnL_le sp pa cb (f :: t) _) min_le.1, h1⟩, h2⟩
theorem mnL_pos (sp pa cb : Nat → Int32) : ∀ (l : List Nat) (m : Int32), 0 < m.toInt → eOK pa cb 1 l → 0 < (sp (rot l)).toInt → 0 < (mnL sp pa cb l m).toInt
  | [], m, h, _, _ => h
  | [r], m, h, _, h2 => min_pos h2 h
  | c :: f :: t, m, h, h1, h2 => mnL_pos sp pa cb (f :: t) _ (min_pos (by have := h1.1; omega) h) h1.2 h2
/-- such a way there is -/
theorem chn_ex {n : Nat} {be sp pa cf cb : Nat → Int32} (rk : Nat → Nat) (h : ∀ c, c < n → vis cb c = true → bPar n (frE be pa) (posS sp) cf cb rk c) : ∀ (m c : Nat), rk c < m → c < n → vis cb c = true → ∃ t, chn n be cf cb (c :: t) ∧ eOK pa cb 1 (c :: t) ∧ 0 < (sp (rot (c :: t))).toInt ∧ rot (c :: t) < n ∧ (c :: t).length ≤ rk c + 1 ∧ (c :: t).Nodup ∧ ∀ x, x ∈ t → rk x < rk c := by
  intro m
  induction m with
  | zero => intro c hc; exact absurd hc (Nat.not_lt_zero _)
  | succ m ih =>
    intro c hm hc hv
    rcases h c hc hv with ⟨h1, h2⟩ | ⟨f, s, h1, h2, h3, h4, h5, h6, h7⟩
    · exact ⟨[], ⟨hc, h1⟩, trivial, h2, hc, by simp, by simp, fun x hx => absurd hx List.not_mem_nil⟩
    · obtain ⟨t, a1, a2, a3, a4, a5, a6, a7⟩ := ih f (by omega) h1 h6
      have hlt : ∀ x, x ∈ f :: t → rk x < rk c := fun x hx => by
        rcases List.mem_cons.mp hx with e | e
        · rw [e]; exact h7
        · have := a7 x e; omega
      refine ⟨f :: t, ⟨⟨hc, h1, s, h2, h4, h5, h3.2.1⟩, a1⟩, ⟨?_, a2⟩, a3, a4, by simp only [List.length_cons] at a5 ⊢; omega, List.nodup_cons.mpr ⟨fun hx => absurd (hlt c hx) (Nat.lt_irrefl _), a6⟩, hlt⟩
      rw [h5, nI_clamp (by omega)]; exact h3.2.2
/-! when no way leads on -/
theorem Rf_ge {n : Nat} {be : Nat → Int32} {am : Int} {sp dr pa : Nat → Int32} (hsp : ∀ c, c < n → 0 ≤ (sp c).toInt) (hdr : ∀ c, c < n → 0 ≤ (dr c).toInt) (hpa : ∀ c, c < n → ∀ s, s < 6 → 0 ≤ (pa (6 * c + s)).toInt) (S : Nat → Bool) : am ≤ Rf n be am sp dr pa S := by
  have : 0 ≤ sumZ (fun c => if S c = true then (dr c).toInt + Rin be pa S c else (sp c).toInt) n := sumZ_nn (fun c hc => by
    have h1 := hsp c hc
    have h2 := hdr c hc
    have h3 : 0 ≤ Rin be pa S c := sumZ_nn (fun s hs => by have := hpa c hc s hs; (repeat' split) <;> omega)
    split <;> omega)
  unfold Rf; omega
theorem Rf_tight {n : Nat} {be : Nat → Int32} {am : Int} {sp dr pa : Nat → Int32} (hsp : ∀ c, c < n → 0 ≤ (sp c).toInt) (hdr : ∀ c, c < n → 0 ≤ (dr c).toInt) (hpa : ∀ c, c < n → ∀ s, s < 6 → 0 ≤ (pa (6 * c + s)).toInt) {S : Nat → Bool} (h : Rf n be am sp dr pa S = am) : (∀ c, c < n → S c = true → (dr c).toInt = 0 ∧ ∀ s, s < 6 → ∀ d, d < 36 → be (6 * c + s) = nI d → ¬ S d = true → (pa (6 * c + s)).toInt = 0) ∧ ∀ c, c < n → ¬ S c = true → (sp c).toInt = 0 := by
  have h0 : sumZ (fun c => if S c = true then (dr c).toInt + Rin be pa S c else (sp c).toInt) n = 0 := by unfold Rf at h; omega
  have h3 : ∀ c, c < n → 0 ≤ Rin be pa S c := fun c hc => sumZ_nn (fun s hs => by have := hpa c hc s hs; (repeat' split) <;> omega)
  have h1 := sumZ_z (fun c hc => by
    have h1 := hsp c hc
    have h2 := hdr c hc
    have h3 := h3 c hc
    show 0 ≤ (if S c = true then (dr c).toInt + Rin be pa S c else (sp c).toInt)
    split <;> omega) h0
  refine ⟨fun c hc hS => ?_, fun c hc hS => ?_⟩
  · have h4 := h1 c hc
    rw [if_pos hS] at h4
    have h5 := hdr c hc
    have h6 := h3 c hc
    refine ⟨by omega, fun s hs d hd hb hSd => ?_⟩
    have h7 : Rin be pa S c = 0 := by omega
    have h8 := sumZ_z (fun s hs => by
      have := hpa c hc s hs
      show 0 ≤ (if be (6 * c + s) = -1 then 0 else if S (be (6 * c + s)).toNatClampNeg = true then 0 else (pa (6 * c + s)).toInt)
      (repeat' split) <;> omega) h7 s hs
    rw [hb, if_neg (n1_ne hd), nI_clamp (by omega), if_neg hSd] at h8
    exact h8
  · have h4 := h1 c hc
    rw [if_neg hS] at h4; exact h4
theorem Rf_zero {n : Nat} {be pl : Nat → Int32} (hg : grOK n be pl) {am : Int} {sp dr pa : Nat → Int32} {S : Nat → Bool} (h1 : ∀ c, c < n → S c = true → (dr c).toInt = 0 ∧ ∀ s, s < 6 → ∀ d, d < n → be (6 * c + s) = nI d → ¬ S d = true → (pa (6 * c + s)).toInt = 0) (h2 : ∀ c, c < n → ¬ S c = true → (sp c).toInt = 0) : Rf n be am sp dr pa S = am := by
  have hn := hg.2.1
  have e : sumZ (fun c => if S c = true then (dr c).toInt + Rin be pa S c else (sp c).toInt) n = sumZ (fun _ => 0) n := sumZ_congr (fun c hc => by
    by_cases hS : S c = true
    · rw [if_pos hS, (h1 c hc hS).1]
      have e2 : Rin be pa S c = sumZ (fun _ => 0) 6 := sumZ_congr (fun s hs => by
        rcases (hg.2.2 c hc).2 s hs with q | ⟨d, g1, g2, g3, _⟩
        · rw [if_pos q]
        · rw [g3, if_neg (n1_ne (by omega)), nI_clamp (by omega)]
          by_cases hd : S d = true
          · rw [if_pos hd]
          · rw [if_neg hd]; exact (h1 c hc hS).2 s hs d g1 g3 hd)
      rw [e2, sumZ_0]; rfl
    · rw [if_neg hS]; exact h2 c hc hS)
  unfold Rf; rw [e, sumZ_0, Int.add_zero]
theorem flow_low {n : Nat} {be pl : Nat → Int32} (hg : grOK n be pl) {am : Int} {sp dr pa cf cb : Nat → Int32} (hsp : ∀ c, c < n → 0 ≤ (sp c).toInt) (hdr : ∀ c, c < n → 0 ≤ (dr c).toInt) (hpa : paOK n be pa) (hf : frOK n be sp pa cf cb) (hd : frDone n be dr pa cb) : Rf n be am sp dr pa (vis cb) = am ∧ ∀ S, Rf n be am sp dr pa S = am → ∀ c, c < n → vis cb c = true → S c = true := by
  have hn := hg.2.1
  obtain ⟨rk, f1, f2⟩ := hf
  refine ⟨Rf_zero hg (fun c hc hv => ⟨?_, fun s hs d hd2 hb hnd => ?_⟩) (fun c hc hv => ?_), fun S hS => ?_⟩
  · have h1 := (hd c hc hv).1
    have h2 := hdr c hc
    unfold posS at h1; omega
  · have h1 := (hpa c hc s hs).1
    apply Classical.byContradiction
    intro q
    exact hnd ((hd c hc hv).2 s hs d ⟨by omega, hb, by omega⟩)
  · have h2 := hsp c hc
    apply Classical.byContradiction
    intro q
    exact hv (f1 c hc (show 0 < (sp c).toInt by omega))
  · obtain ⟨t1, t2⟩ := Rf_tight hsp hdr (fun c hc s hs => (hpa c hc s hs).1) hS
    have key : ∀ m c, rk c < m → c < n → vis cb c = true → S c = true := by
      intro m
      induction m with
      | zero => intro c h; exact absurd h (Nat.not_lt_zero _)
      | succ m ih =>
        intro c hm hc hv
        apply Classical.byContradiction
        intro hSc
        rcases (f2 c hc hv).2 with ⟨h1, h2⟩ | ⟨f, s, h1, h2, h3, h4, h5, h6, h7⟩
        · have := t2 c hc hSc
          unfold posS at h2; omega
        · have hSf := ih f (by omega) h1 h6
          have h8 := (t1 f h1 hSf).2 s h2 c h3.1 h3.2.1 hSc
          have := h3.2.2; omega
    exact fun c hc hv => key (rk c + 1) c (by omega) hc hv
theorem flow_high {n : Nat} {be pl : Nat → Int32} (hg : grOK n be pl) {am : Int} {sp dr pa cf cb cb2 : Nat → Int32} (hsp : ∀ c, c < n → 0 ≤ (sp c).toInt) (hdr : ∀ c, c < n → 0 ≤ (dr c).toInt) (hpa : paOK n be pa) (hf : frOK n be sp pa cf cb) (hd : frDone n be dr pa cb) (hb : bkOK n be dr pa cb2) : Rf n be am sp dr pa (fun c => !vis cb2 c) = am ∧ ∀ S, Rf n be am sp dr pa S = am → ∀ c, c < n → S c = true → vis cb2 c = false := by
  have hn := hg.2.1
  obtain ⟨rk0, f1, f2⟩ := hf
  obtain ⟨b1, b2, rk, cf2, b3⟩ := hb
  have apart : ∀ m c, rk c < m → c < n → vis cb2 c = true → ¬ vis cb c = true := by
    intro m
    induction m with
    | zero => intro c h; exact absurd h (Nat.not_lt_zero _)
    | succ m ih =>
      intro c hm hc hv hv1
      rcases b3 c hc hv with ⟨h1, h2⟩ | ⟨f, s, h1, h2, h3, h4, h5, h6, h7⟩
      · exact (hd c hc hv1).1 h2
      · obtain ⟨g1, g2⟩ := gr_side hg h1 h2 hc h3.2.1
        exact ih f (by omega) h1 h6 ((hd c hc hv1).2 (rv s) (rv_lt h2) f ⟨by omega, g2, h3.2.2⟩)
  refine ⟨Rf_zero hg (fun c hc hv => ⟨?_, fun s hs d hd2 hbe hnd => ?_⟩) (fun c hc hv => ?_), fun S hS => ?_⟩
  · have h2 := hdr c hc
    apply Classical.byContradiction
    intro q
    have := b1 c hc (show 0 < (dr c).toInt by omega)
    rw [this] at hv; exact absurd hv (by decide)
  · have h1 := (hpa c hc s hs).1
    apply Classical.byContradiction
    intro q
    obtain ⟨g1, g2⟩ := gr_side hg hc hs hd2 hbe
    have hvd : vis cb2 d = true := by
      cases hh : vis cb2 d
      · rw [hh] at hnd; exact absurd rfl hnd
      · rfl
    have := b2 d hd2 hvd (rv s) (rv_lt hs) c ⟨by omega, g2, by rw [rv_rv hs]; omega⟩
    rw [this] at hv; exact absurd hv (by decide)
  · have h2 := hsp c hc
    have hvc : vis cb2 c = true := by
      cases hh : vis cb2 c
      · rw [hh] at hv; exact absurd rfl hv
      · rfl
    apply Classical.byContradiction
    intro q
    exact apart (rk c + 1) c (by omega) hc hvc (f1 c hc (show 0 < (sp c).toInt by omega))
  · obtain ⟨t1, t2⟩ := Rf_tight hsp hdr (fun c hc s hs => (hpa c hc s hs).1) hS
    have key : ∀ m c, rk c < m → c < n → vis cb2 c = true → ¬ S c = true := by
      intro m
      induction m with
      | zero => intro c h; exact absurd h (Nat.not_lt_zero _)
      | succ m ih =>
        intro c hm hc hv hSc
        rcases b3 c hc hv with ⟨h1, h2⟩ | ⟨f, s, h1, h2, h3, h4, h5, h6, h7⟩
        · have := (t1 c hc hSc).1
          unfold posS at h2; omega
        · obtain ⟨g1, g2⟩ := gr_side hg h1 h2 hc h3.2.1
          have h8 := (t1 c hc hSc).2 (rv s) (rv_lt h2) f (by omega) g2 (ih f (by omega) h1 h6)
          have := h3.2.2; omega
    intro c hc hSc
    cases hh : vis cb2 c
    · rfl
    · exact absurd hSc (key (rk c + 1) c (by omega) hc hh)
