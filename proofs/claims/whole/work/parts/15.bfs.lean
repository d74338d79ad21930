/-! a search by layers, purely -/
def vis (cb : Nat → Int32) (c : Nat) : Bool := decide (¬ cb c = -1)
theorem vis_t {cb : Nat → Int32} {c : Nat} : vis cb c = true ↔ ¬ cb c = -1 := by unfold vis; exact decide_eq_true_iff
theorem vis_f {cb : Nat → Int32} {c : Nat} : vis cb c = false ↔ cb c = -1 := by
  unfold vis; rw [decide_eq_false_iff_not, Classical.not_not]
theorem cntA_congr {P Q : Nat → Bool} {n : Nat} (h : ∀ c, c < n → P c = Q c) : cntA n P = cntA n Q := by
  induction n with
  | zero => rfl
  | succ n ih => simp only [cntA]; rw [ih (fun c hc => h c (by omega)), h n (by omega)]
theorem cntA_lt {P : Nat → Bool} {n d : Nat} (hd : d < n) (hp : P d = false) : cntA n P < n := by
  induction n with
  | zero => exact absurd hd (Nat.not_lt_zero d)
  | succ n ih =>
    simp only [cntA]
    rcases Nat.lt_or_ge d n with q | q
    · have := ih q; split <;> omega
    · have e : d = n := by omega
      subst e
      have := cntA_le d P
      rw [hp, if_neg (by decide)]; omega
theorem cntA_up {P Q : Nat → Bool} {n d : Nat} (hd : d < n) (hp : P d = false) (hq : Q d = true) (h : ∀ c, c < n → c ≠ d → P c = Q c) : cntA n Q = cntA n P + 1 := by
  induction n with
  | zero => exact absurd hd (Nat.not_lt_zero d)
  | succ n ih =>
    simp only [cntA]
    rcases Nat.lt_or_ge d n with q | q
    · rw [ih q (fun c hc hne => h c (by omega) hne), h n (by omega) (by omega)]; omega
    · have e : d = n := by omega
      subst e
      rw [cntA_congr (fun c hc => (h c (by omega) (by omega)).symm), hp, hq]; simp
theorem n1_ne {d : Nat} (hd : d < 36) : ¬ nI d = -1 := fun q => absurd (congrArg Int32.toInt q) (by rw [nI_toInt (by omega), show (-1 : Int32).toInt = -1 from rfl]; omega)
theorem vis_upd {cb : Nat → Int32} {d s : Nat} (hs : s < 36) (c : Nat) : vis (upd cb d (nI s)) c = true ↔ c = d ∨ vis cb c = true := by
  by_cases e : c = d
  · rw [e, vis_t, upd_s]; exact ⟨fun _ => Or.inl rfl, fun _ => n1_ne hs⟩
  · rw [vis_t, upd_n _ _ e, ← vis_t]; exact ⟨Or.inr, fun h => h.resolve_left e⟩
def bPar (n : Nat) (E : Nat → Nat → Nat → Prop) (src : Nat → Prop) (cf cb : Nat → Int32) (rk : Nat → Nat) (c : Nat) : Prop := (cb c = 6 ∧ src c) ∨ ∃ f s, f < n ∧ s < 6 ∧ E f s c ∧ cf c = nI f ∧ cb c = nI s ∧ vis cb f = true ∧ rk f < rk c
def bDone (E : Nat → Nat → Nat → Prop) (dn : Nat → Prop) (cb : Nat → Int32) (c : Nat) : Prop := dn c ∧ ∀ s, s < 6 → ∀ d, E c s d → vis cb d = true
def BI (n : Nat) (E : Nat → Nat → Nat → Prop) (src dn ex : Nat → Prop) (hd tl : Nat) (cf cb q : Nat → Int32) (rk : Nat → Nat) : Prop :=
  tl = cntA n (vis cb) ∧ (∀ j, j < tl → ∃ c, c < n ∧ q j = nI c ∧ vis cb c = true) ∧ (∀ c, c < n → vis cb c = true → bDone E dn cb c ∨ (∃ j, hd ≤ j ∧ j < tl ∧ q j = nI c) ∨ ex c) ∧ (∀ c, c < n → src c → vis cb c = true) ∧ (∀ c, c < n → vis cb c = true → rk c < tl ∧ bPar n E src cf cb rk c)
theorem BI_le {n : Nat} {E : Nat → Nat → Nat → Prop} {src dn ex : Nat → Prop} {hd tl : Nat} {cf cb q : Nat → Int32} {rk : Nat → Nat} (h : BI n E src dn ex hd tl cf cb q rk) : tl ≤ n := by rw [h.1]; exact cntA_le _ _
/-- a new cell joins the queue -/
theorem BI_add {n : Nat} {E : Nat → Nat → Nat → Prop} {src dn ex : Nat → Prop} {hd tl : Nat} {cf cb q : Nat → Int32} {rk : Nat → Nat} (hn : n ≤ 36) (h : BI n E src dn ex hd tl cf cb q rk) (hh : hd ≤ tl) {c0 s d : Nat} (hc0 : c0 < n) (hs : s < 6) (hd2 : d < n) (hE : E c0 s d) (hv0 : vis cb c0 = true) (hvd : vis cb d = false) : tl < n ∧ BI n E src dn ex hd (tl + 1) (upd cf d (nI c0)) (upd cb d (nI s)) (upd q tl (nI d)) (fun c => if c = d then tl else rk c) := by
  obtain ⟨a1, a2, a3, a4, a5⟩ := h
  have hcd : ∀ c, vis cb c = true → c ≠ d := fun c hc e => by rw [e, hvd] at hc; exact absurd hc (by decide)
  have mono : ∀ c, vis cb c = true → vis (upd cb d (nI s)) c = true := fun c hc => (vis_upd (by omega) c).mpr (Or.inr hc)
  have hlt : tl < n := by rw [a1]; exact cntA_lt hd2 hvd
  refine ⟨hlt, ?_, ?_, ?_, ?_, ?_⟩
  · rw [a1]
    refine (cntA_up hd2 hvd ((vis_upd (by omega) d).mpr (Or.inl rfl)) (fun c hc hne => ?_)).symm
    unfold vis; rw [upd_n _ _ hne]
  · intro j hj
    rcases Nat.lt_or_ge j tl with q1 | q1
    · obtain ⟨c, h1, h2, h3⟩ := a2 j q1
      exact ⟨c, h1, by rw [upd_n _ _ (by omega)]; exact h2, mono c h3⟩
    · have e : j = tl := by omega
      exact ⟨d, hd2, by rw [e, upd_s], (vis_upd (by omega) d).mpr (Or.inl rfl)⟩
  · intro c hc hv
    rcases (vis_upd (by omega) c).mp hv with e | hv
    · exact Or.inr (Or.inl ⟨tl, hh, by omega, by rw [e, upd_s]⟩)
    · rcases a3 c hc hv with ⟨b1, b2⟩ | ⟨j, b1, b2, b3⟩ | b
      · exact Or.inl ⟨b1, fun s' hs' d' hE' => mono d' (b2 s' hs' d' hE')⟩
      · exact Or.inr (Or.inl ⟨j, b1, by omega, by rw [upd_n _ _ (by omega)]; exact b3⟩)
      · exact Or.inr (Or.inr b)
  · intro c hc hsrc; exact mono c (a4 c hc hsrc)
  · intro c hc hv
    rcases (vis_upd (by omega) c).mp hv with e | hv
    · subst e
      refine ⟨by show (if c = c then tl else rk c) < tl + 1; rw [if_pos rfl]; omega, Or.inr ⟨c0, s, hc0, hs, hE, upd_s _ _ _, upd_s _ _ _, mono c0 hv0, ?_⟩⟩
      show (if c0 = c then tl else rk c0) < (if c = c then tl else rk c)
      rw [if_neg (hcd c0 hv0), if_pos rfl]; exact (a5 c0 hc0 hv0).1
    · have hne := hcd c hv
      obtain ⟨b1, b2⟩ := a5 c hc hv
      refine ⟨by show (if c = d then tl else rk c) < tl + 1; rw [if_neg hne]; omega, ?_⟩
      rcases b2 with ⟨c1, c2⟩ | ⟨f, s', c1, c2, c3, c4, c5, c6, c7⟩
      · exact Or.inl ⟨by rw [upd_n _ _ hne]; exact c1, c2⟩
      · refine Or.inr ⟨f, s', c1, c2, c3, by rw [upd_n _ _ hne]; exact c4, by rw [upd_n _ _ hne]; exact c5, mono f c6, ?_⟩
        show (if f = d then tl else rk f) < (if c = d then tl else rk c)
        rw [if_neg (hcd f c6), if_neg hne]; exact c7
/-- the head of the queue is taken: its cell is under way -/
theorem BI_take {n : Nat} {E : Nat → Nat → Nat → Prop} {src dn : Nat → Prop} {hd tl : Nat} {cf cb q : Nat → Int32} {rk : Nat → Nat} (hn : n ≤ 36) (h : BI n E src dn (fun _ => False) hd tl cf cb q rk) {c0 : Nat} (hc : c0 < n) (hq : q hd = nI c0) : BI n E src dn (fun c => c = c0) (hd + 1) tl cf cb q rk := by
  obtain ⟨a1, a2, a3, a4, a5⟩ := h
  refine ⟨a1, a2, fun c hcn hv => ?_, a4, a5⟩
  rcases a3 c hcn hv with b | ⟨j, b1, b2, b3⟩ | b
  · exact Or.inl b
  · rcases Nat.lt_or_ge hd j with g | g
    · exact Or.inr (Or.inl ⟨j, g, b2, b3⟩)
    · have e : j = hd := by omega
      rw [e, hq, nI_eq (by omega) (by omega)] at b3
      exact Or.inr (Or.inr b3.symm)
  · exact absurd b id
/-- .. and done -/
theorem BI_put {n : Nat} {E : Nat → Nat → Nat → Prop} {src dn : Nat → Prop} {hd tl : Nat} {cf cb q : Nat → Int32} {rk : Nat → Nat} {c0 : Nat} (h : BI n E src dn (fun c => c = c0) hd tl cf cb q rk) (hd0 : bDone E dn cb c0) : BI n E src dn (fun _ => False) hd tl cf cb q rk := by
  obtain ⟨a1, a2, a3, a4, a5⟩ := h
  refine ⟨a1, a2, fun c hcn hv => ?_, a4, a5⟩
  rcases a3 c hcn hv with b | b | b
  · exact Or.inl b
  · exact Or.inr (Or.inl b)
  · rw [b]; exact Or.inl hd0
/-- how a search begins -/
def stO (n : Nat) (src : Nat → Prop) (tl : Nat) (cb q : Nat → Int32) : Prop := tl = cntA n (vis cb) ∧ (∀ c, c < n → (src c ∧ cb c = 6) ∨ (¬ src c ∧ cb c = -1)) ∧ (∀ j, j < tl → ∃ c, c < n ∧ q j = nI c ∧ src c) ∧ (∀ c, c < n → src c → ∃ j, j < tl ∧ q j = nI c)
theorem BI_start {n : Nat} {E : Nat → Nat → Nat → Prop} {src dn : Nat → Prop} {tl : Nat} {cf cb q : Nat → Int32} (h : stO n src tl cb q) : BI n E src dn (fun _ => False) 0 tl cf cb q (fun _ => 0) := by
  obtain ⟨a1, a2, a3, a4⟩ := h
  have hv : ∀ c, c < n → (vis cb c = true ↔ src c) := fun c hc => by
    rw [vis_t]
    rcases a2 c hc with ⟨b1, b2⟩ | ⟨b1, b2⟩
    · rw [b2]; exact ⟨fun _ => b1, fun _ => by decide⟩
    · exact ⟨fun q => absurd b2 q, fun q => absurd q b1⟩
  refine ⟨a1, fun j hj => ?_, fun c hc hvc => ?_, fun c hc hs => (hv c hc).mpr hs, fun c hc hvc => ?_⟩
  · obtain ⟨c, h1, h2, h3⟩ := a3 j hj
    exact ⟨c, h1, h2, (hv c h1).mpr h3⟩
  · obtain ⟨j, h1, h2⟩ := a4 c hc ((hv c hc).mp hvc)
    exact Or.inr (Or.inl ⟨j, Nat.zero_le _, h1, h2⟩)
  · have hs := (hv c hc).mp hvc
    obtain ⟨j, h1, h2⟩ := a4 c hc hs
    refine ⟨by show 0 < tl; omega, Or.inl ⟨?_, hs⟩⟩
    rcases a2 c hc with ⟨b1, b2⟩ | ⟨b1, b2⟩
    · exact b2
    · exact absurd hs b1
