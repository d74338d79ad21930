/-! sums over cells and sides -/
theorem sumZ_single {f : Nat → Int} {n k : Nat} (hk : k < n) (h : ∀ i, i < n → i ≠ k → f i = 0) : sumZ f n = f k := by
  rw [sumZ_one (g := fun _ => 0) hk h, sumZ_0]; omega
theorem sumZ_comm (f : Nat → Nat → Int) (n m : Nat) : sumZ (fun i => sumZ (fun j => f i j) m) n = sumZ (fun j => sumZ (fun i => f i j) n) m := by
  induction n with
  | zero => simp only [sumZ]; exact (sumZ_0 m).symm
  | succ n ih => simp only [sumZ]; rw [ih, ← sumZ_add]
theorem sumZ_if (p : Bool) (f : Nat → Int) (m : Nat) : (if p = true then sumZ f m else 0) = sumZ (fun j => if p = true then f j else 0) m := by
  cases p
  · simp only [Bool.false_eq_true, if_false]; exact (sumZ_0 m).symm
  · simp only [if_true]
theorem sum6_rv (f : Nat → Int) : sumZ (fun s => f (rv s)) 6 = sumZ f 6 := by
  simp only [sumZ, rv]
  show 0 + f 1 + f 0 + f 3 + f 2 + f 5 + f 4 = 0 + f 0 + f 1 + f 2 + f 3 + f 4 + f 5
  omega
theorem cwA_rv {n : Nat} {be pl : Nat → Int32} (hg : grOK n be pl) (ru : Nat → Int32) (kd : Nat) {c s d : Nat} (hc : c < n) (hs : s < 6) (hd : d < n) (e : be (6 * c + s) = nI d) : cwA ru pl kd c s = cwA ru pl kd d (rv s) := by
  have hn := hg.2.1
  rcases (hg.2.2 c hc).2 s hs with q | ⟨d', h1, h2, h3, h4, h5, h6⟩
  · exact absurd (e.symm.trans q) (n1_ne (by omega))
  · rw [e, nI_eq (by omega) (by omega)] at h3
    subst h3
    have e2 : rv s / 2 = s / 2 := by unfold rv; split <;> omega
    unfold cwA
    rw [e2, h6]
/-- a cell joins: by how much ALL grows -/
theorem Ef_add {n : Nat} {be pl ru pr : Nat → Int32} (hg : grOK n be pl) (rise : Int) {S S2 : Nat → Bool} {d : Nat} (hd : d < n) (h0 : S d = false) (h1 : S2 d = true) (h : ∀ c, c < n → c ≠ d → S2 c = S c) : Ef n be pl ru pr rise S2 = Ef n be pl ru pr rise S + (ownA pr ru be d + rise + grwA ru pl be S d) := by
  have hn := hg.2.1
  -- what each other cell of S loses: the seams to d
  have step : ∀ c, c < n → c ≠ d → (if S2 c = true then ownA pr ru be c + rise + Ein be pl ru S2 c else 0) = (if S c = true then ownA pr ru be c + rise + Ein be pl ru S c else 0) - (if S c = true then sumZ (fun s => if be (6 * c + s) = nI d then cwA ru pl (ru 6).toNatClampNeg c s else 0) 6 else 0) := by
    intro c hc hne
    rw [h c hc hne]
    by_cases q : S c = true
    · rw [if_pos q, if_pos q, if_pos q]
      have e : Ein be pl ru S2 c = Ein be pl ru S c - sumZ (fun s => if be (6 * c + s) = nI d then cwA ru pl (ru 6).toNatClampNeg c s else 0) 6 := by
        unfold Ein
        rw [← sumZ_sub]
        refine sumZ_congr (fun s hs => ?_)
        rcases (hg.2.2 c hc).2 s hs with g | ⟨x, g1, g2, g3, _⟩
        · rw [if_pos g, if_pos g, if_neg (by rw [g]; exact fun q => n1_ne (show d < 36 by omega) q.symm)]; rfl
        · rw [g3, if_neg (n1_ne (by omega)), if_neg (n1_ne (by omega)), nI_clamp (by omega)]
          by_cases ex : x = d
          · rw [ex, h1, h0, if_pos rfl, if_neg (by decide), if_pos rfl]; omega
          · rw [h x g1 ex, if_neg (fun q => ex ((nI_eq (by omega) (by omega)).mp q))]; omega
      rw [e]; omega
    · rw [if_neg q, if_neg q, if_neg q]; rfl
  have hself : Ein be pl ru S2 d = sumZ (fun s => if be (6 * d + s) = -1 then 0 else if S (be (6 * d + s)).toNatClampNeg = true then 0 else cwA ru pl (ru 6).toNatClampNeg d s) 6 := by
    refine sumZ_congr (fun s hs => ?_)
    rcases (hg.2.2 d hd).2 s hs with g | ⟨x, g1, g2, g3, _⟩
    · rw [if_pos g, if_pos g]
    · rw [g3, nI_clamp (by omega), h x g1 g2]
  -- the seams to d, counted from d
  have loss : sumZ (fun c => if S c = true then sumZ (fun s => if be (6 * c + s) = nI d then cwA ru pl (ru 6).toNatClampNeg c s else 0) 6 else 0) n = sumZ (fun s => if be (6 * d + s) = -1 then 0 else if S (be (6 * d + s)).toNatClampNeg = true then cwA ru pl (ru 6).toNatClampNeg d s else 0) 6 := by
    rw [sumZ_congr (fun c hc => sumZ_if (S c) (fun s => if be (6 * c + s) = nI d then cwA ru pl (ru 6).toNatClampNeg c s else 0) 6), sumZ_comm, ← sum6_rv (fun s => if be (6 * d + s) = -1 then 0 else if S (be (6 * d + s)).toNatClampNeg = true then cwA ru pl (ru 6).toNatClampNeg d s else 0)]
    refine sumZ_congr (fun s hs => ?_)
    rcases (hg.2.2 d hd).2 (rv s) (rv_lt hs) with g | ⟨x, g1, g2, g3, g4, _⟩
    · rw [if_pos g]
      rw [sumZ_congr (g := fun _ => 0) (fun c hc => ?_), sumZ_0]
      by_cases q : be (6 * c + s) = nI d
      · exact absurd ((gr_side hg hc hs hd q).2.symm.trans g) (n1_ne (by omega))
      · rw [if_neg q]; split <;> rfl
    · rw [g3, if_neg (n1_ne (by omega)), nI_clamp (by omega)]
      rw [rv_rv hs] at g4
      rw [sumZ_single (k := x) g1 (fun c hc hne => ?_), if_pos g4, cwA_rv hg ru _ g1 hs hd g4]
      by_cases q : be (6 * c + s) = nI d
      · have e := (gr_side hg hc hs hd q).2
        rw [g3, nI_eq (by omega) (by omega)] at e
        exact absurd e.symm hne
      · rw [if_neg q]; split <;> rfl
  have tot : Ef n be pl ru pr rise S2 = sumZ (fun c => (if S c = true then ownA pr ru be c + rise + Ein be pl ru S c else 0) - (if S c = true then sumZ (fun s => if be (6 * c + s) = nI d then cwA ru pl (ru 6).toNatClampNeg c s else 0) 6 else 0)) n + (ownA pr ru be d + rise + Ein be pl ru S2 d) := by
    unfold Ef
    rw [sumZ_one hd step, h1, h0, if_pos rfl, if_neg (by decide), if_neg (by decide)]; omega
  rw [tot, sumZ_sub, loss, hself]
  unfold Ef grwA
  have e : sumZ (fun s => if be (6 * d + s) = -1 then 0 else if S (be (6 * d + s)).toNatClampNeg = true then -cwA ru pl (ru 6).toNatClampNeg d s else cwA ru pl (ru 6).toNatClampNeg d s) 6 = sumZ (fun s => if be (6 * d + s) = -1 then 0 else if S (be (6 * d + s)).toNatClampNeg = true then 0 else cwA ru pl (ru 6).toNatClampNeg d s) 6 - sumZ (fun s => if be (6 * d + s) = -1 then 0 else if S (be (6 * d + s)).toNatClampNeg = true then cwA ru pl (ru 6).toNatClampNeg d s else 0) 6 := by
    rw [← sumZ_sub]
    refine sumZ_congr (fun s hs => ?_)
    (repeat' split) <;> omega
  rw [e]; omega
theorem grwA_congr {n : Nat} {be pl : Nat → Int32} (hg : grOK n be pl) (ru : Nat → Int32) {S S2 : Nat → Bool} {d : Nat} (hd : d < n) (h : ∀ c, c < n → c ≠ d → S2 c = S c) : grwA ru pl be S2 d = grwA ru pl be S d := by
  have hn := hg.2.1
  refine sumZ_congr (fun s hs => ?_)
  rcases (hg.2.2 d hd).2 s hs with g | ⟨x, g1, g2, g3, _⟩
  · rw [if_pos g, if_pos g]
  · rw [g3, nI_clamp (by omega), h x g1 g2]
theorem grwA_bd {ru : Nat → Int32} (hr : ruOK ru) (be pl : Nat → Int32) (S : Nat → Bool) (c : Nat) : -108 ≤ grwA ru pl be S c ∧ grwA ru pl be S c ≤ 108 := by
  have := sumZ_bd (f := fun s => if be (6 * c + s) = -1 then 0 else if S (be (6 * c + s)).toNatClampNeg = true then -cwA ru pl (ru 6).toNatClampNeg c s else cwA ru pl (ru 6).toNatClampNeg c s) (n := 6) (a := -18) (b := 18) (fun s hs => by
    have h4 := cwA_bd hr pl (ru 6).toNatClampNeg c hs
    (repeat' split) <;> omega)
  unfold grwA; omega
/-- SKIN and PRICES together are ALL -/
theorem all_Ef (n : Nat) (be pl ru pr : Nat → Int32) (S : Nat → Bool) : sknA n ru pl be S + prsA n pr S = Ef n be pl ru pr 0 S := by
  unfold sknA prsA Ef
  rw [← sumZ_add]
  refine sumZ_congr (fun c hc => ?_)
  by_cases q : S c = true
  · rw [if_pos q, if_pos q, if_pos q]
    have e : skcA ru pl be S c = sumZ (fun s => if be (6 * c + s) = -1 then (ru 3).toInt else 0) 6 + Ein be pl ru S c := by
      unfold skcA Ein
      rw [← sumZ_add]
      refine sumZ_congr (fun s hs => ?_)
      (repeat' split) <;> omega
    rw [e]; unfold ownA; omega
  · rw [if_neg q, if_neg q, if_neg q]; rfl
/-! Gray's order, purely -/
def gry (t : Nat) : Nat := t ^^^ (t / 2)
def igr (w : Nat) : Nat := w ^^^ (w / 2) ^^^ (w / 4) ^^^ (w / 8) ^^^ (w / 16) ^^^ (w / 32) ^^^ (w / 64) ^^^ (w / 128) ^^^ (w / 256) ^^^ (w / 512) ^^^ (w / 1024) ^^^ (w / 2048)
def tzf : Nat → Nat → Nat
  | 0, _ => 0
  | k + 1, t => if t % 2 = 1 then 0 else tzf k (t / 2) + 1
set_option maxRecDepth 100000 in
theorem gry_b1 : allN 4096 (fun t => decide (igr (gry t) = t) && decide (gry (igr t) = t)) = true := by decide +kernel
set_option maxRecDepth 100000 in
theorem gry_b2 : allN 13 (fun m => allN (2 ^ m) (fun t => decide (gry t < 2 ^ m) && decide (igr t < 2 ^ m) && (decide (t = 0) || (decide (tzf 12 t < m) && decide (gry t = gry (t - 1) ^^^ 2 ^ tzf 12 t))))) = true := by decide +kernel
theorem igr_gry {t : Nat} (h : t < 4096) : igr (gry t) = t ∧ gry (igr t) = t := by
  have := allN_s gry_b1 h
  simpa using this
theorem gry_m {m : Nat} (hm : m ≤ 12) {t : Nat} (ht : t < 2 ^ m) : gry t < 2 ^ m ∧ igr t < 2 ^ m ∧ (0 < t → tzf 12 t < m ∧ gry t = gry (t - 1) ^^^ 2 ^ tzf 12 t) := by
  have h := allN_s (allN_s gry_b2 (show m < 13 by omega)) ht
  simp only [Bool.and_eq_true, Bool.or_eq_true, decide_eq_true_eq] at h
  exact ⟨h.1.1, h.1.2, fun h0 => h.2.resolve_left (by omega)⟩
