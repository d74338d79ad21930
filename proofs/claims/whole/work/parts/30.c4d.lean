theorem hde_X4_isSet : yX4_isSet.cls = RX4 ∧ yX4_isSet.cls ≠ "java/lang/invoke/MethodHandle" ∧ yX4_isSet.cls ≠ "java/lang/invoke/VarHandle" ∧ (parseMethodDescriptor yX4_isSet.desc).map (fun d => d.parameters.length) = some 1 := by decide +kernel
theorem hde_X4_skinOf : yX4_skinOf.cls = RX4 ∧ yX4_skinOf.cls ≠ "java/lang/invoke/MethodHandle" ∧ yX4_skinOf.cls ≠ "java/lang/invoke/VarHandle" ∧ (parseMethodDescriptor yX4_skinOf.desc).map (fun d => d.parameters.length) = some 1 := by decide +kernel
/-! answers that class and reference have in common -/
def isS (n : Nat) (s : Int64) : Bool := allN 64 (fun i => !decide (n ≤ i) || !sb s i)
theorem isS_t {n : Nat} {s : Int64} : isS n s = true ↔ ∀ i, i < 64 → n ≤ i → sb s i = false := by
  constructor
  · intro h i hi hni
    have := imp_s (allN_s h hi) (decide_eq_true hni)
    simpa using this
  · intro h
    refine List.all_eq_true.mpr (fun i hi => ?_)
    by_cases q : n ≤ i
    · rw [h i (List.mem_range.mp hi) q]; simp
    · rw [decide_eq_false q]; rfl
def skZ (X Y Z : Nat) (ru : Nat → Int32) (S : Nat → Bool) : Int := sumZ (fun c => if S c = true then (ru 3).toInt * outsZ X Y Z c else 0) (X * Y * Z) + sumZ (fun k => sumZ (fun c => onw X Y Z ru S c k) (X * Y * Z)) 3
theorem in_eq (p : Int32) (a b : Int64) : fnX4_in p.toInt64 a b = decide (a.toInt ≤ p.toInt ∧ p.toInt ≤ b.toInt) := by
  unfold fnX4_in
  simp only [Int64.lt_iff_toInt_lt, Int32.toInt_toInt64]
  by_cases h1 : p.toInt < a.toInt
  · rw [if_pos h1]; exact (decide_eq_false (by omega)).symm
  · rw [if_neg h1]
    by_cases h2 : b.toInt < p.toInt
    · rw [if_pos h2]; exact (decide_eq_false (by omega)).symm
    · rw [if_neg h2]; exact (decide_eq_true (by omega)).symm
theorem in_t {p : Int32} {a b : Int64} (h : fnX4_in p.toInt64 a b = true) : a.toInt ≤ p.toInt ∧ p.toInt ≤ b.toInt := by rw [in_eq] at h; exact of_decide_eq_true h
theorem in_f {p : Int32} {a b : Int64} (h : fnX4_in p.toInt64 a b = false) : ¬ (a.toInt ≤ p.toInt ∧ p.toInt ≤ b.toInt) := by rw [in_eq] at h; exact of_decide_eq_false h
theorem i_nat {p : Int32} {n : Nat} (h1 : 0 ≤ p.toInt) (h2 : p.toInt ≤ n) : ∃ j, j ≤ n ∧ p = nI j := by
  refine ⟨p.toInt.toNat, by omega, ?_⟩
  rw [← iI_nI, Int.toNat_of_nonneg h1, iI_toInt]
section M4
variable {M_thrown : Int32} {M_trace M_found M_foundSet M_foundTimes : Int64} {M_w M_h : Int32}
theorem isSet4_eq {sd : Nat → Int32} {X Y Z : Nat} (hd : dimOK X Y Z) (h : sdOK sd X Y Z) (s : Int64) : fnX4_isSet s M_thrown M_trace M_found M_foundSet M_foundTimes M_w M_h sd = isS (X * Y * Z) s ∧ prX4_isSet s M_thrown M_trace M_found M_foundSet M_foundTimes M_w M_h sd := by
  obtain ⟨c1, c2⟩ := cells_eq (M_thrown := M_thrown) (M_trace := M_trace) (M_found := M_found) (M_foundSet := M_foundSet) (M_foundTimes := M_foundTimes) (M_w := M_w) (M_h := M_h) h
  refine ⟨?_, fun _ => trivial, fun _ => c2⟩
  have hV := hd.2.2.2.2.2.2
  rw [Bool.eq_iff_iff, isS_t]
  unfold fnX4_isSet
  rw [c1]
  have sh : (s >>> ((nI (X * Y * Z)).toInt64 &&& 63)) = 0 ↔ ∀ i, i < 64 → X * Y * Z ≤ i → sb s i = false := by
    rw [← Int64.toBitVec_inj, zb_shr s (by omega)]
    constructor
    · intro e i hi hni
      have h1 := congrArg (fun z => z.getLsbD (i - X * Y * Z)) e
      simp only [BitVec.getLsbD_sshiftRight] at h1
      rw [show X * Y * Z + (i - X * Y * Z) = i by omega, if_pos hi, decide_eq_false (by omega), Bool.not_false, Bool.true_and] at h1
      rw [show sb s i = s.toBitVec.getLsbD i from rfl, h1]
      exact BitVec.getLsbD_zero
    · intro e
      apply BitVec.eq_of_getLsbD_eq
      intro i hi
      rw [BitVec.getLsbD_sshiftRight]
      have z : (0 : Int64).toBitVec.getLsbD i = false := BitVec.getLsbD_zero
      rw [z]
      by_cases q : X * Y * Z + i < 64
      · rw [if_pos q, show s.toBitVec.getLsbD (X * Y * Z + i) = false from e _ q (by omega), Bool.and_false]
      · rw [if_neg q, BitVec.msb_eq_getLsbD_last, show s.toBitVec.getLsbD (64 - 1) = false from e 63 (by omega) (by omega), Bool.and_false]
  have nn : (∀ i, i < 64 → X * Y * Z ≤ i → sb s i = false) → ¬ s < 0 := fun e q => by
    rw [Int64.lt_iff_toInt_lt] at q
    have m : s.toBitVec.msb = false := by rw [BitVec.msb_eq_getLsbD_last]; exact e 63 (by omega) (by omega)
    have t : s.toInt = (s.toBitVec.toNat : Int) := by
      show s.toBitVec.toInt = _
      rw [BitVec.toInt_eq_msb_cond, m]; rfl
    rw [t, show (0 : Int64).toInt = 0 from rfl] at q
    omega
  constructor
  · intro q
    by_cases g : s < 0
    · rw [if_pos g] at q; exact absurd q (by decide)
    · rw [if_neg g] at q
      by_cases z : (s >>> ((nI (X * Y * Z)).toInt64 &&& 63)) = 0
      · exact sh.mp z
      · rw [if_neg z] at q; exact absurd q (by decide)
  · intro e
    rw [if_neg (nn e), if_pos (sh.mpr e)]
theorem isCell4_eq {sd : Nat → Int32} {X Y Z : Nat} (hd : dimOK X Y Z) (h : sdOK sd X Y Z) (p : Int32) : fnX4_isCell p M_thrown M_trace M_found M_foundSet M_foundTimes M_w M_h sd = decide (0 ≤ p.toInt ∧ p.toInt < (X * Y * Z : Nat)) ∧ prX4_isCell p M_thrown M_trace M_found M_foundSet M_foundTimes M_w M_h sd := by
  obtain ⟨c1, c2⟩ := cells_eq (M_thrown := M_thrown) (M_trace := M_trace) (M_found := M_found) (M_foundSet := M_foundSet) (M_foundTimes := M_foundTimes) (M_w := M_w) (M_h := M_h) h
  refine ⟨?_, c2⟩
  have hV := hd.2.2.2.2.2.2
  have hp := dim_pos hd
  unfold fnX4_isCell
  rw [c1, show nI (X * Y * Z) - 1 = nI (X * Y * Z - 1) from pk_sub (b := 1) hp, in_eq, Int32.toInt_toInt64, nI_toInt (by omega), show (0 : Int64).toInt = 0 from rfl, decide_eq_decide]
  omega
end M4
theorem bit_bI (s : Int64) {c : Nat} (hc : c < 64) : (if ((s >>> ((nI c).toInt64 &&& 63)) &&& (1 : Int64)) = (1 : Int64) then (1 : Int32) else 0) = bI (sb s c) := by
  by_cases h : sb s c = true
  · rw [if_pos ((zb_bit s hc).mpr h), h]; rfl
  · rw [if_neg (fun q => h ((zb_bit s hc).mp q))]
    cases hh : sb s c
    · rfl
    · exact absurd hh h
theorem rgtA_t {n : Nat} {hd : Nat → Int32} {S : Nat → Bool} : rgtA n hd S = true ↔ rgtP n hd S := decide_eq_true_iff
theorem rgtA_succ (n : Nat) (hd : Nat → Int32) (S : Nat → Bool) : rgtA (n + 1) hd S = (rgtA n hd S && !decide (hd n = (if S n = true then 2 else 1))) := by
  rw [Bool.eq_iff_iff, rgtA_t, Bool.and_eq_true, rgtA_t]
  constructor
  · intro h
    exact ⟨fun c hc => h c (by omega), by rw [decide_eq_false (h n (by omega))]; rfl⟩
  · intro ⟨h1, h2⟩ c hc
    rcases Nat.lt_or_ge c n with q | q
    · exact h1 c q
    · rw [show c = n by omega]
      intro z
      rw [decide_eq_true z] at h2; exact absurd h2 (by decide)

abbrev w1X4_skinOf (ad : Nat → Nat) (cA : Nat → ClassId) (M_thrown : Int32) (M_trace : Int64) (M_found : Int64) (M_foundSet : Int64) (M_foundTimes : Int64) (M_w : Int32) (M_h : Int32) (M_sides : Nat → Int32) (M_rules : Nat → Int32) (u : Unit) : va_W := [((ad 19), .inr (4, [.int M_thrown, .long M_trace, .ref (ad 20), .ref (ad 21), .ref (ad 22), .ref (ad 23), .ref (ad 24), .ref (ad 25), .ref (ad 26), .ref (ad 27), .ref (ad 28), .ref (ad 29), .ref (ad 30), .ref (ad 31), .long M_found, .long M_foundSet, .long M_foundTimes, .int M_w, .int M_h, .ref (ad 32), .ref (ad 33), .ref (ad 34)])), ((ad 20), .inl (cA 0, 3, .inl M_sides)), ((ad 23), .inl (cA 0, 7, .inl M_rules))]
abbrev wcX4_skinOf (ad : Nat → Nat) (cA : Nat → ClassId) (M_thrown : Int32) (M_trace : Int64) (M_found : Int64) (M_foundSet : Int64) (M_foundTimes : Int64) (M_w : Int32) (M_h : Int32) (M_sides : Nat → Int32) (M_rules : Nat → Int32) : va_W := [((ad 19), .inr (4, [.int M_thrown, .long M_trace, .ref (ad 20), .ref (ad 21), .ref (ad 22), .ref (ad 23), .ref (ad 24), .ref (ad 25), .ref (ad 26), .ref (ad 27), .ref (ad 28), .ref (ad 29), .ref (ad 30), .ref (ad 31), .long M_found, .long M_foundSet, .long M_foundTimes, .int M_w, .int M_h, .ref (ad 32), .ref (ad 33), .ref (ad 34)])), ((ad 20), .inl (cA 0, 3, .inl M_sides)), ((ad 23), .inl (cA 0, 7, .inl M_rules))]
def rmX4_skinOf : Room := { frames := 2, cells := 0, slots := 0, locals := 45 }
abbrev atX4_skinOf_0 (X : gX) (ad : Nat → Nat) (cA : Nat → ClassId) (p1 : Int64) (M_thrown : Int32) (M_trace : Int64) (M_found : Int64) (M_foundSet : Int64) (M_foundTimes : Int64) (M_w : Int32) (M_h : Int32) (M_sides : Nat → Int32) (M_rules : Nat → Int32) : Prop := gW X 0 0 [((ad 19), .inr (4, [.int M_thrown, .long M_trace, .ref (ad 20), .ref (ad 21), .ref (ad 22), .ref (ad 23), .ref (ad 24), .ref (ad 25), .ref (ad 26), .ref (ad 27), .ref (ad 28), .ref (ad 29), .ref (ad 30), .ref (ad 31), .long M_found, .long M_foundSet, .long M_foundTimes, .int M_w, .int M_h, .ref (ad 32), .ref (ad 33), .ref (ad 34)])), ((ad 20), .inl (cA 0, 3, .inl M_sides)), ((ad 23), .inl (cA 0, 7, .inl M_rules))] 9 [(0, .ref (ad 19)), (1, .long p1)] [] 0
abbrev atX4_skinOf_5 (X : gX) (ad : Nat → Nat) (cA : Nat → ClassId) (x1 : Int64) (x3 : Int64) (x5 : Int32) (M_thrown : Int32) (M_trace : Int64) (M_found : Int64) (M_foundSet : Int64) (M_foundTimes : Int64) (M_w : Int32) (M_h : Int32) (M_sides : Nat → Int32) (M_rules : Nat → Int32) : Prop := gW X 0 0 [((ad 19), .inr (4, [.int M_thrown, .long M_trace, .ref (ad 20), .ref (ad 21), .ref (ad 22), .ref (ad 23), .ref (ad 24), .ref (ad 25), .ref (ad 26), .ref (ad 27), .ref (ad 28), .ref (ad 29), .ref (ad 30), .ref (ad 31), .long M_found, .long M_foundSet, .long M_foundTimes, .int M_w, .int M_h, .ref (ad 32), .ref (ad 33), .ref (ad 34)])), ((ad 20), .inl (cA 0, 3, .inl M_sides)), ((ad 23), .inl (cA 0, 7, .inl M_rules))] 9 [(0, .ref (ad 19)), (1, .long x1), (3, .long x3), (5, .int x5)] [] 5
abbrev atX4_skinOf_61 (X : gX) (ad : Nat → Nat) (cA : Nat → ClassId) (x1 : Int64) (x3 : Int64) (x5 : Int32) (x6 : Int32) (x7 : Int32) (M_thrown : Int32) (M_trace : Int64) (M_found : Int64) (M_foundSet : Int64) (M_foundTimes : Int64) (M_w : Int32) (M_h : Int32) (M_sides : Nat → Int32) (M_rules : Nat → Int32) : Prop := gW X 0 0 [((ad 19), .inr (4, [.int M_thrown, .long M_trace, .ref (ad 20), .ref (ad 21), .ref (ad 22), .ref (ad 23), .ref (ad 24), .ref (ad 25), .ref (ad 26), .ref (ad 27), .ref (ad 28), .ref (ad 29), .ref (ad 30), .ref (ad 31), .long M_found, .long M_foundSet, .long M_foundTimes, .int M_w, .int M_h, .ref (ad 32), .ref (ad 33), .ref (ad 34)])), ((ad 20), .inl (cA 0, 3, .inl M_sides)), ((ad 23), .inl (cA 0, 7, .inl M_rules))] 9 [(0, .ref (ad 19)), (1, .long x1), (3, .long x3), (5, .int x5), (6, .int x6), (7, .int x7)] [] 61
theorem giX4_skinOf_X4 : ∀ w ∈ u_ws RX4 TX4 22, w ∈ wsX4_skinOf := by decide +kernel
theorem gfX4_skinOf_19 : gF wsX4_skinOf RX4 19 4 5 RX4 TX4 22 := ⟨giX4_skinOf_X4, by decide +kernel, rfl, by decide⟩
theorem gfX4_skinOf_7 : gF wsX4_skinOf RX4 7 4 2 RX4 TX4 22 := ⟨giX4_skinOf_X4, by decide +kernel, rfl, by decide⟩
set_option maxHeartbeats 4000000 in
set_option maxRecDepth 100000 in
theorem sgX4_skinOf_0 {X : gX} {ad : Nat → Nat} {cA : Nat → ClassId} {post : Int64 → (Unit) → Prop} {p1 : Int64} {M_thrown : Int32} {M_trace : Int64} {M_found : Int64} {M_foundSet : Int64} {M_foundTimes : Int64} {M_w : Int32} {M_h : Int32} {M_sides : Nat → Int32} {M_rules : Nat → Int32} (C : gC X (gT cA) cX4_skinOf 9 RX4 wsX4_skinOf rmX4_skinOf) (E : gEl X (some .long) (gT cA) 0 0 post (w1X4_skinOf ad cA M_thrown M_trace M_found M_foundSet M_foundTimes M_w M_h M_sides M_rules)) (h : atX4_skinOf_5 X ad cA p1 (0 : Int64) (0 : Int32) M_thrown M_trace M_found M_foundSet M_foundTimes M_w M_h M_sides M_rules) : atX4_skinOf_0 X ad cA p1 M_thrown M_trace M_found M_foundSet M_foundTimes M_w M_h M_sides M_rules := by
  refine g_lconst C dX4_skinOf_0 lk_0 ?_
  refine g_lstore_n (lv2 := [(0, .ref (ad 19)), (1, .long p1), (3, .long (0 : Int64))]) C dX4_skinOf_1 rfl (by decide) [1, 2, 0] rfl ?_
  refine g_iconst C dX4_skinOf_2 ik_0 ?_
  refine g_istore (lv2 := [(0, .ref (ad 19)), (1, .long p1), (3, .long (0 : Int64)), (5, .int (0 : Int32))]) C dX4_skinOf_3 (by decide) [1, 2, 3, 0] rfl ?_
  exact g_lv [0, 1, 2, 3] rfl h
set_option maxHeartbeats 4000000 in
set_option maxRecDepth 100000 in
theorem sgX4_skinOf_5 {X : gX} {ad : Nat → Nat} {cA : Nat → ClassId} {post : Int64 → (Unit) → Prop} {x1 : Int64} {x3 : Int64} {x5 : Int32} {M_thrown : Int32} {M_trace : Int64} {M_found : Int64} {M_foundSet : Int64} {M_foundTimes : Int64} {M_w : Int32} {M_h : Int32} {M_sides : Nat → Int32} {M_rules : Nat → Int32} (C : gC X (gT cA) cX4_skinOf 9 RX4 wsX4_skinOf rmX4_skinOf) (E : gEl X (some .long) (gT cA) 0 0 post (w1X4_skinOf ad cA M_thrown M_trace M_found M_foundSet M_foundTimes M_w M_h M_sides M_rules)) (h : prX4_cells M_thrown M_trace M_found M_foundSet M_foundTimes M_w M_h M_sides ∧ ((fnX4_cells M_thrown M_trace M_found M_foundSet M_foundTimes M_w M_h M_sides) ≤ x5 → post x3 ()) ∧ (¬ (fnX4_cells M_thrown M_trace M_found M_foundSet M_foundTimes M_w M_h M_sides) ≤ x5 → ∀ x6_5 : Int32, x6_5 = (if ((x1 >>> (x5.toInt64 &&& 63)) &&& (1 : Int64)) = (1 : Int64) then (1 : Int32) else (0 : Int32)) → ((x6_5 = 0 → True) ∧ (¬ x6_5 = 0 → vp_in (3 : Int32) 7 ∧ prX4_outsides x5 M_thrown M_trace M_found M_foundSet M_foundTimes M_w M_h M_sides)) ∧ ∀ x3_10 : Int64, x3_10 = (x3 + (if x6_5 = 0 then (0 : Int64) else (((M_rules (3 : Int32).toNatClampNeg) * (iI (outsZ (M_sides 0).toNatClampNeg (M_sides 1).toNatClampNeg (M_sides 2).toNatClampNeg x5.toNatClampNeg))).toInt64))) → atX4_skinOf_61 X ad cA x1 x3_10 x5 x6_5 (0 : Int32) M_thrown M_trace M_found M_foundSet M_foundTimes M_w M_h M_sides M_rules)) : atX4_skinOf_5 X ad cA x1 x3 x5 M_thrown M_trace M_found M_foundSet M_foundTimes M_w M_h M_sides M_rules := by
  refine g_iload C dX4_skinOf_5 3 rfl ?_
  refine g_aload_n C dX4_skinOf_7 rfl 0 rfl ?_
  obtain ⟨hi_1, h⟩ := h
  refine g_callVi (wr := [((ad 23), .inl (cA 0, 7, .inl M_rules))]) C (c_X4_cells ad cA M_thrown M_trace M_found M_foundSet M_foundTimes M_w M_h M_sides hi_1) gX4_skinOf_X4_cells rfl hde_X4_cells ⟨rfl, rfl⟩ (by decide) (by decide) [0, 1] [2] [1, 2, 0] rfl rfl rfl rfl (by decide) rfl (ws2 := fun u => [((ad 19), .inr (4, [.int M_thrown, .long M_trace, .ref (ad 20), .ref (ad 21), .ref (ad 22), .ref (ad 23), .ref (ad 24), .ref (ad 25), .ref (ad 26), .ref (ad 27), .ref (ad 28), .ref (ad 29), .ref (ad 30), .ref (ad 31), .long M_found, .long M_foundSet, .long M_foundTimes, .int M_w, .int M_h, .ref (ad 32), .ref (ad 33), .ref (ad 34)])), ((ad 20), .inl (cA 0, 3, .inl M_sides)), ((ad 23), .inl (cA 0, 7, .inl M_rules))]) (fun _ => rfl) 4 0 rfl rfl rfl (rest := [.int x5]) rfl (Nat.le_of_ble_eq_true rfl) dX4_skinOf_8 (fun r_2 u_2 hp_2 => ?_)
  subst hp_2
  change gW X 0 0 [((ad 19), .inr (4, [.int M_thrown, .long M_trace, .ref (ad 20), .ref (ad 21), .ref (ad 22), .ref (ad 23), .ref (ad 24), .ref (ad 25), .ref (ad 26), .ref (ad 27), .ref (ad 28), .ref (ad 29), .ref (ad 30), .ref (ad 31), .long M_found, .long M_foundSet, .long M_foundTimes, .int M_w, .int M_h, .ref (ad 32), .ref (ad 33), .ref (ad 34)])), ((ad 20), .inl (cA 0, 3, .inl M_sides)), ((ad 23), .inl (cA 0, 7, .inl M_rules))] 9 [(0, .ref (ad 19)), (1, .long x1), (3, .long x3), (5, .int x5)] [.int (fnX4_cells M_thrown M_trace M_found M_foundSet M_foundTimes M_w M_h M_sides), .int x5] 11
  refine g_icmp_ge (tgt := 160) C dX4_skinOf_11 (by decide) (fun c_3 => ?_) (fun c_3 => ?_)
  · replace h := h.1 c_3
    refine g_lload_n C dX4_skinOf_160 rfl 2 rfl ?_
    exact g_lret C E () h rfl dX4_skinOf_161
  · replace h := h.2 c_3
    refine g_lload_n C dX4_skinOf_14 rfl 1 rfl ?_
    refine g_iload C dX4_skinOf_15 3 rfl ?_
    refine g_lshr C dX4_skinOf_17 ?_
    refine g_lconst C dX4_skinOf_18 lk_1 ?_
    refine g_land C dX4_skinOf_19 ?_
    refine g_lconst C dX4_skinOf_20 lk_1 ?_
    have key : gW X 0 0 [((ad 19), .inr (4, [.int M_thrown, .long M_trace, .ref (ad 20), .ref (ad 21), .ref (ad 22), .ref (ad 23), .ref (ad 24), .ref (ad 25), .ref (ad 26), .ref (ad 27), .ref (ad 28), .ref (ad 29), .ref (ad 30), .ref (ad 31), .long M_found, .long M_foundSet, .long M_foundTimes, .int M_w, .int M_h, .ref (ad 32), .ref (ad 33), .ref (ad 34)])), ((ad 20), .inl (cA 0, 3, .inl M_sides)), ((ad 23), .inl (cA 0, 7, .inl M_rules))] 9 [(0, .ref (ad 19)), (1, .long x1), (3, .long x3), (5, .int x5)] [.int (if ((x1 >>> (x5.toInt64 &&& 63)) &&& (1 : Int64)) = (1 : Int64) then (1 : Int32) else (0 : Int32))] 30 := by
      refine g_topi (fun x6_5 ex6_5 => ?_)
      replace h := h x6_5 ex6_5
      refine g_istore (lv2 := [(0, .ref (ad 19)), (1, .long x1), (3, .long x3), (5, .int x5), (6, .int x6_5)]) C dX4_skinOf_30 (by decide) [1, 2, 3, 4, 0] rfl ?_
      refine g_lload_n C dX4_skinOf_32 rfl 2 rfl ?_
      refine g_iload C dX4_skinOf_33 4 rfl ?_
      obtain ⟨hr_56, h⟩ := h
      have key : gW X 0 0 [((ad 19), .inr (4, [.int M_thrown, .long M_trace, .ref (ad 20), .ref (ad 21), .ref (ad 22), .ref (ad 23), .ref (ad 24), .ref (ad 25), .ref (ad 26), .ref (ad 27), .ref (ad 28), .ref (ad 29), .ref (ad 30), .ref (ad 31), .long M_found, .long M_foundSet, .long M_foundTimes, .int M_w, .int M_h, .ref (ad 32), .ref (ad 33), .ref (ad 34)])), ((ad 20), .inl (cA 0, 3, .inl M_sides)), ((ad 23), .inl (cA 0, 7, .inl M_rules))] 9 [(0, .ref (ad 19)), (1, .long x1), (3, .long x3), (5, .int x5), (6, .int x6_5)] [.long (if x6_5 = 0 then (0 : Int64) else (((M_rules (3 : Int32).toNatClampNeg) * (iI (outsZ (M_sides 0).toNatClampNeg (M_sides 1).toNatClampNeg (M_sides 2).toNatClampNeg x5.toNatClampNeg))).toInt64)), .long x3] 56 := by
        refine g_ladd C dX4_skinOf_56 ?_
        refine g_topl (fun x3_10 ex3_10 => ?_)
        replace h := h x3_10 ex3_10
        refine g_lstore_n (lv2 := [(0, .ref (ad 19)), (1, .long x1), (3, .long x3_10), (5, .int x5), (6, .int x6_5)]) C dX4_skinOf_57 rfl (by decide) [1, 2, 0, 3, 4] rfl ?_
        refine g_iconst C dX4_skinOf_58 ik_0 ?_
        refine g_istore (lv2 := [(0, .ref (ad 19)), (1, .long x1), (3, .long x3_10), (5, .int x5), (6, .int x6_5), (7, .int (0 : Int32))]) C dX4_skinOf_59 (by decide) [1, 2, 3, 4, 5, 0] rfl ?_
        exact g_lv [0, 1, 2, 3, 4, 5] rfl h
      replace h := hr_56
      refine g_if_eq (tgt := 55) C dX4_skinOf_35 (by decide) (fun c_6 => ?_) (fun c_6 => ?_)
      · replace h := h.1 c_6
        refine g_lconst C dX4_skinOf_55 lk_0 ?_
        exact g_leaf (by simp only [if_pos c_6] at key; first | exact key | (simp only [if_pos c_6]; exact key) | exact absurd rfl c_6)
      · replace h := h.2 c_6
        refine g_aload_n C dX4_skinOf_38 rfl 0 rfl ?_
        refine g_get C gfX4_skinOf_19 0 rfl rfl dX4_skinOf_39 ?_
        refine g_iconst C dX4_skinOf_42 ik_3 ?_
        obtain ⟨hi_7, h⟩ := h
        refine g_iald C 2 0 rfl rfl hi_7 dX4_skinOf_43 ?_
        refine g_aload_n C dX4_skinOf_44 rfl 0 rfl ?_
        refine g_iload C dX4_skinOf_45 3 rfl ?_
        have hi_8 := h
        refine g_callVi (wr := [((ad 23), .inl (cA 0, 7, .inl M_rules))]) C (c_X4_outsides ad cA x5 M_thrown M_trace M_found M_foundSet M_foundTimes M_w M_h M_sides hi_8) gX4_skinOf_X4_outsides rfl hde_X4_outsides ⟨rfl, rfl⟩ (by decide) (by decide) [0, 1] [2] [1, 2, 0] rfl rfl rfl rfl (by decide) rfl (ws2 := fun u => [((ad 19), .inr (4, [.int M_thrown, .long M_trace, .ref (ad 20), .ref (ad 21), .ref (ad 22), .ref (ad 23), .ref (ad 24), .ref (ad 25), .ref (ad 26), .ref (ad 27), .ref (ad 28), .ref (ad 29), .ref (ad 30), .ref (ad 31), .long M_found, .long M_foundSet, .long M_foundTimes, .int M_w, .int M_h, .ref (ad 32), .ref (ad 33), .ref (ad 34)])), ((ad 20), .inl (cA 0, 3, .inl M_sides)), ((ad 23), .inl (cA 0, 7, .inl M_rules))]) (fun _ => rfl) 4 0 rfl rfl rfl (rest := [.int (M_rules (3 : Int32).toNatClampNeg), .long x3]) rfl (Nat.le_of_ble_eq_true rfl) dX4_skinOf_47 (fun r_9 u_9 hp_9 => ?_)
        subst hp_9
        change gW X 0 0 [((ad 19), .inr (4, [.int M_thrown, .long M_trace, .ref (ad 20), .ref (ad 21), .ref (ad 22), .ref (ad 23), .ref (ad 24), .ref (ad 25), .ref (ad 26), .ref (ad 27), .ref (ad 28), .ref (ad 29), .ref (ad 30), .ref (ad 31), .long M_found, .long M_foundSet, .long M_foundTimes, .int M_w, .int M_h, .ref (ad 32), .ref (ad 33), .ref (ad 34)])), ((ad 20), .inl (cA 0, 3, .inl M_sides)), ((ad 23), .inl (cA 0, 7, .inl M_rules))] 9 [(0, .ref (ad 19)), (1, .long x1), (3, .long x3), (5, .int x5), (6, .int x6_5)] [.int (iI (outsZ (M_sides 0).toNatClampNeg (M_sides 1).toNatClampNeg (M_sides 2).toNatClampNeg x5.toNatClampNeg)), .int (M_rules (3 : Int32).toNatClampNeg), .long x3] 50
        refine g_imul C dX4_skinOf_50 ?_
        refine g_i2l C dX4_skinOf_51 ?_
        refine g_goto (tgt := 56) C dX4_skinOf_52 (by decide) ?_
        exact g_leaf (by simp only [if_neg c_6] at key; first | exact key | (simp only [if_neg c_6]; exact key) | exact absurd rfl c_6)
    refine g_lcmp_ne (tgt := 29) C dX4_skinOf_21 dX4_skinOf_22 rfl (by decide) (fun c_4 => ?_) (fun c_4 => ?_)
    · refine g_iconst C dX4_skinOf_29 ik_0 ?_
      exact g_leaf (by simp only [if_neg c_4] at key; first | exact key | (simp only [if_neg c_4]; exact key) | exact absurd rfl c_4)
    · refine g_iconst C dX4_skinOf_25 ik_1 ?_
      refine g_goto (tgt := 30) C dX4_skinOf_26 (by decide) ?_
      exact g_leaf (by simp only [if_pos c_4] at key; first | exact key | (simp only [if_pos c_4]; exact key) | exact absurd rfl c_4)
set_option maxHeartbeats 4000000 in
set_option maxRecDepth 100000 in
theorem sgX4_skinOf_61 {X : gX} {ad : Nat → Nat} {cA : Nat → ClassId} {post : Int64 → (Unit) → Prop} {x1 : Int64} {x3 : Int64} {x5 : Int32} {x6 : Int32} {x7 : Int32} {M_thrown : Int32} {M_trace : Int64} {M_found : Int64} {M_foundSet : Int64} {M_foundTimes : Int64} {M_w : Int32} {M_h : Int32} {M_sides : Nat → Int32} {M_rules : Nat → Int32} (C : gC X (gT cA) cX4_skinOf 9 RX4 wsX4_skinOf rmX4_skinOf) (E : gEl X (some .long) (gT cA) 0 0 post (w1X4_skinOf ad cA M_thrown M_trace M_found M_foundSet M_foundTimes M_w M_h M_sides M_rules)) (h : ((3 : Int32) ≤ x7 → atX4_skinOf_5 X ad cA x1 x3 (x5 + 1) M_thrown M_trace M_found M_foundSet M_foundTimes M_w M_h M_sides M_rules) ∧ (¬ (3 : Int32) ≤ x7 → prX4_placeOf x5 x7 M_thrown M_trace M_found M_foundSet M_foundTimes M_w M_h M_sides ∧ vp_in x7 3 ∧ (((M_sides x7.toNatClampNeg) ≤ ((fnX4_placeOf x5 x7 M_thrown M_trace M_found M_foundSet M_foundTimes M_w M_h M_sides) + (1 : Int32)) → True) ∧ (¬ (M_sides x7.toNatClampNeg) ≤ ((fnX4_placeOf x5 x7 M_thrown M_trace M_found M_foundSet M_foundTimes M_w M_h M_sides) + (1 : Int32)) → prX4_stride x7 M_thrown M_trace M_found M_foundSet M_foundTimes M_w M_h M_sides ∧ (x6 = (if ((x1 >>> ((x5 + (fnX4_stride x7 M_thrown M_trace M_found M_foundSet M_foundTimes M_w M_h M_sides)).toInt64 &&& 63)) &&& (1 : Int64)) = (1 : Int64) then (1 : Int32) else (0 : Int32)) → True) ∧ (¬ x6 = (if ((x1 >>> ((x5 + (fnX4_stride x7 M_thrown M_trace M_found M_foundSet M_foundTimes M_w M_h M_sides)).toInt64 &&& 63)) &&& (1 : Int64)) = (1 : Int64) then (1 : Int32) else (0 : Int32)) → vp_in (6 : Int32) 7 ∧ prX4_placeOf x5 x7 M_thrown M_trace M_found M_foundSet M_foundTimes M_w M_h M_sides ∧ prX4_faceCost (M_rules (6 : Int32).toNatClampNeg) x7 (fnX4_placeOf x5 x7 M_thrown M_trace M_found M_foundSet M_foundTimes M_w M_h M_sides) M_thrown M_trace M_found M_foundSet M_foundTimes M_w M_h M_rules))) ∧ atX4_skinOf_61 X ad cA x1 (if (M_sides x7.toNatClampNeg) ≤ ((fnX4_placeOf x5 x7 M_thrown M_trace M_found M_foundSet M_foundTimes M_w M_h M_sides) + (1 : Int32)) then x3 else (x3 + (if x6 = (if ((x1 >>> ((x5 + (fnX4_stride x7 M_thrown M_trace M_found M_foundSet M_foundTimes M_w M_h M_sides)).toInt64 &&& 63)) &&& (1 : Int64)) = (1 : Int64) then (1 : Int32) else (0 : Int32)) then (0 : Int64) else ((fnX4_faceCost (M_rules (6 : Int32).toNatClampNeg) x7 (fnX4_placeOf x5 x7 M_thrown M_trace M_found M_foundSet M_foundTimes M_w M_h M_sides) M_thrown M_trace M_found M_foundSet M_foundTimes M_w M_h M_rules).toInt64)))) x5 x6 (x7 + 1) M_thrown M_trace M_found M_foundSet M_foundTimes M_w M_h M_sides M_rules)) : atX4_skinOf_61 X ad cA x1 x3 x5 x6 x7 M_thrown M_trace M_found M_foundSet M_foundTimes M_w M_h M_sides M_rules := by
  refine g_iload C dX4_skinOf_61 5 rfl ?_
  refine g_iconst C dX4_skinOf_63 ik_3 ?_
  refine g_icmp_ge (tgt := 154) C dX4_skinOf_64 (by decide) (fun c_11 => ?_) (fun c_11 => ?_)
  · replace h := h.1 c_11
    refine g_iinc (v := (x5 + 1)) (lv2 := [(0, .ref (ad 19)), (1, .long x1), (3, .long x3), (5, .int (x5 + 1)), (6, .int x6), (7, .int x7)]) C dX4_skinOf_154 3 rfl (by first | rfl | decide) (by decide) [1, 2, 3, 0, 4, 5] rfl ?_
    refine g_goto (tgt := 5) C dX4_skinOf_157 (by decide) ?_
    exact g_lv [0, 1, 2, 3] rfl h
  · replace h := h.2 c_11
    refine g_aload_n C dX4_skinOf_67 rfl 0 rfl ?_
    refine g_iload C dX4_skinOf_68 3 rfl ?_
    refine g_iload C dX4_skinOf_70 5 rfl ?_
    obtain ⟨hi_12, h⟩ := h
    refine g_callVi (wr := [((ad 23), .inl (cA 0, 7, .inl M_rules))]) C (c_X4_placeOf ad cA x5 x7 M_thrown M_trace M_found M_foundSet M_foundTimes M_w M_h M_sides hi_12) gX4_skinOf_X4_placeOf rfl hde_X4_placeOf ⟨rfl, rfl⟩ (by decide) (by decide) [0, 1] [2] [1, 2, 0] rfl rfl rfl rfl (by decide) rfl (ws2 := fun u => [((ad 19), .inr (4, [.int M_thrown, .long M_trace, .ref (ad 20), .ref (ad 21), .ref (ad 22), .ref (ad 23), .ref (ad 24), .ref (ad 25), .ref (ad 26), .ref (ad 27), .ref (ad 28), .ref (ad 29), .ref (ad 30), .ref (ad 31), .long M_found, .long M_foundSet, .long M_foundTimes, .int M_w, .int M_h, .ref (ad 32), .ref (ad 33), .ref (ad 34)])), ((ad 20), .inl (cA 0, 3, .inl M_sides)), ((ad 23), .inl (cA 0, 7, .inl M_rules))]) (fun _ => rfl) 4 0 rfl rfl rfl (rest := []) rfl (Nat.le_of_ble_eq_true rfl) dX4_skinOf_72 (fun r_13 u_13 hp_13 => ?_)
    subst hp_13
    change gW X 0 0 [((ad 19), .inr (4, [.int M_thrown, .long M_trace, .ref (ad 20), .ref (ad 21), .ref (ad 22), .ref (ad 23), .ref (ad 24), .ref (ad 25), .ref (ad 26), .ref (ad 27), .ref (ad 28), .ref (ad 29), .ref (ad 30), .ref (ad 31), .long M_found, .long M_foundSet, .long M_foundTimes, .int M_w, .int M_h, .ref (ad 32), .ref (ad 33), .ref (ad 34)])), ((ad 20), .inl (cA 0, 3, .inl M_sides)), ((ad 23), .inl (cA 0, 7, .inl M_rules))] 9 [(0, .ref (ad 19)), (1, .long x1), (3, .long x3), (5, .int x5), (6, .int x6), (7, .int x7)] [.int (fnX4_placeOf x5 x7 M_thrown M_trace M_found M_foundSet M_foundTimes M_w M_h M_sides)] 75
    refine g_iconst C dX4_skinOf_75 ik_1 ?_
    refine g_iadd C dX4_skinOf_76 ?_
    refine g_aload_n C dX4_skinOf_77 rfl 0 rfl ?_
    refine g_get C gfX4_skinOf_7 0 rfl rfl dX4_skinOf_78 ?_
    refine g_iload C dX4_skinOf_81 5 rfl ?_
    obtain ⟨hi_14, h⟩ := h
    refine g_iald C 1 0 rfl rfl hi_14 dX4_skinOf_83 ?_
    obtain ⟨hr_148, h⟩ := h
    have key : gW X 0 0 [((ad 19), .inr (4, [.int M_thrown, .long M_trace, .ref (ad 20), .ref (ad 21), .ref (ad 22), .ref (ad 23), .ref (ad 24), .ref (ad 25), .ref (ad 26), .ref (ad 27), .ref (ad 28), .ref (ad 29), .ref (ad 30), .ref (ad 31), .long M_found, .long M_foundSet, .long M_foundTimes, .int M_w, .int M_h, .ref (ad 32), .ref (ad 33), .ref (ad 34)])), ((ad 20), .inl (cA 0, 3, .inl M_sides)), ((ad 23), .inl (cA 0, 7, .inl M_rules))] 9 [(0, .ref (ad 19)), (1, .long x1), (3, .long (if (M_sides x7.toNatClampNeg) ≤ ((fnX4_placeOf x5 x7 M_thrown M_trace M_found M_foundSet M_foundTimes M_w M_h M_sides) + (1 : Int32)) then x3 else (x3 + (if x6 = (if ((x1 >>> ((x5 + (fnX4_stride x7 M_thrown M_trace M_found M_foundSet M_foundTimes M_w M_h M_sides)).toInt64 &&& 63)) &&& (1 : Int64)) = (1 : Int64) then (1 : Int32) else (0 : Int32)) then (0 : Int64) else ((fnX4_faceCost (M_rules (6 : Int32).toNatClampNeg) x7 (fnX4_placeOf x5 x7 M_thrown M_trace M_found M_foundSet M_foundTimes M_w M_h M_sides) M_thrown M_trace M_found M_foundSet M_foundTimes M_w M_h M_rules).toInt64))))), (5, .int x5), (6, .int x6), (7, .int x7)] [] 148 := by
      refine g_iinc (v := (x7 + 1)) (lv2 := [(0, .ref (ad 19)), (1, .long x1), (3, .long (if (M_sides x7.toNatClampNeg) ≤ ((fnX4_placeOf x5 x7 M_thrown M_trace M_found M_foundSet M_foundTimes M_w M_h M_sides) + (1 : Int32)) then x3 else (x3 + (if x6 = (if ((x1 >>> ((x5 + (fnX4_stride x7 M_thrown M_trace M_found M_foundSet M_foundTimes M_w M_h M_sides)).toInt64 &&& 63)) &&& (1 : Int64)) = (1 : Int64) then (1 : Int32) else (0 : Int32)) then (0 : Int64) else ((fnX4_faceCost (M_rules (6 : Int32).toNatClampNeg) x7 (fnX4_placeOf x5 x7 M_thrown M_trace M_found M_foundSet M_foundTimes M_w M_h M_sides) M_thrown M_trace M_found M_foundSet M_foundTimes M_w M_h M_rules).toInt64))))), (5, .int x5), (6, .int x6), (7, .int (x7 + 1))]) C dX4_skinOf_148 5 rfl (by first | rfl | decide) (by decide) [1, 2, 3, 4, 5, 0] rfl ?_
      refine g_goto (tgt := 61) C dX4_skinOf_151 (by decide) ?_
      exact g_lv [0, 1, 2, 3, 4, 5] rfl h
    replace h := hr_148
    refine g_icmp_ge (tgt := 148) C dX4_skinOf_84 (by decide) (fun c_15 => ?_) (fun c_15 => ?_)
    · replace h := h.1 c_15
      exact g_leaf (by simp only [if_pos c_15] at key; first | exact key | (simp only [if_pos c_15]; exact key) | exact absurd rfl c_15)
    · replace h := h.2 c_15
      refine g_lload_n C dX4_skinOf_87 rfl 1 rfl ?_
      refine g_iload C dX4_skinOf_88 3 rfl ?_
      refine g_aload_n C dX4_skinOf_90 rfl 0 rfl ?_
      refine g_iload C dX4_skinOf_91 5 rfl ?_
      obtain ⟨hi_16, h⟩ := h
      refine g_callVi (wr := [((ad 23), .inl (cA 0, 7, .inl M_rules))]) C (c_X4_stride ad cA x7 M_thrown M_trace M_found M_foundSet M_foundTimes M_w M_h M_sides hi_16) gX4_skinOf_X4_stride rfl hde_X4_stride ⟨rfl, rfl⟩ (by decide) (by decide) [0, 1] [2] [1, 2, 0] rfl rfl rfl rfl (by decide) rfl (ws2 := fun u => [((ad 19), .inr (4, [.int M_thrown, .long M_trace, .ref (ad 20), .ref (ad 21), .ref (ad 22), .ref (ad 23), .ref (ad 24), .ref (ad 25), .ref (ad 26), .ref (ad 27), .ref (ad 28), .ref (ad 29), .ref (ad 30), .ref (ad 31), .long M_found, .long M_foundSet, .long M_foundTimes, .int M_w, .int M_h, .ref (ad 32), .ref (ad 33), .ref (ad 34)])), ((ad 20), .inl (cA 0, 3, .inl M_sides)), ((ad 23), .inl (cA 0, 7, .inl M_rules))]) (fun _ => rfl) 4 0 rfl rfl rfl (rest := [.int x5, .long x1]) rfl (Nat.le_of_ble_eq_true rfl) dX4_skinOf_93 (fun r_17 u_17 hp_17 => ?_)
      subst hp_17
      change gW X 0 0 [((ad 19), .inr (4, [.int M_thrown, .long M_trace, .ref (ad 20), .ref (ad 21), .ref (ad 22), .ref (ad 23), .ref (ad 24), .ref (ad 25), .ref (ad 26), .ref (ad 27), .ref (ad 28), .ref (ad 29), .ref (ad 30), .ref (ad 31), .long M_found, .long M_foundSet, .long M_foundTimes, .int M_w, .int M_h, .ref (ad 32), .ref (ad 33), .ref (ad 34)])), ((ad 20), .inl (cA 0, 3, .inl M_sides)), ((ad 23), .inl (cA 0, 7, .inl M_rules))] 9 [(0, .ref (ad 19)), (1, .long x1), (3, .long x3), (5, .int x5), (6, .int x6), (7, .int x7)] [.int (fnX4_stride x7 M_thrown M_trace M_found M_foundSet M_foundTimes M_w M_h M_sides), .int x5, .long x1] 96
      refine g_iadd C dX4_skinOf_96 ?_
      refine g_lshr C dX4_skinOf_97 ?_
      refine g_lconst C dX4_skinOf_98 lk_1 ?_
      refine g_land C dX4_skinOf_99 ?_
      refine g_lconst C dX4_skinOf_100 lk_1 ?_
      have key : gW X 0 0 [((ad 19), .inr (4, [.int M_thrown, .long M_trace, .ref (ad 20), .ref (ad 21), .ref (ad 22), .ref (ad 23), .ref (ad 24), .ref (ad 25), .ref (ad 26), .ref (ad 27), .ref (ad 28), .ref (ad 29), .ref (ad 30), .ref (ad 31), .long M_found, .long M_foundSet, .long M_foundTimes, .int M_w, .int M_h, .ref (ad 32), .ref (ad 33), .ref (ad 34)])), ((ad 20), .inl (cA 0, 3, .inl M_sides)), ((ad 23), .inl (cA 0, 7, .inl M_rules))] 9 [(0, .ref (ad 19)), (1, .long x1), (3, .long x3), (5, .int x5), (6, .int x6), (7, .int x7)] [.int (if ((x1 >>> ((x5 + (fnX4_stride x7 M_thrown M_trace M_found M_foundSet M_foundTimes M_w M_h M_sides)).toInt64 &&& 63)) &&& (1 : Int64)) = (1 : Int64) then (1 : Int32) else (0 : Int32))] 110 := by
        refine g_istore (lv2 := [(0, .ref (ad 19)), (1, .long x1), (3, .long x3), (5, .int x5), (6, .int x6), (7, .int x7), (8, .int (if ((x1 >>> ((x5 + (fnX4_stride x7 M_thrown M_trace M_found M_foundSet M_foundTimes M_w M_h M_sides)).toInt64 &&& 63)) &&& (1 : Int64)) = (1 : Int64) then (1 : Int32) else (0 : Int32)))]) C dX4_skinOf_110 (by decide) [1, 2, 3, 4, 5, 6, 0] rfl ?_
        refine g_lload_n C dX4_skinOf_112 rfl 2 rfl ?_
        refine g_iload C dX4_skinOf_113 4 rfl ?_
        refine g_iload C dX4_skinOf_115 6 rfl ?_
        have hr_146 := h
        have key : gW X 0 0 [((ad 19), .inr (4, [.int M_thrown, .long M_trace, .ref (ad 20), .ref (ad 21), .ref (ad 22), .ref (ad 23), .ref (ad 24), .ref (ad 25), .ref (ad 26), .ref (ad 27), .ref (ad 28), .ref (ad 29), .ref (ad 30), .ref (ad 31), .long M_found, .long M_foundSet, .long M_foundTimes, .int M_w, .int M_h, .ref (ad 32), .ref (ad 33), .ref (ad 34)])), ((ad 20), .inl (cA 0, 3, .inl M_sides)), ((ad 23), .inl (cA 0, 7, .inl M_rules))] 9 [(0, .ref (ad 19)), (1, .long x1), (3, .long x3), (5, .int x5), (6, .int x6), (7, .int x7), (8, .int (if ((x1 >>> ((x5 + (fnX4_stride x7 M_thrown M_trace M_found M_foundSet M_foundTimes M_w M_h M_sides)).toInt64 &&& 63)) &&& (1 : Int64)) = (1 : Int64) then (1 : Int32) else (0 : Int32)))] [.long (if x6 = (if ((x1 >>> ((x5 + (fnX4_stride x7 M_thrown M_trace M_found M_foundSet M_foundTimes M_w M_h M_sides)).toInt64 &&& 63)) &&& (1 : Int64)) = (1 : Int64) then (1 : Int32) else (0 : Int32)) then (0 : Int64) else ((fnX4_faceCost (M_rules (6 : Int32).toNatClampNeg) x7 (fnX4_placeOf x5 x7 M_thrown M_trace M_found M_foundSet M_foundTimes M_w M_h M_sides) M_thrown M_trace M_found M_foundSet M_foundTimes M_w M_h M_rules).toInt64)), .long x3] 146 := by
          refine g_ladd C dX4_skinOf_146 ?_
          refine g_lstore_n (lv2 := [(0, .ref (ad 19)), (1, .long x1), (3, .long (x3 + (if x6 = (if ((x1 >>> ((x5 + (fnX4_stride x7 M_thrown M_trace M_found M_foundSet M_foundTimes M_w M_h M_sides)).toInt64 &&& 63)) &&& (1 : Int64)) = (1 : Int64) then (1 : Int32) else (0 : Int32)) then (0 : Int64) else ((fnX4_faceCost (M_rules (6 : Int32).toNatClampNeg) x7 (fnX4_placeOf x5 x7 M_thrown M_trace M_found M_foundSet M_foundTimes M_w M_h M_sides) M_thrown M_trace M_found M_foundSet M_foundTimes M_w M_h M_rules).toInt64)))), (5, .int x5), (6, .int x6), (7, .int x7), (8, .int (if ((x1 >>> ((x5 + (fnX4_stride x7 M_thrown M_trace M_found M_foundSet M_foundTimes M_w M_h M_sides)).toInt64 &&& 63)) &&& (1 : Int64)) = (1 : Int64) then (1 : Int32) else (0 : Int32)))]) C dX4_skinOf_147 rfl (by decide) [1, 2, 0, 3, 4, 5, 6] rfl ?_
          exact g_lv [0, 1, 2, 3, 4, 5] rfl (by simp only [if_neg c_15] at key; first | exact key | (simp only [if_neg c_15]; exact key))
        replace h := hr_146
        refine g_icmp_eq (tgt := 145) C dX4_skinOf_117 (by decide) (fun c_19 => ?_) (fun c_19 => ?_)
        · replace h := h.1 c_19
          refine g_lconst C dX4_skinOf_145 lk_0 ?_
          exact g_leaf (by simp only [if_pos c_19] at key; first | exact key | (simp only [if_pos c_19]; exact key) | exact absurd rfl c_19)
        · replace h := h.2 c_19
          refine g_aload_n C dX4_skinOf_120 rfl 0 rfl ?_
          refine g_aload_n C dX4_skinOf_121 rfl 0 rfl ?_
          refine g_get C gfX4_skinOf_19 0 rfl rfl dX4_skinOf_122 ?_
          refine g_bipush C dX4_skinOf_125 bk_6 ?_
          obtain ⟨hi_20, h⟩ := h
          refine g_iald C 2 0 rfl rfl hi_20 dX4_skinOf_127 ?_
          refine g_iload C dX4_skinOf_128 5 rfl ?_
          refine g_aload_n C dX4_skinOf_130 rfl 0 rfl ?_
          refine g_iload C dX4_skinOf_131 3 rfl ?_
          refine g_iload C dX4_skinOf_133 5 rfl ?_
          obtain ⟨hi_21, h⟩ := h
          refine g_callVi (wr := [((ad 23), .inl (cA 0, 7, .inl M_rules))]) C (c_X4_placeOf ad cA x5 x7 M_thrown M_trace M_found M_foundSet M_foundTimes M_w M_h M_sides hi_21) gX4_skinOf_X4_placeOf rfl hde_X4_placeOf ⟨rfl, rfl⟩ (by decide) (by decide) [0, 1] [2] [1, 2, 0] rfl rfl rfl rfl (by decide) rfl (ws2 := fun u => [((ad 19), .inr (4, [.int M_thrown, .long M_trace, .ref (ad 20), .ref (ad 21), .ref (ad 22), .ref (ad 23), .ref (ad 24), .ref (ad 25), .ref (ad 26), .ref (ad 27), .ref (ad 28), .ref (ad 29), .ref (ad 30), .ref (ad 31), .long M_found, .long M_foundSet, .long M_foundTimes, .int M_w, .int M_h, .ref (ad 32), .ref (ad 33), .ref (ad 34)])), ((ad 20), .inl (cA 0, 3, .inl M_sides)), ((ad 23), .inl (cA 0, 7, .inl M_rules))]) (fun _ => rfl) 4 0 rfl rfl rfl (rest := [.int x7, .int (M_rules (6 : Int32).toNatClampNeg), .ref (ad 19), .long x3]) rfl (Nat.le_of_ble_eq_true rfl) dX4_skinOf_135 (fun r_22 u_22 hp_22 => ?_)
          subst hp_22
          change gW X 0 0 [((ad 19), .inr (4, [.int M_thrown, .long M_trace, .ref (ad 20), .ref (ad 21), .ref (ad 22), .ref (ad 23), .ref (ad 24), .ref (ad 25), .ref (ad 26), .ref (ad 27), .ref (ad 28), .ref (ad 29), .ref (ad 30), .ref (ad 31), .long M_found, .long M_foundSet, .long M_foundTimes, .int M_w, .int M_h, .ref (ad 32), .ref (ad 33), .ref (ad 34)])), ((ad 20), .inl (cA 0, 3, .inl M_sides)), ((ad 23), .inl (cA 0, 7, .inl M_rules))] 9 [(0, .ref (ad 19)), (1, .long x1), (3, .long x3), (5, .int x5), (6, .int x6), (7, .int x7), (8, .int (if ((x1 >>> ((x5 + (fnX4_stride x7 M_thrown M_trace M_found M_foundSet M_foundTimes M_w M_h M_sides)).toInt64 &&& 63)) &&& (1 : Int64)) = (1 : Int64) then (1 : Int32) else (0 : Int32)))] [.int (fnX4_placeOf x5 x7 M_thrown M_trace M_found M_foundSet M_foundTimes M_w M_h M_sides), .int x7, .int (M_rules (6 : Int32).toNatClampNeg), .ref (ad 19), .long x3] 138
          have hi_23 := h
          refine g_callVi (wr := [((ad 20), .inl (cA 0, 3, .inl M_sides))]) C (c_X4_faceCost ad cA (M_rules (6 : Int32).toNatClampNeg) x7 (fnX4_placeOf x5 x7 M_thrown M_trace M_found M_foundSet M_foundTimes M_w M_h M_sides) M_thrown M_trace M_found M_foundSet M_foundTimes M_w M_h M_rules hi_23) gX4_skinOf_X4_faceCost rfl hde_X4_faceCost ⟨rfl, rfl⟩ (by decide) (by decide) [0, 2] [1] [1, 0, 2] rfl rfl rfl rfl (by decide) rfl (ws2 := fun u => [((ad 19), .inr (4, [.int M_thrown, .long M_trace, .ref (ad 20), .ref (ad 21), .ref (ad 22), .ref (ad 23), .ref (ad 24), .ref (ad 25), .ref (ad 26), .ref (ad 27), .ref (ad 28), .ref (ad 29), .ref (ad 30), .ref (ad 31), .long M_found, .long M_foundSet, .long M_foundTimes, .int M_w, .int M_h, .ref (ad 32), .ref (ad 33), .ref (ad 34)])), ((ad 20), .inl (cA 0, 3, .inl M_sides)), ((ad 23), .inl (cA 0, 7, .inl M_rules))]) (fun _ => rfl) 4 0 rfl rfl rfl (rest := [.long x3]) rfl (Nat.le_of_ble_eq_true rfl) dX4_skinOf_138 (fun r_24 u_24 hp_24 => ?_)
          subst hp_24
          change gW X 0 0 [((ad 19), .inr (4, [.int M_thrown, .long M_trace, .ref (ad 20), .ref (ad 21), .ref (ad 22), .ref (ad 23), .ref (ad 24), .ref (ad 25), .ref (ad 26), .ref (ad 27), .ref (ad 28), .ref (ad 29), .ref (ad 30), .ref (ad 31), .long M_found, .long M_foundSet, .long M_foundTimes, .int M_w, .int M_h, .ref (ad 32), .ref (ad 33), .ref (ad 34)])), ((ad 20), .inl (cA 0, 3, .inl M_sides)), ((ad 23), .inl (cA 0, 7, .inl M_rules))] 9 [(0, .ref (ad 19)), (1, .long x1), (3, .long x3), (5, .int x5), (6, .int x6), (7, .int x7), (8, .int (if ((x1 >>> ((x5 + (fnX4_stride x7 M_thrown M_trace M_found M_foundSet M_foundTimes M_w M_h M_sides)).toInt64 &&& 63)) &&& (1 : Int64)) = (1 : Int64) then (1 : Int32) else (0 : Int32)))] [.int (fnX4_faceCost (M_rules (6 : Int32).toNatClampNeg) x7 (fnX4_placeOf x5 x7 M_thrown M_trace M_found M_foundSet M_foundTimes M_w M_h M_sides) M_thrown M_trace M_found M_foundSet M_foundTimes M_w M_h M_rules), .long x3] 141
          refine g_i2l C dX4_skinOf_141 ?_
          refine g_goto (tgt := 146) C dX4_skinOf_142 (by decide) ?_
          exact g_leaf (by simp only [if_neg c_19] at key; first | exact key | (simp only [if_neg c_19]; exact key) | exact absurd rfl c_19)
      refine g_lcmp_ne (tgt := 109) C dX4_skinOf_101 dX4_skinOf_102 rfl (by decide) (fun c_18 => ?_) (fun c_18 => ?_)
      · refine g_iconst C dX4_skinOf_109 ik_0 ?_
        exact g_leaf (by simp only [if_neg c_18] at key; first | exact key | (simp only [if_neg c_18]; exact key) | exact absurd rfl c_18)
      · refine g_iconst C dX4_skinOf_105 ik_1 ?_
        refine g_goto (tgt := 110) C dX4_skinOf_106 (by decide) ?_
        exact g_leaf (by simp only [if_pos c_18] at key; first | exact key | (simp only [if_pos c_18]; exact key) | exact absurd rfl c_18)
def prX4_skinOf (dx : Nat) (dy : Nat) (dz : Nat) (p1 : Int64) (M_thrown : Int32) (M_trace : Int64) (M_found : Int64) (M_foundSet : Int64) (M_foundTimes : Int64) (M_w : Int32) (M_h : Int32) (M_sides : Nat → Int32) (M_rules : Nat → Int32) : Prop := dimOK dx dy dz ∧ sdOK M_sides dx dy dz ∧ ruOK M_rules
def po_X4_skinOf (ad : Nat → Nat) (cA : Nat → ClassId) (dx : Nat) (dy : Nat) (dz : Nat) (p1 : Int64) (M_thrown : Int32) (M_trace : Int64) (M_found : Int64) (M_foundSet : Int64) (M_foundTimes : Int64) (M_w : Int32) (M_h : Int32) (M_sides : Nat → Int32) (M_rules : Nat → Int32) (r : Int64) (u : Unit) : Prop := r = lI (skZ dx dy dz M_rules (sb p1))
set_option maxHeartbeats 4000000 in
set_option maxRecDepth 100000 in
theorem c_X4_skinOf (ad : Nat → Nat) (cA : Nat → ClassId) (dx : Nat) (dy : Nat) (dz : Nat) (p1 : Int64) (M_thrown : Int32) (M_trace : Int64) (M_found : Int64) (M_foundSet : Int64) (M_foundTimes : Int64) (M_w : Int32) (M_h : Int32) (M_sides : Nat → Int32) (M_rules : Nat → Int32) (hq : prX4_skinOf dx dy dz p1 M_thrown M_trace M_found M_foundSet M_foundTimes M_w M_h M_sides M_rules) : ∀ (l : Launch) (D : va_G), gMl (S := Unit) l yX4_skinOf wsX4_skinOf rmX4_skinOf D (gT cA) 0 0 [.ref (ad 19), .long p1] (wcX4_skinOf ad cA M_thrown M_trace M_found M_foundSet M_foundTimes M_w M_h M_sides M_rules) (po_X4_skinOf ad cA dx dy dz p1 M_thrown M_trace M_found M_foundSet M_foundTimes M_w M_h M_sides M_rules) (w1X4_skinOf ad cA M_thrown M_trace M_found M_foundSet M_foundTimes M_w M_h M_sides M_rules) := by
  intro l D
  unfold prX4_skinOf at hq
  refine g_enterl (cc := cX4_skinOf) (nL := 9) (ret := (some .long)) (by decide) rfl (Nat.le_of_ble_eq_true rfl) rfl (fun X C E => ?_)
  obtain ⟨hd, hs, hr⟩ := hq
  have hV := hd.2.2.2.2.2.2
  have s0 : (M_sides 0).toNatClampNeg = dx := by rw [hs.1]; exact nI_clamp (by have := hd.2.1; omega)
  have s1 : (M_sides 1).toNatClampNeg = dy := by rw [hs.2.1]; exact nI_clamp (by have := hd.2.2.2.1; omega)
  have s2 : (M_sides 2).toNatClampNeg = dz := by rw [hs.2.2]; exact nI_clamp (by have := hd.2.2.2.2.2.1; omega)
  obtain ⟨c1, c2⟩ := cells_eq (M_thrown := M_thrown) (M_trace := M_trace) (M_found := M_found) (M_foundSet := M_foundSet) (M_foundTimes := M_foundTimes) (M_w := M_w) (M_h := M_h) hs
  obtain ⟨kd, hkd, hru6⟩ := hr.2.2.2
  have ekd : kdN M_rules = kd := by unfold kdN; rw [hru6]; exact nI_clamp (by omega)
  have fin : ∀ v, v = lI (sumZ (fun c => (if sb p1 c = true then (M_rules 3).toInt * outsZ dx dy dz c else 0) + sumZ (fun k => onw dx dy dz M_rules (sb p1) c k) 3) (dx * dy * dz)) → po_X4_skinOf ad cA dx dy dz p1 M_thrown M_trace M_found M_foundSet M_foundTimes M_w M_h M_sides M_rules v () := fun v e => by
    show v = _
    rw [e, sumZ_add, sumZ_comm]; rfl
  generalize hA : (fun c => if sb p1 c = true then (M_rules 3).toInt * outsZ dx dy dz c else 0) = A at fin
  have fin2 : ∀ v, v = lI (sumZ (fun c => A c + sumZ (fun k => onw dx dy dz M_rules (sb p1) c k) 3) (dx * dy * dz)) → po_X4_skinOf ad cA dx dy dz p1 M_thrown M_trace M_found M_foundSet M_foundTimes M_w M_h M_sides M_rules v () := fun v e => fin v (by rw [e, ← hA])
  generalize ht : (fun c => A c + sumZ (fun k => onw dx dy dz M_rules (sb p1) c k) 3) = t at fin2
  clear fin
  have inner : ∀ (c : Nat), c < dx * dy * dz → atX4_skinOf_5 X ad cA p1 (lI (sumZ t (c + 1))) (nI (c + 1)) M_thrown M_trace M_found M_foundSet M_foundTimes M_w M_h M_sides M_rules → ∀ k, k ≤ 3 → atX4_skinOf_61 X ad cA p1 (lI (sumZ t c + A c + sumZ (fun k => onw dx dy dz M_rules (sb p1) c k) k)) (nI c) (bI (sb p1 c)) (nI k) M_thrown M_trace M_found M_foundSet M_foundTimes M_w M_h M_sides M_rules := by
    intro c hc nx k hk'
    refine up_loop (P := fun k => atX4_skinOf_61 X ad cA p1 (lI (sumZ t c + A c + sumZ (fun k => onw dx dy dz M_rules (sb p1) c k) k)) (nI c) (bI (sb p1 c)) (nI k) M_thrown M_trace M_found M_foundSet M_foundTimes M_w M_h M_sides M_rules) 3 ?_ (fun k hk ih => ?_) k hk'
    · refine sgX4_skinOf_61 C E ⟨fun _ => ?_, fun c => absurd (i32_le_refl _) c⟩
      rw [nI_1 c]
      have e : sumZ t (c + 1) = sumZ t c + A c + sumZ (fun k => onw dx dy dz M_rules (sb p1) c k) 3 := by
        rw [show sumZ t (c + 1) = sumZ t c + t c from rfl, ← ht]; dsimp only; omega
      rw [← e]; exact nx
    · obtain ⟨p1', p2'⟩ := place_eq (M_thrown := M_thrown) (M_trace := M_trace) (M_found := M_found) (M_foundSet := M_foundSet) (M_foundTimes := M_foundTimes) (M_w := M_w) (M_h := M_h) hd hs hc hk
      obtain ⟨q1, q2⟩ := stride_eq (M_thrown := M_thrown) (M_trace := M_trace) (M_found := M_found) (M_foundSet := M_foundSet) (M_foundTimes := M_foundTimes) (M_w := M_w) (M_h := M_h) hs hk
      obtain ⟨f1, f2, f3⟩ := geo_f hd hc hk
      obtain ⟨y1, y2⟩ := face_eq (M_thrown := M_thrown) (M_trace := M_trace) (M_found := M_found) (M_foundSet := M_foundSet) (M_foundTimes := M_foundTimes) (M_w := M_w) (M_h := M_h) hr hkd hk f1
      have bd := bxD_le hd k
      have bs := bxS_le hd k
      refine sgX4_skinOf_61 C E ⟨fun c => absurd c (nI_ge (b := 3) hk (by decide)), fun _ => ?_⟩
      rw [nI_clamp (n := k) (by omega), sd_at hs hk, p1', q1, show M_rules (6 : Int32).toNatClampNeg = nI kd from hru6, show nI (bxP dx dy dz c k) + 1 = nI (bxP dx dy dz c k + 1) from (nI_1 _), nI_add, bit_bI p1 (by omega), nI_1 k]
      refine ⟨p2', vp_in_nI hk (by decide), ⟨fun _ => trivial, fun _ => ⟨q2, fun _ => trivial, fun _ => ⟨vi_6_7, p2', y2⟩⟩⟩, ?_⟩
      have le : nI (bxD dx dy dz k) ≤ nI (bxP dx dy dz c k + 1) ↔ ¬ bxP dx dy dz c k + 1 < bxD dx dy dz k := by rw [nI_leI (by omega) (by omega)]; omega
      have e : (if nI (bxD dx dy dz k) ≤ nI (bxP dx dy dz c k + 1) then lI (sumZ t c + A c + sumZ (fun k => onw dx dy dz M_rules (sb p1) c k) k) else (lI (sumZ t c + A c + sumZ (fun k => onw dx dy dz M_rules (sb p1) c k) k) + (if bI (sb p1 c) = bI (sb p1 (c + bxS dx dy k)) then (0 : Int64) else ((fnX4_faceCost (nI kd) (nI k) (nI (bxP dx dy dz c k)) M_thrown M_trace M_found M_foundSet M_foundTimes M_w M_h M_rules).toInt64)))) = lI (sumZ t c + A c + sumZ (fun k => onw dx dy dz M_rules (sb p1) c k) (k + 1)) := by
        rw [show sumZ (fun k => onw dx dy dz M_rules (sb p1) c k) (k + 1) = sumZ (fun k => onw dx dy dz M_rules (sb p1) c k) k + onw dx dy dz M_rules (sb p1) c k from rfl, ← Int.add_assoc]
        generalize sumZ t c + A c + sumZ (fun k => onw dx dy dz M_rules (sb p1) c k) k = z
        unfold onw
        by_cases q : bxP dx dy dz c k + 1 < bxD dx dy dz k
        · rw [if_neg (fun z => le.mp z q), if_pos q]
          by_cases s : sb p1 (c + bxS dx dy k) = sb p1 c
          · rw [if_pos (bI_inj.mpr s.symm), if_pos s, Int.add_zero, Int64.add_zero]
          · have b := sc_bd hr (kd := kd) hk (bxP dx dy dz c k)
            rw [if_neg (fun z => s (bI_inj.mp z).symm), if_neg s, y1, iI_long (by omega) (by omega), lI_add, ekd]
        · rw [if_pos (le.mpr q), if_neg q, Int.add_zero]
      rw [e]; exact ih
  have outer : ∀ c, c ≤ dx * dy * dz → atX4_skinOf_5 X ad cA p1 (lI (sumZ t c)) (nI c) M_thrown M_trace M_found M_foundSet M_foundTimes M_w M_h M_sides M_rules := by
    intro c hc'
    refine up_loop (P := fun c => atX4_skinOf_5 X ad cA p1 (lI (sumZ t c)) (nI c) M_thrown M_trace M_found M_foundSet M_foundTimes M_w M_h M_sides M_rules) (dx * dy * dz) ?_ (fun c hc ih => ?_) c hc'
    · refine sgX4_skinOf_5 C E ?_
      rw [c1]
      exact ⟨c2, fun _ => fin2 _ rfl, fun c => absurd (i32_le_refl _) c⟩
    · refine sgX4_skinOf_5 C E ?_
      rw [c1, bit_bI p1 (by omega), s0, s1, s2, nI_clamp (n := c) (by omega)]
      refine ⟨c2, fun c => absurd c (nI_ge hc (by omega)), fun _ x6 e6 => ⟨⟨fun _ => trivial, fun _ => ⟨vi_3_7, dx, dy, dz, c, hd, hs, hc, rfl⟩⟩, fun x3 e3 => ?_⟩⟩
      have r3 := hr.1 3 (by decide)
      have ob := outsZ_bd dx dy dz c
      have m1 : 0 ≤ (M_rules 3).toInt * outsZ dx dy dz c := Int.mul_nonneg r3.1 ob.1
      have m2 : (M_rules 3).toInt * outsZ dx dy dz c ≤ 9 * 6 := Int.mul_le_mul r3.2 ob.2 ob.1 (by decide)
      have e : x3 = lI (sumZ t c + A c + sumZ (fun k => onw dx dy dz M_rules (sb p1) c k) 0) := by
        rw [e3, e6, ← hA]
        show _ = lI (sumZ t c + (if sb p1 c = true then (M_rules 3).toInt * outsZ dx dy dz c else 0) + 0)
        rw [Int.add_zero]
        by_cases q : sb p1 c = true
        · rw [if_pos q, q, if_neg (by decide), ← lI_add, show M_rules (3 : Int32).toNatClampNeg = iI (M_rules 3).toInt from (iI_toInt _).symm, iI_mul, iI_long (by omega) (by omega)]
        · rw [if_neg q, if_pos (by cases h : sb p1 c; · rfl
                                   · exact absurd h q), Int.add_zero, Int64.add_zero]
      rw [e, e6]
      exact inner c hc ih 0 (Nat.zero_le _)
  exact sgX4_skinOf_0 C E (outer 0 (Nat.zero_le _))


abbrev w1X4_skin (ad : Nat → Nat) (cA : Nat → ClassId) (M_trace : Int64) (M_found : Int64) (M_foundSet : Int64) (M_foundTimes : Int64) (M_w : Int32) (M_h : Int32) (M_sides : Nat → Int32) (M_rules : Nat → Int32) (u : (Int32)) : va_W := [((ad 19), .inr (4, [.int u, .long M_trace, .ref (ad 20), .ref (ad 21), .ref (ad 22), .ref (ad 23), .ref (ad 24), .ref (ad 25), .ref (ad 26), .ref (ad 27), .ref (ad 28), .ref (ad 29), .ref (ad 30), .ref (ad 31), .long M_found, .long M_foundSet, .long M_foundTimes, .int M_w, .int M_h, .ref (ad 32), .ref (ad 33), .ref (ad 34)])), ((ad 20), .inl (cA 0, 3, .inl M_sides)), ((ad 23), .inl (cA 0, 7, .inl M_rules))]
abbrev wcX4_skin (ad : Nat → Nat) (cA : Nat → ClassId) (M_thrown : Int32) (M_trace : Int64) (M_found : Int64) (M_foundSet : Int64) (M_foundTimes : Int64) (M_w : Int32) (M_h : Int32) (M_sides : Nat → Int32) (M_rules : Nat → Int32) : va_W := [((ad 19), .inr (4, [.int M_thrown, .long M_trace, .ref (ad 20), .ref (ad 21), .ref (ad 22), .ref (ad 23), .ref (ad 24), .ref (ad 25), .ref (ad 26), .ref (ad 27), .ref (ad 28), .ref (ad 29), .ref (ad 30), .ref (ad 31), .long M_found, .long M_foundSet, .long M_foundTimes, .int M_w, .int M_h, .ref (ad 32), .ref (ad 33), .ref (ad 34)])), ((ad 20), .inl (cA 0, 3, .inl M_sides)), ((ad 23), .inl (cA 0, 7, .inl M_rules))]
def rmX4_skin : Room := { frames := 3, cells := 0, slots := 0, locals := 73 }
abbrev atX4_skin_0 (X : gX) (ad : Nat → Nat) (cA : Nat → ClassId) (p1 : Int64) (M_thrown : Int32) (M_trace : Int64) (M_found : Int64) (M_foundSet : Int64) (M_foundTimes : Int64) (M_w : Int32) (M_h : Int32) (M_sides : Nat → Int32) (M_rules : Nat → Int32) : Prop := gW X 0 0 [((ad 19), .inr (4, [.int M_thrown, .long M_trace, .ref (ad 20), .ref (ad 21), .ref (ad 22), .ref (ad 23), .ref (ad 24), .ref (ad 25), .ref (ad 26), .ref (ad 27), .ref (ad 28), .ref (ad 29), .ref (ad 30), .ref (ad 31), .long M_found, .long M_foundSet, .long M_foundTimes, .int M_w, .int M_h, .ref (ad 32), .ref (ad 33), .ref (ad 34)])), ((ad 20), .inl (cA 0, 3, .inl M_sides)), ((ad 23), .inl (cA 0, 7, .inl M_rules))] 3 [(0, .ref (ad 19)), (1, .long p1)] [] 0
theorem cnX4_skin_126 : Cond.constantLong RX4 126 (-1) ∈ wsX4_skin := by decide +kernel
theorem giX4_skin_X4 : ∀ w ∈ u_ws RX4 TX4 22, w ∈ wsX4_skin := by decide +kernel
theorem gfX4_skin_67 : gF wsX4_skin RX4 67 4 0 RX4 TX4 22 := ⟨giX4_skin_X4, by decide +kernel, rfl, by decide⟩
set_option maxHeartbeats 4000000 in
set_option maxRecDepth 100000 in
theorem sgX4_skin_0 {X : gX} {ad : Nat → Nat} {cA : Nat → ClassId} {post : Int64 → ((Int32)) → Prop} {p1 : Int64} {M_thrown : Int32} {M_trace : Int64} {M_found : Int64} {M_foundSet : Int64} {M_foundTimes : Int64} {M_w : Int32} {M_h : Int32} {M_sides : Nat → Int32} {M_rules : Nat → Int32} (C : gC X (gT cA) cX4_skin 3 RX4 wsX4_skin rmX4_skin) (E : gEl X (some .long) (gT cA) 0 0 post (w1X4_skin ad cA M_trace M_found M_foundSet M_foundTimes M_w M_h M_sides M_rules)) (h : prX4_isSet p1 (0 : Int32) M_trace M_found M_foundSet M_foundTimes M_w M_h M_sides ∧ ((fnX4_isSet p1 (0 : Int32) M_trace M_found M_foundSet M_foundTimes M_w M_h M_sides) = false → post (-1 : Int64) (0 : Int32)) ∧ ((fnX4_isSet p1 (0 : Int32) M_trace M_found M_foundSet M_foundTimes M_w M_h M_sides) = true → ∃ (dx_4 : Nat) (dy_4 : Nat) (dz_4 : Nat), prX4_skinOf dx_4 dy_4 dz_4 p1 (0 : Int32) M_trace M_found M_foundSet M_foundTimes M_w M_h M_sides M_rules ∧ ∀ (r_6 : Int64), po_X4_skinOf ad cA dx_4 dy_4 dz_4 p1 (0 : Int32) M_trace M_found M_foundSet M_foundTimes M_w M_h M_sides M_rules r_6 () → post r_6 (0 : Int32))) : atX4_skin_0 X ad cA p1 M_thrown M_trace M_found M_foundSet M_foundTimes M_w M_h M_sides M_rules := by
  refine g_aload_n C dX4_skin_0 rfl 0 rfl ?_
  refine g_iconst C dX4_skin_1 ik_0 ?_
  refine g_put (ws2 := [((ad 19), .inr (4, [.int (0 : Int32), .long M_trace, .ref (ad 20), .ref (ad 21), .ref (ad 22), .ref (ad 23), .ref (ad 24), .ref (ad 25), .ref (ad 26), .ref (ad 27), .ref (ad 28), .ref (ad 29), .ref (ad 30), .ref (ad 31), .long M_found, .long M_foundSet, .long M_foundTimes, .int M_w, .int M_h, .ref (ad 32), .ref (ad 33), .ref (ad 34)])), ((ad 20), .inl (cA 0, 3, .inl M_sides)), ((ad 23), .inl (cA 0, 7, .inl M_rules))]) C gfX4_skin_67 0 tyX4_ok nmX4 rfl rfl rfl rfl (Nat.le_of_ble_eq_true rfl) rfl dX4_skin_2 ?_
  refine g_aload_n C dX4_skin_5 rfl 0 rfl ?_
  refine g_lload_n C dX4_skin_6 rfl 1 rfl ?_
  obtain ⟨hi_1, h⟩ := h
  refine g_callVi (wr := [((ad 23), .inl (cA 0, 7, .inl M_rules))]) C (c_X4_isSet ad cA p1 (0 : Int32) M_trace M_found M_foundSet M_foundTimes M_w M_h M_sides hi_1) gX4_skin_X4_isSet rfl hde_X4_isSet ⟨rfl, rfl⟩ (by decide) (by decide) [0, 1] [2] [1, 2, 0] rfl rfl rfl rfl (by decide) rfl (ws2 := fun u => [((ad 19), .inr (4, [.int (0 : Int32), .long M_trace, .ref (ad 20), .ref (ad 21), .ref (ad 22), .ref (ad 23), .ref (ad 24), .ref (ad 25), .ref (ad 26), .ref (ad 27), .ref (ad 28), .ref (ad 29), .ref (ad 30), .ref (ad 31), .long M_found, .long M_foundSet, .long M_foundTimes, .int M_w, .int M_h, .ref (ad 32), .ref (ad 33), .ref (ad 34)])), ((ad 20), .inl (cA 0, 3, .inl M_sides)), ((ad 23), .inl (cA 0, 7, .inl M_rules))]) (fun _ => rfl) 4 0 rfl rfl rfl (rest := []) rfl (Nat.le_of_ble_eq_true rfl) dX4_skin_7 (fun r_2 u_2 hp_2 => ?_)
  subst hp_2
  change gW X 0 0 [((ad 19), .inr (4, [.int (0 : Int32), .long M_trace, .ref (ad 20), .ref (ad 21), .ref (ad 22), .ref (ad 23), .ref (ad 24), .ref (ad 25), .ref (ad 26), .ref (ad 27), .ref (ad 28), .ref (ad 29), .ref (ad 30), .ref (ad 31), .long M_found, .long M_foundSet, .long M_foundTimes, .int M_w, .int M_h, .ref (ad 32), .ref (ad 33), .ref (ad 34)])), ((ad 20), .inl (cA 0, 3, .inl M_sides)), ((ad 23), .inl (cA 0, 7, .inl M_rules))] 3 [(0, .ref (ad 19)), (1, .long p1)] [.int (bI (fnX4_isSet p1 (0 : Int32) M_trace M_found M_foundSet M_foundTimes M_w M_h M_sides))] 10
  refine g_ifeq_b (tgt := 21) C dX4_skin_10 (by decide) (fun c_3 => ?_) (fun c_3 => ?_)
  · replace h := h.1 c_3
    refine g_ldc2_w C cnX4_skin_126 dX4_skin_21 ?_
    exact g_lret C E (0 : Int32) h rfl dX4_skin_24
  · replace h := h.2 c_3
    refine g_aload_n C dX4_skin_13 rfl 0 rfl ?_
    refine g_lload_n C dX4_skin_14 rfl 1 rfl ?_
    obtain ⟨dx_4, dy_4, dz_4, h⟩ := h
    obtain ⟨hi_5, h⟩ := h
    refine g_callVl (wr := []) C (c_X4_skinOf ad cA dx_4 dy_4 dz_4 p1 (0 : Int32) M_trace M_found M_foundSet M_foundTimes M_w M_h M_sides M_rules hi_5) gX4_skin_X4_skinOf rfl hde_X4_skinOf ⟨rfl, rfl⟩ (by decide) (by decide) [0, 1, 2] [] [0, 1, 2] rfl rfl rfl rfl (by decide) rfl (ws2 := fun u => [((ad 19), .inr (4, [.int (0 : Int32), .long M_trace, .ref (ad 20), .ref (ad 21), .ref (ad 22), .ref (ad 23), .ref (ad 24), .ref (ad 25), .ref (ad 26), .ref (ad 27), .ref (ad 28), .ref (ad 29), .ref (ad 30), .ref (ad 31), .long M_found, .long M_foundSet, .long M_foundTimes, .int M_w, .int M_h, .ref (ad 32), .ref (ad 33), .ref (ad 34)])), ((ad 20), .inl (cA 0, 3, .inl M_sides)), ((ad 23), .inl (cA 0, 7, .inl M_rules))]) (fun _ => rfl) 4 0 rfl rfl rfl (rest := []) rfl (Nat.le_of_ble_eq_true rfl) dX4_skin_15 (fun r_6 u_6 hp_6 => ?_)
    replace h := h r_6 hp_6
    change gW X 0 0 [((ad 19), .inr (4, [.int (0 : Int32), .long M_trace, .ref (ad 20), .ref (ad 21), .ref (ad 22), .ref (ad 23), .ref (ad 24), .ref (ad 25), .ref (ad 26), .ref (ad 27), .ref (ad 28), .ref (ad 29), .ref (ad 30), .ref (ad 31), .long M_found, .long M_foundSet, .long M_foundTimes, .int M_w, .int M_h, .ref (ad 32), .ref (ad 33), .ref (ad 34)])), ((ad 20), .inl (cA 0, 3, .inl M_sides)), ((ad 23), .inl (cA 0, 7, .inl M_rules))] 3 [(0, .ref (ad 19)), (1, .long p1)] [.long r_6] 18
    refine g_goto (tgt := 24) C dX4_skin_18 (by decide) ?_
    exact g_lret C E (0 : Int32) h rfl dX4_skin_24
def prX4_skin (dx : Nat) (dy : Nat) (dz : Nat) (p1 : Int64) (M_thrown : Int32) (M_trace : Int64) (M_found : Int64) (M_foundSet : Int64) (M_foundTimes : Int64) (M_w : Int32) (M_h : Int32) (M_sides : Nat → Int32) (M_rules : Nat → Int32) : Prop := dimOK dx dy dz ∧ sdOK M_sides dx dy dz ∧ ruOK M_rules
def po_X4_skin (ad : Nat → Nat) (cA : Nat → ClassId) (dx : Nat) (dy : Nat) (dz : Nat) (p1 : Int64) (M_thrown : Int32) (M_trace : Int64) (M_found : Int64) (M_foundSet : Int64) (M_foundTimes : Int64) (M_w : Int32) (M_h : Int32) (M_sides : Nat → Int32) (M_rules : Nat → Int32) (r : Int64) (u : (Int32)) : Prop := r = (if isS (dx * dy * dz) p1 = true then lI (skZ dx dy dz M_rules (sb p1)) else -1) ∧ u = 0
set_option maxHeartbeats 4000000 in
set_option maxRecDepth 100000 in
theorem c_X4_skin (ad : Nat → Nat) (cA : Nat → ClassId) (dx : Nat) (dy : Nat) (dz : Nat) (p1 : Int64) (M_thrown : Int32) (M_trace : Int64) (M_found : Int64) (M_foundSet : Int64) (M_foundTimes : Int64) (M_w : Int32) (M_h : Int32) (M_sides : Nat → Int32) (M_rules : Nat → Int32) (hq : prX4_skin dx dy dz p1 M_thrown M_trace M_found M_foundSet M_foundTimes M_w M_h M_sides M_rules) : ∀ (l : Launch) (D : va_G), gMl (S := (Int32)) l yX4_skin wsX4_skin rmX4_skin D (gT cA) 0 0 [.ref (ad 19), .long p1] (wcX4_skin ad cA M_thrown M_trace M_found M_foundSet M_foundTimes M_w M_h M_sides M_rules) (po_X4_skin ad cA dx dy dz p1 M_thrown M_trace M_found M_foundSet M_foundTimes M_w M_h M_sides M_rules) (w1X4_skin ad cA M_trace M_found M_foundSet M_foundTimes M_w M_h M_sides M_rules) := by
  intro l D
  unfold prX4_skin at hq
  refine g_enterl (cc := cX4_skin) (nL := 3) (ret := (some .long)) (by decide) rfl (Nat.le_of_ble_eq_true rfl) rfl (fun X C E => ?_)
  obtain ⟨hd, hs, hr⟩ := hq
  refine sgX4_skin_0 C E ?_
  obtain ⟨i1, i2⟩ := isSet4_eq (M_thrown := 0) (M_trace := M_trace) (M_found := M_found) (M_foundSet := M_foundSet) (M_foundTimes := M_foundTimes) (M_w := M_w) (M_h := M_h) hd hs p1
  rw [i1]
  refine ⟨i2, fun c => ⟨?_, rfl⟩, fun c => ⟨dx, dy, dz, ⟨hd, hs, hr⟩, fun v e => ⟨?_, rfl⟩⟩⟩
  · rw [c]; rfl
  · rw [c]; exact e


abbrev w1X4_all (ad : Nat → Nat) (cA : Nat → ClassId) (M_trace : Int64) (M_found : Int64) (M_foundSet : Int64) (M_foundTimes : Int64) (M_w : Int32) (M_h : Int32) (M_sides : Nat → Int32) (M_price : Nat → Int32) (M_rules : Nat → Int32) (u : (Int32)) : va_W := [((ad 19), .inr (4, [.int u, .long M_trace, .ref (ad 20), .ref (ad 21), .ref (ad 22), .ref (ad 23), .ref (ad 24), .ref (ad 25), .ref (ad 26), .ref (ad 27), .ref (ad 28), .ref (ad 29), .ref (ad 30), .ref (ad 31), .long M_found, .long M_foundSet, .long M_foundTimes, .int M_w, .int M_h, .ref (ad 32), .ref (ad 33), .ref (ad 34)])), ((ad 20), .inl (cA 0, 3, .inl M_sides)), ((ad 22), .inl (cA 0, 36, .inl M_price)), ((ad 23), .inl (cA 0, 7, .inl M_rules))]
abbrev wcX4_all (ad : Nat → Nat) (cA : Nat → ClassId) (M_thrown : Int32) (M_trace : Int64) (M_found : Int64) (M_foundSet : Int64) (M_foundTimes : Int64) (M_w : Int32) (M_h : Int32) (M_sides : Nat → Int32) (M_price : Nat → Int32) (M_rules : Nat → Int32) : va_W := [((ad 19), .inr (4, [.int M_thrown, .long M_trace, .ref (ad 20), .ref (ad 21), .ref (ad 22), .ref (ad 23), .ref (ad 24), .ref (ad 25), .ref (ad 26), .ref (ad 27), .ref (ad 28), .ref (ad 29), .ref (ad 30), .ref (ad 31), .long M_found, .long M_foundSet, .long M_foundTimes, .int M_w, .int M_h, .ref (ad 32), .ref (ad 33), .ref (ad 34)])), ((ad 20), .inl (cA 0, 3, .inl M_sides)), ((ad 22), .inl (cA 0, 36, .inl M_price)), ((ad 23), .inl (cA 0, 7, .inl M_rules))]
def rmX4_all : Room := { frames := 3, cells := 0, slots := 0, locals := 73 }
abbrev atX4_all_0 (X : gX) (ad : Nat → Nat) (cA : Nat → ClassId) (p1 : Int64) (M_thrown : Int32) (M_trace : Int64) (M_found : Int64) (M_foundSet : Int64) (M_foundTimes : Int64) (M_w : Int32) (M_h : Int32) (M_sides : Nat → Int32) (M_price : Nat → Int32) (M_rules : Nat → Int32) : Prop := gW X 0 0 [((ad 19), .inr (4, [.int M_thrown, .long M_trace, .ref (ad 20), .ref (ad 21), .ref (ad 22), .ref (ad 23), .ref (ad 24), .ref (ad 25), .ref (ad 26), .ref (ad 27), .ref (ad 28), .ref (ad 29), .ref (ad 30), .ref (ad 31), .long M_found, .long M_foundSet, .long M_foundTimes, .int M_w, .int M_h, .ref (ad 32), .ref (ad 33), .ref (ad 34)])), ((ad 20), .inl (cA 0, 3, .inl M_sides)), ((ad 22), .inl (cA 0, 36, .inl M_price)), ((ad 23), .inl (cA 0, 7, .inl M_rules))] 6 [(0, .ref (ad 19)), (1, .long p1)] [] 0
abbrev atX4_all_26 (X : gX) (ad : Nat → Nat) (cA : Nat → ClassId) (x1 : Int64) (x3 : Int64) (x5 : Int32) (M_thrown : Int32) (M_trace : Int64) (M_found : Int64) (M_foundSet : Int64) (M_foundTimes : Int64) (M_w : Int32) (M_h : Int32) (M_sides : Nat → Int32) (M_price : Nat → Int32) (M_rules : Nat → Int32) : Prop := gW X 0 0 [((ad 19), .inr (4, [.int M_thrown, .long M_trace, .ref (ad 20), .ref (ad 21), .ref (ad 22), .ref (ad 23), .ref (ad 24), .ref (ad 25), .ref (ad 26), .ref (ad 27), .ref (ad 28), .ref (ad 29), .ref (ad 30), .ref (ad 31), .long M_found, .long M_foundSet, .long M_foundTimes, .int M_w, .int M_h, .ref (ad 32), .ref (ad 33), .ref (ad 34)])), ((ad 20), .inl (cA 0, 3, .inl M_sides)), ((ad 22), .inl (cA 0, 36, .inl M_price)), ((ad 23), .inl (cA 0, 7, .inl M_rules))] 6 [(0, .ref (ad 19)), (1, .long x1), (3, .long x3), (5, .int x5)] [] 26
theorem cnX4_all_128 : Cond.constantLong RX4 128 (-1000000) ∈ wsX4_all := by decide +kernel
theorem giX4_all_X4 : ∀ w ∈ u_ws RX4 TX4 22, w ∈ wsX4_all := by decide +kernel
theorem gfX4_all_67 : gF wsX4_all RX4 67 4 0 RX4 TX4 22 := ⟨giX4_all_X4, by decide +kernel, rfl, by decide⟩
theorem gfX4_all_16 : gF wsX4_all RX4 16 4 4 RX4 TX4 22 := ⟨giX4_all_X4, by decide +kernel, rfl, by decide⟩
set_option maxHeartbeats 4000000 in
set_option maxRecDepth 100000 in
theorem sgX4_all_0 {X : gX} {ad : Nat → Nat} {cA : Nat → ClassId} {post : Int64 → ((Int32)) → Prop} {p1 : Int64} {M_thrown : Int32} {M_trace : Int64} {M_found : Int64} {M_foundSet : Int64} {M_foundTimes : Int64} {M_w : Int32} {M_h : Int32} {M_sides : Nat → Int32} {M_price : Nat → Int32} {M_rules : Nat → Int32} (C : gC X (gT cA) cX4_all 6 RX4 wsX4_all rmX4_all) (E : gEl X (some .long) (gT cA) 0 0 post (w1X4_all ad cA M_trace M_found M_foundSet M_foundTimes M_w M_h M_sides M_price M_rules)) (h : prX4_isSet p1 (0 : Int32) M_trace M_found M_foundSet M_foundTimes M_w M_h M_sides ∧ ((fnX4_isSet p1 (0 : Int32) M_trace M_found M_foundSet M_foundTimes M_w M_h M_sides) = true → ∃ (dx_4 : Nat) (dy_4 : Nat) (dz_4 : Nat), prX4_skinOf dx_4 dy_4 dz_4 p1 (0 : Int32) M_trace M_found M_foundSet M_foundTimes M_w M_h M_sides M_rules ∧ ∀ (r_6 : Int64), po_X4_skinOf ad cA dx_4 dy_4 dz_4 p1 (0 : Int32) M_trace M_found M_foundSet M_foundTimes M_w M_h M_sides M_rules r_6 () → atX4_all_26 X ad cA p1 r_6 (0 : Int32) (0 : Int32) M_trace M_found M_foundSet M_foundTimes M_w M_h M_sides M_price M_rules) ∧ ((fnX4_isSet p1 (0 : Int32) M_trace M_found M_foundSet M_foundTimes M_w M_h M_sides) = false → post (-1000000 : Int64) (0 : Int32))) : atX4_all_0 X ad cA p1 M_thrown M_trace M_found M_foundSet M_foundTimes M_w M_h M_sides M_price M_rules := by
  refine g_aload_n C dX4_all_0 rfl 0 rfl ?_
  refine g_iconst C dX4_all_1 ik_0 ?_
  refine g_put (ws2 := [((ad 19), .inr (4, [.int (0 : Int32), .long M_trace, .ref (ad 20), .ref (ad 21), .ref (ad 22), .ref (ad 23), .ref (ad 24), .ref (ad 25), .ref (ad 26), .ref (ad 27), .ref (ad 28), .ref (ad 29), .ref (ad 30), .ref (ad 31), .long M_found, .long M_foundSet, .long M_foundTimes, .int M_w, .int M_h, .ref (ad 32), .ref (ad 33), .ref (ad 34)])), ((ad 20), .inl (cA 0, 3, .inl M_sides)), ((ad 22), .inl (cA 0, 36, .inl M_price)), ((ad 23), .inl (cA 0, 7, .inl M_rules))]) C gfX4_all_67 0 tyX4_ok nmX4 rfl rfl rfl rfl (Nat.le_of_ble_eq_true rfl) rfl dX4_all_2 ?_
  refine g_aload_n C dX4_all_5 rfl 0 rfl ?_
  refine g_lload_n C dX4_all_6 rfl 1 rfl ?_
  obtain ⟨hi_1, h⟩ := h
  refine g_callVi (wr := [((ad 22), .inl (cA 0, 36, .inl M_price)), ((ad 23), .inl (cA 0, 7, .inl M_rules))]) C (c_X4_isSet ad cA p1 (0 : Int32) M_trace M_found M_foundSet M_foundTimes M_w M_h M_sides hi_1) gX4_all_X4_isSet rfl hde_X4_isSet ⟨rfl, rfl⟩ (by decide) (by decide) [0, 1] [2, 3] [2, 3, 0, 1] rfl rfl rfl rfl (by decide) rfl (ws2 := fun u => [((ad 19), .inr (4, [.int (0 : Int32), .long M_trace, .ref (ad 20), .ref (ad 21), .ref (ad 22), .ref (ad 23), .ref (ad 24), .ref (ad 25), .ref (ad 26), .ref (ad 27), .ref (ad 28), .ref (ad 29), .ref (ad 30), .ref (ad 31), .long M_found, .long M_foundSet, .long M_foundTimes, .int M_w, .int M_h, .ref (ad 32), .ref (ad 33), .ref (ad 34)])), ((ad 20), .inl (cA 0, 3, .inl M_sides)), ((ad 22), .inl (cA 0, 36, .inl M_price)), ((ad 23), .inl (cA 0, 7, .inl M_rules))]) (fun _ => rfl) 4 0 rfl rfl rfl (rest := []) rfl (Nat.le_of_ble_eq_true rfl) dX4_all_7 (fun r_2 u_2 hp_2 => ?_)
  subst hp_2
  change gW X 0 0 [((ad 19), .inr (4, [.int (0 : Int32), .long M_trace, .ref (ad 20), .ref (ad 21), .ref (ad 22), .ref (ad 23), .ref (ad 24), .ref (ad 25), .ref (ad 26), .ref (ad 27), .ref (ad 28), .ref (ad 29), .ref (ad 30), .ref (ad 31), .long M_found, .long M_foundSet, .long M_foundTimes, .int M_w, .int M_h, .ref (ad 32), .ref (ad 33), .ref (ad 34)])), ((ad 20), .inl (cA 0, 3, .inl M_sides)), ((ad 22), .inl (cA 0, 36, .inl M_price)), ((ad 23), .inl (cA 0, 7, .inl M_rules))] 6 [(0, .ref (ad 19)), (1, .long p1)] [.int (bI (fnX4_isSet p1 (0 : Int32) M_trace M_found M_foundSet M_foundTimes M_w M_h M_sides))] 10
  refine g_ifne_b (tgt := 17) C dX4_all_10 (by decide) (fun c_3 => ?_) (fun c_3 => ?_)
  · replace h := h.1 c_3
    refine g_aload_n C dX4_all_17 rfl 0 rfl ?_
    refine g_lload_n C dX4_all_18 rfl 1 rfl ?_
    obtain ⟨dx_4, dy_4, dz_4, h⟩ := h
    obtain ⟨hi_5, h⟩ := h
    refine g_callVl (wr := [((ad 22), .inl (cA 0, 36, .inl M_price))]) C (c_X4_skinOf ad cA dx_4 dy_4 dz_4 p1 (0 : Int32) M_trace M_found M_foundSet M_foundTimes M_w M_h M_sides M_rules hi_5) gX4_all_X4_skinOf rfl hde_X4_skinOf ⟨rfl, rfl⟩ (by decide) (by decide) [0, 1, 3] [2] [1, 2, 0, 3] rfl rfl rfl rfl (by decide) rfl (ws2 := fun u => [((ad 19), .inr (4, [.int (0 : Int32), .long M_trace, .ref (ad 20), .ref (ad 21), .ref (ad 22), .ref (ad 23), .ref (ad 24), .ref (ad 25), .ref (ad 26), .ref (ad 27), .ref (ad 28), .ref (ad 29), .ref (ad 30), .ref (ad 31), .long M_found, .long M_foundSet, .long M_foundTimes, .int M_w, .int M_h, .ref (ad 32), .ref (ad 33), .ref (ad 34)])), ((ad 20), .inl (cA 0, 3, .inl M_sides)), ((ad 22), .inl (cA 0, 36, .inl M_price)), ((ad 23), .inl (cA 0, 7, .inl M_rules))]) (fun _ => rfl) 4 0 rfl rfl rfl (rest := []) rfl (Nat.le_of_ble_eq_true rfl) dX4_all_19 (fun r_6 u_6 hp_6 => ?_)
    replace h := h r_6 hp_6
    change gW X 0 0 [((ad 19), .inr (4, [.int (0 : Int32), .long M_trace, .ref (ad 20), .ref (ad 21), .ref (ad 22), .ref (ad 23), .ref (ad 24), .ref (ad 25), .ref (ad 26), .ref (ad 27), .ref (ad 28), .ref (ad 29), .ref (ad 30), .ref (ad 31), .long M_found, .long M_foundSet, .long M_foundTimes, .int M_w, .int M_h, .ref (ad 32), .ref (ad 33), .ref (ad 34)])), ((ad 20), .inl (cA 0, 3, .inl M_sides)), ((ad 22), .inl (cA 0, 36, .inl M_price)), ((ad 23), .inl (cA 0, 7, .inl M_rules))] 6 [(0, .ref (ad 19)), (1, .long p1)] [.long r_6] 22
    refine g_lstore_n (lv2 := [(0, .ref (ad 19)), (1, .long p1), (3, .long r_6)]) C dX4_all_22 rfl (by decide) [1, 2, 0] rfl ?_
    refine g_iconst C dX4_all_23 ik_0 ?_
    refine g_istore (lv2 := [(0, .ref (ad 19)), (1, .long p1), (3, .long r_6), (5, .int (0 : Int32))]) C dX4_all_24 (by decide) [1, 2, 3, 0] rfl ?_
    exact g_lv [0, 1, 2, 3] rfl h
  · replace h := h.2 c_3
    refine g_ldc2_w C cnX4_all_128 dX4_all_13 ?_
    exact g_lret C E (0 : Int32) h rfl dX4_all_16
set_option maxHeartbeats 4000000 in
set_option maxRecDepth 100000 in
theorem sgX4_all_26 {X : gX} {ad : Nat → Nat} {cA : Nat → ClassId} {post : Int64 → ((Int32)) → Prop} {x1 : Int64} {x3 : Int64} {x5 : Int32} {M_thrown : Int32} {M_trace : Int64} {M_found : Int64} {M_foundSet : Int64} {M_foundTimes : Int64} {M_w : Int32} {M_h : Int32} {M_sides : Nat → Int32} {M_price : Nat → Int32} {M_rules : Nat → Int32} (C : gC X (gT cA) cX4_all 6 RX4 wsX4_all rmX4_all) (E : gEl X (some .long) (gT cA) 0 0 post (w1X4_all ad cA M_trace M_found M_foundSet M_foundTimes M_w M_h M_sides M_price M_rules)) (h : prX4_cells M_thrown M_trace M_found M_foundSet M_foundTimes M_w M_h M_sides ∧ ((fnX4_cells M_thrown M_trace M_found M_foundSet M_foundTimes M_w M_h M_sides) ≤ x5 → post x3 M_thrown) ∧ (¬ (fnX4_cells M_thrown M_trace M_found M_foundSet M_foundTimes M_w M_h M_sides) ≤ x5 → ((¬ ((x1 >>> (x5.toInt64 &&& 63)) &&& (1 : Int64)) = (1 : Int64) → True) ∧ (((x1 >>> (x5.toInt64 &&& 63)) &&& (1 : Int64)) = (1 : Int64) → vp_in x5 36)) ∧ ∀ x3_12 : Int64, x3_12 = (x3 + (if ((x1 >>> (x5.toInt64 &&& 63)) &&& (1 : Int64)) = (1 : Int64) then ((M_price x5.toNatClampNeg).toInt64) else (0 : Int64))) → atX4_all_26 X ad cA x1 x3_12 (x5 + 1) M_thrown M_trace M_found M_foundSet M_foundTimes M_w M_h M_sides M_price M_rules)) : atX4_all_26 X ad cA x1 x3 x5 M_thrown M_trace M_found M_foundSet M_foundTimes M_w M_h M_sides M_price M_rules := by
  refine g_iload C dX4_all_26 3 rfl ?_
  refine g_aload_n C dX4_all_28 rfl 0 rfl ?_
  obtain ⟨hi_7, h⟩ := h
  refine g_callVi (wr := [((ad 22), .inl (cA 0, 36, .inl M_price)), ((ad 23), .inl (cA 0, 7, .inl M_rules))]) C (c_X4_cells ad cA M_thrown M_trace M_found M_foundSet M_foundTimes M_w M_h M_sides hi_7) gX4_all_X4_cells rfl hde_X4_cells ⟨rfl, rfl⟩ (by decide) (by decide) [0, 1] [2, 3] [2, 3, 0, 1] rfl rfl rfl rfl (by decide) rfl (ws2 := fun u => [((ad 19), .inr (4, [.int M_thrown, .long M_trace, .ref (ad 20), .ref (ad 21), .ref (ad 22), .ref (ad 23), .ref (ad 24), .ref (ad 25), .ref (ad 26), .ref (ad 27), .ref (ad 28), .ref (ad 29), .ref (ad 30), .ref (ad 31), .long M_found, .long M_foundSet, .long M_foundTimes, .int M_w, .int M_h, .ref (ad 32), .ref (ad 33), .ref (ad 34)])), ((ad 20), .inl (cA 0, 3, .inl M_sides)), ((ad 22), .inl (cA 0, 36, .inl M_price)), ((ad 23), .inl (cA 0, 7, .inl M_rules))]) (fun _ => rfl) 4 0 rfl rfl rfl (rest := [.int x5]) rfl (Nat.le_of_ble_eq_true rfl) dX4_all_29 (fun r_8 u_8 hp_8 => ?_)
  subst hp_8
  change gW X 0 0 [((ad 19), .inr (4, [.int M_thrown, .long M_trace, .ref (ad 20), .ref (ad 21), .ref (ad 22), .ref (ad 23), .ref (ad 24), .ref (ad 25), .ref (ad 26), .ref (ad 27), .ref (ad 28), .ref (ad 29), .ref (ad 30), .ref (ad 31), .long M_found, .long M_foundSet, .long M_foundTimes, .int M_w, .int M_h, .ref (ad 32), .ref (ad 33), .ref (ad 34)])), ((ad 20), .inl (cA 0, 3, .inl M_sides)), ((ad 22), .inl (cA 0, 36, .inl M_price)), ((ad 23), .inl (cA 0, 7, .inl M_rules))] 6 [(0, .ref (ad 19)), (1, .long x1), (3, .long x3), (5, .int x5)] [.int (fnX4_cells M_thrown M_trace M_found M_foundSet M_foundTimes M_w M_h M_sides), .int x5] 32
  refine g_icmp_ge (tgt := 67) C dX4_all_32 (by decide) (fun c_9 => ?_) (fun c_9 => ?_)
  · replace h := h.1 c_9
    refine g_lload_n C dX4_all_67 rfl 2 rfl ?_
    exact g_lret C E M_thrown h rfl dX4_all_68
  · replace h := h.2 c_9
    refine g_lload_n C dX4_all_35 rfl 2 rfl ?_
    refine g_lload_n C dX4_all_36 rfl 1 rfl ?_
    refine g_iload C dX4_all_37 3 rfl ?_
    refine g_lshr C dX4_all_39 ?_
    refine g_lconst C dX4_all_40 lk_1 ?_
    refine g_land C dX4_all_41 ?_
    refine g_lconst C dX4_all_42 lk_1 ?_
    obtain ⟨hr_59, h⟩ := h
    have key : gW X 0 0 [((ad 19), .inr (4, [.int M_thrown, .long M_trace, .ref (ad 20), .ref (ad 21), .ref (ad 22), .ref (ad 23), .ref (ad 24), .ref (ad 25), .ref (ad 26), .ref (ad 27), .ref (ad 28), .ref (ad 29), .ref (ad 30), .ref (ad 31), .long M_found, .long M_foundSet, .long M_foundTimes, .int M_w, .int M_h, .ref (ad 32), .ref (ad 33), .ref (ad 34)])), ((ad 20), .inl (cA 0, 3, .inl M_sides)), ((ad 22), .inl (cA 0, 36, .inl M_price)), ((ad 23), .inl (cA 0, 7, .inl M_rules))] 6 [(0, .ref (ad 19)), (1, .long x1), (3, .long x3), (5, .int x5)] [.long (if ((x1 >>> (x5.toInt64 &&& 63)) &&& (1 : Int64)) = (1 : Int64) then ((M_price x5.toNatClampNeg).toInt64) else (0 : Int64)), .long x3] 59 := by
      refine g_ladd C dX4_all_59 ?_
      refine g_topl (fun x3_12 ex3_12 => ?_)
      replace h := h x3_12 ex3_12
      refine g_lstore_n (lv2 := [(0, .ref (ad 19)), (1, .long x1), (3, .long x3_12), (5, .int x5)]) C dX4_all_60 rfl (by decide) [1, 2, 0, 3] rfl ?_
      refine g_iinc (v := (x5 + 1)) (lv2 := [(0, .ref (ad 19)), (1, .long x1), (3, .long x3_12), (5, .int (x5 + 1))]) C dX4_all_61 3 rfl (by first | rfl | decide) (by decide) [1, 2, 3, 0] rfl ?_
      refine g_goto (tgt := 26) C dX4_all_64 (by decide) ?_
      exact g_lv [0, 1, 2, 3] rfl h
    replace h := hr_59
    refine g_lcmp_ne (tgt := 58) C dX4_all_43 dX4_all_44 rfl (by decide) (fun c_10 => ?_) (fun c_10 => ?_)
    · replace h := h.1 c_10
      refine g_lconst C dX4_all_58 lk_0 ?_
      exact g_leaf (by simp only [if_neg c_10] at key; first | exact key | (simp only [if_neg c_10]; exact key) | exact absurd rfl c_10)
    · replace h := h.2 c_10
      refine g_aload_n C dX4_all_47 rfl 0 rfl ?_
      refine g_get C gfX4_all_16 0 rfl rfl dX4_all_48 ?_
      refine g_iload C dX4_all_51 3 rfl ?_
      have hi_11 := h
      refine g_iald C 2 0 rfl rfl hi_11 dX4_all_53 ?_
      refine g_i2l C dX4_all_54 ?_
      refine g_goto (tgt := 59) C dX4_all_55 (by decide) ?_
      exact g_leaf (by simp only [if_pos c_10] at key; first | exact key | (simp only [if_pos c_10]; exact key) | exact absurd rfl c_10)
def prX4_all (dx : Nat) (dy : Nat) (dz : Nat) (p1 : Int64) (M_thrown : Int32) (M_trace : Int64) (M_found : Int64) (M_foundSet : Int64) (M_foundTimes : Int64) (M_w : Int32) (M_h : Int32) (M_sides : Nat → Int32) (M_price : Nat → Int32) (M_rules : Nat → Int32) : Prop := dimOK dx dy dz ∧ sdOK M_sides dx dy dz ∧ ruOK M_rules
def po_X4_all (ad : Nat → Nat) (cA : Nat → ClassId) (dx : Nat) (dy : Nat) (dz : Nat) (p1 : Int64) (M_thrown : Int32) (M_trace : Int64) (M_found : Int64) (M_foundSet : Int64) (M_foundTimes : Int64) (M_w : Int32) (M_h : Int32) (M_sides : Nat → Int32) (M_price : Nat → Int32) (M_rules : Nat → Int32) (r : Int64) (u : (Int32)) : Prop := r = (if isS (dx * dy * dz) p1 = true then lI (skZ dx dy dz M_rules (sb p1) + prsA (dx * dy * dz) M_price (sb p1)) else -1000000) ∧ u = 0
set_option maxHeartbeats 4000000 in
set_option maxRecDepth 100000 in
theorem c_X4_all (ad : Nat → Nat) (cA : Nat → ClassId) (dx : Nat) (dy : Nat) (dz : Nat) (p1 : Int64) (M_thrown : Int32) (M_trace : Int64) (M_found : Int64) (M_foundSet : Int64) (M_foundTimes : Int64) (M_w : Int32) (M_h : Int32) (M_sides : Nat → Int32) (M_price : Nat → Int32) (M_rules : Nat → Int32) (hq : prX4_all dx dy dz p1 M_thrown M_trace M_found M_foundSet M_foundTimes M_w M_h M_sides M_price M_rules) : ∀ (l : Launch) (D : va_G), gMl (S := (Int32)) l yX4_all wsX4_all rmX4_all D (gT cA) 0 0 [.ref (ad 19), .long p1] (wcX4_all ad cA M_thrown M_trace M_found M_foundSet M_foundTimes M_w M_h M_sides M_price M_rules) (po_X4_all ad cA dx dy dz p1 M_thrown M_trace M_found M_foundSet M_foundTimes M_w M_h M_sides M_price M_rules) (w1X4_all ad cA M_trace M_found M_foundSet M_foundTimes M_w M_h M_sides M_price M_rules) := by
  intro l D
  unfold prX4_all at hq
  refine g_enterl (cc := cX4_all) (nL := 6) (ret := (some .long)) (by decide) rfl (Nat.le_of_ble_eq_true rfl) rfl (fun X C E => ?_)
  obtain ⟨hd, hs, hr⟩ := hq
  have hV := hd.2.2.2.2.2.2
  refine sgX4_all_0 C E ?_
  obtain ⟨i1, i2⟩ := isSet4_eq (M_thrown := 0) (M_trace := M_trace) (M_found := M_found) (M_foundSet := M_foundSet) (M_foundTimes := M_foundTimes) (M_w := M_w) (M_h := M_h) hd hs p1
  obtain ⟨c1, c2⟩ := cells_eq (M_thrown := 0) (M_trace := M_trace) (M_found := M_found) (M_foundSet := M_foundSet) (M_foundTimes := M_foundTimes) (M_w := M_w) (M_h := M_h) hs
  rw [i1]
  refine ⟨i2, fun c => ⟨dx, dy, dz, ⟨hd, hs, hr⟩, fun v e => ?_⟩, fun c => ⟨by rw [c]; rfl, rfl⟩⟩
  have e' : v = lI (skZ dx dy dz M_rules (sb p1)) := e
  subst e'
  have fin : ∀ v, v = lI (skZ dx dy dz M_rules (sb p1) + prsA (dx * dy * dz) M_price (sb p1)) → po_X4_all ad cA dx dy dz p1 M_thrown M_trace M_found M_foundSet M_foundTimes M_w M_h M_sides M_price M_rules v 0 := fun v e => ⟨by rw [c, e]; rfl, rfl⟩
  unfold prsA at fin
  generalize ht : (fun c => if sb p1 c = true then (M_price c).toInt else 0) = t at fin
  generalize skZ dx dy dz M_rules (sb p1) = z at *
  have loop : ∀ c, c ≤ dx * dy * dz → atX4_all_26 X ad cA p1 (lI (z + sumZ t c)) (nI c) 0 M_trace M_found M_foundSet M_foundTimes M_w M_h M_sides M_price M_rules := by
    intro c hc'
    refine up_loop (P := fun c => atX4_all_26 X ad cA p1 (lI (z + sumZ t c)) (nI c) 0 M_trace M_found M_foundSet M_foundTimes M_w M_h M_sides M_price M_rules) (dx * dy * dz) ?_ (fun c hc ih => ?_) c hc'
    · refine sgX4_all_26 C E ?_
      rw [c1]
      exact ⟨c2, fun _ => fin _ rfl, fun c => absurd (i32_le_refl _) c⟩
    · refine sgX4_all_26 C E ?_
      rw [c1, nI_clamp (n := c) (by omega), nI_1 c]
      refine ⟨c2, fun c => absurd c (nI_ge hc (by omega)), fun _ => ⟨⟨fun _ => trivial, fun _ => vp_in_nI (by omega) (by decide)⟩, fun x3 e3 => ?_⟩⟩
      have e : x3 = lI (z + sumZ t (c + 1)) := by
        rw [e3, show sumZ t (c + 1) = sumZ t c + t c from rfl, ← ht]
        dsimp only
        by_cases q : sb p1 c = true
        · rw [if_pos q, if_pos ((zb_bit p1 (by omega)).mpr q), i2l_lI, lI_add, Int.add_assoc]
        · rw [if_neg q, if_neg (fun z => q ((zb_bit p1 (by omega)).mp z)), Int64.add_zero, Int.add_zero]
      rw [e]; exact ih
  have := loop 0 (Nat.zero_le _)
  rw [show z + sumZ t 0 = z from Int.add_zero z] at this
  exact this


abbrev w1X4_right (ad : Nat → Nat) (cA : Nat → ClassId) (M_trace : Int64) (M_found : Int64) (M_foundSet : Int64) (M_foundTimes : Int64) (M_w : Int32) (M_h : Int32) (M_sides : Nat → Int32) (M_held : Nat → Int32) (u : (Int32)) : va_W := [((ad 19), .inr (4, [.int u, .long M_trace, .ref (ad 20), .ref (ad 21), .ref (ad 22), .ref (ad 23), .ref (ad 24), .ref (ad 25), .ref (ad 26), .ref (ad 27), .ref (ad 28), .ref (ad 29), .ref (ad 30), .ref (ad 31), .long M_found, .long M_foundSet, .long M_foundTimes, .int M_w, .int M_h, .ref (ad 32), .ref (ad 33), .ref (ad 34)])), ((ad 20), .inl (cA 0, 3, .inl M_sides)), ((ad 21), .inl (cA 0, 36, .inl M_held))]
abbrev wcX4_right (ad : Nat → Nat) (cA : Nat → ClassId) (M_thrown : Int32) (M_trace : Int64) (M_found : Int64) (M_foundSet : Int64) (M_foundTimes : Int64) (M_w : Int32) (M_h : Int32) (M_sides : Nat → Int32) (M_held : Nat → Int32) : va_W := [((ad 19), .inr (4, [.int M_thrown, .long M_trace, .ref (ad 20), .ref (ad 21), .ref (ad 22), .ref (ad 23), .ref (ad 24), .ref (ad 25), .ref (ad 26), .ref (ad 27), .ref (ad 28), .ref (ad 29), .ref (ad 30), .ref (ad 31), .long M_found, .long M_foundSet, .long M_foundTimes, .int M_w, .int M_h, .ref (ad 32), .ref (ad 33), .ref (ad 34)])), ((ad 20), .inl (cA 0, 3, .inl M_sides)), ((ad 21), .inl (cA 0, 36, .inl M_held))]
def rmX4_right : Room := { frames := 2, cells := 0, slots := 0, locals := 42 }
abbrev atX4_right_0 (X : gX) (ad : Nat → Nat) (cA : Nat → ClassId) (p1 : Int64) (M_thrown : Int32) (M_trace : Int64) (M_found : Int64) (M_foundSet : Int64) (M_foundTimes : Int64) (M_w : Int32) (M_h : Int32) (M_sides : Nat → Int32) (M_held : Nat → Int32) : Prop := gW X 0 0 [((ad 19), .inr (4, [.int M_thrown, .long M_trace, .ref (ad 20), .ref (ad 21), .ref (ad 22), .ref (ad 23), .ref (ad 24), .ref (ad 25), .ref (ad 26), .ref (ad 27), .ref (ad 28), .ref (ad 29), .ref (ad 30), .ref (ad 31), .long M_found, .long M_foundSet, .long M_foundTimes, .int M_w, .int M_h, .ref (ad 32), .ref (ad 33), .ref (ad 34)])), ((ad 20), .inl (cA 0, 3, .inl M_sides)), ((ad 21), .inl (cA 0, 36, .inl M_held))] 5 [(0, .ref (ad 19)), (1, .long p1)] [] 0
abbrev atX4_right_20 (X : gX) (ad : Nat → Nat) (cA : Nat → ClassId) (x1 : Int64) (x3 : Int32) (x4 : Int32) (M_thrown : Int32) (M_trace : Int64) (M_found : Int64) (M_foundSet : Int64) (M_foundTimes : Int64) (M_w : Int32) (M_h : Int32) (M_sides : Nat → Int32) (M_held : Nat → Int32) : Prop := gW X 0 0 [((ad 19), .inr (4, [.int M_thrown, .long M_trace, .ref (ad 20), .ref (ad 21), .ref (ad 22), .ref (ad 23), .ref (ad 24), .ref (ad 25), .ref (ad 26), .ref (ad 27), .ref (ad 28), .ref (ad 29), .ref (ad 30), .ref (ad 31), .long M_found, .long M_foundSet, .long M_foundTimes, .int M_w, .int M_h, .ref (ad 32), .ref (ad 33), .ref (ad 34)])), ((ad 20), .inl (cA 0, 3, .inl M_sides)), ((ad 21), .inl (cA 0, 36, .inl M_held))] 5 [(0, .ref (ad 19)), (1, .long x1), (3, .int x3), (4, .int x4)] [] 20
theorem giX4_right_X4 : ∀ w ∈ u_ws RX4 TX4 22, w ∈ wsX4_right := by decide +kernel
theorem gfX4_right_67 : gF wsX4_right RX4 67 4 0 RX4 TX4 22 := ⟨giX4_right_X4, by decide +kernel, rfl, by decide⟩
theorem gfX4_right_13 : gF wsX4_right RX4 13 4 3 RX4 TX4 22 := ⟨giX4_right_X4, by decide +kernel, rfl, by decide⟩
set_option maxHeartbeats 4000000 in
set_option maxRecDepth 100000 in
theorem sgX4_right_0 {X : gX} {ad : Nat → Nat} {cA : Nat → ClassId} {post : Int32 → ((Int32)) → Prop} {p1 : Int64} {M_thrown : Int32} {M_trace : Int64} {M_found : Int64} {M_foundSet : Int64} {M_foundTimes : Int64} {M_w : Int32} {M_h : Int32} {M_sides : Nat → Int32} {M_held : Nat → Int32} (C : gC X (gT cA) cX4_right 5 RX4 wsX4_right rmX4_right) (E : gEi X (some .int) (gT cA) 0 0 post (w1X4_right ad cA M_trace M_found M_foundSet M_foundTimes M_w M_h M_sides M_held)) (h : prX4_isSet p1 (0 : Int32) M_trace M_found M_foundSet M_foundTimes M_w M_h M_sides ∧ ((fnX4_isSet p1 (0 : Int32) M_trace M_found M_foundSet M_foundTimes M_w M_h M_sides) = true → atX4_right_20 X ad cA p1 (1 : Int32) (0 : Int32) (0 : Int32) M_trace M_found M_foundSet M_foundTimes M_w M_h M_sides M_held) ∧ ((fnX4_isSet p1 (0 : Int32) M_trace M_found M_foundSet M_foundTimes M_w M_h M_sides) = false → post (-1 : Int32) (0 : Int32))) : atX4_right_0 X ad cA p1 M_thrown M_trace M_found M_foundSet M_foundTimes M_w M_h M_sides M_held := by
  refine g_aload_n C dX4_right_0 rfl 0 rfl ?_
  refine g_iconst C dX4_right_1 ik_0 ?_
  refine g_put (ws2 := [((ad 19), .inr (4, [.int (0 : Int32), .long M_trace, .ref (ad 20), .ref (ad 21), .ref (ad 22), .ref (ad 23), .ref (ad 24), .ref (ad 25), .ref (ad 26), .ref (ad 27), .ref (ad 28), .ref (ad 29), .ref (ad 30), .ref (ad 31), .long M_found, .long M_foundSet, .long M_foundTimes, .int M_w, .int M_h, .ref (ad 32), .ref (ad 33), .ref (ad 34)])), ((ad 20), .inl (cA 0, 3, .inl M_sides)), ((ad 21), .inl (cA 0, 36, .inl M_held))]) C gfX4_right_67 0 tyX4_ok nmX4 rfl rfl rfl rfl (Nat.le_of_ble_eq_true rfl) rfl dX4_right_2 ?_
  refine g_aload_n C dX4_right_5 rfl 0 rfl ?_
  refine g_lload_n C dX4_right_6 rfl 1 rfl ?_
  obtain ⟨hi_1, h⟩ := h
  refine g_callVi (wr := [((ad 21), .inl (cA 0, 36, .inl M_held))]) C (c_X4_isSet ad cA p1 (0 : Int32) M_trace M_found M_foundSet M_foundTimes M_w M_h M_sides hi_1) gX4_right_X4_isSet rfl hde_X4_isSet ⟨rfl, rfl⟩ (by decide) (by decide) [0, 1] [2] [1, 2, 0] rfl rfl rfl rfl (by decide) rfl (ws2 := fun u => [((ad 19), .inr (4, [.int (0 : Int32), .long M_trace, .ref (ad 20), .ref (ad 21), .ref (ad 22), .ref (ad 23), .ref (ad 24), .ref (ad 25), .ref (ad 26), .ref (ad 27), .ref (ad 28), .ref (ad 29), .ref (ad 30), .ref (ad 31), .long M_found, .long M_foundSet, .long M_foundTimes, .int M_w, .int M_h, .ref (ad 32), .ref (ad 33), .ref (ad 34)])), ((ad 20), .inl (cA 0, 3, .inl M_sides)), ((ad 21), .inl (cA 0, 36, .inl M_held))]) (fun _ => rfl) 4 0 rfl rfl rfl (rest := []) rfl (Nat.le_of_ble_eq_true rfl) dX4_right_7 (fun r_2 u_2 hp_2 => ?_)
  subst hp_2
  change gW X 0 0 [((ad 19), .inr (4, [.int (0 : Int32), .long M_trace, .ref (ad 20), .ref (ad 21), .ref (ad 22), .ref (ad 23), .ref (ad 24), .ref (ad 25), .ref (ad 26), .ref (ad 27), .ref (ad 28), .ref (ad 29), .ref (ad 30), .ref (ad 31), .long M_found, .long M_foundSet, .long M_foundTimes, .int M_w, .int M_h, .ref (ad 32), .ref (ad 33), .ref (ad 34)])), ((ad 20), .inl (cA 0, 3, .inl M_sides)), ((ad 21), .inl (cA 0, 36, .inl M_held))] 5 [(0, .ref (ad 19)), (1, .long p1)] [.int (bI (fnX4_isSet p1 (0 : Int32) M_trace M_found M_foundSet M_foundTimes M_w M_h M_sides))] 10
  refine g_ifne_b (tgt := 15) C dX4_right_10 (by decide) (fun c_3 => ?_) (fun c_3 => ?_)
  · replace h := h.1 c_3
    refine g_iconst C dX4_right_15 ik_1 ?_
    refine g_istore_n (lv2 := [(0, .ref (ad 19)), (1, .long p1), (3, .int (1 : Int32))]) C dX4_right_16 rfl (by decide) [1, 2, 0] rfl ?_
    refine g_iconst C dX4_right_17 ik_0 ?_
    refine g_istore (lv2 := [(0, .ref (ad 19)), (1, .long p1), (3, .int (1 : Int32)), (4, .int (0 : Int32))]) C dX4_right_18 (by decide) [1, 2, 3, 0] rfl ?_
    exact g_lv [0, 1, 2, 3] rfl h
  · replace h := h.2 c_3
    refine g_iconst C dX4_right_13 ik_m1 ?_
    exact g_iret C E (0 : Int32) h rfl dX4_right_14
set_option maxHeartbeats 4000000 in
set_option maxRecDepth 100000 in
theorem sgX4_right_20 {X : gX} {ad : Nat → Nat} {cA : Nat → ClassId} {post : Int32 → ((Int32)) → Prop} {x1 : Int64} {x3 : Int32} {x4 : Int32} {M_thrown : Int32} {M_trace : Int64} {M_found : Int64} {M_foundSet : Int64} {M_foundTimes : Int64} {M_w : Int32} {M_h : Int32} {M_sides : Nat → Int32} {M_held : Nat → Int32} (C : gC X (gT cA) cX4_right 5 RX4 wsX4_right rmX4_right) (E : gEi X (some .int) (gT cA) 0 0 post (w1X4_right ad cA M_trace M_found M_foundSet M_foundTimes M_w M_h M_sides M_held)) (h : prX4_cells M_thrown M_trace M_found M_foundSet M_foundTimes M_w M_h M_sides ∧ ((fnX4_cells M_thrown M_trace M_found M_foundSet M_foundTimes M_w M_h M_sides) ≤ x4 → (x3 = 0 → post (0 : Int32) M_thrown) ∧ (¬ x3 = 0 → post (1 : Int32) M_thrown)) ∧ (¬ (fnX4_cells M_thrown M_trace M_found M_foundSet M_foundTimes M_w M_h M_sides) ≤ x4 → vp_in x4 36 ∧ ∀ x3_11 : Int32, x3_11 = (x3 &&& (if (M_held x4.toNatClampNeg) = (if ((x1 >>> (x4.toInt64 &&& 63)) &&& (1 : Int64)) = (1 : Int64) then (2 : Int32) else (1 : Int32)) then (0 : Int32) else (1 : Int32))) → atX4_right_20 X ad cA x1 x3_11 (x4 + 1) M_thrown M_trace M_found M_foundSet M_foundTimes M_w M_h M_sides M_held)) : atX4_right_20 X ad cA x1 x3 x4 M_thrown M_trace M_found M_foundSet M_foundTimes M_w M_h M_sides M_held := by
  refine g_iload C dX4_right_20 3 rfl ?_
  refine g_aload_n C dX4_right_22 rfl 0 rfl ?_
  obtain ⟨hi_4, h⟩ := h
  refine g_callVi (wr := [((ad 21), .inl (cA 0, 36, .inl M_held))]) C (c_X4_cells ad cA M_thrown M_trace M_found M_foundSet M_foundTimes M_w M_h M_sides hi_4) gX4_right_X4_cells rfl hde_X4_cells ⟨rfl, rfl⟩ (by decide) (by decide) [0, 1] [2] [1, 2, 0] rfl rfl rfl rfl (by decide) rfl (ws2 := fun u => [((ad 19), .inr (4, [.int M_thrown, .long M_trace, .ref (ad 20), .ref (ad 21), .ref (ad 22), .ref (ad 23), .ref (ad 24), .ref (ad 25), .ref (ad 26), .ref (ad 27), .ref (ad 28), .ref (ad 29), .ref (ad 30), .ref (ad 31), .long M_found, .long M_foundSet, .long M_foundTimes, .int M_w, .int M_h, .ref (ad 32), .ref (ad 33), .ref (ad 34)])), ((ad 20), .inl (cA 0, 3, .inl M_sides)), ((ad 21), .inl (cA 0, 36, .inl M_held))]) (fun _ => rfl) 4 0 rfl rfl rfl (rest := [.int x4]) rfl (Nat.le_of_ble_eq_true rfl) dX4_right_23 (fun r_5 u_5 hp_5 => ?_)
  subst hp_5
  change gW X 0 0 [((ad 19), .inr (4, [.int M_thrown, .long M_trace, .ref (ad 20), .ref (ad 21), .ref (ad 22), .ref (ad 23), .ref (ad 24), .ref (ad 25), .ref (ad 26), .ref (ad 27), .ref (ad 28), .ref (ad 29), .ref (ad 30), .ref (ad 31), .long M_found, .long M_foundSet, .long M_foundTimes, .int M_w, .int M_h, .ref (ad 32), .ref (ad 33), .ref (ad 34)])), ((ad 20), .inl (cA 0, 3, .inl M_sides)), ((ad 21), .inl (cA 0, 36, .inl M_held))] 5 [(0, .ref (ad 19)), (1, .long x1), (3, .int x3), (4, .int x4)] [.int (fnX4_cells M_thrown M_trace M_found M_foundSet M_foundTimes M_w M_h M_sides), .int x4] 26
  refine g_icmp_ge (tgt := 69) C dX4_right_26 (by decide) (fun c_6 => ?_) (fun c_6 => ?_)
  · replace h := h.1 c_6
    refine g_iload_n C dX4_right_69 rfl 2 rfl ?_
    refine g_if_eq (tgt := 77) C dX4_right_70 (by decide) (fun c_7 => ?_) (fun c_7 => ?_)
    · replace h := h.1 c_7
      refine g_iconst C dX4_right_77 ik_0 ?_
      exact g_iret C E M_thrown h rfl dX4_right_78
    · replace h := h.2 c_7
      refine g_iconst C dX4_right_73 ik_1 ?_
      refine g_goto (tgt := 78) C dX4_right_74 (by decide) ?_
      exact g_iret C E M_thrown h rfl dX4_right_78
  · replace h := h.2 c_6
    refine g_iload_n C dX4_right_29 rfl 2 rfl ?_
    refine g_aload_n C dX4_right_30 rfl 0 rfl ?_
    refine g_get C gfX4_right_13 0 rfl rfl dX4_right_31 ?_
    refine g_iload C dX4_right_34 3 rfl ?_
    obtain ⟨hi_8, h⟩ := h
    refine g_iald C 2 0 rfl rfl hi_8 dX4_right_36 ?_
    refine g_lload_n C dX4_right_37 rfl 1 rfl ?_
    refine g_iload C dX4_right_38 3 rfl ?_
    refine g_lshr C dX4_right_40 ?_
    refine g_lconst C dX4_right_41 lk_1 ?_
    refine g_land C dX4_right_42 ?_
    refine g_lconst C dX4_right_43 lk_1 ?_
    have key : gW X 0 0 [((ad 19), .inr (4, [.int M_thrown, .long M_trace, .ref (ad 20), .ref (ad 21), .ref (ad 22), .ref (ad 23), .ref (ad 24), .ref (ad 25), .ref (ad 26), .ref (ad 27), .ref (ad 28), .ref (ad 29), .ref (ad 30), .ref (ad 31), .long M_found, .long M_foundSet, .long M_foundTimes, .int M_w, .int M_h, .ref (ad 32), .ref (ad 33), .ref (ad 34)])), ((ad 20), .inl (cA 0, 3, .inl M_sides)), ((ad 21), .inl (cA 0, 36, .inl M_held))] 5 [(0, .ref (ad 19)), (1, .long x1), (3, .int x3), (4, .int x4)] [.int (if ((x1 >>> (x4.toInt64 &&& 63)) &&& (1 : Int64)) = (1 : Int64) then (2 : Int32) else (1 : Int32)), .int (M_held x4.toNatClampNeg), .int x3] 53 := by
      have key : gW X 0 0 [((ad 19), .inr (4, [.int M_thrown, .long M_trace, .ref (ad 20), .ref (ad 21), .ref (ad 22), .ref (ad 23), .ref (ad 24), .ref (ad 25), .ref (ad 26), .ref (ad 27), .ref (ad 28), .ref (ad 29), .ref (ad 30), .ref (ad 31), .long M_found, .long M_foundSet, .long M_foundTimes, .int M_w, .int M_h, .ref (ad 32), .ref (ad 33), .ref (ad 34)])), ((ad 20), .inl (cA 0, 3, .inl M_sides)), ((ad 21), .inl (cA 0, 36, .inl M_held))] 5 [(0, .ref (ad 19)), (1, .long x1), (3, .int x3), (4, .int x4)] [.int (if (M_held x4.toNatClampNeg) = (if ((x1 >>> (x4.toInt64 &&& 63)) &&& (1 : Int64)) = (1 : Int64) then (2 : Int32) else (1 : Int32)) then (0 : Int32) else (1 : Int32)), .int x3] 61 := by
        refine g_iand C dX4_right_61 ?_
        refine g_topi (fun x3_11 ex3_11 => ?_)
        replace h := h x3_11 ex3_11
        refine g_istore_n (lv2 := [(0, .ref (ad 19)), (1, .long x1), (3, .int x3_11), (4, .int x4)]) C dX4_right_62 rfl (by decide) [1, 2, 0, 3] rfl ?_
        refine g_iinc (v := (x4 + 1)) (lv2 := [(0, .ref (ad 19)), (1, .long x1), (3, .int x3_11), (4, .int (x4 + 1))]) C dX4_right_63 3 rfl (by first | rfl | decide) (by decide) [1, 2, 3, 0] rfl ?_
        refine g_goto (tgt := 20) C dX4_right_66 (by decide) ?_
        exact g_lv [0, 1, 2, 3] rfl h
      refine g_icmp_eq (tgt := 60) C dX4_right_53 (by decide) (fun c_10 => ?_) (fun c_10 => ?_)
      · refine g_iconst C dX4_right_60 ik_0 ?_
        exact g_leaf (by simp only [if_pos c_10] at key; first | exact key | (simp only [if_pos c_10]; exact key) | exact absurd rfl c_10)
      · refine g_iconst C dX4_right_56 ik_1 ?_
        refine g_goto (tgt := 61) C dX4_right_57 (by decide) ?_
        exact g_leaf (by simp only [if_neg c_10] at key; first | exact key | (simp only [if_neg c_10]; exact key) | exact absurd rfl c_10)
    refine g_lcmp_ne (tgt := 52) C dX4_right_44 dX4_right_45 rfl (by decide) (fun c_9 => ?_) (fun c_9 => ?_)
    · refine g_iconst C dX4_right_52 ik_1 ?_
      exact g_leaf (by simp only [if_neg c_9] at key; first | exact key | (simp only [if_neg c_9]; exact key) | exact absurd rfl c_9)
    · refine g_iconst C dX4_right_48 ik_2 ?_
      refine g_goto (tgt := 53) C dX4_right_49 (by decide) ?_
      exact g_leaf (by simp only [if_pos c_9] at key; first | exact key | (simp only [if_pos c_9]; exact key) | exact absurd rfl c_9)
def prX4_right (dx : Nat) (dy : Nat) (dz : Nat) (p1 : Int64) (M_thrown : Int32) (M_trace : Int64) (M_found : Int64) (M_foundSet : Int64) (M_foundTimes : Int64) (M_w : Int32) (M_h : Int32) (M_sides : Nat → Int32) (M_held : Nat → Int32) : Prop := dimOK dx dy dz ∧ sdOK M_sides dx dy dz
def po_X4_right (ad : Nat → Nat) (cA : Nat → ClassId) (dx : Nat) (dy : Nat) (dz : Nat) (p1 : Int64) (M_thrown : Int32) (M_trace : Int64) (M_found : Int64) (M_foundSet : Int64) (M_foundTimes : Int64) (M_w : Int32) (M_h : Int32) (M_sides : Nat → Int32) (M_held : Nat → Int32) (r : Int32) (u : (Int32)) : Prop := r = (if isS (dx * dy * dz) p1 = true then bI (rgtA (dx * dy * dz) M_held (sb p1)) else -1) ∧ u = 0
set_option maxHeartbeats 4000000 in
set_option maxRecDepth 100000 in
theorem c_X4_right (ad : Nat → Nat) (cA : Nat → ClassId) (dx : Nat) (dy : Nat) (dz : Nat) (p1 : Int64) (M_thrown : Int32) (M_trace : Int64) (M_found : Int64) (M_foundSet : Int64) (M_foundTimes : Int64) (M_w : Int32) (M_h : Int32) (M_sides : Nat → Int32) (M_held : Nat → Int32) (hq : prX4_right dx dy dz p1 M_thrown M_trace M_found M_foundSet M_foundTimes M_w M_h M_sides M_held) : ∀ (l : Launch) (D : va_G), gMi (S := (Int32)) l yX4_right wsX4_right rmX4_right D (gT cA) 0 0 [.ref (ad 19), .long p1] (wcX4_right ad cA M_thrown M_trace M_found M_foundSet M_foundTimes M_w M_h M_sides M_held) (po_X4_right ad cA dx dy dz p1 M_thrown M_trace M_found M_foundSet M_foundTimes M_w M_h M_sides M_held) (w1X4_right ad cA M_trace M_found M_foundSet M_foundTimes M_w M_h M_sides M_held) := by
  intro l D
  unfold prX4_right at hq
  refine g_enteri (cc := cX4_right) (nL := 5) (ret := (some .int)) (by decide) rfl (Nat.le_of_ble_eq_true rfl) rfl (fun X C E => ?_)
  obtain ⟨hd, hs⟩ := hq
  have hV := hd.2.2.2.2.2.2
  refine sgX4_right_0 C E ?_
  obtain ⟨i1, i2⟩ := isSet4_eq (M_thrown := 0) (M_trace := M_trace) (M_found := M_found) (M_foundSet := M_foundSet) (M_foundTimes := M_foundTimes) (M_w := M_w) (M_h := M_h) hd hs p1
  obtain ⟨c1, c2⟩ := cells_eq (M_thrown := 0) (M_trace := M_trace) (M_found := M_found) (M_foundSet := M_foundSet) (M_foundTimes := M_foundTimes) (M_w := M_w) (M_h := M_h) hs
  rw [i1]
  refine ⟨i2, fun c => ?_, fun c => ⟨by rw [c]; rfl, rfl⟩⟩
  have fin : ∀ v, v = bI (rgtA (dx * dy * dz) M_held (sb p1)) → po_X4_right ad cA dx dy dz p1 M_thrown M_trace M_found M_foundSet M_foundTimes M_w M_h M_sides M_held v 0 := fun v e => ⟨by rw [c, e]; rfl, rfl⟩
  have loop : ∀ c, c ≤ dx * dy * dz → atX4_right_20 X ad cA p1 (bI (rgtA c M_held (sb p1))) (nI c) 0 M_trace M_found M_foundSet M_foundTimes M_w M_h M_sides M_held := by
    intro c hc'
    refine up_loop (P := fun c => atX4_right_20 X ad cA p1 (bI (rgtA c M_held (sb p1))) (nI c) 0 M_trace M_found M_foundSet M_foundTimes M_w M_h M_sides M_held) (dx * dy * dz) ?_ (fun c hc ih => ?_) c hc'
    · refine sgX4_right_20 C E ?_
      rw [c1]
      refine ⟨c2, fun _ => ⟨fun q => fin _ ?_, fun q => fin _ ?_⟩, fun c => absurd (i32_le_refl _) c⟩
      · rw [bI_0] at q; rw [q]; rfl
      · rw [bI_0] at q
        cases g : rgtA (dx * dy * dz) M_held (sb p1)
        · exact absurd g q
        · rfl
    · refine sgX4_right_20 C E ?_
      rw [c1, nI_clamp (n := c) (by omega), nI_1 c]
      refine ⟨c2, fun c => absurd c (nI_ge hc (by omega)), fun _ => ⟨vp_in_nI (by omega) (by decide), fun x3 e3 => ?_⟩⟩
      have e : x3 = bI (rgtA (c + 1) M_held (sb p1)) := by
        have e2 : (if ((p1 >>> ((nI c).toInt64 &&& 63)) &&& (1 : Int64)) = (1 : Int64) then (2 : Int32) else 1) = (if sb p1 c = true then 2 else 1) := by
          by_cases q : sb p1 c = true
          · rw [if_pos q, if_pos ((zb_bit p1 (by omega)).mpr q)]
          · rw [if_neg q, if_neg (fun z => q ((zb_bit p1 (by omega)).mp z))]
        rw [e3, rgtA_succ, e2]
        by_cases q : M_held c = (if sb p1 c = true then 2 else 1)
        · rw [if_pos q, decide_eq_true q]
          cases rgtA c M_held (sb p1) <;> decide
        · rw [if_neg q, decide_eq_false q]
          cases rgtA c M_held (sb p1) <;> decide
      rw [e]; exact ih
  exact loop 0 (Nat.zero_le _)


abbrev w1X4_free (ad : Nat → Nat) (cA : Nat → ClassId) (M_thrown : Int32) (M_trace : Int64) (M_found : Int64) (M_foundSet : Int64) (M_foundTimes : Int64) (M_w : Int32) (M_h : Int32) (M_sides : Nat → Int32) (M_held : Nat → Int32) (u : Unit) : va_W := [((ad 19), .inr (4, [.int M_thrown, .long M_trace, .ref (ad 20), .ref (ad 21), .ref (ad 22), .ref (ad 23), .ref (ad 24), .ref (ad 25), .ref (ad 26), .ref (ad 27), .ref (ad 28), .ref (ad 29), .ref (ad 30), .ref (ad 31), .long M_found, .long M_foundSet, .long M_foundTimes, .int M_w, .int M_h, .ref (ad 32), .ref (ad 33), .ref (ad 34)])), ((ad 20), .inl (cA 0, 3, .inl M_sides)), ((ad 21), .inl (cA 0, 36, .inl M_held))]
abbrev wcX4_free (ad : Nat → Nat) (cA : Nat → ClassId) (M_thrown : Int32) (M_trace : Int64) (M_found : Int64) (M_foundSet : Int64) (M_foundTimes : Int64) (M_w : Int32) (M_h : Int32) (M_sides : Nat → Int32) (M_held : Nat → Int32) : va_W := [((ad 19), .inr (4, [.int M_thrown, .long M_trace, .ref (ad 20), .ref (ad 21), .ref (ad 22), .ref (ad 23), .ref (ad 24), .ref (ad 25), .ref (ad 26), .ref (ad 27), .ref (ad 28), .ref (ad 29), .ref (ad 30), .ref (ad 31), .long M_found, .long M_foundSet, .long M_foundTimes, .int M_w, .int M_h, .ref (ad 32), .ref (ad 33), .ref (ad 34)])), ((ad 20), .inl (cA 0, 3, .inl M_sides)), ((ad 21), .inl (cA 0, 36, .inl M_held))]
def rmX4_free : Room := { frames := 1, cells := 0, slots := 0, locals := 20 }
abbrev atX4_free_0 (X : gX) (ad : Nat → Nat) (cA : Nat → ClassId) (M_thrown : Int32) (M_trace : Int64) (M_found : Int64) (M_foundSet : Int64) (M_foundTimes : Int64) (M_w : Int32) (M_h : Int32) (M_sides : Nat → Int32) (M_held : Nat → Int32) : Prop := gW X 0 0 [((ad 19), .inr (4, [.int M_thrown, .long M_trace, .ref (ad 20), .ref (ad 21), .ref (ad 22), .ref (ad 23), .ref (ad 24), .ref (ad 25), .ref (ad 26), .ref (ad 27), .ref (ad 28), .ref (ad 29), .ref (ad 30), .ref (ad 31), .long M_found, .long M_foundSet, .long M_foundTimes, .int M_w, .int M_h, .ref (ad 32), .ref (ad 33), .ref (ad 34)])), ((ad 20), .inl (cA 0, 3, .inl M_sides)), ((ad 21), .inl (cA 0, 36, .inl M_held))] 3 [(0, .ref (ad 19))] [] 0
abbrev atX4_free_4 (X : gX) (ad : Nat → Nat) (cA : Nat → ClassId) (x1 : Int32) (x2 : Int32) (M_thrown : Int32) (M_trace : Int64) (M_found : Int64) (M_foundSet : Int64) (M_foundTimes : Int64) (M_w : Int32) (M_h : Int32) (M_sides : Nat → Int32) (M_held : Nat → Int32) : Prop := gW X 0 0 [((ad 19), .inr (4, [.int M_thrown, .long M_trace, .ref (ad 20), .ref (ad 21), .ref (ad 22), .ref (ad 23), .ref (ad 24), .ref (ad 25), .ref (ad 26), .ref (ad 27), .ref (ad 28), .ref (ad 29), .ref (ad 30), .ref (ad 31), .long M_found, .long M_foundSet, .long M_foundTimes, .int M_w, .int M_h, .ref (ad 32), .ref (ad 33), .ref (ad 34)])), ((ad 20), .inl (cA 0, 3, .inl M_sides)), ((ad 21), .inl (cA 0, 36, .inl M_held))] 3 [(0, .ref (ad 19)), (1, .int x1), (2, .int x2)] [] 4
theorem giX4_free_X4 : ∀ w ∈ u_ws RX4 TX4 22, w ∈ wsX4_free := by decide +kernel
theorem gfX4_free_13 : gF wsX4_free RX4 13 4 3 RX4 TX4 22 := ⟨giX4_free_X4, by decide +kernel, rfl, by decide⟩
set_option maxHeartbeats 4000000 in
set_option maxRecDepth 100000 in
theorem sgX4_free_0 {X : gX} {ad : Nat → Nat} {cA : Nat → ClassId} {post : Int32 → (Unit) → Prop} {M_thrown : Int32} {M_trace : Int64} {M_found : Int64} {M_foundSet : Int64} {M_foundTimes : Int64} {M_w : Int32} {M_h : Int32} {M_sides : Nat → Int32} {M_held : Nat → Int32} (C : gC X (gT cA) cX4_free 3 RX4 wsX4_free rmX4_free) (E : gEi X (some .int) (gT cA) 0 0 post (w1X4_free ad cA M_thrown M_trace M_found M_foundSet M_foundTimes M_w M_h M_sides M_held)) (h : atX4_free_4 X ad cA (0 : Int32) (0 : Int32) M_thrown M_trace M_found M_foundSet M_foundTimes M_w M_h M_sides M_held) : atX4_free_0 X ad cA M_thrown M_trace M_found M_foundSet M_foundTimes M_w M_h M_sides M_held := by
  refine g_iconst C dX4_free_0 ik_0 ?_
  refine g_istore_n (lv2 := [(0, .ref (ad 19)), (1, .int (0 : Int32))]) C dX4_free_1 rfl (by decide) [1, 0] rfl ?_
  refine g_iconst C dX4_free_2 ik_0 ?_
  refine g_istore_n (lv2 := [(0, .ref (ad 19)), (1, .int (0 : Int32)), (2, .int (0 : Int32))]) C dX4_free_3 rfl (by decide) [1, 2, 0] rfl ?_
  exact g_lv [0, 1, 2] rfl h
set_option maxHeartbeats 4000000 in
set_option maxRecDepth 100000 in
theorem sgX4_free_4 {X : gX} {ad : Nat → Nat} {cA : Nat → ClassId} {post : Int32 → (Unit) → Prop} {x1 : Int32} {x2 : Int32} {M_thrown : Int32} {M_trace : Int64} {M_found : Int64} {M_foundSet : Int64} {M_foundTimes : Int64} {M_w : Int32} {M_h : Int32} {M_sides : Nat → Int32} {M_held : Nat → Int32} (C : gC X (gT cA) cX4_free 3 RX4 wsX4_free rmX4_free) (E : gEi X (some .int) (gT cA) 0 0 post (w1X4_free ad cA M_thrown M_trace M_found M_foundSet M_foundTimes M_w M_h M_sides M_held)) (h : prX4_cells M_thrown M_trace M_found M_foundSet M_foundTimes M_w M_h M_sides ∧ ((fnX4_cells M_thrown M_trace M_found M_foundSet M_foundTimes M_w M_h M_sides) ≤ x2 → post x1 ()) ∧ (¬ (fnX4_cells M_thrown M_trace M_found M_foundSet M_foundTimes M_w M_h M_sides) ≤ x2 → vp_in x2 36 ∧ ∀ x1_6 : Int32, x1_6 = (x1 + (if (M_held x2.toNatClampNeg) = 0 then (1 : Int32) else (0 : Int32))) → atX4_free_4 X ad cA x1_6 (x2 + 1) M_thrown M_trace M_found M_foundSet M_foundTimes M_w M_h M_sides M_held)) : atX4_free_4 X ad cA x1 x2 M_thrown M_trace M_found M_foundSet M_foundTimes M_w M_h M_sides M_held := by
  refine g_iload_n C dX4_free_4 rfl 2 rfl ?_
  refine g_aload_n C dX4_free_5 rfl 0 rfl ?_
  obtain ⟨hi_1, h⟩ := h
  refine g_callVi (wr := [((ad 21), .inl (cA 0, 36, .inl M_held))]) C (c_X4_cells ad cA M_thrown M_trace M_found M_foundSet M_foundTimes M_w M_h M_sides hi_1) gX4_free_X4_cells rfl hde_X4_cells ⟨rfl, rfl⟩ (by decide) (by decide) [0, 1] [2] [1, 2, 0] rfl rfl rfl rfl (by decide) rfl (ws2 := fun u => [((ad 19), .inr (4, [.int M_thrown, .long M_trace, .ref (ad 20), .ref (ad 21), .ref (ad 22), .ref (ad 23), .ref (ad 24), .ref (ad 25), .ref (ad 26), .ref (ad 27), .ref (ad 28), .ref (ad 29), .ref (ad 30), .ref (ad 31), .long M_found, .long M_foundSet, .long M_foundTimes, .int M_w, .int M_h, .ref (ad 32), .ref (ad 33), .ref (ad 34)])), ((ad 20), .inl (cA 0, 3, .inl M_sides)), ((ad 21), .inl (cA 0, 36, .inl M_held))]) (fun _ => rfl) 4 0 rfl rfl rfl (rest := [.int x2]) rfl (Nat.le_of_ble_eq_true rfl) dX4_free_6 (fun r_2 u_2 hp_2 => ?_)
  subst hp_2
  change gW X 0 0 [((ad 19), .inr (4, [.int M_thrown, .long M_trace, .ref (ad 20), .ref (ad 21), .ref (ad 22), .ref (ad 23), .ref (ad 24), .ref (ad 25), .ref (ad 26), .ref (ad 27), .ref (ad 28), .ref (ad 29), .ref (ad 30), .ref (ad 31), .long M_found, .long M_foundSet, .long M_foundTimes, .int M_w, .int M_h, .ref (ad 32), .ref (ad 33), .ref (ad 34)])), ((ad 20), .inl (cA 0, 3, .inl M_sides)), ((ad 21), .inl (cA 0, 36, .inl M_held))] 3 [(0, .ref (ad 19)), (1, .int x1), (2, .int x2)] [.int (fnX4_cells M_thrown M_trace M_found M_foundSet M_foundTimes M_w M_h M_sides), .int x2] 9
  refine g_icmp_ge (tgt := 35) C dX4_free_9 (by decide) (fun c_3 => ?_) (fun c_3 => ?_)
  · replace h := h.1 c_3
    refine g_iload_n C dX4_free_35 rfl 1 rfl ?_
    exact g_iret C E () h rfl dX4_free_36
  · replace h := h.2 c_3
    refine g_iload_n C dX4_free_12 rfl 1 rfl ?_
    refine g_aload_n C dX4_free_13 rfl 0 rfl ?_
    refine g_get C gfX4_free_13 0 rfl rfl dX4_free_14 ?_
    refine g_iload_n C dX4_free_17 rfl 2 rfl ?_
    obtain ⟨hi_4, h⟩ := h
    refine g_iald C 2 0 rfl rfl hi_4 dX4_free_18 ?_
    have key : gW X 0 0 [((ad 19), .inr (4, [.int M_thrown, .long M_trace, .ref (ad 20), .ref (ad 21), .ref (ad 22), .ref (ad 23), .ref (ad 24), .ref (ad 25), .ref (ad 26), .ref (ad 27), .ref (ad 28), .ref (ad 29), .ref (ad 30), .ref (ad 31), .long M_found, .long M_foundSet, .long M_foundTimes, .int M_w, .int M_h, .ref (ad 32), .ref (ad 33), .ref (ad 34)])), ((ad 20), .inl (cA 0, 3, .inl M_sides)), ((ad 21), .inl (cA 0, 36, .inl M_held))] 3 [(0, .ref (ad 19)), (1, .int x1), (2, .int x2)] [.int (if (M_held x2.toNatClampNeg) = 0 then (1 : Int32) else (0 : Int32)), .int x1] 27 := by
      refine g_iadd C dX4_free_27 ?_
      refine g_topi (fun x1_6 ex1_6 => ?_)
      replace h := h x1_6 ex1_6
      refine g_istore_n (lv2 := [(0, .ref (ad 19)), (1, .int x1_6), (2, .int x2)]) C dX4_free_28 rfl (by decide) [1, 0, 2] rfl ?_
      refine g_iinc (v := (x2 + 1)) (lv2 := [(0, .ref (ad 19)), (1, .int x1_6), (2, .int (x2 + 1))]) C dX4_free_29 2 rfl (by first | rfl | decide) (by decide) [1, 2, 0] rfl ?_
      refine g_goto (tgt := 4) C dX4_free_32 (by decide) ?_
      exact g_lv [0, 1, 2] rfl h
    refine g_if_ne (tgt := 26) C dX4_free_19 (by decide) (fun c_5 => ?_) (fun c_5 => ?_)
    · refine g_iconst C dX4_free_26 ik_0 ?_
      exact g_leaf (by simp only [if_neg c_5] at key; first | exact key | (simp only [if_neg c_5]; exact key) | exact absurd rfl c_5)
    · refine g_iconst C dX4_free_22 ik_1 ?_
      refine g_goto (tgt := 27) C dX4_free_23 (by decide) ?_
      exact g_leaf (by simp only [if_pos c_5] at key; first | exact key | (simp only [if_pos c_5]; exact key) | exact absurd rfl c_5)
def prX4_free (dx : Nat) (dy : Nat) (dz : Nat) (M_thrown : Int32) (M_trace : Int64) (M_found : Int64) (M_foundSet : Int64) (M_foundTimes : Int64) (M_w : Int32) (M_h : Int32) (M_sides : Nat → Int32) (M_held : Nat → Int32) : Prop := dimOK dx dy dz ∧ sdOK M_sides dx dy dz
def po_X4_free (ad : Nat → Nat) (cA : Nat → ClassId) (dx : Nat) (dy : Nat) (dz : Nat) (M_thrown : Int32) (M_trace : Int64) (M_found : Int64) (M_foundSet : Int64) (M_foundTimes : Int64) (M_w : Int32) (M_h : Int32) (M_sides : Nat → Int32) (M_held : Nat → Int32) (r : Int32) (u : Unit) : Prop := r = nI (cntA (dx * dy * dz) (fun c => decide (M_held c = 0)))
set_option maxHeartbeats 4000000 in
set_option maxRecDepth 100000 in
theorem c_X4_free (ad : Nat → Nat) (cA : Nat → ClassId) (dx : Nat) (dy : Nat) (dz : Nat) (M_thrown : Int32) (M_trace : Int64) (M_found : Int64) (M_foundSet : Int64) (M_foundTimes : Int64) (M_w : Int32) (M_h : Int32) (M_sides : Nat → Int32) (M_held : Nat → Int32) (hq : prX4_free dx dy dz M_thrown M_trace M_found M_foundSet M_foundTimes M_w M_h M_sides M_held) : ∀ (l : Launch) (D : va_G), gMi (S := Unit) l yX4_free wsX4_free rmX4_free D (gT cA) 0 0 [.ref (ad 19)] (wcX4_free ad cA M_thrown M_trace M_found M_foundSet M_foundTimes M_w M_h M_sides M_held) (po_X4_free ad cA dx dy dz M_thrown M_trace M_found M_foundSet M_foundTimes M_w M_h M_sides M_held) (w1X4_free ad cA M_thrown M_trace M_found M_foundSet M_foundTimes M_w M_h M_sides M_held) := by
  intro l D
  unfold prX4_free at hq
  refine g_enteri (cc := cX4_free) (nL := 3) (ret := (some .int)) (by decide) rfl (Nat.le_of_ble_eq_true rfl) rfl (fun X C E => ?_)
  obtain ⟨hd, hs⟩ := hq
  have hV := hd.2.2.2.2.2.2
  obtain ⟨c1, c2⟩ := cells_eq (M_thrown := M_thrown) (M_trace := M_trace) (M_found := M_found) (M_foundSet := M_foundSet) (M_foundTimes := M_foundTimes) (M_w := M_w) (M_h := M_h) hs
  have loop : ∀ c, c ≤ dx * dy * dz → atX4_free_4 X ad cA (nI (cntA c (fun c => decide (M_held c = 0)))) (nI c) M_thrown M_trace M_found M_foundSet M_foundTimes M_w M_h M_sides M_held := by
    intro c hc'
    refine up_loop (P := fun c => atX4_free_4 X ad cA (nI (cntA c (fun c => decide (M_held c = 0)))) (nI c) M_thrown M_trace M_found M_foundSet M_foundTimes M_w M_h M_sides M_held) (dx * dy * dz) ?_ (fun c hc ih => ?_) c hc'
    · refine sgX4_free_4 C E ?_
      rw [c1]
      exact ⟨c2, fun _ => rfl, fun c => absurd (i32_le_refl _) c⟩
    · refine sgX4_free_4 C E ?_
      rw [c1, nI_clamp (n := c) (by omega), nI_1 c]
      refine ⟨c2, fun c => absurd c (nI_ge hc (by omega)), fun _ => ⟨vp_in_nI (by omega) (by decide), fun x e => ?_⟩⟩
      have e2 : x = nI (cntA (c + 1) (fun c => decide (M_held c = 0))) := by
        rw [e]
        simp only [cntA]
        by_cases q : M_held c = 0
        · rw [if_pos q, if_pos (decide_eq_true q)]; exact nI_1 _
        · rw [if_neg q, if_neg (by rw [decide_eq_false q]; decide)]; exact Int32.add_zero _
      rw [e2]; exact ih
  exact sgX4_free_0 C E (loop 0 (Nat.zero_le _))


def boxOK (p1 p2 p3 : Int32) : Prop := ∃ X Y Z, dimOK X Y Z ∧ p1 = nI X ∧ p2 = nI Y ∧ p3 = nI Z
def sd3 (sd : Nat → Int32) (a b c : Int32) : Nat → Int32 := upd (upd (upd sd 0 a) 1 b) 2 c
theorem sd3_ok (sd : Nat → Int32) (X Y Z : Nat) : sdOK (sd3 sd (nI X) (nI Y) (nI Z)) X Y Z := ⟨rfl, rfl, rfl⟩
theorem box_iff (p1 p2 p3 : Int32) : boxOK p1 p2 p3 ↔ (1 ≤ p1.toInt ∧ p1.toInt ≤ 4) ∧ (1 ≤ p2.toInt ∧ p2.toInt ≤ 4) ∧ (1 ≤ p3.toInt ∧ p3.toInt ≤ 4) ∧ p1 * p2 * p3 ≤ 36 := by
  constructor
  · rintro ⟨X, Y, Z, ⟨h1, h2, h3, h4, h5, h6, h7⟩, rfl, rfl, rfl⟩
    rw [nI_toInt (by omega), nI_toInt (by omega), nI_toInt (by omega), pk_mul, pk_mul, show (36 : Int32) = nI 36 from rfl, nI_leI (by omega) (by decide)]
    omega
  · rintro ⟨⟨a1, a2⟩, ⟨b1, b2⟩, ⟨c1, c2⟩, h⟩
    obtain ⟨X, hX, rfl⟩ := i_nat (n := 4) (by omega : 0 ≤ p1.toInt) a2
    obtain ⟨Y, hY, rfl⟩ := i_nat (n := 4) (by omega : 0 ≤ p2.toInt) b2
    obtain ⟨Z, hZ, rfl⟩ := i_nat (n := 4) (by omega : 0 ≤ p3.toInt) c2
    rw [nI_toInt (by omega)] at a1 b1 c1
    have m1 : X * Y ≤ 4 * 4 := Nat.mul_le_mul hX hY
    have m2 : X * Y * Z ≤ 16 * 4 := Nat.mul_le_mul m1 hZ
    rw [pk_mul, pk_mul, show (36 : Int32) = nI 36 from rfl, nI_leI (by omega) (by decide)] at h
    exact ⟨X, Y, Z, ⟨by omega, hX, by omega, hY, by omega, hZ, h⟩, rfl, rfl, rfl⟩
theorem fill_u (f : Nat → Int32) (n : Nat) (v : Int32) : upd (fillA n v f) n v = fillA (n + 1) v f := by
  funext j
  unfold upd fillA
  by_cases q : j = n
  · rw [if_pos q, if_pos (by omega)]
  · rw [if_neg q]
    by_cases g : j < n
    · rw [if_pos g, if_pos (by omega)]
    · rw [if_neg g, if_neg (by omega)]
theorem fill_0 (f : Nat → Int32) (v : Int32) : fillA 0 v f = f := by
  funext j
  exact if_neg (Nat.not_lt_zero j)

abbrev w1X4_box (ad : Nat → Nat) (cA : Nat → ClassId) (M_trace : Int64) (M_found : Int64) (M_foundSet : Int64) (M_foundTimes : Int64) (M_w : Int32) (M_h : Int32) (u : (Int32) × (Nat → Int32) × (Nat → Int32) × (Nat → Int32)) : va_W := [((ad 19), .inr (4, [.int u.1, .long M_trace, .ref (ad 20), .ref (ad 21), .ref (ad 22), .ref (ad 23), .ref (ad 24), .ref (ad 25), .ref (ad 26), .ref (ad 27), .ref (ad 28), .ref (ad 29), .ref (ad 30), .ref (ad 31), .long M_found, .long M_foundSet, .long M_foundTimes, .int M_w, .int M_h, .ref (ad 32), .ref (ad 33), .ref (ad 34)])), ((ad 20), .inl (cA 0, 3, .inl u.2.1)), ((ad 21), .inl (cA 0, 36, .inl u.2.2.1)), ((ad 22), .inl (cA 0, 36, .inl u.2.2.2))]
abbrev wcX4_box (ad : Nat → Nat) (cA : Nat → ClassId) (M_thrown : Int32) (M_trace : Int64) (M_found : Int64) (M_foundSet : Int64) (M_foundTimes : Int64) (M_w : Int32) (M_h : Int32) (M_sides : Nat → Int32) (M_held : Nat → Int32) (M_price : Nat → Int32) : va_W := [((ad 19), .inr (4, [.int M_thrown, .long M_trace, .ref (ad 20), .ref (ad 21), .ref (ad 22), .ref (ad 23), .ref (ad 24), .ref (ad 25), .ref (ad 26), .ref (ad 27), .ref (ad 28), .ref (ad 29), .ref (ad 30), .ref (ad 31), .long M_found, .long M_foundSet, .long M_foundTimes, .int M_w, .int M_h, .ref (ad 32), .ref (ad 33), .ref (ad 34)])), ((ad 20), .inl (cA 0, 3, .inl M_sides)), ((ad 21), .inl (cA 0, 36, .inl M_held)), ((ad 22), .inl (cA 0, 36, .inl M_price))]
def rmX4_box : Room := { frames := 1, cells := 0, slots := 0, locals := 25 }
abbrev atX4_box_0 (X : gX) (ad : Nat → Nat) (cA : Nat → ClassId) (p1 : Int32) (p2 : Int32) (p3 : Int32) (M_thrown : Int32) (M_trace : Int64) (M_found : Int64) (M_foundSet : Int64) (M_foundTimes : Int64) (M_w : Int32) (M_h : Int32) (M_sides : Nat → Int32) (M_held : Nat → Int32) (M_price : Nat → Int32) : Prop := gW X 0 0 [((ad 19), .inr (4, [.int M_thrown, .long M_trace, .ref (ad 20), .ref (ad 21), .ref (ad 22), .ref (ad 23), .ref (ad 24), .ref (ad 25), .ref (ad 26), .ref (ad 27), .ref (ad 28), .ref (ad 29), .ref (ad 30), .ref (ad 31), .long M_found, .long M_foundSet, .long M_foundTimes, .int M_w, .int M_h, .ref (ad 32), .ref (ad 33), .ref (ad 34)])), ((ad 20), .inl (cA 0, 3, .inl M_sides)), ((ad 21), .inl (cA 0, 36, .inl M_held)), ((ad 22), .inl (cA 0, 36, .inl M_price))] 5 [(0, .ref (ad 19)), (1, .int p1), (2, .int p2), (3, .int p3)] [] 0
abbrev atX4_box_77 (X : gX) (ad : Nat → Nat) (cA : Nat → ClassId) (x4 : Int32) (M_thrown : Int32) (M_trace : Int64) (M_found : Int64) (M_foundSet : Int64) (M_foundTimes : Int64) (M_w : Int32) (M_h : Int32) (M_sides : Nat → Int32) (M_held : Nat → Int32) (M_price : Nat → Int32) : Prop := gW X 0 0 [((ad 19), .inr (4, [.int M_thrown, .long M_trace, .ref (ad 20), .ref (ad 21), .ref (ad 22), .ref (ad 23), .ref (ad 24), .ref (ad 25), .ref (ad 26), .ref (ad 27), .ref (ad 28), .ref (ad 29), .ref (ad 30), .ref (ad 31), .long M_found, .long M_foundSet, .long M_foundTimes, .int M_w, .int M_h, .ref (ad 32), .ref (ad 33), .ref (ad 34)])), ((ad 20), .inl (cA 0, 3, .inl M_sides)), ((ad 21), .inl (cA 0, 36, .inl M_held)), ((ad 22), .inl (cA 0, 36, .inl M_price))] 5 [(0, .ref (ad 19)), (4, .int x4)] [] 77
theorem cnX4_box_78 : Cond.constantLong RX4 78 (4) ∈ wsX4_box := by decide +kernel
theorem giX4_box_X4 : ∀ w ∈ u_ws RX4 TX4 22, w ∈ wsX4_box := by decide +kernel
theorem gfX4_box_67 : gF wsX4_box RX4 67 4 0 RX4 TX4 22 := ⟨giX4_box_X4, by decide +kernel, rfl, by decide⟩
theorem gfX4_box_7 : gF wsX4_box RX4 7 4 2 RX4 TX4 22 := ⟨giX4_box_X4, by decide +kernel, rfl, by decide⟩
theorem gfX4_box_13 : gF wsX4_box RX4 13 4 3 RX4 TX4 22 := ⟨giX4_box_X4, by decide +kernel, rfl, by decide⟩
theorem gfX4_box_16 : gF wsX4_box RX4 16 4 4 RX4 TX4 22 := ⟨giX4_box_X4, by decide +kernel, rfl, by decide⟩
set_option maxHeartbeats 4000000 in
set_option maxRecDepth 100000 in
theorem sgX4_box_0 {X : gX} {ad : Nat → Nat} {cA : Nat → ClassId} {post : Int32 → ((Int32) × (Nat → Int32) × (Nat → Int32) × (Nat → Int32)) → Prop} {p1 : Int32} {p2 : Int32} {p3 : Int32} {M_thrown : Int32} {M_trace : Int64} {M_found : Int64} {M_foundSet : Int64} {M_foundTimes : Int64} {M_w : Int32} {M_h : Int32} {M_sides : Nat → Int32} {M_held : Nat → Int32} {M_price : Nat → Int32} (C : gC X (gT cA) cX4_box 5 RX4 wsX4_box rmX4_box) (E : gEi X (some .int) (gT cA) 0 0 post (w1X4_box ad cA M_trace M_found M_foundSet M_foundTimes M_w M_h)) (h : ((fnX4_in p1.toInt64 (1 : Int64) (4 : Int64)) = false → post (-1 : Int32) ((0 : Int32), M_sides, M_held, M_price)) ∧ ((fnX4_in p1.toInt64 (1 : Int64) (4 : Int64)) = true → ((fnX4_in p2.toInt64 (1 : Int64) (4 : Int64)) = false → post (-1 : Int32) ((0 : Int32), M_sides, M_held, M_price)) ∧ ((fnX4_in p2.toInt64 (1 : Int64) (4 : Int64)) = true → ((fnX4_in p3.toInt64 (1 : Int64) (4 : Int64)) = false → post (-1 : Int32) ((0 : Int32), M_sides, M_held, M_price)) ∧ ((fnX4_in p3.toInt64 (1 : Int64) (4 : Int64)) = true → (((p1 * p2) * p3) ≤ (36 : Int32) → vp_in (0 : Int32) 3 ∧ vp_in (1 : Int32) 3 ∧ vp_in (2 : Int32) 3 ∧ atX4_box_77 X ad cA (0 : Int32) (0 : Int32) M_trace M_found M_foundSet M_foundTimes M_w M_h (upd (upd (upd M_sides (0 : Int32).toNatClampNeg p1) (1 : Int32).toNatClampNeg p2) (2 : Int32).toNatClampNeg p3) M_held M_price) ∧ (¬ ((p1 * p2) * p3) ≤ (36 : Int32) → post (-1 : Int32) ((0 : Int32), M_sides, M_held, M_price)))))) : atX4_box_0 X ad cA p1 p2 p3 M_thrown M_trace M_found M_foundSet M_foundTimes M_w M_h M_sides M_held M_price := by
  refine g_aload_n C dX4_box_0 rfl 0 rfl ?_
  refine g_iconst C dX4_box_1 ik_0 ?_
  refine g_put (ws2 := [((ad 19), .inr (4, [.int (0 : Int32), .long M_trace, .ref (ad 20), .ref (ad 21), .ref (ad 22), .ref (ad 23), .ref (ad 24), .ref (ad 25), .ref (ad 26), .ref (ad 27), .ref (ad 28), .ref (ad 29), .ref (ad 30), .ref (ad 31), .long M_found, .long M_foundSet, .long M_foundTimes, .int M_w, .int M_h, .ref (ad 32), .ref (ad 33), .ref (ad 34)])), ((ad 20), .inl (cA 0, 3, .inl M_sides)), ((ad 21), .inl (cA 0, 36, .inl M_held)), ((ad 22), .inl (cA 0, 36, .inl M_price))]) C gfX4_box_67 0 tyX4_ok nmX4 rfl rfl rfl rfl (Nat.le_of_ble_eq_true rfl) rfl dX4_box_2 ?_
  refine g_iload_n C dX4_box_5 rfl 1 rfl ?_
  refine g_i2l C dX4_box_6 ?_
  refine g_lconst C dX4_box_7 lk_1 ?_
  refine g_ldc2_w C cnX4_box_78 dX4_box_8 ?_
  refine g_callSi (b := 0) (wr := [((ad 19), .inr (4, [.int (0 : Int32), .long M_trace, .ref (ad 20), .ref (ad 21), .ref (ad 22), .ref (ad 23), .ref (ad 24), .ref (ad 25), .ref (ad 26), .ref (ad 27), .ref (ad 28), .ref (ad 29), .ref (ad 30), .ref (ad 31), .long M_found, .long M_foundSet, .long M_foundTimes, .int M_w, .int M_h, .ref (ad 32), .ref (ad 33), .ref (ad 34)])), ((ad 20), .inl (cA 0, 3, .inl M_sides)), ((ad 21), .inl (cA 0, 36, .inl M_held)), ((ad 22), .inl (cA 0, 36, .inl M_price))]) C (c_X4_in ad cA p1.toInt64 (1 : Int64) (4 : Int64)) gX4_box_X4_in rfl hde_X4_in ⟨rfl, rfl⟩ (by decide) (by decide) [] [0, 1, 2, 3] [0, 1, 2, 3] rfl rfl rfl rfl (by decide) rfl (ws2 := fun u => [((ad 19), .inr (4, [.int (0 : Int32), .long M_trace, .ref (ad 20), .ref (ad 21), .ref (ad 22), .ref (ad 23), .ref (ad 24), .ref (ad 25), .ref (ad 26), .ref (ad 27), .ref (ad 28), .ref (ad 29), .ref (ad 30), .ref (ad 31), .long M_found, .long M_foundSet, .long M_foundTimes, .int M_w, .int M_h, .ref (ad 32), .ref (ad 33), .ref (ad 34)])), ((ad 20), .inl (cA 0, 3, .inl M_sides)), ((ad 21), .inl (cA 0, 36, .inl M_held)), ((ad 22), .inl (cA 0, 36, .inl M_price))]) (fun _ => rfl) (rest := []) rfl (Nat.le_of_ble_eq_true rfl) dX4_box_11 (fun r_1 u_1 hp_1 => ?_)
  subst hp_1
  change gW X 0 0 [((ad 19), .inr (4, [.int (0 : Int32), .long M_trace, .ref (ad 20), .ref (ad 21), .ref (ad 22), .ref (ad 23), .ref (ad 24), .ref (ad 25), .ref (ad 26), .ref (ad 27), .ref (ad 28), .ref (ad 29), .ref (ad 30), .ref (ad 31), .long M_found, .long M_foundSet, .long M_foundTimes, .int M_w, .int M_h, .ref (ad 32), .ref (ad 33), .ref (ad 34)])), ((ad 20), .inl (cA 0, 3, .inl M_sides)), ((ad 21), .inl (cA 0, 36, .inl M_held)), ((ad 22), .inl (cA 0, 36, .inl M_price))] 5 [(0, .ref (ad 19)), (1, .int p1), (2, .int p2), (3, .int p3)] [.int (bI (fnX4_in p1.toInt64 (1 : Int64) (4 : Int64)))] 14
  refine g_ifeq_b (tgt := 51) C dX4_box_14 (by decide) (fun c_2 => ?_) (fun c_2 => ?_)
  · replace h := h.1 c_2
    refine g_iconst C dX4_box_51 ik_m1 ?_
    exact g_iret C E ((0 : Int32), M_sides, M_held, M_price) h rfl dX4_box_52
  · replace h := h.2 c_2
    refine g_iload_n C dX4_box_17 rfl 2 rfl ?_
    refine g_i2l C dX4_box_18 ?_
    refine g_lconst C dX4_box_19 lk_1 ?_
    refine g_ldc2_w C cnX4_box_78 dX4_box_20 ?_
    refine g_callSi (b := 0) (wr := [((ad 19), .inr (4, [.int (0 : Int32), .long M_trace, .ref (ad 20), .ref (ad 21), .ref (ad 22), .ref (ad 23), .ref (ad 24), .ref (ad 25), .ref (ad 26), .ref (ad 27), .ref (ad 28), .ref (ad 29), .ref (ad 30), .ref (ad 31), .long M_found, .long M_foundSet, .long M_foundTimes, .int M_w, .int M_h, .ref (ad 32), .ref (ad 33), .ref (ad 34)])), ((ad 20), .inl (cA 0, 3, .inl M_sides)), ((ad 21), .inl (cA 0, 36, .inl M_held)), ((ad 22), .inl (cA 0, 36, .inl M_price))]) C (c_X4_in ad cA p2.toInt64 (1 : Int64) (4 : Int64)) gX4_box_X4_in rfl hde_X4_in ⟨rfl, rfl⟩ (by decide) (by decide) [] [0, 1, 2, 3] [0, 1, 2, 3] rfl rfl rfl rfl (by decide) rfl (ws2 := fun u => [((ad 19), .inr (4, [.int (0 : Int32), .long M_trace, .ref (ad 20), .ref (ad 21), .ref (ad 22), .ref (ad 23), .ref (ad 24), .ref (ad 25), .ref (ad 26), .ref (ad 27), .ref (ad 28), .ref (ad 29), .ref (ad 30), .ref (ad 31), .long M_found, .long M_foundSet, .long M_foundTimes, .int M_w, .int M_h, .ref (ad 32), .ref (ad 33), .ref (ad 34)])), ((ad 20), .inl (cA 0, 3, .inl M_sides)), ((ad 21), .inl (cA 0, 36, .inl M_held)), ((ad 22), .inl (cA 0, 36, .inl M_price))]) (fun _ => rfl) (rest := []) rfl (Nat.le_of_ble_eq_true rfl) dX4_box_23 (fun r_3 u_3 hp_3 => ?_)
    subst hp_3
    change gW X 0 0 [((ad 19), .inr (4, [.int (0 : Int32), .long M_trace, .ref (ad 20), .ref (ad 21), .ref (ad 22), .ref (ad 23), .ref (ad 24), .ref (ad 25), .ref (ad 26), .ref (ad 27), .ref (ad 28), .ref (ad 29), .ref (ad 30), .ref (ad 31), .long M_found, .long M_foundSet, .long M_foundTimes, .int M_w, .int M_h, .ref (ad 32), .ref (ad 33), .ref (ad 34)])), ((ad 20), .inl (cA 0, 3, .inl M_sides)), ((ad 21), .inl (cA 0, 36, .inl M_held)), ((ad 22), .inl (cA 0, 36, .inl M_price))] 5 [(0, .ref (ad 19)), (1, .int p1), (2, .int p2), (3, .int p3)] [.int (bI (fnX4_in p2.toInt64 (1 : Int64) (4 : Int64)))] 26
    refine g_ifeq_b (tgt := 51) C dX4_box_26 (by decide) (fun c_4 => ?_) (fun c_4 => ?_)
    · replace h := h.1 c_4
      refine g_iconst C dX4_box_51 ik_m1 ?_
      exact g_iret C E ((0 : Int32), M_sides, M_held, M_price) h rfl dX4_box_52
    · replace h := h.2 c_4
      refine g_iload_n C dX4_box_29 rfl 3 rfl ?_
      refine g_i2l C dX4_box_30 ?_
      refine g_lconst C dX4_box_31 lk_1 ?_
      refine g_ldc2_w C cnX4_box_78 dX4_box_32 ?_
      refine g_callSi (b := 0) (wr := [((ad 19), .inr (4, [.int (0 : Int32), .long M_trace, .ref (ad 20), .ref (ad 21), .ref (ad 22), .ref (ad 23), .ref (ad 24), .ref (ad 25), .ref (ad 26), .ref (ad 27), .ref (ad 28), .ref (ad 29), .ref (ad 30), .ref (ad 31), .long M_found, .long M_foundSet, .long M_foundTimes, .int M_w, .int M_h, .ref (ad 32), .ref (ad 33), .ref (ad 34)])), ((ad 20), .inl (cA 0, 3, .inl M_sides)), ((ad 21), .inl (cA 0, 36, .inl M_held)), ((ad 22), .inl (cA 0, 36, .inl M_price))]) C (c_X4_in ad cA p3.toInt64 (1 : Int64) (4 : Int64)) gX4_box_X4_in rfl hde_X4_in ⟨rfl, rfl⟩ (by decide) (by decide) [] [0, 1, 2, 3] [0, 1, 2, 3] rfl rfl rfl rfl (by decide) rfl (ws2 := fun u => [((ad 19), .inr (4, [.int (0 : Int32), .long M_trace, .ref (ad 20), .ref (ad 21), .ref (ad 22), .ref (ad 23), .ref (ad 24), .ref (ad 25), .ref (ad 26), .ref (ad 27), .ref (ad 28), .ref (ad 29), .ref (ad 30), .ref (ad 31), .long M_found, .long M_foundSet, .long M_foundTimes, .int M_w, .int M_h, .ref (ad 32), .ref (ad 33), .ref (ad 34)])), ((ad 20), .inl (cA 0, 3, .inl M_sides)), ((ad 21), .inl (cA 0, 36, .inl M_held)), ((ad 22), .inl (cA 0, 36, .inl M_price))]) (fun _ => rfl) (rest := []) rfl (Nat.le_of_ble_eq_true rfl) dX4_box_35 (fun r_5 u_5 hp_5 => ?_)
      subst hp_5
      change gW X 0 0 [((ad 19), .inr (4, [.int (0 : Int32), .long M_trace, .ref (ad 20), .ref (ad 21), .ref (ad 22), .ref (ad 23), .ref (ad 24), .ref (ad 25), .ref (ad 26), .ref (ad 27), .ref (ad 28), .ref (ad 29), .ref (ad 30), .ref (ad 31), .long M_found, .long M_foundSet, .long M_foundTimes, .int M_w, .int M_h, .ref (ad 32), .ref (ad 33), .ref (ad 34)])), ((ad 20), .inl (cA 0, 3, .inl M_sides)), ((ad 21), .inl (cA 0, 36, .inl M_held)), ((ad 22), .inl (cA 0, 36, .inl M_price))] 5 [(0, .ref (ad 19)), (1, .int p1), (2, .int p2), (3, .int p3)] [.int (bI (fnX4_in p3.toInt64 (1 : Int64) (4 : Int64)))] 38
      refine g_ifeq_b (tgt := 51) C dX4_box_38 (by decide) (fun c_6 => ?_) (fun c_6 => ?_)
      · replace h := h.1 c_6
        refine g_iconst C dX4_box_51 ik_m1 ?_
        exact g_iret C E ((0 : Int32), M_sides, M_held, M_price) h rfl dX4_box_52
      · replace h := h.2 c_6
        refine g_iload_n C dX4_box_41 rfl 1 rfl ?_
        refine g_iload_n C dX4_box_42 rfl 2 rfl ?_
        refine g_imul C dX4_box_43 ?_
        refine g_iload_n C dX4_box_44 rfl 3 rfl ?_
        refine g_imul C dX4_box_45 ?_
        refine g_bipush C dX4_box_46 bk_36 ?_
        refine g_icmp_le (tgt := 53) C dX4_box_48 (by decide) (fun c_7 => ?_) (fun c_7 => ?_)
        · replace h := h.1 c_7
          refine g_aload_n C dX4_box_53 rfl 0 rfl ?_
          refine g_get C gfX4_box_7 0 rfl rfl dX4_box_54 ?_
          refine g_iconst C dX4_box_57 ik_0 ?_
          refine g_iload_n C dX4_box_58 rfl 1 rfl ?_
          obtain ⟨hi_8, h⟩ := h
          refine g_iast (ws2 := [((ad 19), .inr (4, [.int (0 : Int32), .long M_trace, .ref (ad 20), .ref (ad 21), .ref (ad 22), .ref (ad 23), .ref (ad 24), .ref (ad 25), .ref (ad 26), .ref (ad 27), .ref (ad 28), .ref (ad 29), .ref (ad 30), .ref (ad 31), .long M_found, .long M_foundSet, .long M_foundTimes, .int M_w, .int M_h, .ref (ad 32), .ref (ad 33), .ref (ad 34)])), ((ad 20), .inl (cA 0, 3, .inl (upd M_sides (0 : Int32).toNatClampNeg p1))), ((ad 21), .inl (cA 0, 36, .inl M_held)), ((ad 22), .inl (cA 0, 36, .inl M_price))]) C 1 0 rfl rfl hi_8 rfl dX4_box_59 ?_
          refine g_aload_n C dX4_box_60 rfl 0 rfl ?_
          refine g_get C gfX4_box_7 0 rfl rfl dX4_box_61 ?_
          refine g_iconst C dX4_box_64 ik_1 ?_
          refine g_iload_n C dX4_box_65 rfl 2 rfl ?_
          obtain ⟨hi_9, h⟩ := h
          refine g_iast (ws2 := [((ad 19), .inr (4, [.int (0 : Int32), .long M_trace, .ref (ad 20), .ref (ad 21), .ref (ad 22), .ref (ad 23), .ref (ad 24), .ref (ad 25), .ref (ad 26), .ref (ad 27), .ref (ad 28), .ref (ad 29), .ref (ad 30), .ref (ad 31), .long M_found, .long M_foundSet, .long M_foundTimes, .int M_w, .int M_h, .ref (ad 32), .ref (ad 33), .ref (ad 34)])), ((ad 20), .inl (cA 0, 3, .inl (upd (upd M_sides (0 : Int32).toNatClampNeg p1) (1 : Int32).toNatClampNeg p2))), ((ad 21), .inl (cA 0, 36, .inl M_held)), ((ad 22), .inl (cA 0, 36, .inl M_price))]) C 1 0 rfl rfl hi_9 rfl dX4_box_66 ?_
          refine g_aload_n C dX4_box_67 rfl 0 rfl ?_
          refine g_get C gfX4_box_7 0 rfl rfl dX4_box_68 ?_
          refine g_iconst C dX4_box_71 ik_2 ?_
          refine g_iload_n C dX4_box_72 rfl 3 rfl ?_
          obtain ⟨hi_10, h⟩ := h
          refine g_iast (ws2 := [((ad 19), .inr (4, [.int (0 : Int32), .long M_trace, .ref (ad 20), .ref (ad 21), .ref (ad 22), .ref (ad 23), .ref (ad 24), .ref (ad 25), .ref (ad 26), .ref (ad 27), .ref (ad 28), .ref (ad 29), .ref (ad 30), .ref (ad 31), .long M_found, .long M_foundSet, .long M_foundTimes, .int M_w, .int M_h, .ref (ad 32), .ref (ad 33), .ref (ad 34)])), ((ad 20), .inl (cA 0, 3, .inl (upd (upd (upd M_sides (0 : Int32).toNatClampNeg p1) (1 : Int32).toNatClampNeg p2) (2 : Int32).toNatClampNeg p3))), ((ad 21), .inl (cA 0, 36, .inl M_held)), ((ad 22), .inl (cA 0, 36, .inl M_price))]) C 1 0 rfl rfl hi_10 rfl dX4_box_73 ?_
          refine g_iconst C dX4_box_74 ik_0 ?_
          refine g_istore (lv2 := [(0, .ref (ad 19)), (1, .int p1), (2, .int p2), (3, .int p3), (4, .int (0 : Int32))]) C dX4_box_75 (by decide) [1, 2, 3, 4, 0] rfl ?_
          exact g_lv [0, 4] rfl h
        · replace h := h.2 c_7
          refine g_iconst C dX4_box_51 ik_m1 ?_
          exact g_iret C E ((0 : Int32), M_sides, M_held, M_price) h rfl dX4_box_52
set_option maxHeartbeats 4000000 in
set_option maxRecDepth 100000 in
theorem sgX4_box_77 {X : gX} {ad : Nat → Nat} {cA : Nat → ClassId} {post : Int32 → ((Int32) × (Nat → Int32) × (Nat → Int32) × (Nat → Int32)) → Prop} {x4 : Int32} {M_thrown : Int32} {M_trace : Int64} {M_found : Int64} {M_foundSet : Int64} {M_foundTimes : Int64} {M_w : Int32} {M_h : Int32} {M_sides : Nat → Int32} {M_held : Nat → Int32} {M_price : Nat → Int32} (C : gC X (gT cA) cX4_box 5 RX4 wsX4_box rmX4_box) (E : gEi X (some .int) (gT cA) 0 0 post (w1X4_box ad cA M_trace M_found M_foundSet M_foundTimes M_w M_h)) (h : ((36 : Int32) ≤ x4 → prX4_cells M_thrown M_trace M_found M_foundSet M_foundTimes M_w M_h M_sides ∧ post (fnX4_cells M_thrown M_trace M_found M_foundSet M_foundTimes M_w M_h M_sides) (M_thrown, M_sides, M_held, M_price)) ∧ (¬ (36 : Int32) ≤ x4 → vp_in x4 36 ∧ vp_in x4 36 ∧ atX4_box_77 X ad cA (x4 + 1) M_thrown M_trace M_found M_foundSet M_foundTimes M_w M_h M_sides (upd M_held x4.toNatClampNeg (0 : Int32)) (upd M_price x4.toNatClampNeg (0 : Int32)))) : atX4_box_77 X ad cA x4 M_thrown M_trace M_found M_foundSet M_foundTimes M_w M_h M_sides M_held M_price := by
  refine g_iload C dX4_box_77 1 rfl ?_
  refine g_bipush C dX4_box_79 bk_36 ?_
  refine g_icmp_ge (tgt := 106) C dX4_box_81 (by decide) (fun c_11 => ?_) (fun c_11 => ?_)
  · replace h := h.1 c_11
    refine g_aload_n C dX4_box_106 rfl 0 rfl ?_
    obtain ⟨hi_12, h⟩ := h
    refine g_callVi (wr := [((ad 21), .inl (cA 0, 36, .inl M_held)), ((ad 22), .inl (cA 0, 36, .inl M_price))]) C (c_X4_cells ad cA M_thrown M_trace M_found M_foundSet M_foundTimes M_w M_h M_sides hi_12) gX4_box_X4_cells rfl hde_X4_cells ⟨rfl, rfl⟩ (by decide) (by decide) [0, 1] [2, 3] [2, 3, 0, 1] rfl rfl rfl rfl (by decide) rfl (ws2 := fun u => [((ad 19), .inr (4, [.int M_thrown, .long M_trace, .ref (ad 20), .ref (ad 21), .ref (ad 22), .ref (ad 23), .ref (ad 24), .ref (ad 25), .ref (ad 26), .ref (ad 27), .ref (ad 28), .ref (ad 29), .ref (ad 30), .ref (ad 31), .long M_found, .long M_foundSet, .long M_foundTimes, .int M_w, .int M_h, .ref (ad 32), .ref (ad 33), .ref (ad 34)])), ((ad 20), .inl (cA 0, 3, .inl M_sides)), ((ad 21), .inl (cA 0, 36, .inl M_held)), ((ad 22), .inl (cA 0, 36, .inl M_price))]) (fun _ => rfl) 4 0 rfl rfl rfl (rest := []) rfl (Nat.le_of_ble_eq_true rfl) dX4_box_107 (fun r_13 u_13 hp_13 => ?_)
    subst hp_13
    change gW X 0 0 [((ad 19), .inr (4, [.int M_thrown, .long M_trace, .ref (ad 20), .ref (ad 21), .ref (ad 22), .ref (ad 23), .ref (ad 24), .ref (ad 25), .ref (ad 26), .ref (ad 27), .ref (ad 28), .ref (ad 29), .ref (ad 30), .ref (ad 31), .long M_found, .long M_foundSet, .long M_foundTimes, .int M_w, .int M_h, .ref (ad 32), .ref (ad 33), .ref (ad 34)])), ((ad 20), .inl (cA 0, 3, .inl M_sides)), ((ad 21), .inl (cA 0, 36, .inl M_held)), ((ad 22), .inl (cA 0, 36, .inl M_price))] 5 [(0, .ref (ad 19)), (4, .int x4)] [.int (fnX4_cells M_thrown M_trace M_found M_foundSet M_foundTimes M_w M_h M_sides)] 110
    exact g_iret C E (M_thrown, M_sides, M_held, M_price) h rfl dX4_box_110
  · replace h := h.2 c_11
    refine g_aload_n C dX4_box_84 rfl 0 rfl ?_
    refine g_get C gfX4_box_13 0 rfl rfl dX4_box_85 ?_
    refine g_iload C dX4_box_88 1 rfl ?_
    refine g_iconst C dX4_box_90 ik_0 ?_
    obtain ⟨hi_14, h⟩ := h
    refine g_iast (ws2 := [((ad 19), .inr (4, [.int M_thrown, .long M_trace, .ref (ad 20), .ref (ad 21), .ref (ad 22), .ref (ad 23), .ref (ad 24), .ref (ad 25), .ref (ad 26), .ref (ad 27), .ref (ad 28), .ref (ad 29), .ref (ad 30), .ref (ad 31), .long M_found, .long M_foundSet, .long M_foundTimes, .int M_w, .int M_h, .ref (ad 32), .ref (ad 33), .ref (ad 34)])), ((ad 20), .inl (cA 0, 3, .inl M_sides)), ((ad 21), .inl (cA 0, 36, .inl (upd M_held x4.toNatClampNeg (0 : Int32)))), ((ad 22), .inl (cA 0, 36, .inl M_price))]) C 2 0 rfl rfl hi_14 rfl dX4_box_91 ?_
    refine g_aload_n C dX4_box_92 rfl 0 rfl ?_
    refine g_get C gfX4_box_16 0 rfl rfl dX4_box_93 ?_
    refine g_iload C dX4_box_96 1 rfl ?_
    refine g_iconst C dX4_box_98 ik_0 ?_
    obtain ⟨hi_15, h⟩ := h
    refine g_iast (ws2 := [((ad 19), .inr (4, [.int M_thrown, .long M_trace, .ref (ad 20), .ref (ad 21), .ref (ad 22), .ref (ad 23), .ref (ad 24), .ref (ad 25), .ref (ad 26), .ref (ad 27), .ref (ad 28), .ref (ad 29), .ref (ad 30), .ref (ad 31), .long M_found, .long M_foundSet, .long M_foundTimes, .int M_w, .int M_h, .ref (ad 32), .ref (ad 33), .ref (ad 34)])), ((ad 20), .inl (cA 0, 3, .inl M_sides)), ((ad 21), .inl (cA 0, 36, .inl (upd M_held x4.toNatClampNeg (0 : Int32)))), ((ad 22), .inl (cA 0, 36, .inl (upd M_price x4.toNatClampNeg (0 : Int32))))]) C 3 0 rfl rfl hi_15 rfl dX4_box_99 ?_
    refine g_iinc (v := (x4 + 1)) (lv2 := [(0, .ref (ad 19)), (4, .int (x4 + 1))]) C dX4_box_100 1 rfl (by first | rfl | decide) (by decide) [1, 0] rfl ?_
    refine g_goto (tgt := 77) C dX4_box_103 (by decide) ?_
    exact g_lv [0, 1] rfl h
def po_X4_box (ad : Nat → Nat) (cA : Nat → ClassId) (p1 : Int32) (p2 : Int32) (p3 : Int32) (M_thrown : Int32) (M_trace : Int64) (M_found : Int64) (M_foundSet : Int64) (M_foundTimes : Int64) (M_w : Int32) (M_h : Int32) (M_sides : Nat → Int32) (M_held : Nat → Int32) (M_price : Nat → Int32) (r : Int32) (u : (Int32) × (Nat → Int32) × (Nat → Int32) × (Nat → Int32)) : Prop := (boxOK p1 p2 p3 → r = p1 * p2 * p3 ∧ u = (0, sd3 M_sides p1 p2 p3, fillA 36 0 M_held, fillA 36 0 M_price)) ∧ (¬ boxOK p1 p2 p3 → r = -1 ∧ u = (0, M_sides, M_held, M_price))
set_option maxHeartbeats 4000000 in
set_option maxRecDepth 100000 in
theorem c_X4_box (ad : Nat → Nat) (cA : Nat → ClassId) (p1 : Int32) (p2 : Int32) (p3 : Int32) (M_thrown : Int32) (M_trace : Int64) (M_found : Int64) (M_foundSet : Int64) (M_foundTimes : Int64) (M_w : Int32) (M_h : Int32) (M_sides : Nat → Int32) (M_held : Nat → Int32) (M_price : Nat → Int32) : ∀ (l : Launch) (D : va_G), gMi (S := (Int32) × (Nat → Int32) × (Nat → Int32) × (Nat → Int32)) l yX4_box wsX4_box rmX4_box D (gT cA) 0 0 [.ref (ad 19), .int p1, .int p2, .int p3] (wcX4_box ad cA M_thrown M_trace M_found M_foundSet M_foundTimes M_w M_h M_sides M_held M_price) (po_X4_box ad cA p1 p2 p3 M_thrown M_trace M_found M_foundSet M_foundTimes M_w M_h M_sides M_held M_price) (w1X4_box ad cA M_trace M_found M_foundSet M_foundTimes M_w M_h) := by
  intro l D
  refine g_enteri (cc := cX4_box) (nL := 5) (ret := (some .int)) (by decide) rfl (Nat.le_of_ble_eq_true rfl) rfl (fun X C E => ?_)
  have no : ¬ boxOK p1 p2 p3 → po_X4_box ad cA p1 p2 p3 M_thrown M_trace M_found M_foundSet M_foundTimes M_w M_h M_sides M_held M_price (-1) (0, M_sides, M_held, M_price) := fun h => ⟨fun q => absurd q h, fun _ => ⟨rfl, rfl⟩⟩
  refine sgX4_box_0 C E ⟨fun c => no (fun q => ?_), fun c1 => ⟨fun c => no (fun q => ?_), fun c2 => ⟨fun c => no (fun q => ?_), fun c3 => ⟨fun c4 => ?_, fun c => no (fun q => ?_)⟩⟩⟩⟩
  · exact in_f c ((box_iff _ _ _).mp q).1
  · exact in_f c ((box_iff _ _ _).mp q).2.1
  · exact in_f c ((box_iff _ _ _).mp q).2.2.1
  · have hb : boxOK p1 p2 p3 := (box_iff _ _ _).mpr ⟨in_t c1, in_t c2, in_t c3, c4⟩
    have hb' := hb
    obtain ⟨X', Y, Z, hd, rfl, rfl, rfl⟩ := hb'
    refine ⟨vi_0_3, vi_1_3, vi_2_3, ?_⟩
    obtain ⟨e1, e2⟩ := cells_eq (M_thrown := 0) (M_trace := M_trace) (M_found := M_found) (M_foundSet := M_foundSet) (M_foundTimes := M_foundTimes) (M_w := M_w) (M_h := M_h) (sd3_ok M_sides X' Y Z)
    have loop : ∀ c, c ≤ 36 → atX4_box_77 X ad cA (nI c) 0 M_trace M_found M_foundSet M_foundTimes M_w M_h (sd3 M_sides (nI X') (nI Y) (nI Z)) (fillA c 0 M_held) (fillA c 0 M_price) := by
      intro c hc'
      refine up_loop (P := fun c => atX4_box_77 X ad cA (nI c) 0 M_trace M_found M_foundSet M_foundTimes M_w M_h (sd3 M_sides (nI X') (nI Y) (nI Z)) (fillA c 0 M_held) (fillA c 0 M_price)) 36 ?_ (fun c hc ih => ?_) c hc'
      · refine sgX4_box_77 C E ⟨fun _ => ⟨e2, ?_⟩, fun c => absurd (i32_le_refl _) c⟩
        exact ⟨fun _ => ⟨by rw [e1, pk_mul, pk_mul], rfl⟩, fun q => absurd hb q⟩
      · refine sgX4_box_77 C E ⟨fun q => absurd q (nI_ge (b := 36) hc (by decide)), fun _ => ⟨vp_in_nI hc (by decide), vp_in_nI hc (by decide), ?_⟩⟩
        rw [nI_clamp (n := c) (by omega), fill_u, fill_u, nI_1 c]; exact ih
    have := loop 0 (Nat.zero_le _)
    rw [fill_0, fill_0] at this
    exact this
  · exact c ((box_iff _ _ _).mp q).2.2.2

