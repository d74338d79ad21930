theorem bk_6 : (Int8.ofInt (6)).toInt32 = (6 : Int32) := by decide
theorem hde_X0_every : yX0_every.cls = RX0 ∧ yX0_every.cls ≠ "java/lang/invoke/MethodHandle" ∧ yX0_every.cls ≠ "java/lang/invoke/VarHandle" ∧ (parseMethodDescriptor yX0_every.desc).map (fun d => d.parameters.length) = some 0 := by decide +kernel
abbrev w1X0_has (ad : Nat → Nat) (cA : Nat → ClassId) (C_size : Int32) (u : Unit) : va_W := [((ad 1), .inr (0, [.ref (ad 2), .ref (ad 3), .ref (ad 4), .ref (ad 5), .ref (ad 6), .ref (ad 7), .int C_size]))]
abbrev wcX0_has (ad : Nat → Nat) (cA : Nat → ClassId) (C_size : Int32) : va_W := [((ad 1), .inr (0, [.ref (ad 2), .ref (ad 3), .ref (ad 4), .ref (ad 5), .ref (ad 6), .ref (ad 7), .int C_size]))]
def rmX0_has : Room := { frames := 0, cells := 0, slots := 0, locals := 0 }
abbrev atX0_has_0 (X : gX) (ad : Nat → Nat) (cA : Nat → ClassId) (p1 : Int32) (C_size : Int32) : Prop := gW X 0 0 [((ad 1), .inr (0, [.ref (ad 2), .ref (ad 3), .ref (ad 4), .ref (ad 5), .ref (ad 6), .ref (ad 7), .int C_size]))] 2 [(0, .ref (ad 1)), (1, .int p1)] [] 0
theorem giX0_has_X0 : ∀ w ∈ u_ws RX0 TX0 7, w ∈ wsX0_has := by decide +kernel
theorem gfX0_has_30 : gF wsX0_has RX0 30 0 6 RX0 TX0 7 := ⟨giX0_has_X0, by decide +kernel, rfl, by decide⟩
set_option maxHeartbeats 4000000 in
set_option maxRecDepth 100000 in
theorem sgX0_has_0 {X : gX} {ad : Nat → Nat} {cA : Nat → ClassId} {post : Int32 → (Unit) → Prop} (p1 : Int32) (C_size : Int32) (C : gC X (gT cA) cX0_has 2 RX0 wsX0_has rmX0_has) (E : gEi X (some .boolean) (gT cA) 0 0 post (w1X0_has ad cA C_size)) (h : (p1 < 0 → post (0 : Int32) ()) ∧ (¬ p1 < 0 → (C_size ≤ p1 → post (0 : Int32) ()) ∧ (¬ C_size ≤ p1 → post (1 : Int32) ()))) : atX0_has_0 X ad cA p1 C_size := by
  refine g_iload_n C dX0_has_0 rfl 1 rfl ?_
  refine g_if_lt (tgt := 16) C dX0_has_1 (by decide) (fun c_1 => ?_) (fun c_1 => ?_)
  · replace h := h.1 c_1
    refine g_iconst C dX0_has_16 ik_0 ?_
    exact g_zret C E rfl () h rfl dX0_has_17
  · replace h := h.2 c_1
    refine g_iload_n C dX0_has_4 rfl 1 rfl ?_
    refine g_aload_n C dX0_has_5 rfl 0 rfl ?_
    refine g_get C gfX0_has_30 0 rfl rfl dX0_has_6 ?_
    refine g_icmp_ge (tgt := 16) C dX0_has_9 (by decide) (fun c_2 => ?_) (fun c_2 => ?_)
    · replace h := h.1 c_2
      refine g_iconst C dX0_has_16 ik_0 ?_
      exact g_zret C E rfl () h rfl dX0_has_17
    · replace h := h.2 c_2
      refine g_iconst C dX0_has_12 ik_1 ?_
      refine g_goto (tgt := 17) C dX0_has_13 (by decide) ?_
      exact g_zret C E rfl () h rfl dX0_has_17
def fnX0_has (p1 : Int32) (C_size : Int32) : Bool := (if p1 < 0 then false else (if C_size ≤ p1 then false else true))
set_option maxHeartbeats 4000000 in
set_option maxRecDepth 100000 in
theorem c_X0_has (ad : Nat → Nat) (cA : Nat → ClassId) (p1 : Int32) (C_size : Int32) : ∀ (l : Launch) (D : va_G), gMi (S := Unit) l yX0_has wsX0_has rmX0_has D (gT cA) 0 0 [.ref (ad 1), .int p1] (wcX0_has ad cA C_size) (fun r _ => r = bI (fnX0_has p1 C_size)) (w1X0_has ad cA C_size) := by
  intro l D
  refine g_enteri (cc := cX0_has) (nL := 2) (ret := (some .boolean)) (by decide) rfl (Nat.le_of_ble_eq_true rfl) rfl (fun X C E => sgX0_has_0 p1 C_size C E ?_)
  refine ⟨fun c_3 => ?_, fun c_3 => ?_⟩
  · exact (by unfold fnX0_has; first | rfl | (simp only [if_pos c_3]; done) | (simp only [if_pos c_3]; rfl))
  · refine ⟨fun c_4 => ?_, fun c_4 => ?_⟩
    · exact (by unfold fnX0_has; first | rfl | (simp only [if_neg c_3, if_pos c_4]; done) | (simp only [if_neg c_3, if_pos c_4]; rfl))
    · exact (by unfold fnX0_has; first | rfl | (simp only [if_neg c_3, if_neg c_4]; done) | (simp only [if_neg c_3, if_neg c_4]; rfl))

abbrev w1X0_every (ad : Nat → Nat) (cA : Nat → ClassId) (C_size : Int32) (u : Unit) : va_W := [((ad 1), .inr (0, [.ref (ad 2), .ref (ad 3), .ref (ad 4), .ref (ad 5), .ref (ad 6), .ref (ad 7), .int C_size]))]
abbrev wcX0_every (ad : Nat → Nat) (cA : Nat → ClassId) (C_size : Int32) : va_W := [((ad 1), .inr (0, [.ref (ad 2), .ref (ad 3), .ref (ad 4), .ref (ad 5), .ref (ad 6), .ref (ad 7), .int C_size]))]
def rmX0_every : Room := { frames := 0, cells := 0, slots := 0, locals := 0 }
abbrev atX0_every_0 (X : gX) (ad : Nat → Nat) (cA : Nat → ClassId) (C_size : Int32) : Prop := gW X 0 0 [((ad 1), .inr (0, [.ref (ad 2), .ref (ad 3), .ref (ad 4), .ref (ad 5), .ref (ad 6), .ref (ad 7), .int C_size]))] 1 [(0, .ref (ad 1))] [] 0
theorem giX0_every_X0 : ∀ w ∈ u_ws RX0 TX0 7, w ∈ wsX0_every := by decide +kernel
theorem gfX0_every_30 : gF wsX0_every RX0 30 0 6 RX0 TX0 7 := ⟨giX0_every_X0, by decide +kernel, rfl, by decide⟩
set_option maxHeartbeats 4000000 in
set_option maxRecDepth 100000 in
theorem sgX0_every_0 {X : gX} {ad : Nat → Nat} {cA : Nat → ClassId} {post : Int64 → (Unit) → Prop} (C_size : Int32) (C : gC X (gT cA) cX0_every 1 RX0 wsX0_every rmX0_every) (E : gEl X (some .long) (gT cA) 0 0 post (w1X0_every ad cA C_size)) (h : post (((1 : Int64) <<< (C_size.toInt64 &&& 63)) - (1 : Int64)) ()) : atX0_every_0 X ad cA C_size := by
  refine g_lconst C dX0_every_0 lk_1 ?_
  refine g_aload_n C dX0_every_1 rfl 0 rfl ?_
  refine g_get C gfX0_every_30 0 rfl rfl dX0_every_2 ?_
  refine g_lshl C dX0_every_5 ?_
  refine g_lconst C dX0_every_6 lk_1 ?_
  refine g_lsub C dX0_every_7 ?_
  exact g_lret C E () h rfl dX0_every_8
def fnX0_every (C_size : Int32) : Int64 := (((1 : Int64) <<< (C_size.toInt64 &&& 63)) - (1 : Int64))
set_option maxHeartbeats 4000000 in
set_option maxRecDepth 100000 in
theorem c_X0_every (ad : Nat → Nat) (cA : Nat → ClassId) (C_size : Int32) : ∀ (l : Launch) (D : va_G), gMl (S := Unit) l yX0_every wsX0_every rmX0_every D (gT cA) 0 0 [.ref (ad 1)] (wcX0_every ad cA C_size) (fun r _ => r = fnX0_every C_size) (w1X0_every ad cA C_size) := by
  intro l D
  refine g_enterl (cc := cX0_every) (nL := 1) (ret := (some .long)) (by decide) rfl (Nat.le_of_ble_eq_true rfl) rfl (fun X C E => sgX0_every_0 C_size C E ?_)
  exact (by unfold fnX0_every; first | rfl | (simp only []; done) | (simp only []; rfl))

abbrev w1X0_holds (ad : Nat → Nat) (cA : Nat → ClassId) (u : Unit) : va_W := []
abbrev wcX0_holds (ad : Nat → Nat) (cA : Nat → ClassId) : va_W := []
def rmX0_holds : Room := { frames := 0, cells := 0, slots := 0, locals := 0 }
abbrev atX0_holds_0 (X : gX) (ad : Nat → Nat) (cA : Nat → ClassId) (p1 : Int64) (p2 : Int32) : Prop := gW X 0 0 [] 3 [(0, .long p1), (2, .int p2)] [] 0
set_option maxHeartbeats 4000000 in
set_option maxRecDepth 100000 in
theorem sgX0_holds_0 {X : gX} {ad : Nat → Nat} {cA : Nat → ClassId} {post : Int32 → (Unit) → Prop} (p1 : Int64) (p2 : Int32) (C : gC X (gT cA) cX0_holds 3 RX0 wsX0_holds rmX0_holds) (E : gEi X (some .boolean) (gT cA) 0 0 post (w1X0_holds ad cA)) (h : (¬ ((p1 >>> (p2.toInt64 &&& 63)) &&& (1 : Int64)) = (1 : Int64) → post (0 : Int32) ()) ∧ (((p1 >>> (p2.toInt64 &&& 63)) &&& (1 : Int64)) = (1 : Int64) → post (1 : Int32) ())) : atX0_holds_0 X ad cA p1 p2 := by
  refine g_lload_n C dX0_holds_0 rfl 0 rfl ?_
  refine g_iload_n C dX0_holds_1 rfl 1 rfl ?_
  refine g_lshr C dX0_holds_2 ?_
  refine g_lconst C dX0_holds_3 lk_1 ?_
  refine g_land C dX0_holds_4 ?_
  refine g_lconst C dX0_holds_5 lk_1 ?_
  refine g_lcmp_ne (tgt := 14) C dX0_holds_6 dX0_holds_7 rfl (by decide) (fun c_1 => ?_) (fun c_1 => ?_)
  · replace h := h.1 c_1
    refine g_iconst C dX0_holds_14 ik_0 ?_
    exact g_zret C E rfl () h rfl dX0_holds_15
  · replace h := h.2 c_1
    refine g_iconst C dX0_holds_10 ik_1 ?_
    refine g_goto (tgt := 15) C dX0_holds_11 (by decide) ?_
    exact g_zret C E rfl () h rfl dX0_holds_15
def fnX0_holds (p1 : Int64) (p2 : Int32) : Bool := (if ((p1 >>> (p2.toInt64 &&& 63)) &&& (1 : Int64)) = (1 : Int64) then true else false)
set_option maxHeartbeats 4000000 in
set_option maxRecDepth 100000 in
theorem c_X0_holds (ad : Nat → Nat) (cA : Nat → ClassId) (p1 : Int64) (p2 : Int32) : ∀ (l : Launch) (D : va_G), gMi (S := Unit) l yX0_holds wsX0_holds rmX0_holds D (gT cA) 0 0 [.long p1, .int p2] (wcX0_holds ad cA) (fun r _ => r = bI (fnX0_holds p1 p2)) (w1X0_holds ad cA) := by
  intro l D
  refine g_enteri (cc := cX0_holds) (nL := 3) (ret := (some .boolean)) (by decide) rfl (Nat.le_of_ble_eq_true rfl) rfl (fun X C E => sgX0_holds_0 p1 p2 C E ?_)
  refine ⟨fun c_2 => ?_, fun c_2 => ?_⟩
  · exact (by unfold fnX0_holds; first | rfl | (simp only [if_neg c_2]; done) | (simp only [if_neg c_2]; rfl))
  · exact (by unfold fnX0_holds; first | rfl | (simp only [if_pos c_2]; done) | (simp only [if_pos c_2]; rfl))

abbrev w1X0_isSet (ad : Nat → Nat) (cA : Nat → ClassId) (C_size : Int32) (u : Unit) : va_W := [((ad 1), .inr (0, [.ref (ad 2), .ref (ad 3), .ref (ad 4), .ref (ad 5), .ref (ad 6), .ref (ad 7), .int C_size]))]
abbrev wcX0_isSet (ad : Nat → Nat) (cA : Nat → ClassId) (C_size : Int32) : va_W := [((ad 1), .inr (0, [.ref (ad 2), .ref (ad 3), .ref (ad 4), .ref (ad 5), .ref (ad 6), .ref (ad 7), .int C_size]))]
def rmX0_isSet : Room := { frames := 1, cells := 0, slots := 0, locals := 20 }
abbrev atX0_isSet_0 (X : gX) (ad : Nat → Nat) (cA : Nat → ClassId) (p1 : Int64) (C_size : Int32) : Prop := gW X 0 0 [((ad 1), .inr (0, [.ref (ad 2), .ref (ad 3), .ref (ad 4), .ref (ad 5), .ref (ad 6), .ref (ad 7), .int C_size]))] 3 [(0, .ref (ad 1)), (1, .long p1)] [] 0
theorem cnX0_isSet_52 : Cond.constantLong RX0 52 (-1) ∈ wsX0_isSet := by decide +kernel
set_option maxHeartbeats 4000000 in
set_option maxRecDepth 100000 in
theorem sgX0_isSet_0 {X : gX} {ad : Nat → Nat} {cA : Nat → ClassId} {post : Int32 → (Unit) → Prop} (p1 : Int64) (C_size : Int32) (C : gC X (gT cA) cX0_isSet 3 RX0 wsX0_isSet rmX0_isSet) (E : gEi X (some .boolean) (gT cA) 0 0 post (w1X0_isSet ad cA C_size)) (h : (¬ (p1 &&& ((fnX0_every C_size) ^^^ (-1 : Int64))) = (0 : Int64) → post (0 : Int32) ()) ∧ ((p1 &&& ((fnX0_every C_size) ^^^ (-1 : Int64))) = (0 : Int64) → post (1 : Int32) ())) : atX0_isSet_0 X ad cA p1 C_size := by
  refine g_lload_n C dX0_isSet_0 rfl 1 rfl ?_
  refine g_aload_n C dX0_isSet_1 rfl 0 rfl ?_
  refine g_callVl (wr := []) C (c_X0_every ad cA C_size) gX0_isSet_X0_every rfl hde_X0_every ⟨rfl, rfl⟩ (by decide) (by decide) [0] [] [0] rfl rfl rfl rfl (by decide) rfl (ws2 := fun u => [((ad 1), .inr (0, [.ref (ad 2), .ref (ad 3), .ref (ad 4), .ref (ad 5), .ref (ad 6), .ref (ad 7), .int C_size]))]) (fun _ => rfl) 0 0 rfl rfl rfl (rest := [.long p1]) rfl (Nat.le_of_ble_eq_true rfl) dX0_isSet_2 (fun r_1 u_1 hp_1 => ?_)
  subst hp_1
  change gW X 0 0 [((ad 1), .inr (0, [.ref (ad 2), .ref (ad 3), .ref (ad 4), .ref (ad 5), .ref (ad 6), .ref (ad 7), .int C_size]))] 3 [(0, .ref (ad 1)), (1, .long p1)] [.long (fnX0_every C_size), .long p1] 5
  refine g_ldc2_w C cnX0_isSet_52 dX0_isSet_5 ?_
  refine g_lxor C dX0_isSet_8 ?_
  refine g_land C dX0_isSet_9 ?_
  refine g_lconst C dX0_isSet_10 lk_0 ?_
  refine g_lcmp_ne (tgt := 19) C dX0_isSet_11 dX0_isSet_12 rfl (by decide) (fun c_2 => ?_) (fun c_2 => ?_)
  · replace h := h.1 c_2
    refine g_iconst C dX0_isSet_19 ik_0 ?_
    exact g_zret C E rfl () h rfl dX0_isSet_20
  · replace h := h.2 c_2
    refine g_iconst C dX0_isSet_15 ik_1 ?_
    refine g_goto (tgt := 20) C dX0_isSet_16 (by decide) ?_
    exact g_zret C E rfl () h rfl dX0_isSet_20
def fnX0_isSet (p1 : Int64) (C_size : Int32) : Bool := (if (p1 &&& ((fnX0_every C_size) ^^^ (-1 : Int64))) = (0 : Int64) then true else false)
set_option maxHeartbeats 4000000 in
set_option maxRecDepth 100000 in
theorem c_X0_isSet (ad : Nat → Nat) (cA : Nat → ClassId) (p1 : Int64) (C_size : Int32) : ∀ (l : Launch) (D : va_G), gMi (S := Unit) l yX0_isSet wsX0_isSet rmX0_isSet D (gT cA) 0 0 [.ref (ad 1), .long p1] (wcX0_isSet ad cA C_size) (fun r _ => r = bI (fnX0_isSet p1 C_size)) (w1X0_isSet ad cA C_size) := by
  intro l D
  refine g_enteri (cc := cX0_isSet) (nL := 3) (ret := (some .boolean)) (by decide) rfl (Nat.le_of_ble_eq_true rfl) rfl (fun X C E => sgX0_isSet_0 p1 C_size C E ?_)
  refine ⟨fun c_4 => ?_, fun c_4 => ?_⟩
  · exact (by unfold fnX0_isSet; first | rfl | (simp only [if_neg c_4]; done) | (simp only [if_neg c_4]; rfl))
  · exact (by unfold fnX0_isSet; first | rfl | (simp only [if_pos c_4]; done) | (simp only [if_pos c_4]; rfl))

abbrev w1X0_seamCost (ad : Nat → Nat) (cA : Nat → ClassId) (C_size : Int32) (C_rules : Nat → Int32) (C_places : Nat → Int32) (u : Unit) : va_W := [((ad 1), .inr (0, [.ref (ad 2), .ref (ad 3), .ref (ad 4), .ref (ad 5), .ref (ad 6), .ref (ad 7), .int C_size])), ((ad 5), .inl (cA 0, 7, .inl C_rules)), ((ad 6), .inl (cA 0, 108, .inl C_places))]
abbrev wcX0_seamCost (ad : Nat → Nat) (cA : Nat → ClassId) (C_size : Int32) (C_rules : Nat → Int32) (C_places : Nat → Int32) : va_W := [((ad 1), .inr (0, [.ref (ad 2), .ref (ad 3), .ref (ad 4), .ref (ad 5), .ref (ad 6), .ref (ad 7), .int C_size])), ((ad 5), .inl (cA 0, 7, .inl C_rules)), ((ad 6), .inl (cA 0, 108, .inl C_places))]
def rmX0_seamCost : Room := { frames := 1, cells := 0, slots := 0, locals := 13 }
abbrev atX0_seamCost_0 (X : gX) (ad : Nat → Nat) (cA : Nat → ClassId) (p1 : Int32) (p2 : Int32) (p3 : Int32) (C_size : Int32) (C_rules : Nat → Int32) (C_places : Nat → Int32) : Prop := gW X 0 0 [((ad 1), .inr (0, [.ref (ad 2), .ref (ad 3), .ref (ad 4), .ref (ad 5), .ref (ad 6), .ref (ad 7), .int C_size])), ((ad 5), .inl (cA 0, 7, .inl C_rules)), ((ad 6), .inl (cA 0, 108, .inl C_places))] 7 [(0, .ref (ad 1)), (1, .int p1), (2, .int p2), (3, .int p3)] [] 0
theorem mmX0_seamCost_54a : Cond.methodLink RX0 54 Lib.Math.min.name ∈ wsX0_seamCost := by decide +kernel
theorem mmX0_seamCost_54b : Cond.static Lib.Math.min.name ∈ wsX0_seamCost := by decide +kernel
theorem mmX0_seamCost_54c : Cond.initialized "java/lang/Math" ∈ wsX0_seamCost := by decide +kernel
theorem mmX0_seamCost_54d : Cond.code Lib.Math.min.name Lib.Math.min.code 2 (some .int) ∈ wsX0_seamCost := by decide +kernel
theorem giX0_seamCost_X0 : ∀ w ∈ u_ws RX0 TX0 7, w ∈ wsX0_seamCost := by decide +kernel
theorem gfX0_seamCost_24 : gF wsX0_seamCost RX0 24 0 4 RX0 TX0 7 := ⟨giX0_seamCost_X0, by decide +kernel, rfl, by decide⟩
theorem gfX0_seamCost_21 : gF wsX0_seamCost RX0 21 0 3 RX0 TX0 7 := ⟨giX0_seamCost_X0, by decide +kernel, rfl, by decide⟩
set_option maxHeartbeats 4000000 in
set_option maxRecDepth 100000 in
theorem sgX0_seamCost_0 {X : gX} {ad : Nat → Nat} {cA : Nat → ClassId} {post : Int32 → (Unit) → Prop} (p1 : Int32) (p2 : Int32) (p3 : Int32) (C_size : Int32) (C_rules : Nat → Int32) (C_places : Nat → Int32) (C : gC X (gT cA) cX0_seamCost 7 RX0 wsX0_seamCost rmX0_seamCost) (E : gEi X (some .int) (gT cA) 0 0 post (w1X0_seamCost ad cA C_size C_rules C_places)) (h : vp_in ((p2 * (3 : Int32)) + (p3 >>> ((1 : Int32) &&& 31))) 108 ∧ vp_in (p3 >>> ((1 : Int32) &&& 31)) 7 ∧ ((p1 < (1 : Int32) → True) ∧ (¬ p1 < (1 : Int32) → (¬ (((C_places ((p2 * (3 : Int32)) + (p3 >>> ((1 : Int32) &&& 31))).toNatClampNeg) - (p3 &&& (1 : Int32))) &&& (1 : Int32)) = (1 : Int32) → True) ∧ ((((C_places ((p2 * (3 : Int32)) + (p3 >>> ((1 : Int32) &&& 31))).toNatClampNeg) - (p3 &&& (1 : Int32))) &&& (1 : Int32)) = (1 : Int32) → vp_in (4 : Int32) 7))) ∧ (p1 < (2 : Int32) → post (if p1 < (1 : Int32) then (C_rules (p3 >>> ((1 : Int32) &&& 31)).toNatClampNeg) else (if (((C_places ((p2 * (3 : Int32)) + (p3 >>> ((1 : Int32) &&& 31))).toNatClampNeg) - (p3 &&& (1 : Int32))) &&& (1 : Int32)) = (1 : Int32) then ((C_rules (p3 >>> ((1 : Int32) &&& 31)).toNatClampNeg) + (C_rules (4 : Int32).toNatClampNeg)) else (C_rules (p3 >>> ((1 : Int32) &&& 31)).toNatClampNeg))) ()) ∧ (¬ p1 < (2 : Int32) → vp_in (5 : Int32) 7 ∧ post (if (C_rules (5 : Int32).toNatClampNeg) < (if p1 < (1 : Int32) then (C_rules (p3 >>> ((1 : Int32) &&& 31)).toNatClampNeg) else (if (((C_places ((p2 * (3 : Int32)) + (p3 >>> ((1 : Int32) &&& 31))).toNatClampNeg) - (p3 &&& (1 : Int32))) &&& (1 : Int32)) = (1 : Int32) then ((C_rules (p3 >>> ((1 : Int32) &&& 31)).toNatClampNeg) + (C_rules (4 : Int32).toNatClampNeg)) else (C_rules (p3 >>> ((1 : Int32) &&& 31)).toNatClampNeg))) then (C_rules (5 : Int32).toNatClampNeg) else (if p1 < (1 : Int32) then (C_rules (p3 >>> ((1 : Int32) &&& 31)).toNatClampNeg) else (if (((C_places ((p2 * (3 : Int32)) + (p3 >>> ((1 : Int32) &&& 31))).toNatClampNeg) - (p3 &&& (1 : Int32))) &&& (1 : Int32)) = (1 : Int32) then ((C_rules (p3 >>> ((1 : Int32) &&& 31)).toNatClampNeg) + (C_rules (4 : Int32).toNatClampNeg)) else (C_rules (p3 >>> ((1 : Int32) &&& 31)).toNatClampNeg)))) ())) : atX0_seamCost_0 X ad cA p1 p2 p3 C_size C_rules C_places := by
  refine g_iload_n C dX0_seamCost_0 rfl 3 rfl ?_
  refine g_iconst C dX0_seamCost_1 ik_1 ?_
  refine g_ishr C dX0_seamCost_2 ?_
  refine g_istore (lv2 := [(0, .ref (ad 1)), (1, .int p1), (2, .int p2), (3, .int p3), (4, .int (p3 >>> ((1 : Int32) &&& 31)))]) C dX0_seamCost_3 (by decide) [1, 2, 3, 4, 0] rfl ?_
  refine g_aload_n C dX0_seamCost_5 rfl 0 rfl ?_
  refine g_get C gfX0_seamCost_24 0 rfl rfl dX0_seamCost_6 ?_
  refine g_iload_n C dX0_seamCost_9 rfl 2 rfl ?_
  refine g_iconst C dX0_seamCost_10 ik_3 ?_
  refine g_imul C dX0_seamCost_11 ?_
  refine g_iload C dX0_seamCost_12 4 rfl ?_
  refine g_iadd C dX0_seamCost_14 ?_
  obtain ⟨hi_1, h⟩ := h
  refine g_iald C 2 0 rfl rfl hi_1 dX0_seamCost_15 ?_
  refine g_iload_n C dX0_seamCost_16 rfl 3 rfl ?_
  refine g_iconst C dX0_seamCost_17 ik_1 ?_
  refine g_iand C dX0_seamCost_18 ?_
  refine g_isub C dX0_seamCost_19 ?_
  refine g_istore (lv2 := [(0, .ref (ad 1)), (1, .int p1), (2, .int p2), (3, .int p3), (4, .int (p3 >>> ((1 : Int32) &&& 31))), (5, .int ((C_places ((p2 * (3 : Int32)) + (p3 >>> ((1 : Int32) &&& 31))).toNatClampNeg) - (p3 &&& (1 : Int32))))]) C dX0_seamCost_20 (by decide) [1, 2, 3, 4, 5, 0] rfl ?_
  refine g_aload_n C dX0_seamCost_22 rfl 0 rfl ?_
  refine g_get C gfX0_seamCost_21 0 rfl rfl dX0_seamCost_23 ?_
  refine g_iload C dX0_seamCost_26 4 rfl ?_
  obtain ⟨hi_2, h⟩ := h
  refine g_iald C 1 0 rfl rfl hi_2 dX0_seamCost_28 ?_
  refine g_istore (lv2 := [(0, .ref (ad 1)), (1, .int p1), (2, .int p2), (3, .int p3), (4, .int (p3 >>> ((1 : Int32) &&& 31))), (5, .int ((C_places ((p2 * (3 : Int32)) + (p3 >>> ((1 : Int32) &&& 31))).toNatClampNeg) - (p3 &&& (1 : Int32)))), (6, .int (C_rules (p3 >>> ((1 : Int32) &&& 31)).toNatClampNeg))]) C dX0_seamCost_29 (by decide) [1, 2, 3, 4, 5, 6, 0] rfl ?_
  refine g_iload_n C dX0_seamCost_31 rfl 1 rfl ?_
  refine g_iconst C dX0_seamCost_32 ik_1 ?_
  obtain ⟨hr_55, h⟩ := h
  have key : gW X 0 0 [((ad 1), .inr (0, [.ref (ad 2), .ref (ad 3), .ref (ad 4), .ref (ad 5), .ref (ad 6), .ref (ad 7), .int C_size])), ((ad 5), .inl (cA 0, 7, .inl C_rules)), ((ad 6), .inl (cA 0, 108, .inl C_places))] 7 [(0, .ref (ad 1)), (1, .int p1), (2, .int p2), (3, .int p3), (4, .int (p3 >>> ((1 : Int32) &&& 31))), (5, .int ((C_places ((p2 * (3 : Int32)) + (p3 >>> ((1 : Int32) &&& 31))).toNatClampNeg) - (p3 &&& (1 : Int32)))), (6, .int (if p1 < (1 : Int32) then (C_rules (p3 >>> ((1 : Int32) &&& 31)).toNatClampNeg) else (if (((C_places ((p2 * (3 : Int32)) + (p3 >>> ((1 : Int32) &&& 31))).toNatClampNeg) - (p3 &&& (1 : Int32))) &&& (1 : Int32)) = (1 : Int32) then ((C_rules (p3 >>> ((1 : Int32) &&& 31)).toNatClampNeg) + (C_rules (4 : Int32).toNatClampNeg)) else (C_rules (p3 >>> ((1 : Int32) &&& 31)).toNatClampNeg))))] [] 55 := by
    refine g_iload_n C dX0_seamCost_55 rfl 1 rfl ?_
    refine g_iconst C dX0_seamCost_56 ik_2 ?_
    refine g_icmp_lt (tgt := 74) C dX0_seamCost_57 (by decide) (fun c_6 => ?_) (fun c_6 => ?_)
    · replace h := h.1 c_6
      refine g_iload C dX0_seamCost_74 6 rfl ?_
      exact g_iret C E () h rfl dX0_seamCost_76
    · replace h := h.2 c_6
      refine g_iload C dX0_seamCost_60 6 rfl ?_
      refine g_aload_n C dX0_seamCost_62 rfl 0 rfl ?_
      refine g_get C gfX0_seamCost_21 0 rfl rfl dX0_seamCost_63 ?_
      refine g_iconst C dX0_seamCost_66 ik_5 ?_
      obtain ⟨hi_7, h⟩ := h
      refine g_iald C 1 0 rfl rfl hi_7 dX0_seamCost_67 ?_
      refine g_mmin C mmX0_seamCost_54a mmX0_seamCost_54b mmX0_seamCost_54c mmX0_seamCost_54d (by decide) (by decide) (by decide) (by decide) dX0_seamCost_68 ?_
      refine g_goto (tgt := 76) C dX0_seamCost_71 (by decide) ?_
      exact g_iret C E () h rfl dX0_seamCost_76
  replace h := hr_55
  refine g_icmp_lt (tgt := 55) C dX0_seamCost_33 (by decide) (fun c_3 => ?_) (fun c_3 => ?_)
  · replace h := h.1 c_3
    exact g_leaf (by simp only [if_pos c_3] at key; exact key)
  · replace h := h.2 c_3
    refine g_iload C dX0_seamCost_36 5 rfl ?_
    refine g_iconst C dX0_seamCost_38 ik_1 ?_
    refine g_iand C dX0_seamCost_39 ?_
    refine g_iconst C dX0_seamCost_40 ik_1 ?_
    have hr_55 := h
    have key : gW X 0 0 [((ad 1), .inr (0, [.ref (ad 2), .ref (ad 3), .ref (ad 4), .ref (ad 5), .ref (ad 6), .ref (ad 7), .int C_size])), ((ad 5), .inl (cA 0, 7, .inl C_rules)), ((ad 6), .inl (cA 0, 108, .inl C_places))] 7 [(0, .ref (ad 1)), (1, .int p1), (2, .int p2), (3, .int p3), (4, .int (p3 >>> ((1 : Int32) &&& 31))), (5, .int ((C_places ((p2 * (3 : Int32)) + (p3 >>> ((1 : Int32) &&& 31))).toNatClampNeg) - (p3 &&& (1 : Int32)))), (6, .int (if (((C_places ((p2 * (3 : Int32)) + (p3 >>> ((1 : Int32) &&& 31))).toNatClampNeg) - (p3 &&& (1 : Int32))) &&& (1 : Int32)) = (1 : Int32) then ((C_rules (p3 >>> ((1 : Int32) &&& 31)).toNatClampNeg) + (C_rules (4 : Int32).toNatClampNeg)) else (C_rules (p3 >>> ((1 : Int32) &&& 31)).toNatClampNeg)))] [] 55 := by
      exact g_leaf (by simp only [if_neg c_3] at key; exact key)
    replace h := hr_55
    refine g_icmp_ne (tgt := 55) C dX0_seamCost_41 (by decide) (fun c_4 => ?_) (fun c_4 => ?_)
    · replace h := h.1 c_4
      exact g_leaf (by simp only [if_neg c_4] at key; exact key)
    · replace h := h.2 c_4
      refine g_iload C dX0_seamCost_44 6 rfl ?_
      refine g_aload_n C dX0_seamCost_46 rfl 0 rfl ?_
      refine g_get C gfX0_seamCost_21 0 rfl rfl dX0_seamCost_47 ?_
      refine g_iconst C dX0_seamCost_50 ik_4 ?_
      have hi_5 := h
      refine g_iald C 1 0 rfl rfl hi_5 dX0_seamCost_51 ?_
      refine g_iadd C dX0_seamCost_52 ?_
      refine g_istore (lv2 := [(0, .ref (ad 1)), (1, .int p1), (2, .int p2), (3, .int p3), (4, .int (p3 >>> ((1 : Int32) &&& 31))), (5, .int ((C_places ((p2 * (3 : Int32)) + (p3 >>> ((1 : Int32) &&& 31))).toNatClampNeg) - (p3 &&& (1 : Int32)))), (6, .int ((C_rules (p3 >>> ((1 : Int32) &&& 31)).toNatClampNeg) + (C_rules (4 : Int32).toNatClampNeg)))]) C dX0_seamCost_53 (by decide) [1, 2, 3, 4, 5, 6, 0] rfl ?_
      exact g_leaf (by simp only [if_pos c_4] at key; exact key)
def fnX0_seamCost (p1 : Int32) (p2 : Int32) (p3 : Int32) (C_size : Int32) (C_rules : Nat → Int32) (C_places : Nat → Int32) : Int32 := (if p1 < (2 : Int32) then (if p1 < (1 : Int32) then (C_rules (p3 >>> ((1 : Int32) &&& 31)).toNatClampNeg) else (if (((C_places ((p2 * (3 : Int32)) + (p3 >>> ((1 : Int32) &&& 31))).toNatClampNeg) - (p3 &&& (1 : Int32))) &&& (1 : Int32)) = (1 : Int32) then ((C_rules (p3 >>> ((1 : Int32) &&& 31)).toNatClampNeg) + (C_rules (4 : Int32).toNatClampNeg)) else (C_rules (p3 >>> ((1 : Int32) &&& 31)).toNatClampNeg))) else (if (C_rules (5 : Int32).toNatClampNeg) < (if p1 < (1 : Int32) then (C_rules (p3 >>> ((1 : Int32) &&& 31)).toNatClampNeg) else (if (((C_places ((p2 * (3 : Int32)) + (p3 >>> ((1 : Int32) &&& 31))).toNatClampNeg) - (p3 &&& (1 : Int32))) &&& (1 : Int32)) = (1 : Int32) then ((C_rules (p3 >>> ((1 : Int32) &&& 31)).toNatClampNeg) + (C_rules (4 : Int32).toNatClampNeg)) else (C_rules (p3 >>> ((1 : Int32) &&& 31)).toNatClampNeg))) then (C_rules (5 : Int32).toNatClampNeg) else (if p1 < (1 : Int32) then (C_rules (p3 >>> ((1 : Int32) &&& 31)).toNatClampNeg) else (if (((C_places ((p2 * (3 : Int32)) + (p3 >>> ((1 : Int32) &&& 31))).toNatClampNeg) - (p3 &&& (1 : Int32))) &&& (1 : Int32)) = (1 : Int32) then ((C_rules (p3 >>> ((1 : Int32) &&& 31)).toNatClampNeg) + (C_rules (4 : Int32).toNatClampNeg)) else (C_rules (p3 >>> ((1 : Int32) &&& 31)).toNatClampNeg)))))
def prX0_seamCost (p1 : Int32) (p2 : Int32) (p3 : Int32) (C_size : Int32) (C_rules : Nat → Int32) (C_places : Nat → Int32) : Prop := vp_in ((p2 * (3 : Int32)) + (p3 >>> ((1 : Int32) &&& 31))) 108 ∧ vp_in (p3 >>> ((1 : Int32) &&& 31)) 7 ∧ ((p1 < (1 : Int32) → True) ∧ (¬ p1 < (1 : Int32) → (¬ (((C_places ((p2 * (3 : Int32)) + (p3 >>> ((1 : Int32) &&& 31))).toNatClampNeg) - (p3 &&& (1 : Int32))) &&& (1 : Int32)) = (1 : Int32) → True) ∧ ((((C_places ((p2 * (3 : Int32)) + (p3 >>> ((1 : Int32) &&& 31))).toNatClampNeg) - (p3 &&& (1 : Int32))) &&& (1 : Int32)) = (1 : Int32) → vp_in (4 : Int32) 7))) ∧ (p1 < (2 : Int32) → True) ∧ (¬ p1 < (2 : Int32) → vp_in (5 : Int32) 7)
set_option maxHeartbeats 4000000 in
set_option maxRecDepth 100000 in
theorem c_X0_seamCost (ad : Nat → Nat) (cA : Nat → ClassId) (p1 : Int32) (p2 : Int32) (p3 : Int32) (C_size : Int32) (C_rules : Nat → Int32) (C_places : Nat → Int32) (hq : prX0_seamCost p1 p2 p3 C_size C_rules C_places) : ∀ (l : Launch) (D : va_G), gMi (S := Unit) l yX0_seamCost wsX0_seamCost rmX0_seamCost D (gT cA) 0 0 [.ref (ad 1), .int p1, .int p2, .int p3] (wcX0_seamCost ad cA C_size C_rules C_places) (fun r _ => r = fnX0_seamCost p1 p2 p3 C_size C_rules C_places) (w1X0_seamCost ad cA C_size C_rules C_places) := by
  intro l D
  refine g_enteri (cc := cX0_seamCost) (nL := 7) (ret := (some .int)) (by decide) rfl (Nat.le_of_ble_eq_true rfl) rfl (fun X C E => sgX0_seamCost_0 p1 p2 p3 C_size C_rules C_places C E ?_)
  unfold prX0_seamCost at hq
  refine ⟨hq.1, ?_⟩
  replace hq := hq.2
  refine ⟨hq.1, ?_⟩
  replace hq := hq.2
  refine ⟨hq.1, ?_⟩
  replace hq := hq.2
  refine ⟨fun c_13 => ?_, fun c_13 => ?_⟩
  · replace hq := hq.1 c_13
    exact (by unfold fnX0_seamCost; first | rfl | (simp only [if_pos c_13]; done) | (simp only [if_pos c_13]; rfl))
  · replace hq := hq.2 c_13
    refine ⟨hq, ?_⟩
    exact (by unfold fnX0_seamCost; first | rfl | (simp only [if_neg c_13]; done) | (simp only [if_neg c_13]; rfl))

abbrev w1X0_freeCells (ad : Nat → Nat) (cA : Nat → ClassId) (C_size : Int32) (C_held : Nat → Int32) (u : Unit) : va_W := [((ad 1), .inr (0, [.ref (ad 2), .ref (ad 3), .ref (ad 4), .ref (ad 5), .ref (ad 6), .ref (ad 7), .int C_size])), ((ad 3), .inl (cA 0, 36, .inl C_held))]
abbrev wcX0_freeCells (ad : Nat → Nat) (cA : Nat → ClassId) (C_size : Int32) (C_held : Nat → Int32) : va_W := [((ad 1), .inr (0, [.ref (ad 2), .ref (ad 3), .ref (ad 4), .ref (ad 5), .ref (ad 6), .ref (ad 7), .int C_size])), ((ad 3), .inl (cA 0, 36, .inl C_held))]
def rmX0_freeCells : Room := { frames := 0, cells := 0, slots := 0, locals := 0 }
abbrev atX0_freeCells_0 (X : gX) (ad : Nat → Nat) (cA : Nat → ClassId) (C_size : Int32) (C_held : Nat → Int32) : Prop := gW X 0 0 [((ad 1), .inr (0, [.ref (ad 2), .ref (ad 3), .ref (ad 4), .ref (ad 5), .ref (ad 6), .ref (ad 7), .int C_size])), ((ad 3), .inl (cA 0, 36, .inl C_held))] 3 [(0, .ref (ad 1))] [] 0
abbrev atX0_freeCells_4 (X : gX) (ad : Nat → Nat) (cA : Nat → ClassId) (x1 : Int32) (x2 : Int32) (C_size : Int32) (C_held : Nat → Int32) : Prop := gW X 0 0 [((ad 1), .inr (0, [.ref (ad 2), .ref (ad 3), .ref (ad 4), .ref (ad 5), .ref (ad 6), .ref (ad 7), .int C_size])), ((ad 3), .inl (cA 0, 36, .inl C_held))] 3 [(0, .ref (ad 1)), (1, .int x1), (2, .int x2)] [] 4
theorem giX0_freeCells_X0 : ∀ w ∈ u_ws RX0 TX0 7, w ∈ wsX0_freeCells := by decide +kernel
theorem gfX0_freeCells_30 : gF wsX0_freeCells RX0 30 0 6 RX0 TX0 7 := ⟨giX0_freeCells_X0, by decide +kernel, rfl, by decide⟩
theorem gfX0_freeCells_15 : gF wsX0_freeCells RX0 15 0 1 RX0 TX0 7 := ⟨giX0_freeCells_X0, by decide +kernel, rfl, by decide⟩
set_option maxHeartbeats 4000000 in
set_option maxRecDepth 100000 in
theorem sgX0_freeCells_0 {X : gX} {ad : Nat → Nat} {cA : Nat → ClassId} {post : Int32 → (Unit) → Prop} (C_size : Int32) (C_held : Nat → Int32) (C : gC X (gT cA) cX0_freeCells 3 RX0 wsX0_freeCells rmX0_freeCells) (E : gEi X (some .int) (gT cA) 0 0 post (w1X0_freeCells ad cA C_size C_held)) (h : atX0_freeCells_4 X ad cA (0 : Int32) (0 : Int32) C_size C_held) : atX0_freeCells_0 X ad cA C_size C_held := by
  refine g_iconst C dX0_freeCells_0 ik_0 ?_
  refine g_istore_n (lv2 := [(0, .ref (ad 1)), (1, .int (0 : Int32))]) C dX0_freeCells_1 rfl (by decide) [1, 0] rfl ?_
  refine g_iconst C dX0_freeCells_2 ik_0 ?_
  refine g_istore_n (lv2 := [(0, .ref (ad 1)), (1, .int (0 : Int32)), (2, .int (0 : Int32))]) C dX0_freeCells_3 rfl (by decide) [1, 2, 0] rfl ?_
  exact g_lv [0, 1, 2] rfl h
set_option maxHeartbeats 4000000 in
set_option maxRecDepth 100000 in
theorem sgX0_freeCells_4 {X : gX} {ad : Nat → Nat} {cA : Nat → ClassId} {post : Int32 → (Unit) → Prop} (x1 : Int32) (x2 : Int32) (C_size : Int32) (C_held : Nat → Int32) (C : gC X (gT cA) cX0_freeCells 3 RX0 wsX0_freeCells rmX0_freeCells) (E : gEi X (some .int) (gT cA) 0 0 post (w1X0_freeCells ad cA C_size C_held)) (h : (C_size ≤ x2 → post x1 ()) ∧ (¬ C_size ≤ x2 → vp_in x2 36 ∧ atX0_freeCells_4 X ad cA (if (C_held x2.toNatClampNeg) = 0 then (x1 + 1) else x1) (x2 + 1) C_size C_held)) : atX0_freeCells_4 X ad cA x1 x2 C_size C_held := by
  refine g_iload_n C dX0_freeCells_4 rfl 2 rfl ?_
  refine g_aload_n C dX0_freeCells_5 rfl 0 rfl ?_
  refine g_get C gfX0_freeCells_30 0 rfl rfl dX0_freeCells_6 ?_
  refine g_icmp_ge (tgt := 30) C dX0_freeCells_9 (by decide) (fun c_1 => ?_) (fun c_1 => ?_)
  · replace h := h.1 c_1
    refine g_iload_n C dX0_freeCells_30 rfl 1 rfl ?_
    exact g_iret C E () h rfl dX0_freeCells_31
  · replace h := h.2 c_1
    refine g_aload_n C dX0_freeCells_12 rfl 0 rfl ?_
    refine g_get C gfX0_freeCells_15 0 rfl rfl dX0_freeCells_13 ?_
    refine g_iload_n C dX0_freeCells_16 rfl 2 rfl ?_
    obtain ⟨hi_2, h⟩ := h
    refine g_iald C 1 0 rfl rfl hi_2 dX0_freeCells_17 ?_
    have key : gW X 0 0 [((ad 1), .inr (0, [.ref (ad 2), .ref (ad 3), .ref (ad 4), .ref (ad 5), .ref (ad 6), .ref (ad 7), .int C_size])), ((ad 3), .inl (cA 0, 36, .inl C_held))] 3 [(0, .ref (ad 1)), (1, .int (if (C_held x2.toNatClampNeg) = 0 then (x1 + 1) else x1)), (2, .int x2)] [] 24 := by
      refine g_iinc (v := (x2 + 1)) (lv2 := [(0, .ref (ad 1)), (1, .int (if (C_held x2.toNatClampNeg) = 0 then (x1 + 1) else x1)), (2, .int (x2 + 1))]) C dX0_freeCells_24 2 rfl (by first | rfl | decide) (by decide) [1, 2, 0] rfl ?_
      refine g_goto (tgt := 4) C dX0_freeCells_27 (by decide) ?_
      exact g_lv [0, 1, 2] rfl h
    refine g_if_ne (tgt := 24) C dX0_freeCells_18 (by decide) (fun c_3 => ?_) (fun c_3 => ?_)
    · exact g_leaf (by simp only [if_neg c_3] at key; exact key)
    · refine g_iinc (v := (x1 + 1)) (lv2 := [(0, .ref (ad 1)), (1, .int (x1 + 1)), (2, .int x2)]) C dX0_freeCells_21 1 rfl (by first | rfl | decide) (by decide) [1, 0, 2] rfl ?_
      exact g_leaf (by simp only [if_pos c_3] at key; exact key)

abbrev w1X0_sideTowards (ad : Nat → Nat) (cA : Nat → ClassId) (C_size : Int32) (C_beyond : Nat → Int32) (u : Unit) : va_W := [((ad 1), .inr (0, [.ref (ad 2), .ref (ad 3), .ref (ad 4), .ref (ad 5), .ref (ad 6), .ref (ad 7), .int C_size])), ((ad 7), .inl (cA 0, 216, .inl C_beyond))]
abbrev wcX0_sideTowards (ad : Nat → Nat) (cA : Nat → ClassId) (C_size : Int32) (C_beyond : Nat → Int32) : va_W := [((ad 1), .inr (0, [.ref (ad 2), .ref (ad 3), .ref (ad 4), .ref (ad 5), .ref (ad 6), .ref (ad 7), .int C_size])), ((ad 7), .inl (cA 0, 216, .inl C_beyond))]
def rmX0_sideTowards : Room := { frames := 0, cells := 0, slots := 0, locals := 0 }
abbrev atX0_sideTowards_0 (X : gX) (ad : Nat → Nat) (cA : Nat → ClassId) (p1 : Int32) (p2 : Int32) (C_size : Int32) (C_beyond : Nat → Int32) : Prop := gW X 0 0 [((ad 1), .inr (0, [.ref (ad 2), .ref (ad 3), .ref (ad 4), .ref (ad 5), .ref (ad 6), .ref (ad 7), .int C_size])), ((ad 7), .inl (cA 0, 216, .inl C_beyond))] 4 [(0, .ref (ad 1)), (1, .int p1), (2, .int p2)] [] 0
abbrev atX0_sideTowards_2 (X : gX) (ad : Nat → Nat) (cA : Nat → ClassId) (x1 : Int32) (x2 : Int32) (x3 : Int32) (C_size : Int32) (C_beyond : Nat → Int32) : Prop := gW X 0 0 [((ad 1), .inr (0, [.ref (ad 2), .ref (ad 3), .ref (ad 4), .ref (ad 5), .ref (ad 6), .ref (ad 7), .int C_size])), ((ad 7), .inl (cA 0, 216, .inl C_beyond))] 4 [(0, .ref (ad 1)), (1, .int x1), (2, .int x2), (3, .int x3)] [] 2
theorem giX0_sideTowards_X0 : ∀ w ∈ u_ws RX0 TX0 7, w ∈ wsX0_sideTowards := by decide +kernel
theorem gfX0_sideTowards_27 : gF wsX0_sideTowards RX0 27 0 5 RX0 TX0 7 := ⟨giX0_sideTowards_X0, by decide +kernel, rfl, by decide⟩
set_option maxHeartbeats 4000000 in
set_option maxRecDepth 100000 in
theorem sgX0_sideTowards_0 {X : gX} {ad : Nat → Nat} {cA : Nat → ClassId} {post : Int32 → (Unit) → Prop} (p1 : Int32) (p2 : Int32) (C_size : Int32) (C_beyond : Nat → Int32) (C : gC X (gT cA) cX0_sideTowards 4 RX0 wsX0_sideTowards rmX0_sideTowards) (E : gEi X (some .int) (gT cA) 0 0 post (w1X0_sideTowards ad cA C_size C_beyond)) (h : atX0_sideTowards_2 X ad cA p1 p2 (0 : Int32) C_size C_beyond) : atX0_sideTowards_0 X ad cA p1 p2 C_size C_beyond := by
  refine g_iconst C dX0_sideTowards_0 ik_0 ?_
  refine g_istore_n (lv2 := [(0, .ref (ad 1)), (1, .int p1), (2, .int p2), (3, .int (0 : Int32))]) C dX0_sideTowards_1 rfl (by decide) [1, 2, 3, 0] rfl ?_
  exact g_lv [0, 1, 2, 3] rfl h
set_option maxHeartbeats 4000000 in
set_option maxRecDepth 100000 in
theorem sgX0_sideTowards_2 {X : gX} {ad : Nat → Nat} {cA : Nat → ClassId} {post : Int32 → (Unit) → Prop} (x1 : Int32) (x2 : Int32) (x3 : Int32) (C_size : Int32) (C_beyond : Nat → Int32) (C : gC X (gT cA) cX0_sideTowards 4 RX0 wsX0_sideTowards rmX0_sideTowards) (E : gEi X (some .int) (gT cA) 0 0 post (w1X0_sideTowards ad cA C_size C_beyond)) (h : ((6 : Int32) ≤ x3 → post (-1 : Int32) ()) ∧ (¬ (6 : Int32) ≤ x3 → vp_in ((x1 * (6 : Int32)) + x3) 216 ∧ (¬ (C_beyond ((x1 * (6 : Int32)) + x3).toNatClampNeg) = x2 → atX0_sideTowards_2 X ad cA x1 x2 (x3 + 1) C_size C_beyond) ∧ ((C_beyond ((x1 * (6 : Int32)) + x3).toNatClampNeg) = x2 → post x3 ()))) : atX0_sideTowards_2 X ad cA x1 x2 x3 C_size C_beyond := by
  refine g_iload_n C dX0_sideTowards_2 rfl 3 rfl ?_
  refine g_bipush C dX0_sideTowards_3 bk_6 ?_
  refine g_icmp_ge (tgt := 31) C dX0_sideTowards_5 (by decide) (fun c_1 => ?_) (fun c_1 => ?_)
  · replace h := h.1 c_1
    refine g_iconst C dX0_sideTowards_31 ik_m1 ?_
    exact g_iret C E () h rfl dX0_sideTowards_32
  · replace h := h.2 c_1
    refine g_aload_n C dX0_sideTowards_8 rfl 0 rfl ?_
    refine g_get C gfX0_sideTowards_27 0 rfl rfl dX0_sideTowards_9 ?_
    refine g_iload_n C dX0_sideTowards_12 rfl 1 rfl ?_
    refine g_bipush C dX0_sideTowards_13 bk_6 ?_
    refine g_imul C dX0_sideTowards_15 ?_
    refine g_iload_n C dX0_sideTowards_16 rfl 3 rfl ?_
    refine g_iadd C dX0_sideTowards_17 ?_
    obtain ⟨hi_2, h⟩ := h
    refine g_iald C 1 0 rfl rfl hi_2 dX0_sideTowards_18 ?_
    refine g_iload_n C dX0_sideTowards_19 rfl 2 rfl ?_
    refine g_icmp_ne (tgt := 25) C dX0_sideTowards_20 (by decide) (fun c_3 => ?_) (fun c_3 => ?_)
    · replace h := h.1 c_3
      refine g_iinc (v := (x3 + 1)) (lv2 := [(0, .ref (ad 1)), (1, .int x1), (2, .int x2), (3, .int (x3 + 1))]) C dX0_sideTowards_25 3 rfl (by first | rfl | decide) (by decide) [1, 2, 3, 0] rfl ?_
      refine g_goto (tgt := 2) C dX0_sideTowards_28 (by decide) ?_
      exact g_lv [0, 1, 2, 3] rfl h
    · replace h := h.2 c_3
      refine g_iload_n C dX0_sideTowards_23 rfl 3 rfl ?_
      exact g_iret C E () h rfl dX0_sideTowards_24

abbrev w1X0_ownCost (ad : Nat → Nat) (cA : Nat → ClassId) (C_size : Int32) (C_prices : Nat → Int32) (C_rules : Nat → Int32) (C_beyond : Nat → Int32) (u : Unit) : va_W := [((ad 1), .inr (0, [.ref (ad 2), .ref (ad 3), .ref (ad 4), .ref (ad 5), .ref (ad 6), .ref (ad 7), .int C_size])), ((ad 4), .inl (cA 0, 36, .inl C_prices)), ((ad 5), .inl (cA 0, 7, .inl C_rules)), ((ad 7), .inl (cA 0, 216, .inl C_beyond))]
abbrev wcX0_ownCost (ad : Nat → Nat) (cA : Nat → ClassId) (C_size : Int32) (C_prices : Nat → Int32) (C_rules : Nat → Int32) (C_beyond : Nat → Int32) : va_W := [((ad 1), .inr (0, [.ref (ad 2), .ref (ad 3), .ref (ad 4), .ref (ad 5), .ref (ad 6), .ref (ad 7), .int C_size])), ((ad 4), .inl (cA 0, 36, .inl C_prices)), ((ad 5), .inl (cA 0, 7, .inl C_rules)), ((ad 7), .inl (cA 0, 216, .inl C_beyond))]
def rmX0_ownCost : Room := { frames := 0, cells := 0, slots := 0, locals := 0 }
abbrev atX0_ownCost_0 (X : gX) (ad : Nat → Nat) (cA : Nat → ClassId) (p1 : Int32) (C_size : Int32) (C_prices : Nat → Int32) (C_rules : Nat → Int32) (C_beyond : Nat → Int32) : Prop := gW X 0 0 [((ad 1), .inr (0, [.ref (ad 2), .ref (ad 3), .ref (ad 4), .ref (ad 5), .ref (ad 6), .ref (ad 7), .int C_size])), ((ad 4), .inl (cA 0, 36, .inl C_prices)), ((ad 5), .inl (cA 0, 7, .inl C_rules)), ((ad 7), .inl (cA 0, 216, .inl C_beyond))] 4 [(0, .ref (ad 1)), (1, .int p1)] [] 0
abbrev atX0_ownCost_9 (X : gX) (ad : Nat → Nat) (cA : Nat → ClassId) (x1 : Int32) (x2 : Int32) (x3 : Int32) (C_size : Int32) (C_prices : Nat → Int32) (C_rules : Nat → Int32) (C_beyond : Nat → Int32) : Prop := gW X 0 0 [((ad 1), .inr (0, [.ref (ad 2), .ref (ad 3), .ref (ad 4), .ref (ad 5), .ref (ad 6), .ref (ad 7), .int C_size])), ((ad 4), .inl (cA 0, 36, .inl C_prices)), ((ad 5), .inl (cA 0, 7, .inl C_rules)), ((ad 7), .inl (cA 0, 216, .inl C_beyond))] 4 [(0, .ref (ad 1)), (1, .int x1), (2, .int x2), (3, .int x3)] [] 9
theorem giX0_ownCost_X0 : ∀ w ∈ u_ws RX0 TX0 7, w ∈ wsX0_ownCost := by decide +kernel
theorem gfX0_ownCost_18 : gF wsX0_ownCost RX0 18 0 2 RX0 TX0 7 := ⟨giX0_ownCost_X0, by decide +kernel, rfl, by decide⟩
theorem gfX0_ownCost_27 : gF wsX0_ownCost RX0 27 0 5 RX0 TX0 7 := ⟨giX0_ownCost_X0, by decide +kernel, rfl, by decide⟩
theorem gfX0_ownCost_21 : gF wsX0_ownCost RX0 21 0 3 RX0 TX0 7 := ⟨giX0_ownCost_X0, by decide +kernel, rfl, by decide⟩
set_option maxHeartbeats 4000000 in
set_option maxRecDepth 100000 in
theorem sgX0_ownCost_0 {X : gX} {ad : Nat → Nat} {cA : Nat → ClassId} {post : Int32 → (Unit) → Prop} (p1 : Int32) (C_size : Int32) (C_prices : Nat → Int32) (C_rules : Nat → Int32) (C_beyond : Nat → Int32) (C : gC X (gT cA) cX0_ownCost 4 RX0 wsX0_ownCost rmX0_ownCost) (E : gEi X (some .int) (gT cA) 0 0 post (w1X0_ownCost ad cA C_size C_prices C_rules C_beyond)) (h : vp_in p1 36 ∧ atX0_ownCost_9 X ad cA p1 (C_prices p1.toNatClampNeg) (0 : Int32) C_size C_prices C_rules C_beyond) : atX0_ownCost_0 X ad cA p1 C_size C_prices C_rules C_beyond := by
  refine g_aload_n C dX0_ownCost_0 rfl 0 rfl ?_
  refine g_get C gfX0_ownCost_18 0 rfl rfl dX0_ownCost_1 ?_
  refine g_iload_n C dX0_ownCost_4 rfl 1 rfl ?_
  obtain ⟨hi_1, h⟩ := h
  refine g_iald C 1 0 rfl rfl hi_1 dX0_ownCost_5 ?_
  refine g_istore_n (lv2 := [(0, .ref (ad 1)), (1, .int p1), (2, .int (C_prices p1.toNatClampNeg))]) C dX0_ownCost_6 rfl (by decide) [1, 2, 0] rfl ?_
  refine g_iconst C dX0_ownCost_7 ik_0 ?_
  refine g_istore_n (lv2 := [(0, .ref (ad 1)), (1, .int p1), (2, .int (C_prices p1.toNatClampNeg)), (3, .int (0 : Int32))]) C dX0_ownCost_8 rfl (by decide) [1, 2, 3, 0] rfl ?_
  exact g_lv [0, 1, 2, 3] rfl h
set_option maxHeartbeats 4000000 in
set_option maxRecDepth 100000 in
theorem sgX0_ownCost_9 {X : gX} {ad : Nat → Nat} {cA : Nat → ClassId} {post : Int32 → (Unit) → Prop} (x1 : Int32) (x2 : Int32) (x3 : Int32) (C_size : Int32) (C_prices : Nat → Int32) (C_rules : Nat → Int32) (C_beyond : Nat → Int32) (C : gC X (gT cA) cX0_ownCost 4 RX0 wsX0_ownCost rmX0_ownCost) (E : gEi X (some .int) (gT cA) 0 0 post (w1X0_ownCost ad cA C_size C_prices C_rules C_beyond)) (h : ((6 : Int32) ≤ x3 → post x2 ()) ∧ (¬ (6 : Int32) ≤ x3 → vp_in ((x1 * (6 : Int32)) + x3) 216 ∧ ((¬ (C_beyond ((x1 * (6 : Int32)) + x3).toNatClampNeg) = (-1 : Int32) → True) ∧ ((C_beyond ((x1 * (6 : Int32)) + x3).toNatClampNeg) = (-1 : Int32) → vp_in (3 : Int32) 7)) ∧ atX0_ownCost_9 X ad cA x1 (if (C_beyond ((x1 * (6 : Int32)) + x3).toNatClampNeg) = (-1 : Int32) then (x2 + (C_rules (3 : Int32).toNatClampNeg)) else x2) (x3 + 1) C_size C_prices C_rules C_beyond)) : atX0_ownCost_9 X ad cA x1 x2 x3 C_size C_prices C_rules C_beyond := by
  refine g_iload_n C dX0_ownCost_9 rfl 3 rfl ?_
  refine g_bipush C dX0_ownCost_10 bk_6 ?_
  refine g_icmp_ge (tgt := 45) C dX0_ownCost_12 (by decide) (fun c_2 => ?_) (fun c_2 => ?_)
  · replace h := h.1 c_2
    refine g_iload_n C dX0_ownCost_45 rfl 2 rfl ?_
    exact g_iret C E () h rfl dX0_ownCost_46
  · replace h := h.2 c_2
    refine g_aload_n C dX0_ownCost_15 rfl 0 rfl ?_
    refine g_get C gfX0_ownCost_27 0 rfl rfl dX0_ownCost_16 ?_
    refine g_iload_n C dX0_ownCost_19 rfl 1 rfl ?_
    refine g_bipush C dX0_ownCost_20 bk_6 ?_
    refine g_imul C dX0_ownCost_22 ?_
    refine g_iload_n C dX0_ownCost_23 rfl 3 rfl ?_
    refine g_iadd C dX0_ownCost_24 ?_
    obtain ⟨hi_3, h⟩ := h
    refine g_iald C 3 0 rfl rfl hi_3 dX0_ownCost_25 ?_
    refine g_iconst C dX0_ownCost_26 ik_m1 ?_
    obtain ⟨hr_39, h⟩ := h
    have key : gW X 0 0 [((ad 1), .inr (0, [.ref (ad 2), .ref (ad 3), .ref (ad 4), .ref (ad 5), .ref (ad 6), .ref (ad 7), .int C_size])), ((ad 4), .inl (cA 0, 36, .inl C_prices)), ((ad 5), .inl (cA 0, 7, .inl C_rules)), ((ad 7), .inl (cA 0, 216, .inl C_beyond))] 4 [(0, .ref (ad 1)), (1, .int x1), (2, .int (if (C_beyond ((x1 * (6 : Int32)) + x3).toNatClampNeg) = (-1 : Int32) then (x2 + (C_rules (3 : Int32).toNatClampNeg)) else x2)), (3, .int x3)] [] 39 := by
      refine g_iinc (v := (x3 + 1)) (lv2 := [(0, .ref (ad 1)), (1, .int x1), (2, .int (if (C_beyond ((x1 * (6 : Int32)) + x3).toNatClampNeg) = (-1 : Int32) then (x2 + (C_rules (3 : Int32).toNatClampNeg)) else x2)), (3, .int (x3 + 1))]) C dX0_ownCost_39 3 rfl (by first | rfl | decide) (by decide) [1, 2, 3, 0] rfl ?_
      refine g_goto (tgt := 9) C dX0_ownCost_42 (by decide) ?_
      exact g_lv [0, 1, 2, 3] rfl h
    replace h := hr_39
    refine g_icmp_ne (tgt := 39) C dX0_ownCost_27 (by decide) (fun c_4 => ?_) (fun c_4 => ?_)
    · replace h := h.1 c_4
      exact g_leaf (by simp only [if_neg c_4] at key; exact key)
    · replace h := h.2 c_4
      refine g_iload_n C dX0_ownCost_30 rfl 2 rfl ?_
      refine g_aload_n C dX0_ownCost_31 rfl 0 rfl ?_
      refine g_get C gfX0_ownCost_21 0 rfl rfl dX0_ownCost_32 ?_
      refine g_iconst C dX0_ownCost_35 ik_3 ?_
      have hi_5 := h
      refine g_iald C 2 0 rfl rfl hi_5 dX0_ownCost_36 ?_
      refine g_iadd C dX0_ownCost_37 ?_
      refine g_istore_n (lv2 := [(0, .ref (ad 1)), (1, .int x1), (2, .int (x2 + (C_rules (3 : Int32).toNatClampNeg))), (3, .int x3)]) C dX0_ownCost_38 rfl (by decide) [1, 2, 0, 3] rfl ?_
      exact g_leaf (by simp only [if_pos c_4] at key; exact key)
