theorem bk_6 : (Int8.ofInt (6)).toInt32 = (6 : Int32) := by decide
theorem hde_X0_every : yX0_every.cls = RX0 ∧ yX0_every.cls ≠ "java/lang/invoke/MethodHandle" ∧ yX0_every.cls ≠ "java/lang/invoke/VarHandle" ∧ (parseMethodDescriptor yX0_every.desc).map (fun d => d.parameters.length) = some 0 := by decide +kernel
theorem hde_X0_holds : yX0_holds.cls ≠ "java/lang/invoke/MethodHandle" ∧ yX0_holds.cls ≠ "java/lang/invoke/VarHandle" ∧ (parseMethodDescriptor yX0_holds.desc).map (fun d => d.parameters.length) = some 2 := by decide +kernel
theorem hde_X0_seamCost : yX0_seamCost.cls = RX0 ∧ yX0_seamCost.cls ≠ "java/lang/invoke/MethodHandle" ∧ yX0_seamCost.cls ≠ "java/lang/invoke/VarHandle" ∧ (parseMethodDescriptor yX0_seamCost.desc).map (fun d => d.parameters.length) = some 3 := by decide +kernel
theorem hde_X0_skinOfCell : yX0_skinOfCell.cls = RX0 ∧ yX0_skinOfCell.cls ≠ "java/lang/invoke/MethodHandle" ∧ yX0_skinOfCell.cls ≠ "java/lang/invoke/VarHandle" ∧ (parseMethodDescriptor yX0_skinOfCell.desc).map (fun d => d.parameters.length) = some 2 := by decide +kernel
abbrev w1X0_has (ad : Nat → Nat) (cA : Nat → ClassId) (C_size : Int32) (u : Unit) : va_W := [((ad 1), .inr (0, [.ref (ad 2), .ref (ad 3), .ref (ad 4), .ref (ad 5), .ref (ad 6), .ref (ad 7), .int C_size]))]
abbrev wcX0_has (ad : Nat → Nat) (cA : Nat → ClassId) (C_size : Int32) : va_W := [((ad 1), .inr (0, [.ref (ad 2), .ref (ad 3), .ref (ad 4), .ref (ad 5), .ref (ad 6), .ref (ad 7), .int C_size]))]
def rmX0_has : Room := { frames := 0, cells := 0, slots := 0, locals := 0 }
abbrev atX0_has_0 (X : gX) (ad : Nat → Nat) (cA : Nat → ClassId) (p1 : Int32) (C_size : Int32) : Prop := gW X 0 0 [((ad 1), .inr (0, [.ref (ad 2), .ref (ad 3), .ref (ad 4), .ref (ad 5), .ref (ad 6), .ref (ad 7), .int C_size]))] 2 [(0, .ref (ad 1)), (1, .int p1)] [] 0
theorem giX0_has_X0 : ∀ w ∈ u_ws RX0 TX0 7, w ∈ wsX0_has := by decide +kernel
theorem gfX0_has_30 : gF wsX0_has RX0 30 0 6 RX0 TX0 7 := ⟨giX0_has_X0, by decide +kernel, rfl, by decide⟩
set_option maxHeartbeats 4000000 in
set_option maxRecDepth 100000 in
theorem sgX0_has_0 {X : gX} {ad : Nat → Nat} {cA : Nat → ClassId} {post : Int32 → (Unit) → Prop} {p1 : Int32} {C_size : Int32} (C : gC X (gT cA) cX0_has 2 RX0 wsX0_has rmX0_has) (E : gEi X (some .boolean) (gT cA) 0 0 post (w1X0_has ad cA C_size)) (h : (p1 < 0 → post (0 : Int32) ()) ∧ (¬ p1 < 0 → (C_size ≤ p1 → post (0 : Int32) ()) ∧ (¬ C_size ≤ p1 → post (1 : Int32) ()))) : atX0_has_0 X ad cA p1 C_size := by
  refine g_iload_n C dX0_has_0 rfl 1 rfl ?_
  refine g_if_lt (tgt := 16) C dX0_has_1 (by decide) (fun c_1 => ?_) (fun c_1 => ?_)
  · replace h := h.1 c_1
    refine g_iconst C dX0_has_16 ik_0 ?_
    exact g_zret C E rfl () h rfl dX0_has_17
  · replace h := h.2 c_1
    refine g_iload_n C dX0_has_4 rfl 1 rfl ?_
    refine g_aload_n C dX0_has_5 rfl 0 rfl ?_
    refine g_get C gfX0_has_30 0 rfl rfl dX0_has_6 ?_
    refine g_icmp_ge (tgt := 16) C dX0_has_9 (by decide) (fun c_2 => ?_) (fun c_2 => ?_)
    · replace h := h.1 c_2
      refine g_iconst C dX0_has_16 ik_0 ?_
      exact g_zret C E rfl () h rfl dX0_has_17
    · replace h := h.2 c_2
      refine g_iconst C dX0_has_12 ik_1 ?_
      refine g_goto (tgt := 17) C dX0_has_13 (by decide) ?_
      exact g_zret C E rfl () h rfl dX0_has_17
def fnX0_has (p1 : Int32) (C_size : Int32) : Bool := (if p1 < 0 then false else (if C_size ≤ p1 then false else true))
set_option maxHeartbeats 4000000 in
set_option maxRecDepth 100000 in
theorem c_X0_has (ad : Nat → Nat) (cA : Nat → ClassId) (p1 : Int32) (C_size : Int32) : ∀ (l : Launch) (D : va_G), gMi (S := Unit) l yX0_has wsX0_has rmX0_has D (gT cA) 0 0 [.ref (ad 1), .int p1] (wcX0_has ad cA C_size) (fun r _ => r = bI (fnX0_has p1 C_size)) (w1X0_has ad cA C_size) := by
  intro l D
  refine g_enteri (cc := cX0_has) (nL := 2) (ret := (some .boolean)) (by decide) rfl (Nat.le_of_ble_eq_true rfl) rfl (fun X C E => sgX0_has_0 C E ?_)
  refine ⟨fun c_3 => ?_, fun c_3 => ?_⟩
  · exact (by unfold fnX0_has; first | rfl | (simp only [if_pos c_3]; done) | (simp only [if_pos c_3]; rfl))
  · refine ⟨fun c_4 => ?_, fun c_4 => ?_⟩
    · exact (by unfold fnX0_has; first | rfl | (simp only [if_neg c_3, if_pos c_4]; done) | (simp only [if_neg c_3, if_pos c_4]; rfl))
    · exact (by unfold fnX0_has; first | rfl | (simp only [if_neg c_3, if_neg c_4]; done) | (simp only [if_neg c_3, if_neg c_4]; rfl))

abbrev w1X0_every (ad : Nat → Nat) (cA : Nat → ClassId) (C_size : Int32) (u : Unit) : va_W := [((ad 1), .inr (0, [.ref (ad 2), .ref (ad 3), .ref (ad 4), .ref (ad 5), .ref (ad 6), .ref (ad 7), .int C_size]))]
abbrev wcX0_every (ad : Nat → Nat) (cA : Nat → ClassId) (C_size : Int32) : va_W := [((ad 1), .inr (0, [.ref (ad 2), .ref (ad 3), .ref (ad 4), .ref (ad 5), .ref (ad 6), .ref (ad 7), .int C_size]))]
def rmX0_every : Room := { frames := 0, cells := 0, slots := 0, locals := 0 }
abbrev atX0_every_0 (X : gX) (ad : Nat → Nat) (cA : Nat → ClassId) (C_size : Int32) : Prop := gW X 0 0 [((ad 1), .inr (0, [.ref (ad 2), .ref (ad 3), .ref (ad 4), .ref (ad 5), .ref (ad 6), .ref (ad 7), .int C_size]))] 1 [(0, .ref (ad 1))] [] 0
theorem giX0_every_X0 : ∀ w ∈ u_ws RX0 TX0 7, w ∈ wsX0_every := by decide +kernel
theorem gfX0_every_30 : gF wsX0_every RX0 30 0 6 RX0 TX0 7 := ⟨giX0_every_X0, by decide +kernel, rfl, by decide⟩
set_option maxHeartbeats 4000000 in
set_option maxRecDepth 100000 in
theorem sgX0_every_0 {X : gX} {ad : Nat → Nat} {cA : Nat → ClassId} {post : Int64 → (Unit) → Prop} {C_size : Int32} (C : gC X (gT cA) cX0_every 1 RX0 wsX0_every rmX0_every) (E : gEl X (some .long) (gT cA) 0 0 post (w1X0_every ad cA C_size)) (h : post (((1 : Int64) <<< (C_size.toInt64 &&& 63)) - (1 : Int64)) ()) : atX0_every_0 X ad cA C_size := by
  refine g_lconst C dX0_every_0 lk_1 ?_
  refine g_aload_n C dX0_every_1 rfl 0 rfl ?_
  refine g_get C gfX0_every_30 0 rfl rfl dX0_every_2 ?_
  refine g_lshl C dX0_every_5 ?_
  refine g_lconst C dX0_every_6 lk_1 ?_
  refine g_lsub C dX0_every_7 ?_
  exact g_lret C E () h rfl dX0_every_8
def fnX0_every (C_size : Int32) : Int64 := (((1 : Int64) <<< (C_size.toInt64 &&& 63)) - (1 : Int64))
set_option maxHeartbeats 4000000 in
set_option maxRecDepth 100000 in
theorem c_X0_every (ad : Nat → Nat) (cA : Nat → ClassId) (C_size : Int32) : ∀ (l : Launch) (D : va_G), gMl (S := Unit) l yX0_every wsX0_every rmX0_every D (gT cA) 0 0 [.ref (ad 1)] (wcX0_every ad cA C_size) (fun r _ => r = fnX0_every C_size) (w1X0_every ad cA C_size) := by
  intro l D
  refine g_enterl (cc := cX0_every) (nL := 1) (ret := (some .long)) (by decide) rfl (Nat.le_of_ble_eq_true rfl) rfl (fun X C E => sgX0_every_0 C E ?_)
  exact (by unfold fnX0_every; first | rfl | (simp only []; done) | (simp only []; rfl))

abbrev w1X0_holds (ad : Nat → Nat) (cA : Nat → ClassId) (u : Unit) : va_W := []
abbrev wcX0_holds (ad : Nat → Nat) (cA : Nat → ClassId) : va_W := []
def rmX0_holds : Room := { frames := 0, cells := 0, slots := 0, locals := 0 }
abbrev atX0_holds_0 (X : gX) (ad : Nat → Nat) (cA : Nat → ClassId) (p1 : Int64) (p2 : Int32) : Prop := gW X 0 0 [] 3 [(0, .long p1), (2, .int p2)] [] 0
set_option maxHeartbeats 4000000 in
set_option maxRecDepth 100000 in
theorem sgX0_holds_0 {X : gX} {ad : Nat → Nat} {cA : Nat → ClassId} {post : Int32 → (Unit) → Prop} {p1 : Int64} {p2 : Int32} (C : gC X (gT cA) cX0_holds 3 RX0 wsX0_holds rmX0_holds) (E : gEi X (some .boolean) (gT cA) 0 0 post (w1X0_holds ad cA)) (h : (¬ ((p1 >>> (p2.toInt64 &&& 63)) &&& (1 : Int64)) = (1 : Int64) → post (0 : Int32) ()) ∧ (((p1 >>> (p2.toInt64 &&& 63)) &&& (1 : Int64)) = (1 : Int64) → post (1 : Int32) ())) : atX0_holds_0 X ad cA p1 p2 := by
  refine g_lload_n C dX0_holds_0 rfl 0 rfl ?_
  refine g_iload_n C dX0_holds_1 rfl 1 rfl ?_
  refine g_lshr C dX0_holds_2 ?_
  refine g_lconst C dX0_holds_3 lk_1 ?_
  refine g_land C dX0_holds_4 ?_
  refine g_lconst C dX0_holds_5 lk_1 ?_
  refine g_lcmp_ne (tgt := 14) C dX0_holds_6 dX0_holds_7 rfl (by decide) (fun c_1 => ?_) (fun c_1 => ?_)
  · replace h := h.1 c_1
    refine g_iconst C dX0_holds_14 ik_0 ?_
    exact g_zret C E rfl () h rfl dX0_holds_15
  · replace h := h.2 c_1
    refine g_iconst C dX0_holds_10 ik_1 ?_
    refine g_goto (tgt := 15) C dX0_holds_11 (by decide) ?_
    exact g_zret C E rfl () h rfl dX0_holds_15
def fnX0_holds (p1 : Int64) (p2 : Int32) : Bool := (if ((p1 >>> (p2.toInt64 &&& 63)) &&& (1 : Int64)) = (1 : Int64) then true else false)
set_option maxHeartbeats 4000000 in
set_option maxRecDepth 100000 in
theorem c_X0_holds (ad : Nat → Nat) (cA : Nat → ClassId) (p1 : Int64) (p2 : Int32) : ∀ (l : Launch) (D : va_G), gMi (S := Unit) l yX0_holds wsX0_holds rmX0_holds D (gT cA) 0 0 [.long p1, .int p2] (wcX0_holds ad cA) (fun r _ => r = bI (fnX0_holds p1 p2)) (w1X0_holds ad cA) := by
  intro l D
  refine g_enteri (cc := cX0_holds) (nL := 3) (ret := (some .boolean)) (by decide) rfl (Nat.le_of_ble_eq_true rfl) rfl (fun X C E => sgX0_holds_0 C E ?_)
  refine ⟨fun c_2 => ?_, fun c_2 => ?_⟩
  · exact (by unfold fnX0_holds; first | rfl | (simp only [if_neg c_2]; done) | (simp only [if_neg c_2]; rfl))
  · exact (by unfold fnX0_holds; first | rfl | (simp only [if_pos c_2]; done) | (simp only [if_pos c_2]; rfl))

abbrev w1X0_isSet (ad : Nat → Nat) (cA : Nat → ClassId) (C_size : Int32) (u : Unit) : va_W := [((ad 1), .inr (0, [.ref (ad 2), .ref (ad 3), .ref (ad 4), .ref (ad 5), .ref (ad 6), .ref (ad 7), .int C_size]))]
abbrev wcX0_isSet (ad : Nat → Nat) (cA : Nat → ClassId) (C_size : Int32) : va_W := [((ad 1), .inr (0, [.ref (ad 2), .ref (ad 3), .ref (ad 4), .ref (ad 5), .ref (ad 6), .ref (ad 7), .int C_size]))]
def rmX0_isSet : Room := { frames := 1, cells := 0, slots := 0, locals := 20 }
abbrev atX0_isSet_0 (X : gX) (ad : Nat → Nat) (cA : Nat → ClassId) (p1 : Int64) (C_size : Int32) : Prop := gW X 0 0 [((ad 1), .inr (0, [.ref (ad 2), .ref (ad 3), .ref (ad 4), .ref (ad 5), .ref (ad 6), .ref (ad 7), .int C_size]))] 3 [(0, .ref (ad 1)), (1, .long p1)] [] 0
theorem cnX0_isSet_52 : Cond.constantLong RX0 52 (-1) ∈ wsX0_isSet := by decide +kernel
set_option maxHeartbeats 4000000 in
set_option maxRecDepth 100000 in
theorem sgX0_isSet_0 {X : gX} {ad : Nat → Nat} {cA : Nat → ClassId} {post : Int32 → (Unit) → Prop} {p1 : Int64} {C_size : Int32} (C : gC X (gT cA) cX0_isSet 3 RX0 wsX0_isSet rmX0_isSet) (E : gEi X (some .boolean) (gT cA) 0 0 post (w1X0_isSet ad cA C_size)) (h : (¬ (p1 &&& ((fnX0_every C_size) ^^^ (-1 : Int64))) = (0 : Int64) → post (0 : Int32) ()) ∧ ((p1 &&& ((fnX0_every C_size) ^^^ (-1 : Int64))) = (0 : Int64) → post (1 : Int32) ())) : atX0_isSet_0 X ad cA p1 C_size := by
  refine g_lload_n C dX0_isSet_0 rfl 1 rfl ?_
  refine g_aload_n C dX0_isSet_1 rfl 0 rfl ?_
  refine g_callVl (wr := []) C (c_X0_every ad cA C_size) gX0_isSet_X0_every rfl hde_X0_every ⟨rfl, rfl⟩ (by decide) (by decide) [0] [] [0] rfl rfl rfl rfl (by decide) rfl (ws2 := fun u => [((ad 1), .inr (0, [.ref (ad 2), .ref (ad 3), .ref (ad 4), .ref (ad 5), .ref (ad 6), .ref (ad 7), .int C_size]))]) (fun _ => rfl) 0 0 rfl rfl rfl (rest := [.long p1]) rfl (Nat.le_of_ble_eq_true rfl) dX0_isSet_2 (fun r_1 u_1 hp_1 => ?_)
  subst hp_1
  change gW X 0 0 [((ad 1), .inr (0, [.ref (ad 2), .ref (ad 3), .ref (ad 4), .ref (ad 5), .ref (ad 6), .ref (ad 7), .int C_size]))] 3 [(0, .ref (ad 1)), (1, .long p1)] [.long (fnX0_every C_size), .long p1] 5
  refine g_ldc2_w C cnX0_isSet_52 dX0_isSet_5 ?_
  refine g_lxor C dX0_isSet_8 ?_
  refine g_land C dX0_isSet_9 ?_
  refine g_lconst C dX0_isSet_10 lk_0 ?_
  refine g_lcmp_ne (tgt := 19) C dX0_isSet_11 dX0_isSet_12 rfl (by decide) (fun c_2 => ?_) (fun c_2 => ?_)
  · replace h := h.1 c_2
    refine g_iconst C dX0_isSet_19 ik_0 ?_
    exact g_zret C E rfl () h rfl dX0_isSet_20
  · replace h := h.2 c_2
    refine g_iconst C dX0_isSet_15 ik_1 ?_
    refine g_goto (tgt := 20) C dX0_isSet_16 (by decide) ?_
    exact g_zret C E rfl () h rfl dX0_isSet_20
def fnX0_isSet (p1 : Int64) (C_size : Int32) : Bool := (if (p1 &&& ((fnX0_every C_size) ^^^ (-1 : Int64))) = (0 : Int64) then true else false)
set_option maxHeartbeats 4000000 in
set_option maxRecDepth 100000 in
theorem c_X0_isSet (ad : Nat → Nat) (cA : Nat → ClassId) (p1 : Int64) (C_size : Int32) : ∀ (l : Launch) (D : va_G), gMi (S := Unit) l yX0_isSet wsX0_isSet rmX0_isSet D (gT cA) 0 0 [.ref (ad 1), .long p1] (wcX0_isSet ad cA C_size) (fun r _ => r = bI (fnX0_isSet p1 C_size)) (w1X0_isSet ad cA C_size) := by
  intro l D
  refine g_enteri (cc := cX0_isSet) (nL := 3) (ret := (some .boolean)) (by decide) rfl (Nat.le_of_ble_eq_true rfl) rfl (fun X C E => sgX0_isSet_0 C E ?_)
  refine ⟨fun c_4 => ?_, fun c_4 => ?_⟩
  · exact (by unfold fnX0_isSet; first | rfl | (simp only [if_neg c_4]; done) | (simp only [if_neg c_4]; rfl))
  · exact (by unfold fnX0_isSet; first | rfl | (simp only [if_pos c_4]; done) | (simp only [if_pos c_4]; rfl))

abbrev w1X0_seamCost (ad : Nat → Nat) (cA : Nat → ClassId) (C_size : Int32) (C_rules : Nat → Int32) (C_places : Nat → Int32) (u : Unit) : va_W := [((ad 1), .inr (0, [.ref (ad 2), .ref (ad 3), .ref (ad 4), .ref (ad 5), .ref (ad 6), .ref (ad 7), .int C_size])), ((ad 5), .inl (cA 0, 7, .inl C_rules)), ((ad 6), .inl (cA 0, 108, .inl C_places))]
abbrev wcX0_seamCost (ad : Nat → Nat) (cA : Nat → ClassId) (C_size : Int32) (C_rules : Nat → Int32) (C_places : Nat → Int32) : va_W := [((ad 1), .inr (0, [.ref (ad 2), .ref (ad 3), .ref (ad 4), .ref (ad 5), .ref (ad 6), .ref (ad 7), .int C_size])), ((ad 5), .inl (cA 0, 7, .inl C_rules)), ((ad 6), .inl (cA 0, 108, .inl C_places))]
def rmX0_seamCost : Room := { frames := 1, cells := 0, slots := 0, locals := 13 }
abbrev atX0_seamCost_0 (X : gX) (ad : Nat → Nat) (cA : Nat → ClassId) (p1 : Int32) (p2 : Int32) (p3 : Int32) (C_size : Int32) (C_rules : Nat → Int32) (C_places : Nat → Int32) : Prop := gW X 0 0 [((ad 1), .inr (0, [.ref (ad 2), .ref (ad 3), .ref (ad 4), .ref (ad 5), .ref (ad 6), .ref (ad 7), .int C_size])), ((ad 5), .inl (cA 0, 7, .inl C_rules)), ((ad 6), .inl (cA 0, 108, .inl C_places))] 7 [(0, .ref (ad 1)), (1, .int p1), (2, .int p2), (3, .int p3)] [] 0
theorem mmX0_seamCost_54a : Cond.methodLink RX0 54 Lib.Math.min.name ∈ wsX0_seamCost := by decide +kernel
theorem mmX0_seamCost_54b : Cond.static Lib.Math.min.name ∈ wsX0_seamCost := by decide +kernel
theorem mmX0_seamCost_54c : Cond.initialized "java/lang/Math" ∈ wsX0_seamCost := by decide +kernel
theorem mmX0_seamCost_54d : Cond.code Lib.Math.min.name Lib.Math.min.code 2 (some .int) ∈ wsX0_seamCost := by decide +kernel
theorem giX0_seamCost_X0 : ∀ w ∈ u_ws RX0 TX0 7, w ∈ wsX0_seamCost := by decide +kernel
theorem gfX0_seamCost_24 : gF wsX0_seamCost RX0 24 0 4 RX0 TX0 7 := ⟨giX0_seamCost_X0, by decide +kernel, rfl, by decide⟩
theorem gfX0_seamCost_21 : gF wsX0_seamCost RX0 21 0 3 RX0 TX0 7 := ⟨giX0_seamCost_X0, by decide +kernel, rfl, by decide⟩
set_option maxHeartbeats 4000000 in
set_option maxRecDepth 100000 in
theorem sgX0_seamCost_0 {X : gX} {ad : Nat → Nat} {cA : Nat → ClassId} {post : Int32 → (Unit) → Prop} {p1 : Int32} {p2 : Int32} {p3 : Int32} {C_size : Int32} {C_rules : Nat → Int32} {C_places : Nat → Int32} (C : gC X (gT cA) cX0_seamCost 7 RX0 wsX0_seamCost rmX0_seamCost) (E : gEi X (some .int) (gT cA) 0 0 post (w1X0_seamCost ad cA C_size C_rules C_places)) (h : vp_in ((p2 * (3 : Int32)) + (p3 >>> ((1 : Int32) &&& 31))) 108 ∧ vp_in (p3 >>> ((1 : Int32) &&& 31)) 7 ∧ ((p1 < (1 : Int32) → True) ∧ (¬ p1 < (1 : Int32) → (¬ (((C_places ((p2 * (3 : Int32)) + (p3 >>> ((1 : Int32) &&& 31))).toNatClampNeg) - (p3 &&& (1 : Int32))) &&& (1 : Int32)) = (1 : Int32) → True) ∧ ((((C_places ((p2 * (3 : Int32)) + (p3 >>> ((1 : Int32) &&& 31))).toNatClampNeg) - (p3 &&& (1 : Int32))) &&& (1 : Int32)) = (1 : Int32) → vp_in (4 : Int32) 7))) ∧ (p1 < (2 : Int32) → post (if p1 < (1 : Int32) then (C_rules (p3 >>> ((1 : Int32) &&& 31)).toNatClampNeg) else (if (((C_places ((p2 * (3 : Int32)) + (p3 >>> ((1 : Int32) &&& 31))).toNatClampNeg) - (p3 &&& (1 : Int32))) &&& (1 : Int32)) = (1 : Int32) then ((C_rules (p3 >>> ((1 : Int32) &&& 31)).toNatClampNeg) + (C_rules (4 : Int32).toNatClampNeg)) else (C_rules (p3 >>> ((1 : Int32) &&& 31)).toNatClampNeg))) ()) ∧ (¬ p1 < (2 : Int32) → vp_in (5 : Int32) 7 ∧ post (if (C_rules (5 : Int32).toNatClampNeg) < (if p1 < (1 : Int32) then (C_rules (p3 >>> ((1 : Int32) &&& 31)).toNatClampNeg) else (if (((C_places ((p2 * (3 : Int32)) + (p3 >>> ((1 : Int32) &&& 31))).toNatClampNeg) - (p3 &&& (1 : Int32))) &&& (1 : Int32)) = (1 : Int32) then ((C_rules (p3 >>> ((1 : Int32) &&& 31)).toNatClampNeg) + (C_rules (4 : Int32).toNatClampNeg)) else (C_rules (p3 >>> ((1 : Int32) &&& 31)).toNatClampNeg))) then (C_rules (5 : Int32).toNatClampNeg) else (if p1 < (1 : Int32) then (C_rules (p3 >>> ((1 : Int32) &&& 31)).toNatClampNeg) else (if (((C_places ((p2 * (3 : Int32)) + (p3 >>> ((1 : Int32) &&& 31))).toNatClampNeg) - (p3 &&& (1 : Int32))) &&& (1 : Int32)) = (1 : Int32) then ((C_rules (p3 >>> ((1 : Int32) &&& 31)).toNatClampNeg) + (C_rules (4 : Int32).toNatClampNeg)) else (C_rules (p3 >>> ((1 : Int32) &&& 31)).toNatClampNeg)))) ())) : atX0_seamCost_0 X ad cA p1 p2 p3 C_size C_rules C_places := by
  refine g_iload_n C dX0_seamCost_0 rfl 3 rfl ?_
  refine g_iconst C dX0_seamCost_1 ik_1 ?_
  refine g_ishr C dX0_seamCost_2 ?_
  refine g_istore (lv2 := [(0, .ref (ad 1)), (1, .int p1), (2, .int p2), (3, .int p3), (4, .int (p3 >>> ((1 : Int32) &&& 31)))]) C dX0_seamCost_3 (by decide) [1, 2, 3, 4, 0] rfl ?_
  refine g_aload_n C dX0_seamCost_5 rfl 0 rfl ?_
  refine g_get C gfX0_seamCost_24 0 rfl rfl dX0_seamCost_6 ?_
  refine g_iload_n C dX0_seamCost_9 rfl 2 rfl ?_
  refine g_iconst C dX0_seamCost_10 ik_3 ?_
  refine g_imul C dX0_seamCost_11 ?_
  refine g_iload C dX0_seamCost_12 4 rfl ?_
  refine g_iadd C dX0_seamCost_14 ?_
  obtain ⟨hi_1, h⟩ := h
  refine g_iald C 2 0 rfl rfl hi_1 dX0_seamCost_15 ?_
  refine g_iload_n C dX0_seamCost_16 rfl 3 rfl ?_
  refine g_iconst C dX0_seamCost_17 ik_1 ?_
  refine g_iand C dX0_seamCost_18 ?_
  refine g_isub C dX0_seamCost_19 ?_
  refine g_istore (lv2 := [(0, .ref (ad 1)), (1, .int p1), (2, .int p2), (3, .int p3), (4, .int (p3 >>> ((1 : Int32) &&& 31))), (5, .int ((C_places ((p2 * (3 : Int32)) + (p3 >>> ((1 : Int32) &&& 31))).toNatClampNeg) - (p3 &&& (1 : Int32))))]) C dX0_seamCost_20 (by decide) [1, 2, 3, 4, 5, 0] rfl ?_
  refine g_aload_n C dX0_seamCost_22 rfl 0 rfl ?_
  refine g_get C gfX0_seamCost_21 0 rfl rfl dX0_seamCost_23 ?_
  refine g_iload C dX0_seamCost_26 4 rfl ?_
  obtain ⟨hi_2, h⟩ := h
  refine g_iald C 1 0 rfl rfl hi_2 dX0_seamCost_28 ?_
  refine g_istore (lv2 := [(0, .ref (ad 1)), (1, .int p1), (2, .int p2), (3, .int p3), (4, .int (p3 >>> ((1 : Int32) &&& 31))), (5, .int ((C_places ((p2 * (3 : Int32)) + (p3 >>> ((1 : Int32) &&& 31))).toNatClampNeg) - (p3 &&& (1 : Int32)))), (6, .int (C_rules (p3 >>> ((1 : Int32) &&& 31)).toNatClampNeg))]) C dX0_seamCost_29 (by decide) [1, 2, 3, 4, 5, 6, 0] rfl ?_
  refine g_iload_n C dX0_seamCost_31 rfl 1 rfl ?_
  refine g_iconst C dX0_seamCost_32 ik_1 ?_
  obtain ⟨hr_55, h⟩ := h
  have key : gW X 0 0 [((ad 1), .inr (0, [.ref (ad 2), .ref (ad 3), .ref (ad 4), .ref (ad 5), .ref (ad 6), .ref (ad 7), .int C_size])), ((ad 5), .inl (cA 0, 7, .inl C_rules)), ((ad 6), .inl (cA 0, 108, .inl C_places))] 7 [(0, .ref (ad 1)), (1, .int p1), (2, .int p2), (3, .int p3), (4, .int (p3 >>> ((1 : Int32) &&& 31))), (5, .int ((C_places ((p2 * (3 : Int32)) + (p3 >>> ((1 : Int32) &&& 31))).toNatClampNeg) - (p3 &&& (1 : Int32)))), (6, .int (if p1 < (1 : Int32) then (C_rules (p3 >>> ((1 : Int32) &&& 31)).toNatClampNeg) else (if (((C_places ((p2 * (3 : Int32)) + (p3 >>> ((1 : Int32) &&& 31))).toNatClampNeg) - (p3 &&& (1 : Int32))) &&& (1 : Int32)) = (1 : Int32) then ((C_rules (p3 >>> ((1 : Int32) &&& 31)).toNatClampNeg) + (C_rules (4 : Int32).toNatClampNeg)) else (C_rules (p3 >>> ((1 : Int32) &&& 31)).toNatClampNeg))))] [] 55 := by
    refine g_iload_n C dX0_seamCost_55 rfl 1 rfl ?_
    refine g_iconst C dX0_seamCost_56 ik_2 ?_
    refine g_icmp_lt (tgt := 74) C dX0_seamCost_57 (by decide) (fun c_6 => ?_) (fun c_6 => ?_)
    · replace h := h.1 c_6
      refine g_iload C dX0_seamCost_74 6 rfl ?_
      exact g_iret C E () h rfl dX0_seamCost_76
    · replace h := h.2 c_6
      refine g_iload C dX0_seamCost_60 6 rfl ?_
      refine g_aload_n C dX0_seamCost_62 rfl 0 rfl ?_
      refine g_get C gfX0_seamCost_21 0 rfl rfl dX0_seamCost_63 ?_
      refine g_iconst C dX0_seamCost_66 ik_5 ?_
      obtain ⟨hi_7, h⟩ := h
      refine g_iald C 1 0 rfl rfl hi_7 dX0_seamCost_67 ?_
      refine g_mmin C mmX0_seamCost_54a mmX0_seamCost_54b mmX0_seamCost_54c mmX0_seamCost_54d (by decide) (Nat.le_of_ble_eq_true rfl) (by decide) (by decide) dX0_seamCost_68 ?_
      refine g_goto (tgt := 76) C dX0_seamCost_71 (by decide) ?_
      exact g_iret C E () h rfl dX0_seamCost_76
  replace h := hr_55
  refine g_icmp_lt (tgt := 55) C dX0_seamCost_33 (by decide) (fun c_3 => ?_) (fun c_3 => ?_)
  · replace h := h.1 c_3
    exact g_leaf (by simp only [if_pos c_3] at key; first | exact key | (simp only [if_pos c_3]; exact key) | exact absurd rfl c_3)
  · replace h := h.2 c_3
    refine g_iload C dX0_seamCost_36 5 rfl ?_
    refine g_iconst C dX0_seamCost_38 ik_1 ?_
    refine g_iand C dX0_seamCost_39 ?_
    refine g_iconst C dX0_seamCost_40 ik_1 ?_
    have hr_55 := h
    have key : gW X 0 0 [((ad 1), .inr (0, [.ref (ad 2), .ref (ad 3), .ref (ad 4), .ref (ad 5), .ref (ad 6), .ref (ad 7), .int C_size])), ((ad 5), .inl (cA 0, 7, .inl C_rules)), ((ad 6), .inl (cA 0, 108, .inl C_places))] 7 [(0, .ref (ad 1)), (1, .int p1), (2, .int p2), (3, .int p3), (4, .int (p3 >>> ((1 : Int32) &&& 31))), (5, .int ((C_places ((p2 * (3 : Int32)) + (p3 >>> ((1 : Int32) &&& 31))).toNatClampNeg) - (p3 &&& (1 : Int32)))), (6, .int (if (((C_places ((p2 * (3 : Int32)) + (p3 >>> ((1 : Int32) &&& 31))).toNatClampNeg) - (p3 &&& (1 : Int32))) &&& (1 : Int32)) = (1 : Int32) then ((C_rules (p3 >>> ((1 : Int32) &&& 31)).toNatClampNeg) + (C_rules (4 : Int32).toNatClampNeg)) else (C_rules (p3 >>> ((1 : Int32) &&& 31)).toNatClampNeg)))] [] 55 := by
      exact g_leaf (by simp only [if_neg c_3] at key; first | exact key | (simp only [if_neg c_3]; exact key) | exact absurd rfl c_3)
    replace h := hr_55
    refine g_icmp_ne (tgt := 55) C dX0_seamCost_41 (by decide) (fun c_4 => ?_) (fun c_4 => ?_)
    · replace h := h.1 c_4
      exact g_leaf (by simp only [if_neg c_4] at key; first | exact key | (simp only [if_neg c_4]; exact key) | exact absurd rfl c_4)
    · replace h := h.2 c_4
      refine g_iload C dX0_seamCost_44 6 rfl ?_
      refine g_aload_n C dX0_seamCost_46 rfl 0 rfl ?_
      refine g_get C gfX0_seamCost_21 0 rfl rfl dX0_seamCost_47 ?_
      refine g_iconst C dX0_seamCost_50 ik_4 ?_
      have hi_5 := h
      refine g_iald C 1 0 rfl rfl hi_5 dX0_seamCost_51 ?_
      refine g_iadd C dX0_seamCost_52 ?_
      refine g_istore (lv2 := [(0, .ref (ad 1)), (1, .int p1), (2, .int p2), (3, .int p3), (4, .int (p3 >>> ((1 : Int32) &&& 31))), (5, .int ((C_places ((p2 * (3 : Int32)) + (p3 >>> ((1 : Int32) &&& 31))).toNatClampNeg) - (p3 &&& (1 : Int32)))), (6, .int ((C_rules (p3 >>> ((1 : Int32) &&& 31)).toNatClampNeg) + (C_rules (4 : Int32).toNatClampNeg)))]) C dX0_seamCost_53 (by decide) [1, 2, 3, 4, 5, 6, 0] rfl ?_
      exact g_leaf (by simp only [if_pos c_4] at key; first | exact key | (simp only [if_pos c_4]; exact key) | exact absurd rfl c_4)
def fnX0_seamCost (p1 : Int32) (p2 : Int32) (p3 : Int32) (C_size : Int32) (C_rules : Nat → Int32) (C_places : Nat → Int32) : Int32 := (if p1 < (2 : Int32) then (if p1 < (1 : Int32) then (C_rules (p3 >>> ((1 : Int32) &&& 31)).toNatClampNeg) else (if (((C_places ((p2 * (3 : Int32)) + (p3 >>> ((1 : Int32) &&& 31))).toNatClampNeg) - (p3 &&& (1 : Int32))) &&& (1 : Int32)) = (1 : Int32) then ((C_rules (p3 >>> ((1 : Int32) &&& 31)).toNatClampNeg) + (C_rules (4 : Int32).toNatClampNeg)) else (C_rules (p3 >>> ((1 : Int32) &&& 31)).toNatClampNeg))) else (if (C_rules (5 : Int32).toNatClampNeg) < (if p1 < (1 : Int32) then (C_rules (p3 >>> ((1 : Int32) &&& 31)).toNatClampNeg) else (if (((C_places ((p2 * (3 : Int32)) + (p3 >>> ((1 : Int32) &&& 31))).toNatClampNeg) - (p3 &&& (1 : Int32))) &&& (1 : Int32)) = (1 : Int32) then ((C_rules (p3 >>> ((1 : Int32) &&& 31)).toNatClampNeg) + (C_rules (4 : Int32).toNatClampNeg)) else (C_rules (p3 >>> ((1 : Int32) &&& 31)).toNatClampNeg))) then (C_rules (5 : Int32).toNatClampNeg) else (if p1 < (1 : Int32) then (C_rules (p3 >>> ((1 : Int32) &&& 31)).toNatClampNeg) else (if (((C_places ((p2 * (3 : Int32)) + (p3 >>> ((1 : Int32) &&& 31))).toNatClampNeg) - (p3 &&& (1 : Int32))) &&& (1 : Int32)) = (1 : Int32) then ((C_rules (p3 >>> ((1 : Int32) &&& 31)).toNatClampNeg) + (C_rules (4 : Int32).toNatClampNeg)) else (C_rules (p3 >>> ((1 : Int32) &&& 31)).toNatClampNeg)))))
def prX0_seamCost (p1 : Int32) (p2 : Int32) (p3 : Int32) (C_size : Int32) (C_rules : Nat → Int32) (C_places : Nat → Int32) : Prop := vp_in ((p2 * (3 : Int32)) + (p3 >>> ((1 : Int32) &&& 31))) 108 ∧ vp_in (p3 >>> ((1 : Int32) &&& 31)) 7 ∧ ((p1 < (1 : Int32) → True) ∧ (¬ p1 < (1 : Int32) → (¬ (((C_places ((p2 * (3 : Int32)) + (p3 >>> ((1 : Int32) &&& 31))).toNatClampNeg) - (p3 &&& (1 : Int32))) &&& (1 : Int32)) = (1 : Int32) → True) ∧ ((((C_places ((p2 * (3 : Int32)) + (p3 >>> ((1 : Int32) &&& 31))).toNatClampNeg) - (p3 &&& (1 : Int32))) &&& (1 : Int32)) = (1 : Int32) → vp_in (4 : Int32) 7))) ∧ (p1 < (2 : Int32) → True) ∧ (¬ p1 < (2 : Int32) → vp_in (5 : Int32) 7)
set_option maxHeartbeats 4000000 in
set_option maxRecDepth 100000 in
theorem c_X0_seamCost (ad : Nat → Nat) (cA : Nat → ClassId) (p1 : Int32) (p2 : Int32) (p3 : Int32) (C_size : Int32) (C_rules : Nat → Int32) (C_places : Nat → Int32) (hq : prX0_seamCost p1 p2 p3 C_size C_rules C_places) : ∀ (l : Launch) (D : va_G), gMi (S := Unit) l yX0_seamCost wsX0_seamCost rmX0_seamCost D (gT cA) 0 0 [.ref (ad 1), .int p1, .int p2, .int p3] (wcX0_seamCost ad cA C_size C_rules C_places) (fun r _ => r = fnX0_seamCost p1 p2 p3 C_size C_rules C_places) (w1X0_seamCost ad cA C_size C_rules C_places) := by
  intro l D
  refine g_enteri (cc := cX0_seamCost) (nL := 7) (ret := (some .int)) (by decide) rfl (Nat.le_of_ble_eq_true rfl) rfl (fun X C E => sgX0_seamCost_0 C E ?_)
  unfold prX0_seamCost at hq
  refine ⟨hq.1, ?_⟩
  replace hq := hq.2
  refine ⟨hq.1, ?_⟩
  replace hq := hq.2
  refine ⟨hq.1, ?_⟩
  replace hq := hq.2
  refine ⟨fun c_13 => ?_, fun c_13 => ?_⟩
  · replace hq := hq.1 c_13
    exact (by unfold fnX0_seamCost; first | rfl | (simp only [if_pos c_13]; done) | (simp only [if_pos c_13]; rfl))
  · replace hq := hq.2 c_13
    refine ⟨hq, ?_⟩
    exact (by unfold fnX0_seamCost; first | rfl | (simp only [if_neg c_13]; done) | (simp only [if_neg c_13]; rfl))

theorem vi_3_7 : vp_in (3 : Int32) 7 := vp_in_nI (n := 3) (by decide) (by decide)
theorem vi_4_7 : vp_in (4 : Int32) 7 := vp_in_nI (n := 4) (by decide) (by decide)
theorem vi_5_7 : vp_in (5 : Int32) 7 := vp_in_nI (n := 5) (by decide) (by decide)
theorem vi_6_7 : vp_in (6 : Int32) 7 := vp_in_nI (n := 6) (by decide) (by decide)
theorem vi_0_3 : vp_in (0 : Int32) 3 := vp_in_nI (n := 0) (by decide) (by decide)
theorem vi_1_3 : vp_in (1 : Int32) 3 := vp_in_nI (n := 1) (by decide) (by decide)
theorem vi_2_3 : vp_in (2 : Int32) 3 := vp_in_nI (n := 2) (by decide) (by decide)
theorem holds_eq (s : Int64) {c : Nat} (hc : c < 64) : fnX0_holds s (nI c) = sb s c := by
  unfold fnX0_holds
  by_cases h : sb s c = true
  · rw [if_pos ((zb_bit s hc).mpr h), h]
  · rw [if_neg (fun q => h ((zb_bit s hc).mp q))]
    cases hh : sb s c
    · rfl
    · exact absurd hh h
theorem every_sb {n i : Nat} (hn : n < 63) (hi : i < 64) : sb (fnX0_every (nI n)) i = decide (i < n) := zb_every hn hi
theorem isSet_eq (s : Int64) {n : Nat} (hn : n ≤ 36) : fnX0_isSet s (nI n) = true ↔ ∀ i, i < 64 → n ≤ i → sb s i = false := by
  unfold fnX0_isSet
  have key : (s &&& (fnX0_every (nI n) ^^^ -1)) = 0 ↔ ∀ i, i < 64 → n ≤ i → sb s i = false := by
    constructor
    · intro h i hi hni
      have h1 := congrArg (fun z => sb z i) h
      simp only [zb_and, zb_xor, every_sb (show n < 63 by omega) hi, zb_m1 hi, zb_0] at h1
      rw [decide_eq_false (by omega)] at h1
      simpa using h1
    · intro h
      apply zb_ext
      intro i hi
      rw [zb_and, zb_xor, every_sb (by omega) hi, zb_m1 hi, zb_0]
      by_cases q : n ≤ i
      · rw [h i hi q]; rfl
      · rw [decide_eq_true (by omega)]; simp
  by_cases q : (s &&& (fnX0_every (nI n) ^^^ -1)) = 0
  · rw [if_pos q]; exact ⟨fun _ => key.mp q, fun _ => rfl⟩
  · rw [if_neg q]; exact ⟨fun h => absurd h (by decide), fun h => absurd (key.mpr h) q⟩
theorem has0_eq (p : Int32) {n : Nat} (hn : n ≤ 36) : fnX0_has p (nI n) = decide (0 ≤ p.toInt ∧ p.toInt < n) := by
  unfold fnX0_has
  have e : (nI n).toInt = n := nI_toInt (by omega)
  simp only [Int32.lt_iff_toInt_lt, Int32.le_iff_toInt_le, e, show (0 : Int32).toInt = 0 from rfl]
  by_cases h1 : p.toInt < 0
  · rw [if_pos h1]; exact (decide_eq_false (by omega)).symm
  · rw [if_neg h1]
    by_cases h2 : (n : Int) ≤ p.toInt
    · rw [if_pos h2]; exact (decide_eq_false (by omega)).symm
    · rw [if_neg h2]; exact (decide_eq_true (by omega)).symm
theorem scost_eq {ru pl : Nat → Int32} (h : ruOK ru) {kd c s p : Nat} (hkd : kd ≤ 2) (hc : c < 36) (hs : s < 6) (hp : p < 4) (ep : pl (3 * c + s / 2) = nI p) (hsp : s % 2 ≤ p) (sz : Int32) : prX0_seamCost (nI kd) (nI c) (nI s) sz ru pl ∧ fnX0_seamCost (nI kd) (nI c) (nI s) sz ru pl = iI (cwA ru pl kd c s) := by
  have e1 : nI s >>> ((1 : Int32) &&& 31) = nI (s / 2) := pk_shrN (k := 1) (by omega) _ (by decide)
  have e2 : nI c * (3 : Int32) + nI (s / 2) = nI (3 * c + s / 2) := by show nI c * nI 3 + _ = _; rw [pk_mul, nI_add, Nat.mul_comm]
  have e3 : nI s &&& (1 : Int32) = nI (s % 2) := pk_andN (k := 1) (by omega) (by decide)
  have e4 : (nI p - nI (s % 2)) &&& (1 : Int32) = nI ((p - s % 2) % 2) := by rw [pk_sub hsp]; exact pk_andN (k := 1) (by omega) (by decide)
  have e5 : (nI ((p - s % 2) % 2) = 1) = ((p - s % 2) % 2 = 1) := propext (nI_eq (b := 1) (by omega) (by decide))
  have e6 : (nI kd < 1) = (¬ 0 < kd) := propext (by rw [show (1 : Int32) = nI 1 from rfl, nI_ltI (by omega) (by decide)]; omega)
  have e7 : (nI kd < 2) = (¬ kd = 2) := propext (by rw [show (2 : Int32) = nI 2 from rfl, nI_ltI (by omega) (by decide)]; omega)
  have c4 : (4 : Int32).toNatClampNeg = 4 := rfl
  have c5 : (5 : Int32).toNatClampNeg = 5 := rfl
  have v1 := h.1 (s / 2) (by omega)
  have v4 := h.1 4 (by omega)
  have v5 := h.2.1
  have v6 := h.2.2.1
  have sum : (ru (s / 2) + ru 4).toInt = (ru (s / 2)).toInt + (ru 4).toInt := toInt_add (by omega) (by omega)
  constructor
  · unfold prX0_seamCost
    rw [e1, e2]
    refine ⟨vp_in_nI (by omega) (by decide), vp_in_nI (by omega) (by decide), ⟨fun _ => trivial, fun _ => ⟨fun _ => trivial, fun _ => vi_4_7⟩⟩, fun _ => trivial, fun _ => vi_5_7⟩
  · unfold fnX0_seamCost cwA sc
    rw [e1, e2, e3, nI_clamp (by omega), nI_clamp (by omega), ep, e4, nI_clamp (by omega)]
    simp only [e5, e6, e7, c4, c5, Int32.lt_iff_toInt_lt]
    rw [← Int32.toInt_inj, toInt_iI (by (repeat' split) <;> omega) (by (repeat' split) <;> omega)]
    by_cases hk0 : 0 < kd <;> by_cases hk2 : kd = 2 <;> by_cases hp1 : (p - s % 2) % 2 = 1 <;> simp only [hk0, hk2, hp1, (eq_true (by decide) : (0 < 2) = True), not_true_eq_false, not_false_eq_true, if_true, if_false, true_and, and_true, false_and, and_false, sum, Int.add_zero]
    all_goals (try (split <;> (try simp only [sum]) <;> omega))
    all_goals (try omega)

abbrev w1X0_freeCells (ad : Nat → Nat) (cA : Nat → ClassId) (C_size : Int32) (C_held : Nat → Int32) (u : Unit) : va_W := [((ad 1), .inr (0, [.ref (ad 2), .ref (ad 3), .ref (ad 4), .ref (ad 5), .ref (ad 6), .ref (ad 7), .int C_size])), ((ad 3), .inl (cA 0, 36, .inl C_held))]
abbrev wcX0_freeCells (ad : Nat → Nat) (cA : Nat → ClassId) (C_size : Int32) (C_held : Nat → Int32) : va_W := [((ad 1), .inr (0, [.ref (ad 2), .ref (ad 3), .ref (ad 4), .ref (ad 5), .ref (ad 6), .ref (ad 7), .int C_size])), ((ad 3), .inl (cA 0, 36, .inl C_held))]
def rmX0_freeCells : Room := { frames := 0, cells := 0, slots := 0, locals := 0 }
abbrev atX0_freeCells_0 (X : gX) (ad : Nat → Nat) (cA : Nat → ClassId) (C_size : Int32) (C_held : Nat → Int32) : Prop := gW X 0 0 [((ad 1), .inr (0, [.ref (ad 2), .ref (ad 3), .ref (ad 4), .ref (ad 5), .ref (ad 6), .ref (ad 7), .int C_size])), ((ad 3), .inl (cA 0, 36, .inl C_held))] 3 [(0, .ref (ad 1))] [] 0
abbrev atX0_freeCells_4 (X : gX) (ad : Nat → Nat) (cA : Nat → ClassId) (x1 : Int32) (x2 : Int32) (C_size : Int32) (C_held : Nat → Int32) : Prop := gW X 0 0 [((ad 1), .inr (0, [.ref (ad 2), .ref (ad 3), .ref (ad 4), .ref (ad 5), .ref (ad 6), .ref (ad 7), .int C_size])), ((ad 3), .inl (cA 0, 36, .inl C_held))] 3 [(0, .ref (ad 1)), (1, .int x1), (2, .int x2)] [] 4
theorem giX0_freeCells_X0 : ∀ w ∈ u_ws RX0 TX0 7, w ∈ wsX0_freeCells := by decide +kernel
theorem gfX0_freeCells_30 : gF wsX0_freeCells RX0 30 0 6 RX0 TX0 7 := ⟨giX0_freeCells_X0, by decide +kernel, rfl, by decide⟩
theorem gfX0_freeCells_15 : gF wsX0_freeCells RX0 15 0 1 RX0 TX0 7 := ⟨giX0_freeCells_X0, by decide +kernel, rfl, by decide⟩
set_option maxHeartbeats 4000000 in
set_option maxRecDepth 100000 in
theorem sgX0_freeCells_0 {X : gX} {ad : Nat → Nat} {cA : Nat → ClassId} {post : Int32 → (Unit) → Prop} {C_size : Int32} {C_held : Nat → Int32} (C : gC X (gT cA) cX0_freeCells 3 RX0 wsX0_freeCells rmX0_freeCells) (E : gEi X (some .int) (gT cA) 0 0 post (w1X0_freeCells ad cA C_size C_held)) (h : atX0_freeCells_4 X ad cA (0 : Int32) (0 : Int32) C_size C_held) : atX0_freeCells_0 X ad cA C_size C_held := by
  refine g_iconst C dX0_freeCells_0 ik_0 ?_
  refine g_istore_n (lv2 := [(0, .ref (ad 1)), (1, .int (0 : Int32))]) C dX0_freeCells_1 rfl (by decide) [1, 0] rfl ?_
  refine g_iconst C dX0_freeCells_2 ik_0 ?_
  refine g_istore_n (lv2 := [(0, .ref (ad 1)), (1, .int (0 : Int32)), (2, .int (0 : Int32))]) C dX0_freeCells_3 rfl (by decide) [1, 2, 0] rfl ?_
  exact g_lv [0, 1, 2] rfl h
set_option maxHeartbeats 4000000 in
set_option maxRecDepth 100000 in
theorem sgX0_freeCells_4 {X : gX} {ad : Nat → Nat} {cA : Nat → ClassId} {post : Int32 → (Unit) → Prop} {x1 : Int32} {x2 : Int32} {C_size : Int32} {C_held : Nat → Int32} (C : gC X (gT cA) cX0_freeCells 3 RX0 wsX0_freeCells rmX0_freeCells) (E : gEi X (some .int) (gT cA) 0 0 post (w1X0_freeCells ad cA C_size C_held)) (h : (C_size ≤ x2 → post x1 ()) ∧ (¬ C_size ≤ x2 → vp_in x2 36 ∧ atX0_freeCells_4 X ad cA (if (C_held x2.toNatClampNeg) = 0 then (x1 + 1) else x1) (x2 + 1) C_size C_held)) : atX0_freeCells_4 X ad cA x1 x2 C_size C_held := by
  refine g_iload_n C dX0_freeCells_4 rfl 2 rfl ?_
  refine g_aload_n C dX0_freeCells_5 rfl 0 rfl ?_
  refine g_get C gfX0_freeCells_30 0 rfl rfl dX0_freeCells_6 ?_
  refine g_icmp_ge (tgt := 30) C dX0_freeCells_9 (by decide) (fun c_1 => ?_) (fun c_1 => ?_)
  · replace h := h.1 c_1
    refine g_iload_n C dX0_freeCells_30 rfl 1 rfl ?_
    exact g_iret C E () h rfl dX0_freeCells_31
  · replace h := h.2 c_1
    refine g_aload_n C dX0_freeCells_12 rfl 0 rfl ?_
    refine g_get C gfX0_freeCells_15 0 rfl rfl dX0_freeCells_13 ?_
    refine g_iload_n C dX0_freeCells_16 rfl 2 rfl ?_
    obtain ⟨hi_2, h⟩ := h
    refine g_iald C 1 0 rfl rfl hi_2 dX0_freeCells_17 ?_
    have key : gW X 0 0 [((ad 1), .inr (0, [.ref (ad 2), .ref (ad 3), .ref (ad 4), .ref (ad 5), .ref (ad 6), .ref (ad 7), .int C_size])), ((ad 3), .inl (cA 0, 36, .inl C_held))] 3 [(0, .ref (ad 1)), (1, .int (if (C_held x2.toNatClampNeg) = 0 then (x1 + 1) else x1)), (2, .int x2)] [] 24 := by
      refine g_iinc (v := (x2 + 1)) (lv2 := [(0, .ref (ad 1)), (1, .int (if (C_held x2.toNatClampNeg) = 0 then (x1 + 1) else x1)), (2, .int (x2 + 1))]) C dX0_freeCells_24 2 rfl (by first | rfl | decide) (by decide) [1, 2, 0] rfl ?_
      refine g_goto (tgt := 4) C dX0_freeCells_27 (by decide) ?_
      exact g_lv [0, 1, 2] rfl h
    refine g_if_ne (tgt := 24) C dX0_freeCells_18 (by decide) (fun c_3 => ?_) (fun c_3 => ?_)
    · exact g_leaf (by simp only [if_neg c_3] at key; first | exact key | (simp only [if_neg c_3]; exact key) | exact absurd rfl c_3)
    · refine g_iinc (v := (x1 + 1)) (lv2 := [(0, .ref (ad 1)), (1, .int (x1 + 1)), (2, .int x2)]) C dX0_freeCells_21 1 rfl (by first | rfl | decide) (by decide) [1, 0, 2] rfl ?_
      exact g_leaf (by simp only [if_pos c_3] at key; first | exact key | (simp only [if_pos c_3]; exact key) | exact absurd rfl c_3)
def prX0_freeCells (C_size : Int32) (C_held : Nat → Int32) : Prop := ∃ n, n ≤ 36 ∧ C_size = nI n
set_option maxHeartbeats 4000000 in
set_option maxRecDepth 100000 in
theorem c_X0_freeCells (ad : Nat → Nat) (cA : Nat → ClassId) (C_size : Int32) (C_held : Nat → Int32) (hq : prX0_freeCells C_size C_held) : ∀ (l : Launch) (D : va_G), gMi (S := Unit) l yX0_freeCells wsX0_freeCells rmX0_freeCells D (gT cA) 0 0 [.ref (ad 1)] (wcX0_freeCells ad cA C_size C_held) (fun r _ => r = nI (cntA C_size.toNatClampNeg (fun c => decide (C_held c = 0)))) (w1X0_freeCells ad cA C_size C_held) := by
  intro l D
  unfold prX0_freeCells at hq
  refine g_enteri (cc := cX0_freeCells) (nL := 3) (ret := (some .int)) (by decide) rfl (Nat.le_of_ble_eq_true rfl) rfl (fun X C E => ?_)
  obtain ⟨n, hn, rfl⟩ := hq
  rw [nI_clamp (by omega)] at E
  refine sgX0_freeCells_0 C E ?_
  have loop : ∀ k, k ≤ n → atX0_freeCells_4 X ad cA (nI (cntA k (fun c => decide (C_held c = 0)))) (nI k) (nI n) C_held := by
    intro k hk
    refine up_loop (P := fun k => atX0_freeCells_4 X ad cA (nI (cntA k (fun c => decide (C_held c = 0)))) (nI k) (nI n) C_held) n ?_ (fun k hk ih => ?_) k hk
    · exact sgX0_freeCells_4 C E ⟨fun _ => rfl, fun c => absurd (i32_le_refl _) c⟩
    · refine sgX0_freeCells_4 C E ⟨fun c => absurd c (nI_ge hk (by omega)), fun _ => ⟨vp_in_nI (by omega) (by decide), ?_⟩⟩
      rw [nI_clamp (by omega), nI_1 k]
      have e : (if C_held k = 0 then (nI (cntA k (fun c => decide (C_held c = 0))) + 1) else nI (cntA k (fun c => decide (C_held c = 0)))) = nI (cntA (k + 1) (fun c => decide (C_held c = 0))) := by
        simp only [cntA]
        by_cases hc : C_held k = 0 <;> simp [hc, nI_1]
      rw [e]; exact ih
  exact loop 0 (Nat.zero_le _)


/-- the first side that leads there, if any -/
def sdA (be : Nat → Int32) (o : Nat) (v : Int32) : Nat → Nat → Int32
  | _, 0 => -1
  | s, k + 1 => if be (6 * o + s) = v then nI s else sdA be o v (s + 1) k

abbrev w1X0_sideTowards (ad : Nat → Nat) (cA : Nat → ClassId) (C_size : Int32) (C_beyond : Nat → Int32) (u : Unit) : va_W := [((ad 1), .inr (0, [.ref (ad 2), .ref (ad 3), .ref (ad 4), .ref (ad 5), .ref (ad 6), .ref (ad 7), .int C_size])), ((ad 7), .inl (cA 0, 216, .inl C_beyond))]
abbrev wcX0_sideTowards (ad : Nat → Nat) (cA : Nat → ClassId) (C_size : Int32) (C_beyond : Nat → Int32) : va_W := [((ad 1), .inr (0, [.ref (ad 2), .ref (ad 3), .ref (ad 4), .ref (ad 5), .ref (ad 6), .ref (ad 7), .int C_size])), ((ad 7), .inl (cA 0, 216, .inl C_beyond))]
def rmX0_sideTowards : Room := { frames := 0, cells := 0, slots := 0, locals := 0 }
abbrev atX0_sideTowards_0 (X : gX) (ad : Nat → Nat) (cA : Nat → ClassId) (p1 : Int32) (p2 : Int32) (C_size : Int32) (C_beyond : Nat → Int32) : Prop := gW X 0 0 [((ad 1), .inr (0, [.ref (ad 2), .ref (ad 3), .ref (ad 4), .ref (ad 5), .ref (ad 6), .ref (ad 7), .int C_size])), ((ad 7), .inl (cA 0, 216, .inl C_beyond))] 4 [(0, .ref (ad 1)), (1, .int p1), (2, .int p2)] [] 0
abbrev atX0_sideTowards_2 (X : gX) (ad : Nat → Nat) (cA : Nat → ClassId) (x1 : Int32) (x2 : Int32) (x3 : Int32) (C_size : Int32) (C_beyond : Nat → Int32) : Prop := gW X 0 0 [((ad 1), .inr (0, [.ref (ad 2), .ref (ad 3), .ref (ad 4), .ref (ad 5), .ref (ad 6), .ref (ad 7), .int C_size])), ((ad 7), .inl (cA 0, 216, .inl C_beyond))] 4 [(0, .ref (ad 1)), (1, .int x1), (2, .int x2), (3, .int x3)] [] 2
theorem giX0_sideTowards_X0 : ∀ w ∈ u_ws RX0 TX0 7, w ∈ wsX0_sideTowards := by decide +kernel
theorem gfX0_sideTowards_27 : gF wsX0_sideTowards RX0 27 0 5 RX0 TX0 7 := ⟨giX0_sideTowards_X0, by decide +kernel, rfl, by decide⟩
set_option maxHeartbeats 4000000 in
set_option maxRecDepth 100000 in
theorem sgX0_sideTowards_0 {X : gX} {ad : Nat → Nat} {cA : Nat → ClassId} {post : Int32 → (Unit) → Prop} {p1 : Int32} {p2 : Int32} {C_size : Int32} {C_beyond : Nat → Int32} (C : gC X (gT cA) cX0_sideTowards 4 RX0 wsX0_sideTowards rmX0_sideTowards) (E : gEi X (some .int) (gT cA) 0 0 post (w1X0_sideTowards ad cA C_size C_beyond)) (h : atX0_sideTowards_2 X ad cA p1 p2 (0 : Int32) C_size C_beyond) : atX0_sideTowards_0 X ad cA p1 p2 C_size C_beyond := by
  refine g_iconst C dX0_sideTowards_0 ik_0 ?_
  refine g_istore_n (lv2 := [(0, .ref (ad 1)), (1, .int p1), (2, .int p2), (3, .int (0 : Int32))]) C dX0_sideTowards_1 rfl (by decide) [1, 2, 3, 0] rfl ?_
  exact g_lv [0, 1, 2, 3] rfl h
set_option maxHeartbeats 4000000 in
set_option maxRecDepth 100000 in
theorem sgX0_sideTowards_2 {X : gX} {ad : Nat → Nat} {cA : Nat → ClassId} {post : Int32 → (Unit) → Prop} {x1 : Int32} {x2 : Int32} {x3 : Int32} {C_size : Int32} {C_beyond : Nat → Int32} (C : gC X (gT cA) cX0_sideTowards 4 RX0 wsX0_sideTowards rmX0_sideTowards) (E : gEi X (some .int) (gT cA) 0 0 post (w1X0_sideTowards ad cA C_size C_beyond)) (h : ((6 : Int32) ≤ x3 → post (-1 : Int32) ()) ∧ (¬ (6 : Int32) ≤ x3 → vp_in ((x1 * (6 : Int32)) + x3) 216 ∧ (¬ (C_beyond ((x1 * (6 : Int32)) + x3).toNatClampNeg) = x2 → atX0_sideTowards_2 X ad cA x1 x2 (x3 + 1) C_size C_beyond) ∧ ((C_beyond ((x1 * (6 : Int32)) + x3).toNatClampNeg) = x2 → post x3 ()))) : atX0_sideTowards_2 X ad cA x1 x2 x3 C_size C_beyond := by
  refine g_iload_n C dX0_sideTowards_2 rfl 3 rfl ?_
  refine g_bipush C dX0_sideTowards_3 bk_6 ?_
  refine g_icmp_ge (tgt := 31) C dX0_sideTowards_5 (by decide) (fun c_1 => ?_) (fun c_1 => ?_)
  · replace h := h.1 c_1
    refine g_iconst C dX0_sideTowards_31 ik_m1 ?_
    exact g_iret C E () h rfl dX0_sideTowards_32
  · replace h := h.2 c_1
    refine g_aload_n C dX0_sideTowards_8 rfl 0 rfl ?_
    refine g_get C gfX0_sideTowards_27 0 rfl rfl dX0_sideTowards_9 ?_
    refine g_iload_n C dX0_sideTowards_12 rfl 1 rfl ?_
    refine g_bipush C dX0_sideTowards_13 bk_6 ?_
    refine g_imul C dX0_sideTowards_15 ?_
    refine g_iload_n C dX0_sideTowards_16 rfl 3 rfl ?_
    refine g_iadd C dX0_sideTowards_17 ?_
    obtain ⟨hi_2, h⟩ := h
    refine g_iald C 1 0 rfl rfl hi_2 dX0_sideTowards_18 ?_
    refine g_iload_n C dX0_sideTowards_19 rfl 2 rfl ?_
    refine g_icmp_ne (tgt := 25) C dX0_sideTowards_20 (by decide) (fun c_3 => ?_) (fun c_3 => ?_)
    · replace h := h.1 c_3
      refine g_iinc (v := (x3 + 1)) (lv2 := [(0, .ref (ad 1)), (1, .int x1), (2, .int x2), (3, .int (x3 + 1))]) C dX0_sideTowards_25 3 rfl (by first | rfl | decide) (by decide) [1, 2, 3, 0] rfl ?_
      refine g_goto (tgt := 2) C dX0_sideTowards_28 (by decide) ?_
      exact g_lv [0, 1, 2, 3] rfl h
    · replace h := h.2 c_3
      refine g_iload_n C dX0_sideTowards_23 rfl 3 rfl ?_
      exact g_iret C E () h rfl dX0_sideTowards_24
def prX0_sideTowards (p1 : Int32) (p2 : Int32) (C_size : Int32) (C_beyond : Nat → Int32) : Prop := vp_in p1 36
set_option maxHeartbeats 4000000 in
set_option maxRecDepth 100000 in
theorem c_X0_sideTowards (ad : Nat → Nat) (cA : Nat → ClassId) (p1 : Int32) (p2 : Int32) (C_size : Int32) (C_beyond : Nat → Int32) (hq : prX0_sideTowards p1 p2 C_size C_beyond) : ∀ (l : Launch) (D : va_G), gMi (S := Unit) l yX0_sideTowards wsX0_sideTowards rmX0_sideTowards D (gT cA) 0 0 [.ref (ad 1), .int p1, .int p2] (wcX0_sideTowards ad cA C_size C_beyond) (fun r _ => r = sdA C_beyond p1.toNatClampNeg p2 0 6) (w1X0_sideTowards ad cA C_size C_beyond) := by
  intro l D
  unfold prX0_sideTowards at hq
  refine g_enteri (cc := cX0_sideTowards) (nL := 4) (ret := (some .int)) (by decide) rfl (Nat.le_of_ble_eq_true rfl) rfl (fun X C E => ?_)
  obtain ⟨o, ho, rfl⟩ := vp_in_of hq (by decide)
  rw [nI_clamp (by omega)] at E
  refine sgX0_sideTowards_0 C E ?_
  have loop : ∀ k s, s + k = 6 → sdA C_beyond o p2 s k = sdA C_beyond o p2 0 6 → atX0_sideTowards_2 X ad cA (nI o) p2 (nI s) C_size C_beyond := by
    intro k
    induction k with
    | zero =>
      intro s hs e
      have e6 : s = 6 := by omega
      refine sgX0_sideTowards_2 C E ⟨fun _ => e, fun c => absurd (by rw [e6]; exact i32_le_refl _) c⟩
    | succ k ih =>
      intro s hs e
      rw [sdA] at e
      refine sgX0_sideTowards_2 C E ⟨fun c => absurd c (nI_ge (b := 6) (by omega) (by decide)), fun _ => ?_⟩
      have e2 : nI o * (6 : Int32) + nI s = nI (6 * o + s) := by show nI o * nI 6 + _ = _; rw [pk_mul, nI_add, Nat.mul_comm]
      rw [e2, nI_clamp (by omega), nI_1]
      refine ⟨vp_in_nI (by omega) (by decide), fun c => ?_, fun c => ?_⟩
      · rw [if_neg c] at e; exact ih (s + 1) (by omega) e
      · rw [if_pos c] at e; exact e
  exact loop 6 0 rfl rfl


abbrev w1X0_ownCost (ad : Nat → Nat) (cA : Nat → ClassId) (C_size : Int32) (C_prices : Nat → Int32) (C_rules : Nat → Int32) (C_beyond : Nat → Int32) (u : Unit) : va_W := [((ad 1), .inr (0, [.ref (ad 2), .ref (ad 3), .ref (ad 4), .ref (ad 5), .ref (ad 6), .ref (ad 7), .int C_size])), ((ad 4), .inl (cA 0, 36, .inl C_prices)), ((ad 5), .inl (cA 0, 7, .inl C_rules)), ((ad 7), .inl (cA 0, 216, .inl C_beyond))]
abbrev wcX0_ownCost (ad : Nat → Nat) (cA : Nat → ClassId) (C_size : Int32) (C_prices : Nat → Int32) (C_rules : Nat → Int32) (C_beyond : Nat → Int32) : va_W := [((ad 1), .inr (0, [.ref (ad 2), .ref (ad 3), .ref (ad 4), .ref (ad 5), .ref (ad 6), .ref (ad 7), .int C_size])), ((ad 4), .inl (cA 0, 36, .inl C_prices)), ((ad 5), .inl (cA 0, 7, .inl C_rules)), ((ad 7), .inl (cA 0, 216, .inl C_beyond))]
def rmX0_ownCost : Room := { frames := 0, cells := 0, slots := 0, locals := 0 }
abbrev atX0_ownCost_0 (X : gX) (ad : Nat → Nat) (cA : Nat → ClassId) (p1 : Int32) (C_size : Int32) (C_prices : Nat → Int32) (C_rules : Nat → Int32) (C_beyond : Nat → Int32) : Prop := gW X 0 0 [((ad 1), .inr (0, [.ref (ad 2), .ref (ad 3), .ref (ad 4), .ref (ad 5), .ref (ad 6), .ref (ad 7), .int C_size])), ((ad 4), .inl (cA 0, 36, .inl C_prices)), ((ad 5), .inl (cA 0, 7, .inl C_rules)), ((ad 7), .inl (cA 0, 216, .inl C_beyond))] 4 [(0, .ref (ad 1)), (1, .int p1)] [] 0
abbrev atX0_ownCost_9 (X : gX) (ad : Nat → Nat) (cA : Nat → ClassId) (x1 : Int32) (x2 : Int32) (x3 : Int32) (C_size : Int32) (C_prices : Nat → Int32) (C_rules : Nat → Int32) (C_beyond : Nat → Int32) : Prop := gW X 0 0 [((ad 1), .inr (0, [.ref (ad 2), .ref (ad 3), .ref (ad 4), .ref (ad 5), .ref (ad 6), .ref (ad 7), .int C_size])), ((ad 4), .inl (cA 0, 36, .inl C_prices)), ((ad 5), .inl (cA 0, 7, .inl C_rules)), ((ad 7), .inl (cA 0, 216, .inl C_beyond))] 4 [(0, .ref (ad 1)), (1, .int x1), (2, .int x2), (3, .int x3)] [] 9
theorem giX0_ownCost_X0 : ∀ w ∈ u_ws RX0 TX0 7, w ∈ wsX0_ownCost := by decide +kernel
theorem gfX0_ownCost_18 : gF wsX0_ownCost RX0 18 0 2 RX0 TX0 7 := ⟨giX0_ownCost_X0, by decide +kernel, rfl, by decide⟩
theorem gfX0_ownCost_27 : gF wsX0_ownCost RX0 27 0 5 RX0 TX0 7 := ⟨giX0_ownCost_X0, by decide +kernel, rfl, by decide⟩
theorem gfX0_ownCost_21 : gF wsX0_ownCost RX0 21 0 3 RX0 TX0 7 := ⟨giX0_ownCost_X0, by decide +kernel, rfl, by decide⟩
set_option maxHeartbeats 4000000 in
set_option maxRecDepth 100000 in
theorem sgX0_ownCost_0 {X : gX} {ad : Nat → Nat} {cA : Nat → ClassId} {post : Int32 → (Unit) → Prop} {p1 : Int32} {C_size : Int32} {C_prices : Nat → Int32} {C_rules : Nat → Int32} {C_beyond : Nat → Int32} (C : gC X (gT cA) cX0_ownCost 4 RX0 wsX0_ownCost rmX0_ownCost) (E : gEi X (some .int) (gT cA) 0 0 post (w1X0_ownCost ad cA C_size C_prices C_rules C_beyond)) (h : vp_in p1 36 ∧ atX0_ownCost_9 X ad cA p1 (C_prices p1.toNatClampNeg) (0 : Int32) C_size C_prices C_rules C_beyond) : atX0_ownCost_0 X ad cA p1 C_size C_prices C_rules C_beyond := by
  refine g_aload_n C dX0_ownCost_0 rfl 0 rfl ?_
  refine g_get C gfX0_ownCost_18 0 rfl rfl dX0_ownCost_1 ?_
  refine g_iload_n C dX0_ownCost_4 rfl 1 rfl ?_
  obtain ⟨hi_1, h⟩ := h
  refine g_iald C 1 0 rfl rfl hi_1 dX0_ownCost_5 ?_
  refine g_istore_n (lv2 := [(0, .ref (ad 1)), (1, .int p1), (2, .int (C_prices p1.toNatClampNeg))]) C dX0_ownCost_6 rfl (by decide) [1, 2, 0] rfl ?_
  refine g_iconst C dX0_ownCost_7 ik_0 ?_
  refine g_istore_n (lv2 := [(0, .ref (ad 1)), (1, .int p1), (2, .int (C_prices p1.toNatClampNeg)), (3, .int (0 : Int32))]) C dX0_ownCost_8 rfl (by decide) [1, 2, 3, 0] rfl ?_
  exact g_lv [0, 1, 2, 3] rfl h
set_option maxHeartbeats 4000000 in
set_option maxRecDepth 100000 in
theorem sgX0_ownCost_9 {X : gX} {ad : Nat → Nat} {cA : Nat → ClassId} {post : Int32 → (Unit) → Prop} {x1 : Int32} {x2 : Int32} {x3 : Int32} {C_size : Int32} {C_prices : Nat → Int32} {C_rules : Nat → Int32} {C_beyond : Nat → Int32} (C : gC X (gT cA) cX0_ownCost 4 RX0 wsX0_ownCost rmX0_ownCost) (E : gEi X (some .int) (gT cA) 0 0 post (w1X0_ownCost ad cA C_size C_prices C_rules C_beyond)) (h : ((6 : Int32) ≤ x3 → post x2 ()) ∧ (¬ (6 : Int32) ≤ x3 → vp_in ((x1 * (6 : Int32)) + x3) 216 ∧ ((¬ (C_beyond ((x1 * (6 : Int32)) + x3).toNatClampNeg) = (-1 : Int32) → True) ∧ ((C_beyond ((x1 * (6 : Int32)) + x3).toNatClampNeg) = (-1 : Int32) → vp_in (3 : Int32) 7)) ∧ atX0_ownCost_9 X ad cA x1 (if (C_beyond ((x1 * (6 : Int32)) + x3).toNatClampNeg) = (-1 : Int32) then (x2 + (C_rules (3 : Int32).toNatClampNeg)) else x2) (x3 + 1) C_size C_prices C_rules C_beyond)) : atX0_ownCost_9 X ad cA x1 x2 x3 C_size C_prices C_rules C_beyond := by
  refine g_iload_n C dX0_ownCost_9 rfl 3 rfl ?_
  refine g_bipush C dX0_ownCost_10 bk_6 ?_
  refine g_icmp_ge (tgt := 45) C dX0_ownCost_12 (by decide) (fun c_2 => ?_) (fun c_2 => ?_)
  · replace h := h.1 c_2
    refine g_iload_n C dX0_ownCost_45 rfl 2 rfl ?_
    exact g_iret C E () h rfl dX0_ownCost_46
  · replace h := h.2 c_2
    refine g_aload_n C dX0_ownCost_15 rfl 0 rfl ?_
    refine g_get C gfX0_ownCost_27 0 rfl rfl dX0_ownCost_16 ?_
    refine g_iload_n C dX0_ownCost_19 rfl 1 rfl ?_
    refine g_bipush C dX0_ownCost_20 bk_6 ?_
    refine g_imul C dX0_ownCost_22 ?_
    refine g_iload_n C dX0_ownCost_23 rfl 3 rfl ?_
    refine g_iadd C dX0_ownCost_24 ?_
    obtain ⟨hi_3, h⟩ := h
    refine g_iald C 3 0 rfl rfl hi_3 dX0_ownCost_25 ?_
    refine g_iconst C dX0_ownCost_26 ik_m1 ?_
    obtain ⟨hr_39, h⟩ := h
    have key : gW X 0 0 [((ad 1), .inr (0, [.ref (ad 2), .ref (ad 3), .ref (ad 4), .ref (ad 5), .ref (ad 6), .ref (ad 7), .int C_size])), ((ad 4), .inl (cA 0, 36, .inl C_prices)), ((ad 5), .inl (cA 0, 7, .inl C_rules)), ((ad 7), .inl (cA 0, 216, .inl C_beyond))] 4 [(0, .ref (ad 1)), (1, .int x1), (2, .int (if (C_beyond ((x1 * (6 : Int32)) + x3).toNatClampNeg) = (-1 : Int32) then (x2 + (C_rules (3 : Int32).toNatClampNeg)) else x2)), (3, .int x3)] [] 39 := by
      refine g_iinc (v := (x3 + 1)) (lv2 := [(0, .ref (ad 1)), (1, .int x1), (2, .int (if (C_beyond ((x1 * (6 : Int32)) + x3).toNatClampNeg) = (-1 : Int32) then (x2 + (C_rules (3 : Int32).toNatClampNeg)) else x2)), (3, .int (x3 + 1))]) C dX0_ownCost_39 3 rfl (by first | rfl | decide) (by decide) [1, 2, 3, 0] rfl ?_
      refine g_goto (tgt := 9) C dX0_ownCost_42 (by decide) ?_
      exact g_lv [0, 1, 2, 3] rfl h
    replace h := hr_39
    refine g_icmp_ne (tgt := 39) C dX0_ownCost_27 (by decide) (fun c_4 => ?_) (fun c_4 => ?_)
    · replace h := h.1 c_4
      exact g_leaf (by simp only [if_neg c_4] at key; first | exact key | (simp only [if_neg c_4]; exact key) | exact absurd rfl c_4)
    · replace h := h.2 c_4
      refine g_iload_n C dX0_ownCost_30 rfl 2 rfl ?_
      refine g_aload_n C dX0_ownCost_31 rfl 0 rfl ?_
      refine g_get C gfX0_ownCost_21 0 rfl rfl dX0_ownCost_32 ?_
      refine g_iconst C dX0_ownCost_35 ik_3 ?_
      have hi_5 := h
      refine g_iald C 2 0 rfl rfl hi_5 dX0_ownCost_36 ?_
      refine g_iadd C dX0_ownCost_37 ?_
      refine g_istore_n (lv2 := [(0, .ref (ad 1)), (1, .int x1), (2, .int (x2 + (C_rules (3 : Int32).toNatClampNeg))), (3, .int x3)]) C dX0_ownCost_38 rfl (by decide) [1, 2, 0, 3] rfl ?_
      exact g_leaf (by simp only [if_pos c_4] at key; first | exact key | (simp only [if_pos c_4]; exact key) | exact absurd rfl c_4)
def prX0_ownCost (p1 : Int32) (C_size : Int32) (C_prices : Nat → Int32) (C_rules : Nat → Int32) (C_beyond : Nat → Int32) : Prop := ∃ c, c < 36 ∧ p1 = nI c
set_option maxHeartbeats 4000000 in
set_option maxRecDepth 100000 in
theorem c_X0_ownCost (ad : Nat → Nat) (cA : Nat → ClassId) (p1 : Int32) (C_size : Int32) (C_prices : Nat → Int32) (C_rules : Nat → Int32) (C_beyond : Nat → Int32) (hq : prX0_ownCost p1 C_size C_prices C_rules C_beyond) : ∀ (l : Launch) (D : va_G), gMi (S := Unit) l yX0_ownCost wsX0_ownCost rmX0_ownCost D (gT cA) 0 0 [.ref (ad 1), .int p1] (wcX0_ownCost ad cA C_size C_prices C_rules C_beyond) (fun r _ => r = iI (ownA C_prices C_rules C_beyond p1.toNatClampNeg)) (w1X0_ownCost ad cA C_size C_prices C_rules C_beyond) := by
  intro l D
  unfold prX0_ownCost at hq
  refine g_enteri (cc := cX0_ownCost) (nL := 4) (ret := (some .int)) (by decide) rfl (Nat.le_of_ble_eq_true rfl) rfl (fun X C E => ?_)
  obtain ⟨c, hc, rfl⟩ := hq
  rw [nI_clamp (by omega)] at E
  refine sgX0_ownCost_0 C E ⟨vp_in_nI hc (by decide), ?_⟩
  rw [nI_clamp (by omega)]
  have loop : ∀ s, s ≤ 6 → atX0_ownCost_9 X ad cA (nI c) (iI ((C_prices c).toInt + sumZ (fun s => if C_beyond (6 * c + s) = -1 then (C_rules 3).toInt else 0) s)) (nI s) C_size C_prices C_rules C_beyond := by
    intro s hs
    refine up_loop (P := fun s => atX0_ownCost_9 X ad cA (nI c) (iI ((C_prices c).toInt + sumZ (fun s => if C_beyond (6 * c + s) = -1 then (C_rules 3).toInt else 0) s)) (nI s) C_size C_prices C_rules C_beyond) 6 ?_ (fun s hs ih => ?_) s hs
    · exact sgX0_ownCost_9 C E ⟨fun _ => rfl, fun c => absurd (i32_le_refl _) c⟩
    · refine sgX0_ownCost_9 C E ⟨fun c => absurd c (nI_ge (b := 6) hs (by decide)), fun _ => ?_⟩
      have e2 : nI c * (6 : Int32) + nI s = nI (6 * c + s) := by show nI c * nI 6 + _ = _; rw [pk_mul, nI_add, Nat.mul_comm]
      rw [e2, nI_clamp (by omega), nI_1]
      refine ⟨vp_in_nI (by omega) (by decide), ⟨fun _ => trivial, fun _ => vi_3_7⟩, ?_⟩
      have e3 : (if C_beyond (6 * c + s) = -1 then iI ((C_prices c).toInt + sumZ (fun s => if C_beyond (6 * c + s) = -1 then (C_rules 3).toInt else 0) s) + C_rules (3 : Int32).toNatClampNeg else iI ((C_prices c).toInt + sumZ (fun s => if C_beyond (6 * c + s) = -1 then (C_rules 3).toInt else 0) s)) = iI ((C_prices c).toInt + sumZ (fun s => if C_beyond (6 * c + s) = -1 then (C_rules 3).toInt else 0) (s + 1)) := by
        simp only [sumZ]
        by_cases hb : C_beyond (6 * c + s) = -1
        · rw [if_pos hb, if_pos hb, ← iI_toInt (C_rules (3 : Int32).toNatClampNeg), iI_add, Int.add_assoc]; rfl
        · rw [if_neg hb, if_neg hb, Int.add_zero]
      rw [e3]; exact ih
  have h0 := loop 0 (Nat.zero_le _)
  rw [sumZ, Int.add_zero, iI_toInt] at h0
  exact h0


abbrev w1X0_seamsGrowth (ad : Nat → Nat) (cA : Nat → ClassId) (C_size : Int32) (C_rules : Nat → Int32) (C_places : Nat → Int32) (C_beyond : Nat → Int32) (u : Unit) : va_W := [((ad 1), .inr (0, [.ref (ad 2), .ref (ad 3), .ref (ad 4), .ref (ad 5), .ref (ad 6), .ref (ad 7), .int C_size])), ((ad 5), .inl (cA 0, 7, .inl C_rules)), ((ad 6), .inl (cA 0, 108, .inl C_places)), ((ad 7), .inl (cA 0, 216, .inl C_beyond))]
abbrev wcX0_seamsGrowth (ad : Nat → Nat) (cA : Nat → ClassId) (C_size : Int32) (C_rules : Nat → Int32) (C_places : Nat → Int32) (C_beyond : Nat → Int32) : va_W := [((ad 1), .inr (0, [.ref (ad 2), .ref (ad 3), .ref (ad 4), .ref (ad 5), .ref (ad 6), .ref (ad 7), .int C_size])), ((ad 5), .inl (cA 0, 7, .inl C_rules)), ((ad 6), .inl (cA 0, 108, .inl C_places)), ((ad 7), .inl (cA 0, 216, .inl C_beyond))]
def rmX0_seamsGrowth : Room := { frames := 2, cells := 0, slots := 0, locals := 39 }
abbrev atX0_seamsGrowth_0 (X : gX) (ad : Nat → Nat) (cA : Nat → ClassId) (p1 : Int64) (p2 : Int32) (C_size : Int32) (C_rules : Nat → Int32) (C_places : Nat → Int32) (C_beyond : Nat → Int32) : Prop := gW X 0 0 [((ad 1), .inr (0, [.ref (ad 2), .ref (ad 3), .ref (ad 4), .ref (ad 5), .ref (ad 6), .ref (ad 7), .int C_size])), ((ad 5), .inl (cA 0, 7, .inl C_rules)), ((ad 6), .inl (cA 0, 108, .inl C_places)), ((ad 7), .inl (cA 0, 216, .inl C_beyond))] 8 [(0, .ref (ad 1)), (1, .long p1), (3, .int p2)] [] 0
abbrev atX0_seamsGrowth_6 (X : gX) (ad : Nat → Nat) (cA : Nat → ClassId) (x1 : Int64) (x3 : Int32) (x4 : Int32) (x5 : Int32) (C_size : Int32) (C_rules : Nat → Int32) (C_places : Nat → Int32) (C_beyond : Nat → Int32) : Prop := gW X 0 0 [((ad 1), .inr (0, [.ref (ad 2), .ref (ad 3), .ref (ad 4), .ref (ad 5), .ref (ad 6), .ref (ad 7), .int C_size])), ((ad 5), .inl (cA 0, 7, .inl C_rules)), ((ad 6), .inl (cA 0, 108, .inl C_places)), ((ad 7), .inl (cA 0, 216, .inl C_beyond))] 8 [(0, .ref (ad 1)), (1, .long x1), (3, .int x3), (4, .int x4), (5, .int x5)] [] 6
theorem giX0_seamsGrowth_X0 : ∀ w ∈ u_ws RX0 TX0 7, w ∈ wsX0_seamsGrowth := by decide +kernel
theorem gfX0_seamsGrowth_27 : gF wsX0_seamsGrowth RX0 27 0 5 RX0 TX0 7 := ⟨giX0_seamsGrowth_X0, by decide +kernel, rfl, by decide⟩
theorem gfX0_seamsGrowth_21 : gF wsX0_seamsGrowth RX0 21 0 3 RX0 TX0 7 := ⟨giX0_seamsGrowth_X0, by decide +kernel, rfl, by decide⟩
set_option maxHeartbeats 4000000 in
set_option maxRecDepth 100000 in
theorem sgX0_seamsGrowth_0 {X : gX} {ad : Nat → Nat} {cA : Nat → ClassId} {post : Int32 → (Unit) → Prop} {p1 : Int64} {p2 : Int32} {C_size : Int32} {C_rules : Nat → Int32} {C_places : Nat → Int32} {C_beyond : Nat → Int32} (C : gC X (gT cA) cX0_seamsGrowth 8 RX0 wsX0_seamsGrowth rmX0_seamsGrowth) (E : gEi X (some .int) (gT cA) 0 0 post (w1X0_seamsGrowth ad cA C_size C_rules C_places C_beyond)) (h : atX0_seamsGrowth_6 X ad cA p1 p2 (0 : Int32) (0 : Int32) C_size C_rules C_places C_beyond) : atX0_seamsGrowth_0 X ad cA p1 p2 C_size C_rules C_places C_beyond := by
  refine g_iconst C dX0_seamsGrowth_0 ik_0 ?_
  refine g_istore (lv2 := [(0, .ref (ad 1)), (1, .long p1), (3, .int p2), (4, .int (0 : Int32))]) C dX0_seamsGrowth_1 (by decide) [1, 2, 3, 0] rfl ?_
  refine g_iconst C dX0_seamsGrowth_3 ik_0 ?_
  refine g_istore (lv2 := [(0, .ref (ad 1)), (1, .long p1), (3, .int p2), (4, .int (0 : Int32)), (5, .int (0 : Int32))]) C dX0_seamsGrowth_4 (by decide) [1, 2, 3, 4, 0] rfl ?_
  exact g_lv [0, 1, 2, 3, 4] rfl h
set_option maxHeartbeats 4000000 in
set_option maxRecDepth 100000 in
theorem sgX0_seamsGrowth_6 {X : gX} {ad : Nat → Nat} {cA : Nat → ClassId} {post : Int32 → (Unit) → Prop} {x1 : Int64} {x3 : Int32} {x4 : Int32} {x5 : Int32} {C_size : Int32} {C_rules : Nat → Int32} {C_places : Nat → Int32} {C_beyond : Nat → Int32} (C : gC X (gT cA) cX0_seamsGrowth 8 RX0 wsX0_seamsGrowth rmX0_seamsGrowth) (E : gEi X (some .int) (gT cA) 0 0 post (w1X0_seamsGrowth ad cA C_size C_rules C_places C_beyond)) (h : ((6 : Int32) ≤ x5 → post x4 ()) ∧ (¬ (6 : Int32) ≤ x5 → vp_in ((x3 * (6 : Int32)) + x5) 216 ∧ ∀ x6_3 : Int32, x6_3 = (C_beyond ((x3 * (6 : Int32)) + x5).toNatClampNeg) → ((x6_3 = (-1 : Int32) → True) ∧ (¬ x6_3 = (-1 : Int32) → vp_in (6 : Int32) 7 ∧ prX0_seamCost (C_rules (6 : Int32).toNatClampNeg) x3 x5 C_size C_rules C_places)) ∧ atX0_seamsGrowth_6 X ad cA x1 x3 (if x6_3 = (-1 : Int32) then x4 else (x4 + (if (fnX0_holds x1 x6_3) = true then (-(fnX0_seamCost (C_rules (6 : Int32).toNatClampNeg) x3 x5 C_size C_rules C_places)) else (fnX0_seamCost (C_rules (6 : Int32).toNatClampNeg) x3 x5 C_size C_rules C_places)))) (x5 + 1) C_size C_rules C_places C_beyond)) : atX0_seamsGrowth_6 X ad cA x1 x3 x4 x5 C_size C_rules C_places C_beyond := by
  refine g_iload C dX0_seamsGrowth_6 4 rfl ?_
  refine g_bipush C dX0_seamsGrowth_8 bk_6 ?_
  refine g_icmp_ge (tgt := 77) C dX0_seamsGrowth_10 (by decide) (fun c_1 => ?_) (fun c_1 => ?_)
  · replace h := h.1 c_1
    refine g_iload C dX0_seamsGrowth_77 3 rfl ?_
    exact g_iret C E () h rfl dX0_seamsGrowth_79
  · replace h := h.2 c_1
    refine g_aload_n C dX0_seamsGrowth_13 rfl 0 rfl ?_
    refine g_get C gfX0_seamsGrowth_27 0 rfl rfl dX0_seamsGrowth_14 ?_
    refine g_iload_n C dX0_seamsGrowth_17 rfl 2 rfl ?_
    refine g_bipush C dX0_seamsGrowth_18 bk_6 ?_
    refine g_imul C dX0_seamsGrowth_20 ?_
    refine g_iload C dX0_seamsGrowth_21 4 rfl ?_
    refine g_iadd C dX0_seamsGrowth_23 ?_
    obtain ⟨hi_2, h⟩ := h
    refine g_iald C 3 0 rfl rfl hi_2 dX0_seamsGrowth_24 ?_
    refine g_topi (fun x6_3 ex6_3 => ?_)
    replace h := h x6_3 ex6_3
    refine g_istore (lv2 := [(0, .ref (ad 1)), (1, .long x1), (3, .int x3), (4, .int x4), (5, .int x5), (6, .int x6_3)]) C dX0_seamsGrowth_25 (by decide) [1, 2, 3, 4, 5, 0] rfl ?_
    refine g_iload C dX0_seamsGrowth_27 5 rfl ?_
    refine g_iconst C dX0_seamsGrowth_29 ik_m1 ?_
    obtain ⟨hr_71, h⟩ := h
    have key : gW X 0 0 [((ad 1), .inr (0, [.ref (ad 2), .ref (ad 3), .ref (ad 4), .ref (ad 5), .ref (ad 6), .ref (ad 7), .int C_size])), ((ad 5), .inl (cA 0, 7, .inl C_rules)), ((ad 6), .inl (cA 0, 108, .inl C_places)), ((ad 7), .inl (cA 0, 216, .inl C_beyond))] 8 [(0, .ref (ad 1)), (1, .long x1), (3, .int x3), (4, .int (if x6_3 = (-1 : Int32) then x4 else (x4 + (if (fnX0_holds x1 x6_3) = true then (-(fnX0_seamCost (C_rules (6 : Int32).toNatClampNeg) x3 x5 C_size C_rules C_places)) else (fnX0_seamCost (C_rules (6 : Int32).toNatClampNeg) x3 x5 C_size C_rules C_places))))), (5, .int x5), (6, .int x6_3)] [] 71 := by
      refine g_iinc (v := (x5 + 1)) (lv2 := [(0, .ref (ad 1)), (1, .long x1), (3, .int x3), (4, .int (if x6_3 = (-1 : Int32) then x4 else (x4 + (if (fnX0_holds x1 x6_3) = true then (-(fnX0_seamCost (C_rules (6 : Int32).toNatClampNeg) x3 x5 C_size C_rules C_places)) else (fnX0_seamCost (C_rules (6 : Int32).toNatClampNeg) x3 x5 C_size C_rules C_places))))), (5, .int (x5 + 1)), (6, .int x6_3)]) C dX0_seamsGrowth_71 4 rfl (by first | rfl | decide) (by decide) [1, 2, 3, 4, 0, 5] rfl ?_
      refine g_goto (tgt := 6) C dX0_seamsGrowth_74 (by decide) ?_
      exact g_lv [0, 1, 2, 3, 4] rfl h
    replace h := hr_71
    refine g_icmp_eq (tgt := 71) C dX0_seamsGrowth_30 (by decide) (fun c_4 => ?_) (fun c_4 => ?_)
    · replace h := h.1 c_4
      exact g_leaf (by simp only [if_pos c_4] at key; first | exact key | (simp only [if_pos c_4]; exact key) | exact absurd rfl c_4)
    · replace h := h.2 c_4
      refine g_aload_n C dX0_seamsGrowth_33 rfl 0 rfl ?_
      refine g_aload_n C dX0_seamsGrowth_34 rfl 0 rfl ?_
      refine g_get C gfX0_seamsGrowth_21 0 rfl rfl dX0_seamsGrowth_35 ?_
      refine g_bipush C dX0_seamsGrowth_38 bk_6 ?_
      obtain ⟨hi_5, h⟩ := h
      refine g_iald C 1 0 rfl rfl hi_5 dX0_seamsGrowth_40 ?_
      refine g_iload_n C dX0_seamsGrowth_41 rfl 2 rfl ?_
      refine g_iload C dX0_seamsGrowth_42 4 rfl ?_
      have hi_6 := h
      refine g_callVi (wr := [((ad 7), .inl (cA 0, 216, .inl C_beyond))]) C (c_X0_seamCost ad cA (C_rules (6 : Int32).toNatClampNeg) x3 x5 C_size C_rules C_places hi_6) gX0_seamsGrowth_X0_seamCost rfl hde_X0_seamCost ⟨rfl, rfl⟩ (by decide) (by decide) [0, 1, 2] [3] [1, 2, 3, 0] rfl rfl rfl rfl (by decide) rfl (ws2 := fun u => [((ad 1), .inr (0, [.ref (ad 2), .ref (ad 3), .ref (ad 4), .ref (ad 5), .ref (ad 6), .ref (ad 7), .int C_size])), ((ad 5), .inl (cA 0, 7, .inl C_rules)), ((ad 6), .inl (cA 0, 108, .inl C_places)), ((ad 7), .inl (cA 0, 216, .inl C_beyond))]) (fun _ => rfl) 0 0 rfl rfl rfl (rest := []) rfl (Nat.le_of_ble_eq_true rfl) dX0_seamsGrowth_44 (fun r_7 u_7 hp_7 => ?_)
      subst hp_7
      change gW X 0 0 [((ad 1), .inr (0, [.ref (ad 2), .ref (ad 3), .ref (ad 4), .ref (ad 5), .ref (ad 6), .ref (ad 7), .int C_size])), ((ad 5), .inl (cA 0, 7, .inl C_rules)), ((ad 6), .inl (cA 0, 108, .inl C_places)), ((ad 7), .inl (cA 0, 216, .inl C_beyond))] 8 [(0, .ref (ad 1)), (1, .long x1), (3, .int x3), (4, .int x4), (5, .int x5), (6, .int x6_3)] [.int (fnX0_seamCost (C_rules (6 : Int32).toNatClampNeg) x3 x5 C_size C_rules C_places)] 47
      refine g_istore (lv2 := [(0, .ref (ad 1)), (1, .long x1), (3, .int x3), (4, .int x4), (5, .int x5), (6, .int x6_3), (7, .int (fnX0_seamCost (C_rules (6 : Int32).toNatClampNeg) x3 x5 C_size C_rules C_places))]) C dX0_seamsGrowth_47 (by decide) [1, 2, 3, 4, 5, 6, 0] rfl ?_
      refine g_iload C dX0_seamsGrowth_49 3 rfl ?_
      refine g_lload_n C dX0_seamsGrowth_51 rfl 1 rfl ?_
      refine g_iload C dX0_seamsGrowth_52 5 rfl ?_
      refine g_callSi (b := 0) (wr := [((ad 1), .inr (0, [.ref (ad 2), .ref (ad 3), .ref (ad 4), .ref (ad 5), .ref (ad 6), .ref (ad 7), .int C_size])), ((ad 5), .inl (cA 0, 7, .inl C_rules)), ((ad 6), .inl (cA 0, 108, .inl C_places)), ((ad 7), .inl (cA 0, 216, .inl C_beyond))]) C (c_X0_holds ad cA x1 x6_3) gX0_seamsGrowth_X0_holds rfl hde_X0_holds ⟨rfl, rfl⟩ (by decide) (by decide) [] [0, 1, 2, 3] [0, 1, 2, 3] rfl rfl rfl rfl (by decide) rfl (ws2 := fun u => [((ad 1), .inr (0, [.ref (ad 2), .ref (ad 3), .ref (ad 4), .ref (ad 5), .ref (ad 6), .ref (ad 7), .int C_size])), ((ad 5), .inl (cA 0, 7, .inl C_rules)), ((ad 6), .inl (cA 0, 108, .inl C_places)), ((ad 7), .inl (cA 0, 216, .inl C_beyond))]) (fun _ => rfl) (rest := [.int x4]) rfl (Nat.le_of_ble_eq_true rfl) dX0_seamsGrowth_54 (fun r_8 u_8 hp_8 => ?_)
      subst hp_8
      change gW X 0 0 [((ad 1), .inr (0, [.ref (ad 2), .ref (ad 3), .ref (ad 4), .ref (ad 5), .ref (ad 6), .ref (ad 7), .int C_size])), ((ad 5), .inl (cA 0, 7, .inl C_rules)), ((ad 6), .inl (cA 0, 108, .inl C_places)), ((ad 7), .inl (cA 0, 216, .inl C_beyond))] 8 [(0, .ref (ad 1)), (1, .long x1), (3, .int x3), (4, .int x4), (5, .int x5), (6, .int x6_3), (7, .int (fnX0_seamCost (C_rules (6 : Int32).toNatClampNeg) x3 x5 C_size C_rules C_places))] [.int (bI (fnX0_holds x1 x6_3)), .int x4] 57
      have key : gW X 0 0 [((ad 1), .inr (0, [.ref (ad 2), .ref (ad 3), .ref (ad 4), .ref (ad 5), .ref (ad 6), .ref (ad 7), .int C_size])), ((ad 5), .inl (cA 0, 7, .inl C_rules)), ((ad 6), .inl (cA 0, 108, .inl C_places)), ((ad 7), .inl (cA 0, 216, .inl C_beyond))] 8 [(0, .ref (ad 1)), (1, .long x1), (3, .int x3), (4, .int x4), (5, .int x5), (6, .int x6_3), (7, .int (fnX0_seamCost (C_rules (6 : Int32).toNatClampNeg) x3 x5 C_size C_rules C_places))] [.int (if (fnX0_holds x1 x6_3) = true then (-(fnX0_seamCost (C_rules (6 : Int32).toNatClampNeg) x3 x5 C_size C_rules C_places)) else (fnX0_seamCost (C_rules (6 : Int32).toNatClampNeg) x3 x5 C_size C_rules C_places)), .int x4] 68 := by
        refine g_iadd C dX0_seamsGrowth_68 ?_
        refine g_istore (lv2 := [(0, .ref (ad 1)), (1, .long x1), (3, .int x3), (4, .int (x4 + (if (fnX0_holds x1 x6_3) = true then (-(fnX0_seamCost (C_rules (6 : Int32).toNatClampNeg) x3 x5 C_size C_rules C_places)) else (fnX0_seamCost (C_rules (6 : Int32).toNatClampNeg) x3 x5 C_size C_rules C_places)))), (5, .int x5), (6, .int x6_3), (7, .int (fnX0_seamCost (C_rules (6 : Int32).toNatClampNeg) x3 x5 C_size C_rules C_places))]) C dX0_seamsGrowth_69 (by decide) [1, 2, 3, 0, 4, 5, 6] rfl ?_
        exact g_lv [0, 1, 2, 3, 4, 5] rfl (by simp only [if_neg c_4] at key; first | exact key | (simp only [if_neg c_4]; exact key))
      refine g_ifeq_b (tgt := 66) C dX0_seamsGrowth_57 (by decide) (fun c_9 => ?_) (fun c_9 => ?_)
      · refine g_iload C dX0_seamsGrowth_66 6 rfl ?_
        exact g_leaf (by simp only [if_neg (show ¬ (fnX0_holds x1 x6_3) = true from by rw [c_9]; decide)] at key; first | exact key | (simp only [if_neg (show ¬ (fnX0_holds x1 x6_3) = true from by rw [c_9]; decide)]; exact key))
      · refine g_iload C dX0_seamsGrowth_60 6 rfl ?_
        refine g_ineg C dX0_seamsGrowth_62 ?_
        refine g_goto (tgt := 68) C dX0_seamsGrowth_63 (by decide) ?_
        exact g_leaf (by simp only [if_pos c_9] at key; first | exact key | (simp only [if_pos c_9]; exact key) | exact absurd rfl c_9)
def prX0_seamsGrowth (p1 : Int64) (p2 : Int32) (C_size : Int32) (C_rules : Nat → Int32) (C_places : Nat → Int32) (C_beyond : Nat → Int32) : Prop := ∃ n c, grOK n C_beyond C_places ∧ ruOK C_rules ∧ c < n ∧ p2 = nI c
set_option maxHeartbeats 4000000 in
set_option maxRecDepth 100000 in
theorem c_X0_seamsGrowth (ad : Nat → Nat) (cA : Nat → ClassId) (p1 : Int64) (p2 : Int32) (C_size : Int32) (C_rules : Nat → Int32) (C_places : Nat → Int32) (C_beyond : Nat → Int32) (hq : prX0_seamsGrowth p1 p2 C_size C_rules C_places C_beyond) : ∀ (l : Launch) (D : va_G), gMi (S := Unit) l yX0_seamsGrowth wsX0_seamsGrowth rmX0_seamsGrowth D (gT cA) 0 0 [.ref (ad 1), .long p1, .int p2] (wcX0_seamsGrowth ad cA C_size C_rules C_places C_beyond) (fun r _ => r = iI (grwA C_rules C_places C_beyond (sb p1) p2.toNatClampNeg)) (w1X0_seamsGrowth ad cA C_size C_rules C_places C_beyond) := by
  intro l D
  unfold prX0_seamsGrowth at hq
  refine g_enteri (cc := cX0_seamsGrowth) (nL := 8) (ret := (some .int)) (by decide) rfl (Nat.le_of_ble_eq_true rfl) rfl (fun X C E => ?_)
  obtain ⟨n, c, hg, hr, hc, rfl⟩ := hq
  rw [nI_clamp (by have := hg.2.1; omega)] at E
  obtain ⟨kd, hkd, ekd⟩ := hr.2.2.2
  have hn := hg.2.1
  obtain ⟨hpl, hbe⟩ := hg.2.2 c hc
  refine sgX0_seamsGrowth_0 C E ?_
  generalize ht : (fun s => if C_beyond (6 * c + s) = -1 then (0 : Int) else if sb p1 (C_beyond (6 * c + s)).toNatClampNeg = true then -cwA C_rules C_places (C_rules 6).toNatClampNeg c s else cwA C_rules C_places (C_rules 6).toNatClampNeg c s) = t at E
  have loop : ∀ s, s ≤ 6 → atX0_seamsGrowth_6 X ad cA p1 (nI c) (iI (sumZ t s)) (nI s) C_size C_rules C_places C_beyond := by
    intro s hs
    refine up_loop (P := fun s => atX0_seamsGrowth_6 X ad cA p1 (nI c) (iI (sumZ t s)) (nI s) C_size C_rules C_places C_beyond) 6 ?_ (fun s hs ih => ?_) s hs
    · exact sgX0_seamsGrowth_6 C E ⟨fun _ => by rw [← ht]; rfl, fun c => absurd (i32_le_refl _) c⟩
    · refine sgX0_seamsGrowth_6 C E ⟨fun c => absurd c (nI_ge (b := 6) hs (by decide)), fun _ => ?_⟩
      have e2 : nI c * (6 : Int32) + nI s = nI (6 * c + s) := by show nI c * nI 6 + _ = _; rw [pk_mul, nI_add, Nat.mul_comm]
      rw [e2, nI_clamp (by omega), nI_1]
      refine ⟨vp_in_nI (by omega) (by decide), fun v ev => ?_⟩
      have r6 : C_rules (6 : Int32).toNatClampNeg = nI kd := ekd
      rw [r6]
      have ekn : (C_rules 6).toNatClampNeg = kd := by rw [ekd]; exact nI_clamp (by omega)
      obtain ⟨p, hp, ep⟩ := hpl (s / 2) (by omega)
      rcases hbe s (by omega) with hb | ⟨d, hd, hdc, hb, hb2, hsp, hcw⟩
      · rw [hb] at ev
        refine ⟨⟨fun _ => trivial, fun c => absurd ev c⟩, ?_⟩
        rw [if_pos ev]
        have tv : t s = 0 := by rw [← ht]; exact if_pos hb
        have e3 : sumZ t (s + 1) = sumZ t s := by rw [sumZ, tv, Int.add_zero]
        rw [← e3]; exact ih
      · rw [hb] at ev
        have hv : ¬ v = -1 := by rw [ev]; exact fun q => absurd (congrArg Int32.toInt q) (by rw [nI_toInt (by omega), show (-1 : Int32).toInt = -1 from rfl]; omega)
        rw [ep, nI_clamp (by omega)] at hsp
        obtain ⟨a1, a2⟩ := scost_eq hr hkd (show c < 36 by omega) (show s < 6 by omega) hp ep hsp C_size
        refine ⟨⟨fun c => absurd c hv, fun _ => ⟨vi_6_7, a1⟩⟩, ?_⟩
        rw [if_neg hv, a2, ev, holds_eq p1 (by omega), iI_neg]
        have tv : t s = (if sb p1 d = true then -cwA C_rules C_places kd c s else cwA C_rules C_places kd c s) := by
          rw [← ht]
          refine (if_neg (by rw [hb, ← ev]; exact hv)).trans ?_
          rw [hb, nI_clamp (by omega), ekn]
        have e3 : sumZ t (s + 1) = sumZ t s + (if sb p1 d = true then -cwA C_rules C_places kd c s else cwA C_rules C_places kd c s) := by rw [sumZ, tv]
        have e4 : iI (sumZ t s) + (if sb p1 d = true then iI (-cwA C_rules C_places kd c s) else iI (cwA C_rules C_places kd c s)) = iI (sumZ t (s + 1)) := by
          rw [e3]; split <;> rw [iI_add]
        rw [e4]; exact ih
  exact loop 0 (Nat.zero_le _)


abbrev w1X0_skinOfCell (ad : Nat → Nat) (cA : Nat → ClassId) (C_size : Int32) (C_rules : Nat → Int32) (C_places : Nat → Int32) (C_beyond : Nat → Int32) (u : Unit) : va_W := [((ad 1), .inr (0, [.ref (ad 2), .ref (ad 3), .ref (ad 4), .ref (ad 5), .ref (ad 6), .ref (ad 7), .int C_size])), ((ad 5), .inl (cA 0, 7, .inl C_rules)), ((ad 6), .inl (cA 0, 108, .inl C_places)), ((ad 7), .inl (cA 0, 216, .inl C_beyond))]
abbrev wcX0_skinOfCell (ad : Nat → Nat) (cA : Nat → ClassId) (C_size : Int32) (C_rules : Nat → Int32) (C_places : Nat → Int32) (C_beyond : Nat → Int32) : va_W := [((ad 1), .inr (0, [.ref (ad 2), .ref (ad 3), .ref (ad 4), .ref (ad 5), .ref (ad 6), .ref (ad 7), .int C_size])), ((ad 5), .inl (cA 0, 7, .inl C_rules)), ((ad 6), .inl (cA 0, 108, .inl C_places)), ((ad 7), .inl (cA 0, 216, .inl C_beyond))]
def rmX0_skinOfCell : Room := { frames := 2, cells := 0, slots := 0, locals := 39 }
abbrev atX0_skinOfCell_0 (X : gX) (ad : Nat → Nat) (cA : Nat → ClassId) (p1 : Int64) (p2 : Int32) (C_size : Int32) (C_rules : Nat → Int32) (C_places : Nat → Int32) (C_beyond : Nat → Int32) : Prop := gW X 0 0 [((ad 1), .inr (0, [.ref (ad 2), .ref (ad 3), .ref (ad 4), .ref (ad 5), .ref (ad 6), .ref (ad 7), .int C_size])), ((ad 5), .inl (cA 0, 7, .inl C_rules)), ((ad 6), .inl (cA 0, 108, .inl C_places)), ((ad 7), .inl (cA 0, 216, .inl C_beyond))] 7 [(0, .ref (ad 1)), (1, .long p1), (3, .int p2)] [] 0
abbrev atX0_skinOfCell_6 (X : gX) (ad : Nat → Nat) (cA : Nat → ClassId) (x1 : Int64) (x3 : Int32) (x4 : Int32) (x5 : Int32) (C_size : Int32) (C_rules : Nat → Int32) (C_places : Nat → Int32) (C_beyond : Nat → Int32) : Prop := gW X 0 0 [((ad 1), .inr (0, [.ref (ad 2), .ref (ad 3), .ref (ad 4), .ref (ad 5), .ref (ad 6), .ref (ad 7), .int C_size])), ((ad 5), .inl (cA 0, 7, .inl C_rules)), ((ad 6), .inl (cA 0, 108, .inl C_places)), ((ad 7), .inl (cA 0, 216, .inl C_beyond))] 7 [(0, .ref (ad 1)), (1, .long x1), (3, .int x3), (4, .int x4), (5, .int x5)] [] 6
theorem giX0_skinOfCell_X0 : ∀ w ∈ u_ws RX0 TX0 7, w ∈ wsX0_skinOfCell := by decide +kernel
theorem gfX0_skinOfCell_27 : gF wsX0_skinOfCell RX0 27 0 5 RX0 TX0 7 := ⟨giX0_skinOfCell_X0, by decide +kernel, rfl, by decide⟩
theorem gfX0_skinOfCell_21 : gF wsX0_skinOfCell RX0 21 0 3 RX0 TX0 7 := ⟨giX0_skinOfCell_X0, by decide +kernel, rfl, by decide⟩
set_option maxHeartbeats 4000000 in
set_option maxRecDepth 100000 in
theorem sgX0_skinOfCell_0 {X : gX} {ad : Nat → Nat} {cA : Nat → ClassId} {post : Int32 → (Unit) → Prop} {p1 : Int64} {p2 : Int32} {C_size : Int32} {C_rules : Nat → Int32} {C_places : Nat → Int32} {C_beyond : Nat → Int32} (C : gC X (gT cA) cX0_skinOfCell 7 RX0 wsX0_skinOfCell rmX0_skinOfCell) (E : gEi X (some .int) (gT cA) 0 0 post (w1X0_skinOfCell ad cA C_size C_rules C_places C_beyond)) (h : atX0_skinOfCell_6 X ad cA p1 p2 (0 : Int32) (0 : Int32) C_size C_rules C_places C_beyond) : atX0_skinOfCell_0 X ad cA p1 p2 C_size C_rules C_places C_beyond := by
  refine g_iconst C dX0_skinOfCell_0 ik_0 ?_
  refine g_istore (lv2 := [(0, .ref (ad 1)), (1, .long p1), (3, .int p2), (4, .int (0 : Int32))]) C dX0_skinOfCell_1 (by decide) [1, 2, 3, 0] rfl ?_
  refine g_iconst C dX0_skinOfCell_3 ik_0 ?_
  refine g_istore (lv2 := [(0, .ref (ad 1)), (1, .long p1), (3, .int p2), (4, .int (0 : Int32)), (5, .int (0 : Int32))]) C dX0_skinOfCell_4 (by decide) [1, 2, 3, 4, 0] rfl ?_
  exact g_lv [0, 1, 2, 3, 4] rfl h
set_option maxHeartbeats 4000000 in
set_option maxRecDepth 100000 in
theorem sgX0_skinOfCell_6 {X : gX} {ad : Nat → Nat} {cA : Nat → ClassId} {post : Int32 → (Unit) → Prop} {x1 : Int64} {x3 : Int32} {x4 : Int32} {x5 : Int32} {C_size : Int32} {C_rules : Nat → Int32} {C_places : Nat → Int32} {C_beyond : Nat → Int32} (C : gC X (gT cA) cX0_skinOfCell 7 RX0 wsX0_skinOfCell rmX0_skinOfCell) (E : gEi X (some .int) (gT cA) 0 0 post (w1X0_skinOfCell ad cA C_size C_rules C_places C_beyond)) (h : ((6 : Int32) ≤ x5 → post x4 ()) ∧ (¬ (6 : Int32) ≤ x5 → vp_in ((x3 * (6 : Int32)) + x5) 216 ∧ ∀ x6_3 : Int32, x6_3 = (C_beyond ((x3 * (6 : Int32)) + x5).toNatClampNeg) → ((¬ x6_3 = (-1 : Int32) → ((fnX0_holds x1 x6_3) = true → True) ∧ ((fnX0_holds x1 x6_3) = false → vp_in (6 : Int32) 7 ∧ prX0_seamCost (C_rules (6 : Int32).toNatClampNeg) x3 x5 C_size C_rules C_places)) ∧ (x6_3 = (-1 : Int32) → vp_in (3 : Int32) 7)) ∧ atX0_skinOfCell_6 X ad cA x1 x3 (if x6_3 = (-1 : Int32) then (x4 + (C_rules (3 : Int32).toNatClampNeg)) else (if (fnX0_holds x1 x6_3) = true then x4 else (x4 + (fnX0_seamCost (C_rules (6 : Int32).toNatClampNeg) x3 x5 C_size C_rules C_places)))) (x5 + 1) C_size C_rules C_places C_beyond)) : atX0_skinOfCell_6 X ad cA x1 x3 x4 x5 C_size C_rules C_places C_beyond := by
  refine g_iload C dX0_skinOfCell_6 4 rfl ?_
  refine g_bipush C dX0_skinOfCell_8 bk_6 ?_
  refine g_icmp_ge (tgt := 81) C dX0_skinOfCell_10 (by decide) (fun c_1 => ?_) (fun c_1 => ?_)
  · replace h := h.1 c_1
    refine g_iload C dX0_skinOfCell_81 3 rfl ?_
    exact g_iret C E () h rfl dX0_skinOfCell_83
  · replace h := h.2 c_1
    refine g_aload_n C dX0_skinOfCell_13 rfl 0 rfl ?_
    refine g_get C gfX0_skinOfCell_27 0 rfl rfl dX0_skinOfCell_14 ?_
    refine g_iload_n C dX0_skinOfCell_17 rfl 2 rfl ?_
    refine g_bipush C dX0_skinOfCell_18 bk_6 ?_
    refine g_imul C dX0_skinOfCell_20 ?_
    refine g_iload C dX0_skinOfCell_21 4 rfl ?_
    refine g_iadd C dX0_skinOfCell_23 ?_
    obtain ⟨hi_2, h⟩ := h
    refine g_iald C 3 0 rfl rfl hi_2 dX0_skinOfCell_24 ?_
    refine g_topi (fun x6_3 ex6_3 => ?_)
    replace h := h x6_3 ex6_3
    refine g_istore (lv2 := [(0, .ref (ad 1)), (1, .long x1), (3, .int x3), (4, .int x4), (5, .int x5), (6, .int x6_3)]) C dX0_skinOfCell_25 (by decide) [1, 2, 3, 4, 5, 0] rfl ?_
    refine g_iload C dX0_skinOfCell_27 5 rfl ?_
    refine g_iconst C dX0_skinOfCell_29 ik_m1 ?_
    obtain ⟨hr_75, h⟩ := h
    have key : gW X 0 0 [((ad 1), .inr (0, [.ref (ad 2), .ref (ad 3), .ref (ad 4), .ref (ad 5), .ref (ad 6), .ref (ad 7), .int C_size])), ((ad 5), .inl (cA 0, 7, .inl C_rules)), ((ad 6), .inl (cA 0, 108, .inl C_places)), ((ad 7), .inl (cA 0, 216, .inl C_beyond))] 7 [(0, .ref (ad 1)), (1, .long x1), (3, .int x3), (4, .int (if x6_3 = (-1 : Int32) then (x4 + (C_rules (3 : Int32).toNatClampNeg)) else (if (fnX0_holds x1 x6_3) = true then x4 else (x4 + (fnX0_seamCost (C_rules (6 : Int32).toNatClampNeg) x3 x5 C_size C_rules C_places))))), (5, .int x5), (6, .int x6_3)] [] 75 := by
      refine g_iinc (v := (x5 + 1)) (lv2 := [(0, .ref (ad 1)), (1, .long x1), (3, .int x3), (4, .int (if x6_3 = (-1 : Int32) then (x4 + (C_rules (3 : Int32).toNatClampNeg)) else (if (fnX0_holds x1 x6_3) = true then x4 else (x4 + (fnX0_seamCost (C_rules (6 : Int32).toNatClampNeg) x3 x5 C_size C_rules C_places))))), (5, .int (x5 + 1)), (6, .int x6_3)]) C dX0_skinOfCell_75 4 rfl (by first | rfl | decide) (by decide) [1, 2, 3, 4, 0, 5] rfl ?_
      refine g_goto (tgt := 6) C dX0_skinOfCell_78 (by decide) ?_
      exact g_lv [0, 1, 2, 3, 4] rfl h
    replace h := hr_75
    refine g_icmp_ne (tgt := 47) C dX0_skinOfCell_30 (by decide) (fun c_4 => ?_) (fun c_4 => ?_)
    · replace h := h.1 c_4
      refine g_lload_n C dX0_skinOfCell_47 rfl 1 rfl ?_
      refine g_iload C dX0_skinOfCell_48 5 rfl ?_
      refine g_callSi (b := 0) (wr := [((ad 1), .inr (0, [.ref (ad 2), .ref (ad 3), .ref (ad 4), .ref (ad 5), .ref (ad 6), .ref (ad 7), .int C_size])), ((ad 5), .inl (cA 0, 7, .inl C_rules)), ((ad 6), .inl (cA 0, 108, .inl C_places)), ((ad 7), .inl (cA 0, 216, .inl C_beyond))]) C (c_X0_holds ad cA x1 x6_3) gX0_skinOfCell_X0_holds rfl hde_X0_holds ⟨rfl, rfl⟩ (by decide) (by decide) [] [0, 1, 2, 3] [0, 1, 2, 3] rfl rfl rfl rfl (by decide) rfl (ws2 := fun u => [((ad 1), .inr (0, [.ref (ad 2), .ref (ad 3), .ref (ad 4), .ref (ad 5), .ref (ad 6), .ref (ad 7), .int C_size])), ((ad 5), .inl (cA 0, 7, .inl C_rules)), ((ad 6), .inl (cA 0, 108, .inl C_places)), ((ad 7), .inl (cA 0, 216, .inl C_beyond))]) (fun _ => rfl) (rest := []) rfl (Nat.le_of_ble_eq_true rfl) dX0_skinOfCell_50 (fun r_5 u_5 hp_5 => ?_)
      subst hp_5
      change gW X 0 0 [((ad 1), .inr (0, [.ref (ad 2), .ref (ad 3), .ref (ad 4), .ref (ad 5), .ref (ad 6), .ref (ad 7), .int C_size])), ((ad 5), .inl (cA 0, 7, .inl C_rules)), ((ad 6), .inl (cA 0, 108, .inl C_places)), ((ad 7), .inl (cA 0, 216, .inl C_beyond))] 7 [(0, .ref (ad 1)), (1, .long x1), (3, .int x3), (4, .int x4), (5, .int x5), (6, .int x6_3)] [.int (bI (fnX0_holds x1 x6_3))] 53
      have hr_75 := h
      have key : gW X 0 0 [((ad 1), .inr (0, [.ref (ad 2), .ref (ad 3), .ref (ad 4), .ref (ad 5), .ref (ad 6), .ref (ad 7), .int C_size])), ((ad 5), .inl (cA 0, 7, .inl C_rules)), ((ad 6), .inl (cA 0, 108, .inl C_places)), ((ad 7), .inl (cA 0, 216, .inl C_beyond))] 7 [(0, .ref (ad 1)), (1, .long x1), (3, .int x3), (4, .int (if (fnX0_holds x1 x6_3) = true then x4 else (x4 + (fnX0_seamCost (C_rules (6 : Int32).toNatClampNeg) x3 x5 C_size C_rules C_places)))), (5, .int x5), (6, .int x6_3)] [] 75 := by
        exact g_leaf (by simp only [if_neg c_4] at key; first | exact key | (simp only [if_neg c_4]; exact key) | exact absurd rfl c_4)
      replace h := hr_75
      refine g_ifne_b (tgt := 75) C dX0_skinOfCell_53 (by decide) (fun c_6 => ?_) (fun c_6 => ?_)
      · replace h := h.1 c_6
        exact g_leaf (by simp only [if_pos c_6] at key; first | exact key | (simp only [if_pos c_6]; exact key) | exact absurd rfl c_6)
      · replace h := h.2 c_6
        refine g_iload C dX0_skinOfCell_56 3 rfl ?_
        refine g_aload_n C dX0_skinOfCell_58 rfl 0 rfl ?_
        refine g_aload_n C dX0_skinOfCell_59 rfl 0 rfl ?_
        refine g_get C gfX0_skinOfCell_21 0 rfl rfl dX0_skinOfCell_60 ?_
        refine g_bipush C dX0_skinOfCell_63 bk_6 ?_
        obtain ⟨hi_7, h⟩ := h
        refine g_iald C 1 0 rfl rfl hi_7 dX0_skinOfCell_65 ?_
        refine g_iload_n C dX0_skinOfCell_66 rfl 2 rfl ?_
        refine g_iload C dX0_skinOfCell_67 4 rfl ?_
        have hi_8 := h
        refine g_callVi (wr := [((ad 7), .inl (cA 0, 216, .inl C_beyond))]) C (c_X0_seamCost ad cA (C_rules (6 : Int32).toNatClampNeg) x3 x5 C_size C_rules C_places hi_8) gX0_skinOfCell_X0_seamCost rfl hde_X0_seamCost ⟨rfl, rfl⟩ (by decide) (by decide) [0, 1, 2] [3] [1, 2, 3, 0] rfl rfl rfl rfl (by decide) rfl (ws2 := fun u => [((ad 1), .inr (0, [.ref (ad 2), .ref (ad 3), .ref (ad 4), .ref (ad 5), .ref (ad 6), .ref (ad 7), .int C_size])), ((ad 5), .inl (cA 0, 7, .inl C_rules)), ((ad 6), .inl (cA 0, 108, .inl C_places)), ((ad 7), .inl (cA 0, 216, .inl C_beyond))]) (fun _ => rfl) 0 0 rfl rfl rfl (rest := [.int x4]) rfl (Nat.le_of_ble_eq_true rfl) dX0_skinOfCell_69 (fun r_9 u_9 hp_9 => ?_)
        subst hp_9
        change gW X 0 0 [((ad 1), .inr (0, [.ref (ad 2), .ref (ad 3), .ref (ad 4), .ref (ad 5), .ref (ad 6), .ref (ad 7), .int C_size])), ((ad 5), .inl (cA 0, 7, .inl C_rules)), ((ad 6), .inl (cA 0, 108, .inl C_places)), ((ad 7), .inl (cA 0, 216, .inl C_beyond))] 7 [(0, .ref (ad 1)), (1, .long x1), (3, .int x3), (4, .int x4), (5, .int x5), (6, .int x6_3)] [.int (fnX0_seamCost (C_rules (6 : Int32).toNatClampNeg) x3 x5 C_size C_rules C_places), .int x4] 72
        refine g_iadd C dX0_skinOfCell_72 ?_
        refine g_istore (lv2 := [(0, .ref (ad 1)), (1, .long x1), (3, .int x3), (4, .int (x4 + (fnX0_seamCost (C_rules (6 : Int32).toNatClampNeg) x3 x5 C_size C_rules C_places))), (5, .int x5), (6, .int x6_3)]) C dX0_skinOfCell_73 (by decide) [1, 2, 3, 0, 4, 5] rfl ?_
        exact g_leaf (by simp only [if_neg (show ¬ (fnX0_holds x1 x6_3) = true from by rw [c_6]; decide)] at key; first | exact key | (simp only [if_neg (show ¬ (fnX0_holds x1 x6_3) = true from by rw [c_6]; decide)]; exact key))
    · replace h := h.2 c_4
      refine g_iload C dX0_skinOfCell_33 3 rfl ?_
      refine g_aload_n C dX0_skinOfCell_35 rfl 0 rfl ?_
      refine g_get C gfX0_skinOfCell_21 0 rfl rfl dX0_skinOfCell_36 ?_
      refine g_iconst C dX0_skinOfCell_39 ik_3 ?_
      have hi_10 := h
      refine g_iald C 1 0 rfl rfl hi_10 dX0_skinOfCell_40 ?_
      refine g_iadd C dX0_skinOfCell_41 ?_
      refine g_istore (lv2 := [(0, .ref (ad 1)), (1, .long x1), (3, .int x3), (4, .int (x4 + (C_rules (3 : Int32).toNatClampNeg))), (5, .int x5), (6, .int x6_3)]) C dX0_skinOfCell_42 (by decide) [1, 2, 3, 0, 4, 5] rfl ?_
      refine g_goto (tgt := 75) C dX0_skinOfCell_44 (by decide) ?_
      exact g_leaf (by simp only [if_pos c_4] at key; first | exact key | (simp only [if_pos c_4]; exact key) | exact absurd rfl c_4)
def prX0_skinOfCell (p1 : Int64) (p2 : Int32) (C_size : Int32) (C_rules : Nat → Int32) (C_places : Nat → Int32) (C_beyond : Nat → Int32) : Prop := ∃ n c, grOK n C_beyond C_places ∧ ruOK C_rules ∧ c < n ∧ p2 = nI c
set_option maxHeartbeats 4000000 in
set_option maxRecDepth 100000 in
theorem c_X0_skinOfCell (ad : Nat → Nat) (cA : Nat → ClassId) (p1 : Int64) (p2 : Int32) (C_size : Int32) (C_rules : Nat → Int32) (C_places : Nat → Int32) (C_beyond : Nat → Int32) (hq : prX0_skinOfCell p1 p2 C_size C_rules C_places C_beyond) : ∀ (l : Launch) (D : va_G), gMi (S := Unit) l yX0_skinOfCell wsX0_skinOfCell rmX0_skinOfCell D (gT cA) 0 0 [.ref (ad 1), .long p1, .int p2] (wcX0_skinOfCell ad cA C_size C_rules C_places C_beyond) (fun r _ => r = iI (skcA C_rules C_places C_beyond (sb p1) p2.toNatClampNeg)) (w1X0_skinOfCell ad cA C_size C_rules C_places C_beyond) := by
  intro l D
  unfold prX0_skinOfCell at hq
  refine g_enteri (cc := cX0_skinOfCell) (nL := 7) (ret := (some .int)) (by decide) rfl (Nat.le_of_ble_eq_true rfl) rfl (fun X C E => ?_)
  obtain ⟨n, c, hg, hr, hc, rfl⟩ := hq
  rw [nI_clamp (by have := hg.2.1; omega)] at E
  obtain ⟨kd, hkd, ekd⟩ := hr.2.2.2
  have hn := hg.2.1
  obtain ⟨hpl, hbe⟩ := hg.2.2 c hc
  refine sgX0_skinOfCell_0 C E ?_
  generalize ht : (fun s => if C_beyond (6 * c + s) = -1 then (C_rules 3).toInt else if sb p1 (C_beyond (6 * c + s)).toNatClampNeg = true then 0 else cwA C_rules C_places (C_rules 6).toNatClampNeg c s) = t at E
  have loop : ∀ s, s ≤ 6 → atX0_skinOfCell_6 X ad cA p1 (nI c) (iI (sumZ t s)) (nI s) C_size C_rules C_places C_beyond := by
    intro s hs
    refine up_loop (P := fun s => atX0_skinOfCell_6 X ad cA p1 (nI c) (iI (sumZ t s)) (nI s) C_size C_rules C_places C_beyond) 6 ?_ (fun s hs ih => ?_) s hs
    · exact sgX0_skinOfCell_6 C E ⟨fun _ => by rw [← ht]; rfl, fun c => absurd (i32_le_refl _) c⟩
    · refine sgX0_skinOfCell_6 C E ⟨fun c => absurd c (nI_ge (b := 6) hs (by decide)), fun _ => ?_⟩
      have e2 : nI c * (6 : Int32) + nI s = nI (6 * c + s) := by show nI c * nI 6 + _ = _; rw [pk_mul, nI_add, Nat.mul_comm]
      rw [e2, nI_clamp (by omega), nI_1]
      refine ⟨vp_in_nI (by omega) (by decide), fun v ev => ?_⟩
      have r6 : C_rules (6 : Int32).toNatClampNeg = nI kd := ekd
      rw [r6]
      have ekn : (C_rules 6).toNatClampNeg = kd := by rw [ekd]; exact nI_clamp (by omega)
      obtain ⟨p, hp, ep⟩ := hpl (s / 2) (by omega)
      rcases hbe s (by omega) with hb | ⟨d, hd, hdc, hb, hb2, hsp, hcw⟩
      · rw [hb] at ev
        refine ⟨⟨fun c => absurd ev c, fun _ => vi_3_7⟩, ?_⟩
        rw [if_pos ev]
        have tv : t s = (C_rules 3).toInt := by rw [← ht]; exact if_pos hb
        have e3 : sumZ t (s + 1) = sumZ t s + (C_rules 3).toInt := by rw [sumZ, tv]
        have e4 : iI (sumZ t s) + C_rules (3 : Int32).toNatClampNeg = iI (sumZ t (s + 1)) := by
          rw [e3, ← iI_add, iI_toInt]; rfl
        rw [e4]; exact ih
      · rw [hb] at ev
        have hv : ¬ v = -1 := by rw [ev]; exact fun q => absurd (congrArg Int32.toInt q) (by rw [nI_toInt (by omega), show (-1 : Int32).toInt = -1 from rfl]; omega)
        rw [ep, nI_clamp (by omega)] at hsp
        obtain ⟨a1, a2⟩ := scost_eq hr hkd (show c < 36 by omega) (show s < 6 by omega) hp ep hsp C_size
        refine ⟨⟨fun _ => ⟨fun _ => trivial, fun _ => ⟨vi_6_7, a1⟩⟩, fun c => absurd c hv⟩, ?_⟩
        rw [if_neg hv, a2, ev, holds_eq p1 (by omega)]
        have tv : t s = (if sb p1 d = true then 0 else cwA C_rules C_places kd c s) := by
          rw [← ht]
          refine (if_neg (by rw [hb, ← ev]; exact hv)).trans ?_
          rw [hb, nI_clamp (by omega), ekn]
        have e3 : sumZ t (s + 1) = sumZ t s + (if sb p1 d = true then 0 else cwA C_rules C_places kd c s) := by rw [sumZ, tv]
        have e4 : (if sb p1 d = true then iI (sumZ t s) else iI (sumZ t s) + iI (cwA C_rules C_places kd c s)) = iI (sumZ t (s + 1)) := by
          rw [e3]; split
          · rw [Int.add_zero]
          · rw [iI_add]
        rw [e4]; exact ih
  exact loop 0 (Nat.zero_le _)


theorem skcA_bd {ru : Nat → Int32} (h : ruOK ru) (pl be : Nat → Int32) (S : Nat → Bool) (c : Nat) : 0 ≤ skcA ru pl be S c ∧ skcA ru pl be S c ≤ 108 := by
  have := sumZ_bd (f := fun s => if be (6 * c + s) = -1 then (ru 3).toInt else if S (be (6 * c + s)).toNatClampNeg = true then 0 else cwA ru pl (ru 6).toNatClampNeg c s) (n := 6) (a := 0) (b := 18) (fun s hs => by
    have h3 := h.1 3 (by omega)
    have h4 := cwA_bd h pl (ru 6).toNatClampNeg c hs
    (repeat' split) <;> omega)
  unfold skcA
  omega

abbrev w1X0_skinOf (ad : Nat → Nat) (cA : Nat → ClassId) (C_size : Int32) (C_rules : Nat → Int32) (C_places : Nat → Int32) (C_beyond : Nat → Int32) (u : Unit) : va_W := [((ad 1), .inr (0, [.ref (ad 2), .ref (ad 3), .ref (ad 4), .ref (ad 5), .ref (ad 6), .ref (ad 7), .int C_size])), ((ad 5), .inl (cA 0, 7, .inl C_rules)), ((ad 6), .inl (cA 0, 108, .inl C_places)), ((ad 7), .inl (cA 0, 216, .inl C_beyond))]
abbrev wcX0_skinOf (ad : Nat → Nat) (cA : Nat → ClassId) (C_size : Int32) (C_rules : Nat → Int32) (C_places : Nat → Int32) (C_beyond : Nat → Int32) : va_W := [((ad 1), .inr (0, [.ref (ad 2), .ref (ad 3), .ref (ad 4), .ref (ad 5), .ref (ad 6), .ref (ad 7), .int C_size])), ((ad 5), .inl (cA 0, 7, .inl C_rules)), ((ad 6), .inl (cA 0, 108, .inl C_places)), ((ad 7), .inl (cA 0, 216, .inl C_beyond))]
def rmX0_skinOf : Room := { frames := 3, cells := 0, slots := 0, locals := 65 }
abbrev atX0_skinOf_0 (X : gX) (ad : Nat → Nat) (cA : Nat → ClassId) (p1 : Int64) (C_size : Int32) (C_rules : Nat → Int32) (C_places : Nat → Int32) (C_beyond : Nat → Int32) : Prop := gW X 0 0 [((ad 1), .inr (0, [.ref (ad 2), .ref (ad 3), .ref (ad 4), .ref (ad 5), .ref (ad 6), .ref (ad 7), .int C_size])), ((ad 5), .inl (cA 0, 7, .inl C_rules)), ((ad 6), .inl (cA 0, 108, .inl C_places)), ((ad 7), .inl (cA 0, 216, .inl C_beyond))] 6 [(0, .ref (ad 1)), (1, .long p1)] [] 0
abbrev atX0_skinOf_5 (X : gX) (ad : Nat → Nat) (cA : Nat → ClassId) (x1 : Int64) (x3 : Int64) (x5 : Int32) (C_size : Int32) (C_rules : Nat → Int32) (C_places : Nat → Int32) (C_beyond : Nat → Int32) : Prop := gW X 0 0 [((ad 1), .inr (0, [.ref (ad 2), .ref (ad 3), .ref (ad 4), .ref (ad 5), .ref (ad 6), .ref (ad 7), .int C_size])), ((ad 5), .inl (cA 0, 7, .inl C_rules)), ((ad 6), .inl (cA 0, 108, .inl C_places)), ((ad 7), .inl (cA 0, 216, .inl C_beyond))] 6 [(0, .ref (ad 1)), (1, .long x1), (3, .long x3), (5, .int x5)] [] 5
theorem giX0_skinOf_X0 : ∀ w ∈ u_ws RX0 TX0 7, w ∈ wsX0_skinOf := by decide +kernel
theorem gfX0_skinOf_30 : gF wsX0_skinOf RX0 30 0 6 RX0 TX0 7 := ⟨giX0_skinOf_X0, by decide +kernel, rfl, by decide⟩
set_option maxHeartbeats 4000000 in
set_option maxRecDepth 100000 in
theorem sgX0_skinOf_0 {X : gX} {ad : Nat → Nat} {cA : Nat → ClassId} {post : Int64 → (Unit) → Prop} {p1 : Int64} {C_size : Int32} {C_rules : Nat → Int32} {C_places : Nat → Int32} {C_beyond : Nat → Int32} (C : gC X (gT cA) cX0_skinOf 6 RX0 wsX0_skinOf rmX0_skinOf) (E : gEl X (some .long) (gT cA) 0 0 post (w1X0_skinOf ad cA C_size C_rules C_places C_beyond)) (h : atX0_skinOf_5 X ad cA p1 (0 : Int64) (0 : Int32) C_size C_rules C_places C_beyond) : atX0_skinOf_0 X ad cA p1 C_size C_rules C_places C_beyond := by
  refine g_lconst C dX0_skinOf_0 lk_0 ?_
  refine g_lstore_n (lv2 := [(0, .ref (ad 1)), (1, .long p1), (3, .long (0 : Int64))]) C dX0_skinOf_1 rfl (by decide) [1, 2, 0] rfl ?_
  refine g_iconst C dX0_skinOf_2 ik_0 ?_
  refine g_istore (lv2 := [(0, .ref (ad 1)), (1, .long p1), (3, .long (0 : Int64)), (5, .int (0 : Int32))]) C dX0_skinOf_3 (by decide) [1, 2, 3, 0] rfl ?_
  exact g_lv [0, 1, 2, 3] rfl h
set_option maxHeartbeats 4000000 in
set_option maxRecDepth 100000 in
theorem sgX0_skinOf_5 {X : gX} {ad : Nat → Nat} {cA : Nat → ClassId} {post : Int64 → (Unit) → Prop} {x1 : Int64} {x3 : Int64} {x5 : Int32} {C_size : Int32} {C_rules : Nat → Int32} {C_places : Nat → Int32} {C_beyond : Nat → Int32} (C : gC X (gT cA) cX0_skinOf 6 RX0 wsX0_skinOf rmX0_skinOf) (E : gEl X (some .long) (gT cA) 0 0 post (w1X0_skinOf ad cA C_size C_rules C_places C_beyond)) (h : (C_size ≤ x5 → post x3 ()) ∧ (¬ C_size ≤ x5 → (((fnX0_holds x1 x5) = false → True) ∧ ((fnX0_holds x1 x5) = true → prX0_skinOfCell x1 x5 C_size C_rules C_places C_beyond)) ∧ atX0_skinOf_5 X ad cA x1 (if (fnX0_holds x1 x5) = true then (x3 + ((iI (skcA C_rules C_places C_beyond (sb x1) x5.toNatClampNeg)).toInt64)) else x3) (x5 + 1) C_size C_rules C_places C_beyond)) : atX0_skinOf_5 X ad cA x1 x3 x5 C_size C_rules C_places C_beyond := by
  refine g_iload C dX0_skinOf_5 3 rfl ?_
  refine g_aload_n C dX0_skinOf_7 rfl 0 rfl ?_
  refine g_get C gfX0_skinOf_30 0 rfl rfl dX0_skinOf_8 ?_
  refine g_icmp_ge (tgt := 40) C dX0_skinOf_11 (by decide) (fun c_1 => ?_) (fun c_1 => ?_)
  · replace h := h.1 c_1
    refine g_lload_n C dX0_skinOf_40 rfl 2 rfl ?_
    exact g_lret C E () h rfl dX0_skinOf_41
  · replace h := h.2 c_1
    refine g_lload_n C dX0_skinOf_14 rfl 1 rfl ?_
    refine g_iload C dX0_skinOf_15 3 rfl ?_
    refine g_callSi (b := 0) (wr := [((ad 1), .inr (0, [.ref (ad 2), .ref (ad 3), .ref (ad 4), .ref (ad 5), .ref (ad 6), .ref (ad 7), .int C_size])), ((ad 5), .inl (cA 0, 7, .inl C_rules)), ((ad 6), .inl (cA 0, 108, .inl C_places)), ((ad 7), .inl (cA 0, 216, .inl C_beyond))]) C (c_X0_holds ad cA x1 x5) gX0_skinOf_X0_holds rfl hde_X0_holds ⟨rfl, rfl⟩ (by decide) (by decide) [] [0, 1, 2, 3] [0, 1, 2, 3] rfl rfl rfl rfl (by decide) rfl (ws2 := fun u => [((ad 1), .inr (0, [.ref (ad 2), .ref (ad 3), .ref (ad 4), .ref (ad 5), .ref (ad 6), .ref (ad 7), .int C_size])), ((ad 5), .inl (cA 0, 7, .inl C_rules)), ((ad 6), .inl (cA 0, 108, .inl C_places)), ((ad 7), .inl (cA 0, 216, .inl C_beyond))]) (fun _ => rfl) (rest := []) rfl (Nat.le_of_ble_eq_true rfl) dX0_skinOf_17 (fun r_2 u_2 hp_2 => ?_)
    subst hp_2
    change gW X 0 0 [((ad 1), .inr (0, [.ref (ad 2), .ref (ad 3), .ref (ad 4), .ref (ad 5), .ref (ad 6), .ref (ad 7), .int C_size])), ((ad 5), .inl (cA 0, 7, .inl C_rules)), ((ad 6), .inl (cA 0, 108, .inl C_places)), ((ad 7), .inl (cA 0, 216, .inl C_beyond))] 6 [(0, .ref (ad 1)), (1, .long x1), (3, .long x3), (5, .int x5)] [.int (bI (fnX0_holds x1 x5))] 20
    obtain ⟨hr_34, h⟩ := h
    have key : gW X 0 0 [((ad 1), .inr (0, [.ref (ad 2), .ref (ad 3), .ref (ad 4), .ref (ad 5), .ref (ad 6), .ref (ad 7), .int C_size])), ((ad 5), .inl (cA 0, 7, .inl C_rules)), ((ad 6), .inl (cA 0, 108, .inl C_places)), ((ad 7), .inl (cA 0, 216, .inl C_beyond))] 6 [(0, .ref (ad 1)), (1, .long x1), (3, .long (if (fnX0_holds x1 x5) = true then (x3 + ((iI (skcA C_rules C_places C_beyond (sb x1) x5.toNatClampNeg)).toInt64)) else x3)), (5, .int x5)] [] 34 := by
      refine g_iinc (v := (x5 + 1)) (lv2 := [(0, .ref (ad 1)), (1, .long x1), (3, .long (if (fnX0_holds x1 x5) = true then (x3 + ((iI (skcA C_rules C_places C_beyond (sb x1) x5.toNatClampNeg)).toInt64)) else x3)), (5, .int (x5 + 1))]) C dX0_skinOf_34 3 rfl (by first | rfl | decide) (by decide) [1, 2, 3, 0] rfl ?_
      refine g_goto (tgt := 5) C dX0_skinOf_37 (by decide) ?_
      exact g_lv [0, 1, 2, 3] rfl h
    replace h := hr_34
    refine g_ifeq_b (tgt := 34) C dX0_skinOf_20 (by decide) (fun c_3 => ?_) (fun c_3 => ?_)
    · replace h := h.1 c_3
      exact g_leaf (by simp only [if_neg (show ¬ (fnX0_holds x1 x5) = true from by rw [c_3]; decide)] at key; first | exact key | (simp only [if_neg (show ¬ (fnX0_holds x1 x5) = true from by rw [c_3]; decide)]; exact key))
    · replace h := h.2 c_3
      refine g_lload_n C dX0_skinOf_23 rfl 2 rfl ?_
      refine g_aload_n C dX0_skinOf_24 rfl 0 rfl ?_
      refine g_lload_n C dX0_skinOf_25 rfl 1 rfl ?_
      refine g_iload C dX0_skinOf_26 3 rfl ?_
      have hi_4 := h
      refine g_callVi (wr := []) C (c_X0_skinOfCell ad cA x1 x5 C_size C_rules C_places C_beyond hi_4) gX0_skinOf_X0_skinOfCell rfl hde_X0_skinOfCell ⟨rfl, rfl⟩ (by decide) (by decide) [0, 1, 2, 3] [] [0, 1, 2, 3] rfl rfl rfl rfl (by decide) rfl (ws2 := fun u => [((ad 1), .inr (0, [.ref (ad 2), .ref (ad 3), .ref (ad 4), .ref (ad 5), .ref (ad 6), .ref (ad 7), .int C_size])), ((ad 5), .inl (cA 0, 7, .inl C_rules)), ((ad 6), .inl (cA 0, 108, .inl C_places)), ((ad 7), .inl (cA 0, 216, .inl C_beyond))]) (fun _ => rfl) 0 0 rfl rfl rfl (rest := [.long x3]) rfl (Nat.le_of_ble_eq_true rfl) dX0_skinOf_28 (fun r_5 u_5 hp_5 => ?_)
      subst hp_5
      change gW X 0 0 [((ad 1), .inr (0, [.ref (ad 2), .ref (ad 3), .ref (ad 4), .ref (ad 5), .ref (ad 6), .ref (ad 7), .int C_size])), ((ad 5), .inl (cA 0, 7, .inl C_rules)), ((ad 6), .inl (cA 0, 108, .inl C_places)), ((ad 7), .inl (cA 0, 216, .inl C_beyond))] 6 [(0, .ref (ad 1)), (1, .long x1), (3, .long x3), (5, .int x5)] [.int (iI (skcA C_rules C_places C_beyond (sb x1) x5.toNatClampNeg)), .long x3] 31
      refine g_i2l C dX0_skinOf_31 ?_
      refine g_ladd C dX0_skinOf_32 ?_
      refine g_lstore_n (lv2 := [(0, .ref (ad 1)), (1, .long x1), (3, .long (x3 + ((iI (skcA C_rules C_places C_beyond (sb x1) x5.toNatClampNeg)).toInt64))), (5, .int x5)]) C dX0_skinOf_33 rfl (by decide) [1, 2, 0, 3] rfl ?_
      exact g_leaf (by simp only [if_pos c_3] at key; first | exact key | (simp only [if_pos c_3]; exact key) | exact absurd rfl c_3)
def prX0_skinOf (p1 : Int64) (C_size : Int32) (C_rules : Nat → Int32) (C_places : Nat → Int32) (C_beyond : Nat → Int32) : Prop := ∃ n, grOK n C_beyond C_places ∧ ruOK C_rules ∧ C_size = nI n
set_option maxHeartbeats 4000000 in
set_option maxRecDepth 100000 in
theorem c_X0_skinOf (ad : Nat → Nat) (cA : Nat → ClassId) (p1 : Int64) (C_size : Int32) (C_rules : Nat → Int32) (C_places : Nat → Int32) (C_beyond : Nat → Int32) (hq : prX0_skinOf p1 C_size C_rules C_places C_beyond) : ∀ (l : Launch) (D : va_G), gMl (S := Unit) l yX0_skinOf wsX0_skinOf rmX0_skinOf D (gT cA) 0 0 [.ref (ad 1), .long p1] (wcX0_skinOf ad cA C_size C_rules C_places C_beyond) (fun r _ => r = lI (sknA C_size.toNatClampNeg C_rules C_places C_beyond (sb p1))) (w1X0_skinOf ad cA C_size C_rules C_places C_beyond) := by
  intro l D
  unfold prX0_skinOf at hq
  refine g_enterl (cc := cX0_skinOf) (nL := 6) (ret := (some .long)) (by decide) rfl (Nat.le_of_ble_eq_true rfl) rfl (fun X C E => ?_)
  obtain ⟨n, hg, hr, rfl⟩ := hq
  have hn := hg.2.1
  rw [nI_clamp (by omega)] at E
  refine sgX0_skinOf_0 C E ?_
  have loop : ∀ k, k ≤ n → atX0_skinOf_5 X ad cA p1 (lI (sumZ (fun c => if sb p1 c = true then skcA C_rules C_places C_beyond (sb p1) c else 0) k)) (nI k) (nI n) C_rules C_places C_beyond := by
    intro k hk
    refine up_loop (P := fun k => atX0_skinOf_5 X ad cA p1 (lI (sumZ (fun c => if sb p1 c = true then skcA C_rules C_places C_beyond (sb p1) c else 0) k)) (nI k) (nI n) C_rules C_places C_beyond) n ?_ (fun k hk ih => ?_) k hk
    · exact sgX0_skinOf_5 C E ⟨fun _ => rfl, fun c => absurd (i32_le_refl _) c⟩
    · refine sgX0_skinOf_5 C E ⟨fun c => absurd c (nI_ge hk (by omega)), fun _ => ?_⟩
      rw [holds_eq p1 (by omega), nI_clamp (by omega), nI_1]
      refine ⟨⟨fun _ => trivial, fun _ => ⟨n, k, hg, hr, hk, rfl⟩⟩, ?_⟩
      have bd := skcA_bd hr C_places C_beyond (sb p1) k
      have e : (if sb p1 k = true then lI (sumZ (fun c => if sb p1 c = true then skcA C_rules C_places C_beyond (sb p1) c else 0) k) + (iI (skcA C_rules C_places C_beyond (sb p1) k)).toInt64 else lI (sumZ (fun c => if sb p1 c = true then skcA C_rules C_places C_beyond (sb p1) c else 0) k)) = lI (sumZ (fun c => if sb p1 c = true then skcA C_rules C_places C_beyond (sb p1) c else 0) (k + 1)) := by
        simp only [sumZ]
        split
        · rw [iI_long (by omega) (by omega), lI_add]
        · rw [Int.add_zero]
      rw [e]; exact ih
  exact loop 0 (Nat.zero_le _)


abbrev w1X0_pricesOf (ad : Nat → Nat) (cA : Nat → ClassId) (C_size : Int32) (C_prices : Nat → Int32) (u : Unit) : va_W := [((ad 1), .inr (0, [.ref (ad 2), .ref (ad 3), .ref (ad 4), .ref (ad 5), .ref (ad 6), .ref (ad 7), .int C_size])), ((ad 4), .inl (cA 0, 36, .inl C_prices))]
abbrev wcX0_pricesOf (ad : Nat → Nat) (cA : Nat → ClassId) (C_size : Int32) (C_prices : Nat → Int32) : va_W := [((ad 1), .inr (0, [.ref (ad 2), .ref (ad 3), .ref (ad 4), .ref (ad 5), .ref (ad 6), .ref (ad 7), .int C_size])), ((ad 4), .inl (cA 0, 36, .inl C_prices))]
def rmX0_pricesOf : Room := { frames := 1, cells := 0, slots := 0, locals := 22 }
abbrev atX0_pricesOf_0 (X : gX) (ad : Nat → Nat) (cA : Nat → ClassId) (p1 : Int64) (C_size : Int32) (C_prices : Nat → Int32) : Prop := gW X 0 0 [((ad 1), .inr (0, [.ref (ad 2), .ref (ad 3), .ref (ad 4), .ref (ad 5), .ref (ad 6), .ref (ad 7), .int C_size])), ((ad 4), .inl (cA 0, 36, .inl C_prices))] 6 [(0, .ref (ad 1)), (1, .long p1)] [] 0
abbrev atX0_pricesOf_5 (X : gX) (ad : Nat → Nat) (cA : Nat → ClassId) (x1 : Int64) (x3 : Int64) (x5 : Int32) (C_size : Int32) (C_prices : Nat → Int32) : Prop := gW X 0 0 [((ad 1), .inr (0, [.ref (ad 2), .ref (ad 3), .ref (ad 4), .ref (ad 5), .ref (ad 6), .ref (ad 7), .int C_size])), ((ad 4), .inl (cA 0, 36, .inl C_prices))] 6 [(0, .ref (ad 1)), (1, .long x1), (3, .long x3), (5, .int x5)] [] 5
theorem giX0_pricesOf_X0 : ∀ w ∈ u_ws RX0 TX0 7, w ∈ wsX0_pricesOf := by decide +kernel
theorem gfX0_pricesOf_30 : gF wsX0_pricesOf RX0 30 0 6 RX0 TX0 7 := ⟨giX0_pricesOf_X0, by decide +kernel, rfl, by decide⟩
theorem gfX0_pricesOf_18 : gF wsX0_pricesOf RX0 18 0 2 RX0 TX0 7 := ⟨giX0_pricesOf_X0, by decide +kernel, rfl, by decide⟩
set_option maxHeartbeats 4000000 in
set_option maxRecDepth 100000 in
theorem sgX0_pricesOf_0 {X : gX} {ad : Nat → Nat} {cA : Nat → ClassId} {post : Int64 → (Unit) → Prop} {p1 : Int64} {C_size : Int32} {C_prices : Nat → Int32} (C : gC X (gT cA) cX0_pricesOf 6 RX0 wsX0_pricesOf rmX0_pricesOf) (E : gEl X (some .long) (gT cA) 0 0 post (w1X0_pricesOf ad cA C_size C_prices)) (h : atX0_pricesOf_5 X ad cA p1 (0 : Int64) (0 : Int32) C_size C_prices) : atX0_pricesOf_0 X ad cA p1 C_size C_prices := by
  refine g_lconst C dX0_pricesOf_0 lk_0 ?_
  refine g_lstore_n (lv2 := [(0, .ref (ad 1)), (1, .long p1), (3, .long (0 : Int64))]) C dX0_pricesOf_1 rfl (by decide) [1, 2, 0] rfl ?_
  refine g_iconst C dX0_pricesOf_2 ik_0 ?_
  refine g_istore (lv2 := [(0, .ref (ad 1)), (1, .long p1), (3, .long (0 : Int64)), (5, .int (0 : Int32))]) C dX0_pricesOf_3 (by decide) [1, 2, 3, 0] rfl ?_
  exact g_lv [0, 1, 2, 3] rfl h
set_option maxHeartbeats 4000000 in
set_option maxRecDepth 100000 in
theorem sgX0_pricesOf_5 {X : gX} {ad : Nat → Nat} {cA : Nat → ClassId} {post : Int64 → (Unit) → Prop} {x1 : Int64} {x3 : Int64} {x5 : Int32} {C_size : Int32} {C_prices : Nat → Int32} (C : gC X (gT cA) cX0_pricesOf 6 RX0 wsX0_pricesOf rmX0_pricesOf) (E : gEl X (some .long) (gT cA) 0 0 post (w1X0_pricesOf ad cA C_size C_prices)) (h : (C_size ≤ x5 → post x3 ()) ∧ (¬ C_size ≤ x5 → (((fnX0_holds x1 x5) = false → True) ∧ ((fnX0_holds x1 x5) = true → vp_in x5 36)) ∧ atX0_pricesOf_5 X ad cA x1 (if (fnX0_holds x1 x5) = true then (x3 + ((C_prices x5.toNatClampNeg).toInt64)) else x3) (x5 + 1) C_size C_prices)) : atX0_pricesOf_5 X ad cA x1 x3 x5 C_size C_prices := by
  refine g_iload C dX0_pricesOf_5 3 rfl ?_
  refine g_aload_n C dX0_pricesOf_7 rfl 0 rfl ?_
  refine g_get C gfX0_pricesOf_30 0 rfl rfl dX0_pricesOf_8 ?_
  refine g_icmp_ge (tgt := 40) C dX0_pricesOf_11 (by decide) (fun c_1 => ?_) (fun c_1 => ?_)
  · replace h := h.1 c_1
    refine g_lload_n C dX0_pricesOf_40 rfl 2 rfl ?_
    exact g_lret C E () h rfl dX0_pricesOf_41
  · replace h := h.2 c_1
    refine g_lload_n C dX0_pricesOf_14 rfl 1 rfl ?_
    refine g_iload C dX0_pricesOf_15 3 rfl ?_
    refine g_callSi (b := 0) (wr := [((ad 1), .inr (0, [.ref (ad 2), .ref (ad 3), .ref (ad 4), .ref (ad 5), .ref (ad 6), .ref (ad 7), .int C_size])), ((ad 4), .inl (cA 0, 36, .inl C_prices))]) C (c_X0_holds ad cA x1 x5) gX0_pricesOf_X0_holds rfl hde_X0_holds ⟨rfl, rfl⟩ (by decide) (by decide) [] [0, 1] [0, 1] rfl rfl rfl rfl (by decide) rfl (ws2 := fun u => [((ad 1), .inr (0, [.ref (ad 2), .ref (ad 3), .ref (ad 4), .ref (ad 5), .ref (ad 6), .ref (ad 7), .int C_size])), ((ad 4), .inl (cA 0, 36, .inl C_prices))]) (fun _ => rfl) (rest := []) rfl (Nat.le_of_ble_eq_true rfl) dX0_pricesOf_17 (fun r_2 u_2 hp_2 => ?_)
    subst hp_2
    change gW X 0 0 [((ad 1), .inr (0, [.ref (ad 2), .ref (ad 3), .ref (ad 4), .ref (ad 5), .ref (ad 6), .ref (ad 7), .int C_size])), ((ad 4), .inl (cA 0, 36, .inl C_prices))] 6 [(0, .ref (ad 1)), (1, .long x1), (3, .long x3), (5, .int x5)] [.int (bI (fnX0_holds x1 x5))] 20
    obtain ⟨hr_34, h⟩ := h
    have key : gW X 0 0 [((ad 1), .inr (0, [.ref (ad 2), .ref (ad 3), .ref (ad 4), .ref (ad 5), .ref (ad 6), .ref (ad 7), .int C_size])), ((ad 4), .inl (cA 0, 36, .inl C_prices))] 6 [(0, .ref (ad 1)), (1, .long x1), (3, .long (if (fnX0_holds x1 x5) = true then (x3 + ((C_prices x5.toNatClampNeg).toInt64)) else x3)), (5, .int x5)] [] 34 := by
      refine g_iinc (v := (x5 + 1)) (lv2 := [(0, .ref (ad 1)), (1, .long x1), (3, .long (if (fnX0_holds x1 x5) = true then (x3 + ((C_prices x5.toNatClampNeg).toInt64)) else x3)), (5, .int (x5 + 1))]) C dX0_pricesOf_34 3 rfl (by first | rfl | decide) (by decide) [1, 2, 3, 0] rfl ?_
      refine g_goto (tgt := 5) C dX0_pricesOf_37 (by decide) ?_
      exact g_lv [0, 1, 2, 3] rfl h
    replace h := hr_34
    refine g_ifeq_b (tgt := 34) C dX0_pricesOf_20 (by decide) (fun c_3 => ?_) (fun c_3 => ?_)
    · replace h := h.1 c_3
      exact g_leaf (by simp only [if_neg (show ¬ (fnX0_holds x1 x5) = true from by rw [c_3]; decide)] at key; first | exact key | (simp only [if_neg (show ¬ (fnX0_holds x1 x5) = true from by rw [c_3]; decide)]; exact key))
    · replace h := h.2 c_3
      refine g_lload_n C dX0_pricesOf_23 rfl 2 rfl ?_
      refine g_aload_n C dX0_pricesOf_24 rfl 0 rfl ?_
      refine g_get C gfX0_pricesOf_18 0 rfl rfl dX0_pricesOf_25 ?_
      refine g_iload C dX0_pricesOf_28 3 rfl ?_
      have hi_4 := h
      refine g_iald C 1 0 rfl rfl hi_4 dX0_pricesOf_30 ?_
      refine g_i2l C dX0_pricesOf_31 ?_
      refine g_ladd C dX0_pricesOf_32 ?_
      refine g_lstore_n (lv2 := [(0, .ref (ad 1)), (1, .long x1), (3, .long (x3 + ((C_prices x5.toNatClampNeg).toInt64))), (5, .int x5)]) C dX0_pricesOf_33 rfl (by decide) [1, 2, 0, 3] rfl ?_
      exact g_leaf (by simp only [if_pos c_3] at key; first | exact key | (simp only [if_pos c_3]; exact key) | exact absurd rfl c_3)
def prX0_pricesOf (p1 : Int64) (C_size : Int32) (C_prices : Nat → Int32) : Prop := ∃ n, n ≤ 36 ∧ C_size = nI n
set_option maxHeartbeats 4000000 in
set_option maxRecDepth 100000 in
theorem c_X0_pricesOf (ad : Nat → Nat) (cA : Nat → ClassId) (p1 : Int64) (C_size : Int32) (C_prices : Nat → Int32) (hq : prX0_pricesOf p1 C_size C_prices) : ∀ (l : Launch) (D : va_G), gMl (S := Unit) l yX0_pricesOf wsX0_pricesOf rmX0_pricesOf D (gT cA) 0 0 [.ref (ad 1), .long p1] (wcX0_pricesOf ad cA C_size C_prices) (fun r _ => r = lI (prsA C_size.toNatClampNeg C_prices (sb p1))) (w1X0_pricesOf ad cA C_size C_prices) := by
  intro l D
  unfold prX0_pricesOf at hq
  refine g_enterl (cc := cX0_pricesOf) (nL := 6) (ret := (some .long)) (by decide) rfl (Nat.le_of_ble_eq_true rfl) rfl (fun X C E => ?_)
  obtain ⟨n, hn, rfl⟩ := hq
  rw [nI_clamp (by omega)] at E
  refine sgX0_pricesOf_0 C E ?_
  have loop : ∀ k, k ≤ n → atX0_pricesOf_5 X ad cA p1 (lI (sumZ (fun c => if sb p1 c = true then (C_prices c).toInt else 0) k)) (nI k) (nI n) C_prices := by
    intro k hk
    refine up_loop (P := fun k => atX0_pricesOf_5 X ad cA p1 (lI (sumZ (fun c => if sb p1 c = true then (C_prices c).toInt else 0) k)) (nI k) (nI n) C_prices) n ?_ (fun k hk ih => ?_) k hk
    · exact sgX0_pricesOf_5 C E ⟨fun _ => rfl, fun c => absurd (i32_le_refl _) c⟩
    · refine sgX0_pricesOf_5 C E ⟨fun c => absurd c (nI_ge hk (by omega)), fun _ => ?_⟩
      rw [holds_eq p1 (by omega), nI_clamp (by omega), nI_1]
      refine ⟨⟨fun _ => trivial, fun _ => vp_in_nI (by omega) (by decide)⟩, ?_⟩
      have e : (if sb p1 k = true then lI (sumZ (fun c => if sb p1 c = true then (C_prices c).toInt else 0) k) + (C_prices k).toInt64 else lI (sumZ (fun c => if sb p1 c = true then (C_prices c).toInt else 0) k)) = lI (sumZ (fun c => if sb p1 c = true then (C_prices c).toInt else 0) (k + 1)) := by
        simp only [sumZ]
        split
        · rw [i2l_lI, lI_add]
        · rw [Int.add_zero]
      rw [e]; exact ih
  exact loop 0 (Nat.zero_le _)


def rgtA (n : Nat) (hd : Nat → Int32) (S : Nat → Bool) : Bool := decide (∀ c, c < n → ¬ hd c = (if S c = true then 2 else 1))

abbrev w1X0_isRight (ad : Nat → Nat) (cA : Nat → ClassId) (C_size : Int32) (C_held : Nat → Int32) (u : Unit) : va_W := [((ad 1), .inr (0, [.ref (ad 2), .ref (ad 3), .ref (ad 4), .ref (ad 5), .ref (ad 6), .ref (ad 7), .int C_size])), ((ad 3), .inl (cA 0, 36, .inl C_held))]
abbrev wcX0_isRight (ad : Nat → Nat) (cA : Nat → ClassId) (C_size : Int32) (C_held : Nat → Int32) : va_W := [((ad 1), .inr (0, [.ref (ad 2), .ref (ad 3), .ref (ad 4), .ref (ad 5), .ref (ad 6), .ref (ad 7), .int C_size])), ((ad 3), .inl (cA 0, 36, .inl C_held))]
def rmX0_isRight : Room := { frames := 1, cells := 0, slots := 0, locals := 22 }
abbrev atX0_isRight_0 (X : gX) (ad : Nat → Nat) (cA : Nat → ClassId) (p1 : Int64) (C_size : Int32) (C_held : Nat → Int32) : Prop := gW X 0 0 [((ad 1), .inr (0, [.ref (ad 2), .ref (ad 3), .ref (ad 4), .ref (ad 5), .ref (ad 6), .ref (ad 7), .int C_size])), ((ad 3), .inl (cA 0, 36, .inl C_held))] 4 [(0, .ref (ad 1)), (1, .long p1)] [] 0
abbrev atX0_isRight_2 (X : gX) (ad : Nat → Nat) (cA : Nat → ClassId) (x1 : Int64) (x3 : Int32) (C_size : Int32) (C_held : Nat → Int32) : Prop := gW X 0 0 [((ad 1), .inr (0, [.ref (ad 2), .ref (ad 3), .ref (ad 4), .ref (ad 5), .ref (ad 6), .ref (ad 7), .int C_size])), ((ad 3), .inl (cA 0, 36, .inl C_held))] 4 [(0, .ref (ad 1)), (1, .long x1), (3, .int x3)] [] 2
theorem giX0_isRight_X0 : ∀ w ∈ u_ws RX0 TX0 7, w ∈ wsX0_isRight := by decide +kernel
theorem gfX0_isRight_30 : gF wsX0_isRight RX0 30 0 6 RX0 TX0 7 := ⟨giX0_isRight_X0, by decide +kernel, rfl, by decide⟩
theorem gfX0_isRight_15 : gF wsX0_isRight RX0 15 0 1 RX0 TX0 7 := ⟨giX0_isRight_X0, by decide +kernel, rfl, by decide⟩
set_option maxHeartbeats 4000000 in
set_option maxRecDepth 100000 in
theorem sgX0_isRight_0 {X : gX} {ad : Nat → Nat} {cA : Nat → ClassId} {post : Int32 → (Unit) → Prop} {p1 : Int64} {C_size : Int32} {C_held : Nat → Int32} (C : gC X (gT cA) cX0_isRight 4 RX0 wsX0_isRight rmX0_isRight) (E : gEi X (some .boolean) (gT cA) 0 0 post (w1X0_isRight ad cA C_size C_held)) (h : atX0_isRight_2 X ad cA p1 (0 : Int32) C_size C_held) : atX0_isRight_0 X ad cA p1 C_size C_held := by
  refine g_iconst C dX0_isRight_0 ik_0 ?_
  refine g_istore_n (lv2 := [(0, .ref (ad 1)), (1, .long p1), (3, .int (0 : Int32))]) C dX0_isRight_1 rfl (by decide) [1, 2, 0] rfl ?_
  exact g_lv [0, 1, 2] rfl h
set_option maxHeartbeats 4000000 in
set_option maxRecDepth 100000 in
theorem sgX0_isRight_2 {X : gX} {ad : Nat → Nat} {cA : Nat → ClassId} {post : Int32 → (Unit) → Prop} {x1 : Int64} {x3 : Int32} {C_size : Int32} {C_held : Nat → Int32} (C : gC X (gT cA) cX0_isRight 4 RX0 wsX0_isRight rmX0_isRight) (E : gEi X (some .boolean) (gT cA) 0 0 post (w1X0_isRight ad cA C_size C_held)) (h : (C_size ≤ x3 → post (1 : Int32) ()) ∧ (¬ C_size ≤ x3 → vp_in x3 36 ∧ (¬ (C_held x3.toNatClampNeg) = (if (fnX0_holds x1 x3) = true then (2 : Int32) else (1 : Int32)) → atX0_isRight_2 X ad cA x1 (x3 + 1) C_size C_held) ∧ ((C_held x3.toNatClampNeg) = (if (fnX0_holds x1 x3) = true then (2 : Int32) else (1 : Int32)) → post (0 : Int32) ()))) : atX0_isRight_2 X ad cA x1 x3 C_size C_held := by
  refine g_iload_n C dX0_isRight_2 rfl 2 rfl ?_
  refine g_aload_n C dX0_isRight_3 rfl 0 rfl ?_
  refine g_get C gfX0_isRight_30 0 rfl rfl dX0_isRight_4 ?_
  refine g_icmp_ge (tgt := 40) C dX0_isRight_7 (by decide) (fun c_1 => ?_) (fun c_1 => ?_)
  · replace h := h.1 c_1
    refine g_iconst C dX0_isRight_40 ik_1 ?_
    exact g_zret C E rfl () h rfl dX0_isRight_41
  · replace h := h.2 c_1
    refine g_aload_n C dX0_isRight_10 rfl 0 rfl ?_
    refine g_get C gfX0_isRight_15 0 rfl rfl dX0_isRight_11 ?_
    refine g_iload_n C dX0_isRight_14 rfl 2 rfl ?_
    obtain ⟨hi_2, h⟩ := h
    refine g_iald C 1 0 rfl rfl hi_2 dX0_isRight_15 ?_
    refine g_lload_n C dX0_isRight_16 rfl 1 rfl ?_
    refine g_iload_n C dX0_isRight_17 rfl 2 rfl ?_
    refine g_callSi (b := 0) (wr := [((ad 1), .inr (0, [.ref (ad 2), .ref (ad 3), .ref (ad 4), .ref (ad 5), .ref (ad 6), .ref (ad 7), .int C_size])), ((ad 3), .inl (cA 0, 36, .inl C_held))]) C (c_X0_holds ad cA x1 x3) gX0_isRight_X0_holds rfl hde_X0_holds ⟨rfl, rfl⟩ (by decide) (by decide) [] [0, 1] [0, 1] rfl rfl rfl rfl (by decide) rfl (ws2 := fun u => [((ad 1), .inr (0, [.ref (ad 2), .ref (ad 3), .ref (ad 4), .ref (ad 5), .ref (ad 6), .ref (ad 7), .int C_size])), ((ad 3), .inl (cA 0, 36, .inl C_held))]) (fun _ => rfl) (rest := [.int (C_held x3.toNatClampNeg)]) rfl (Nat.le_of_ble_eq_true rfl) dX0_isRight_18 (fun r_3 u_3 hp_3 => ?_)
    subst hp_3
    change gW X 0 0 [((ad 1), .inr (0, [.ref (ad 2), .ref (ad 3), .ref (ad 4), .ref (ad 5), .ref (ad 6), .ref (ad 7), .int C_size])), ((ad 3), .inl (cA 0, 36, .inl C_held))] 4 [(0, .ref (ad 1)), (1, .long x1), (3, .int x3)] [.int (bI (fnX0_holds x1 x3)), .int (C_held x3.toNatClampNeg)] 21
    have key : gW X 0 0 [((ad 1), .inr (0, [.ref (ad 2), .ref (ad 3), .ref (ad 4), .ref (ad 5), .ref (ad 6), .ref (ad 7), .int C_size])), ((ad 3), .inl (cA 0, 36, .inl C_held))] 4 [(0, .ref (ad 1)), (1, .long x1), (3, .int x3)] [.int (if (fnX0_holds x1 x3) = true then (2 : Int32) else (1 : Int32)), .int (C_held x3.toNatClampNeg)] 29 := by
      refine g_icmp_ne (tgt := 34) C dX0_isRight_29 (by decide) (fun c_5 => ?_) (fun c_5 => ?_)
      · replace h := h.1 c_5
        refine g_iinc (v := (x3 + 1)) (lv2 := [(0, .ref (ad 1)), (1, .long x1), (3, .int (x3 + 1))]) C dX0_isRight_34 2 rfl (by first | rfl | decide) (by decide) [1, 2, 0] rfl ?_
        refine g_goto (tgt := 2) C dX0_isRight_37 (by decide) ?_
        exact g_lv [0, 1, 2] rfl h
      · replace h := h.2 c_5
        refine g_iconst C dX0_isRight_32 ik_0 ?_
        exact g_zret C E rfl () h rfl dX0_isRight_33
    refine g_ifeq_b (tgt := 28) C dX0_isRight_21 (by decide) (fun c_4 => ?_) (fun c_4 => ?_)
    · refine g_iconst C dX0_isRight_28 ik_1 ?_
      exact g_leaf (by simp only [if_neg (show ¬ (fnX0_holds x1 x3) = true from by rw [c_4]; decide)] at key; first | exact key | (simp only [if_neg (show ¬ (fnX0_holds x1 x3) = true from by rw [c_4]; decide)]; exact key))
    · refine g_iconst C dX0_isRight_24 ik_2 ?_
      refine g_goto (tgt := 29) C dX0_isRight_25 (by decide) ?_
      exact g_leaf (by simp only [if_pos c_4] at key; first | exact key | (simp only [if_pos c_4]; exact key) | exact absurd rfl c_4)
def prX0_isRight (p1 : Int64) (C_size : Int32) (C_held : Nat → Int32) : Prop := ∃ n, n ≤ 36 ∧ C_size = nI n
set_option maxHeartbeats 4000000 in
set_option maxRecDepth 100000 in
theorem c_X0_isRight (ad : Nat → Nat) (cA : Nat → ClassId) (p1 : Int64) (C_size : Int32) (C_held : Nat → Int32) (hq : prX0_isRight p1 C_size C_held) : ∀ (l : Launch) (D : va_G), gMi (S := Unit) l yX0_isRight wsX0_isRight rmX0_isRight D (gT cA) 0 0 [.ref (ad 1), .long p1] (wcX0_isRight ad cA C_size C_held) (fun r _ => r = bI (rgtA C_size.toNatClampNeg C_held (sb p1))) (w1X0_isRight ad cA C_size C_held) := by
  intro l D
  unfold prX0_isRight at hq
  refine g_enteri (cc := cX0_isRight) (nL := 4) (ret := (some .boolean)) (by decide) rfl (Nat.le_of_ble_eq_true rfl) rfl (fun X C E => ?_)
  obtain ⟨n, hn, rfl⟩ := hq
  rw [nI_clamp (by omega)] at E
  refine sgX0_isRight_0 C E ?_
  have loop : ∀ k, k ≤ n → (∀ c, c < k → ¬ C_held c = (if sb p1 c = true then 2 else 1)) → atX0_isRight_2 X ad cA p1 (nI k) (nI n) C_held := by
    intro k hk
    refine up_loop (P := fun k => (∀ c, c < k → ¬ C_held c = (if sb p1 c = true then 2 else 1)) → atX0_isRight_2 X ad cA p1 (nI k) (nI n) C_held) n ?_ (fun k hk ih hi => ?_) k hk
    · intro hi
      refine sgX0_isRight_2 C E ⟨fun _ => ?_, fun c => absurd (i32_le_refl _) c⟩
      rw [rgtA, decide_eq_true hi]; rfl
    · refine sgX0_isRight_2 C E ⟨fun c => absurd c (nI_ge hk (by omega)), fun _ => ?_⟩
      rw [holds_eq p1 (by omega), nI_clamp (by omega), nI_1]
      refine ⟨vp_in_nI (by omega) (by decide), fun c => ih (fun a ha => ?_), fun c => ?_⟩
      · rcases Nat.lt_or_ge a k with q | q
        · exact hi a q
        · have e : a = k := by omega
          rw [e]; exact c
      · rw [rgtA, decide_eq_false (fun q => q k hk c)]; rfl
  exact loop 0 (Nat.zero_le _) (fun c hc => absurd hc (Nat.not_lt_zero c))

