theorem bk_64 : (Int8.ofInt (64)).toInt32 = (64 : Int32) := by decide
theorem hde_J7_fill_53178 : yJ7_fill_53178.cls ≠ "java/lang/invoke/MethodHandle" ∧ yJ7_fill_53178.cls ≠ "java/lang/invoke/VarHandle" ∧ (parseMethodDescriptor yJ7_fill_53178.desc).map (fun d => d.parameters.length) = some 2 := by decide +kernel
theorem hde_X4_in : yX4_in.cls ≠ "java/lang/invoke/MethodHandle" ∧ yX4_in.cls ≠ "java/lang/invoke/VarHandle" ∧ (parseMethodDescriptor yX4_in.desc).map (fun d => d.parameters.length) = some 3 := by decide +kernel
theorem hde_X4_puts : yX4_puts.cls = RX4 ∧ yX4_puts.cls ≠ "java/lang/invoke/MethodHandle" ∧ yX4_puts.cls ≠ "java/lang/invoke/VarHandle" ∧ (parseMethodDescriptor yX4_puts.desc).map (fun d => d.parameters.length) = some 2 := by decide +kernel
theorem hde_X4_size : yX4_size.cls ≠ "java/lang/invoke/MethodHandle" ∧ yX4_size.cls ≠ "java/lang/invoke/VarHandle" ∧ (parseMethodDescriptor yX4_size.desc).map (fun d => d.parameters.length) = some 1 := by decide +kernel
theorem hde_X4_slackOf : yX4_slackOf.cls = RX4 ∧ yX4_slackOf.cls ≠ "java/lang/invoke/MethodHandle" ∧ yX4_slackOf.cls ≠ "java/lang/invoke/VarHandle" ∧ (parseMethodDescriptor yX4_slackOf.desc).map (fun d => d.parameters.length) = some 0 := by decide +kernel
theorem hde_X4_stepOf : yX4_stepOf.cls = RX4 ∧ yX4_stepOf.cls ≠ "java/lang/invoke/MethodHandle" ∧ yX4_stepOf.cls ≠ "java/lang/invoke/VarHandle" ∧ (parseMethodDescriptor yX4_stepOf.desc).map (fun d => d.parameters.length) = some 2 := by decide +kernel
def rimI (w h x y : Nat) : Int32 := if x = 0 then 1 else if y = 0 then 1 else if x + 1 = w then 1 else if y + 1 = h then 1 else 0
theorem nI_e0 {x : Nat} (h : x < 2 ^ 31) : nI x = 0 ↔ x = 0 := nI_eq (b := 0) h (by decide)
theorem rim_m {w h x y : Nat} (hw : 2 ≤ w) (hw8 : w ≤ 8) (hh : 2 ≤ h) (hh8 : h ≤ 8) (hx : x < 8) (hy : y < 8) : vp_nar .boolean (if nI x = 0 then (1 : Int32) else (if nI y = 0 then (1 : Int32) else (if nI x = (nI w - (1 : Int32)) then (1 : Int32) else (if nI y = (nI h - (1 : Int32)) then (1 : Int32) else (0 : Int32))))) = rimI w h x y := by
  have e1 : nI w - 1 = nI (w - 1) := pk_sub (b := 1) (by omega)
  have e2 : nI h - 1 = nI (h - 1) := pk_sub (b := 1) (by omega)
  have e3 : (x = w - 1) = (x + 1 = w) := propext ⟨fun _ => by omega, fun _ => by omega⟩
  have e4 : (y = h - 1) = (y + 1 = h) := propext ⟨fun _ => by omega, fun _ => by omega⟩
  have e5 : (nI x = nI (w - 1)) = (x = w - 1) := propext (nI_eq (by omega) (by omega))
  have e6 : (nI y = nI (h - 1)) = (y = h - 1) := propext (nI_eq (by omega) (by omega))
  have e7 : (nI x = 0) = (x = 0) := propext (nI_e0 (by omega))
  have e8 : (nI y = 0) = (y = 0) := propext (nI_e0 (by omega))
  unfold rimI
  simp only [e1, e2, e5, e6, e7, e8, e3, e4]
  (repeat' split) <;> rfl

abbrev w1X2_spread (ad : Nat → Nat) (cA : Nat → ClassId) (u : (Int32) × (Int32) × (Nat → Int32) × (Nat → Int32)) : va_W := [((ad 15), .inr (2, [.ref (ad 16), .ref (ad 17), .ref (ad 18), .int u.1, .int u.2.1])), ((ad 16), .inl (cA 0, 64, .inl u.2.2.1)), ((ad 17), .inl (cA 2, 64, .inl u.2.2.2))]
abbrev wcX2_spread (ad : Nat → Nat) (cA : Nat → ClassId) (P_wide : Int32) (P_high : Int32) (P_heights : Nat → Int32) (P_pinned : Nat → Int32) : va_W := [((ad 15), .inr (2, [.ref (ad 16), .ref (ad 17), .ref (ad 18), .int P_wide, .int P_high])), ((ad 16), .inl (cA 0, 64, .inl P_heights)), ((ad 17), .inl (cA 2, 64, .inl P_pinned))]
def rmX2_spread : Room := { frames := 1, cells := 0, slots := 0, locals := 23 }
abbrev atX2_spread_0 (X : gX) (ad : Nat → Nat) (cA : Nat → ClassId) (p1 : Int32) (p2 : Int32) (P_wide : Int32) (P_high : Int32) (P_heights : Nat → Int32) (P_pinned : Nat → Int32) : Prop := gW X 0 0 [((ad 15), .inr (2, [.ref (ad 16), .ref (ad 17), .ref (ad 18), .int P_wide, .int P_high])), ((ad 16), .inl (cA 0, 64, .inl P_heights)), ((ad 17), .inl (cA 2, 64, .inl P_pinned))] 5 [(0, .ref (ad 15)), (1, .int p1), (2, .int p2)] [] 0
abbrev atX2_spread_20 (X : gX) (ad : Nat → Nat) (cA : Nat → ClassId) (x1 : Int32) (x2 : Int32) (x3 : Int32) (P_wide : Int32) (P_high : Int32) (P_heights : Nat → Int32) (P_pinned : Nat → Int32) : Prop := gW X 0 0 [((ad 15), .inr (2, [.ref (ad 16), .ref (ad 17), .ref (ad 18), .int P_wide, .int P_high])), ((ad 16), .inl (cA 0, 64, .inl P_heights)), ((ad 17), .inl (cA 2, 64, .inl P_pinned))] 5 [(0, .ref (ad 15)), (1, .int x1), (2, .int x2), (3, .int x3)] [] 20
abbrev atX2_spread_28 (X : gX) (ad : Nat → Nat) (cA : Nat → ClassId) (x1 : Int32) (x2 : Int32) (x3 : Int32) (x4 : Int32) (P_wide : Int32) (P_high : Int32) (P_heights : Nat → Int32) (P_pinned : Nat → Int32) : Prop := gW X 0 0 [((ad 15), .inr (2, [.ref (ad 16), .ref (ad 17), .ref (ad 18), .int P_wide, .int P_high])), ((ad 16), .inl (cA 0, 64, .inl P_heights)), ((ad 17), .inl (cA 2, 64, .inl P_pinned))] 5 [(0, .ref (ad 15)), (1, .int x1), (2, .int x2), (3, .int x3), (4, .int x4)] [] 28
theorem giX2_spread_X2 : ∀ w ∈ u_ws RX2 TX2 5, w ∈ wsX2_spread := by decide +kernel
theorem gfX2_spread_22 : gF wsX2_spread RX2 22 2 3 RX2 TX2 5 := ⟨giX2_spread_X2, by decide +kernel, rfl, by decide⟩
theorem gfX2_spread_26 : gF wsX2_spread RX2 26 2 4 RX2 TX2 5 := ⟨giX2_spread_X2, by decide +kernel, rfl, by decide⟩
theorem gfX2_spread_9 : gF wsX2_spread RX2 9 2 0 RX2 TX2 5 := ⟨giX2_spread_X2, by decide +kernel, rfl, by decide⟩
theorem gfX2_spread_15 : gF wsX2_spread RX2 15 2 1 RX2 TX2 5 := ⟨giX2_spread_X2, by decide +kernel, rfl, by decide⟩
set_option maxHeartbeats 4000000 in
set_option maxRecDepth 100000 in
theorem sgX2_spread_0 {X : gX} {ad : Nat → Nat} {cA : Nat → ClassId} {post : ((Int32) × (Int32) × (Nat → Int32) × (Nat → Int32)) → Prop} {p1 : Int32} {p2 : Int32} {P_wide : Int32} {P_high : Int32} {P_heights : Nat → Int32} {P_pinned : Nat → Int32} (C : gC X (gT cA) cX2_spread 5 RX2 wsX2_spread rmX2_spread) (E : gEv X none (gT cA) 0 0 post (w1X2_spread ad cA)) (h : prJ7_fill_53178 (ad 16) 64 (0 : Int32) P_heights ∧ atX2_spread_20 X ad cA p1 p2 (0 : Int32) p1 p2 (fillA 64 (0 : Int32) P_heights) P_pinned) : atX2_spread_0 X ad cA p1 p2 P_wide P_high P_heights P_pinned := by
  refine g_aload_n C dX2_spread_0 rfl 0 rfl ?_
  refine g_iload_n C dX2_spread_1 rfl 1 rfl ?_
  refine g_put (ws2 := [((ad 15), .inr (2, [.ref (ad 16), .ref (ad 17), .ref (ad 18), .int p1, .int P_high])), ((ad 16), .inl (cA 0, 64, .inl P_heights)), ((ad 17), .inl (cA 2, 64, .inl P_pinned))]) C gfX2_spread_22 0 tyX2_ok nmX2 rfl rfl rfl rfl (Nat.le_of_ble_eq_true rfl) rfl dX2_spread_2 ?_
  refine g_aload_n C dX2_spread_5 rfl 0 rfl ?_
  refine g_iload_n C dX2_spread_6 rfl 2 rfl ?_
  refine g_put (ws2 := [((ad 15), .inr (2, [.ref (ad 16), .ref (ad 17), .ref (ad 18), .int p1, .int p2])), ((ad 16), .inl (cA 0, 64, .inl P_heights)), ((ad 17), .inl (cA 2, 64, .inl P_pinned))]) C gfX2_spread_26 0 tyX2_ok nmX2 rfl rfl rfl rfl (Nat.le_of_ble_eq_true rfl) rfl dX2_spread_7 ?_
  refine g_aload_n C dX2_spread_10 rfl 0 rfl ?_
  refine g_get C gfX2_spread_9 0 rfl rfl dX2_spread_11 ?_
  refine g_iconst C dX2_spread_14 ik_0 ?_
  obtain ⟨hi_1, h⟩ := h
  refine g_callSv (b := 0) (wr := [((ad 15), .inr (2, [.ref (ad 16), .ref (ad 17), .ref (ad 18), .int p1, .int p2])), ((ad 17), .inl (cA 2, 64, .inl P_pinned))]) C (c_J7_fill_53178 ad cA (ad 16) 64 (0 : Int32) P_heights hi_1) gX2_spread_J7_fill_53178 rfl hde_J7_fill_53178 ⟨rfl, rfl⟩ (by decide) (by decide) [1] [0, 2] [0, 2, 1] rfl rfl rfl rfl (by decide) rfl (ws2 := fun u => [((ad 15), .inr (2, [.ref (ad 16), .ref (ad 17), .ref (ad 18), .int p1, .int p2])), ((ad 16), .inl (cA 0, 64, .inl u)), ((ad 17), .inl (cA 2, 64, .inl P_pinned))]) (fun _ => rfl) (rest := []) rfl (Nat.le_of_ble_eq_true rfl) dX2_spread_15 (fun u_2 hp_2 => ?_)
  subst hp_2
  change gW X 0 0 [((ad 15), .inr (2, [.ref (ad 16), .ref (ad 17), .ref (ad 18), .int p1, .int p2])), ((ad 16), .inl (cA 0, 64, .inl (fillA 64 (0 : Int32) P_heights))), ((ad 17), .inl (cA 2, 64, .inl P_pinned))] 5 [(0, .ref (ad 15)), (1, .int p1), (2, .int p2)] [] 18
  refine g_iconst C dX2_spread_18 ik_0 ?_
  refine g_istore_n (lv2 := [(0, .ref (ad 15)), (1, .int p1), (2, .int p2), (3, .int (0 : Int32))]) C dX2_spread_19 rfl (by decide) [1, 2, 3, 0] rfl ?_
  exact g_lv [0, 1, 2, 3] rfl h
set_option maxHeartbeats 4000000 in
set_option maxRecDepth 100000 in
theorem sgX2_spread_20 {X : gX} {ad : Nat → Nat} {cA : Nat → ClassId} {post : ((Int32) × (Int32) × (Nat → Int32) × (Nat → Int32)) → Prop} {x1 : Int32} {x2 : Int32} {x3 : Int32} {P_wide : Int32} {P_high : Int32} {P_heights : Nat → Int32} {P_pinned : Nat → Int32} (C : gC X (gT cA) cX2_spread 5 RX2 wsX2_spread rmX2_spread) (E : gEv X none (gT cA) 0 0 post (w1X2_spread ad cA)) (h : (x2 ≤ x3 → post (P_wide, P_high, P_heights, P_pinned)) ∧ (¬ x2 ≤ x3 → atX2_spread_28 X ad cA x1 x2 x3 (0 : Int32) P_wide P_high P_heights P_pinned)) : atX2_spread_20 X ad cA x1 x2 x3 P_wide P_high P_heights P_pinned := by
  refine g_iload_n C dX2_spread_20 rfl 3 rfl ?_
  refine g_iload_n C dX2_spread_21 rfl 2 rfl ?_
  refine g_icmp_ge (tgt := 87) C dX2_spread_22 (by decide) (fun c_3 => ?_) (fun c_3 => ?_)
  · replace h := h.1 c_3
    exact g_vret C E (P_wide, P_high, P_heights, P_pinned) h rfl dX2_spread_87
  · replace h := h.2 c_3
    refine g_iconst C dX2_spread_25 ik_0 ?_
    refine g_istore (lv2 := [(0, .ref (ad 15)), (1, .int x1), (2, .int x2), (3, .int x3), (4, .int (0 : Int32))]) C dX2_spread_26 (by decide) [1, 2, 3, 4, 0] rfl ?_
    exact g_lv [0, 1, 2, 3, 4] rfl h
set_option maxHeartbeats 4000000 in
set_option maxRecDepth 100000 in
theorem sgX2_spread_28 {X : gX} {ad : Nat → Nat} {cA : Nat → ClassId} {post : ((Int32) × (Int32) × (Nat → Int32) × (Nat → Int32)) → Prop} {x1 : Int32} {x2 : Int32} {x3 : Int32} {x4 : Int32} {P_wide : Int32} {P_high : Int32} {P_heights : Nat → Int32} {P_pinned : Nat → Int32} (C : gC X (gT cA) cX2_spread 5 RX2 wsX2_spread rmX2_spread) (E : gEv X none (gT cA) 0 0 post (w1X2_spread ad cA)) (h : (x1 ≤ x4 → atX2_spread_20 X ad cA x1 x2 (x3 + 1) P_wide P_high P_heights P_pinned) ∧ (¬ x1 ≤ x4 → vp_in (fnX2_at x4 x3 P_wide P_high) 64 ∧ atX2_spread_28 X ad cA x1 x2 x3 (x4 + 1) P_wide P_high P_heights (upd P_pinned (fnX2_at x4 x3 P_wide P_high).toNatClampNeg (vp_nar .boolean (if x4 = 0 then (1 : Int32) else (if x3 = 0 then (1 : Int32) else (if x4 = (x1 - (1 : Int32)) then (1 : Int32) else (if x3 = (x2 - (1 : Int32)) then (1 : Int32) else (0 : Int32))))))))) : atX2_spread_28 X ad cA x1 x2 x3 x4 P_wide P_high P_heights P_pinned := by
  refine g_iload C dX2_spread_28 4 rfl ?_
  refine g_iload_n C dX2_spread_30 rfl 1 rfl ?_
  refine g_icmp_ge (tgt := 81) C dX2_spread_31 (by decide) (fun c_4 => ?_) (fun c_4 => ?_)
  · replace h := h.1 c_4
    refine g_iinc (v := (x3 + 1)) (lv2 := [(0, .ref (ad 15)), (1, .int x1), (2, .int x2), (3, .int (x3 + 1)), (4, .int x4)]) C dX2_spread_81 3 rfl (by first | rfl | decide) (by decide) [1, 2, 3, 0, 4] rfl ?_
    refine g_goto (tgt := 20) C dX2_spread_84 (by decide) ?_
    exact g_lv [0, 1, 2, 3] rfl h
  · replace h := h.2 c_4
    refine g_aload_n C dX2_spread_34 rfl 0 rfl ?_
    refine g_get C gfX2_spread_15 0 rfl rfl dX2_spread_35 ?_
    refine g_aload_n C dX2_spread_38 rfl 0 rfl ?_
    refine g_iload C dX2_spread_39 4 rfl ?_
    refine g_iload_n C dX2_spread_41 rfl 3 rfl ?_
    refine g_callVi (wr := [((ad 16), .inl (cA 0, 64, .inl P_heights)), ((ad 17), .inl (cA 2, 64, .inl P_pinned))]) C (c_X2_at ad cA x4 x3 P_wide P_high) gX2_spread_X2_at rfl hde_X2_at ⟨rfl, rfl⟩ (by decide) (by decide) [0] [1, 2] [2, 0, 1] rfl rfl rfl rfl (by decide) rfl (ws2 := fun u => [((ad 15), .inr (2, [.ref (ad 16), .ref (ad 17), .ref (ad 18), .int P_wide, .int P_high])), ((ad 16), .inl (cA 0, 64, .inl P_heights)), ((ad 17), .inl (cA 2, 64, .inl P_pinned))]) (fun _ => rfl) 2 0 rfl rfl rfl (rest := [.ref (ad 17)]) rfl (Nat.le_of_ble_eq_true rfl) dX2_spread_42 (fun r_5 u_5 hp_5 => ?_)
    subst hp_5
    change gW X 0 0 [((ad 15), .inr (2, [.ref (ad 16), .ref (ad 17), .ref (ad 18), .int P_wide, .int P_high])), ((ad 16), .inl (cA 0, 64, .inl P_heights)), ((ad 17), .inl (cA 2, 64, .inl P_pinned))] 5 [(0, .ref (ad 15)), (1, .int x1), (2, .int x2), (3, .int x3), (4, .int x4)] [.int (fnX2_at x4 x3 P_wide P_high), .ref (ad 17)] 45
    refine g_iload C dX2_spread_45 4 rfl ?_
    have key : gW X 0 0 [((ad 15), .inr (2, [.ref (ad 16), .ref (ad 17), .ref (ad 18), .int P_wide, .int P_high])), ((ad 16), .inl (cA 0, 64, .inl P_heights)), ((ad 17), .inl (cA 2, 64, .inl P_pinned))] 5 [(0, .ref (ad 15)), (1, .int x1), (2, .int x2), (3, .int x3), (4, .int x4)] [.int (if x4 = 0 then (1 : Int32) else (if x3 = 0 then (1 : Int32) else (if x4 = (x1 - (1 : Int32)) then (1 : Int32) else (if x3 = (x2 - (1 : Int32)) then (1 : Int32) else (0 : Int32))))), .int (fnX2_at x4 x3 P_wide P_high), .ref (ad 17)] 74 := by
      obtain ⟨hi_10, h⟩ := h
      refine g_zast (ws2 := [((ad 15), .inr (2, [.ref (ad 16), .ref (ad 17), .ref (ad 18), .int P_wide, .int P_high])), ((ad 16), .inl (cA 0, 64, .inl P_heights)), ((ad 17), .inl (cA 2, 64, .inl (upd P_pinned (fnX2_at x4 x3 P_wide P_high).toNatClampNeg (vp_nar .boolean (if x4 = 0 then (1 : Int32) else (if x3 = 0 then (1 : Int32) else (if x4 = (x1 - (1 : Int32)) then (1 : Int32) else (if x3 = (x2 - (1 : Int32)) then (1 : Int32) else (0 : Int32)))))))))]) C 2 2 rfl rfl hi_10 rfl dX2_spread_74 ?_
      refine g_iinc (v := (x4 + 1)) (lv2 := [(0, .ref (ad 15)), (1, .int x1), (2, .int x2), (3, .int x3), (4, .int (x4 + 1))]) C dX2_spread_75 4 rfl (by first | rfl | decide) (by decide) [1, 2, 3, 4, 0] rfl ?_
      refine g_goto (tgt := 28) C dX2_spread_78 (by decide) ?_
      exact g_lv [0, 1, 2, 3, 4] rfl h
    refine g_if_eq (tgt := 69) C dX2_spread_47 (by decide) (fun c_6 => ?_) (fun c_6 => ?_)
    · refine g_iconst C dX2_spread_69 ik_1 ?_
      refine g_goto (tgt := 74) C dX2_spread_70 (by decide) ?_
      exact g_leaf (by simp only [if_pos c_6] at key; first | exact key | (simp only [if_pos c_6]; exact key) | exact absurd rfl c_6)
    · refine g_iload_n C dX2_spread_50 rfl 3 rfl ?_
      have key : gW X 0 0 [((ad 15), .inr (2, [.ref (ad 16), .ref (ad 17), .ref (ad 18), .int P_wide, .int P_high])), ((ad 16), .inl (cA 0, 64, .inl P_heights)), ((ad 17), .inl (cA 2, 64, .inl P_pinned))] 5 [(0, .ref (ad 15)), (1, .int x1), (2, .int x2), (3, .int x3), (4, .int x4)] [.int (if x3 = 0 then (1 : Int32) else (if x4 = (x1 - (1 : Int32)) then (1 : Int32) else (if x3 = (x2 - (1 : Int32)) then (1 : Int32) else (0 : Int32)))), .int (fnX2_at x4 x3 P_wide P_high), .ref (ad 17)] 74 := by
        exact g_leaf (by simp only [if_neg c_6] at key; first | exact key | (simp only [if_neg c_6]; exact key) | exact absurd rfl c_6)
      refine g_if_eq (tgt := 69) C dX2_spread_51 (by decide) (fun c_7 => ?_) (fun c_7 => ?_)
      · refine g_iconst C dX2_spread_69 ik_1 ?_
        refine g_goto (tgt := 74) C dX2_spread_70 (by decide) ?_
        exact g_leaf (by simp only [if_pos c_7] at key; first | exact key | (simp only [if_pos c_7]; exact key) | exact absurd rfl c_7)
      · refine g_iload C dX2_spread_54 4 rfl ?_
        refine g_iload_n C dX2_spread_56 rfl 1 rfl ?_
        refine g_iconst C dX2_spread_57 ik_1 ?_
        refine g_isub C dX2_spread_58 ?_
        have key : gW X 0 0 [((ad 15), .inr (2, [.ref (ad 16), .ref (ad 17), .ref (ad 18), .int P_wide, .int P_high])), ((ad 16), .inl (cA 0, 64, .inl P_heights)), ((ad 17), .inl (cA 2, 64, .inl P_pinned))] 5 [(0, .ref (ad 15)), (1, .int x1), (2, .int x2), (3, .int x3), (4, .int x4)] [.int (if x4 = (x1 - (1 : Int32)) then (1 : Int32) else (if x3 = (x2 - (1 : Int32)) then (1 : Int32) else (0 : Int32))), .int (fnX2_at x4 x3 P_wide P_high), .ref (ad 17)] 74 := by
          exact g_leaf (by simp only [if_neg c_7] at key; first | exact key | (simp only [if_neg c_7]; exact key) | exact absurd rfl c_7)
        refine g_icmp_eq (tgt := 69) C dX2_spread_59 (by decide) (fun c_8 => ?_) (fun c_8 => ?_)
        · refine g_iconst C dX2_spread_69 ik_1 ?_
          refine g_goto (tgt := 74) C dX2_spread_70 (by decide) ?_
          exact g_leaf (by simp only [if_pos c_8] at key; first | exact key | (simp only [if_pos c_8]; exact key) | exact absurd rfl c_8)
        · refine g_iload_n C dX2_spread_62 rfl 3 rfl ?_
          refine g_iload_n C dX2_spread_63 rfl 2 rfl ?_
          refine g_iconst C dX2_spread_64 ik_1 ?_
          refine g_isub C dX2_spread_65 ?_
          have key : gW X 0 0 [((ad 15), .inr (2, [.ref (ad 16), .ref (ad 17), .ref (ad 18), .int P_wide, .int P_high])), ((ad 16), .inl (cA 0, 64, .inl P_heights)), ((ad 17), .inl (cA 2, 64, .inl P_pinned))] 5 [(0, .ref (ad 15)), (1, .int x1), (2, .int x2), (3, .int x3), (4, .int x4)] [.int (if x3 = (x2 - (1 : Int32)) then (1 : Int32) else (0 : Int32)), .int (fnX2_at x4 x3 P_wide P_high), .ref (ad 17)] 74 := by
            exact g_leaf (by simp only [if_neg c_8] at key; first | exact key | (simp only [if_neg c_8]; exact key) | exact absurd rfl c_8)
          refine g_icmp_ne (tgt := 73) C dX2_spread_66 (by decide) (fun c_9 => ?_) (fun c_9 => ?_)
          · refine g_iconst C dX2_spread_73 ik_0 ?_
            exact g_leaf (by simp only [if_neg c_9] at key; first | exact key | (simp only [if_neg c_9]; exact key) | exact absurd rfl c_9)
          · refine g_iconst C dX2_spread_69 ik_1 ?_
            refine g_goto (tgt := 74) C dX2_spread_70 (by decide) ?_
            exact g_leaf (by simp only [if_pos c_9] at key; first | exact key | (simp only [if_pos c_9]; exact key) | exact absurd rfl c_9)
def prX2_spread (p1 : Int32) (p2 : Int32) (P_wide : Int32) (P_high : Int32) (P_heights : Nat → Int32) (P_pinned : Nat → Int32) : Prop := netOK p1 p2
def po_X2_spread (ad : Nat → Nat) (cA : Nat → ClassId) (p1 : Int32) (p2 : Int32) (P_wide : Int32) (P_high : Int32) (P_heights : Nat → Int32) (P_pinned : Nat → Int32) (u : (Int32) × (Int32) × (Nat → Int32) × (Nat → Int32)) : Prop := u.1 = p1 ∧ u.2.1 = p2 ∧ u.2.2.1 = fillA 64 0 P_heights ∧ ∀ y, y < p2.toNatClampNeg → ∀ x, x < p1.toNatClampNeg → u.2.2.2 (8 * y + x) = rimI p1.toNatClampNeg p2.toNatClampNeg x y
set_option maxHeartbeats 4000000 in
set_option maxRecDepth 100000 in
theorem c_X2_spread (ad : Nat → Nat) (cA : Nat → ClassId) (p1 : Int32) (p2 : Int32) (P_wide : Int32) (P_high : Int32) (P_heights : Nat → Int32) (P_pinned : Nat → Int32) (hq : prX2_spread p1 p2 P_wide P_high P_heights P_pinned) : ∀ (l : Launch) (D : va_G), gMv (S := (Int32) × (Int32) × (Nat → Int32) × (Nat → Int32)) l yX2_spread wsX2_spread rmX2_spread D (gT cA) 0 0 [.ref (ad 15), .int p1, .int p2] (wcX2_spread ad cA P_wide P_high P_heights P_pinned) (po_X2_spread ad cA p1 p2 P_wide P_high P_heights P_pinned) (w1X2_spread ad cA) := by
  intro l D
  unfold prX2_spread at hq
  refine g_enterv (cc := cX2_spread) (nL := 5) (ret := none) (by decide) rfl (Nat.le_of_ble_eq_true rfl) rfl (fun X C E => ?_)
  obtain ⟨w, h, hw2, hw, hh2, hh, rfl, rfl⟩ := hq
  refine sgX2_spread_0 C E ⟨(by decide : 64 < 2147483648), ?_⟩
  have hpo : ∀ (pin : Nat → Int32), (∀ y, y < h → ∀ x, x < w → pin (8 * y + x) = rimI w h x y) → po_X2_spread ad cA (nI w) (nI h) P_wide P_high P_heights P_pinned (nI w, nI h, fillA 64 0 P_heights, pin) := fun pin e => by
    refine ⟨rfl, rfl, rfl, ?_⟩
    rw [nI_clamp (by omega), nI_clamp (by omega)]; exact e
  have outer : ∀ y, y ≤ h → ∀ pin, (∀ b, b < y → ∀ x, x < w → pin (8 * b + x) = rimI w h x b) → atX2_spread_20 X ad cA (nI w) (nI h) (nI y) (nI w) (nI h) (fillA 64 0 P_heights) pin := by
    intro y hy
    refine up_loop (P := fun y => ∀ pin, (∀ b, b < y → ∀ x, x < w → pin (8 * b + x) = rimI w h x b) → atX2_spread_20 X ad cA (nI w) (nI h) (nI y) (nI w) (nI h) (fillA 64 0 P_heights) pin) h ?_ (fun y hy ih pin hi => ?_) y hy
    · exact fun pin hi => sgX2_spread_20 C E ⟨fun _ => hpo pin hi, fun c => absurd (i32_le_refl _) c⟩
    · refine sgX2_spread_20 C E ⟨fun c => absurd c (nI_ge hy (by omega)), fun _ => ?_⟩
      have inner : ∀ x, x ≤ w → ∀ pin, ((∀ b, b < y → ∀ x, x < w → pin (8 * b + x) = rimI w h x b) ∧ ∀ a, a < x → pin (8 * y + a) = rimI w h a y) → atX2_spread_28 X ad cA (nI w) (nI h) (nI y) (nI x) (nI w) (nI h) (fillA 64 0 P_heights) pin := by
        intro x hx
        refine up_loop (P := fun x => ∀ pin, ((∀ b, b < y → ∀ x, x < w → pin (8 * b + x) = rimI w h x b) ∧ ∀ a, a < x → pin (8 * y + a) = rimI w h a y) → atX2_spread_28 X ad cA (nI w) (nI h) (nI y) (nI x) (nI w) (nI h) (fillA 64 0 P_heights) pin) w ?_ (fun x hx ih2 pin hi2 => ?_) x hx
        · refine fun pin hi2 => sgX2_spread_28 C E ⟨fun _ => ?_, fun c => absurd (i32_le_refl _) c⟩
          rw [nI_1]
          refine ih pin (fun b hb x hx => ?_)
          rcases Nat.lt_or_ge b y with q | q
          · exact hi2.1 b q x hx
          · have e : b = y := by omega
            rw [e]; exact hi2.2 x hx
        · refine sgX2_spread_28 C E ⟨fun c => absurd c (nI_ge hx (by omega)), fun _ => ?_⟩
          rw [at_eq, nI_clamp (by omega), nI_1, rim_m hw2 hw hh2 hh (by omega) (by omega)]
          refine ⟨vp_in_nI (by omega) (by decide), ih2 _ ⟨fun b hb x' hx' => ?_, fun a ha => ?_⟩⟩
          · rw [upd_n _ _ (by omega)]; exact hi2.1 b hb x' hx'
          · rcases Nat.lt_or_ge a x with q | q
            · rw [upd_n _ _ (by omega)]; exact hi2.2 a q
            · have e : a = x := by omega
              rw [e, upd_s]
      exact inner 0 (Nat.zero_le _) pin ⟨hi, fun a ha => absurd ha (Nat.not_lt_zero a)⟩
  exact outer 0 (Nat.zero_le _) P_pinned (fun b hb => absurd hb (Nat.not_lt_zero b))


abbrev w1X4_in (ad : Nat → Nat) (cA : Nat → ClassId) (u : Unit) : va_W := []
abbrev wcX4_in (ad : Nat → Nat) (cA : Nat → ClassId) : va_W := []
def rmX4_in : Room := { frames := 0, cells := 0, slots := 0, locals := 0 }
abbrev atX4_in_0 (X : gX) (ad : Nat → Nat) (cA : Nat → ClassId) (p1 : Int64) (p2 : Int64) (p3 : Int64) : Prop := gW X 0 0 [] 6 [(0, .long p1), (2, .long p2), (4, .long p3)] [] 0
set_option maxHeartbeats 4000000 in
set_option maxRecDepth 100000 in
theorem sgX4_in_0 {X : gX} {ad : Nat → Nat} {cA : Nat → ClassId} {post : Int32 → (Unit) → Prop} {p1 : Int64} {p2 : Int64} {p3 : Int64} (C : gC X (gT cA) cX4_in 6 RX4 wsX4_in rmX4_in) (E : gEi X (some .boolean) (gT cA) 0 0 post (w1X4_in ad cA)) (h : (p1 < p2 → post (0 : Int32) ()) ∧ (¬ p1 < p2 → (p3 < p1 → post (0 : Int32) ()) ∧ (¬ p3 < p1 → post (1 : Int32) ()))) : atX4_in_0 X ad cA p1 p2 p3 := by
  refine g_lload_n C dX4_in_0 rfl 0 rfl ?_
  refine g_lload_n C dX4_in_1 rfl 1 rfl ?_
  refine g_lcmp_lt (tgt := 17) C dX4_in_2 dX4_in_3 rfl (by decide) (fun c_1 => ?_) (fun c_1 => ?_)
  · replace h := h.1 c_1
    refine g_iconst C dX4_in_17 ik_0 ?_
    exact g_zret C E rfl () h rfl dX4_in_18
  · replace h := h.2 c_1
    refine g_lload_n C dX4_in_6 rfl 0 rfl ?_
    refine g_lload C dX4_in_7 2 rfl ?_
    refine g_lcmp_gt (tgt := 17) C dX4_in_9 dX4_in_10 rfl (by decide) (fun c_2 => ?_) (fun c_2 => ?_)
    · replace h := h.1 c_2
      refine g_iconst C dX4_in_17 ik_0 ?_
      exact g_zret C E rfl () h rfl dX4_in_18
    · replace h := h.2 c_2
      refine g_iconst C dX4_in_13 ik_1 ?_
      refine g_goto (tgt := 18) C dX4_in_14 (by decide) ?_
      exact g_zret C E rfl () h rfl dX4_in_18
def fnX4_in (p1 : Int64) (p2 : Int64) (p3 : Int64) : Bool := (if p1 < p2 then false else (if p3 < p1 then false else true))
set_option maxHeartbeats 4000000 in
set_option maxRecDepth 100000 in
theorem c_X4_in (ad : Nat → Nat) (cA : Nat → ClassId) (p1 : Int64) (p2 : Int64) (p3 : Int64) : ∀ (l : Launch) (D : va_G), gMi (S := Unit) l yX4_in wsX4_in rmX4_in D (gT cA) 0 0 [.long p1, .long p2, .long p3] (wcX4_in ad cA) (fun r _ => r = bI (fnX4_in p1 p2 p3)) (w1X4_in ad cA) := by
  intro l D
  refine g_enteri (cc := cX4_in) (nL := 6) (ret := (some .boolean)) (by decide) rfl (Nat.le_of_ble_eq_true rfl) rfl (fun X C E => sgX4_in_0 C E ?_)
  refine ⟨fun c_3 => ?_, fun c_3 => ?_⟩
  · exact (by unfold fnX4_in; first | rfl | (simp only [if_pos c_3]; done) | (simp only [if_pos c_3]; rfl))
  · refine ⟨fun c_4 => ?_, fun c_4 => ?_⟩
    · exact (by unfold fnX4_in; first | rfl | (simp only [if_neg c_3, if_pos c_4]; done) | (simp only [if_neg c_3, if_pos c_4]; rfl))
    · exact (by unfold fnX4_in; first | rfl | (simp only [if_neg c_3, if_neg c_4]; done) | (simp only [if_neg c_3, if_neg c_4]; rfl))

abbrev w1X4_size (ad : Nat → Nat) (cA : Nat → ClassId) (u : Unit) : va_W := []
abbrev wcX4_size (ad : Nat → Nat) (cA : Nat → ClassId) : va_W := []
def rmX4_size : Room := { frames := 0, cells := 0, slots := 0, locals := 0 }
abbrev atX4_size_0 (X : gX) (ad : Nat → Nat) (cA : Nat → ClassId) (p1 : Int32) : Prop := gW X 0 0 [] 1 [(0, .int p1)] [] 0
set_option maxHeartbeats 4000000 in
set_option maxRecDepth 100000 in
theorem sgX4_size_0 {X : gX} {ad : Nat → Nat} {cA : Nat → ClassId} {post : Int32 → (Unit) → Prop} {p1 : Int32} (C : gC X (gT cA) cX4_size 1 RX4 wsX4_size rmX4_size) (E : gEi X (some .int) (gT cA) 0 0 post (w1X4_size ad cA)) (h : (0 ≤ p1 → post p1 ()) ∧ (¬ 0 ≤ p1 → post (-p1) ())) : atX4_size_0 X ad cA p1 := by
  refine g_iload_n C dX4_size_0 rfl 0 rfl ?_
  refine g_if_ge (tgt := 9) C dX4_size_1 (by decide) (fun c_1 => ?_) (fun c_1 => ?_)
  · replace h := h.1 c_1
    refine g_iload_n C dX4_size_9 rfl 0 rfl ?_
    exact g_iret C E () h rfl dX4_size_10
  · replace h := h.2 c_1
    refine g_iload_n C dX4_size_4 rfl 0 rfl ?_
    refine g_ineg C dX4_size_5 ?_
    refine g_goto (tgt := 10) C dX4_size_6 (by decide) ?_
    exact g_iret C E () h rfl dX4_size_10
def fnX4_size (p1 : Int32) : Int32 := (if 0 ≤ p1 then p1 else (-p1))
set_option maxHeartbeats 4000000 in
set_option maxRecDepth 100000 in
theorem c_X4_size (ad : Nat → Nat) (cA : Nat → ClassId) (p1 : Int32) : ∀ (l : Launch) (D : va_G), gMi (S := Unit) l yX4_size wsX4_size rmX4_size D (gT cA) 0 0 [.int p1] (wcX4_size ad cA) (fun r _ => r = fnX4_size p1) (w1X4_size ad cA) := by
  intro l D
  refine g_enteri (cc := cX4_size) (nL := 1) (ret := (some .int)) (by decide) rfl (Nat.le_of_ble_eq_true rfl) rfl (fun X C E => sgX4_size_0 C E ?_)
  refine ⟨fun c_2 => ?_, fun c_2 => ?_⟩
  · exact (by unfold fnX4_size; first | rfl | (simp only [if_pos c_2]; done) | (simp only [if_pos c_2]; rfl))
  · exact (by unfold fnX4_size; first | rfl | (simp only [if_neg c_2]; done) | (simp only [if_neg c_2]; rfl))

abbrev w1X4_isPoint (ad : Nat → Nat) (cA : Nat → ClassId) (M_thrown : Int32) (M_trace : Int64) (M_found : Int64) (M_foundSet : Int64) (M_foundTimes : Int64) (M_w : Int32) (M_h : Int32) (u : Unit) : va_W := [((ad 19), .inr (4, [.int M_thrown, .long M_trace, .ref (ad 20), .ref (ad 21), .ref (ad 22), .ref (ad 23), .ref (ad 24), .ref (ad 25), .ref (ad 26), .ref (ad 27), .ref (ad 28), .ref (ad 29), .ref (ad 30), .ref (ad 31), .long M_found, .long M_foundSet, .long M_foundTimes, .int M_w, .int M_h, .ref (ad 32), .ref (ad 33), .ref (ad 34)]))]
abbrev wcX4_isPoint (ad : Nat → Nat) (cA : Nat → ClassId) (M_thrown : Int32) (M_trace : Int64) (M_found : Int64) (M_foundSet : Int64) (M_foundTimes : Int64) (M_w : Int32) (M_h : Int32) : va_W := [((ad 19), .inr (4, [.int M_thrown, .long M_trace, .ref (ad 20), .ref (ad 21), .ref (ad 22), .ref (ad 23), .ref (ad 24), .ref (ad 25), .ref (ad 26), .ref (ad 27), .ref (ad 28), .ref (ad 29), .ref (ad 30), .ref (ad 31), .long M_found, .long M_foundSet, .long M_foundTimes, .int M_w, .int M_h, .ref (ad 32), .ref (ad 33), .ref (ad 34)]))]
def rmX4_isPoint : Room := { frames := 1, cells := 0, slots := 0, locals := 25 }
abbrev atX4_isPoint_0 (X : gX) (ad : Nat → Nat) (cA : Nat → ClassId) (p1 : Int32) (p2 : Int32) (M_thrown : Int32) (M_trace : Int64) (M_found : Int64) (M_foundSet : Int64) (M_foundTimes : Int64) (M_w : Int32) (M_h : Int32) : Prop := gW X 0 0 [((ad 19), .inr (4, [.int M_thrown, .long M_trace, .ref (ad 20), .ref (ad 21), .ref (ad 22), .ref (ad 23), .ref (ad 24), .ref (ad 25), .ref (ad 26), .ref (ad 27), .ref (ad 28), .ref (ad 29), .ref (ad 30), .ref (ad 31), .long M_found, .long M_foundSet, .long M_foundTimes, .int M_w, .int M_h, .ref (ad 32), .ref (ad 33), .ref (ad 34)]))] 3 [(0, .ref (ad 19)), (1, .int p1), (2, .int p2)] [] 0
theorem giX4_isPoint_X4 : ∀ w ∈ u_ws RX4 TX4 22, w ∈ wsX4_isPoint := by decide +kernel
theorem gfX4_isPoint_47 : gF wsX4_isPoint RX4 47 4 17 RX4 TX4 22 := ⟨giX4_isPoint_X4, by decide +kernel, rfl, by decide⟩
theorem gfX4_isPoint_51 : gF wsX4_isPoint RX4 51 4 18 RX4 TX4 22 := ⟨giX4_isPoint_X4, by decide +kernel, rfl, by decide⟩
set_option maxHeartbeats 4000000 in
set_option maxRecDepth 100000 in
theorem sgX4_isPoint_0 {X : gX} {ad : Nat → Nat} {cA : Nat → ClassId} {post : Int32 → (Unit) → Prop} {p1 : Int32} {p2 : Int32} {M_thrown : Int32} {M_trace : Int64} {M_found : Int64} {M_foundSet : Int64} {M_foundTimes : Int64} {M_w : Int32} {M_h : Int32} (C : gC X (gT cA) cX4_isPoint 3 RX4 wsX4_isPoint rmX4_isPoint) (E : gEi X (some .boolean) (gT cA) 0 0 post (w1X4_isPoint ad cA M_thrown M_trace M_found M_foundSet M_foundTimes M_w M_h)) (h : ((fnX4_in p1.toInt64 (0 : Int64) ((M_w - (1 : Int32)).toInt64)) = false → post (0 : Int32) ()) ∧ ((fnX4_in p1.toInt64 (0 : Int64) ((M_w - (1 : Int32)).toInt64)) = true → ((fnX4_in p2.toInt64 (0 : Int64) ((M_h - (1 : Int32)).toInt64)) = false → post (0 : Int32) ()) ∧ ((fnX4_in p2.toInt64 (0 : Int64) ((M_h - (1 : Int32)).toInt64)) = true → post (1 : Int32) ()))) : atX4_isPoint_0 X ad cA p1 p2 M_thrown M_trace M_found M_foundSet M_foundTimes M_w M_h := by
  refine g_iload_n C dX4_isPoint_0 rfl 1 rfl ?_
  refine g_i2l C dX4_isPoint_1 ?_
  refine g_lconst C dX4_isPoint_2 lk_0 ?_
  refine g_aload_n C dX4_isPoint_3 rfl 0 rfl ?_
  refine g_get C gfX4_isPoint_47 0 rfl rfl dX4_isPoint_4 ?_
  refine g_iconst C dX4_isPoint_7 ik_1 ?_
  refine g_isub C dX4_isPoint_8 ?_
  refine g_i2l C dX4_isPoint_9 ?_
  refine g_callSi (b := 0) (wr := [((ad 19), .inr (4, [.int M_thrown, .long M_trace, .ref (ad 20), .ref (ad 21), .ref (ad 22), .ref (ad 23), .ref (ad 24), .ref (ad 25), .ref (ad 26), .ref (ad 27), .ref (ad 28), .ref (ad 29), .ref (ad 30), .ref (ad 31), .long M_found, .long M_foundSet, .long M_foundTimes, .int M_w, .int M_h, .ref (ad 32), .ref (ad 33), .ref (ad 34)]))]) C (c_X4_in ad cA p1.toInt64 (0 : Int64) ((M_w - (1 : Int32)).toInt64)) gX4_isPoint_X4_in rfl hde_X4_in ⟨rfl, rfl⟩ (by decide) (by decide) [] [0] [0] rfl rfl rfl rfl (by decide) rfl (ws2 := fun u => [((ad 19), .inr (4, [.int M_thrown, .long M_trace, .ref (ad 20), .ref (ad 21), .ref (ad 22), .ref (ad 23), .ref (ad 24), .ref (ad 25), .ref (ad 26), .ref (ad 27), .ref (ad 28), .ref (ad 29), .ref (ad 30), .ref (ad 31), .long M_found, .long M_foundSet, .long M_foundTimes, .int M_w, .int M_h, .ref (ad 32), .ref (ad 33), .ref (ad 34)]))]) (fun _ => rfl) (rest := []) rfl (Nat.le_of_ble_eq_true rfl) dX4_isPoint_10 (fun r_1 u_1 hp_1 => ?_)
  subst hp_1
  change gW X 0 0 [((ad 19), .inr (4, [.int M_thrown, .long M_trace, .ref (ad 20), .ref (ad 21), .ref (ad 22), .ref (ad 23), .ref (ad 24), .ref (ad 25), .ref (ad 26), .ref (ad 27), .ref (ad 28), .ref (ad 29), .ref (ad 30), .ref (ad 31), .long M_found, .long M_foundSet, .long M_foundTimes, .int M_w, .int M_h, .ref (ad 32), .ref (ad 33), .ref (ad 34)]))] 3 [(0, .ref (ad 19)), (1, .int p1), (2, .int p2)] [.int (bI (fnX4_in p1.toInt64 (0 : Int64) ((M_w - (1 : Int32)).toInt64)))] 13
  refine g_ifeq_b (tgt := 36) C dX4_isPoint_13 (by decide) (fun c_2 => ?_) (fun c_2 => ?_)
  · replace h := h.1 c_2
    refine g_iconst C dX4_isPoint_36 ik_0 ?_
    exact g_zret C E rfl () h rfl dX4_isPoint_37
  · replace h := h.2 c_2
    refine g_iload_n C dX4_isPoint_16 rfl 2 rfl ?_
    refine g_i2l C dX4_isPoint_17 ?_
    refine g_lconst C dX4_isPoint_18 lk_0 ?_
    refine g_aload_n C dX4_isPoint_19 rfl 0 rfl ?_
    refine g_get C gfX4_isPoint_51 0 rfl rfl dX4_isPoint_20 ?_
    refine g_iconst C dX4_isPoint_23 ik_1 ?_
    refine g_isub C dX4_isPoint_24 ?_
    refine g_i2l C dX4_isPoint_25 ?_
    refine g_callSi (b := 0) (wr := [((ad 19), .inr (4, [.int M_thrown, .long M_trace, .ref (ad 20), .ref (ad 21), .ref (ad 22), .ref (ad 23), .ref (ad 24), .ref (ad 25), .ref (ad 26), .ref (ad 27), .ref (ad 28), .ref (ad 29), .ref (ad 30), .ref (ad 31), .long M_found, .long M_foundSet, .long M_foundTimes, .int M_w, .int M_h, .ref (ad 32), .ref (ad 33), .ref (ad 34)]))]) C (c_X4_in ad cA p2.toInt64 (0 : Int64) ((M_h - (1 : Int32)).toInt64)) gX4_isPoint_X4_in rfl hde_X4_in ⟨rfl, rfl⟩ (by decide) (by decide) [] [0] [0] rfl rfl rfl rfl (by decide) rfl (ws2 := fun u => [((ad 19), .inr (4, [.int M_thrown, .long M_trace, .ref (ad 20), .ref (ad 21), .ref (ad 22), .ref (ad 23), .ref (ad 24), .ref (ad 25), .ref (ad 26), .ref (ad 27), .ref (ad 28), .ref (ad 29), .ref (ad 30), .ref (ad 31), .long M_found, .long M_foundSet, .long M_foundTimes, .int M_w, .int M_h, .ref (ad 32), .ref (ad 33), .ref (ad 34)]))]) (fun _ => rfl) (rest := []) rfl (Nat.le_of_ble_eq_true rfl) dX4_isPoint_26 (fun r_3 u_3 hp_3 => ?_)
    subst hp_3
    change gW X 0 0 [((ad 19), .inr (4, [.int M_thrown, .long M_trace, .ref (ad 20), .ref (ad 21), .ref (ad 22), .ref (ad 23), .ref (ad 24), .ref (ad 25), .ref (ad 26), .ref (ad 27), .ref (ad 28), .ref (ad 29), .ref (ad 30), .ref (ad 31), .long M_found, .long M_foundSet, .long M_foundTimes, .int M_w, .int M_h, .ref (ad 32), .ref (ad 33), .ref (ad 34)]))] 3 [(0, .ref (ad 19)), (1, .int p1), (2, .int p2)] [.int (bI (fnX4_in p2.toInt64 (0 : Int64) ((M_h - (1 : Int32)).toInt64)))] 29
    refine g_ifeq_b (tgt := 36) C dX4_isPoint_29 (by decide) (fun c_4 => ?_) (fun c_4 => ?_)
    · replace h := h.1 c_4
      refine g_iconst C dX4_isPoint_36 ik_0 ?_
      exact g_zret C E rfl () h rfl dX4_isPoint_37
    · replace h := h.2 c_4
      refine g_iconst C dX4_isPoint_32 ik_1 ?_
      refine g_goto (tgt := 37) C dX4_isPoint_33 (by decide) ?_
      exact g_zret C E rfl () h rfl dX4_isPoint_37
def fnX4_isPoint (p1 : Int32) (p2 : Int32) (M_thrown : Int32) (M_trace : Int64) (M_found : Int64) (M_foundSet : Int64) (M_foundTimes : Int64) (M_w : Int32) (M_h : Int32) : Bool := (if (fnX4_in p1.toInt64 (0 : Int64) ((M_w - (1 : Int32)).toInt64)) = true then (if (fnX4_in p2.toInt64 (0 : Int64) ((M_h - (1 : Int32)).toInt64)) = true then true else false) else false)
set_option maxHeartbeats 4000000 in
set_option maxRecDepth 100000 in
theorem c_X4_isPoint (ad : Nat → Nat) (cA : Nat → ClassId) (p1 : Int32) (p2 : Int32) (M_thrown : Int32) (M_trace : Int64) (M_found : Int64) (M_foundSet : Int64) (M_foundTimes : Int64) (M_w : Int32) (M_h : Int32) : ∀ (l : Launch) (D : va_G), gMi (S := Unit) l yX4_isPoint wsX4_isPoint rmX4_isPoint D (gT cA) 0 0 [.ref (ad 19), .int p1, .int p2] (wcX4_isPoint ad cA M_thrown M_trace M_found M_foundSet M_foundTimes M_w M_h) (fun r _ => r = bI (fnX4_isPoint p1 p2 M_thrown M_trace M_found M_foundSet M_foundTimes M_w M_h)) (w1X4_isPoint ad cA M_thrown M_trace M_found M_foundSet M_foundTimes M_w M_h) := by
  intro l D
  refine g_enteri (cc := cX4_isPoint) (nL := 3) (ret := (some .boolean)) (by decide) rfl (Nat.le_of_ble_eq_true rfl) rfl (fun X C E => sgX4_isPoint_0 C E ?_)
  refine ⟨fun c_6 => ?_, fun c_6 => ?_⟩
  · exact (by unfold fnX4_isPoint; first | rfl | (simp only [if_neg (show ¬ (fnX4_in p1.toInt64 (0 : Int64) ((M_w - (1 : Int32)).toInt64)) = true from by rw [c_6]; decide)]; done) | (simp only [if_neg (show ¬ (fnX4_in p1.toInt64 (0 : Int64) ((M_w - (1 : Int32)).toInt64)) = true from by rw [c_6]; decide)]; rfl))
  · refine ⟨fun c_8 => ?_, fun c_8 => ?_⟩
    · exact (by unfold fnX4_isPoint; first | rfl | (simp only [if_pos c_6, if_neg (show ¬ (fnX4_in p2.toInt64 (0 : Int64) ((M_h - (1 : Int32)).toInt64)) = true from by rw [c_8]; decide)]; done) | (simp only [if_pos c_6, if_neg (show ¬ (fnX4_in p2.toInt64 (0 : Int64) ((M_h - (1 : Int32)).toInt64)) = true from by rw [c_8]; decide)]; rfl))
    · exact (by unfold fnX4_isPoint; first | rfl | (simp only [if_pos c_6, if_pos c_8]; done) | (simp only [if_pos c_6, if_pos c_8]; rfl))

abbrev w1X4_puts (ad : Nat → Nat) (cA : Nat → ClassId) (M_thrown : Int32) (M_trace : Int64) (M_found : Int64) (M_foundSet : Int64) (M_foundTimes : Int64) (M_w : Int32) (M_h : Int32) (u : (Nat → Int32)) : va_W := [((ad 19), .inr (4, [.int M_thrown, .long M_trace, .ref (ad 20), .ref (ad 21), .ref (ad 22), .ref (ad 23), .ref (ad 24), .ref (ad 25), .ref (ad 26), .ref (ad 27), .ref (ad 28), .ref (ad 29), .ref (ad 30), .ref (ad 31), .long M_found, .long M_foundSet, .long M_foundTimes, .int M_w, .int M_h, .ref (ad 32), .ref (ad 33), .ref (ad 34)])), ((ad 34), .inl (cA 0, 4, .inl u))]
abbrev wcX4_puts (ad : Nat → Nat) (cA : Nat → ClassId) (M_thrown : Int32) (M_trace : Int64) (M_found : Int64) (M_foundSet : Int64) (M_foundTimes : Int64) (M_w : Int32) (M_h : Int32) (M_beside : Nat → Int32) : va_W := [((ad 19), .inr (4, [.int M_thrown, .long M_trace, .ref (ad 20), .ref (ad 21), .ref (ad 22), .ref (ad 23), .ref (ad 24), .ref (ad 25), .ref (ad 26), .ref (ad 27), .ref (ad 28), .ref (ad 29), .ref (ad 30), .ref (ad 31), .long M_found, .long M_foundSet, .long M_foundTimes, .int M_w, .int M_h, .ref (ad 32), .ref (ad 33), .ref (ad 34)])), ((ad 34), .inl (cA 0, 4, .inl M_beside))]
def rmX4_puts : Room := { frames := 0, cells := 0, slots := 0, locals := 0 }
abbrev atX4_puts_0 (X : gX) (ad : Nat → Nat) (cA : Nat → ClassId) (p1 : Int32) (p2 : Int32) (M_thrown : Int32) (M_trace : Int64) (M_found : Int64) (M_foundSet : Int64) (M_foundTimes : Int64) (M_w : Int32) (M_h : Int32) (M_beside : Nat → Int32) : Prop := gW X 0 0 [((ad 19), .inr (4, [.int M_thrown, .long M_trace, .ref (ad 20), .ref (ad 21), .ref (ad 22), .ref (ad 23), .ref (ad 24), .ref (ad 25), .ref (ad 26), .ref (ad 27), .ref (ad 28), .ref (ad 29), .ref (ad 30), .ref (ad 31), .long M_found, .long M_foundSet, .long M_foundTimes, .int M_w, .int M_h, .ref (ad 32), .ref (ad 33), .ref (ad 34)])), ((ad 34), .inl (cA 0, 4, .inl M_beside))] 4 [(0, .ref (ad 19)), (1, .int p1), (2, .int p2)] [] 0
abbrev atX4_puts_2 (X : gX) (ad : Nat → Nat) (cA : Nat → ClassId) (x1 : Int32) (x2 : Int32) (x3 : Int32) (M_thrown : Int32) (M_trace : Int64) (M_found : Int64) (M_foundSet : Int64) (M_foundTimes : Int64) (M_w : Int32) (M_h : Int32) (M_beside : Nat → Int32) : Prop := gW X 0 0 [((ad 19), .inr (4, [.int M_thrown, .long M_trace, .ref (ad 20), .ref (ad 21), .ref (ad 22), .ref (ad 23), .ref (ad 24), .ref (ad 25), .ref (ad 26), .ref (ad 27), .ref (ad 28), .ref (ad 29), .ref (ad 30), .ref (ad 31), .long M_found, .long M_foundSet, .long M_foundTimes, .int M_w, .int M_h, .ref (ad 32), .ref (ad 33), .ref (ad 34)])), ((ad 34), .inl (cA 0, 4, .inl M_beside))] 4 [(0, .ref (ad 19)), (1, .int x1), (2, .int x2), (3, .int x3)] [] 2
theorem giX4_puts_X4 : ∀ w ∈ u_ws RX4 TX4 22, w ∈ wsX4_puts := by decide +kernel
theorem gfX4_puts_61 : gF wsX4_puts RX4 61 4 21 RX4 TX4 22 := ⟨giX4_puts_X4, by decide +kernel, rfl, by decide⟩
set_option maxHeartbeats 4000000 in
set_option maxRecDepth 100000 in
theorem sgX4_puts_0 {X : gX} {ad : Nat → Nat} {cA : Nat → ClassId} {post : Int32 → ((Nat → Int32)) → Prop} {p1 : Int32} {p2 : Int32} {M_thrown : Int32} {M_trace : Int64} {M_found : Int64} {M_foundSet : Int64} {M_foundTimes : Int64} {M_w : Int32} {M_h : Int32} {M_beside : Nat → Int32} (C : gC X (gT cA) cX4_puts 4 RX4 wsX4_puts rmX4_puts) (E : gEi X (some .int) (gT cA) 0 0 post (w1X4_puts ad cA M_thrown M_trace M_found M_foundSet M_foundTimes M_w M_h)) (h : atX4_puts_2 X ad cA p1 p2 p1 M_thrown M_trace M_found M_foundSet M_foundTimes M_w M_h M_beside) : atX4_puts_0 X ad cA p1 p2 M_thrown M_trace M_found M_foundSet M_foundTimes M_w M_h M_beside := by
  refine g_iload_n C dX4_puts_0 rfl 1 rfl ?_
  refine g_istore_n (lv2 := [(0, .ref (ad 19)), (1, .int p1), (2, .int p2), (3, .int p1)]) C dX4_puts_1 rfl (by decide) [1, 2, 3, 0] rfl ?_
  exact g_lv [0, 1, 2, 3] rfl h
set_option maxHeartbeats 4000000 in
set_option maxRecDepth 100000 in
theorem sgX4_puts_2 {X : gX} {ad : Nat → Nat} {cA : Nat → ClassId} {post : Int32 → ((Nat → Int32)) → Prop} {x1 : Int32} {x2 : Int32} {x3 : Int32} {M_thrown : Int32} {M_trace : Int64} {M_found : Int64} {M_foundSet : Int64} {M_foundTimes : Int64} {M_w : Int32} {M_h : Int32} {M_beside : Nat → Int32} (C : gC X (gT cA) cX4_puts 4 RX4 wsX4_puts rmX4_puts) (E : gEi X (some .int) (gT cA) 0 0 post (w1X4_puts ad cA M_thrown M_trace M_found M_foundSet M_foundTimes M_w M_h)) (h : (x3 ≤ 0 → vp_in x3 4 ∧ post (x1 + (1 : Int32)) (upd M_beside x3.toNatClampNeg x2)) ∧ (¬ x3 ≤ 0 → vp_in (x3 - (1 : Int32)) 4 ∧ ((M_beside (x3 - (1 : Int32)).toNatClampNeg) ≤ x2 → vp_in x3 4 ∧ post (x1 + (1 : Int32)) (upd M_beside x3.toNatClampNeg x2)) ∧ (¬ (M_beside (x3 - (1 : Int32)).toNatClampNeg) ≤ x2 → vp_in (x3 - (1 : Int32)) 4 ∧ vp_in x3 4 ∧ atX4_puts_2 X ad cA x1 x2 (x3 + (-1)) M_thrown M_trace M_found M_foundSet M_foundTimes M_w M_h (upd M_beside x3.toNatClampNeg (M_beside (x3 - (1 : Int32)).toNatClampNeg))))) : atX4_puts_2 X ad cA x1 x2 x3 M_thrown M_trace M_found M_foundSet M_foundTimes M_w M_h M_beside := by
  refine g_iload_n C dX4_puts_2 rfl 3 rfl ?_
  refine g_if_le (tgt := 38) C dX4_puts_3 (by decide) (fun c_1 => ?_) (fun c_1 => ?_)
  · replace h := h.1 c_1
    refine g_aload_n C dX4_puts_38 rfl 0 rfl ?_
    refine g_get C gfX4_puts_61 0 rfl rfl dX4_puts_39 ?_
    refine g_iload_n C dX4_puts_42 rfl 3 rfl ?_
    refine g_iload_n C dX4_puts_43 rfl 2 rfl ?_
    obtain ⟨hi_2, h⟩ := h
    refine g_iast (ws2 := [((ad 19), .inr (4, [.int M_thrown, .long M_trace, .ref (ad 20), .ref (ad 21), .ref (ad 22), .ref (ad 23), .ref (ad 24), .ref (ad 25), .ref (ad 26), .ref (ad 27), .ref (ad 28), .ref (ad 29), .ref (ad 30), .ref (ad 31), .long M_found, .long M_foundSet, .long M_foundTimes, .int M_w, .int M_h, .ref (ad 32), .ref (ad 33), .ref (ad 34)])), ((ad 34), .inl (cA 0, 4, .inl (upd M_beside x3.toNatClampNeg x2)))]) C 1 0 rfl rfl hi_2 rfl dX4_puts_44 ?_
    refine g_iload_n C dX4_puts_45 rfl 1 rfl ?_
    refine g_iconst C dX4_puts_46 ik_1 ?_
    refine g_iadd C dX4_puts_47 ?_
    exact g_iret C E (upd M_beside x3.toNatClampNeg x2) h rfl dX4_puts_48
  · replace h := h.2 c_1
    refine g_aload_n C dX4_puts_6 rfl 0 rfl ?_
    refine g_get C gfX4_puts_61 0 rfl rfl dX4_puts_7 ?_
    refine g_iload_n C dX4_puts_10 rfl 3 rfl ?_
    refine g_iconst C dX4_puts_11 ik_1 ?_
    refine g_isub C dX4_puts_12 ?_
    obtain ⟨hi_3, h⟩ := h
    refine g_iald C 1 0 rfl rfl hi_3 dX4_puts_13 ?_
    refine g_iload_n C dX4_puts_14 rfl 2 rfl ?_
    refine g_icmp_le (tgt := 38) C dX4_puts_15 (by decide) (fun c_4 => ?_) (fun c_4 => ?_)
    · replace h := h.1 c_4
      refine g_aload_n C dX4_puts_38 rfl 0 rfl ?_
      refine g_get C gfX4_puts_61 0 rfl rfl dX4_puts_39 ?_
      refine g_iload_n C dX4_puts_42 rfl 3 rfl ?_
      refine g_iload_n C dX4_puts_43 rfl 2 rfl ?_
      obtain ⟨hi_5, h⟩ := h
      refine g_iast (ws2 := [((ad 19), .inr (4, [.int M_thrown, .long M_trace, .ref (ad 20), .ref (ad 21), .ref (ad 22), .ref (ad 23), .ref (ad 24), .ref (ad 25), .ref (ad 26), .ref (ad 27), .ref (ad 28), .ref (ad 29), .ref (ad 30), .ref (ad 31), .long M_found, .long M_foundSet, .long M_foundTimes, .int M_w, .int M_h, .ref (ad 32), .ref (ad 33), .ref (ad 34)])), ((ad 34), .inl (cA 0, 4, .inl (upd M_beside x3.toNatClampNeg x2)))]) C 1 0 rfl rfl hi_5 rfl dX4_puts_44 ?_
      refine g_iload_n C dX4_puts_45 rfl 1 rfl ?_
      refine g_iconst C dX4_puts_46 ik_1 ?_
      refine g_iadd C dX4_puts_47 ?_
      exact g_iret C E (upd M_beside x3.toNatClampNeg x2) h rfl dX4_puts_48
    · replace h := h.2 c_4
      refine g_aload_n C dX4_puts_18 rfl 0 rfl ?_
      refine g_get C gfX4_puts_61 0 rfl rfl dX4_puts_19 ?_
      refine g_iload_n C dX4_puts_22 rfl 3 rfl ?_
      refine g_aload_n C dX4_puts_23 rfl 0 rfl ?_
      refine g_get C gfX4_puts_61 0 rfl rfl dX4_puts_24 ?_
      refine g_iload_n C dX4_puts_27 rfl 3 rfl ?_
      refine g_iconst C dX4_puts_28 ik_1 ?_
      refine g_isub C dX4_puts_29 ?_
      obtain ⟨hi_6, h⟩ := h
      refine g_iald C 1 0 rfl rfl hi_6 dX4_puts_30 ?_
      obtain ⟨hi_7, h⟩ := h
      refine g_iast (ws2 := [((ad 19), .inr (4, [.int M_thrown, .long M_trace, .ref (ad 20), .ref (ad 21), .ref (ad 22), .ref (ad 23), .ref (ad 24), .ref (ad 25), .ref (ad 26), .ref (ad 27), .ref (ad 28), .ref (ad 29), .ref (ad 30), .ref (ad 31), .long M_found, .long M_foundSet, .long M_foundTimes, .int M_w, .int M_h, .ref (ad 32), .ref (ad 33), .ref (ad 34)])), ((ad 34), .inl (cA 0, 4, .inl (upd M_beside x3.toNatClampNeg (M_beside (x3 - (1 : Int32)).toNatClampNeg))))]) C 1 0 rfl rfl hi_7 rfl dX4_puts_31 ?_
      refine g_iinc (v := (x3 + (-1))) (lv2 := [(0, .ref (ad 19)), (1, .int x1), (2, .int x2), (3, .int (x3 + (-1)))]) C dX4_puts_32 3 rfl (by first | rfl | decide) (by decide) [1, 2, 3, 0] rfl ?_
      refine g_goto (tgt := 2) C dX4_puts_35 (by decide) ?_
      exact g_lv [0, 1, 2, 3] rfl h
def prX4_puts (p1 : Int32) (p2 : Int32) (M_thrown : Int32) (M_trace : Int64) (M_found : Int64) (M_foundSet : Int64) (M_foundTimes : Int64) (M_w : Int32) (M_h : Int32) (M_beside : Nat → Int32) : Prop := vp_in p1 4
def po_X4_puts (ad : Nat → Nat) (cA : Nat → ClassId) (p1 : Int32) (p2 : Int32) (M_thrown : Int32) (M_trace : Int64) (M_found : Int64) (M_foundSet : Int64) (M_foundTimes : Int64) (M_w : Int32) (M_h : Int32) (M_beside : Nat → Int32) (r : Int32) (u : (Nat → Int32)) : Prop := r = p1 + 1 ∧ u = insA M_beside p1.toNatClampNeg p2
set_option maxHeartbeats 4000000 in
set_option maxRecDepth 100000 in
theorem c_X4_puts (ad : Nat → Nat) (cA : Nat → ClassId) (p1 : Int32) (p2 : Int32) (M_thrown : Int32) (M_trace : Int64) (M_found : Int64) (M_foundSet : Int64) (M_foundTimes : Int64) (M_w : Int32) (M_h : Int32) (M_beside : Nat → Int32) (hq : prX4_puts p1 p2 M_thrown M_trace M_found M_foundSet M_foundTimes M_w M_h M_beside) : ∀ (l : Launch) (D : va_G), gMi (S := (Nat → Int32)) l yX4_puts wsX4_puts rmX4_puts D (gT cA) 0 0 [.ref (ad 19), .int p1, .int p2] (wcX4_puts ad cA M_thrown M_trace M_found M_foundSet M_foundTimes M_w M_h M_beside) (po_X4_puts ad cA p1 p2 M_thrown M_trace M_found M_foundSet M_foundTimes M_w M_h M_beside) (w1X4_puts ad cA M_thrown M_trace M_found M_foundSet M_foundTimes M_w M_h) := by
  intro l D
  unfold prX4_puts at hq
  refine g_enteri (cc := cX4_puts) (nL := 4) (ret := (some .int)) (by decide) rfl (Nat.le_of_ble_eq_true rfl) rfl (fun X C E => ?_)
  obtain ⟨j, hj, rfl⟩ := vp_in_of hq (by decide)
  refine sgX4_puts_0 C E ?_
  have hpo : ∀ (r : Int32) (u : Nat → Int32), r = nI j + 1 → u = insA M_beside j p2 → po_X4_puts ad cA (nI j) p2 M_thrown M_trace M_found M_foundSet M_foundTimes M_w M_h M_beside r u := fun r u h1 h2 => ⟨h1, by rw [nI_clamp (by omega)]; exact h2⟩
  have loop : ∀ (i : Nat) (g : Nat → Int32), i < 4 → insA g i p2 = insA M_beside j p2 → atX4_puts_2 X ad cA (nI j) p2 (nI i) M_thrown M_trace M_found M_foundSet M_foundTimes M_w M_h g := by
    intro i
    induction i with
    | zero =>
      intro g _ e
      refine sgX4_puts_2 C E ⟨fun _ => ⟨vp_in_nI (by omega) (by decide), hpo _ _ rfl ?_⟩, fun c => absurd (nI_le (Nat.le_refl 0) (by decide)) c⟩
      rw [← e, nI_clamp (by decide)]; rfl
    | succ i ih =>
      intro g hi e
      have e1 : nI (i + 1) - 1 = nI i := nI_pred i
      have hc : vp_in (nI i) 4 := vp_in_nI (by omega) (by decide)
      refine sgX4_puts_2 C E ⟨fun c => absurd c (nI_nle (by omega) (by omega)), fun _ => ?_⟩
      rw [e1, nI_clamp (by omega)]
      refine ⟨hc, fun c => ⟨vp_in_nI (by omega) (by decide), hpo _ _ rfl ?_⟩, fun c => ⟨hc, vp_in_nI (by omega) (by decide), ?_⟩⟩
      · rw [← e, nI_clamp (by omega)]
        show _ = insA g (i + 1) p2
        rw [insA, if_neg (by rw [Int32.not_lt]; exact c)]
      · rw [show nI (i + 1) + (-1) = nI i from pk_m1 i, nI_clamp (by omega)]
        refine ih _ (by omega) ?_
        rw [← e]
        show _ = insA g (i + 1) p2
        rw [insA, if_pos (by rw [← Int32.not_le]; exact c)]
  exact loop j M_beside hj rfl


theorem puts_step {ad : Nat → Nat} {cA : Nat → ClassId} {M_thrown : Int32} {M_trace M_found M_foundSet M_foundTimes : Int64} {M_w M_h : Int32} {q : Nat × (Nat → Int32)} {r v : Int32} {u : Nat → Int32} (hp : po_X4_puts ad cA (nI q.1) v M_thrown M_trace M_found M_foundSet M_foundTimes M_w M_h q.2 r u) (hq4 : q.1 < 4) : r = nI (pst true v q).1 ∧ u = (pst true v q).2 := by
  obtain ⟨h1, h2⟩ := hp
  rw [nI_clamp (by omega)] at h2
  exact ⟨by rw [h1]; exact nI_1 _, h2⟩
theorem m8_eq (x y : Nat) : (8 : Int32) * nI y + nI x = nI (8 * y + x) := by
  show nI 8 * nI y + nI x = _
  rw [pk_mul, nI_add]

abbrev w1X4_stepOf (ad : Nat → Nat) (cA : Nat → ClassId) (M_thrown : Int32) (M_trace : Int64) (M_found : Int64) (M_foundSet : Int64) (M_foundTimes : Int64) (M_w : Int32) (M_h : Int32) (M_height : Nat → Int32) (M_isPinned : Nat → Int32) (u : (Nat → Int32)) : va_W := [((ad 19), .inr (4, [.int M_thrown, .long M_trace, .ref (ad 20), .ref (ad 21), .ref (ad 22), .ref (ad 23), .ref (ad 24), .ref (ad 25), .ref (ad 26), .ref (ad 27), .ref (ad 28), .ref (ad 29), .ref (ad 30), .ref (ad 31), .long M_found, .long M_foundSet, .long M_foundTimes, .int M_w, .int M_h, .ref (ad 32), .ref (ad 33), .ref (ad 34)])), ((ad 32), .inl (cA 0, 64, .inl M_height)), ((ad 33), .inl (cA 2, 64, .inl M_isPinned)), ((ad 34), .inl (cA 0, 4, .inl u))]
abbrev wcX4_stepOf (ad : Nat → Nat) (cA : Nat → ClassId) (M_thrown : Int32) (M_trace : Int64) (M_found : Int64) (M_foundSet : Int64) (M_foundTimes : Int64) (M_w : Int32) (M_h : Int32) (M_height : Nat → Int32) (M_isPinned : Nat → Int32) (M_beside : Nat → Int32) : va_W := [((ad 19), .inr (4, [.int M_thrown, .long M_trace, .ref (ad 20), .ref (ad 21), .ref (ad 22), .ref (ad 23), .ref (ad 24), .ref (ad 25), .ref (ad 26), .ref (ad 27), .ref (ad 28), .ref (ad 29), .ref (ad 30), .ref (ad 31), .long M_found, .long M_foundSet, .long M_foundTimes, .int M_w, .int M_h, .ref (ad 32), .ref (ad 33), .ref (ad 34)])), ((ad 32), .inl (cA 0, 64, .inl M_height)), ((ad 33), .inl (cA 2, 64, .inl M_isPinned)), ((ad 34), .inl (cA 0, 4, .inl M_beside))]
def rmX4_stepOf : Room := { frames := 1, cells := 0, slots := 0, locals := 23 }
abbrev atX4_stepOf_0 (X : gX) (ad : Nat → Nat) (cA : Nat → ClassId) (p1 : Int32) (p2 : Int32) (M_thrown : Int32) (M_trace : Int64) (M_found : Int64) (M_foundSet : Int64) (M_foundTimes : Int64) (M_w : Int32) (M_h : Int32) (M_height : Nat → Int32) (M_isPinned : Nat → Int32) (M_beside : Nat → Int32) : Prop := gW X 0 0 [((ad 19), .inr (4, [.int M_thrown, .long M_trace, .ref (ad 20), .ref (ad 21), .ref (ad 22), .ref (ad 23), .ref (ad 24), .ref (ad 25), .ref (ad 26), .ref (ad 27), .ref (ad 28), .ref (ad 29), .ref (ad 30), .ref (ad 31), .long M_found, .long M_foundSet, .long M_foundTimes, .int M_w, .int M_h, .ref (ad 32), .ref (ad 33), .ref (ad 34)])), ((ad 32), .inl (cA 0, 64, .inl M_height)), ((ad 33), .inl (cA 2, 64, .inl M_isPinned)), ((ad 34), .inl (cA 0, 4, .inl M_beside))] 7 [(0, .ref (ad 19)), (1, .int p1), (2, .int p2)] [] 0
abbrev atX4_stepOf_33 (X : gX) (ad : Nat → Nat) (cA : Nat → ClassId) (x1 : Int32) (x2 : Int32) (x3 : Int32) (y0 : Int32) (M_thrown : Int32) (M_trace : Int64) (M_found : Int64) (M_foundSet : Int64) (M_foundTimes : Int64) (M_w : Int32) (M_h : Int32) (M_height : Nat → Int32) (M_isPinned : Nat → Int32) (M_beside : Nat → Int32) : Prop := gW X 0 0 [((ad 19), .inr (4, [.int M_thrown, .long M_trace, .ref (ad 20), .ref (ad 21), .ref (ad 22), .ref (ad 23), .ref (ad 24), .ref (ad 25), .ref (ad 26), .ref (ad 27), .ref (ad 28), .ref (ad 29), .ref (ad 30), .ref (ad 31), .long M_found, .long M_foundSet, .long M_foundTimes, .int M_w, .int M_h, .ref (ad 32), .ref (ad 33), .ref (ad 34)])), ((ad 32), .inl (cA 0, 64, .inl M_height)), ((ad 33), .inl (cA 2, 64, .inl M_isPinned)), ((ad 34), .inl (cA 0, 4, .inl M_beside))] 7 [(0, .ref (ad 19)), (1, .int x1), (2, .int x2), (3, .int x3)] [.int y0] 33
abbrev atX4_stepOf_64 (X : gX) (ad : Nat → Nat) (cA : Nat → ClassId) (x2 : Int32) (x3 : Int32) (y0 : Int32) (M_thrown : Int32) (M_trace : Int64) (M_found : Int64) (M_foundSet : Int64) (M_foundTimes : Int64) (M_w : Int32) (M_h : Int32) (M_height : Nat → Int32) (M_isPinned : Nat → Int32) (M_beside : Nat → Int32) : Prop := gW X 0 0 [((ad 19), .inr (4, [.int M_thrown, .long M_trace, .ref (ad 20), .ref (ad 21), .ref (ad 22), .ref (ad 23), .ref (ad 24), .ref (ad 25), .ref (ad 26), .ref (ad 27), .ref (ad 28), .ref (ad 29), .ref (ad 30), .ref (ad 31), .long M_found, .long M_foundSet, .long M_foundTimes, .int M_w, .int M_h, .ref (ad 32), .ref (ad 33), .ref (ad 34)])), ((ad 32), .inl (cA 0, 64, .inl M_height)), ((ad 33), .inl (cA 2, 64, .inl M_isPinned)), ((ad 34), .inl (cA 0, 4, .inl M_beside))] 7 [(0, .ref (ad 19)), (2, .int x2), (3, .int x3)] [.int y0] 64
abbrev atX4_stepOf_90 (X : gX) (ad : Nat → Nat) (cA : Nat → ClassId) (x2 : Int32) (x3 : Int32) (y0 : Int32) (M_thrown : Int32) (M_trace : Int64) (M_found : Int64) (M_foundSet : Int64) (M_foundTimes : Int64) (M_w : Int32) (M_h : Int32) (M_height : Nat → Int32) (M_isPinned : Nat → Int32) (M_beside : Nat → Int32) : Prop := gW X 0 0 [((ad 19), .inr (4, [.int M_thrown, .long M_trace, .ref (ad 20), .ref (ad 21), .ref (ad 22), .ref (ad 23), .ref (ad 24), .ref (ad 25), .ref (ad 26), .ref (ad 27), .ref (ad 28), .ref (ad 29), .ref (ad 30), .ref (ad 31), .long M_found, .long M_foundSet, .long M_foundTimes, .int M_w, .int M_h, .ref (ad 32), .ref (ad 33), .ref (ad 34)])), ((ad 32), .inl (cA 0, 64, .inl M_height)), ((ad 33), .inl (cA 2, 64, .inl M_isPinned)), ((ad 34), .inl (cA 0, 4, .inl M_beside))] 7 [(0, .ref (ad 19)), (2, .int x2), (3, .int x3)] [.int y0] 90
abbrev atX4_stepOf_122 (X : gX) (ad : Nat → Nat) (cA : Nat → ClassId) (x3 : Int32) (y0 : Int32) (M_thrown : Int32) (M_trace : Int64) (M_found : Int64) (M_foundSet : Int64) (M_foundTimes : Int64) (M_w : Int32) (M_h : Int32) (M_height : Nat → Int32) (M_isPinned : Nat → Int32) (M_beside : Nat → Int32) : Prop := gW X 0 0 [((ad 19), .inr (4, [.int M_thrown, .long M_trace, .ref (ad 20), .ref (ad 21), .ref (ad 22), .ref (ad 23), .ref (ad 24), .ref (ad 25), .ref (ad 26), .ref (ad 27), .ref (ad 28), .ref (ad 29), .ref (ad 30), .ref (ad 31), .long M_found, .long M_foundSet, .long M_foundTimes, .int M_w, .int M_h, .ref (ad 32), .ref (ad 33), .ref (ad 34)])), ((ad 32), .inl (cA 0, 64, .inl M_height)), ((ad 33), .inl (cA 2, 64, .inl M_isPinned)), ((ad 34), .inl (cA 0, 4, .inl M_beside))] 7 [(0, .ref (ad 19)), (3, .int x3)] [.int y0] 122
theorem giX4_stepOf_X4 : ∀ w ∈ u_ws RX4 TX4 22, w ∈ wsX4_stepOf := by decide +kernel
theorem gfX4_stepOf_54 : gF wsX4_stepOf RX4 54 4 19 RX4 TX4 22 := ⟨giX4_stepOf_X4, by decide +kernel, rfl, by decide⟩
theorem gfX4_stepOf_47 : gF wsX4_stepOf RX4 47 4 17 RX4 TX4 22 := ⟨giX4_stepOf_X4, by decide +kernel, rfl, by decide⟩
theorem gfX4_stepOf_51 : gF wsX4_stepOf RX4 51 4 18 RX4 TX4 22 := ⟨giX4_stepOf_X4, by decide +kernel, rfl, by decide⟩
theorem gfX4_stepOf_61 : gF wsX4_stepOf RX4 61 4 21 RX4 TX4 22 := ⟨giX4_stepOf_X4, by decide +kernel, rfl, by decide⟩
theorem gfX4_stepOf_57 : gF wsX4_stepOf RX4 57 4 20 RX4 TX4 22 := ⟨giX4_stepOf_X4, by decide +kernel, rfl, by decide⟩
set_option maxHeartbeats 4000000 in
set_option maxRecDepth 100000 in
theorem sgX4_stepOf_0 {X : gX} {ad : Nat → Nat} {cA : Nat → ClassId} {post : Int32 → ((Nat → Int32)) → Prop} {p1 : Int32} {p2 : Int32} {M_thrown : Int32} {M_trace : Int64} {M_found : Int64} {M_foundSet : Int64} {M_foundTimes : Int64} {M_w : Int32} {M_h : Int32} {M_height : Nat → Int32} {M_isPinned : Nat → Int32} {M_beside : Nat → Int32} (C : gC X (gT cA) cX4_stepOf 7 RX4 wsX4_stepOf rmX4_stepOf) (E : gEi X (some .int) (gT cA) 0 0 post (w1X4_stepOf ad cA M_thrown M_trace M_found M_foundSet M_foundTimes M_w M_h M_height M_isPinned)) (h : (p1 ≤ 0 → atX4_stepOf_33 X ad cA p1 p2 (((8 : Int32) * p2) + p1) (0 : Int32) M_thrown M_trace M_found M_foundSet M_foundTimes M_w M_h M_height M_isPinned M_beside) ∧ (¬ p1 ≤ 0 → vp_in ((((8 : Int32) * p2) + p1) - (1 : Int32)) 64 ∧ prX4_puts (0 : Int32) (M_height ((((8 : Int32) * p2) + p1) - (1 : Int32)).toNatClampNeg) M_thrown M_trace M_found M_foundSet M_foundTimes M_w M_h M_beside ∧ ∀ (r_4 : Int32) (u4_M_beside : Nat → Int32), po_X4_puts ad cA (0 : Int32) (M_height ((((8 : Int32) * p2) + p1) - (1 : Int32)).toNatClampNeg) M_thrown M_trace M_found M_foundSet M_foundTimes M_w M_h M_beside r_4 u4_M_beside → atX4_stepOf_33 X ad cA p1 p2 (((8 : Int32) * p2) + p1) r_4 M_thrown M_trace M_found M_foundSet M_foundTimes M_w M_h M_height M_isPinned u4_M_beside)) : atX4_stepOf_0 X ad cA p1 p2 M_thrown M_trace M_found M_foundSet M_foundTimes M_w M_h M_height M_isPinned M_beside := by
  refine g_bipush C dX4_stepOf_0 bk_8 ?_
  refine g_iload_n C dX4_stepOf_2 rfl 2 rfl ?_
  refine g_imul C dX4_stepOf_3 ?_
  refine g_iload_n C dX4_stepOf_4 rfl 1 rfl ?_
  refine g_iadd C dX4_stepOf_5 ?_
  refine g_istore_n (lv2 := [(0, .ref (ad 19)), (1, .int p1), (2, .int p2), (3, .int (((8 : Int32) * p2) + p1))]) C dX4_stepOf_6 rfl (by decide) [1, 2, 3, 0] rfl ?_
  refine g_iconst C dX4_stepOf_7 ik_0 ?_
  refine g_istore (lv2 := [(0, .ref (ad 19)), (1, .int p1), (2, .int p2), (3, .int (((8 : Int32) * p2) + p1)), (4, .int (0 : Int32))]) C dX4_stepOf_8 (by decide) [1, 2, 3, 4, 0] rfl ?_
  refine g_iload_n C dX4_stepOf_10 rfl 1 rfl ?_
  refine g_if_le (tgt := 31) C dX4_stepOf_11 (by decide) (fun c_1 => ?_) (fun c_1 => ?_)
  · replace h := h.1 c_1
    refine g_iload C dX4_stepOf_31 4 rfl ?_
    exact g_lv [0, 1, 2, 3] rfl h
  · replace h := h.2 c_1
    refine g_aload_n C dX4_stepOf_14 rfl 0 rfl ?_
    refine g_iload C dX4_stepOf_15 4 rfl ?_
    refine g_aload_n C dX4_stepOf_17 rfl 0 rfl ?_
    refine g_get C gfX4_stepOf_54 0 rfl rfl dX4_stepOf_18 ?_
    refine g_iload_n C dX4_stepOf_21 rfl 3 rfl ?_
    refine g_iconst C dX4_stepOf_22 ik_1 ?_
    refine g_isub C dX4_stepOf_23 ?_
    obtain ⟨hi_2, h⟩ := h
    refine g_iald C 1 0 rfl rfl hi_2 dX4_stepOf_24 ?_
    obtain ⟨hi_3, h⟩ := h
    refine g_callVi (wr := [((ad 32), .inl (cA 0, 64, .inl M_height)), ((ad 33), .inl (cA 2, 64, .inl M_isPinned))]) C (c_X4_puts ad cA (0 : Int32) (M_height ((((8 : Int32) * p2) + p1) - (1 : Int32)).toNatClampNeg) M_thrown M_trace M_found M_foundSet M_foundTimes M_w M_h M_beside hi_3) gX4_stepOf_X4_puts rfl hde_X4_puts ⟨rfl, rfl⟩ (by decide) (by decide) [0, 3] [1, 2] [2, 0, 1, 3] rfl rfl rfl rfl (by decide) rfl (ws2 := fun u => [((ad 19), .inr (4, [.int M_thrown, .long M_trace, .ref (ad 20), .ref (ad 21), .ref (ad 22), .ref (ad 23), .ref (ad 24), .ref (ad 25), .ref (ad 26), .ref (ad 27), .ref (ad 28), .ref (ad 29), .ref (ad 30), .ref (ad 31), .long M_found, .long M_foundSet, .long M_foundTimes, .int M_w, .int M_h, .ref (ad 32), .ref (ad 33), .ref (ad 34)])), ((ad 32), .inl (cA 0, 64, .inl M_height)), ((ad 33), .inl (cA 2, 64, .inl M_isPinned)), ((ad 34), .inl (cA 0, 4, .inl u))]) (fun _ => rfl) 4 0 rfl rfl rfl (rest := []) rfl (Nat.le_of_ble_eq_true rfl) dX4_stepOf_25 (fun r_4 u_4 hp_4 => ?_)
    obtain ⟨u4_M_beside, rfl⟩ : ∃ z, z = u_4 := ⟨_, rfl⟩
    replace h := h r_4 u4_M_beside hp_4
    change gW X 0 0 [((ad 19), .inr (4, [.int M_thrown, .long M_trace, .ref (ad 20), .ref (ad 21), .ref (ad 22), .ref (ad 23), .ref (ad 24), .ref (ad 25), .ref (ad 26), .ref (ad 27), .ref (ad 28), .ref (ad 29), .ref (ad 30), .ref (ad 31), .long M_found, .long M_foundSet, .long M_foundTimes, .int M_w, .int M_h, .ref (ad 32), .ref (ad 33), .ref (ad 34)])), ((ad 32), .inl (cA 0, 64, .inl M_height)), ((ad 33), .inl (cA 2, 64, .inl M_isPinned)), ((ad 34), .inl (cA 0, 4, .inl u4_M_beside))] 7 [(0, .ref (ad 19)), (1, .int p1), (2, .int p2), (3, .int (((8 : Int32) * p2) + p1)), (4, .int (0 : Int32))] [.int r_4] 28
    refine g_goto (tgt := 33) C dX4_stepOf_28 (by decide) ?_
    exact g_lv [0, 1, 2, 3] rfl h
set_option maxHeartbeats 4000000 in
set_option maxRecDepth 100000 in
theorem sgX4_stepOf_33 {X : gX} {ad : Nat → Nat} {cA : Nat → ClassId} {post : Int32 → ((Nat → Int32)) → Prop} {x1 : Int32} {x2 : Int32} {x3 : Int32} {y0 : Int32} {M_thrown : Int32} {M_trace : Int64} {M_found : Int64} {M_foundSet : Int64} {M_foundTimes : Int64} {M_w : Int32} {M_h : Int32} {M_height : Nat → Int32} {M_isPinned : Nat → Int32} {M_beside : Nat → Int32} (C : gC X (gT cA) cX4_stepOf 7 RX4 wsX4_stepOf rmX4_stepOf) (E : gEi X (some .int) (gT cA) 0 0 post (w1X4_stepOf ad cA M_thrown M_trace M_found M_foundSet M_foundTimes M_w M_h M_height M_isPinned)) (h : (M_w ≤ (x1 + (1 : Int32)) → atX4_stepOf_64 X ad cA x2 x3 y0 M_thrown M_trace M_found M_foundSet M_foundTimes M_w M_h M_height M_isPinned M_beside) ∧ (¬ M_w ≤ (x1 + (1 : Int32)) → vp_in (x3 + (1 : Int32)) 64 ∧ prX4_puts y0 (M_height (x3 + (1 : Int32)).toNatClampNeg) M_thrown M_trace M_found M_foundSet M_foundTimes M_w M_h M_beside ∧ ∀ (r_8 : Int32) (u8_M_beside : Nat → Int32), po_X4_puts ad cA y0 (M_height (x3 + (1 : Int32)).toNatClampNeg) M_thrown M_trace M_found M_foundSet M_foundTimes M_w M_h M_beside r_8 u8_M_beside → atX4_stepOf_64 X ad cA x2 x3 r_8 M_thrown M_trace M_found M_foundSet M_foundTimes M_w M_h M_height M_isPinned u8_M_beside)) : atX4_stepOf_33 X ad cA x1 x2 x3 y0 M_thrown M_trace M_found M_foundSet M_foundTimes M_w M_h M_height M_isPinned M_beside := by
  refine g_istore (lv2 := [(0, .ref (ad 19)), (1, .int x1), (2, .int x2), (3, .int x3), (4, .int y0)]) C dX4_stepOf_33 (by decide) [1, 2, 3, 4, 0] rfl ?_
  refine g_iload_n C dX4_stepOf_35 rfl 1 rfl ?_
  refine g_iconst C dX4_stepOf_36 ik_1 ?_
  refine g_iadd C dX4_stepOf_37 ?_
  refine g_aload_n C dX4_stepOf_38 rfl 0 rfl ?_
  refine g_get C gfX4_stepOf_47 0 rfl rfl dX4_stepOf_39 ?_
  refine g_icmp_ge (tgt := 62) C dX4_stepOf_42 (by decide) (fun c_5 => ?_) (fun c_5 => ?_)
  · replace h := h.1 c_5
    refine g_iload C dX4_stepOf_62 4 rfl ?_
    exact g_lv [0, 2, 3] rfl h
  · replace h := h.2 c_5
    refine g_aload_n C dX4_stepOf_45 rfl 0 rfl ?_
    refine g_iload C dX4_stepOf_46 4 rfl ?_
    refine g_aload_n C dX4_stepOf_48 rfl 0 rfl ?_
    refine g_get C gfX4_stepOf_54 0 rfl rfl dX4_stepOf_49 ?_
    refine g_iload_n C dX4_stepOf_52 rfl 3 rfl ?_
    refine g_iconst C dX4_stepOf_53 ik_1 ?_
    refine g_iadd C dX4_stepOf_54 ?_
    obtain ⟨hi_6, h⟩ := h
    refine g_iald C 1 0 rfl rfl hi_6 dX4_stepOf_55 ?_
    obtain ⟨hi_7, h⟩ := h
    refine g_callVi (wr := [((ad 32), .inl (cA 0, 64, .inl M_height)), ((ad 33), .inl (cA 2, 64, .inl M_isPinned))]) C (c_X4_puts ad cA y0 (M_height (x3 + (1 : Int32)).toNatClampNeg) M_thrown M_trace M_found M_foundSet M_foundTimes M_w M_h M_beside hi_7) gX4_stepOf_X4_puts rfl hde_X4_puts ⟨rfl, rfl⟩ (by decide) (by decide) [0, 3] [1, 2] [2, 0, 1, 3] rfl rfl rfl rfl (by decide) rfl (ws2 := fun u => [((ad 19), .inr (4, [.int M_thrown, .long M_trace, .ref (ad 20), .ref (ad 21), .ref (ad 22), .ref (ad 23), .ref (ad 24), .ref (ad 25), .ref (ad 26), .ref (ad 27), .ref (ad 28), .ref (ad 29), .ref (ad 30), .ref (ad 31), .long M_found, .long M_foundSet, .long M_foundTimes, .int M_w, .int M_h, .ref (ad 32), .ref (ad 33), .ref (ad 34)])), ((ad 32), .inl (cA 0, 64, .inl M_height)), ((ad 33), .inl (cA 2, 64, .inl M_isPinned)), ((ad 34), .inl (cA 0, 4, .inl u))]) (fun _ => rfl) 4 0 rfl rfl rfl (rest := []) rfl (Nat.le_of_ble_eq_true rfl) dX4_stepOf_56 (fun r_8 u_8 hp_8 => ?_)
    obtain ⟨u8_M_beside, rfl⟩ : ∃ z, z = u_8 := ⟨_, rfl⟩
    replace h := h r_8 u8_M_beside hp_8
    change gW X 0 0 [((ad 19), .inr (4, [.int M_thrown, .long M_trace, .ref (ad 20), .ref (ad 21), .ref (ad 22), .ref (ad 23), .ref (ad 24), .ref (ad 25), .ref (ad 26), .ref (ad 27), .ref (ad 28), .ref (ad 29), .ref (ad 30), .ref (ad 31), .long M_found, .long M_foundSet, .long M_foundTimes, .int M_w, .int M_h, .ref (ad 32), .ref (ad 33), .ref (ad 34)])), ((ad 32), .inl (cA 0, 64, .inl M_height)), ((ad 33), .inl (cA 2, 64, .inl M_isPinned)), ((ad 34), .inl (cA 0, 4, .inl u8_M_beside))] 7 [(0, .ref (ad 19)), (1, .int x1), (2, .int x2), (3, .int x3), (4, .int y0)] [.int r_8] 59
    refine g_goto (tgt := 64) C dX4_stepOf_59 (by decide) ?_
    exact g_lv [0, 2, 3] rfl h
set_option maxHeartbeats 4000000 in
set_option maxRecDepth 100000 in
theorem sgX4_stepOf_64 {X : gX} {ad : Nat → Nat} {cA : Nat → ClassId} {post : Int32 → ((Nat → Int32)) → Prop} {x2 : Int32} {x3 : Int32} {y0 : Int32} {M_thrown : Int32} {M_trace : Int64} {M_found : Int64} {M_foundSet : Int64} {M_foundTimes : Int64} {M_w : Int32} {M_h : Int32} {M_height : Nat → Int32} {M_isPinned : Nat → Int32} {M_beside : Nat → Int32} (C : gC X (gT cA) cX4_stepOf 7 RX4 wsX4_stepOf rmX4_stepOf) (E : gEi X (some .int) (gT cA) 0 0 post (w1X4_stepOf ad cA M_thrown M_trace M_found M_foundSet M_foundTimes M_w M_h M_height M_isPinned)) (h : (x2 ≤ 0 → atX4_stepOf_90 X ad cA x2 x3 y0 M_thrown M_trace M_found M_foundSet M_foundTimes M_w M_h M_height M_isPinned M_beside) ∧ (¬ x2 ≤ 0 → vp_in (x3 - (8 : Int32)) 64 ∧ prX4_puts y0 (M_height (x3 - (8 : Int32)).toNatClampNeg) M_thrown M_trace M_found M_foundSet M_foundTimes M_w M_h M_beside ∧ ∀ (r_12 : Int32) (u12_M_beside : Nat → Int32), po_X4_puts ad cA y0 (M_height (x3 - (8 : Int32)).toNatClampNeg) M_thrown M_trace M_found M_foundSet M_foundTimes M_w M_h M_beside r_12 u12_M_beside → atX4_stepOf_90 X ad cA x2 x3 r_12 M_thrown M_trace M_found M_foundSet M_foundTimes M_w M_h M_height M_isPinned u12_M_beside)) : atX4_stepOf_64 X ad cA x2 x3 y0 M_thrown M_trace M_found M_foundSet M_foundTimes M_w M_h M_height M_isPinned M_beside := by
  refine g_istore (lv2 := [(0, .ref (ad 19)), (2, .int x2), (3, .int x3), (4, .int y0)]) C dX4_stepOf_64 (by decide) [1, 2, 3, 0] rfl ?_
  refine g_iload_n C dX4_stepOf_66 rfl 1 rfl ?_
  refine g_if_le (tgt := 88) C dX4_stepOf_67 (by decide) (fun c_9 => ?_) (fun c_9 => ?_)
  · replace h := h.1 c_9
    refine g_iload C dX4_stepOf_88 3 rfl ?_
    exact g_lv [0, 1, 2] rfl h
  · replace h := h.2 c_9
    refine g_aload_n C dX4_stepOf_70 rfl 0 rfl ?_
    refine g_iload C dX4_stepOf_71 3 rfl ?_
    refine g_aload_n C dX4_stepOf_73 rfl 0 rfl ?_
    refine g_get C gfX4_stepOf_54 0 rfl rfl dX4_stepOf_74 ?_
    refine g_iload_n C dX4_stepOf_77 rfl 2 rfl ?_
    refine g_bipush C dX4_stepOf_78 bk_8 ?_
    refine g_isub C dX4_stepOf_80 ?_
    obtain ⟨hi_10, h⟩ := h
    refine g_iald C 1 0 rfl rfl hi_10 dX4_stepOf_81 ?_
    obtain ⟨hi_11, h⟩ := h
    refine g_callVi (wr := [((ad 32), .inl (cA 0, 64, .inl M_height)), ((ad 33), .inl (cA 2, 64, .inl M_isPinned))]) C (c_X4_puts ad cA y0 (M_height (x3 - (8 : Int32)).toNatClampNeg) M_thrown M_trace M_found M_foundSet M_foundTimes M_w M_h M_beside hi_11) gX4_stepOf_X4_puts rfl hde_X4_puts ⟨rfl, rfl⟩ (by decide) (by decide) [0, 3] [1, 2] [2, 0, 1, 3] rfl rfl rfl rfl (by decide) rfl (ws2 := fun u => [((ad 19), .inr (4, [.int M_thrown, .long M_trace, .ref (ad 20), .ref (ad 21), .ref (ad 22), .ref (ad 23), .ref (ad 24), .ref (ad 25), .ref (ad 26), .ref (ad 27), .ref (ad 28), .ref (ad 29), .ref (ad 30), .ref (ad 31), .long M_found, .long M_foundSet, .long M_foundTimes, .int M_w, .int M_h, .ref (ad 32), .ref (ad 33), .ref (ad 34)])), ((ad 32), .inl (cA 0, 64, .inl M_height)), ((ad 33), .inl (cA 2, 64, .inl M_isPinned)), ((ad 34), .inl (cA 0, 4, .inl u))]) (fun _ => rfl) 4 0 rfl rfl rfl (rest := []) rfl (Nat.le_of_ble_eq_true rfl) dX4_stepOf_82 (fun r_12 u_12 hp_12 => ?_)
    obtain ⟨u12_M_beside, rfl⟩ : ∃ z, z = u_12 := ⟨_, rfl⟩
    replace h := h r_12 u12_M_beside hp_12
    change gW X 0 0 [((ad 19), .inr (4, [.int M_thrown, .long M_trace, .ref (ad 20), .ref (ad 21), .ref (ad 22), .ref (ad 23), .ref (ad 24), .ref (ad 25), .ref (ad 26), .ref (ad 27), .ref (ad 28), .ref (ad 29), .ref (ad 30), .ref (ad 31), .long M_found, .long M_foundSet, .long M_foundTimes, .int M_w, .int M_h, .ref (ad 32), .ref (ad 33), .ref (ad 34)])), ((ad 32), .inl (cA 0, 64, .inl M_height)), ((ad 33), .inl (cA 2, 64, .inl M_isPinned)), ((ad 34), .inl (cA 0, 4, .inl u12_M_beside))] 7 [(0, .ref (ad 19)), (2, .int x2), (3, .int x3), (4, .int y0)] [.int r_12] 85
    refine g_goto (tgt := 90) C dX4_stepOf_85 (by decide) ?_
    exact g_lv [0, 1, 2] rfl h
set_option maxHeartbeats 4000000 in
set_option maxRecDepth 100000 in
theorem sgX4_stepOf_90 {X : gX} {ad : Nat → Nat} {cA : Nat → ClassId} {post : Int32 → ((Nat → Int32)) → Prop} {x2 : Int32} {x3 : Int32} {y0 : Int32} {M_thrown : Int32} {M_trace : Int64} {M_found : Int64} {M_foundSet : Int64} {M_foundTimes : Int64} {M_w : Int32} {M_h : Int32} {M_height : Nat → Int32} {M_isPinned : Nat → Int32} {M_beside : Nat → Int32} (C : gC X (gT cA) cX4_stepOf 7 RX4 wsX4_stepOf rmX4_stepOf) (E : gEi X (some .int) (gT cA) 0 0 post (w1X4_stepOf ad cA M_thrown M_trace M_found M_foundSet M_foundTimes M_w M_h M_height M_isPinned)) (h : (M_h ≤ (x2 + (1 : Int32)) → atX4_stepOf_122 X ad cA x3 y0 M_thrown M_trace M_found M_foundSet M_foundTimes M_w M_h M_height M_isPinned M_beside) ∧ (¬ M_h ≤ (x2 + (1 : Int32)) → vp_in (x3 + (8 : Int32)) 64 ∧ prX4_puts y0 (M_height (x3 + (8 : Int32)).toNatClampNeg) M_thrown M_trace M_found M_foundSet M_foundTimes M_w M_h M_beside ∧ ∀ (r_16 : Int32) (u16_M_beside : Nat → Int32), po_X4_puts ad cA y0 (M_height (x3 + (8 : Int32)).toNatClampNeg) M_thrown M_trace M_found M_foundSet M_foundTimes M_w M_h M_beside r_16 u16_M_beside → atX4_stepOf_122 X ad cA x3 r_16 M_thrown M_trace M_found M_foundSet M_foundTimes M_w M_h M_height M_isPinned u16_M_beside)) : atX4_stepOf_90 X ad cA x2 x3 y0 M_thrown M_trace M_found M_foundSet M_foundTimes M_w M_h M_height M_isPinned M_beside := by
  refine g_istore (lv2 := [(0, .ref (ad 19)), (2, .int x2), (3, .int x3), (4, .int y0)]) C dX4_stepOf_90 (by decide) [1, 2, 3, 0] rfl ?_
  refine g_iload_n C dX4_stepOf_92 rfl 1 rfl ?_
  refine g_iconst C dX4_stepOf_93 ik_1 ?_
  refine g_iadd C dX4_stepOf_94 ?_
  refine g_aload_n C dX4_stepOf_95 rfl 0 rfl ?_
  refine g_get C gfX4_stepOf_51 0 rfl rfl dX4_stepOf_96 ?_
  refine g_icmp_ge (tgt := 120) C dX4_stepOf_99 (by decide) (fun c_13 => ?_) (fun c_13 => ?_)
  · replace h := h.1 c_13
    refine g_iload C dX4_stepOf_120 3 rfl ?_
    exact g_lv [0, 2] rfl h
  · replace h := h.2 c_13
    refine g_aload_n C dX4_stepOf_102 rfl 0 rfl ?_
    refine g_iload C dX4_stepOf_103 3 rfl ?_
    refine g_aload_n C dX4_stepOf_105 rfl 0 rfl ?_
    refine g_get C gfX4_stepOf_54 0 rfl rfl dX4_stepOf_106 ?_
    refine g_iload_n C dX4_stepOf_109 rfl 2 rfl ?_
    refine g_bipush C dX4_stepOf_110 bk_8 ?_
    refine g_iadd C dX4_stepOf_112 ?_
    obtain ⟨hi_14, h⟩ := h
    refine g_iald C 1 0 rfl rfl hi_14 dX4_stepOf_113 ?_
    obtain ⟨hi_15, h⟩ := h
    refine g_callVi (wr := [((ad 32), .inl (cA 0, 64, .inl M_height)), ((ad 33), .inl (cA 2, 64, .inl M_isPinned))]) C (c_X4_puts ad cA y0 (M_height (x3 + (8 : Int32)).toNatClampNeg) M_thrown M_trace M_found M_foundSet M_foundTimes M_w M_h M_beside hi_15) gX4_stepOf_X4_puts rfl hde_X4_puts ⟨rfl, rfl⟩ (by decide) (by decide) [0, 3] [1, 2] [2, 0, 1, 3] rfl rfl rfl rfl (by decide) rfl (ws2 := fun u => [((ad 19), .inr (4, [.int M_thrown, .long M_trace, .ref (ad 20), .ref (ad 21), .ref (ad 22), .ref (ad 23), .ref (ad 24), .ref (ad 25), .ref (ad 26), .ref (ad 27), .ref (ad 28), .ref (ad 29), .ref (ad 30), .ref (ad 31), .long M_found, .long M_foundSet, .long M_foundTimes, .int M_w, .int M_h, .ref (ad 32), .ref (ad 33), .ref (ad 34)])), ((ad 32), .inl (cA 0, 64, .inl M_height)), ((ad 33), .inl (cA 2, 64, .inl M_isPinned)), ((ad 34), .inl (cA 0, 4, .inl u))]) (fun _ => rfl) 4 0 rfl rfl rfl (rest := []) rfl (Nat.le_of_ble_eq_true rfl) dX4_stepOf_114 (fun r_16 u_16 hp_16 => ?_)
    obtain ⟨u16_M_beside, rfl⟩ : ∃ z, z = u_16 := ⟨_, rfl⟩
    replace h := h r_16 u16_M_beside hp_16
    change gW X 0 0 [((ad 19), .inr (4, [.int M_thrown, .long M_trace, .ref (ad 20), .ref (ad 21), .ref (ad 22), .ref (ad 23), .ref (ad 24), .ref (ad 25), .ref (ad 26), .ref (ad 27), .ref (ad 28), .ref (ad 29), .ref (ad 30), .ref (ad 31), .long M_found, .long M_foundSet, .long M_foundTimes, .int M_w, .int M_h, .ref (ad 32), .ref (ad 33), .ref (ad 34)])), ((ad 32), .inl (cA 0, 64, .inl M_height)), ((ad 33), .inl (cA 2, 64, .inl M_isPinned)), ((ad 34), .inl (cA 0, 4, .inl u16_M_beside))] 7 [(0, .ref (ad 19)), (2, .int x2), (3, .int x3), (4, .int y0)] [.int r_16] 117
    refine g_goto (tgt := 122) C dX4_stepOf_117 (by decide) ?_
    exact g_lv [0, 2] rfl h
set_option maxHeartbeats 4000000 in
set_option maxRecDepth 100000 in
theorem sgX4_stepOf_122 {X : gX} {ad : Nat → Nat} {cA : Nat → ClassId} {post : Int32 → ((Nat → Int32)) → Prop} {x3 : Int32} {y0 : Int32} {M_thrown : Int32} {M_trace : Int64} {M_found : Int64} {M_foundSet : Int64} {M_foundTimes : Int64} {M_w : Int32} {M_h : Int32} {M_height : Nat → Int32} {M_isPinned : Nat → Int32} {M_beside : Nat → Int32} (C : gC X (gT cA) cX4_stepOf 7 RX4 wsX4_stepOf rmX4_stepOf) (E : gEi X (some .int) (gT cA) 0 0 post (w1X4_stepOf ad cA M_thrown M_trace M_found M_foundSet M_foundTimes M_w M_h M_height M_isPinned)) (h : vp_in ((y0 - (1 : Int32)) / (2 : Int32)) 4 ∧ ∀ x5_18 : Int32, x5_18 = (M_beside ((y0 - (1 : Int32)) / (2 : Int32)).toNatClampNeg) → vp_in (y0 / (2 : Int32)) 4 ∧ ∀ x6_20 : Int32, x6_20 = (M_beside (y0 / (2 : Int32)).toNatClampNeg) → vp_in x3 64 ∧ ((M_isPinned x3.toNatClampNeg) = 0 → vp_in x3 64 ∧ (x5_18 ≤ (M_height x3.toNatClampNeg) → vp_in x3 64 ∧ ((M_height x3.toNatClampNeg) ≤ x6_20 → vp_in x3 64 ∧ post (M_height x3.toNatClampNeg) M_beside) ∧ (¬ (M_height x3.toNatClampNeg) ≤ x6_20 → post x6_20 M_beside)) ∧ (¬ x5_18 ≤ (M_height x3.toNatClampNeg) → post x5_18 M_beside)) ∧ (¬ (M_isPinned x3.toNatClampNeg) = 0 → vp_in x3 64 ∧ post (M_height x3.toNatClampNeg) M_beside)) : atX4_stepOf_122 X ad cA x3 y0 M_thrown M_trace M_found M_foundSet M_foundTimes M_w M_h M_height M_isPinned M_beside := by
  refine g_istore (lv2 := [(0, .ref (ad 19)), (3, .int x3), (4, .int y0)]) C dX4_stepOf_122 (by decide) [1, 2, 0] rfl ?_
  refine g_aload_n C dX4_stepOf_124 rfl 0 rfl ?_
  refine g_get C gfX4_stepOf_61 0 rfl rfl dX4_stepOf_125 ?_
  refine g_iload C dX4_stepOf_128 2 rfl ?_
  refine g_iconst C dX4_stepOf_130 ik_1 ?_
  refine g_isub C dX4_stepOf_131 ?_
  refine g_iconst C dX4_stepOf_132 ik_2 ?_
  refine g_idiv C dX4_stepOf_133 (by decide) ?_
  obtain ⟨hi_17, h⟩ := h
  refine g_iald C 3 0 rfl rfl hi_17 dX4_stepOf_134 ?_
  refine g_topi (fun x5_18 ex5_18 => ?_)
  replace h := h x5_18 ex5_18
  refine g_istore (lv2 := [(0, .ref (ad 19)), (3, .int x3), (4, .int y0), (5, .int x5_18)]) C dX4_stepOf_135 (by decide) [1, 2, 3, 0] rfl ?_
  refine g_aload_n C dX4_stepOf_137 rfl 0 rfl ?_
  refine g_get C gfX4_stepOf_61 0 rfl rfl dX4_stepOf_138 ?_
  refine g_iload C dX4_stepOf_141 2 rfl ?_
  refine g_iconst C dX4_stepOf_143 ik_2 ?_
  refine g_idiv C dX4_stepOf_144 (by decide) ?_
  obtain ⟨hi_19, h⟩ := h
  refine g_iald C 3 0 rfl rfl hi_19 dX4_stepOf_145 ?_
  refine g_topi (fun x6_20 ex6_20 => ?_)
  replace h := h x6_20 ex6_20
  refine g_istore (lv2 := [(0, .ref (ad 19)), (3, .int x3), (4, .int y0), (5, .int x5_18), (6, .int x6_20)]) C dX4_stepOf_146 (by decide) [1, 2, 3, 4, 0] rfl ?_
  refine g_aload_n C dX4_stepOf_148 rfl 0 rfl ?_
  refine g_get C gfX4_stepOf_57 0 rfl rfl dX4_stepOf_149 ?_
  refine g_iload_n C dX4_stepOf_152 rfl 1 rfl ?_
  obtain ⟨hi_21, h⟩ := h
  refine g_zald C 2 2 rfl rfl hi_21 dX4_stepOf_153 ?_
  refine g_if_eq (tgt := 166) C dX4_stepOf_154 (by decide) (fun c_22 => ?_) (fun c_22 => ?_)
  · replace h := h.1 c_22
    refine g_aload_n C dX4_stepOf_166 rfl 0 rfl ?_
    refine g_get C gfX4_stepOf_54 0 rfl rfl dX4_stepOf_167 ?_
    refine g_iload_n C dX4_stepOf_170 rfl 1 rfl ?_
    obtain ⟨hi_23, h⟩ := h
    refine g_iald C 1 0 rfl rfl hi_23 dX4_stepOf_171 ?_
    refine g_iload C dX4_stepOf_172 3 rfl ?_
    refine g_icmp_ge (tgt := 182) C dX4_stepOf_174 (by decide) (fun c_24 => ?_) (fun c_24 => ?_)
    · replace h := h.1 c_24
      refine g_aload_n C dX4_stepOf_182 rfl 0 rfl ?_
      refine g_get C gfX4_stepOf_54 0 rfl rfl dX4_stepOf_183 ?_
      refine g_iload_n C dX4_stepOf_186 rfl 1 rfl ?_
      obtain ⟨hi_25, h⟩ := h
      refine g_iald C 1 0 rfl rfl hi_25 dX4_stepOf_187 ?_
      refine g_iload C dX4_stepOf_188 4 rfl ?_
      refine g_icmp_le (tgt := 198) C dX4_stepOf_190 (by decide) (fun c_26 => ?_) (fun c_26 => ?_)
      · replace h := h.1 c_26
        refine g_aload_n C dX4_stepOf_198 rfl 0 rfl ?_
        refine g_get C gfX4_stepOf_54 0 rfl rfl dX4_stepOf_199 ?_
        refine g_iload_n C dX4_stepOf_202 rfl 1 rfl ?_
        obtain ⟨hi_27, h⟩ := h
        refine g_iald C 1 0 rfl rfl hi_27 dX4_stepOf_203 ?_
        exact g_iret C E M_beside h rfl dX4_stepOf_204
      · replace h := h.2 c_26
        refine g_iload C dX4_stepOf_193 4 rfl ?_
        refine g_goto (tgt := 204) C dX4_stepOf_195 (by decide) ?_
        exact g_iret C E M_beside h rfl dX4_stepOf_204
    · replace h := h.2 c_24
      refine g_iload C dX4_stepOf_177 3 rfl ?_
      refine g_goto (tgt := 204) C dX4_stepOf_179 (by decide) ?_
      exact g_iret C E M_beside h rfl dX4_stepOf_204
  · replace h := h.2 c_22
    refine g_aload_n C dX4_stepOf_157 rfl 0 rfl ?_
    refine g_get C gfX4_stepOf_54 0 rfl rfl dX4_stepOf_158 ?_
    refine g_iload_n C dX4_stepOf_161 rfl 1 rfl ?_
    obtain ⟨hi_28, h⟩ := h
    refine g_iald C 1 0 rfl rfl hi_28 dX4_stepOf_162 ?_
    refine g_goto (tgt := 204) C dX4_stepOf_163 (by decide) ?_
    exact g_iret C E M_beside h rfl dX4_stepOf_204
def prX4_stepOf (p1 : Int32) (p2 : Int32) (M_thrown : Int32) (M_trace : Int64) (M_found : Int64) (M_foundSet : Int64) (M_foundTimes : Int64) (M_w : Int32) (M_h : Int32) (M_height : Nat → Int32) (M_isPinned : Nat → Int32) (M_beside : Nat → Int32) : Prop := ∃ (w h x y : Nat), 2 ≤ w ∧ w ≤ 8 ∧ 2 ≤ h ∧ h ≤ 8 ∧ M_w = nI w ∧ M_h = nI h ∧ x < w ∧ y < h ∧ p1 = nI x ∧ p2 = nI y
def po_X4_stepOf (ad : Nat → Nat) (cA : Nat → ClassId) (p1 : Int32) (p2 : Int32) (M_thrown : Int32) (M_trace : Int64) (M_found : Int64) (M_foundSet : Int64) (M_foundTimes : Int64) (M_w : Int32) (M_h : Int32) (M_height : Nat → Int32) (M_isPinned : Nat → Int32) (M_beside : Nat → Int32) (r : Int32) (u : (Nat → Int32)) : Prop := r = stp M_w.toNatClampNeg M_h.toNatClampNeg M_isPinned M_height p1.toNatClampNeg p2.toNatClampNeg
set_option maxHeartbeats 4000000 in
set_option maxRecDepth 100000 in
theorem c_X4_stepOf (ad : Nat → Nat) (cA : Nat → ClassId) (p1 : Int32) (p2 : Int32) (M_thrown : Int32) (M_trace : Int64) (M_found : Int64) (M_foundSet : Int64) (M_foundTimes : Int64) (M_w : Int32) (M_h : Int32) (M_height : Nat → Int32) (M_isPinned : Nat → Int32) (M_beside : Nat → Int32) (hq : prX4_stepOf p1 p2 M_thrown M_trace M_found M_foundSet M_foundTimes M_w M_h M_height M_isPinned M_beside) : ∀ (l : Launch) (D : va_G), gMi (S := (Nat → Int32)) l yX4_stepOf wsX4_stepOf rmX4_stepOf D (gT cA) 0 0 [.ref (ad 19), .int p1, .int p2] (wcX4_stepOf ad cA M_thrown M_trace M_found M_foundSet M_foundTimes M_w M_h M_height M_isPinned M_beside) (po_X4_stepOf ad cA p1 p2 M_thrown M_trace M_found M_foundSet M_foundTimes M_w M_h M_height M_isPinned M_beside) (w1X4_stepOf ad cA M_thrown M_trace M_found M_foundSet M_foundTimes M_w M_h M_height M_isPinned) := by
  intro l D
  unfold prX4_stepOf at hq
  refine g_enteri (cc := cX4_stepOf) (nL := 7) (ret := (some .int)) (by decide) rfl (Nat.le_of_ble_eq_true rfl) rfl (fun X C E => ?_)
  obtain ⟨w, h, x, y, hw2, hw, hh2, hh, rfl, rfl, hx, hy, rfl, rfl⟩ := hq
  have hpo : ∀ (r : Int32) (u : Nat → Int32), r = stp w h M_isPinned M_height x y → po_X4_stepOf ad cA (nI x) (nI y) M_thrown M_trace M_found M_foundSet M_foundTimes (nI w) (nI h) M_height M_isPinned M_beside r u := fun r u e => by
    unfold po_X4_stepOf
    rw [nI_clamp (by omega), nI_clamp (by omega), nI_clamp (by omega), nI_clamp (by omega)]; exact e
  have hin : vp_in (nI (8 * y + x)) 64 := vp_in_nI (by omega) (by decide)
  have k5 : atX4_stepOf_122 X ad cA (nI (8 * y + x)) (nI (stq w h M_height x y M_beside).1) M_thrown M_trace M_found M_foundSet M_foundTimes (nI w) (nI h) M_height M_isPinned (stq w h M_height x y M_beside).2 := by
    have cn := stq_1 hw2 hh2 hx hy M_height M_beside
    have a2 := stp_any hw2 hh2 hx hy M_isPinned M_height M_beside
    generalize stq w h M_height x y M_beside = Q4 at *
    refine sgX4_stepOf_122 C E ?_
    have d1 : (nI Q4.1 - 1) / 2 = nI ((Q4.1 - 1) / 2) := by
      show (nI Q4.1 - nI 1) / nI 2 = _
      rw [pk_sub (by omega), pk_div (by omega) (by decide) (by decide)]
    have d2 : nI Q4.1 / 2 = nI (Q4.1 / 2) := pk_div (by omega) (by decide) (by decide)
    rw [d1, d2, nI_clamp (by omega), nI_clamp (by omega), nI_clamp (by omega)]
    refine ⟨vp_in_nI (by omega) (by decide), fun lo elo => ⟨vp_in_nI (by omega) (by decide), fun hi ehi => ⟨hin, fun c => ⟨hin, fun c1 => ⟨hin, fun c2 => ⟨hin, hpo _ _ ?_⟩, fun c2 => hpo _ _ ?_⟩, fun c1 => hpo _ _ ?_⟩, fun c => ⟨hin, hpo _ _ ?_⟩⟩⟩⟩
    · rw [← a2 c, ← elo, ← ehi]; unfold clp
      rw [if_neg (by rw [Int32.not_lt]; exact c1), if_neg (by rw [Int32.not_lt]; exact c2)]
    · rw [← a2 c, ← elo, ← ehi]; unfold clp
      rw [if_neg (by rw [Int32.not_lt]; exact c1), if_pos (by rw [← Int32.not_le]; exact c2)]
    · rw [← a2 c, ← elo, ← ehi]; unfold clp
      rw [if_pos (by rw [← Int32.not_le]; exact c1)]
    · unfold stp; rw [if_neg c]
  unfold stq at k5
  refine sgX4_stepOf_0 C E ?_
  rw [m8_eq]
  generalize hQ1 : pst (decide (0 < x)) (M_height (8 * y + (x - 1))) (0, M_beside) = Q1 at *
  generalize hQ2 : pst (decide (x + 1 < w)) (M_height (8 * y + (x + 1))) Q1 = Q2 at *
  generalize hQ3 : pst (decide (0 < y)) (M_height (8 * (y - 1) + x)) Q2 = Q3 at *
  have c1 : Q1.1 ≤ 1 := by rw [← hQ1, pst_1]; show 0 + _ ≤ 1; split <;> omega
  have c2 : Q2.1 ≤ 2 := by rw [← hQ2, pst_1]; split <;> omega
  have c3 : Q3.1 ≤ 3 := by rw [← hQ3, pst_1]; split <;> omega
  have k4 : atX4_stepOf_90 X ad cA (nI y) (nI (8 * y + x)) (nI Q3.1) M_thrown M_trace M_found M_foundSet M_foundTimes (nI w) (nI h) M_height M_isPinned Q3.2 := by
    refine sgX4_stepOf_90 C E ⟨fun c => ?_, fun c => ?_⟩ <;> rw [show nI y + 1 = nI (y + 1) from nI_1 y] at c
    · have hb : ¬ y + 1 < h := fun q => absurd c (nI_ge q (by omega))
      rw [decide_eq_false hb] at k5; exact k5
    · have hb : y + 1 < h := Nat.lt_of_not_le (fun q => c (nI_le q (by omega)))
      rw [decide_eq_true hb] at k5
      rw [show nI (8 * y + x) + 8 = nI (8 * (y + 1) + x) from by show _ + nI 8 = _; rw [nI_add]; congr 1; omega, nI_clamp (by omega)]
      refine ⟨vp_in_nI (by omega) (by decide), vp_in_nI (by omega) (by decide), fun r u hr => ?_⟩
      obtain ⟨rfl, rfl⟩ := puts_step hr (by omega)
      exact k5
  have k3 : atX4_stepOf_64 X ad cA (nI y) (nI (8 * y + x)) (nI Q2.1) M_thrown M_trace M_found M_foundSet M_foundTimes (nI w) (nI h) M_height M_isPinned Q2.2 := by
    refine sgX4_stepOf_64 C E ⟨fun c => ?_, fun c => ?_⟩
    · have hb : ¬ 0 < y := fun q => absurd c (nI_nle q (by omega))
      rw [decide_eq_false hb] at hQ3; rw [pst_f] at hQ3; subst hQ3; exact k4
    · have hb : 0 < y := Nat.pos_of_ne_zero (fun q => c (by rw [q]; exact i32_le_refl _))
      rw [decide_eq_true hb] at hQ3
      rw [show nI (8 * y + x) - 8 = nI (8 * (y - 1) + x) from by show _ - nI 8 = _; rw [pk_sub (by omega)]; congr 1; omega, nI_clamp (by omega)]
      refine ⟨vp_in_nI (by omega) (by decide), vp_in_nI (by omega) (by decide), fun r u hr => ?_⟩
      obtain ⟨rfl, rfl⟩ := puts_step hr (by omega)
      rw [hQ3]; exact k4
  have k2 : atX4_stepOf_33 X ad cA (nI x) (nI y) (nI (8 * y + x)) (nI Q1.1) M_thrown M_trace M_found M_foundSet M_foundTimes (nI w) (nI h) M_height M_isPinned Q1.2 := by
    refine sgX4_stepOf_33 C E ⟨fun c => ?_, fun c => ?_⟩ <;> rw [show nI x + 1 = nI (x + 1) from nI_1 x] at c
    · have hb : ¬ x + 1 < w := fun q => absurd c (nI_ge q (by omega))
      rw [decide_eq_false hb] at hQ2; rw [pst_f] at hQ2; subst hQ2; exact k3
    · have hb : x + 1 < w := Nat.lt_of_not_le (fun q => c (nI_le q (by omega)))
      rw [decide_eq_true hb] at hQ2
      rw [show nI (8 * y + x) + 1 = nI (8 * y + (x + 1)) from nI_1 _, nI_clamp (by omega)]
      refine ⟨vp_in_nI (by omega) (by decide), vp_in_nI (by omega) (by decide), fun r u hr => ?_⟩
      obtain ⟨rfl, rfl⟩ := puts_step hr (by omega)
      rw [hQ2]; exact k3
  refine ⟨fun c => ?_, fun c => ?_⟩
  · have hb : ¬ 0 < x := fun q => absurd c (nI_nle q (by omega))
    rw [decide_eq_false hb] at hQ1; rw [pst_f] at hQ1; subst hQ1; exact k2
  · have hb : 0 < x := Nat.pos_of_ne_zero (fun q => c (by rw [q]; exact i32_le_refl _))
    rw [decide_eq_true hb] at hQ1
    rw [show nI (8 * y + x) - 1 = nI (8 * y + (x - 1)) from by show _ - nI 1 = _; rw [pk_sub (by omega)]; congr 1; omega, nI_clamp (by omega)]
    refine ⟨vp_in_nI (by omega) (by decide), vp_in_nI (n := 0) (by omega) (by decide), fun r u hr => ?_⟩
    obtain ⟨rfl, rfl⟩ := puts_step (q := (0, M_beside)) hr (show 0 < 4 by decide)
    rw [hQ1]; exact k2


theorem size_eq (x : Int32) : fnX4_size x = szI x := by
  unfold fnX4_size szI
  rw [← Int32.zero_sub]

abbrev w1X4_slackOf (ad : Nat → Nat) (cA : Nat → ClassId) (M_thrown : Int32) (M_trace : Int64) (M_found : Int64) (M_foundSet : Int64) (M_foundTimes : Int64) (M_w : Int32) (M_h : Int32) (M_height : Nat → Int32) (M_isPinned : Nat → Int32) (u : (Nat → Int32)) : va_W := [((ad 19), .inr (4, [.int M_thrown, .long M_trace, .ref (ad 20), .ref (ad 21), .ref (ad 22), .ref (ad 23), .ref (ad 24), .ref (ad 25), .ref (ad 26), .ref (ad 27), .ref (ad 28), .ref (ad 29), .ref (ad 30), .ref (ad 31), .long M_found, .long M_foundSet, .long M_foundTimes, .int M_w, .int M_h, .ref (ad 32), .ref (ad 33), .ref (ad 34)])), ((ad 32), .inl (cA 0, 64, .inl M_height)), ((ad 33), .inl (cA 2, 64, .inl M_isPinned)), ((ad 34), .inl (cA 0, 4, .inl u))]
abbrev wcX4_slackOf (ad : Nat → Nat) (cA : Nat → ClassId) (M_thrown : Int32) (M_trace : Int64) (M_found : Int64) (M_foundSet : Int64) (M_foundTimes : Int64) (M_w : Int32) (M_h : Int32) (M_height : Nat → Int32) (M_isPinned : Nat → Int32) (M_beside : Nat → Int32) : va_W := [((ad 19), .inr (4, [.int M_thrown, .long M_trace, .ref (ad 20), .ref (ad 21), .ref (ad 22), .ref (ad 23), .ref (ad 24), .ref (ad 25), .ref (ad 26), .ref (ad 27), .ref (ad 28), .ref (ad 29), .ref (ad 30), .ref (ad 31), .long M_found, .long M_foundSet, .long M_foundTimes, .int M_w, .int M_h, .ref (ad 32), .ref (ad 33), .ref (ad 34)])), ((ad 32), .inl (cA 0, 64, .inl M_height)), ((ad 33), .inl (cA 2, 64, .inl M_isPinned)), ((ad 34), .inl (cA 0, 4, .inl M_beside))]
def rmX4_slackOf : Room := { frames := 2, cells := 0, slots := 0, locals := 49 }
abbrev atX4_slackOf_0 (X : gX) (ad : Nat → Nat) (cA : Nat → ClassId) (M_thrown : Int32) (M_trace : Int64) (M_found : Int64) (M_foundSet : Int64) (M_foundTimes : Int64) (M_w : Int32) (M_h : Int32) (M_height : Nat → Int32) (M_isPinned : Nat → Int32) (M_beside : Nat → Int32) : Prop := gW X 0 0 [((ad 19), .inr (4, [.int M_thrown, .long M_trace, .ref (ad 20), .ref (ad 21), .ref (ad 22), .ref (ad 23), .ref (ad 24), .ref (ad 25), .ref (ad 26), .ref (ad 27), .ref (ad 28), .ref (ad 29), .ref (ad 30), .ref (ad 31), .long M_found, .long M_foundSet, .long M_foundTimes, .int M_w, .int M_h, .ref (ad 32), .ref (ad 33), .ref (ad 34)])), ((ad 32), .inl (cA 0, 64, .inl M_height)), ((ad 33), .inl (cA 2, 64, .inl M_isPinned)), ((ad 34), .inl (cA 0, 4, .inl M_beside))] 4 [(0, .ref (ad 19))] [] 0
abbrev atX4_slackOf_4 (X : gX) (ad : Nat → Nat) (cA : Nat → ClassId) (x1 : Int32) (x2 : Int32) (M_thrown : Int32) (M_trace : Int64) (M_found : Int64) (M_foundSet : Int64) (M_foundTimes : Int64) (M_w : Int32) (M_h : Int32) (M_height : Nat → Int32) (M_isPinned : Nat → Int32) (M_beside : Nat → Int32) : Prop := gW X 0 0 [((ad 19), .inr (4, [.int M_thrown, .long M_trace, .ref (ad 20), .ref (ad 21), .ref (ad 22), .ref (ad 23), .ref (ad 24), .ref (ad 25), .ref (ad 26), .ref (ad 27), .ref (ad 28), .ref (ad 29), .ref (ad 30), .ref (ad 31), .long M_found, .long M_foundSet, .long M_foundTimes, .int M_w, .int M_h, .ref (ad 32), .ref (ad 33), .ref (ad 34)])), ((ad 32), .inl (cA 0, 64, .inl M_height)), ((ad 33), .inl (cA 2, 64, .inl M_isPinned)), ((ad 34), .inl (cA 0, 4, .inl M_beside))] 4 [(0, .ref (ad 19)), (1, .int x1), (2, .int x2)] [] 4
abbrev atX4_slackOf_14 (X : gX) (ad : Nat → Nat) (cA : Nat → ClassId) (x1 : Int32) (x2 : Int32) (x3 : Int32) (M_thrown : Int32) (M_trace : Int64) (M_found : Int64) (M_foundSet : Int64) (M_foundTimes : Int64) (M_w : Int32) (M_h : Int32) (M_height : Nat → Int32) (M_isPinned : Nat → Int32) (M_beside : Nat → Int32) : Prop := gW X 0 0 [((ad 19), .inr (4, [.int M_thrown, .long M_trace, .ref (ad 20), .ref (ad 21), .ref (ad 22), .ref (ad 23), .ref (ad 24), .ref (ad 25), .ref (ad 26), .ref (ad 27), .ref (ad 28), .ref (ad 29), .ref (ad 30), .ref (ad 31), .long M_found, .long M_foundSet, .long M_foundTimes, .int M_w, .int M_h, .ref (ad 32), .ref (ad 33), .ref (ad 34)])), ((ad 32), .inl (cA 0, 64, .inl M_height)), ((ad 33), .inl (cA 2, 64, .inl M_isPinned)), ((ad 34), .inl (cA 0, 4, .inl M_beside))] 4 [(0, .ref (ad 19)), (1, .int x1), (2, .int x2), (3, .int x3)] [] 14
theorem giX4_slackOf_X4 : ∀ w ∈ u_ws RX4 TX4 22, w ∈ wsX4_slackOf := by decide +kernel
theorem gfX4_slackOf_51 : gF wsX4_slackOf RX4 51 4 18 RX4 TX4 22 := ⟨giX4_slackOf_X4, by decide +kernel, rfl, by decide⟩
theorem gfX4_slackOf_47 : gF wsX4_slackOf RX4 47 4 17 RX4 TX4 22 := ⟨giX4_slackOf_X4, by decide +kernel, rfl, by decide⟩
theorem gfX4_slackOf_54 : gF wsX4_slackOf RX4 54 4 19 RX4 TX4 22 := ⟨giX4_slackOf_X4, by decide +kernel, rfl, by decide⟩
set_option maxHeartbeats 4000000 in
set_option maxRecDepth 100000 in
theorem sgX4_slackOf_0 {X : gX} {ad : Nat → Nat} {cA : Nat → ClassId} {post : Int32 → ((Nat → Int32)) → Prop} {M_thrown : Int32} {M_trace : Int64} {M_found : Int64} {M_foundSet : Int64} {M_foundTimes : Int64} {M_w : Int32} {M_h : Int32} {M_height : Nat → Int32} {M_isPinned : Nat → Int32} {M_beside : Nat → Int32} (C : gC X (gT cA) cX4_slackOf 4 RX4 wsX4_slackOf rmX4_slackOf) (E : gEi X (some .int) (gT cA) 0 0 post (w1X4_slackOf ad cA M_thrown M_trace M_found M_foundSet M_foundTimes M_w M_h M_height M_isPinned)) (h : atX4_slackOf_4 X ad cA (0 : Int32) (0 : Int32) M_thrown M_trace M_found M_foundSet M_foundTimes M_w M_h M_height M_isPinned M_beside) : atX4_slackOf_0 X ad cA M_thrown M_trace M_found M_foundSet M_foundTimes M_w M_h M_height M_isPinned M_beside := by
  refine g_iconst C dX4_slackOf_0 ik_0 ?_
  refine g_istore_n (lv2 := [(0, .ref (ad 19)), (1, .int (0 : Int32))]) C dX4_slackOf_1 rfl (by decide) [1, 0] rfl ?_
  refine g_iconst C dX4_slackOf_2 ik_0 ?_
  refine g_istore_n (lv2 := [(0, .ref (ad 19)), (1, .int (0 : Int32)), (2, .int (0 : Int32))]) C dX4_slackOf_3 rfl (by decide) [1, 2, 0] rfl ?_
  exact g_lv [0, 1, 2] rfl h
set_option maxHeartbeats 4000000 in
set_option maxRecDepth 100000 in
theorem sgX4_slackOf_4 {X : gX} {ad : Nat → Nat} {cA : Nat → ClassId} {post : Int32 → ((Nat → Int32)) → Prop} {x1 : Int32} {x2 : Int32} {M_thrown : Int32} {M_trace : Int64} {M_found : Int64} {M_foundSet : Int64} {M_foundTimes : Int64} {M_w : Int32} {M_h : Int32} {M_height : Nat → Int32} {M_isPinned : Nat → Int32} {M_beside : Nat → Int32} (C : gC X (gT cA) cX4_slackOf 4 RX4 wsX4_slackOf rmX4_slackOf) (E : gEi X (some .int) (gT cA) 0 0 post (w1X4_slackOf ad cA M_thrown M_trace M_found M_foundSet M_foundTimes M_w M_h M_height M_isPinned)) (h : (M_h ≤ x2 → post x1 M_beside) ∧ (¬ M_h ≤ x2 → atX4_slackOf_14 X ad cA x1 x2 (0 : Int32) M_thrown M_trace M_found M_foundSet M_foundTimes M_w M_h M_height M_isPinned M_beside)) : atX4_slackOf_4 X ad cA x1 x2 M_thrown M_trace M_found M_foundSet M_foundTimes M_w M_h M_height M_isPinned M_beside := by
  refine g_iload_n C dX4_slackOf_4 rfl 2 rfl ?_
  refine g_aload_n C dX4_slackOf_5 rfl 0 rfl ?_
  refine g_get C gfX4_slackOf_51 0 rfl rfl dX4_slackOf_6 ?_
  refine g_icmp_ge (tgt := 58) C dX4_slackOf_9 (by decide) (fun c_1 => ?_) (fun c_1 => ?_)
  · replace h := h.1 c_1
    refine g_iload_n C dX4_slackOf_58 rfl 1 rfl ?_
    exact g_iret C E M_beside h rfl dX4_slackOf_59
  · replace h := h.2 c_1
    refine g_iconst C dX4_slackOf_12 ik_0 ?_
    refine g_istore_n (lv2 := [(0, .ref (ad 19)), (1, .int x1), (2, .int x2), (3, .int (0 : Int32))]) C dX4_slackOf_13 rfl (by decide) [1, 2, 3, 0] rfl ?_
    exact g_lv [0, 1, 2, 3] rfl h
set_option maxHeartbeats 4000000 in
set_option maxRecDepth 100000 in
theorem sgX4_slackOf_14 {X : gX} {ad : Nat → Nat} {cA : Nat → ClassId} {post : Int32 → ((Nat → Int32)) → Prop} {x1 : Int32} {x2 : Int32} {x3 : Int32} {M_thrown : Int32} {M_trace : Int64} {M_found : Int64} {M_foundSet : Int64} {M_foundTimes : Int64} {M_w : Int32} {M_h : Int32} {M_height : Nat → Int32} {M_isPinned : Nat → Int32} {M_beside : Nat → Int32} (C : gC X (gT cA) cX4_slackOf 4 RX4 wsX4_slackOf rmX4_slackOf) (E : gEi X (some .int) (gT cA) 0 0 post (w1X4_slackOf ad cA M_thrown M_trace M_found M_foundSet M_foundTimes M_w M_h M_height M_isPinned)) (h : (M_w ≤ x3 → atX4_slackOf_4 X ad cA x1 (x2 + 1) M_thrown M_trace M_found M_foundSet M_foundTimes M_w M_h M_height M_isPinned M_beside) ∧ (¬ M_w ≤ x3 → prX4_stepOf x3 x2 M_thrown M_trace M_found M_foundSet M_foundTimes M_w M_h M_height M_isPinned M_beside ∧ ∀ (r_4 : Int32) (u4_M_beside : Nat → Int32), po_X4_stepOf ad cA x3 x2 M_thrown M_trace M_found M_foundSet M_foundTimes M_w M_h M_height M_isPinned M_beside r_4 u4_M_beside → vp_in (((8 : Int32) * x2) + x3) 64 ∧ ∀ x1_7 : Int32, x1_7 = (x1 + (fnX4_size (r_4 - (M_height (((8 : Int32) * x2) + x3).toNatClampNeg)))) → atX4_slackOf_14 X ad cA x1_7 x2 (x3 + 1) M_thrown M_trace M_found M_foundSet M_foundTimes M_w M_h M_height M_isPinned u4_M_beside)) : atX4_slackOf_14 X ad cA x1 x2 x3 M_thrown M_trace M_found M_foundSet M_foundTimes M_w M_h M_height M_isPinned M_beside := by
  refine g_iload_n C dX4_slackOf_14 rfl 3 rfl ?_
  refine g_aload_n C dX4_slackOf_15 rfl 0 rfl ?_
  refine g_get C gfX4_slackOf_47 0 rfl rfl dX4_slackOf_16 ?_
  refine g_icmp_ge (tgt := 52) C dX4_slackOf_19 (by decide) (fun c_2 => ?_) (fun c_2 => ?_)
  · replace h := h.1 c_2
    refine g_iinc (v := (x2 + 1)) (lv2 := [(0, .ref (ad 19)), (1, .int x1), (2, .int (x2 + 1)), (3, .int x3)]) C dX4_slackOf_52 2 rfl (by first | rfl | decide) (by decide) [1, 2, 0, 3] rfl ?_
    refine g_goto (tgt := 4) C dX4_slackOf_55 (by decide) ?_
    exact g_lv [0, 1, 2] rfl h
  · replace h := h.2 c_2
    refine g_iload_n C dX4_slackOf_22 rfl 1 rfl ?_
    refine g_aload_n C dX4_slackOf_23 rfl 0 rfl ?_
    refine g_iload_n C dX4_slackOf_24 rfl 3 rfl ?_
    refine g_iload_n C dX4_slackOf_25 rfl 2 rfl ?_
    obtain ⟨hi_3, h⟩ := h
    refine g_callVi (wr := []) C (c_X4_stepOf ad cA x3 x2 M_thrown M_trace M_found M_foundSet M_foundTimes M_w M_h M_height M_isPinned M_beside hi_3) gX4_slackOf_X4_stepOf rfl hde_X4_stepOf ⟨rfl, rfl⟩ (by decide) (by decide) [0, 1, 2, 3] [] [0, 1, 2, 3] rfl rfl rfl rfl (by decide) rfl (ws2 := fun u => [((ad 19), .inr (4, [.int M_thrown, .long M_trace, .ref (ad 20), .ref (ad 21), .ref (ad 22), .ref (ad 23), .ref (ad 24), .ref (ad 25), .ref (ad 26), .ref (ad 27), .ref (ad 28), .ref (ad 29), .ref (ad 30), .ref (ad 31), .long M_found, .long M_foundSet, .long M_foundTimes, .int M_w, .int M_h, .ref (ad 32), .ref (ad 33), .ref (ad 34)])), ((ad 32), .inl (cA 0, 64, .inl M_height)), ((ad 33), .inl (cA 2, 64, .inl M_isPinned)), ((ad 34), .inl (cA 0, 4, .inl u))]) (fun _ => rfl) 4 0 rfl rfl rfl (rest := [.int x1]) rfl (Nat.le_of_ble_eq_true rfl) dX4_slackOf_26 (fun r_4 u_4 hp_4 => ?_)
    obtain ⟨u4_M_beside, rfl⟩ : ∃ z, z = u_4 := ⟨_, rfl⟩
    replace h := h r_4 u4_M_beside hp_4
    change gW X 0 0 [((ad 19), .inr (4, [.int M_thrown, .long M_trace, .ref (ad 20), .ref (ad 21), .ref (ad 22), .ref (ad 23), .ref (ad 24), .ref (ad 25), .ref (ad 26), .ref (ad 27), .ref (ad 28), .ref (ad 29), .ref (ad 30), .ref (ad 31), .long M_found, .long M_foundSet, .long M_foundTimes, .int M_w, .int M_h, .ref (ad 32), .ref (ad 33), .ref (ad 34)])), ((ad 32), .inl (cA 0, 64, .inl M_height)), ((ad 33), .inl (cA 2, 64, .inl M_isPinned)), ((ad 34), .inl (cA 0, 4, .inl u4_M_beside))] 4 [(0, .ref (ad 19)), (1, .int x1), (2, .int x2), (3, .int x3)] [.int r_4, .int x1] 29
    refine g_aload_n C dX4_slackOf_29 rfl 0 rfl ?_
    refine g_get C gfX4_slackOf_54 0 rfl rfl dX4_slackOf_30 ?_
    refine g_bipush C dX4_slackOf_33 bk_8 ?_
    refine g_iload_n C dX4_slackOf_35 rfl 2 rfl ?_
    refine g_imul C dX4_slackOf_36 ?_
    refine g_iload_n C dX4_slackOf_37 rfl 3 rfl ?_
    refine g_iadd C dX4_slackOf_38 ?_
    obtain ⟨hi_5, h⟩ := h
    refine g_iald C 1 0 rfl rfl hi_5 dX4_slackOf_39 ?_
    refine g_isub C dX4_slackOf_40 ?_
    refine g_callSi (b := 0) (wr := [((ad 19), .inr (4, [.int M_thrown, .long M_trace, .ref (ad 20), .ref (ad 21), .ref (ad 22), .ref (ad 23), .ref (ad 24), .ref (ad 25), .ref (ad 26), .ref (ad 27), .ref (ad 28), .ref (ad 29), .ref (ad 30), .ref (ad 31), .long M_found, .long M_foundSet, .long M_foundTimes, .int M_w, .int M_h, .ref (ad 32), .ref (ad 33), .ref (ad 34)])), ((ad 32), .inl (cA 0, 64, .inl M_height)), ((ad 33), .inl (cA 2, 64, .inl M_isPinned)), ((ad 34), .inl (cA 0, 4, .inl u4_M_beside))]) C (c_X4_size ad cA (r_4 - (M_height (((8 : Int32) * x2) + x3).toNatClampNeg))) gX4_slackOf_X4_size rfl hde_X4_size ⟨rfl, rfl⟩ (by decide) (by decide) [] [0, 1, 2, 3] [0, 1, 2, 3] rfl rfl rfl rfl (by decide) rfl (ws2 := fun u => [((ad 19), .inr (4, [.int M_thrown, .long M_trace, .ref (ad 20), .ref (ad 21), .ref (ad 22), .ref (ad 23), .ref (ad 24), .ref (ad 25), .ref (ad 26), .ref (ad 27), .ref (ad 28), .ref (ad 29), .ref (ad 30), .ref (ad 31), .long M_found, .long M_foundSet, .long M_foundTimes, .int M_w, .int M_h, .ref (ad 32), .ref (ad 33), .ref (ad 34)])), ((ad 32), .inl (cA 0, 64, .inl M_height)), ((ad 33), .inl (cA 2, 64, .inl M_isPinned)), ((ad 34), .inl (cA 0, 4, .inl u4_M_beside))]) (fun _ => rfl) (rest := [.int x1]) rfl (Nat.le_of_ble_eq_true rfl) dX4_slackOf_41 (fun r_6 u_6 hp_6 => ?_)
    subst hp_6
    change gW X 0 0 [((ad 19), .inr (4, [.int M_thrown, .long M_trace, .ref (ad 20), .ref (ad 21), .ref (ad 22), .ref (ad 23), .ref (ad 24), .ref (ad 25), .ref (ad 26), .ref (ad 27), .ref (ad 28), .ref (ad 29), .ref (ad 30), .ref (ad 31), .long M_found, .long M_foundSet, .long M_foundTimes, .int M_w, .int M_h, .ref (ad 32), .ref (ad 33), .ref (ad 34)])), ((ad 32), .inl (cA 0, 64, .inl M_height)), ((ad 33), .inl (cA 2, 64, .inl M_isPinned)), ((ad 34), .inl (cA 0, 4, .inl u4_M_beside))] 4 [(0, .ref (ad 19)), (1, .int x1), (2, .int x2), (3, .int x3)] [.int (fnX4_size (r_4 - (M_height (((8 : Int32) * x2) + x3).toNatClampNeg))), .int x1] 44
    refine g_iadd C dX4_slackOf_44 ?_
    refine g_topi (fun x1_7 ex1_7 => ?_)
    replace h := h x1_7 ex1_7
    refine g_istore_n (lv2 := [(0, .ref (ad 19)), (1, .int x1_7), (2, .int x2), (3, .int x3)]) C dX4_slackOf_45 rfl (by decide) [1, 0, 2, 3] rfl ?_
    refine g_iinc (v := (x3 + 1)) (lv2 := [(0, .ref (ad 19)), (1, .int x1_7), (2, .int x2), (3, .int (x3 + 1))]) C dX4_slackOf_46 3 rfl (by first | rfl | decide) (by decide) [1, 2, 3, 0] rfl ?_
    refine g_goto (tgt := 14) C dX4_slackOf_49 (by decide) ?_
    exact g_lv [0, 1, 2, 3] rfl h
def prX4_slackOf (M_thrown : Int32) (M_trace : Int64) (M_found : Int64) (M_foundSet : Int64) (M_foundTimes : Int64) (M_w : Int32) (M_h : Int32) (M_height : Nat → Int32) (M_isPinned : Nat → Int32) (M_beside : Nat → Int32) : Prop := netOK M_w M_h
def po_X4_slackOf (ad : Nat → Nat) (cA : Nat → ClassId) (M_thrown : Int32) (M_trace : Int64) (M_found : Int64) (M_foundSet : Int64) (M_foundTimes : Int64) (M_w : Int32) (M_h : Int32) (M_height : Nat → Int32) (M_isPinned : Nat → Int32) (M_beside : Nat → Int32) (r : Int32) (u : (Nat → Int32)) : Prop := r = chg M_w.toNatClampNeg M_h.toNatClampNeg M_isPinned M_height
set_option maxHeartbeats 4000000 in
set_option maxRecDepth 100000 in
theorem c_X4_slackOf (ad : Nat → Nat) (cA : Nat → ClassId) (M_thrown : Int32) (M_trace : Int64) (M_found : Int64) (M_foundSet : Int64) (M_foundTimes : Int64) (M_w : Int32) (M_h : Int32) (M_height : Nat → Int32) (M_isPinned : Nat → Int32) (M_beside : Nat → Int32) (hq : prX4_slackOf M_thrown M_trace M_found M_foundSet M_foundTimes M_w M_h M_height M_isPinned M_beside) : ∀ (l : Launch) (D : va_G), gMi (S := (Nat → Int32)) l yX4_slackOf wsX4_slackOf rmX4_slackOf D (gT cA) 0 0 [.ref (ad 19)] (wcX4_slackOf ad cA M_thrown M_trace M_found M_foundSet M_foundTimes M_w M_h M_height M_isPinned M_beside) (po_X4_slackOf ad cA M_thrown M_trace M_found M_foundSet M_foundTimes M_w M_h M_height M_isPinned M_beside) (w1X4_slackOf ad cA M_thrown M_trace M_found M_foundSet M_foundTimes M_w M_h M_height M_isPinned) := by
  intro l D
  unfold prX4_slackOf at hq
  refine g_enteri (cc := cX4_slackOf) (nL := 4) (ret := (some .int)) (by decide) rfl (Nat.le_of_ble_eq_true rfl) rfl (fun X C E => ?_)
  obtain ⟨w, h, hw2, hw, hh2, hh, rfl, rfl⟩ := hq
  have hpo : ∀ (r : Int32) (u : Nat → Int32), r = chg w h M_isPinned M_height → po_X4_slackOf ad cA M_thrown M_trace M_found M_foundSet M_foundTimes (nI w) (nI h) M_height M_isPinned M_beside r u := fun r u e => by
    unfold po_X4_slackOf
    rw [nI_clamp (by omega), nI_clamp (by omega)]; exact e
  refine sgX4_slackOf_0 C E ?_
  unfold chg sum2 at hpo
  generalize ht : (fun (y x : Nat) => szI (stp w h M_isPinned M_height x y - M_height (8 * y + x))) = t at hpo
  have outer : ∀ y, y ≤ h → ∀ nr, atX4_slackOf_4 X ad cA (sumI (fun y => sumI (t y) w) y) (nI y) M_thrown M_trace M_found M_foundSet M_foundTimes (nI w) (nI h) M_height M_isPinned nr := by
    intro y hy
    refine up_loop (P := fun y => ∀ nr, atX4_slackOf_4 X ad cA (sumI (fun y => sumI (t y) w) y) (nI y) M_thrown M_trace M_found M_foundSet M_foundTimes (nI w) (nI h) M_height M_isPinned nr) h ?_ (fun y hy ih nr => ?_) y hy
    · exact fun nr => sgX4_slackOf_4 C E ⟨fun _ => hpo _ _ (by rw [← ht]), fun c => absurd (i32_le_refl _) c⟩
    · refine sgX4_slackOf_4 C E ⟨fun c => absurd c (nI_ge hy (by omega)), fun _ => ?_⟩
      have inner : ∀ x, x ≤ w → ∀ nr, atX4_slackOf_14 X ad cA (sumI (fun y => sumI (t y) w) y + sumI (t y) x) (nI y) (nI x) M_thrown M_trace M_found M_foundSet M_foundTimes (nI w) (nI h) M_height M_isPinned nr := by
        intro x hx
        refine up_loop (P := fun x => ∀ nr, atX4_slackOf_14 X ad cA (sumI (fun y => sumI (t y) w) y + sumI (t y) x) (nI y) (nI x) M_thrown M_trace M_found M_foundSet M_foundTimes (nI w) (nI h) M_height M_isPinned nr) w ?_ (fun x hx ih2 nr => ?_) x hx
        · refine fun nr => sgX4_slackOf_14 C E ⟨fun _ => ?_, fun c => absurd (i32_le_refl _) c⟩
          rw [nI_1]; exact ih nr
        · refine sgX4_slackOf_14 C E ⟨fun c => absurd c (nI_ge hx (by omega)), fun _ => ⟨⟨w, h, x, y, hw2, hw, hh2, hh, rfl, rfl, hx, hy, rfl, rfl⟩, fun r u hr => ?_⟩⟩
          unfold po_X4_stepOf at hr
          rw [nI_clamp (by omega), nI_clamp (by omega), nI_clamp (by omega), nI_clamp (by omega)] at hr
          rw [m8_eq, nI_clamp (by omega)]
          refine ⟨vp_in_nI (by omega) (by decide), fun v ev => ?_⟩
          rw [size_eq] at ev
          rw [nI_1, ev, hr]
          have e2 : sumI (fun y => sumI (t y) w) y + sumI (t y) x + szI (stp w h M_isPinned M_height x y - M_height (8 * y + x)) = sumI (fun y => sumI (t y) w) y + sumI (t y) (x + 1) := by
            rw [sumI, ← ht, Int32.add_assoc]
          rw [e2]; exact ih2 u
      have := inner 0 (Nat.zero_le _) nr
      rw [sumI, Int32.add_zero] at this
      exact this
  exact outer 0 (Nat.zero_le _) M_beside


abbrev w1X4_slack (ad : Nat → Nat) (cA : Nat → ClassId) (M_trace : Int64) (M_found : Int64) (M_foundSet : Int64) (M_foundTimes : Int64) (M_w : Int32) (M_h : Int32) (M_height : Nat → Int32) (M_isPinned : Nat → Int32) (u : (Int32) × (Nat → Int32)) : va_W := [((ad 19), .inr (4, [.int u.1, .long M_trace, .ref (ad 20), .ref (ad 21), .ref (ad 22), .ref (ad 23), .ref (ad 24), .ref (ad 25), .ref (ad 26), .ref (ad 27), .ref (ad 28), .ref (ad 29), .ref (ad 30), .ref (ad 31), .long M_found, .long M_foundSet, .long M_foundTimes, .int M_w, .int M_h, .ref (ad 32), .ref (ad 33), .ref (ad 34)])), ((ad 32), .inl (cA 0, 64, .inl M_height)), ((ad 33), .inl (cA 2, 64, .inl M_isPinned)), ((ad 34), .inl (cA 0, 4, .inl u.2))]
abbrev wcX4_slack (ad : Nat → Nat) (cA : Nat → ClassId) (M_thrown : Int32) (M_trace : Int64) (M_found : Int64) (M_foundSet : Int64) (M_foundTimes : Int64) (M_w : Int32) (M_h : Int32) (M_height : Nat → Int32) (M_isPinned : Nat → Int32) (M_beside : Nat → Int32) : va_W := [((ad 19), .inr (4, [.int M_thrown, .long M_trace, .ref (ad 20), .ref (ad 21), .ref (ad 22), .ref (ad 23), .ref (ad 24), .ref (ad 25), .ref (ad 26), .ref (ad 27), .ref (ad 28), .ref (ad 29), .ref (ad 30), .ref (ad 31), .long M_found, .long M_foundSet, .long M_foundTimes, .int M_w, .int M_h, .ref (ad 32), .ref (ad 33), .ref (ad 34)])), ((ad 32), .inl (cA 0, 64, .inl M_height)), ((ad 33), .inl (cA 2, 64, .inl M_isPinned)), ((ad 34), .inl (cA 0, 4, .inl M_beside))]
def rmX4_slack : Room := { frames := 3, cells := 0, slots := 0, locals := 72 }
abbrev atX4_slack_0 (X : gX) (ad : Nat → Nat) (cA : Nat → ClassId) (M_thrown : Int32) (M_trace : Int64) (M_found : Int64) (M_foundSet : Int64) (M_foundTimes : Int64) (M_w : Int32) (M_h : Int32) (M_height : Nat → Int32) (M_isPinned : Nat → Int32) (M_beside : Nat → Int32) : Prop := gW X 0 0 [((ad 19), .inr (4, [.int M_thrown, .long M_trace, .ref (ad 20), .ref (ad 21), .ref (ad 22), .ref (ad 23), .ref (ad 24), .ref (ad 25), .ref (ad 26), .ref (ad 27), .ref (ad 28), .ref (ad 29), .ref (ad 30), .ref (ad 31), .long M_found, .long M_foundSet, .long M_foundTimes, .int M_w, .int M_h, .ref (ad 32), .ref (ad 33), .ref (ad 34)])), ((ad 32), .inl (cA 0, 64, .inl M_height)), ((ad 33), .inl (cA 2, 64, .inl M_isPinned)), ((ad 34), .inl (cA 0, 4, .inl M_beside))] 1 [(0, .ref (ad 19))] [] 0
theorem giX4_slack_X4 : ∀ w ∈ u_ws RX4 TX4 22, w ∈ wsX4_slack := by decide +kernel
theorem gfX4_slack_67 : gF wsX4_slack RX4 67 4 0 RX4 TX4 22 := ⟨giX4_slack_X4, by decide +kernel, rfl, by decide⟩
set_option maxHeartbeats 4000000 in
set_option maxRecDepth 100000 in
theorem sgX4_slack_0 {X : gX} {ad : Nat → Nat} {cA : Nat → ClassId} {post : Int32 → ((Int32) × (Nat → Int32)) → Prop} {M_thrown : Int32} {M_trace : Int64} {M_found : Int64} {M_foundSet : Int64} {M_foundTimes : Int64} {M_w : Int32} {M_h : Int32} {M_height : Nat → Int32} {M_isPinned : Nat → Int32} {M_beside : Nat → Int32} (C : gC X (gT cA) cX4_slack 1 RX4 wsX4_slack rmX4_slack) (E : gEi X (some .int) (gT cA) 0 0 post (w1X4_slack ad cA M_trace M_found M_foundSet M_foundTimes M_w M_h M_height M_isPinned)) (h : prX4_slackOf (0 : Int32) M_trace M_found M_foundSet M_foundTimes M_w M_h M_height M_isPinned M_beside ∧ ∀ (r_2 : Int32) (u2_M_beside : Nat → Int32), po_X4_slackOf ad cA (0 : Int32) M_trace M_found M_foundSet M_foundTimes M_w M_h M_height M_isPinned M_beside r_2 u2_M_beside → post r_2 ((0 : Int32), u2_M_beside)) : atX4_slack_0 X ad cA M_thrown M_trace M_found M_foundSet M_foundTimes M_w M_h M_height M_isPinned M_beside := by
  refine g_aload_n C dX4_slack_0 rfl 0 rfl ?_
  refine g_iconst C dX4_slack_1 ik_0 ?_
  refine g_put (ws2 := [((ad 19), .inr (4, [.int (0 : Int32), .long M_trace, .ref (ad 20), .ref (ad 21), .ref (ad 22), .ref (ad 23), .ref (ad 24), .ref (ad 25), .ref (ad 26), .ref (ad 27), .ref (ad 28), .ref (ad 29), .ref (ad 30), .ref (ad 31), .long M_found, .long M_foundSet, .long M_foundTimes, .int M_w, .int M_h, .ref (ad 32), .ref (ad 33), .ref (ad 34)])), ((ad 32), .inl (cA 0, 64, .inl M_height)), ((ad 33), .inl (cA 2, 64, .inl M_isPinned)), ((ad 34), .inl (cA 0, 4, .inl M_beside))]) C gfX4_slack_67 0 tyX4_ok nmX4 rfl rfl rfl rfl (Nat.le_of_ble_eq_true rfl) rfl dX4_slack_2 ?_
  refine g_aload_n C dX4_slack_5 rfl 0 rfl ?_
  obtain ⟨hi_1, h⟩ := h
  refine g_callVi (wr := []) C (c_X4_slackOf ad cA (0 : Int32) M_trace M_found M_foundSet M_foundTimes M_w M_h M_height M_isPinned M_beside hi_1) gX4_slack_X4_slackOf rfl hde_X4_slackOf ⟨rfl, rfl⟩ (by decide) (by decide) [0, 1, 2, 3] [] [0, 1, 2, 3] rfl rfl rfl rfl (by decide) rfl (ws2 := fun u => [((ad 19), .inr (4, [.int (0 : Int32), .long M_trace, .ref (ad 20), .ref (ad 21), .ref (ad 22), .ref (ad 23), .ref (ad 24), .ref (ad 25), .ref (ad 26), .ref (ad 27), .ref (ad 28), .ref (ad 29), .ref (ad 30), .ref (ad 31), .long M_found, .long M_foundSet, .long M_foundTimes, .int M_w, .int M_h, .ref (ad 32), .ref (ad 33), .ref (ad 34)])), ((ad 32), .inl (cA 0, 64, .inl M_height)), ((ad 33), .inl (cA 2, 64, .inl M_isPinned)), ((ad 34), .inl (cA 0, 4, .inl u))]) (fun _ => rfl) 4 0 rfl rfl rfl (rest := []) rfl (Nat.le_of_ble_eq_true rfl) dX4_slack_6 (fun r_2 u_2 hp_2 => ?_)
  obtain ⟨u2_M_beside, rfl⟩ : ∃ z, z = u_2 := ⟨_, rfl⟩
  replace h := h r_2 u2_M_beside hp_2
  change gW X 0 0 [((ad 19), .inr (4, [.int (0 : Int32), .long M_trace, .ref (ad 20), .ref (ad 21), .ref (ad 22), .ref (ad 23), .ref (ad 24), .ref (ad 25), .ref (ad 26), .ref (ad 27), .ref (ad 28), .ref (ad 29), .ref (ad 30), .ref (ad 31), .long M_found, .long M_foundSet, .long M_foundTimes, .int M_w, .int M_h, .ref (ad 32), .ref (ad 33), .ref (ad 34)])), ((ad 32), .inl (cA 0, 64, .inl M_height)), ((ad 33), .inl (cA 2, 64, .inl M_isPinned)), ((ad 34), .inl (cA 0, 4, .inl u2_M_beside))] 1 [(0, .ref (ad 19))] [.int r_2] 9
  exact g_iret C E ((0 : Int32), u2_M_beside) h rfl dX4_slack_9
def prX4_slack (M_thrown : Int32) (M_trace : Int64) (M_found : Int64) (M_foundSet : Int64) (M_foundTimes : Int64) (M_w : Int32) (M_h : Int32) (M_height : Nat → Int32) (M_isPinned : Nat → Int32) (M_beside : Nat → Int32) : Prop := netOK M_w M_h
def po_X4_slack (ad : Nat → Nat) (cA : Nat → ClassId) (M_thrown : Int32) (M_trace : Int64) (M_found : Int64) (M_foundSet : Int64) (M_foundTimes : Int64) (M_w : Int32) (M_h : Int32) (M_height : Nat → Int32) (M_isPinned : Nat → Int32) (M_beside : Nat → Int32) (r : Int32) (u : (Int32) × (Nat → Int32)) : Prop := r = chg M_w.toNatClampNeg M_h.toNatClampNeg M_isPinned M_height ∧ u.1 = 0
set_option maxHeartbeats 4000000 in
set_option maxRecDepth 100000 in
theorem c_X4_slack (ad : Nat → Nat) (cA : Nat → ClassId) (M_thrown : Int32) (M_trace : Int64) (M_found : Int64) (M_foundSet : Int64) (M_foundTimes : Int64) (M_w : Int32) (M_h : Int32) (M_height : Nat → Int32) (M_isPinned : Nat → Int32) (M_beside : Nat → Int32) (hq : prX4_slack M_thrown M_trace M_found M_foundSet M_foundTimes M_w M_h M_height M_isPinned M_beside) : ∀ (l : Launch) (D : va_G), gMi (S := (Int32) × (Nat → Int32)) l yX4_slack wsX4_slack rmX4_slack D (gT cA) 0 0 [.ref (ad 19)] (wcX4_slack ad cA M_thrown M_trace M_found M_foundSet M_foundTimes M_w M_h M_height M_isPinned M_beside) (po_X4_slack ad cA M_thrown M_trace M_found M_foundSet M_foundTimes M_w M_h M_height M_isPinned M_beside) (w1X4_slack ad cA M_trace M_found M_foundSet M_foundTimes M_w M_h M_height M_isPinned) := by
  intro l D
  unfold prX4_slack at hq
  refine g_enteri (cc := cX4_slack) (nL := 1) (ret := (some .int)) (by decide) rfl (Nat.le_of_ble_eq_true rfl) rfl (fun X C E => ?_)
  refine sgX4_slack_0 C E ⟨hq, fun r u hr => ⟨hr, rfl⟩⟩


abbrev w1X4_drawn (ad : Nat → Nat) (cA : Nat → ClassId) (M_trace : Int64) (M_found : Int64) (M_foundSet : Int64) (M_foundTimes : Int64) (M_w : Int32) (M_h : Int32) (M_height : Nat → Int32) (u : (Int32)) : va_W := [((ad 19), .inr (4, [.int u, .long M_trace, .ref (ad 20), .ref (ad 21), .ref (ad 22), .ref (ad 23), .ref (ad 24), .ref (ad 25), .ref (ad 26), .ref (ad 27), .ref (ad 28), .ref (ad 29), .ref (ad 30), .ref (ad 31), .long M_found, .long M_foundSet, .long M_foundTimes, .int M_w, .int M_h, .ref (ad 32), .ref (ad 33), .ref (ad 34)])), ((ad 32), .inl (cA 0, 64, .inl M_height))]
abbrev wcX4_drawn (ad : Nat → Nat) (cA : Nat → ClassId) (M_thrown : Int32) (M_trace : Int64) (M_found : Int64) (M_foundSet : Int64) (M_foundTimes : Int64) (M_w : Int32) (M_h : Int32) (M_height : Nat → Int32) : va_W := [((ad 19), .inr (4, [.int M_thrown, .long M_trace, .ref (ad 20), .ref (ad 21), .ref (ad 22), .ref (ad 23), .ref (ad 24), .ref (ad 25), .ref (ad 26), .ref (ad 27), .ref (ad 28), .ref (ad 29), .ref (ad 30), .ref (ad 31), .long M_found, .long M_foundSet, .long M_foundTimes, .int M_w, .int M_h, .ref (ad 32), .ref (ad 33), .ref (ad 34)])), ((ad 32), .inl (cA 0, 64, .inl M_height))]
def rmX4_drawn : Room := { frames := 1, cells := 0, slots := 0, locals := 20 }
abbrev atX4_drawn_0 (X : gX) (ad : Nat → Nat) (cA : Nat → ClassId) (M_thrown : Int32) (M_trace : Int64) (M_found : Int64) (M_foundSet : Int64) (M_foundTimes : Int64) (M_w : Int32) (M_h : Int32) (M_height : Nat → Int32) : Prop := gW X 0 0 [((ad 19), .inr (4, [.int M_thrown, .long M_trace, .ref (ad 20), .ref (ad 21), .ref (ad 22), .ref (ad 23), .ref (ad 24), .ref (ad 25), .ref (ad 26), .ref (ad 27), .ref (ad 28), .ref (ad 29), .ref (ad 30), .ref (ad 31), .long M_found, .long M_foundSet, .long M_foundTimes, .int M_w, .int M_h, .ref (ad 32), .ref (ad 33), .ref (ad 34)])), ((ad 32), .inl (cA 0, 64, .inl M_height))] 4 [(0, .ref (ad 19))] [] 0
abbrev atX4_drawn_9 (X : gX) (ad : Nat → Nat) (cA : Nat → ClassId) (x1 : Int32) (x2 : Int32) (M_thrown : Int32) (M_trace : Int64) (M_found : Int64) (M_foundSet : Int64) (M_foundTimes : Int64) (M_w : Int32) (M_h : Int32) (M_height : Nat → Int32) : Prop := gW X 0 0 [((ad 19), .inr (4, [.int M_thrown, .long M_trace, .ref (ad 20), .ref (ad 21), .ref (ad 22), .ref (ad 23), .ref (ad 24), .ref (ad 25), .ref (ad 26), .ref (ad 27), .ref (ad 28), .ref (ad 29), .ref (ad 30), .ref (ad 31), .long M_found, .long M_foundSet, .long M_foundTimes, .int M_w, .int M_h, .ref (ad 32), .ref (ad 33), .ref (ad 34)])), ((ad 32), .inl (cA 0, 64, .inl M_height))] 4 [(0, .ref (ad 19)), (1, .int x1), (2, .int x2)] [] 9
abbrev atX4_drawn_19 (X : gX) (ad : Nat → Nat) (cA : Nat → ClassId) (x1 : Int32) (x2 : Int32) (x3 : Int32) (M_thrown : Int32) (M_trace : Int64) (M_found : Int64) (M_foundSet : Int64) (M_foundTimes : Int64) (M_w : Int32) (M_h : Int32) (M_height : Nat → Int32) : Prop := gW X 0 0 [((ad 19), .inr (4, [.int M_thrown, .long M_trace, .ref (ad 20), .ref (ad 21), .ref (ad 22), .ref (ad 23), .ref (ad 24), .ref (ad 25), .ref (ad 26), .ref (ad 27), .ref (ad 28), .ref (ad 29), .ref (ad 30), .ref (ad 31), .long M_found, .long M_foundSet, .long M_foundTimes, .int M_w, .int M_h, .ref (ad 32), .ref (ad 33), .ref (ad 34)])), ((ad 32), .inl (cA 0, 64, .inl M_height))] 4 [(0, .ref (ad 19)), (1, .int x1), (2, .int x2), (3, .int x3)] [] 19
theorem giX4_drawn_X4 : ∀ w ∈ u_ws RX4 TX4 22, w ∈ wsX4_drawn := by decide +kernel
theorem gfX4_drawn_67 : gF wsX4_drawn RX4 67 4 0 RX4 TX4 22 := ⟨giX4_drawn_X4, by decide +kernel, rfl, by decide⟩
theorem gfX4_drawn_51 : gF wsX4_drawn RX4 51 4 18 RX4 TX4 22 := ⟨giX4_drawn_X4, by decide +kernel, rfl, by decide⟩
theorem gfX4_drawn_47 : gF wsX4_drawn RX4 47 4 17 RX4 TX4 22 := ⟨giX4_drawn_X4, by decide +kernel, rfl, by decide⟩
theorem gfX4_drawn_54 : gF wsX4_drawn RX4 54 4 19 RX4 TX4 22 := ⟨giX4_drawn_X4, by decide +kernel, rfl, by decide⟩
set_option maxHeartbeats 4000000 in
set_option maxRecDepth 100000 in
theorem sgX4_drawn_0 {X : gX} {ad : Nat → Nat} {cA : Nat → ClassId} {post : Int32 → ((Int32)) → Prop} {M_thrown : Int32} {M_trace : Int64} {M_found : Int64} {M_foundSet : Int64} {M_foundTimes : Int64} {M_w : Int32} {M_h : Int32} {M_height : Nat → Int32} (C : gC X (gT cA) cX4_drawn 4 RX4 wsX4_drawn rmX4_drawn) (E : gEi X (some .int) (gT cA) 0 0 post (w1X4_drawn ad cA M_trace M_found M_foundSet M_foundTimes M_w M_h M_height)) (h : atX4_drawn_9 X ad cA (0 : Int32) (0 : Int32) (0 : Int32) M_trace M_found M_foundSet M_foundTimes M_w M_h M_height) : atX4_drawn_0 X ad cA M_thrown M_trace M_found M_foundSet M_foundTimes M_w M_h M_height := by
  refine g_aload_n C dX4_drawn_0 rfl 0 rfl ?_
  refine g_iconst C dX4_drawn_1 ik_0 ?_
  refine g_put (ws2 := [((ad 19), .inr (4, [.int (0 : Int32), .long M_trace, .ref (ad 20), .ref (ad 21), .ref (ad 22), .ref (ad 23), .ref (ad 24), .ref (ad 25), .ref (ad 26), .ref (ad 27), .ref (ad 28), .ref (ad 29), .ref (ad 30), .ref (ad 31), .long M_found, .long M_foundSet, .long M_foundTimes, .int M_w, .int M_h, .ref (ad 32), .ref (ad 33), .ref (ad 34)])), ((ad 32), .inl (cA 0, 64, .inl M_height))]) C gfX4_drawn_67 0 tyX4_ok nmX4 rfl rfl rfl rfl (Nat.le_of_ble_eq_true rfl) rfl dX4_drawn_2 ?_
  refine g_iconst C dX4_drawn_5 ik_0 ?_
  refine g_istore_n (lv2 := [(0, .ref (ad 19)), (1, .int (0 : Int32))]) C dX4_drawn_6 rfl (by decide) [1, 0] rfl ?_
  refine g_iconst C dX4_drawn_7 ik_0 ?_
  refine g_istore_n (lv2 := [(0, .ref (ad 19)), (1, .int (0 : Int32)), (2, .int (0 : Int32))]) C dX4_drawn_8 rfl (by decide) [1, 2, 0] rfl ?_
  exact g_lv [0, 1, 2] rfl h
set_option maxHeartbeats 4000000 in
set_option maxRecDepth 100000 in
theorem sgX4_drawn_9 {X : gX} {ad : Nat → Nat} {cA : Nat → ClassId} {post : Int32 → ((Int32)) → Prop} {x1 : Int32} {x2 : Int32} {M_thrown : Int32} {M_trace : Int64} {M_found : Int64} {M_foundSet : Int64} {M_foundTimes : Int64} {M_w : Int32} {M_h : Int32} {M_height : Nat → Int32} (C : gC X (gT cA) cX4_drawn 4 RX4 wsX4_drawn rmX4_drawn) (E : gEi X (some .int) (gT cA) 0 0 post (w1X4_drawn ad cA M_trace M_found M_foundSet M_foundTimes M_w M_h M_height)) (h : (M_h ≤ x2 → post x1 M_thrown) ∧ (¬ M_h ≤ x2 → atX4_drawn_19 X ad cA x1 x2 (0 : Int32) M_thrown M_trace M_found M_foundSet M_foundTimes M_w M_h M_height)) : atX4_drawn_9 X ad cA x1 x2 M_thrown M_trace M_found M_foundSet M_foundTimes M_w M_h M_height := by
  refine g_iload_n C dX4_drawn_9 rfl 2 rfl ?_
  refine g_aload_n C dX4_drawn_10 rfl 0 rfl ?_
  refine g_get C gfX4_drawn_51 0 rfl rfl dX4_drawn_11 ?_
  refine g_icmp_ge (tgt := 130) C dX4_drawn_14 (by decide) (fun c_1 => ?_) (fun c_1 => ?_)
  · replace h := h.1 c_1
    refine g_iload_n C dX4_drawn_130 rfl 1 rfl ?_
    exact g_iret C E M_thrown h rfl dX4_drawn_131
  · replace h := h.2 c_1
    refine g_iconst C dX4_drawn_17 ik_0 ?_
    refine g_istore_n (lv2 := [(0, .ref (ad 19)), (1, .int x1), (2, .int x2), (3, .int (0 : Int32))]) C dX4_drawn_18 rfl (by decide) [1, 2, 3, 0] rfl ?_
    exact g_lv [0, 1, 2, 3] rfl h
set_option maxHeartbeats 4000000 in
set_option maxRecDepth 100000 in
theorem sgX4_drawn_19 {X : gX} {ad : Nat → Nat} {cA : Nat → ClassId} {post : Int32 → ((Int32)) → Prop} {x1 : Int32} {x2 : Int32} {x3 : Int32} {M_thrown : Int32} {M_trace : Int64} {M_found : Int64} {M_foundSet : Int64} {M_foundTimes : Int64} {M_w : Int32} {M_h : Int32} {M_height : Nat → Int32} (C : gC X (gT cA) cX4_drawn 4 RX4 wsX4_drawn rmX4_drawn) (E : gEi X (some .int) (gT cA) 0 0 post (w1X4_drawn ad cA M_trace M_found M_foundSet M_foundTimes M_w M_h M_height)) (h : (M_w ≤ x3 → atX4_drawn_9 X ad cA x1 (x2 + 1) M_thrown M_trace M_found M_foundSet M_foundTimes M_w M_h M_height) ∧ (¬ M_w ≤ x3 → ((M_w ≤ (x3 + (1 : Int32)) → True) ∧ (¬ M_w ≤ (x3 + (1 : Int32)) → vp_in (((8 : Int32) * x2) + x3) 64 ∧ vp_in ((((8 : Int32) * x2) + x3) + (1 : Int32)) 64)) ∧ ∀ x1_7 : Int32, x1_7 = (x1 + (if M_w ≤ (x3 + (1 : Int32)) then (0 : Int32) else (fnX4_size ((M_height (((8 : Int32) * x2) + x3).toNatClampNeg) - (M_height ((((8 : Int32) * x2) + x3) + (1 : Int32)).toNatClampNeg))))) → ((M_h ≤ (x2 + (1 : Int32)) → True) ∧ (¬ M_h ≤ (x2 + (1 : Int32)) → vp_in (((8 : Int32) * x2) + x3) 64 ∧ vp_in ((((8 : Int32) * x2) + (8 : Int32)) + x3) 64)) ∧ ∀ x1_12 : Int32, x1_12 = (x1_7 + (if M_h ≤ (x2 + (1 : Int32)) then (0 : Int32) else (fnX4_size ((M_height (((8 : Int32) * x2) + x3).toNatClampNeg) - (M_height ((((8 : Int32) * x2) + (8 : Int32)) + x3).toNatClampNeg))))) → atX4_drawn_19 X ad cA x1_12 x2 (x3 + 1) M_thrown M_trace M_found M_foundSet M_foundTimes M_w M_h M_height)) : atX4_drawn_19 X ad cA x1 x2 x3 M_thrown M_trace M_found M_foundSet M_foundTimes M_w M_h M_height := by
  refine g_iload_n C dX4_drawn_19 rfl 3 rfl ?_
  refine g_aload_n C dX4_drawn_20 rfl 0 rfl ?_
  refine g_get C gfX4_drawn_47 0 rfl rfl dX4_drawn_21 ?_
  refine g_icmp_ge (tgt := 124) C dX4_drawn_24 (by decide) (fun c_2 => ?_) (fun c_2 => ?_)
  · replace h := h.1 c_2
    refine g_iinc (v := (x2 + 1)) (lv2 := [(0, .ref (ad 19)), (1, .int x1), (2, .int (x2 + 1)), (3, .int x3)]) C dX4_drawn_124 2 rfl (by first | rfl | decide) (by decide) [1, 2, 0, 3] rfl ?_
    refine g_goto (tgt := 9) C dX4_drawn_127 (by decide) ?_
    exact g_lv [0, 1, 2] rfl h
  · replace h := h.2 c_2
    refine g_iload_n C dX4_drawn_27 rfl 1 rfl ?_
    refine g_iload_n C dX4_drawn_28 rfl 3 rfl ?_
    refine g_iconst C dX4_drawn_29 ik_1 ?_
    refine g_iadd C dX4_drawn_30 ?_
    refine g_aload_n C dX4_drawn_31 rfl 0 rfl ?_
    refine g_get C gfX4_drawn_47 0 rfl rfl dX4_drawn_32 ?_
    obtain ⟨hr_70, h⟩ := h
    have key : gW X 0 0 [((ad 19), .inr (4, [.int M_thrown, .long M_trace, .ref (ad 20), .ref (ad 21), .ref (ad 22), .ref (ad 23), .ref (ad 24), .ref (ad 25), .ref (ad 26), .ref (ad 27), .ref (ad 28), .ref (ad 29), .ref (ad 30), .ref (ad 31), .long M_found, .long M_foundSet, .long M_foundTimes, .int M_w, .int M_h, .ref (ad 32), .ref (ad 33), .ref (ad 34)])), ((ad 32), .inl (cA 0, 64, .inl M_height))] 4 [(0, .ref (ad 19)), (1, .int x1), (2, .int x2), (3, .int x3)] [.int (if M_w ≤ (x3 + (1 : Int32)) then (0 : Int32) else (fnX4_size ((M_height (((8 : Int32) * x2) + x3).toNatClampNeg) - (M_height ((((8 : Int32) * x2) + x3) + (1 : Int32)).toNatClampNeg)))), .int x1] 70 := by
      refine g_iadd C dX4_drawn_70 ?_
      refine g_topi (fun x1_7 ex1_7 => ?_)
      replace h := h x1_7 ex1_7
      refine g_istore_n (lv2 := [(0, .ref (ad 19)), (1, .int x1_7), (2, .int x2), (3, .int x3)]) C dX4_drawn_71 rfl (by decide) [1, 0, 2, 3] rfl ?_
      refine g_iload_n C dX4_drawn_72 rfl 1 rfl ?_
      refine g_iload_n C dX4_drawn_73 rfl 2 rfl ?_
      refine g_iconst C dX4_drawn_74 ik_1 ?_
      refine g_iadd C dX4_drawn_75 ?_
      refine g_aload_n C dX4_drawn_76 rfl 0 rfl ?_
      refine g_get C gfX4_drawn_51 0 rfl rfl dX4_drawn_77 ?_
      obtain ⟨hr_116, h⟩ := h
      have key : gW X 0 0 [((ad 19), .inr (4, [.int M_thrown, .long M_trace, .ref (ad 20), .ref (ad 21), .ref (ad 22), .ref (ad 23), .ref (ad 24), .ref (ad 25), .ref (ad 26), .ref (ad 27), .ref (ad 28), .ref (ad 29), .ref (ad 30), .ref (ad 31), .long M_found, .long M_foundSet, .long M_foundTimes, .int M_w, .int M_h, .ref (ad 32), .ref (ad 33), .ref (ad 34)])), ((ad 32), .inl (cA 0, 64, .inl M_height))] 4 [(0, .ref (ad 19)), (1, .int x1_7), (2, .int x2), (3, .int x3)] [.int (if M_h ≤ (x2 + (1 : Int32)) then (0 : Int32) else (fnX4_size ((M_height (((8 : Int32) * x2) + x3).toNatClampNeg) - (M_height ((((8 : Int32) * x2) + (8 : Int32)) + x3).toNatClampNeg)))), .int x1_7] 116 := by
        refine g_iadd C dX4_drawn_116 ?_
        refine g_topi (fun x1_12 ex1_12 => ?_)
        replace h := h x1_12 ex1_12
        refine g_istore_n (lv2 := [(0, .ref (ad 19)), (1, .int x1_12), (2, .int x2), (3, .int x3)]) C dX4_drawn_117 rfl (by decide) [1, 0, 2, 3] rfl ?_
        refine g_iinc (v := (x3 + 1)) (lv2 := [(0, .ref (ad 19)), (1, .int x1_12), (2, .int x2), (3, .int (x3 + 1))]) C dX4_drawn_118 3 rfl (by first | rfl | decide) (by decide) [1, 2, 3, 0] rfl ?_
        refine g_goto (tgt := 19) C dX4_drawn_121 (by decide) ?_
        exact g_lv [0, 1, 2, 3] rfl h
      replace h := hr_116
      refine g_icmp_ge (tgt := 115) C dX4_drawn_80 (by decide) (fun c_8 => ?_) (fun c_8 => ?_)
      · replace h := h.1 c_8
        refine g_iconst C dX4_drawn_115 ik_0 ?_
        exact g_leaf (by simp only [if_pos c_8] at key; first | exact key | (simp only [if_pos c_8]; exact key) | exact absurd rfl c_8)
      · replace h := h.2 c_8
        refine g_aload_n C dX4_drawn_83 rfl 0 rfl ?_
        refine g_get C gfX4_drawn_54 0 rfl rfl dX4_drawn_84 ?_
        refine g_bipush C dX4_drawn_87 bk_8 ?_
        refine g_iload_n C dX4_drawn_89 rfl 2 rfl ?_
        refine g_imul C dX4_drawn_90 ?_
        refine g_iload_n C dX4_drawn_91 rfl 3 rfl ?_
        refine g_iadd C dX4_drawn_92 ?_
        obtain ⟨hi_9, h⟩ := h
        refine g_iald C 1 0 rfl rfl hi_9 dX4_drawn_93 ?_
        refine g_aload_n C dX4_drawn_94 rfl 0 rfl ?_
        refine g_get C gfX4_drawn_54 0 rfl rfl dX4_drawn_95 ?_
        refine g_bipush C dX4_drawn_98 bk_8 ?_
        refine g_iload_n C dX4_drawn_100 rfl 2 rfl ?_
        refine g_imul C dX4_drawn_101 ?_
        refine g_bipush C dX4_drawn_102 bk_8 ?_
        refine g_iadd C dX4_drawn_104 ?_
        refine g_iload_n C dX4_drawn_105 rfl 3 rfl ?_
        refine g_iadd C dX4_drawn_106 ?_
        have hi_10 := h
        refine g_iald C 1 0 rfl rfl hi_10 dX4_drawn_107 ?_
        refine g_isub C dX4_drawn_108 ?_
        refine g_callSi (b := 0) (wr := [((ad 19), .inr (4, [.int M_thrown, .long M_trace, .ref (ad 20), .ref (ad 21), .ref (ad 22), .ref (ad 23), .ref (ad 24), .ref (ad 25), .ref (ad 26), .ref (ad 27), .ref (ad 28), .ref (ad 29), .ref (ad 30), .ref (ad 31), .long M_found, .long M_foundSet, .long M_foundTimes, .int M_w, .int M_h, .ref (ad 32), .ref (ad 33), .ref (ad 34)])), ((ad 32), .inl (cA 0, 64, .inl M_height))]) C (c_X4_size ad cA ((M_height (((8 : Int32) * x2) + x3).toNatClampNeg) - (M_height ((((8 : Int32) * x2) + (8 : Int32)) + x3).toNatClampNeg))) gX4_drawn_X4_size rfl hde_X4_size ⟨rfl, rfl⟩ (by decide) (by decide) [] [0, 1] [0, 1] rfl rfl rfl rfl (by decide) rfl (ws2 := fun u => [((ad 19), .inr (4, [.int M_thrown, .long M_trace, .ref (ad 20), .ref (ad 21), .ref (ad 22), .ref (ad 23), .ref (ad 24), .ref (ad 25), .ref (ad 26), .ref (ad 27), .ref (ad 28), .ref (ad 29), .ref (ad 30), .ref (ad 31), .long M_found, .long M_foundSet, .long M_foundTimes, .int M_w, .int M_h, .ref (ad 32), .ref (ad 33), .ref (ad 34)])), ((ad 32), .inl (cA 0, 64, .inl M_height))]) (fun _ => rfl) (rest := [.int x1_7]) rfl (Nat.le_of_ble_eq_true rfl) dX4_drawn_109 (fun r_11 u_11 hp_11 => ?_)
        subst hp_11
        change gW X 0 0 [((ad 19), .inr (4, [.int M_thrown, .long M_trace, .ref (ad 20), .ref (ad 21), .ref (ad 22), .ref (ad 23), .ref (ad 24), .ref (ad 25), .ref (ad 26), .ref (ad 27), .ref (ad 28), .ref (ad 29), .ref (ad 30), .ref (ad 31), .long M_found, .long M_foundSet, .long M_foundTimes, .int M_w, .int M_h, .ref (ad 32), .ref (ad 33), .ref (ad 34)])), ((ad 32), .inl (cA 0, 64, .inl M_height))] 4 [(0, .ref (ad 19)), (1, .int x1_7), (2, .int x2), (3, .int x3)] [.int (fnX4_size ((M_height (((8 : Int32) * x2) + x3).toNatClampNeg) - (M_height ((((8 : Int32) * x2) + (8 : Int32)) + x3).toNatClampNeg))), .int x1_7] 112
        refine g_goto (tgt := 116) C dX4_drawn_112 (by decide) ?_
        exact g_leaf (by simp only [if_neg c_8] at key; first | exact key | (simp only [if_neg c_8]; exact key) | exact absurd rfl c_8)
    replace h := hr_70
    refine g_icmp_ge (tgt := 69) C dX4_drawn_35 (by decide) (fun c_3 => ?_) (fun c_3 => ?_)
    · replace h := h.1 c_3
      refine g_iconst C dX4_drawn_69 ik_0 ?_
      exact g_leaf (by simp only [if_pos c_3] at key; first | exact key | (simp only [if_pos c_3]; exact key) | exact absurd rfl c_3)
    · replace h := h.2 c_3
      refine g_aload_n C dX4_drawn_38 rfl 0 rfl ?_
      refine g_get C gfX4_drawn_54 0 rfl rfl dX4_drawn_39 ?_
      refine g_bipush C dX4_drawn_42 bk_8 ?_
      refine g_iload_n C dX4_drawn_44 rfl 2 rfl ?_
      refine g_imul C dX4_drawn_45 ?_
      refine g_iload_n C dX4_drawn_46 rfl 3 rfl ?_
      refine g_iadd C dX4_drawn_47 ?_
      obtain ⟨hi_4, h⟩ := h
      refine g_iald C 1 0 rfl rfl hi_4 dX4_drawn_48 ?_
      refine g_aload_n C dX4_drawn_49 rfl 0 rfl ?_
      refine g_get C gfX4_drawn_54 0 rfl rfl dX4_drawn_50 ?_
      refine g_bipush C dX4_drawn_53 bk_8 ?_
      refine g_iload_n C dX4_drawn_55 rfl 2 rfl ?_
      refine g_imul C dX4_drawn_56 ?_
      refine g_iload_n C dX4_drawn_57 rfl 3 rfl ?_
      refine g_iadd C dX4_drawn_58 ?_
      refine g_iconst C dX4_drawn_59 ik_1 ?_
      refine g_iadd C dX4_drawn_60 ?_
      have hi_5 := h
      refine g_iald C 1 0 rfl rfl hi_5 dX4_drawn_61 ?_
      refine g_isub C dX4_drawn_62 ?_
      refine g_callSi (b := 0) (wr := [((ad 19), .inr (4, [.int M_thrown, .long M_trace, .ref (ad 20), .ref (ad 21), .ref (ad 22), .ref (ad 23), .ref (ad 24), .ref (ad 25), .ref (ad 26), .ref (ad 27), .ref (ad 28), .ref (ad 29), .ref (ad 30), .ref (ad 31), .long M_found, .long M_foundSet, .long M_foundTimes, .int M_w, .int M_h, .ref (ad 32), .ref (ad 33), .ref (ad 34)])), ((ad 32), .inl (cA 0, 64, .inl M_height))]) C (c_X4_size ad cA ((M_height (((8 : Int32) * x2) + x3).toNatClampNeg) - (M_height ((((8 : Int32) * x2) + x3) + (1 : Int32)).toNatClampNeg))) gX4_drawn_X4_size rfl hde_X4_size ⟨rfl, rfl⟩ (by decide) (by decide) [] [0, 1] [0, 1] rfl rfl rfl rfl (by decide) rfl (ws2 := fun u => [((ad 19), .inr (4, [.int M_thrown, .long M_trace, .ref (ad 20), .ref (ad 21), .ref (ad 22), .ref (ad 23), .ref (ad 24), .ref (ad 25), .ref (ad 26), .ref (ad 27), .ref (ad 28), .ref (ad 29), .ref (ad 30), .ref (ad 31), .long M_found, .long M_foundSet, .long M_foundTimes, .int M_w, .int M_h, .ref (ad 32), .ref (ad 33), .ref (ad 34)])), ((ad 32), .inl (cA 0, 64, .inl M_height))]) (fun _ => rfl) (rest := [.int x1]) rfl (Nat.le_of_ble_eq_true rfl) dX4_drawn_63 (fun r_6 u_6 hp_6 => ?_)
      subst hp_6
      change gW X 0 0 [((ad 19), .inr (4, [.int M_thrown, .long M_trace, .ref (ad 20), .ref (ad 21), .ref (ad 22), .ref (ad 23), .ref (ad 24), .ref (ad 25), .ref (ad 26), .ref (ad 27), .ref (ad 28), .ref (ad 29), .ref (ad 30), .ref (ad 31), .long M_found, .long M_foundSet, .long M_foundTimes, .int M_w, .int M_h, .ref (ad 32), .ref (ad 33), .ref (ad 34)])), ((ad 32), .inl (cA 0, 64, .inl M_height))] 4 [(0, .ref (ad 19)), (1, .int x1), (2, .int x2), (3, .int x3)] [.int (fnX4_size ((M_height (((8 : Int32) * x2) + x3).toNatClampNeg) - (M_height ((((8 : Int32) * x2) + x3) + (1 : Int32)).toNatClampNeg))), .int x1] 66
      refine g_goto (tgt := 70) C dX4_drawn_66 (by decide) ?_
      exact g_leaf (by simp only [if_neg c_3] at key; first | exact key | (simp only [if_neg c_3]; exact key) | exact absurd rfl c_3)
def prX4_drawn (M_thrown : Int32) (M_trace : Int64) (M_found : Int64) (M_foundSet : Int64) (M_foundTimes : Int64) (M_w : Int32) (M_h : Int32) (M_height : Nat → Int32) : Prop := netOK M_w M_h
set_option maxHeartbeats 4000000 in
set_option maxRecDepth 100000 in
theorem c_X4_drawn (ad : Nat → Nat) (cA : Nat → ClassId) (M_thrown : Int32) (M_trace : Int64) (M_found : Int64) (M_foundSet : Int64) (M_foundTimes : Int64) (M_w : Int32) (M_h : Int32) (M_height : Nat → Int32) (hq : prX4_drawn M_thrown M_trace M_found M_foundSet M_foundTimes M_w M_h M_height) : ∀ (l : Launch) (D : va_G), gMi (S := (Int32)) l yX4_drawn wsX4_drawn rmX4_drawn D (gT cA) 0 0 [.ref (ad 19)] (wcX4_drawn ad cA M_thrown M_trace M_found M_foundSet M_foundTimes M_w M_h M_height) (fun r u => r = drw M_w.toNatClampNeg M_h.toNatClampNeg M_height ∧ u = 0) (w1X4_drawn ad cA M_trace M_found M_foundSet M_foundTimes M_w M_h M_height) := by
  intro l D
  unfold prX4_drawn at hq
  refine g_enteri (cc := cX4_drawn) (nL := 4) (ret := (some .int)) (by decide) rfl (Nat.le_of_ble_eq_true rfl) rfl (fun X C E => ?_)
  obtain ⟨w, h, hw2, hw, hh2, hh, rfl, rfl⟩ := hq
  rw [nI_clamp (by omega), nI_clamp (by omega)] at E
  refine sgX4_drawn_0 C E ?_
  unfold drw sum2 at E
  generalize ht : (fun (y x : Nat) => (if x + 1 < w then szI (M_height (8 * y + x) - M_height (8 * y + (x + 1))) else 0) + (if y + 1 < h then szI (M_height (8 * y + x) - M_height (8 * (y + 1) + x)) else 0)) = t at E
  have outer : ∀ y, y ≤ h → atX4_drawn_9 X ad cA (sumI (fun y => sumI (t y) w) y) (nI y) 0 M_trace M_found M_foundSet M_foundTimes (nI w) (nI h) M_height := by
    intro y hy
    refine up_loop (P := fun y => atX4_drawn_9 X ad cA (sumI (fun y => sumI (t y) w) y) (nI y) 0 M_trace M_found M_foundSet M_foundTimes (nI w) (nI h) M_height) h ?_ (fun y hy ih => ?_) y hy
    · exact sgX4_drawn_9 C E ⟨fun _ => ⟨by rw [← ht], rfl⟩, fun c => absurd (i32_le_refl _) c⟩
    · refine sgX4_drawn_9 C E ⟨fun c => absurd c (nI_ge hy (by omega)), fun _ => ?_⟩
      have inner : ∀ x, x ≤ w → atX4_drawn_19 X ad cA (sumI (fun y => sumI (t y) w) y + sumI (t y) x) (nI y) (nI x) 0 M_trace M_found M_foundSet M_foundTimes (nI w) (nI h) M_height := by
        intro x hx
        refine up_loop (P := fun x => atX4_drawn_19 X ad cA (sumI (fun y => sumI (t y) w) y + sumI (t y) x) (nI y) (nI x) 0 M_trace M_found M_foundSet M_foundTimes (nI w) (nI h) M_height) w ?_ (fun x hx ih2 => ?_) x hx
        · refine sgX4_drawn_19 C E ⟨fun _ => ?_, fun c => absurd (i32_le_refl _) c⟩
          rw [nI_1]; exact ih
        · refine sgX4_drawn_19 C E ⟨fun c => absurd c (nI_ge hx (by omega)), fun _ => ?_⟩
          have e8 : nI (8 * y) + (8 : Int32) + nI x = nI (8 * (y + 1) + x) := by show _ + nI 8 + _ = _; rw [nI_add, nI_add]; congr 1
          have e9 : (8 : Int32) * nI y = nI (8 * y) := pk_mul 8 y
          have ex : (nI w ≤ nI x + 1) = ¬ (x + 1 < w) := propext (by rw [nI_1, nI_leI (by omega) (by omega)]; omega)
          have ey : (nI h ≤ nI y + 1) = ¬ (y + 1 < h) := propext (by rw [nI_1, nI_leI (by omega) (by omega)]; omega)
          rw [m8_eq, e9, e8, nI_1 (8 * y + x), size_eq, size_eq, nI_clamp (n := 8 * y + x) (by omega), nI_clamp (n := 8 * y + x + 1) (by omega), nI_clamp (n := 8 * (y + 1) + x) (by omega)]
          refine ⟨⟨fun _ => trivial, fun c => ⟨vp_in_nI (by omega) (by decide), vp_in_nI (by rw [ex] at c; omega) (by decide)⟩⟩, fun v1 ev1 => ⟨⟨fun _ => trivial, fun c => ⟨vp_in_nI (by omega) (by decide), vp_in_nI (by rw [ey] at c; omega) (by decide)⟩⟩, fun v2 ev2 => ?_⟩⟩
          rw [nI_1, ev2, ev1]
          have e2 : sumI (fun y => sumI (t y) w) y + sumI (t y) x + (if nI w ≤ nI x + 1 then (0 : Int32) else szI (M_height (8 * y + x) - M_height (8 * y + x + 1))) + (if nI h ≤ nI y + 1 then (0 : Int32) else szI (M_height (8 * y + x) - M_height (8 * (y + 1) + x))) = sumI (fun y => sumI (t y) w) y + sumI (t y) (x + 1) := by
            rw [sumI, ← ht]
            simp only [ex, ey, ite_not, Int32.add_assoc]
            rfl
          rw [e2]; exact ih2
      have := inner 0 (Nat.zero_le _)
      rw [sumI, Int32.add_zero] at this
      exact this
  exact outer 0 (Nat.zero_le _)


abbrev w1X4_pins (ad : Nat → Nat) (cA : Nat → ClassId) (M_thrown : Int32) (M_trace : Int64) (M_found : Int64) (M_foundSet : Int64) (M_foundTimes : Int64) (M_w : Int32) (M_h : Int32) (u : (Nat → Int32) × (Nat → Int32)) : va_W := [((ad 19), .inr (4, [.int M_thrown, .long M_trace, .ref (ad 20), .ref (ad 21), .ref (ad 22), .ref (ad 23), .ref (ad 24), .ref (ad 25), .ref (ad 26), .ref (ad 27), .ref (ad 28), .ref (ad 29), .ref (ad 30), .ref (ad 31), .long M_found, .long M_foundSet, .long M_foundTimes, .int M_w, .int M_h, .ref (ad 32), .ref (ad 33), .ref (ad 34)])), ((ad 32), .inl (cA 0, 64, .inl u.1)), ((ad 33), .inl (cA 2, 64, .inl u.2))]
abbrev wcX4_pins (ad : Nat → Nat) (cA : Nat → ClassId) (M_thrown : Int32) (M_trace : Int64) (M_found : Int64) (M_foundSet : Int64) (M_foundTimes : Int64) (M_w : Int32) (M_h : Int32) (M_height : Nat → Int32) (M_isPinned : Nat → Int32) : va_W := [((ad 19), .inr (4, [.int M_thrown, .long M_trace, .ref (ad 20), .ref (ad 21), .ref (ad 22), .ref (ad 23), .ref (ad 24), .ref (ad 25), .ref (ad 26), .ref (ad 27), .ref (ad 28), .ref (ad 29), .ref (ad 30), .ref (ad 31), .long M_found, .long M_foundSet, .long M_foundTimes, .int M_w, .int M_h, .ref (ad 32), .ref (ad 33), .ref (ad 34)])), ((ad 32), .inl (cA 0, 64, .inl M_height)), ((ad 33), .inl (cA 2, 64, .inl M_isPinned))]
def rmX4_pins : Room := { frames := 0, cells := 0, slots := 0, locals := 0 }
abbrev atX4_pins_0 (X : gX) (ad : Nat → Nat) (cA : Nat → ClassId) (M_thrown : Int32) (M_trace : Int64) (M_found : Int64) (M_foundSet : Int64) (M_foundTimes : Int64) (M_w : Int32) (M_h : Int32) (M_height : Nat → Int32) (M_isPinned : Nat → Int32) : Prop := gW X 0 0 [((ad 19), .inr (4, [.int M_thrown, .long M_trace, .ref (ad 20), .ref (ad 21), .ref (ad 22), .ref (ad 23), .ref (ad 24), .ref (ad 25), .ref (ad 26), .ref (ad 27), .ref (ad 28), .ref (ad 29), .ref (ad 30), .ref (ad 31), .long M_found, .long M_foundSet, .long M_foundTimes, .int M_w, .int M_h, .ref (ad 32), .ref (ad 33), .ref (ad 34)])), ((ad 32), .inl (cA 0, 64, .inl M_height)), ((ad 33), .inl (cA 2, 64, .inl M_isPinned))] 4 [(0, .ref (ad 19))] [] 0
abbrev atX4_pins_2 (X : gX) (ad : Nat → Nat) (cA : Nat → ClassId) (x1 : Int32) (M_thrown : Int32) (M_trace : Int64) (M_found : Int64) (M_foundSet : Int64) (M_foundTimes : Int64) (M_w : Int32) (M_h : Int32) (M_height : Nat → Int32) (M_isPinned : Nat → Int32) : Prop := gW X 0 0 [((ad 19), .inr (4, [.int M_thrown, .long M_trace, .ref (ad 20), .ref (ad 21), .ref (ad 22), .ref (ad 23), .ref (ad 24), .ref (ad 25), .ref (ad 26), .ref (ad 27), .ref (ad 28), .ref (ad 29), .ref (ad 30), .ref (ad 31), .long M_found, .long M_foundSet, .long M_foundTimes, .int M_w, .int M_h, .ref (ad 32), .ref (ad 33), .ref (ad 34)])), ((ad 32), .inl (cA 0, 64, .inl M_height)), ((ad 33), .inl (cA 2, 64, .inl M_isPinned))] 4 [(0, .ref (ad 19)), (1, .int x1)] [] 2
theorem giX4_pins_X4 : ∀ w ∈ u_ws RX4 TX4 22, w ∈ wsX4_pins := by decide +kernel
theorem gfX4_pins_54 : gF wsX4_pins RX4 54 4 19 RX4 TX4 22 := ⟨giX4_pins_X4, by decide +kernel, rfl, by decide⟩
theorem gfX4_pins_57 : gF wsX4_pins RX4 57 4 20 RX4 TX4 22 := ⟨giX4_pins_X4, by decide +kernel, rfl, by decide⟩
theorem gfX4_pins_47 : gF wsX4_pins RX4 47 4 17 RX4 TX4 22 := ⟨giX4_pins_X4, by decide +kernel, rfl, by decide⟩
theorem gfX4_pins_51 : gF wsX4_pins RX4 51 4 18 RX4 TX4 22 := ⟨giX4_pins_X4, by decide +kernel, rfl, by decide⟩
set_option maxHeartbeats 4000000 in
set_option maxRecDepth 100000 in
theorem sgX4_pins_0 {X : gX} {ad : Nat → Nat} {cA : Nat → ClassId} {post : ((Nat → Int32) × (Nat → Int32)) → Prop} {M_thrown : Int32} {M_trace : Int64} {M_found : Int64} {M_foundSet : Int64} {M_foundTimes : Int64} {M_w : Int32} {M_h : Int32} {M_height : Nat → Int32} {M_isPinned : Nat → Int32} (C : gC X (gT cA) cX4_pins 4 RX4 wsX4_pins rmX4_pins) (E : gEv X none (gT cA) 0 0 post (w1X4_pins ad cA M_thrown M_trace M_found M_foundSet M_foundTimes M_w M_h)) (h : atX4_pins_2 X ad cA (0 : Int32) M_thrown M_trace M_found M_foundSet M_foundTimes M_w M_h M_height M_isPinned) : atX4_pins_0 X ad cA M_thrown M_trace M_found M_foundSet M_foundTimes M_w M_h M_height M_isPinned := by
  refine g_iconst C dX4_pins_0 ik_0 ?_
  refine g_istore_n (lv2 := [(0, .ref (ad 19)), (1, .int (0 : Int32))]) C dX4_pins_1 rfl (by decide) [1, 0] rfl ?_
  exact g_lv [0, 1] rfl h
set_option maxHeartbeats 4000000 in
set_option maxRecDepth 100000 in
theorem sgX4_pins_2 {X : gX} {ad : Nat → Nat} {cA : Nat → ClassId} {post : ((Nat → Int32) × (Nat → Int32)) → Prop} {x1 : Int32} {M_thrown : Int32} {M_trace : Int64} {M_found : Int64} {M_foundSet : Int64} {M_foundTimes : Int64} {M_w : Int32} {M_h : Int32} {M_height : Nat → Int32} {M_isPinned : Nat → Int32} (C : gC X (gT cA) cX4_pins 4 RX4 wsX4_pins rmX4_pins) (E : gEv X none (gT cA) 0 0 post (w1X4_pins ad cA M_thrown M_trace M_found M_foundSet M_foundTimes M_w M_h)) (h : ((64 : Int32) ≤ x1 → post (M_height, M_isPinned)) ∧ (¬ (64 : Int32) ≤ x1 → ∀ x2_2 : Int32, x2_2 = (x1 - x1 / (8 : Int32) * (8 : Int32)) → vp_in x1 64 ∧ vp_in x1 64 ∧ atX4_pins_2 X ad cA (x1 + 1) M_thrown M_trace M_found M_foundSet M_foundTimes M_w M_h (upd M_height x1.toNatClampNeg (0 : Int32)) (upd M_isPinned x1.toNatClampNeg (vp_nar .boolean (if x2_2 = 0 then (1 : Int32) else (if (x1 / (8 : Int32)) = 0 then (1 : Int32) else (if x2_2 = (M_w - (1 : Int32)) then (1 : Int32) else (if (x1 / (8 : Int32)) = (M_h - (1 : Int32)) then (1 : Int32) else (0 : Int32))))))))) : atX4_pins_2 X ad cA x1 M_thrown M_trace M_found M_foundSet M_foundTimes M_w M_h M_height M_isPinned := by
  refine g_iload_n C dX4_pins_2 rfl 1 rfl ?_
  refine g_bipush C dX4_pins_3 bk_64 ?_
  refine g_icmp_ge (tgt := 70) C dX4_pins_5 (by decide) (fun c_1 => ?_) (fun c_1 => ?_)
  · replace h := h.1 c_1
    exact g_vret C E (M_height, M_isPinned) h rfl dX4_pins_70
  · replace h := h.2 c_1
    refine g_iload_n C dX4_pins_8 rfl 1 rfl ?_
    refine g_bipush C dX4_pins_9 bk_8 ?_
    refine g_irem C dX4_pins_11 (by decide) ?_
    refine g_topi (fun x2_2 ex2_2 => ?_)
    replace h := h x2_2 ex2_2
    refine g_istore_n (lv2 := [(0, .ref (ad 19)), (1, .int x1), (2, .int x2_2)]) C dX4_pins_12 rfl (by decide) [1, 2, 0] rfl ?_
    refine g_iload_n C dX4_pins_13 rfl 1 rfl ?_
    refine g_bipush C dX4_pins_14 bk_8 ?_
    refine g_idiv C dX4_pins_16 (by decide) ?_
    refine g_istore_n (lv2 := [(0, .ref (ad 19)), (1, .int x1), (2, .int x2_2), (3, .int (x1 / (8 : Int32)))]) C dX4_pins_17 rfl (by decide) [1, 2, 3, 0] rfl ?_
    refine g_aload_n C dX4_pins_18 rfl 0 rfl ?_
    refine g_get C gfX4_pins_54 0 rfl rfl dX4_pins_19 ?_
    refine g_iload_n C dX4_pins_22 rfl 1 rfl ?_
    refine g_iconst C dX4_pins_23 ik_0 ?_
    obtain ⟨hi_3, h⟩ := h
    refine g_iast (ws2 := [((ad 19), .inr (4, [.int M_thrown, .long M_trace, .ref (ad 20), .ref (ad 21), .ref (ad 22), .ref (ad 23), .ref (ad 24), .ref (ad 25), .ref (ad 26), .ref (ad 27), .ref (ad 28), .ref (ad 29), .ref (ad 30), .ref (ad 31), .long M_found, .long M_foundSet, .long M_foundTimes, .int M_w, .int M_h, .ref (ad 32), .ref (ad 33), .ref (ad 34)])), ((ad 32), .inl (cA 0, 64, .inl (upd M_height x1.toNatClampNeg (0 : Int32)))), ((ad 33), .inl (cA 2, 64, .inl M_isPinned))]) C 1 0 rfl rfl hi_3 rfl dX4_pins_24 ?_
    refine g_aload_n C dX4_pins_25 rfl 0 rfl ?_
    refine g_get C gfX4_pins_57 0 rfl rfl dX4_pins_26 ?_
    refine g_iload_n C dX4_pins_29 rfl 1 rfl ?_
    refine g_iload_n C dX4_pins_30 rfl 2 rfl ?_
    have key : gW X 0 0 [((ad 19), .inr (4, [.int M_thrown, .long M_trace, .ref (ad 20), .ref (ad 21), .ref (ad 22), .ref (ad 23), .ref (ad 24), .ref (ad 25), .ref (ad 26), .ref (ad 27), .ref (ad 28), .ref (ad 29), .ref (ad 30), .ref (ad 31), .long M_found, .long M_foundSet, .long M_foundTimes, .int M_w, .int M_h, .ref (ad 32), .ref (ad 33), .ref (ad 34)])), ((ad 32), .inl (cA 0, 64, .inl (upd M_height x1.toNatClampNeg (0 : Int32)))), ((ad 33), .inl (cA 2, 64, .inl M_isPinned))] 4 [(0, .ref (ad 19)), (1, .int x1), (2, .int x2_2), (3, .int (x1 / (8 : Int32)))] [.int (if x2_2 = 0 then (1 : Int32) else (if (x1 / (8 : Int32)) = 0 then (1 : Int32) else (if x2_2 = (M_w - (1 : Int32)) then (1 : Int32) else (if (x1 / (8 : Int32)) = (M_h - (1 : Int32)) then (1 : Int32) else (0 : Int32))))), .int x1, .ref (ad 33)] 63 := by
      obtain ⟨hi_8, h⟩ := h
      refine g_zast (ws2 := [((ad 19), .inr (4, [.int M_thrown, .long M_trace, .ref (ad 20), .ref (ad 21), .ref (ad 22), .ref (ad 23), .ref (ad 24), .ref (ad 25), .ref (ad 26), .ref (ad 27), .ref (ad 28), .ref (ad 29), .ref (ad 30), .ref (ad 31), .long M_found, .long M_foundSet, .long M_foundTimes, .int M_w, .int M_h, .ref (ad 32), .ref (ad 33), .ref (ad 34)])), ((ad 32), .inl (cA 0, 64, .inl (upd M_height x1.toNatClampNeg (0 : Int32)))), ((ad 33), .inl (cA 2, 64, .inl (upd M_isPinned x1.toNatClampNeg (vp_nar .boolean (if x2_2 = 0 then (1 : Int32) else (if (x1 / (8 : Int32)) = 0 then (1 : Int32) else (if x2_2 = (M_w - (1 : Int32)) then (1 : Int32) else (if (x1 / (8 : Int32)) = (M_h - (1 : Int32)) then (1 : Int32) else (0 : Int32)))))))))]) C 2 2 rfl rfl hi_8 rfl dX4_pins_63 ?_
      refine g_iinc (v := (x1 + 1)) (lv2 := [(0, .ref (ad 19)), (1, .int (x1 + 1)), (2, .int x2_2), (3, .int (x1 / (8 : Int32)))]) C dX4_pins_64 1 rfl (by first | rfl | decide) (by decide) [1, 0, 2, 3] rfl ?_
      refine g_goto (tgt := 2) C dX4_pins_67 (by decide) ?_
      exact g_lv [0, 1] rfl h
    refine g_if_eq (tgt := 58) C dX4_pins_31 (by decide) (fun c_4 => ?_) (fun c_4 => ?_)
    · refine g_iconst C dX4_pins_58 ik_1 ?_
      refine g_goto (tgt := 63) C dX4_pins_59 (by decide) ?_
      exact g_leaf (by simp only [if_pos c_4] at key; first | exact key | (simp only [if_pos c_4]; exact key) | exact absurd rfl c_4)
    · refine g_iload_n C dX4_pins_34 rfl 3 rfl ?_
      have key : gW X 0 0 [((ad 19), .inr (4, [.int M_thrown, .long M_trace, .ref (ad 20), .ref (ad 21), .ref (ad 22), .ref (ad 23), .ref (ad 24), .ref (ad 25), .ref (ad 26), .ref (ad 27), .ref (ad 28), .ref (ad 29), .ref (ad 30), .ref (ad 31), .long M_found, .long M_foundSet, .long M_foundTimes, .int M_w, .int M_h, .ref (ad 32), .ref (ad 33), .ref (ad 34)])), ((ad 32), .inl (cA 0, 64, .inl (upd M_height x1.toNatClampNeg (0 : Int32)))), ((ad 33), .inl (cA 2, 64, .inl M_isPinned))] 4 [(0, .ref (ad 19)), (1, .int x1), (2, .int x2_2), (3, .int (x1 / (8 : Int32)))] [.int (if (x1 / (8 : Int32)) = 0 then (1 : Int32) else (if x2_2 = (M_w - (1 : Int32)) then (1 : Int32) else (if (x1 / (8 : Int32)) = (M_h - (1 : Int32)) then (1 : Int32) else (0 : Int32)))), .int x1, .ref (ad 33)] 63 := by
        exact g_leaf (by simp only [if_neg c_4] at key; first | exact key | (simp only [if_neg c_4]; exact key) | exact absurd rfl c_4)
      refine g_if_eq (tgt := 58) C dX4_pins_35 (by decide) (fun c_5 => ?_) (fun c_5 => ?_)
      · refine g_iconst C dX4_pins_58 ik_1 ?_
        refine g_goto (tgt := 63) C dX4_pins_59 (by decide) ?_
        exact g_leaf (by simp only [if_pos c_5] at key; first | exact key | (simp only [if_pos c_5]; exact key) | exact absurd rfl c_5)
      · refine g_iload_n C dX4_pins_38 rfl 2 rfl ?_
        refine g_aload_n C dX4_pins_39 rfl 0 rfl ?_
        refine g_get C gfX4_pins_47 0 rfl rfl dX4_pins_40 ?_
        refine g_iconst C dX4_pins_43 ik_1 ?_
        refine g_isub C dX4_pins_44 ?_
        have key : gW X 0 0 [((ad 19), .inr (4, [.int M_thrown, .long M_trace, .ref (ad 20), .ref (ad 21), .ref (ad 22), .ref (ad 23), .ref (ad 24), .ref (ad 25), .ref (ad 26), .ref (ad 27), .ref (ad 28), .ref (ad 29), .ref (ad 30), .ref (ad 31), .long M_found, .long M_foundSet, .long M_foundTimes, .int M_w, .int M_h, .ref (ad 32), .ref (ad 33), .ref (ad 34)])), ((ad 32), .inl (cA 0, 64, .inl (upd M_height x1.toNatClampNeg (0 : Int32)))), ((ad 33), .inl (cA 2, 64, .inl M_isPinned))] 4 [(0, .ref (ad 19)), (1, .int x1), (2, .int x2_2), (3, .int (x1 / (8 : Int32)))] [.int (if x2_2 = (M_w - (1 : Int32)) then (1 : Int32) else (if (x1 / (8 : Int32)) = (M_h - (1 : Int32)) then (1 : Int32) else (0 : Int32))), .int x1, .ref (ad 33)] 63 := by
          exact g_leaf (by simp only [if_neg c_5] at key; first | exact key | (simp only [if_neg c_5]; exact key) | exact absurd rfl c_5)
        refine g_icmp_eq (tgt := 58) C dX4_pins_45 (by decide) (fun c_6 => ?_) (fun c_6 => ?_)
        · refine g_iconst C dX4_pins_58 ik_1 ?_
          refine g_goto (tgt := 63) C dX4_pins_59 (by decide) ?_
          exact g_leaf (by simp only [if_pos c_6] at key; first | exact key | (simp only [if_pos c_6]; exact key) | exact absurd rfl c_6)
        · refine g_iload_n C dX4_pins_48 rfl 3 rfl ?_
          refine g_aload_n C dX4_pins_49 rfl 0 rfl ?_
          refine g_get C gfX4_pins_51 0 rfl rfl dX4_pins_50 ?_
          refine g_iconst C dX4_pins_53 ik_1 ?_
          refine g_isub C dX4_pins_54 ?_
          have key : gW X 0 0 [((ad 19), .inr (4, [.int M_thrown, .long M_trace, .ref (ad 20), .ref (ad 21), .ref (ad 22), .ref (ad 23), .ref (ad 24), .ref (ad 25), .ref (ad 26), .ref (ad 27), .ref (ad 28), .ref (ad 29), .ref (ad 30), .ref (ad 31), .long M_found, .long M_foundSet, .long M_foundTimes, .int M_w, .int M_h, .ref (ad 32), .ref (ad 33), .ref (ad 34)])), ((ad 32), .inl (cA 0, 64, .inl (upd M_height x1.toNatClampNeg (0 : Int32)))), ((ad 33), .inl (cA 2, 64, .inl M_isPinned))] 4 [(0, .ref (ad 19)), (1, .int x1), (2, .int x2_2), (3, .int (x1 / (8 : Int32)))] [.int (if (x1 / (8 : Int32)) = (M_h - (1 : Int32)) then (1 : Int32) else (0 : Int32)), .int x1, .ref (ad 33)] 63 := by
            exact g_leaf (by simp only [if_neg c_6] at key; first | exact key | (simp only [if_neg c_6]; exact key) | exact absurd rfl c_6)
          refine g_icmp_ne (tgt := 62) C dX4_pins_55 (by decide) (fun c_7 => ?_) (fun c_7 => ?_)
          · refine g_iconst C dX4_pins_62 ik_0 ?_
            exact g_leaf (by simp only [if_neg c_7] at key; first | exact key | (simp only [if_neg c_7]; exact key) | exact absurd rfl c_7)
          · refine g_iconst C dX4_pins_58 ik_1 ?_
            refine g_goto (tgt := 63) C dX4_pins_59 (by decide) ?_
            exact g_leaf (by simp only [if_pos c_7] at key; first | exact key | (simp only [if_pos c_7]; exact key) | exact absurd rfl c_7)
def prX4_pins (M_thrown : Int32) (M_trace : Int64) (M_found : Int64) (M_foundSet : Int64) (M_foundTimes : Int64) (M_w : Int32) (M_h : Int32) (M_height : Nat → Int32) (M_isPinned : Nat → Int32) : Prop := netOK M_w M_h
def po_X4_pins (ad : Nat → Nat) (cA : Nat → ClassId) (M_thrown : Int32) (M_trace : Int64) (M_found : Int64) (M_foundSet : Int64) (M_foundTimes : Int64) (M_w : Int32) (M_h : Int32) (M_height : Nat → Int32) (M_isPinned : Nat → Int32) (u : (Nat → Int32) × (Nat → Int32)) : Prop := u.1 = fillA 64 0 M_height ∧ ∀ y, y < 8 → ∀ x, x < 8 → u.2 (8 * y + x) = rimI M_w.toNatClampNeg M_h.toNatClampNeg x y
set_option maxHeartbeats 4000000 in
set_option maxRecDepth 100000 in
theorem c_X4_pins (ad : Nat → Nat) (cA : Nat → ClassId) (M_thrown : Int32) (M_trace : Int64) (M_found : Int64) (M_foundSet : Int64) (M_foundTimes : Int64) (M_w : Int32) (M_h : Int32) (M_height : Nat → Int32) (M_isPinned : Nat → Int32) (hq : prX4_pins M_thrown M_trace M_found M_foundSet M_foundTimes M_w M_h M_height M_isPinned) : ∀ (l : Launch) (D : va_G), gMv (S := (Nat → Int32) × (Nat → Int32)) l yX4_pins wsX4_pins rmX4_pins D (gT cA) 0 0 [.ref (ad 19)] (wcX4_pins ad cA M_thrown M_trace M_found M_foundSet M_foundTimes M_w M_h M_height M_isPinned) (po_X4_pins ad cA M_thrown M_trace M_found M_foundSet M_foundTimes M_w M_h M_height M_isPinned) (w1X4_pins ad cA M_thrown M_trace M_found M_foundSet M_foundTimes M_w M_h) := by
  intro l D
  unfold prX4_pins at hq
  refine g_enterv (cc := cX4_pins) (nL := 4) (ret := none) (by decide) rfl (Nat.le_of_ble_eq_true rfl) rfl (fun X C E => ?_)
  obtain ⟨w, h, hw2, hw, hh2, hh, rfl, rfl⟩ := hq
  have hpo : ∀ (pin : Nat → Int32), (∀ j, j < 64 → pin j = rimI w h (j % 8) (j / 8)) → po_X4_pins ad cA M_thrown M_trace M_found M_foundSet M_foundTimes (nI w) (nI h) M_height M_isPinned (fillA 64 0 M_height, pin) := fun pin e => by
    refine ⟨rfl, fun y hy x hx => ?_⟩
    rw [nI_clamp (by omega), nI_clamp (by omega)]
    show pin (8 * y + x) = _
    rw [e _ (by omega), show (8 * y + x) % 8 = x by omega, show (8 * y + x) / 8 = y by omega]
  refine sgX4_pins_0 C E ?_
  have loop : ∀ k, k ≤ 64 → ∀ pin, (∀ j, j < k → pin j = rimI w h (j % 8) (j / 8)) → atX4_pins_2 X ad cA (nI k) M_thrown M_trace M_found M_foundSet M_foundTimes (nI w) (nI h) (fillA k 0 M_height) pin := by
    intro k hk
    refine up_loop (P := fun k => ∀ pin, (∀ j, j < k → pin j = rimI w h (j % 8) (j / 8)) → atX4_pins_2 X ad cA (nI k) M_thrown M_trace M_found M_foundSet M_foundTimes (nI w) (nI h) (fillA k 0 M_height) pin) 64 ?_ (fun k hk ih pin hp => ?_) k hk
    · exact fun pin hp => sgX4_pins_2 C E ⟨fun _ => hpo pin hp, fun c => absurd (i32_le_refl _) c⟩
    · refine sgX4_pins_2 C E ⟨fun c => absurd c (nI_ge (b := 64) hk (by decide)), fun _ v ev => ?_⟩
      have e1 : v = nI (k % 8) := by rw [ev]; exact pk_rem (d := 8) (by omega) (by decide) (by decide)
      have e2 : nI k / 8 = nI (k / 8) := pk_div (d := 8) (by omega) (by decide) (by decide)
      rw [e1, e2, nI_clamp (by omega), nI_1, rim_m hw2 hw hh2 hh (by omega) (by omega)]
      refine ⟨vp_in_nI hk (by decide), vp_in_nI hk (by decide), ?_⟩
      have e : upd (fillA k 0 M_height) k 0 = fillA (k + 1) 0 M_height := by
        funext j
        unfold upd fillA
        by_cases h1 : j = k
        · rw [if_pos h1, if_pos (by omega)]
        · rw [if_neg h1]
          by_cases h2 : j < k
          · rw [if_pos h2, if_pos (by omega)]
          · rw [if_neg h2, if_neg (by omega)]
      rw [e]
      refine ih _ (fun j hj => ?_)
      rcases Nat.lt_or_ge j k with q | q
      · rw [upd_n _ _ (by omega)]; exact hp j q
      · have e : j = k := by omega
        rw [e, upd_s]
  have e0 : fillA 0 0 M_height = M_height := by funext j; simp [fillA]
  have := loop 0 (Nat.zero_le _) M_isPinned (fun j hj => absurd hj (Nat.not_lt_zero j))
  rw [e0] at this
  exact this

