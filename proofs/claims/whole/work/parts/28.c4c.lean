theorem hde_X4_adds : yX4_adds.cls = RX4 ∧ yX4_adds.cls ≠ "java/lang/invoke/MethodHandle" ∧ yX4_adds.cls ≠ "java/lang/invoke/VarHandle" ∧ (parseMethodDescriptor yX4_adds.desc).map (fun d => d.parameters.length) = some 4 := by decide +kernel
theorem hde_X4_cellAt : yX4_cellAt.cls = RX4 ∧ yX4_cellAt.cls ≠ "java/lang/invoke/MethodHandle" ∧ yX4_cellAt.cls ≠ "java/lang/invoke/VarHandle" ∧ (parseMethodDescriptor yX4_cellAt.desc).map (fun d => d.parameters.length) = some 1 := by decide +kernel
theorem hde_X4_faceCost : yX4_faceCost.cls = RX4 ∧ yX4_faceCost.cls ≠ "java/lang/invoke/MethodHandle" ∧ yX4_faceCost.cls ≠ "java/lang/invoke/VarHandle" ∧ (parseMethodDescriptor yX4_faceCost.desc).map (fun d => d.parameters.length) = some 3 := by decide +kernel
theorem hde_X4_orders : yX4_orders.cls = RX4 ∧ yX4_orders.cls ≠ "java/lang/invoke/MethodHandle" ∧ yX4_orders.cls ≠ "java/lang/invoke/VarHandle" ∧ (parseMethodDescriptor yX4_orders.desc).map (fun d => d.parameters.length) = some 0 := by decide +kernel
theorem hde_X4_outsides : yX4_outsides.cls = RX4 ∧ yX4_outsides.cls ≠ "java/lang/invoke/MethodHandle" ∧ yX4_outsides.cls ≠ "java/lang/invoke/VarHandle" ∧ (parseMethodDescriptor yX4_outsides.desc).map (fun d => d.parameters.length) = some 1 := by decide +kernel
set_option maxRecDepth 100000 in
theorem bit9 : ∀ ro, ro < 512 → ∀ b, b < 9 → (nI ro >>> (nI b &&& 31)) &&& 1 = bI (ro.testBit b) := by decide +kernel
set_option maxRecDepth 100000 in
theorem shl9 : ∀ r, r < 512 → ∀ b : Bool, (nI r <<< ((1 : Int32) &&& 31)) ||| bI b = nI (2 * r + (if b = true then 1 else 0)) := by decide +kernel
theorem one9 : ∀ k, k < 10 → (1 : Int32) <<< (nI k &&& 31) = nI (2 ^ k) := by decide +kernel
theorem msk9 : ∀ k, k < 10 → (nI (2 ^ k) - 1).toBitVec.toNat = 2 ^ k - 1 := by decide +kernel
theorem bI_inj {a b : Bool} : bI a = bI b ↔ a = b := by cases a <;> cases b <;> decide
theorem updL_u (f : Nat → Int64) (k : Nat) (a b : Int64) : vp_updL (vp_updL f k a) k b = vp_updL f k b := by
  funext j
  by_cases q : j = k
  · rw [q, updL_s, updL_s]
  · rw [updL_n _ _ q, updL_n _ _ q, updL_n _ _ q]
theorem adZ_bd {X Y Z w0 w1 w2 : Nat} {ru pr : Nat → Int32} {more : Int} (hd : dimOK X Y Z) (hw : prm w0 w1 w2) (hr : ruOK ru) (hp : prOK (X * Y * Z) pr) (h1 : -60 ≤ more) (h2 : more ≤ 60) {k : Nat} (hk : k < X * Y * Z) (r : Nat) (b : Bool) : -1000 ≤ adZ X Y Z w0 w1 w2 ru pr more k r b ∧ adZ X Y Z w0 w1 w2 ru pr more k r b ≤ 1000 := by
  have o := ocM_bd (w0 := w0) (w1 := w1) (w2 := w2) hd hw hr hp h1 h2 hk
  have b := sumZ_bd (f := fun q => if r.testBit (bqM X Y Z w0 w1 q - 1) = b then (0 : Int) else fqM X Y Z w0 w1 w2 ru q k) (n := 3) (a := 0) (b := 18) (fun q hq => by
    have := fqM_bd (X := X) (Y := Y) (Z := Z) hr hw hq k
    split <;> omega)
  unfold adZ; split <;> omega
theorem bqM_bd {X Y Z w0 w1 : Nat} (hd : dimOK X Y Z) (q : Nat) : 1 ≤ bqM X Y Z w0 w1 q ∧ bqM X Y Z w0 w1 q ≤ bxD X Y Z w0 * bxD X Y Z w1 := by
  have d0 := bxD_le hd w0
  have d1 := bxD_le hd w1
  have m1 : bxD X Y Z w0 * 1 ≤ bxD X Y Z w0 * bxD X Y Z w1 := Nat.mul_le_mul (Nat.le_refl _) d1.1
  unfold bqM bkQ; (repeat' split) <;> omega

abbrev w1X4_adds (ad : Nat → Nat) (cA : Nat → ClassId) (M_thrown : Int32) (M_trace : Int64) (M_found : Int64) (M_foundSet : Int64) (M_foundTimes : Int64) (M_w : Int32) (M_h : Int32) (M_sides : Nat → Int32) (M_price : Nat → Int32) (M_rules : Nat → Int32) (M_ways : Nat → Int32) (M_place : Nat → Int32) (u : Unit) : va_W := [((ad 19), .inr (4, [.int M_thrown, .long M_trace, .ref (ad 20), .ref (ad 21), .ref (ad 22), .ref (ad 23), .ref (ad 24), .ref (ad 25), .ref (ad 26), .ref (ad 27), .ref (ad 28), .ref (ad 29), .ref (ad 30), .ref (ad 31), .long M_found, .long M_foundSet, .long M_foundTimes, .int M_w, .int M_h, .ref (ad 32), .ref (ad 33), .ref (ad 34)])), ((ad 20), .inl (cA 0, 3, .inl M_sides)), ((ad 22), .inl (cA 0, 36, .inl M_price)), ((ad 23), .inl (cA 0, 7, .inl M_rules)), ((ad 24), .inl (cA 0, 3, .inl M_ways)), ((ad 25), .inl (cA 0, 3, .inl M_place))]
abbrev wcX4_adds (ad : Nat → Nat) (cA : Nat → ClassId) (M_thrown : Int32) (M_trace : Int64) (M_found : Int64) (M_foundSet : Int64) (M_foundTimes : Int64) (M_w : Int32) (M_h : Int32) (M_sides : Nat → Int32) (M_price : Nat → Int32) (M_rules : Nat → Int32) (M_ways : Nat → Int32) (M_place : Nat → Int32) : va_W := [((ad 19), .inr (4, [.int M_thrown, .long M_trace, .ref (ad 20), .ref (ad 21), .ref (ad 22), .ref (ad 23), .ref (ad 24), .ref (ad 25), .ref (ad 26), .ref (ad 27), .ref (ad 28), .ref (ad 29), .ref (ad 30), .ref (ad 31), .long M_found, .long M_foundSet, .long M_foundTimes, .int M_w, .int M_h, .ref (ad 32), .ref (ad 33), .ref (ad 34)])), ((ad 20), .inl (cA 0, 3, .inl M_sides)), ((ad 22), .inl (cA 0, 36, .inl M_price)), ((ad 23), .inl (cA 0, 7, .inl M_rules)), ((ad 24), .inl (cA 0, 3, .inl M_ways)), ((ad 25), .inl (cA 0, 3, .inl M_place))]
def rmX4_adds : Room := { frames := 2, cells := 0, slots := 0, locals := 45 }
abbrev atX4_adds_0 (X : gX) (ad : Nat → Nat) (cA : Nat → ClassId) (p1 : Int32) (p2 : Int32) (p3 : Int32) (p4 : Int32) (M_thrown : Int32) (M_trace : Int64) (M_found : Int64) (M_foundSet : Int64) (M_foundTimes : Int64) (M_w : Int32) (M_h : Int32) (M_sides : Nat → Int32) (M_price : Nat → Int32) (M_rules : Nat → Int32) (M_ways : Nat → Int32) (M_place : Nat → Int32) : Prop := gW X 0 0 [((ad 19), .inr (4, [.int M_thrown, .long M_trace, .ref (ad 20), .ref (ad 21), .ref (ad 22), .ref (ad 23), .ref (ad 24), .ref (ad 25), .ref (ad 26), .ref (ad 27), .ref (ad 28), .ref (ad 29), .ref (ad 30), .ref (ad 31), .long M_found, .long M_foundSet, .long M_foundTimes, .int M_w, .int M_h, .ref (ad 32), .ref (ad 33), .ref (ad 34)])), ((ad 20), .inl (cA 0, 3, .inl M_sides)), ((ad 22), .inl (cA 0, 36, .inl M_price)), ((ad 23), .inl (cA 0, 7, .inl M_rules)), ((ad 24), .inl (cA 0, 3, .inl M_ways)), ((ad 25), .inl (cA 0, 3, .inl M_place))] 8 [(0, .ref (ad 19)), (1, .int p1), (2, .int p2), (3, .int p3), (4, .int p4)] [] 0
abbrev atX4_adds_39 (X : gX) (ad : Nat → Nat) (cA : Nat → ClassId) (x2 : Int32) (x3 : Int32) (x5 : Int32) (x6 : Int32) (x7 : Int32) (M_thrown : Int32) (M_trace : Int64) (M_found : Int64) (M_foundSet : Int64) (M_foundTimes : Int64) (M_w : Int32) (M_h : Int32) (M_sides : Nat → Int32) (M_price : Nat → Int32) (M_rules : Nat → Int32) (M_ways : Nat → Int32) (M_place : Nat → Int32) : Prop := gW X 0 0 [((ad 19), .inr (4, [.int M_thrown, .long M_trace, .ref (ad 20), .ref (ad 21), .ref (ad 22), .ref (ad 23), .ref (ad 24), .ref (ad 25), .ref (ad 26), .ref (ad 27), .ref (ad 28), .ref (ad 29), .ref (ad 30), .ref (ad 31), .long M_found, .long M_foundSet, .long M_foundTimes, .int M_w, .int M_h, .ref (ad 32), .ref (ad 33), .ref (ad 34)])), ((ad 20), .inl (cA 0, 3, .inl M_sides)), ((ad 22), .inl (cA 0, 36, .inl M_price)), ((ad 23), .inl (cA 0, 7, .inl M_rules)), ((ad 24), .inl (cA 0, 3, .inl M_ways)), ((ad 25), .inl (cA 0, 3, .inl M_place))] 8 [(0, .ref (ad 19)), (2, .int x2), (3, .int x3), (5, .int x5), (6, .int x6), (7, .int x7)] [] 39
theorem giX4_adds_X4 : ∀ w ∈ u_ws RX4 TX4 22, w ∈ wsX4_adds := by decide +kernel
theorem gfX4_adds_16 : gF wsX4_adds RX4 16 4 4 RX4 TX4 22 := ⟨giX4_adds_X4, by decide +kernel, rfl, by decide⟩
theorem gfX4_adds_19 : gF wsX4_adds RX4 19 4 5 RX4 TX4 22 := ⟨giX4_adds_X4, by decide +kernel, rfl, by decide⟩
theorem gfX4_adds_25 : gF wsX4_adds RX4 25 4 7 RX4 TX4 22 := ⟨giX4_adds_X4, by decide +kernel, rfl, by decide⟩
theorem gfX4_adds_22 : gF wsX4_adds RX4 22 4 6 RX4 TX4 22 := ⟨giX4_adds_X4, by decide +kernel, rfl, by decide⟩
theorem gfX4_adds_7 : gF wsX4_adds RX4 7 4 2 RX4 TX4 22 := ⟨giX4_adds_X4, by decide +kernel, rfl, by decide⟩
set_option maxHeartbeats 4000000 in
set_option maxRecDepth 100000 in
theorem sgX4_adds_0 {X : gX} {ad : Nat → Nat} {cA : Nat → ClassId} {post : Int32 → (Unit) → Prop} {p1 : Int32} {p2 : Int32} {p3 : Int32} {p4 : Int32} {M_thrown : Int32} {M_trace : Int64} {M_found : Int64} {M_foundSet : Int64} {M_foundTimes : Int64} {M_w : Int32} {M_h : Int32} {M_sides : Nat → Int32} {M_price : Nat → Int32} {M_rules : Nat → Int32} {M_ways : Nat → Int32} {M_place : Nat → Int32} (C : gC X (gT cA) cX4_adds 8 RX4 wsX4_adds rmX4_adds) (E : gEi X (some .int) (gT cA) 0 0 post (w1X4_adds ad cA M_thrown M_trace M_found M_foundSet M_foundTimes M_w M_h M_sides M_price M_rules M_ways M_place)) (h : ((¬ p3 = (1 : Int32) → True) ∧ (p3 = (1 : Int32) → vp_in p1 36 ∧ vp_in (3 : Int32) 7 ∧ prX4_outsides p1 M_thrown M_trace M_found M_foundSet M_foundTimes M_w M_h M_sides)) ∧ ∀ x5_6 : Int32, x5_6 = (if p3 = (1 : Int32) then (((M_price p1.toNatClampNeg) + p4) + ((M_rules (3 : Int32).toNatClampNeg) * (iI (outsZ (M_sides 0).toNatClampNeg (M_sides 1).toNatClampNeg (M_sides 2).toNatClampNeg p1.toNatClampNeg)))) else (0 : Int32)) → atX4_adds_39 X ad cA p2 p3 x5_6 (1 : Int32) (0 : Int32) M_thrown M_trace M_found M_foundSet M_foundTimes M_w M_h M_sides M_price M_rules M_ways M_place) : atX4_adds_0 X ad cA p1 p2 p3 p4 M_thrown M_trace M_found M_foundSet M_foundTimes M_w M_h M_sides M_price M_rules M_ways M_place := by
  refine g_iload_n C dX4_adds_0 rfl 3 rfl ?_
  refine g_iconst C dX4_adds_1 ik_1 ?_
  obtain ⟨hr_31, h⟩ := h
  have key : gW X 0 0 [((ad 19), .inr (4, [.int M_thrown, .long M_trace, .ref (ad 20), .ref (ad 21), .ref (ad 22), .ref (ad 23), .ref (ad 24), .ref (ad 25), .ref (ad 26), .ref (ad 27), .ref (ad 28), .ref (ad 29), .ref (ad 30), .ref (ad 31), .long M_found, .long M_foundSet, .long M_foundTimes, .int M_w, .int M_h, .ref (ad 32), .ref (ad 33), .ref (ad 34)])), ((ad 20), .inl (cA 0, 3, .inl M_sides)), ((ad 22), .inl (cA 0, 36, .inl M_price)), ((ad 23), .inl (cA 0, 7, .inl M_rules)), ((ad 24), .inl (cA 0, 3, .inl M_ways)), ((ad 25), .inl (cA 0, 3, .inl M_place))] 8 [(0, .ref (ad 19)), (1, .int p1), (2, .int p2), (3, .int p3), (4, .int p4)] [.int (if p3 = (1 : Int32) then (((M_price p1.toNatClampNeg) + p4) + ((M_rules (3 : Int32).toNatClampNeg) * (iI (outsZ (M_sides 0).toNatClampNeg (M_sides 1).toNatClampNeg (M_sides 2).toNatClampNeg p1.toNatClampNeg)))) else (0 : Int32))] 31 := by
    refine g_topi (fun x5_6 ex5_6 => ?_)
    replace h := h x5_6 ex5_6
    refine g_istore (lv2 := [(0, .ref (ad 19)), (1, .int p1), (2, .int p2), (3, .int p3), (4, .int p4), (5, .int x5_6)]) C dX4_adds_31 (by decide) [1, 2, 3, 4, 5, 0] rfl ?_
    refine g_iconst C dX4_adds_33 ik_1 ?_
    refine g_istore (lv2 := [(0, .ref (ad 19)), (1, .int p1), (2, .int p2), (3, .int p3), (4, .int p4), (5, .int x5_6), (6, .int (1 : Int32))]) C dX4_adds_34 (by decide) [1, 2, 3, 4, 5, 6, 0] rfl ?_
    refine g_iconst C dX4_adds_36 ik_0 ?_
    refine g_istore (lv2 := [(0, .ref (ad 19)), (1, .int p1), (2, .int p2), (3, .int p3), (4, .int p4), (5, .int x5_6), (6, .int (1 : Int32)), (7, .int (0 : Int32))]) C dX4_adds_37 (by decide) [1, 2, 3, 4, 5, 6, 7, 0] rfl ?_
    exact g_lv [0, 2, 3, 5, 6, 7] rfl h
  replace h := hr_31
  refine g_icmp_ne (tgt := 30) C dX4_adds_2 (by decide) (fun c_1 => ?_) (fun c_1 => ?_)
  · replace h := h.1 c_1
    refine g_iconst C dX4_adds_30 ik_0 ?_
    exact g_leaf (by simp only [if_neg c_1] at key; first | exact key | (simp only [if_neg c_1]; exact key) | exact absurd rfl c_1)
  · replace h := h.2 c_1
    refine g_aload_n C dX4_adds_5 rfl 0 rfl ?_
    refine g_get C gfX4_adds_16 0 rfl rfl dX4_adds_6 ?_
    refine g_iload_n C dX4_adds_9 rfl 1 rfl ?_
    obtain ⟨hi_2, h⟩ := h
    refine g_iald C 2 0 rfl rfl hi_2 dX4_adds_10 ?_
    refine g_iload C dX4_adds_11 4 rfl ?_
    refine g_iadd C dX4_adds_13 ?_
    refine g_aload_n C dX4_adds_14 rfl 0 rfl ?_
    refine g_get C gfX4_adds_19 0 rfl rfl dX4_adds_15 ?_
    refine g_iconst C dX4_adds_18 ik_3 ?_
    obtain ⟨hi_3, h⟩ := h
    refine g_iald C 3 0 rfl rfl hi_3 dX4_adds_19 ?_
    refine g_aload_n C dX4_adds_20 rfl 0 rfl ?_
    refine g_iload_n C dX4_adds_21 rfl 1 rfl ?_
    have hi_4 := h
    refine g_callVi (wr := [((ad 22), .inl (cA 0, 36, .inl M_price)), ((ad 23), .inl (cA 0, 7, .inl M_rules)), ((ad 24), .inl (cA 0, 3, .inl M_ways)), ((ad 25), .inl (cA 0, 3, .inl M_place))]) C (c_X4_outsides ad cA p1 M_thrown M_trace M_found M_foundSet M_foundTimes M_w M_h M_sides hi_4) gX4_adds_X4_outsides rfl hde_X4_outsides ⟨rfl, rfl⟩ (by decide) (by decide) [0, 1] [2, 3, 4, 5] [4, 5, 0, 1, 2, 3] rfl rfl rfl rfl (by decide) rfl (ws2 := fun u => [((ad 19), .inr (4, [.int M_thrown, .long M_trace, .ref (ad 20), .ref (ad 21), .ref (ad 22), .ref (ad 23), .ref (ad 24), .ref (ad 25), .ref (ad 26), .ref (ad 27), .ref (ad 28), .ref (ad 29), .ref (ad 30), .ref (ad 31), .long M_found, .long M_foundSet, .long M_foundTimes, .int M_w, .int M_h, .ref (ad 32), .ref (ad 33), .ref (ad 34)])), ((ad 20), .inl (cA 0, 3, .inl M_sides)), ((ad 22), .inl (cA 0, 36, .inl M_price)), ((ad 23), .inl (cA 0, 7, .inl M_rules)), ((ad 24), .inl (cA 0, 3, .inl M_ways)), ((ad 25), .inl (cA 0, 3, .inl M_place))]) (fun _ => rfl) 4 0 rfl rfl rfl (rest := [.int (M_rules (3 : Int32).toNatClampNeg), .int ((M_price p1.toNatClampNeg) + p4)]) rfl (Nat.le_of_ble_eq_true rfl) dX4_adds_22 (fun r_5 u_5 hp_5 => ?_)
    subst hp_5
    change gW X 0 0 [((ad 19), .inr (4, [.int M_thrown, .long M_trace, .ref (ad 20), .ref (ad 21), .ref (ad 22), .ref (ad 23), .ref (ad 24), .ref (ad 25), .ref (ad 26), .ref (ad 27), .ref (ad 28), .ref (ad 29), .ref (ad 30), .ref (ad 31), .long M_found, .long M_foundSet, .long M_foundTimes, .int M_w, .int M_h, .ref (ad 32), .ref (ad 33), .ref (ad 34)])), ((ad 20), .inl (cA 0, 3, .inl M_sides)), ((ad 22), .inl (cA 0, 36, .inl M_price)), ((ad 23), .inl (cA 0, 7, .inl M_rules)), ((ad 24), .inl (cA 0, 3, .inl M_ways)), ((ad 25), .inl (cA 0, 3, .inl M_place))] 8 [(0, .ref (ad 19)), (1, .int p1), (2, .int p2), (3, .int p3), (4, .int p4)] [.int (iI (outsZ (M_sides 0).toNatClampNeg (M_sides 1).toNatClampNeg (M_sides 2).toNatClampNeg p1.toNatClampNeg)), .int (M_rules (3 : Int32).toNatClampNeg), .int ((M_price p1.toNatClampNeg) + p4)] 25
    refine g_imul C dX4_adds_25 ?_
    refine g_iadd C dX4_adds_26 ?_
    refine g_goto (tgt := 31) C dX4_adds_27 (by decide) ?_
    exact g_leaf (by simp only [if_pos c_1] at key; first | exact key | (simp only [if_pos c_1]; exact key) | exact absurd rfl c_1)
set_option maxHeartbeats 4000000 in
set_option maxRecDepth 100000 in
theorem sgX4_adds_39 {X : gX} {ad : Nat → Nat} {cA : Nat → ClassId} {post : Int32 → (Unit) → Prop} {x2 : Int32} {x3 : Int32} {x5 : Int32} {x6 : Int32} {x7 : Int32} {M_thrown : Int32} {M_trace : Int64} {M_found : Int64} {M_foundSet : Int64} {M_foundTimes : Int64} {M_w : Int32} {M_h : Int32} {M_sides : Nat → Int32} {M_price : Nat → Int32} {M_rules : Nat → Int32} {M_ways : Nat → Int32} {M_place : Nat → Int32} (C : gC X (gT cA) cX4_adds 8 RX4 wsX4_adds rmX4_adds) (E : gEi X (some .int) (gT cA) 0 0 post (w1X4_adds ad cA M_thrown M_trace M_found M_foundSet M_foundTimes M_w M_h M_sides M_price M_rules M_ways M_place)) (h : ((3 : Int32) ≤ x7 → post x5 ()) ∧ (¬ (3 : Int32) ≤ x7 → vp_in x7 3 ∧ (((M_place x7.toNatClampNeg) ≤ 0 → True) ∧ (¬ (M_place x7.toNatClampNeg) ≤ 0 → (((x2 >>> ((x6 - (1 : Int32)) &&& 31)) &&& (1 : Int32)) = x3 → True) ∧ (¬ ((x2 >>> ((x6 - (1 : Int32)) &&& 31)) &&& (1 : Int32)) = x3 → vp_in (6 : Int32) 7 ∧ vp_in x7 3 ∧ vp_in x7 3 ∧ prX4_faceCost (M_rules (6 : Int32).toNatClampNeg) (M_ways x7.toNatClampNeg) ((M_place x7.toNatClampNeg) - (1 : Int32)) M_thrown M_trace M_found M_foundSet M_foundTimes M_w M_h M_rules))) ∧ vp_in x7 3 ∧ vp_in (M_ways x7.toNatClampNeg) 3 ∧ ∀ x6_18 : Int32, x6_18 = (x6 * (M_sides (M_ways x7.toNatClampNeg).toNatClampNeg)) → atX4_adds_39 X ad cA x2 x3 (if (M_place x7.toNatClampNeg) ≤ 0 then x5 else (if ((x2 >>> ((x6 - (1 : Int32)) &&& 31)) &&& (1 : Int32)) = x3 then x5 else (x5 + (fnX4_faceCost (M_rules (6 : Int32).toNatClampNeg) (M_ways x7.toNatClampNeg) ((M_place x7.toNatClampNeg) - (1 : Int32)) M_thrown M_trace M_found M_foundSet M_foundTimes M_w M_h M_rules)))) x6_18 (x7 + 1) M_thrown M_trace M_found M_foundSet M_foundTimes M_w M_h M_sides M_price M_rules M_ways M_place)) : atX4_adds_39 X ad cA x2 x3 x5 x6 x7 M_thrown M_trace M_found M_foundSet M_foundTimes M_w M_h M_sides M_price M_rules M_ways M_place := by
  refine g_iload C dX4_adds_39 5 rfl ?_
  refine g_iconst C dX4_adds_41 ik_3 ?_
  refine g_icmp_ge (tgt := 122) C dX4_adds_42 (by decide) (fun c_7 => ?_) (fun c_7 => ?_)
  · replace h := h.1 c_7
    refine g_iload C dX4_adds_122 3 rfl ?_
    exact g_iret C E () h rfl dX4_adds_124
  · replace h := h.2 c_7
    refine g_aload_n C dX4_adds_45 rfl 0 rfl ?_
    refine g_get C gfX4_adds_25 0 rfl rfl dX4_adds_46 ?_
    refine g_iload C dX4_adds_49 5 rfl ?_
    obtain ⟨hi_8, h⟩ := h
    refine g_iald C 5 0 rfl rfl hi_8 dX4_adds_51 ?_
    obtain ⟨hr_99, h⟩ := h
    have key : gW X 0 0 [((ad 19), .inr (4, [.int M_thrown, .long M_trace, .ref (ad 20), .ref (ad 21), .ref (ad 22), .ref (ad 23), .ref (ad 24), .ref (ad 25), .ref (ad 26), .ref (ad 27), .ref (ad 28), .ref (ad 29), .ref (ad 30), .ref (ad 31), .long M_found, .long M_foundSet, .long M_foundTimes, .int M_w, .int M_h, .ref (ad 32), .ref (ad 33), .ref (ad 34)])), ((ad 20), .inl (cA 0, 3, .inl M_sides)), ((ad 22), .inl (cA 0, 36, .inl M_price)), ((ad 23), .inl (cA 0, 7, .inl M_rules)), ((ad 24), .inl (cA 0, 3, .inl M_ways)), ((ad 25), .inl (cA 0, 3, .inl M_place))] 8 [(0, .ref (ad 19)), (2, .int x2), (3, .int x3), (5, .int (if (M_place x7.toNatClampNeg) ≤ 0 then x5 else (if ((x2 >>> ((x6 - (1 : Int32)) &&& 31)) &&& (1 : Int32)) = x3 then x5 else (x5 + (fnX4_faceCost (M_rules (6 : Int32).toNatClampNeg) (M_ways x7.toNatClampNeg) ((M_place x7.toNatClampNeg) - (1 : Int32)) M_thrown M_trace M_found M_foundSet M_foundTimes M_w M_h M_rules))))), (6, .int x6), (7, .int x7)] [] 99 := by
      refine g_iload C dX4_adds_99 4 rfl ?_
      refine g_aload_n C dX4_adds_101 rfl 0 rfl ?_
      refine g_get C gfX4_adds_7 0 rfl rfl dX4_adds_102 ?_
      refine g_aload_n C dX4_adds_105 rfl 0 rfl ?_
      refine g_get C gfX4_adds_22 0 rfl rfl dX4_adds_106 ?_
      refine g_iload C dX4_adds_109 5 rfl ?_
      obtain ⟨hi_16, h⟩ := h
      refine g_iald C 4 0 rfl rfl hi_16 dX4_adds_111 ?_
      obtain ⟨hi_17, h⟩ := h
      refine g_iald C 1 0 rfl rfl hi_17 dX4_adds_112 ?_
      refine g_imul C dX4_adds_113 ?_
      refine g_topi (fun x6_18 ex6_18 => ?_)
      replace h := h x6_18 ex6_18
      refine g_istore (lv2 := [(0, .ref (ad 19)), (2, .int x2), (3, .int x3), (5, .int (if (M_place x7.toNatClampNeg) ≤ 0 then x5 else (if ((x2 >>> ((x6 - (1 : Int32)) &&& 31)) &&& (1 : Int32)) = x3 then x5 else (x5 + (fnX4_faceCost (M_rules (6 : Int32).toNatClampNeg) (M_ways x7.toNatClampNeg) ((M_place x7.toNatClampNeg) - (1 : Int32)) M_thrown M_trace M_found M_foundSet M_foundTimes M_w M_h M_rules))))), (6, .int x6_18), (7, .int x7)]) C dX4_adds_114 (by decide) [1, 2, 3, 4, 0, 5] rfl ?_
      refine g_iinc (v := (x7 + 1)) (lv2 := [(0, .ref (ad 19)), (2, .int x2), (3, .int x3), (5, .int (if (M_place x7.toNatClampNeg) ≤ 0 then x5 else (if ((x2 >>> ((x6 - (1 : Int32)) &&& 31)) &&& (1 : Int32)) = x3 then x5 else (x5 + (fnX4_faceCost (M_rules (6 : Int32).toNatClampNeg) (M_ways x7.toNatClampNeg) ((M_place x7.toNatClampNeg) - (1 : Int32)) M_thrown M_trace M_found M_foundSet M_foundTimes M_w M_h M_rules))))), (6, .int x6_18), (7, .int (x7 + 1))]) C dX4_adds_116 5 rfl (by first | rfl | decide) (by decide) [1, 2, 3, 4, 5, 0] rfl ?_
      refine g_goto (tgt := 39) C dX4_adds_119 (by decide) ?_
      exact g_lv [0, 1, 2, 3, 4, 5] rfl h
    replace h := hr_99
    refine g_if_le (tgt := 99) C dX4_adds_52 (by decide) (fun c_9 => ?_) (fun c_9 => ?_)
    · replace h := h.1 c_9
      exact g_leaf (by simp only [if_pos c_9] at key; first | exact key | (simp only [if_pos c_9]; exact key) | exact absurd rfl c_9)
    · replace h := h.2 c_9
      refine g_iload_n C dX4_adds_55 rfl 1 rfl ?_
      refine g_iload C dX4_adds_56 4 rfl ?_
      refine g_iconst C dX4_adds_58 ik_1 ?_
      refine g_isub C dX4_adds_59 ?_
      refine g_ishr C dX4_adds_60 ?_
      refine g_iconst C dX4_adds_61 ik_1 ?_
      refine g_iand C dX4_adds_62 ?_
      refine g_iload_n C dX4_adds_63 rfl 2 rfl ?_
      have hr_99 := h
      have key : gW X 0 0 [((ad 19), .inr (4, [.int M_thrown, .long M_trace, .ref (ad 20), .ref (ad 21), .ref (ad 22), .ref (ad 23), .ref (ad 24), .ref (ad 25), .ref (ad 26), .ref (ad 27), .ref (ad 28), .ref (ad 29), .ref (ad 30), .ref (ad 31), .long M_found, .long M_foundSet, .long M_foundTimes, .int M_w, .int M_h, .ref (ad 32), .ref (ad 33), .ref (ad 34)])), ((ad 20), .inl (cA 0, 3, .inl M_sides)), ((ad 22), .inl (cA 0, 36, .inl M_price)), ((ad 23), .inl (cA 0, 7, .inl M_rules)), ((ad 24), .inl (cA 0, 3, .inl M_ways)), ((ad 25), .inl (cA 0, 3, .inl M_place))] 8 [(0, .ref (ad 19)), (2, .int x2), (3, .int x3), (5, .int (if ((x2 >>> ((x6 - (1 : Int32)) &&& 31)) &&& (1 : Int32)) = x3 then x5 else (x5 + (fnX4_faceCost (M_rules (6 : Int32).toNatClampNeg) (M_ways x7.toNatClampNeg) ((M_place x7.toNatClampNeg) - (1 : Int32)) M_thrown M_trace M_found M_foundSet M_foundTimes M_w M_h M_rules)))), (6, .int x6), (7, .int x7)] [] 99 := by
        exact g_leaf (by simp only [if_neg c_9] at key; first | exact key | (simp only [if_neg c_9]; exact key) | exact absurd rfl c_9)
      replace h := hr_99
      refine g_icmp_eq (tgt := 99) C dX4_adds_64 (by decide) (fun c_10 => ?_) (fun c_10 => ?_)
      · replace h := h.1 c_10
        exact g_leaf (by simp only [if_pos c_10] at key; first | exact key | (simp only [if_pos c_10]; exact key) | exact absurd rfl c_10)
      · replace h := h.2 c_10
        refine g_iload C dX4_adds_67 3 rfl ?_
        refine g_aload_n C dX4_adds_69 rfl 0 rfl ?_
        refine g_aload_n C dX4_adds_70 rfl 0 rfl ?_
        refine g_get C gfX4_adds_19 0 rfl rfl dX4_adds_71 ?_
        refine g_bipush C dX4_adds_74 bk_6 ?_
        obtain ⟨hi_11, h⟩ := h
        refine g_iald C 3 0 rfl rfl hi_11 dX4_adds_76 ?_
        refine g_aload_n C dX4_adds_77 rfl 0 rfl ?_
        refine g_get C gfX4_adds_22 0 rfl rfl dX4_adds_78 ?_
        refine g_iload C dX4_adds_81 5 rfl ?_
        obtain ⟨hi_12, h⟩ := h
        refine g_iald C 4 0 rfl rfl hi_12 dX4_adds_83 ?_
        refine g_aload_n C dX4_adds_84 rfl 0 rfl ?_
        refine g_get C gfX4_adds_25 0 rfl rfl dX4_adds_85 ?_
        refine g_iload C dX4_adds_88 5 rfl ?_
        obtain ⟨hi_13, h⟩ := h
        refine g_iald C 5 0 rfl rfl hi_13 dX4_adds_90 ?_
        refine g_iconst C dX4_adds_91 ik_1 ?_
        refine g_isub C dX4_adds_92 ?_
        have hi_14 := h
        refine g_callVi (wr := [((ad 20), .inl (cA 0, 3, .inl M_sides)), ((ad 22), .inl (cA 0, 36, .inl M_price)), ((ad 24), .inl (cA 0, 3, .inl M_ways)), ((ad 25), .inl (cA 0, 3, .inl M_place))]) C (c_X4_faceCost ad cA (M_rules (6 : Int32).toNatClampNeg) (M_ways x7.toNatClampNeg) ((M_place x7.toNatClampNeg) - (1 : Int32)) M_thrown M_trace M_found M_foundSet M_foundTimes M_w M_h M_rules hi_14) gX4_adds_X4_faceCost rfl hde_X4_faceCost ⟨rfl, rfl⟩ (by decide) (by decide) [0, 3] [1, 2, 4, 5] [4, 0, 1, 5, 2, 3] rfl rfl rfl rfl (by decide) rfl (ws2 := fun u => [((ad 19), .inr (4, [.int M_thrown, .long M_trace, .ref (ad 20), .ref (ad 21), .ref (ad 22), .ref (ad 23), .ref (ad 24), .ref (ad 25), .ref (ad 26), .ref (ad 27), .ref (ad 28), .ref (ad 29), .ref (ad 30), .ref (ad 31), .long M_found, .long M_foundSet, .long M_foundTimes, .int M_w, .int M_h, .ref (ad 32), .ref (ad 33), .ref (ad 34)])), ((ad 20), .inl (cA 0, 3, .inl M_sides)), ((ad 22), .inl (cA 0, 36, .inl M_price)), ((ad 23), .inl (cA 0, 7, .inl M_rules)), ((ad 24), .inl (cA 0, 3, .inl M_ways)), ((ad 25), .inl (cA 0, 3, .inl M_place))]) (fun _ => rfl) 4 0 rfl rfl rfl (rest := [.int x5]) rfl (Nat.le_of_ble_eq_true rfl) dX4_adds_93 (fun r_15 u_15 hp_15 => ?_)
        subst hp_15
        change gW X 0 0 [((ad 19), .inr (4, [.int M_thrown, .long M_trace, .ref (ad 20), .ref (ad 21), .ref (ad 22), .ref (ad 23), .ref (ad 24), .ref (ad 25), .ref (ad 26), .ref (ad 27), .ref (ad 28), .ref (ad 29), .ref (ad 30), .ref (ad 31), .long M_found, .long M_foundSet, .long M_foundTimes, .int M_w, .int M_h, .ref (ad 32), .ref (ad 33), .ref (ad 34)])), ((ad 20), .inl (cA 0, 3, .inl M_sides)), ((ad 22), .inl (cA 0, 36, .inl M_price)), ((ad 23), .inl (cA 0, 7, .inl M_rules)), ((ad 24), .inl (cA 0, 3, .inl M_ways)), ((ad 25), .inl (cA 0, 3, .inl M_place))] 8 [(0, .ref (ad 19)), (2, .int x2), (3, .int x3), (5, .int x5), (6, .int x6), (7, .int x7)] [.int (fnX4_faceCost (M_rules (6 : Int32).toNatClampNeg) (M_ways x7.toNatClampNeg) ((M_place x7.toNatClampNeg) - (1 : Int32)) M_thrown M_trace M_found M_foundSet M_foundTimes M_w M_h M_rules), .int x5] 96
        refine g_iadd C dX4_adds_96 ?_
        refine g_istore (lv2 := [(0, .ref (ad 19)), (2, .int x2), (3, .int x3), (5, .int (x5 + (fnX4_faceCost (M_rules (6 : Int32).toNatClampNeg) (M_ways x7.toNatClampNeg) ((M_place x7.toNatClampNeg) - (1 : Int32)) M_thrown M_trace M_found M_foundSet M_foundTimes M_w M_h M_rules))), (6, .int x6), (7, .int x7)]) C dX4_adds_97 (by decide) [1, 2, 3, 0, 4, 5] rfl ?_
        exact g_leaf (by simp only [if_neg c_10] at key; first | exact key | (simp only [if_neg c_10]; exact key) | exact absurd rfl c_10)
def prX4_adds (dx : Nat) (dy : Nat) (dz : Nat) (w0 : Nat) (w1 : Nat) (w2 : Nat) (k : Nat) (ro : Nat) (b : Bool) (p1 : Int32) (p2 : Int32) (p3 : Int32) (p4 : Int32) (M_thrown : Int32) (M_trace : Int64) (M_found : Int64) (M_foundSet : Int64) (M_foundTimes : Int64) (M_w : Int32) (M_h : Int32) (M_sides : Nat → Int32) (M_price : Nat → Int32) (M_rules : Nat → Int32) (M_ways : Nat → Int32) (M_place : Nat → Int32) : Prop := dimOK dx dy dz ∧ sdOK M_sides dx dy dz ∧ ruOK M_rules ∧ prm w0 w1 w2 ∧ bxD dx dy dz w0 * bxD dx dy dz w1 ≤ 9 ∧ M_ways 0 = nI w0 ∧ M_ways 1 = nI w1 ∧ M_ways 2 = nI w2 ∧ k < dx * dy * dz ∧ p1 = nI (kcell dx dy dz w0 w1 w2 k) ∧ (∀ q, q < 3 → M_place q = nI (pkQ (bxD dx dy dz w0) (bxD dx dy dz w1) q k)) ∧ ro < 512 ∧ p2 = nI ro ∧ p3 = bI b
def po_X4_adds (ad : Nat → Nat) (cA : Nat → ClassId) (dx : Nat) (dy : Nat) (dz : Nat) (w0 : Nat) (w1 : Nat) (w2 : Nat) (k : Nat) (ro : Nat) (b : Bool) (p1 : Int32) (p2 : Int32) (p3 : Int32) (p4 : Int32) (M_thrown : Int32) (M_trace : Int64) (M_found : Int64) (M_foundSet : Int64) (M_foundTimes : Int64) (M_w : Int32) (M_h : Int32) (M_sides : Nat → Int32) (M_price : Nat → Int32) (M_rules : Nat → Int32) (M_ways : Nat → Int32) (M_place : Nat → Int32) (r : Int32) (u : Unit) : Prop := r = iI (adZ dx dy dz w0 w1 w2 M_rules M_price p4.toInt k ro b)
set_option maxHeartbeats 4000000 in
set_option maxRecDepth 100000 in
theorem c_X4_adds (ad : Nat → Nat) (cA : Nat → ClassId) (dx : Nat) (dy : Nat) (dz : Nat) (w0 : Nat) (w1 : Nat) (w2 : Nat) (k : Nat) (ro : Nat) (b : Bool) (p1 : Int32) (p2 : Int32) (p3 : Int32) (p4 : Int32) (M_thrown : Int32) (M_trace : Int64) (M_found : Int64) (M_foundSet : Int64) (M_foundTimes : Int64) (M_w : Int32) (M_h : Int32) (M_sides : Nat → Int32) (M_price : Nat → Int32) (M_rules : Nat → Int32) (M_ways : Nat → Int32) (M_place : Nat → Int32) (hq : prX4_adds dx dy dz w0 w1 w2 k ro b p1 p2 p3 p4 M_thrown M_trace M_found M_foundSet M_foundTimes M_w M_h M_sides M_price M_rules M_ways M_place) : ∀ (l : Launch) (D : va_G), gMi (S := Unit) l yX4_adds wsX4_adds rmX4_adds D (gT cA) 0 0 [.ref (ad 19), .int p1, .int p2, .int p3, .int p4] (wcX4_adds ad cA M_thrown M_trace M_found M_foundSet M_foundTimes M_w M_h M_sides M_price M_rules M_ways M_place) (po_X4_adds ad cA dx dy dz w0 w1 w2 k ro b p1 p2 p3 p4 M_thrown M_trace M_found M_foundSet M_foundTimes M_w M_h M_sides M_price M_rules M_ways M_place) (w1X4_adds ad cA M_thrown M_trace M_found M_foundSet M_foundTimes M_w M_h M_sides M_price M_rules M_ways M_place) := by
  intro l D
  unfold prX4_adds at hq
  refine g_enteri (cc := cX4_adds) (nL := 8) (ret := (some .int)) (by decide) rfl (Nat.le_of_ble_eq_true rfl) rfl (fun X C E => ?_)
  obtain ⟨hd, hs, hr, hw, h9, u0, u1, u2, hk, rfl, hpl, hro, rfl, rfl⟩ := hq
  have hV := hd.2.2.2.2.2.2
  obtain ⟨hc, _, _, _, _, hq6⟩ := (geo_f3 hd hw).2 k hk
  obtain ⟨kd, hkd, hru6⟩ := hr.2.2.2
  have ekd : kdN M_rules = kd := by unfold kdN; rw [hru6]; exact nI_clamp (by omega)
  have fin : ∀ v, v = iI ((if b = true then ocM dx dy dz w0 w1 w2 M_rules M_price p4.toInt k else 0) + sumZ (fun q => if ro.testBit (bqM dx dy dz w0 w1 q - 1) = b then 0 else fqM dx dy dz w0 w1 w2 M_rules q k) 3) → po_X4_adds ad cA dx dy dz w0 w1 w2 k ro b (nI (kcell dx dy dz w0 w1 w2 k)) (nI ro) (bI b) p4 M_thrown M_trace M_found M_foundSet M_foundTimes M_w M_h M_sides M_price M_rules M_ways M_place v () := fun v e => e
  generalize ht : (fun q => if ro.testBit (bqM dx dy dz w0 w1 q - 1) = b then (0 : Int) else fqM dx dy dz w0 w1 w2 M_rules q k) = t at fin
  have step : ∀ (z : Int) (q : Nat), q < 3 → (∀ x6, x6 = nI (bqM dx dy dz w0 w1 q) * nI (bxD dx dy dz (w3 w0 w1 w2 q)) → atX4_adds_39 X ad cA (nI ro) (bI b) (iI (z + t q)) x6 (nI (q + 1)) M_thrown M_trace M_found M_foundSet M_foundTimes M_w M_h M_sides M_price M_rules M_ways M_place) → atX4_adds_39 X ad cA (nI ro) (bI b) (iI z) (nI (bqM dx dy dz w0 w1 q)) (nI q) M_thrown M_trace M_found M_foundSet M_foundTimes M_w M_h M_sides M_price M_rules M_ways M_place := by
    intro z q hq3 ih
    obtain ⟨g1, g2, g3, g4, g5, g6⟩ := hw
    have ew : M_ways q = nI (w3 w0 w1 w2 q) := by
      rcases (show q = 0 ∨ q = 1 ∨ q = 2 by omega) with rfl | rfl | rfl
      · exact u0
      · exact u1
      · exact u2
    have hwq : w3 w0 w1 w2 q < 3 := by unfold w3; (repeat' split) <;> omega
    have hbq := bqM_bd (w0 := w0) (w1 := w1) hd q
    have hp := hpl q hq3
    have hp4 : pkQ (bxD dx dy dz w0) (bxD dx dy dz w1) q k < 4 := by
      rw [← (hq6 q hq3).1]; exact (geo_f hd hc hwq).1
    generalize hpk : pkQ (bxD dx dy dz w0) (bxD dx dy dz w1) q k = pq at *
    obtain ⟨f1, f2⟩ := face_eq (M_thrown := M_thrown) (M_trace := M_trace) (M_found := M_found) (M_foundSet := M_foundSet) (M_foundTimes := M_foundTimes) (M_w := M_w) (M_h := M_h) hr hkd hwq (p := pq - 1) (by omega)
    have eb : (nI ro >>> ((nI (bqM dx dy dz w0 w1 q) - 1) &&& 31)) &&& 1 = bI (ro.testBit (bqM dx dy dz w0 w1 q - 1)) := by
      rw [show nI (bqM dx dy dz w0 w1 q) - 1 = nI (bqM dx dy dz w0 w1 q - 1) from pk_sub (b := 1) (by omega)]
      exact bit9 ro hro _ (by omega)
    have v3 : vp_in (nI q) 3 := vp_in_nI hq3 (by decide)
    refine sgX4_adds_39 C E ⟨fun c => absurd c (nI_ge (b := 3) hq3 (by decide)), fun _ => ?_⟩
    rw [nI_clamp (n := q) (by omega), hp, ew, nI_clamp (n := w3 w0 w1 w2 q) (by omega), sd_at hs hwq, eb, show M_rules (6 : Int32).toNatClampNeg = nI kd from hru6]
    have le : nI pq ≤ 0 ↔ ¬ 0 < pq := by rw [show (0 : Int32) = nI 0 from rfl, nI_leI (by omega) (by decide)]; omega
    refine ⟨v3, ⟨fun _ => trivial, fun c => ⟨fun _ => trivial, fun _ => ⟨vi_6_7, v3, v3, ?_⟩⟩⟩, v3, vp_in_nI hwq (by decide), fun x6 e6 => ?_⟩
    · rw [le] at c
      rw [show nI pq - 1 = nI (pq - 1) from pk_sub (b := 1) (by omega)]; exact f2
    · have e : (if nI pq ≤ 0 then iI z else (if bI (ro.testBit (bqM dx dy dz w0 w1 q - 1)) = bI b then iI z else (iI z + (fnX4_faceCost (nI kd) (nI (w3 w0 w1 w2 q)) (nI pq - 1) M_thrown M_trace M_found M_foundSet M_foundTimes M_w M_h M_rules)))) = iI (z + t q) := by
        rw [← ht]
        show _ = iI (z + (if ro.testBit (bqM dx dy dz w0 w1 q - 1) = b then 0 else fqM dx dy dz w0 w1 w2 M_rules q k))
        unfold fqM
        rw [hpk]
        by_cases p : 0 < pq
        · rw [if_neg (fun c => le.mp c p), if_pos p, ekd, show nI pq - 1 = nI (pq - 1) from pk_sub (b := 1) (by omega), f1]
          by_cases s : ro.testBit (bqM dx dy dz w0 w1 q - 1) = b
          · rw [if_pos (bI_inj.mpr s), if_pos s, Int.add_zero]
          · rw [if_neg (fun c => s (bI_inj.mp c)), if_neg s, iI_add]
        · rw [if_pos (le.mpr p), if_neg p]
          split <;> rw [Int.add_zero]
      rw [e, nI_1 q]; exact ih x6 e6
  have loop : atX4_adds_39 X ad cA (nI ro) (bI b) (iI (if b = true then ocM dx dy dz w0 w1 w2 M_rules M_price p4.toInt k else 0)) (nI 1) (nI 0) M_thrown M_trace M_found M_foundSet M_foundTimes M_w M_h M_sides M_price M_rules M_ways M_place := by
    generalize (if b = true then ocM dx dy dz w0 w1 w2 M_rules M_price p4.toInt k else 0) = z at fin
    refine step z 0 (by decide) (fun x6 e6 => ?_)
    have e7 : x6 = nI (bqM dx dy dz w0 w1 1) := by rw [e6, pk_mul]; show nI (1 * bxD dx dy dz w0) = nI (bxD dx dy dz w0); rw [Nat.one_mul]
    subst e7
    refine step (z + t 0) 1 (by decide) (fun x6 e6 => ?_)
    have e7 : x6 = nI (bqM dx dy dz w0 w1 2) := by rw [e6, pk_mul]; rfl
    subst e7
    refine step (z + t 0 + t 1) 2 (by decide) (fun x6 e6 => ?_)
    refine sgX4_adds_39 C E ⟨fun _ => fin _ ?_, fun c => absurd (i32_le_refl _) c⟩
    simp only [sumZ]
    congr 1; omega
  refine sgX4_adds_0 C E ⟨⟨fun _ => trivial, fun _ => ⟨vp_in_nI (by omega) (by decide), vi_3_7, dx, dy, dz, _, hd, hs, hc, rfl⟩⟩, fun x5 e5 => ?_⟩
  have e6 : x5 = iI (if b = true then ocM dx dy dz w0 w1 w2 M_rules M_price p4.toInt k else 0) := by
    rw [e5]
    cases b
    · rw [if_neg (by decide), if_neg (by decide)]; rfl
    · have s0 : (M_sides 0).toNatClampNeg = dx := by rw [hs.1]; exact nI_clamp (by have := hd.2.1; omega)
      have s1 : (M_sides 1).toNatClampNeg = dy := by rw [hs.2.1]; exact nI_clamp (by have := hd.2.2.2.1; omega)
      have s2 : (M_sides 2).toNatClampNeg = dz := by rw [hs.2.2]; exact nI_clamp (by have := hd.2.2.2.2.2.1; omega)
      rw [if_pos (by decide), if_pos (by decide), s0, s1, s2, nI_clamp (by omega)]
      unfold ocM
      rw [← iI_add, ← iI_add, ← iI_mul, iI_toInt, iI_toInt, iI_toInt]; rfl
  rw [e6]; exact loop


abbrev w1X4_finds (ad : Nat → Nat) (cA : Nat → ClassId) (M_thrown : Int32) (M_trace : Int64) (M_w : Int32) (M_h : Int32) (M_sides : Nat → Int32) (M_held : Nat → Int32) (M_price : Nat → Int32) (M_rules : Nat → Int32) (u : (Int64) × (Int64) × (Int64) × (Nat → Int32) × (Nat → Int32) × (Nat → Int64) × (Nat → Int64) × (Nat → Int64) × (Nat → Int64) × (Nat → Int64) × (Nat → Int64)) : va_W := [((ad 19), .inr (4, [.int M_thrown, .long M_trace, .ref (ad 20), .ref (ad 21), .ref (ad 22), .ref (ad 23), .ref (ad 24), .ref (ad 25), .ref (ad 26), .ref (ad 27), .ref (ad 28), .ref (ad 29), .ref (ad 30), .ref (ad 31), .long u.1, .long u.2.1, .long u.2.2.1, .int M_w, .int M_h, .ref (ad 32), .ref (ad 33), .ref (ad 34)])), ((ad 20), .inl (cA 0, 3, .inl M_sides)), ((ad 21), .inl (cA 0, 36, .inl M_held)), ((ad 22), .inl (cA 0, 36, .inl M_price)), ((ad 23), .inl (cA 0, 7, .inl M_rules)), ((ad 24), .inl (cA 0, 3, .inl u.2.2.2.1)), ((ad 25), .inl (cA 0, 3, .inl u.2.2.2.2.1)), ((ad 26), .inl (cA 1, 512, .inr (.inl u.2.2.2.2.2.1))), ((ad 27), .inl (cA 1, 512, .inr (.inl u.2.2.2.2.2.2.1))), ((ad 28), .inl (cA 1, 512, .inr (.inl u.2.2.2.2.2.2.2.1))), ((ad 29), .inl (cA 1, 512, .inr (.inl u.2.2.2.2.2.2.2.2.1))), ((ad 30), .inl (cA 1, 512, .inr (.inl u.2.2.2.2.2.2.2.2.2.1))), ((ad 31), .inl (cA 1, 512, .inr (.inl u.2.2.2.2.2.2.2.2.2.2)))]
abbrev wcX4_finds (ad : Nat → Nat) (cA : Nat → ClassId) (M_thrown : Int32) (M_trace : Int64) (M_found : Int64) (M_foundSet : Int64) (M_foundTimes : Int64) (M_w : Int32) (M_h : Int32) (M_sides : Nat → Int32) (M_held : Nat → Int32) (M_price : Nat → Int32) (M_rules : Nat → Int32) (M_ways : Nat → Int32) (M_place : Nat → Int32) (M_value : Nat → Int64) (M_sets : Nat → Int64) (M_times : Nat → Int64) (M_nextValue : Nat → Int64) (M_nextSets : Nat → Int64) (M_nextTimes : Nat → Int64) : va_W := [((ad 19), .inr (4, [.int M_thrown, .long M_trace, .ref (ad 20), .ref (ad 21), .ref (ad 22), .ref (ad 23), .ref (ad 24), .ref (ad 25), .ref (ad 26), .ref (ad 27), .ref (ad 28), .ref (ad 29), .ref (ad 30), .ref (ad 31), .long M_found, .long M_foundSet, .long M_foundTimes, .int M_w, .int M_h, .ref (ad 32), .ref (ad 33), .ref (ad 34)])), ((ad 20), .inl (cA 0, 3, .inl M_sides)), ((ad 21), .inl (cA 0, 36, .inl M_held)), ((ad 22), .inl (cA 0, 36, .inl M_price)), ((ad 23), .inl (cA 0, 7, .inl M_rules)), ((ad 24), .inl (cA 0, 3, .inl M_ways)), ((ad 25), .inl (cA 0, 3, .inl M_place)), ((ad 26), .inl (cA 1, 512, .inr (.inl M_value))), ((ad 27), .inl (cA 1, 512, .inr (.inl M_sets))), ((ad 28), .inl (cA 1, 512, .inr (.inl M_times))), ((ad 29), .inl (cA 1, 512, .inr (.inl M_nextValue))), ((ad 30), .inl (cA 1, 512, .inr (.inl M_nextSets))), ((ad 31), .inl (cA 1, 512, .inr (.inl M_nextTimes)))]
def rmX4_finds : Room := { frames := 3, cells := 0, slots := 0, locals := 72 }
abbrev atX4_finds_0 (X : gX) (ad : Nat → Nat) (cA : Nat → ClassId) (p1 : Int32) (p2 : Int32) (M_thrown : Int32) (M_trace : Int64) (M_found : Int64) (M_foundSet : Int64) (M_foundTimes : Int64) (M_w : Int32) (M_h : Int32) (M_sides : Nat → Int32) (M_held : Nat → Int32) (M_price : Nat → Int32) (M_rules : Nat → Int32) (M_ways : Nat → Int32) (M_place : Nat → Int32) (M_value : Nat → Int64) (M_sets : Nat → Int64) (M_times : Nat → Int64) (M_nextValue : Nat → Int64) (M_nextSets : Nat → Int64) (M_nextTimes : Nat → Int64) : Prop := gW X 0 0 [((ad 19), .inr (4, [.int M_thrown, .long M_trace, .ref (ad 20), .ref (ad 21), .ref (ad 22), .ref (ad 23), .ref (ad 24), .ref (ad 25), .ref (ad 26), .ref (ad 27), .ref (ad 28), .ref (ad 29), .ref (ad 30), .ref (ad 31), .long M_found, .long M_foundSet, .long M_foundTimes, .int M_w, .int M_h, .ref (ad 32), .ref (ad 33), .ref (ad 34)])), ((ad 20), .inl (cA 0, 3, .inl M_sides)), ((ad 21), .inl (cA 0, 36, .inl M_held)), ((ad 22), .inl (cA 0, 36, .inl M_price)), ((ad 23), .inl (cA 0, 7, .inl M_rules)), ((ad 24), .inl (cA 0, 3, .inl M_ways)), ((ad 25), .inl (cA 0, 3, .inl M_place)), ((ad 26), .inl (cA 1, 512, .inr (.inl M_value))), ((ad 27), .inl (cA 1, 512, .inr (.inl M_sets))), ((ad 28), .inl (cA 1, 512, .inr (.inl M_times))), ((ad 29), .inl (cA 1, 512, .inr (.inl M_nextValue))), ((ad 30), .inl (cA 1, 512, .inr (.inl M_nextSets))), ((ad 31), .inl (cA 1, 512, .inr (.inl M_nextTimes)))] 12 [(0, .ref (ad 19)), (1, .int p1), (2, .int p2)] [] 0
abbrev atX4_finds_36 (X : gX) (ad : Nat → Nat) (cA : Nat → ClassId) (x1 : Int32) (x2 : Int32) (x4 : Int32) (x5 : Int32) (M_thrown : Int32) (M_trace : Int64) (M_found : Int64) (M_foundSet : Int64) (M_foundTimes : Int64) (M_w : Int32) (M_h : Int32) (M_sides : Nat → Int32) (M_held : Nat → Int32) (M_price : Nat → Int32) (M_rules : Nat → Int32) (M_ways : Nat → Int32) (M_place : Nat → Int32) (M_value : Nat → Int64) (M_sets : Nat → Int64) (M_times : Nat → Int64) (M_nextValue : Nat → Int64) (M_nextSets : Nat → Int64) (M_nextTimes : Nat → Int64) : Prop := gW X 0 0 [((ad 19), .inr (4, [.int M_thrown, .long M_trace, .ref (ad 20), .ref (ad 21), .ref (ad 22), .ref (ad 23), .ref (ad 24), .ref (ad 25), .ref (ad 26), .ref (ad 27), .ref (ad 28), .ref (ad 29), .ref (ad 30), .ref (ad 31), .long M_found, .long M_foundSet, .long M_foundTimes, .int M_w, .int M_h, .ref (ad 32), .ref (ad 33), .ref (ad 34)])), ((ad 20), .inl (cA 0, 3, .inl M_sides)), ((ad 21), .inl (cA 0, 36, .inl M_held)), ((ad 22), .inl (cA 0, 36, .inl M_price)), ((ad 23), .inl (cA 0, 7, .inl M_rules)), ((ad 24), .inl (cA 0, 3, .inl M_ways)), ((ad 25), .inl (cA 0, 3, .inl M_place)), ((ad 26), .inl (cA 1, 512, .inr (.inl M_value))), ((ad 27), .inl (cA 1, 512, .inr (.inl M_sets))), ((ad 28), .inl (cA 1, 512, .inr (.inl M_times))), ((ad 29), .inl (cA 1, 512, .inr (.inl M_nextValue))), ((ad 30), .inl (cA 1, 512, .inr (.inl M_nextSets))), ((ad 31), .inl (cA 1, 512, .inr (.inl M_nextTimes)))] 12 [(0, .ref (ad 19)), (1, .int x1), (2, .int x2), (4, .int x4), (5, .int x5)] [] 36
abbrev atX4_finds_96 (X : gX) (ad : Nat → Nat) (cA : Nat → ClassId) (x1 : Int32) (x2 : Int32) (x4 : Int32) (x5 : Int32) (M_thrown : Int32) (M_trace : Int64) (M_found : Int64) (M_foundSet : Int64) (M_foundTimes : Int64) (M_w : Int32) (M_h : Int32) (M_sides : Nat → Int32) (M_held : Nat → Int32) (M_price : Nat → Int32) (M_rules : Nat → Int32) (M_ways : Nat → Int32) (M_place : Nat → Int32) (M_value : Nat → Int64) (M_sets : Nat → Int64) (M_times : Nat → Int64) (M_nextValue : Nat → Int64) (M_nextSets : Nat → Int64) (M_nextTimes : Nat → Int64) : Prop := gW X 0 0 [((ad 19), .inr (4, [.int M_thrown, .long M_trace, .ref (ad 20), .ref (ad 21), .ref (ad 22), .ref (ad 23), .ref (ad 24), .ref (ad 25), .ref (ad 26), .ref (ad 27), .ref (ad 28), .ref (ad 29), .ref (ad 30), .ref (ad 31), .long M_found, .long M_foundSet, .long M_foundTimes, .int M_w, .int M_h, .ref (ad 32), .ref (ad 33), .ref (ad 34)])), ((ad 20), .inl (cA 0, 3, .inl M_sides)), ((ad 21), .inl (cA 0, 36, .inl M_held)), ((ad 22), .inl (cA 0, 36, .inl M_price)), ((ad 23), .inl (cA 0, 7, .inl M_rules)), ((ad 24), .inl (cA 0, 3, .inl M_ways)), ((ad 25), .inl (cA 0, 3, .inl M_place)), ((ad 26), .inl (cA 1, 512, .inr (.inl M_value))), ((ad 27), .inl (cA 1, 512, .inr (.inl M_sets))), ((ad 28), .inl (cA 1, 512, .inr (.inl M_times))), ((ad 29), .inl (cA 1, 512, .inr (.inl M_nextValue))), ((ad 30), .inl (cA 1, 512, .inr (.inl M_nextSets))), ((ad 31), .inl (cA 1, 512, .inr (.inl M_nextTimes)))] 12 [(0, .ref (ad 19)), (1, .int x1), (2, .int x2), (4, .int x4), (5, .int x5)] [] 96
abbrev atX4_finds_116 (X : gX) (ad : Nat → Nat) (cA : Nat → ClassId) (x1 : Int32) (x2 : Int32) (x4 : Int32) (x5 : Int32) (x6 : Int32) (x7 : Int32) (M_thrown : Int32) (M_trace : Int64) (M_found : Int64) (M_foundSet : Int64) (M_foundTimes : Int64) (M_w : Int32) (M_h : Int32) (M_sides : Nat → Int32) (M_held : Nat → Int32) (M_price : Nat → Int32) (M_rules : Nat → Int32) (M_ways : Nat → Int32) (M_place : Nat → Int32) (M_value : Nat → Int64) (M_sets : Nat → Int64) (M_times : Nat → Int64) (M_nextValue : Nat → Int64) (M_nextSets : Nat → Int64) (M_nextTimes : Nat → Int64) : Prop := gW X 0 0 [((ad 19), .inr (4, [.int M_thrown, .long M_trace, .ref (ad 20), .ref (ad 21), .ref (ad 22), .ref (ad 23), .ref (ad 24), .ref (ad 25), .ref (ad 26), .ref (ad 27), .ref (ad 28), .ref (ad 29), .ref (ad 30), .ref (ad 31), .long M_found, .long M_foundSet, .long M_foundTimes, .int M_w, .int M_h, .ref (ad 32), .ref (ad 33), .ref (ad 34)])), ((ad 20), .inl (cA 0, 3, .inl M_sides)), ((ad 21), .inl (cA 0, 36, .inl M_held)), ((ad 22), .inl (cA 0, 36, .inl M_price)), ((ad 23), .inl (cA 0, 7, .inl M_rules)), ((ad 24), .inl (cA 0, 3, .inl M_ways)), ((ad 25), .inl (cA 0, 3, .inl M_place)), ((ad 26), .inl (cA 1, 512, .inr (.inl M_value))), ((ad 27), .inl (cA 1, 512, .inr (.inl M_sets))), ((ad 28), .inl (cA 1, 512, .inr (.inl M_times))), ((ad 29), .inl (cA 1, 512, .inr (.inl M_nextValue))), ((ad 30), .inl (cA 1, 512, .inr (.inl M_nextSets))), ((ad 31), .inl (cA 1, 512, .inr (.inl M_nextTimes)))] 12 [(0, .ref (ad 19)), (1, .int x1), (2, .int x2), (4, .int x4), (5, .int x5), (6, .int x6), (7, .int x7)] [] 116
abbrev atX4_finds_150 (X : gX) (ad : Nat → Nat) (cA : Nat → ClassId) (x1 : Int32) (x2 : Int32) (x4 : Int32) (x5 : Int32) (x6 : Int32) (x7 : Int32) (M_thrown : Int32) (M_trace : Int64) (M_found : Int64) (M_foundSet : Int64) (M_foundTimes : Int64) (M_w : Int32) (M_h : Int32) (M_sides : Nat → Int32) (M_held : Nat → Int32) (M_price : Nat → Int32) (M_rules : Nat → Int32) (M_ways : Nat → Int32) (M_place : Nat → Int32) (M_value : Nat → Int64) (M_sets : Nat → Int64) (M_times : Nat → Int64) (M_nextValue : Nat → Int64) (M_nextSets : Nat → Int64) (M_nextTimes : Nat → Int64) : Prop := gW X 0 0 [((ad 19), .inr (4, [.int M_thrown, .long M_trace, .ref (ad 20), .ref (ad 21), .ref (ad 22), .ref (ad 23), .ref (ad 24), .ref (ad 25), .ref (ad 26), .ref (ad 27), .ref (ad 28), .ref (ad 29), .ref (ad 30), .ref (ad 31), .long M_found, .long M_foundSet, .long M_foundTimes, .int M_w, .int M_h, .ref (ad 32), .ref (ad 33), .ref (ad 34)])), ((ad 20), .inl (cA 0, 3, .inl M_sides)), ((ad 21), .inl (cA 0, 36, .inl M_held)), ((ad 22), .inl (cA 0, 36, .inl M_price)), ((ad 23), .inl (cA 0, 7, .inl M_rules)), ((ad 24), .inl (cA 0, 3, .inl M_ways)), ((ad 25), .inl (cA 0, 3, .inl M_place)), ((ad 26), .inl (cA 1, 512, .inr (.inl M_value))), ((ad 27), .inl (cA 1, 512, .inr (.inl M_sets))), ((ad 28), .inl (cA 1, 512, .inr (.inl M_times))), ((ad 29), .inl (cA 1, 512, .inr (.inl M_nextValue))), ((ad 30), .inl (cA 1, 512, .inr (.inl M_nextSets))), ((ad 31), .inl (cA 1, 512, .inr (.inl M_nextTimes)))] 12 [(0, .ref (ad 19)), (1, .int x1), (2, .int x2), (4, .int x4), (5, .int x5), (6, .int x6), (7, .int x7)] [] 150
abbrev atX4_finds_160 (X : gX) (ad : Nat → Nat) (cA : Nat → ClassId) (x1 : Int32) (x2 : Int32) (x4 : Int32) (x5 : Int32) (x6 : Int32) (x7 : Int32) (x8 : Int32) (M_thrown : Int32) (M_trace : Int64) (M_found : Int64) (M_foundSet : Int64) (M_foundTimes : Int64) (M_w : Int32) (M_h : Int32) (M_sides : Nat → Int32) (M_held : Nat → Int32) (M_price : Nat → Int32) (M_rules : Nat → Int32) (M_ways : Nat → Int32) (M_place : Nat → Int32) (M_value : Nat → Int64) (M_sets : Nat → Int64) (M_times : Nat → Int64) (M_nextValue : Nat → Int64) (M_nextSets : Nat → Int64) (M_nextTimes : Nat → Int64) : Prop := gW X 0 0 [((ad 19), .inr (4, [.int M_thrown, .long M_trace, .ref (ad 20), .ref (ad 21), .ref (ad 22), .ref (ad 23), .ref (ad 24), .ref (ad 25), .ref (ad 26), .ref (ad 27), .ref (ad 28), .ref (ad 29), .ref (ad 30), .ref (ad 31), .long M_found, .long M_foundSet, .long M_foundTimes, .int M_w, .int M_h, .ref (ad 32), .ref (ad 33), .ref (ad 34)])), ((ad 20), .inl (cA 0, 3, .inl M_sides)), ((ad 21), .inl (cA 0, 36, .inl M_held)), ((ad 22), .inl (cA 0, 36, .inl M_price)), ((ad 23), .inl (cA 0, 7, .inl M_rules)), ((ad 24), .inl (cA 0, 3, .inl M_ways)), ((ad 25), .inl (cA 0, 3, .inl M_place)), ((ad 26), .inl (cA 1, 512, .inr (.inl M_value))), ((ad 27), .inl (cA 1, 512, .inr (.inl M_sets))), ((ad 28), .inl (cA 1, 512, .inr (.inl M_times))), ((ad 29), .inl (cA 1, 512, .inr (.inl M_nextValue))), ((ad 30), .inl (cA 1, 512, .inr (.inl M_nextSets))), ((ad 31), .inl (cA 1, 512, .inr (.inl M_nextTimes)))] 12 [(0, .ref (ad 19)), (1, .int x1), (2, .int x2), (4, .int x4), (5, .int x5), (6, .int x6), (7, .int x7), (8, .int x8)] [] 160
abbrev atX4_finds_347 (X : gX) (ad : Nat → Nat) (cA : Nat → ClassId) (x1 : Int32) (x2 : Int32) (x4 : Int32) (x5 : Int32) (x7 : Int32) (M_thrown : Int32) (M_trace : Int64) (M_found : Int64) (M_foundSet : Int64) (M_foundTimes : Int64) (M_w : Int32) (M_h : Int32) (M_sides : Nat → Int32) (M_held : Nat → Int32) (M_price : Nat → Int32) (M_rules : Nat → Int32) (M_ways : Nat → Int32) (M_place : Nat → Int32) (M_value : Nat → Int64) (M_sets : Nat → Int64) (M_times : Nat → Int64) (M_nextValue : Nat → Int64) (M_nextSets : Nat → Int64) (M_nextTimes : Nat → Int64) : Prop := gW X 0 0 [((ad 19), .inr (4, [.int M_thrown, .long M_trace, .ref (ad 20), .ref (ad 21), .ref (ad 22), .ref (ad 23), .ref (ad 24), .ref (ad 25), .ref (ad 26), .ref (ad 27), .ref (ad 28), .ref (ad 29), .ref (ad 30), .ref (ad 31), .long M_found, .long M_foundSet, .long M_foundTimes, .int M_w, .int M_h, .ref (ad 32), .ref (ad 33), .ref (ad 34)])), ((ad 20), .inl (cA 0, 3, .inl M_sides)), ((ad 21), .inl (cA 0, 36, .inl M_held)), ((ad 22), .inl (cA 0, 36, .inl M_price)), ((ad 23), .inl (cA 0, 7, .inl M_rules)), ((ad 24), .inl (cA 0, 3, .inl M_ways)), ((ad 25), .inl (cA 0, 3, .inl M_place)), ((ad 26), .inl (cA 1, 512, .inr (.inl M_value))), ((ad 27), .inl (cA 1, 512, .inr (.inl M_sets))), ((ad 28), .inl (cA 1, 512, .inr (.inl M_times))), ((ad 29), .inl (cA 1, 512, .inr (.inl M_nextValue))), ((ad 30), .inl (cA 1, 512, .inr (.inl M_nextSets))), ((ad 31), .inl (cA 1, 512, .inr (.inl M_nextTimes)))] 12 [(0, .ref (ad 19)), (1, .int x1), (2, .int x2), (4, .int x4), (5, .int x5), (7, .int x7)] [] 347
abbrev atX4_finds_423 (X : gX) (ad : Nat → Nat) (cA : Nat → ClassId) (x4 : Int32) (x5 : Int32) (M_thrown : Int32) (M_trace : Int64) (M_found : Int64) (M_foundSet : Int64) (M_foundTimes : Int64) (M_w : Int32) (M_h : Int32) (M_sides : Nat → Int32) (M_held : Nat → Int32) (M_price : Nat → Int32) (M_rules : Nat → Int32) (M_ways : Nat → Int32) (M_place : Nat → Int32) (M_value : Nat → Int64) (M_sets : Nat → Int64) (M_times : Nat → Int64) (M_nextValue : Nat → Int64) (M_nextSets : Nat → Int64) (M_nextTimes : Nat → Int64) : Prop := gW X 0 0 [((ad 19), .inr (4, [.int M_thrown, .long M_trace, .ref (ad 20), .ref (ad 21), .ref (ad 22), .ref (ad 23), .ref (ad 24), .ref (ad 25), .ref (ad 26), .ref (ad 27), .ref (ad 28), .ref (ad 29), .ref (ad 30), .ref (ad 31), .long M_found, .long M_foundSet, .long M_foundTimes, .int M_w, .int M_h, .ref (ad 32), .ref (ad 33), .ref (ad 34)])), ((ad 20), .inl (cA 0, 3, .inl M_sides)), ((ad 21), .inl (cA 0, 36, .inl M_held)), ((ad 22), .inl (cA 0, 36, .inl M_price)), ((ad 23), .inl (cA 0, 7, .inl M_rules)), ((ad 24), .inl (cA 0, 3, .inl M_ways)), ((ad 25), .inl (cA 0, 3, .inl M_place)), ((ad 26), .inl (cA 1, 512, .inr (.inl M_value))), ((ad 27), .inl (cA 1, 512, .inr (.inl M_sets))), ((ad 28), .inl (cA 1, 512, .inr (.inl M_times))), ((ad 29), .inl (cA 1, 512, .inr (.inl M_nextValue))), ((ad 30), .inl (cA 1, 512, .inr (.inl M_nextSets))), ((ad 31), .inl (cA 1, 512, .inr (.inl M_nextTimes)))] 12 [(0, .ref (ad 19)), (4, .int x4), (5, .int x5)] [] 423
theorem cnX4_finds_133 : Cond.constantLong RX4 133 (4000000000000000) ∈ wsX4_finds := by decide +kernel
theorem cnX4_finds_138 : Cond.constantLong RX4 138 (64) ∈ wsX4_finds := by decide +kernel
theorem giX4_finds_X4 : ∀ w ∈ u_ws RX4 TX4 22, w ∈ wsX4_finds := by decide +kernel
theorem gfX4_finds_7 : gF wsX4_finds RX4 7 4 2 RX4 TX4 22 := ⟨giX4_finds_X4, by decide +kernel, rfl, by decide⟩
theorem gfX4_finds_22 : gF wsX4_finds RX4 22 4 6 RX4 TX4 22 := ⟨giX4_finds_X4, by decide +kernel, rfl, by decide⟩
theorem gfX4_finds_28 : gF wsX4_finds RX4 28 4 8 RX4 TX4 22 := ⟨giX4_finds_X4, by decide +kernel, rfl, by decide⟩
theorem gfX4_finds_32 : gF wsX4_finds RX4 32 4 9 RX4 TX4 22 := ⟨giX4_finds_X4, by decide +kernel, rfl, by decide⟩
theorem gfX4_finds_35 : gF wsX4_finds RX4 35 4 10 RX4 TX4 22 := ⟨giX4_finds_X4, by decide +kernel, rfl, by decide⟩
theorem gfX4_finds_144 : gF wsX4_finds RX4 144 4 14 RX4 TX4 22 := ⟨giX4_finds_X4, by decide +kernel, rfl, by decide⟩
theorem gfX4_finds_147 : gF wsX4_finds RX4 147 4 16 RX4 TX4 22 := ⟨giX4_finds_X4, by decide +kernel, rfl, by decide⟩
theorem gfX4_finds_38 : gF wsX4_finds RX4 38 4 11 RX4 TX4 22 := ⟨giX4_finds_X4, by decide +kernel, rfl, by decide⟩
theorem gfX4_finds_44 : gF wsX4_finds RX4 44 4 13 RX4 TX4 22 := ⟨giX4_finds_X4, by decide +kernel, rfl, by decide⟩
theorem gfX4_finds_13 : gF wsX4_finds RX4 13 4 3 RX4 TX4 22 := ⟨giX4_finds_X4, by decide +kernel, rfl, by decide⟩
theorem gfX4_finds_41 : gF wsX4_finds RX4 41 4 12 RX4 TX4 22 := ⟨giX4_finds_X4, by decide +kernel, rfl, by decide⟩
theorem gfX4_finds_150 : gF wsX4_finds RX4 150 4 15 RX4 TX4 22 := ⟨giX4_finds_X4, by decide +kernel, rfl, by decide⟩
set_option maxHeartbeats 4000000 in
set_option maxRecDepth 100000 in
theorem sgX4_finds_0 {X : gX} {ad : Nat → Nat} {cA : Nat → ClassId} {post : ((Int64) × (Int64) × (Int64) × (Nat → Int32) × (Nat → Int32) × (Nat → Int64) × (Nat → Int64) × (Nat → Int64) × (Nat → Int64) × (Nat → Int64) × (Nat → Int64)) → Prop} {p1 : Int32} {p2 : Int32} {M_thrown : Int32} {M_trace : Int64} {M_found : Int64} {M_foundSet : Int64} {M_foundTimes : Int64} {M_w : Int32} {M_h : Int32} {M_sides : Nat → Int32} {M_held : Nat → Int32} {M_price : Nat → Int32} {M_rules : Nat → Int32} {M_ways : Nat → Int32} {M_place : Nat → Int32} {M_value : Nat → Int64} {M_sets : Nat → Int64} {M_times : Nat → Int64} {M_nextValue : Nat → Int64} {M_nextSets : Nat → Int64} {M_nextTimes : Nat → Int64} (C : gC X (gT cA) cX4_finds 12 RX4 wsX4_finds rmX4_finds) (E : gEv X none (gT cA) 0 0 post (w1X4_finds ad cA M_thrown M_trace M_w M_h M_sides M_held M_price M_rules)) (h : ∃ (dx_1 : Nat) (dy_1 : Nat) (dz_1 : Nat), prX4_orders dx_1 dy_1 dz_1 M_thrown M_trace M_found M_foundSet M_foundTimes M_w M_h M_sides M_ways ∧ ∀ (u3_M_ways : Nat → Int32), po_X4_orders ad cA dx_1 dy_1 dz_1 M_thrown M_trace M_found M_foundSet M_foundTimes M_w M_h M_sides M_ways u3_M_ways → vp_in (0 : Int32) 3 ∧ vp_in (u3_M_ways (0 : Int32).toNatClampNeg) 3 ∧ vp_in (1 : Int32) 3 ∧ vp_in (u3_M_ways (1 : Int32).toNatClampNeg) 3 ∧ ∀ x3_8 : Int32, x3_8 = ((M_sides (u3_M_ways (0 : Int32).toNatClampNeg).toNatClampNeg) * (M_sides (u3_M_ways (1 : Int32).toNatClampNeg).toNatClampNeg)) → ∀ x4_9 : Int32, x4_9 = ((1 : Int32) <<< (x3_8 &&& 31)) → atX4_finds_36 X ad cA p1 p2 x4_9 (0 : Int32) M_thrown M_trace M_found M_foundSet M_foundTimes M_w M_h M_sides M_held M_price M_rules u3_M_ways M_place M_value M_sets M_times M_nextValue M_nextSets M_nextTimes) : atX4_finds_0 X ad cA p1 p2 M_thrown M_trace M_found M_foundSet M_foundTimes M_w M_h M_sides M_held M_price M_rules M_ways M_place M_value M_sets M_times M_nextValue M_nextSets M_nextTimes := by
  refine g_aload_n C dX4_finds_0 rfl 0 rfl ?_
  obtain ⟨dx_1, dy_1, dz_1, h⟩ := h
  obtain ⟨hi_2, h⟩ := h
  refine g_callVv (wr := [((ad 21), .inl (cA 0, 36, .inl M_held)), ((ad 22), .inl (cA 0, 36, .inl M_price)), ((ad 23), .inl (cA 0, 7, .inl M_rules)), ((ad 25), .inl (cA 0, 3, .inl M_place)), ((ad 26), .inl (cA 1, 512, .inr (.inl M_value))), ((ad 27), .inl (cA 1, 512, .inr (.inl M_sets))), ((ad 28), .inl (cA 1, 512, .inr (.inl M_times))), ((ad 29), .inl (cA 1, 512, .inr (.inl M_nextValue))), ((ad 30), .inl (cA 1, 512, .inr (.inl M_nextSets))), ((ad 31), .inl (cA 1, 512, .inr (.inl M_nextTimes)))]) C (c_X4_orders ad cA dx_1 dy_1 dz_1 M_thrown M_trace M_found M_foundSet M_foundTimes M_w M_h M_sides M_ways hi_2) gX4_finds_X4_orders rfl hde_X4_orders ⟨rfl, rfl⟩ (by decide) (by decide) [0, 1, 5] [2, 3, 4, 6, 7, 8, 9, 10, 11, 12] [10, 11, 0, 1, 2, 12, 3, 4, 5, 6, 7, 8, 9] rfl rfl rfl rfl (by decide) rfl (ws2 := fun u => [((ad 19), .inr (4, [.int M_thrown, .long M_trace, .ref (ad 20), .ref (ad 21), .ref (ad 22), .ref (ad 23), .ref (ad 24), .ref (ad 25), .ref (ad 26), .ref (ad 27), .ref (ad 28), .ref (ad 29), .ref (ad 30), .ref (ad 31), .long M_found, .long M_foundSet, .long M_foundTimes, .int M_w, .int M_h, .ref (ad 32), .ref (ad 33), .ref (ad 34)])), ((ad 20), .inl (cA 0, 3, .inl M_sides)), ((ad 21), .inl (cA 0, 36, .inl M_held)), ((ad 22), .inl (cA 0, 36, .inl M_price)), ((ad 23), .inl (cA 0, 7, .inl M_rules)), ((ad 24), .inl (cA 0, 3, .inl u)), ((ad 25), .inl (cA 0, 3, .inl M_place)), ((ad 26), .inl (cA 1, 512, .inr (.inl M_value))), ((ad 27), .inl (cA 1, 512, .inr (.inl M_sets))), ((ad 28), .inl (cA 1, 512, .inr (.inl M_times))), ((ad 29), .inl (cA 1, 512, .inr (.inl M_nextValue))), ((ad 30), .inl (cA 1, 512, .inr (.inl M_nextSets))), ((ad 31), .inl (cA 1, 512, .inr (.inl M_nextTimes)))]) (fun _ => rfl) 4 0 rfl rfl rfl (rest := []) rfl (Nat.le_of_ble_eq_true rfl) dX4_finds_1 (fun u_3 hp_3 => ?_)
  obtain ⟨u3_M_ways, rfl⟩ : ∃ z, z = u_3 := ⟨_, rfl⟩
  replace h := h u3_M_ways hp_3
  change gW X 0 0 [((ad 19), .inr (4, [.int M_thrown, .long M_trace, .ref (ad 20), .ref (ad 21), .ref (ad 22), .ref (ad 23), .ref (ad 24), .ref (ad 25), .ref (ad 26), .ref (ad 27), .ref (ad 28), .ref (ad 29), .ref (ad 30), .ref (ad 31), .long M_found, .long M_foundSet, .long M_foundTimes, .int M_w, .int M_h, .ref (ad 32), .ref (ad 33), .ref (ad 34)])), ((ad 20), .inl (cA 0, 3, .inl M_sides)), ((ad 21), .inl (cA 0, 36, .inl M_held)), ((ad 22), .inl (cA 0, 36, .inl M_price)), ((ad 23), .inl (cA 0, 7, .inl M_rules)), ((ad 24), .inl (cA 0, 3, .inl u3_M_ways)), ((ad 25), .inl (cA 0, 3, .inl M_place)), ((ad 26), .inl (cA 1, 512, .inr (.inl M_value))), ((ad 27), .inl (cA 1, 512, .inr (.inl M_sets))), ((ad 28), .inl (cA 1, 512, .inr (.inl M_times))), ((ad 29), .inl (cA 1, 512, .inr (.inl M_nextValue))), ((ad 30), .inl (cA 1, 512, .inr (.inl M_nextSets))), ((ad 31), .inl (cA 1, 512, .inr (.inl M_nextTimes)))] 12 [(0, .ref (ad 19)), (1, .int p1), (2, .int p2)] [] 4
  refine g_aload_n C dX4_finds_4 rfl 0 rfl ?_
  refine g_get C gfX4_finds_7 0 rfl rfl dX4_finds_5 ?_
  refine g_aload_n C dX4_finds_8 rfl 0 rfl ?_
  refine g_get C gfX4_finds_22 0 rfl rfl dX4_finds_9 ?_
  refine g_iconst C dX4_finds_12 ik_0 ?_
  obtain ⟨hi_4, h⟩ := h
  refine g_iald C 5 0 rfl rfl hi_4 dX4_finds_13 ?_
  obtain ⟨hi_5, h⟩ := h
  refine g_iald C 1 0 rfl rfl hi_5 dX4_finds_14 ?_
  refine g_aload_n C dX4_finds_15 rfl 0 rfl ?_
  refine g_get C gfX4_finds_7 0 rfl rfl dX4_finds_16 ?_
  refine g_aload_n C dX4_finds_19 rfl 0 rfl ?_
  refine g_get C gfX4_finds_22 0 rfl rfl dX4_finds_20 ?_
  refine g_iconst C dX4_finds_23 ik_1 ?_
  obtain ⟨hi_6, h⟩ := h
  refine g_iald C 5 0 rfl rfl hi_6 dX4_finds_24 ?_
  obtain ⟨hi_7, h⟩ := h
  refine g_iald C 1 0 rfl rfl hi_7 dX4_finds_25 ?_
  refine g_imul C dX4_finds_26 ?_
  refine g_topi (fun x3_8 ex3_8 => ?_)
  replace h := h x3_8 ex3_8
  refine g_istore_n (lv2 := [(0, .ref (ad 19)), (1, .int p1), (2, .int p2), (3, .int x3_8)]) C dX4_finds_27 rfl (by decide) [1, 2, 3, 0] rfl ?_
  refine g_iconst C dX4_finds_28 ik_1 ?_
  refine g_iload_n C dX4_finds_29 rfl 3 rfl ?_
  refine g_ishl C dX4_finds_30 ?_
  refine g_topi (fun x4_9 ex4_9 => ?_)
  replace h := h x4_9 ex4_9
  refine g_istore (lv2 := [(0, .ref (ad 19)), (1, .int p1), (2, .int p2), (3, .int x3_8), (4, .int x4_9)]) C dX4_finds_31 (by decide) [1, 2, 3, 4, 0] rfl ?_
  refine g_iconst C dX4_finds_33 ik_0 ?_
  refine g_istore (lv2 := [(0, .ref (ad 19)), (1, .int p1), (2, .int p2), (3, .int x3_8), (4, .int x4_9), (5, .int (0 : Int32))]) C dX4_finds_34 (by decide) [1, 2, 3, 4, 5, 0] rfl ?_
  exact g_lv [0, 1, 2, 4, 5] rfl h
set_option maxHeartbeats 4000000 in
set_option maxRecDepth 100000 in
theorem sgX4_finds_36 {X : gX} {ad : Nat → Nat} {cA : Nat → ClassId} {post : ((Int64) × (Int64) × (Int64) × (Nat → Int32) × (Nat → Int32) × (Nat → Int64) × (Nat → Int64) × (Nat → Int64) × (Nat → Int64) × (Nat → Int64) × (Nat → Int64)) → Prop} {x1 : Int32} {x2 : Int32} {x4 : Int32} {x5 : Int32} {M_thrown : Int32} {M_trace : Int64} {M_found : Int64} {M_foundSet : Int64} {M_foundTimes : Int64} {M_w : Int32} {M_h : Int32} {M_sides : Nat → Int32} {M_held : Nat → Int32} {M_price : Nat → Int32} {M_rules : Nat → Int32} {M_ways : Nat → Int32} {M_place : Nat → Int32} {M_value : Nat → Int64} {M_sets : Nat → Int64} {M_times : Nat → Int64} {M_nextValue : Nat → Int64} {M_nextSets : Nat → Int64} {M_nextTimes : Nat → Int64} (C : gC X (gT cA) cX4_finds 12 RX4 wsX4_finds rmX4_finds) (E : gEv X none (gT cA) 0 0 post (w1X4_finds ad cA M_thrown M_trace M_w M_h M_sides M_held M_price M_rules)) (h : (x4 ≤ x5 → atX4_finds_96 X ad cA x1 x2 x4 (0 : Int32) M_thrown M_trace M_found M_foundSet M_foundTimes M_w M_h M_sides M_held M_price M_rules M_ways M_place M_value M_sets M_times M_nextValue M_nextSets M_nextTimes) ∧ (¬ x4 ≤ x5 → vp_in x5 512 ∧ vp_in x5 512 ∧ vp_in x5 512 ∧ atX4_finds_36 X ad cA x1 x2 x4 (x5 + 1) M_thrown M_trace M_found M_foundSet M_foundTimes M_w M_h M_sides M_held M_price M_rules M_ways M_place (vp_updL M_value x5.toNatClampNeg (if x5 = 0 then (0 : Int64) else (4000000000000000 : Int64))) (vp_updL M_sets x5.toNatClampNeg (0 : Int64)) (vp_updL M_times x5.toNatClampNeg (if x5 = 0 then (1 : Int64) else (0 : Int64))) M_nextValue M_nextSets M_nextTimes)) : atX4_finds_36 X ad cA x1 x2 x4 x5 M_thrown M_trace M_found M_foundSet M_foundTimes M_w M_h M_sides M_held M_price M_rules M_ways M_place M_value M_sets M_times M_nextValue M_nextSets M_nextTimes := by
  refine g_iload C dX4_finds_36 4 rfl ?_
  refine g_iload C dX4_finds_38 3 rfl ?_
  refine g_icmp_ge (tgt := 93) C dX4_finds_40 (by decide) (fun c_10 => ?_) (fun c_10 => ?_)
  · replace h := h.1 c_10
    refine g_iconst C dX4_finds_93 ik_0 ?_
    refine g_istore (lv2 := [(0, .ref (ad 19)), (1, .int x1), (2, .int x2), (4, .int x4), (5, .int (0 : Int32))]) C dX4_finds_94 (by decide) [1, 2, 3, 4, 0] rfl ?_
    exact g_lv [0, 1, 2, 3, 4] rfl h
  · replace h := h.2 c_10
    refine g_aload_n C dX4_finds_43 rfl 0 rfl ?_
    refine g_get C gfX4_finds_28 0 rfl rfl dX4_finds_44 ?_
    refine g_iload C dX4_finds_47 4 rfl ?_
    refine g_iload C dX4_finds_49 4 rfl ?_
    have key : gW X 0 0 [((ad 19), .inr (4, [.int M_thrown, .long M_trace, .ref (ad 20), .ref (ad 21), .ref (ad 22), .ref (ad 23), .ref (ad 24), .ref (ad 25), .ref (ad 26), .ref (ad 27), .ref (ad 28), .ref (ad 29), .ref (ad 30), .ref (ad 31), .long M_found, .long M_foundSet, .long M_foundTimes, .int M_w, .int M_h, .ref (ad 32), .ref (ad 33), .ref (ad 34)])), ((ad 20), .inl (cA 0, 3, .inl M_sides)), ((ad 21), .inl (cA 0, 36, .inl M_held)), ((ad 22), .inl (cA 0, 36, .inl M_price)), ((ad 23), .inl (cA 0, 7, .inl M_rules)), ((ad 24), .inl (cA 0, 3, .inl M_ways)), ((ad 25), .inl (cA 0, 3, .inl M_place)), ((ad 26), .inl (cA 1, 512, .inr (.inl M_value))), ((ad 27), .inl (cA 1, 512, .inr (.inl M_sets))), ((ad 28), .inl (cA 1, 512, .inr (.inl M_times))), ((ad 29), .inl (cA 1, 512, .inr (.inl M_nextValue))), ((ad 30), .inl (cA 1, 512, .inr (.inl M_nextSets))), ((ad 31), .inl (cA 1, 512, .inr (.inl M_nextTimes)))] 12 [(0, .ref (ad 19)), (1, .int x1), (2, .int x2), (4, .int x4), (5, .int x5)] [.long (if x5 = 0 then (0 : Int64) else (4000000000000000 : Int64)), .int x5, .ref (ad 26)] 61 := by
      obtain ⟨hi_12, h⟩ := h
      refine g_last (ws2 := [((ad 19), .inr (4, [.int M_thrown, .long M_trace, .ref (ad 20), .ref (ad 21), .ref (ad 22), .ref (ad 23), .ref (ad 24), .ref (ad 25), .ref (ad 26), .ref (ad 27), .ref (ad 28), .ref (ad 29), .ref (ad 30), .ref (ad 31), .long M_found, .long M_foundSet, .long M_foundTimes, .int M_w, .int M_h, .ref (ad 32), .ref (ad 33), .ref (ad 34)])), ((ad 20), .inl (cA 0, 3, .inl M_sides)), ((ad 21), .inl (cA 0, 36, .inl M_held)), ((ad 22), .inl (cA 0, 36, .inl M_price)), ((ad 23), .inl (cA 0, 7, .inl M_rules)), ((ad 24), .inl (cA 0, 3, .inl M_ways)), ((ad 25), .inl (cA 0, 3, .inl M_place)), ((ad 26), .inl (cA 1, 512, .inr (.inl (vp_updL M_value x5.toNatClampNeg (if x5 = 0 then (0 : Int64) else (4000000000000000 : Int64)))))), ((ad 27), .inl (cA 1, 512, .inr (.inl M_sets))), ((ad 28), .inl (cA 1, 512, .inr (.inl M_times))), ((ad 29), .inl (cA 1, 512, .inr (.inl M_nextValue))), ((ad 30), .inl (cA 1, 512, .inr (.inl M_nextSets))), ((ad 31), .inl (cA 1, 512, .inr (.inl M_nextTimes)))]) C 7 1 rfl rfl hi_12 rfl dX4_finds_61 ?_
      refine g_aload_n C dX4_finds_62 rfl 0 rfl ?_
      refine g_get C gfX4_finds_32 0 rfl rfl dX4_finds_63 ?_
      refine g_iload C dX4_finds_66 4 rfl ?_
      refine g_lconst C dX4_finds_68 lk_0 ?_
      obtain ⟨hi_13, h⟩ := h
      refine g_last (ws2 := [((ad 19), .inr (4, [.int M_thrown, .long M_trace, .ref (ad 20), .ref (ad 21), .ref (ad 22), .ref (ad 23), .ref (ad 24), .ref (ad 25), .ref (ad 26), .ref (ad 27), .ref (ad 28), .ref (ad 29), .ref (ad 30), .ref (ad 31), .long M_found, .long M_foundSet, .long M_foundTimes, .int M_w, .int M_h, .ref (ad 32), .ref (ad 33), .ref (ad 34)])), ((ad 20), .inl (cA 0, 3, .inl M_sides)), ((ad 21), .inl (cA 0, 36, .inl M_held)), ((ad 22), .inl (cA 0, 36, .inl M_price)), ((ad 23), .inl (cA 0, 7, .inl M_rules)), ((ad 24), .inl (cA 0, 3, .inl M_ways)), ((ad 25), .inl (cA 0, 3, .inl M_place)), ((ad 26), .inl (cA 1, 512, .inr (.inl (vp_updL M_value x5.toNatClampNeg (if x5 = 0 then (0 : Int64) else (4000000000000000 : Int64)))))), ((ad 27), .inl (cA 1, 512, .inr (.inl (vp_updL M_sets x5.toNatClampNeg (0 : Int64))))), ((ad 28), .inl (cA 1, 512, .inr (.inl M_times))), ((ad 29), .inl (cA 1, 512, .inr (.inl M_nextValue))), ((ad 30), .inl (cA 1, 512, .inr (.inl M_nextSets))), ((ad 31), .inl (cA 1, 512, .inr (.inl M_nextTimes)))]) C 8 1 rfl rfl hi_13 rfl dX4_finds_69 ?_
      refine g_aload_n C dX4_finds_70 rfl 0 rfl ?_
      refine g_get C gfX4_finds_35 0 rfl rfl dX4_finds_71 ?_
      refine g_iload C dX4_finds_74 4 rfl ?_
      refine g_iload C dX4_finds_76 4 rfl ?_
      have key : gW X 0 0 [((ad 19), .inr (4, [.int M_thrown, .long M_trace, .ref (ad 20), .ref (ad 21), .ref (ad 22), .ref (ad 23), .ref (ad 24), .ref (ad 25), .ref (ad 26), .ref (ad 27), .ref (ad 28), .ref (ad 29), .ref (ad 30), .ref (ad 31), .long M_found, .long M_foundSet, .long M_foundTimes, .int M_w, .int M_h, .ref (ad 32), .ref (ad 33), .ref (ad 34)])), ((ad 20), .inl (cA 0, 3, .inl M_sides)), ((ad 21), .inl (cA 0, 36, .inl M_held)), ((ad 22), .inl (cA 0, 36, .inl M_price)), ((ad 23), .inl (cA 0, 7, .inl M_rules)), ((ad 24), .inl (cA 0, 3, .inl M_ways)), ((ad 25), .inl (cA 0, 3, .inl M_place)), ((ad 26), .inl (cA 1, 512, .inr (.inl (vp_updL M_value x5.toNatClampNeg (if x5 = 0 then (0 : Int64) else (4000000000000000 : Int64)))))), ((ad 27), .inl (cA 1, 512, .inr (.inl (vp_updL M_sets x5.toNatClampNeg (0 : Int64))))), ((ad 28), .inl (cA 1, 512, .inr (.inl M_times))), ((ad 29), .inl (cA 1, 512, .inr (.inl M_nextValue))), ((ad 30), .inl (cA 1, 512, .inr (.inl M_nextSets))), ((ad 31), .inl (cA 1, 512, .inr (.inl M_nextTimes)))] 12 [(0, .ref (ad 19)), (1, .int x1), (2, .int x2), (4, .int x4), (5, .int x5)] [.long (if x5 = 0 then (1 : Int64) else (0 : Int64)), .int x5, .ref (ad 28)] 86 := by
        obtain ⟨hi_15, h⟩ := h
        refine g_last (ws2 := [((ad 19), .inr (4, [.int M_thrown, .long M_trace, .ref (ad 20), .ref (ad 21), .ref (ad 22), .ref (ad 23), .ref (ad 24), .ref (ad 25), .ref (ad 26), .ref (ad 27), .ref (ad 28), .ref (ad 29), .ref (ad 30), .ref (ad 31), .long M_found, .long M_foundSet, .long M_foundTimes, .int M_w, .int M_h, .ref (ad 32), .ref (ad 33), .ref (ad 34)])), ((ad 20), .inl (cA 0, 3, .inl M_sides)), ((ad 21), .inl (cA 0, 36, .inl M_held)), ((ad 22), .inl (cA 0, 36, .inl M_price)), ((ad 23), .inl (cA 0, 7, .inl M_rules)), ((ad 24), .inl (cA 0, 3, .inl M_ways)), ((ad 25), .inl (cA 0, 3, .inl M_place)), ((ad 26), .inl (cA 1, 512, .inr (.inl (vp_updL M_value x5.toNatClampNeg (if x5 = 0 then (0 : Int64) else (4000000000000000 : Int64)))))), ((ad 27), .inl (cA 1, 512, .inr (.inl (vp_updL M_sets x5.toNatClampNeg (0 : Int64))))), ((ad 28), .inl (cA 1, 512, .inr (.inl (vp_updL M_times x5.toNatClampNeg (if x5 = 0 then (1 : Int64) else (0 : Int64)))))), ((ad 29), .inl (cA 1, 512, .inr (.inl M_nextValue))), ((ad 30), .inl (cA 1, 512, .inr (.inl M_nextSets))), ((ad 31), .inl (cA 1, 512, .inr (.inl M_nextTimes)))]) C 9 1 rfl rfl hi_15 rfl dX4_finds_86 ?_
        refine g_iinc (v := (x5 + 1)) (lv2 := [(0, .ref (ad 19)), (1, .int x1), (2, .int x2), (4, .int x4), (5, .int (x5 + 1))]) C dX4_finds_87 4 rfl (by first | rfl | decide) (by decide) [1, 2, 3, 4, 0] rfl ?_
        refine g_goto (tgt := 36) C dX4_finds_90 (by decide) ?_
        exact g_lv [0, 1, 2, 3, 4] rfl h
      refine g_if_ne (tgt := 85) C dX4_finds_78 (by decide) (fun c_14 => ?_) (fun c_14 => ?_)
      · refine g_lconst C dX4_finds_85 lk_0 ?_
        exact g_leaf (by simp only [if_neg c_14] at key; first | exact key | (simp only [if_neg c_14]; exact key) | exact absurd rfl c_14)
      · refine g_lconst C dX4_finds_81 lk_1 ?_
        refine g_goto (tgt := 86) C dX4_finds_82 (by decide) ?_
        exact g_leaf (by simp only [if_pos c_14] at key; first | exact key | (simp only [if_pos c_14]; exact key) | exact absurd rfl c_14)
    refine g_if_ne (tgt := 58) C dX4_finds_51 (by decide) (fun c_11 => ?_) (fun c_11 => ?_)
    · refine g_ldc2_w C cnX4_finds_133 dX4_finds_58 ?_
      exact g_leaf (by simp only [if_neg c_11] at key; first | exact key | (simp only [if_neg c_11]; exact key) | exact absurd rfl c_11)
    · refine g_lconst C dX4_finds_54 lk_0 ?_
      refine g_goto (tgt := 61) C dX4_finds_55 (by decide) ?_
      exact g_leaf (by simp only [if_pos c_11] at key; first | exact key | (simp only [if_pos c_11]; exact key) | exact absurd rfl c_11)
set_option maxHeartbeats 4000000 in
set_option maxRecDepth 100000 in
theorem sgX4_finds_96 {X : gX} {ad : Nat → Nat} {cA : Nat → ClassId} {post : ((Int64) × (Int64) × (Int64) × (Nat → Int32) × (Nat → Int32) × (Nat → Int64) × (Nat → Int64) × (Nat → Int64) × (Nat → Int64) × (Nat → Int64) × (Nat → Int64)) → Prop} {x1 : Int32} {x2 : Int32} {x4 : Int32} {x5 : Int32} {M_thrown : Int32} {M_trace : Int64} {M_found : Int64} {M_foundSet : Int64} {M_foundTimes : Int64} {M_w : Int32} {M_h : Int32} {M_sides : Nat → Int32} {M_held : Nat → Int32} {M_price : Nat → Int32} {M_rules : Nat → Int32} {M_ways : Nat → Int32} {M_place : Nat → Int32} {M_value : Nat → Int64} {M_sets : Nat → Int64} {M_times : Nat → Int64} {M_nextValue : Nat → Int64} {M_nextSets : Nat → Int64} {M_nextTimes : Nat → Int64} (C : gC X (gT cA) cX4_finds 12 RX4 wsX4_finds rmX4_finds) (E : gEv X none (gT cA) 0 0 post (w1X4_finds ad cA M_thrown M_trace M_w M_h M_sides M_held M_price M_rules)) (h : prX4_cells M_thrown M_trace M_found M_foundSet M_foundTimes M_w M_h M_sides ∧ ((fnX4_cells M_thrown M_trace M_found M_foundSet M_foundTimes M_w M_h M_sides) ≤ x5 → atX4_finds_423 X ad cA x4 (0 : Int32) M_thrown M_trace (4000000000000000 : Int64) M_foundSet (0 : Int64) M_w M_h M_sides M_held M_price M_rules M_ways M_place M_value M_sets M_times M_nextValue M_nextSets M_nextTimes) ∧ (¬ (fnX4_cells M_thrown M_trace M_found M_foundSet M_foundTimes M_w M_h M_sides) ≤ x5 → ∃ (dx_19 : Nat) (dy_19 : Nat) (dz_19 : Nat) (w0_19 : Nat) (w1_19 : Nat) (w2_19 : Nat) (k_19 : Nat), prX4_cellAt dx_19 dy_19 dz_19 w0_19 w1_19 w2_19 k_19 x5 M_thrown M_trace M_found M_foundSet M_foundTimes M_w M_h M_sides M_ways M_place ∧ ∀ (r_21 : Int32) (u21_M_place : Nat → Int32), po_X4_cellAt ad cA dx_19 dy_19 dz_19 w0_19 w1_19 w2_19 k_19 x5 M_thrown M_trace M_found M_foundSet M_foundTimes M_w M_h M_sides M_ways M_place r_21 u21_M_place → atX4_finds_116 X ad cA x1 x2 x4 x5 r_21 (0 : Int32) M_thrown M_trace M_found M_foundSet M_foundTimes M_w M_h M_sides M_held M_price M_rules M_ways u21_M_place M_value M_sets M_times M_nextValue M_nextSets M_nextTimes)) : atX4_finds_96 X ad cA x1 x2 x4 x5 M_thrown M_trace M_found M_foundSet M_foundTimes M_w M_h M_sides M_held M_price M_rules M_ways M_place M_value M_sets M_times M_nextValue M_nextSets M_nextTimes := by
  refine g_iload C dX4_finds_96 4 rfl ?_
  refine g_aload_n C dX4_finds_98 rfl 0 rfl ?_
  obtain ⟨hi_16, h⟩ := h
  refine g_callVi (wr := [((ad 21), .inl (cA 0, 36, .inl M_held)), ((ad 22), .inl (cA 0, 36, .inl M_price)), ((ad 23), .inl (cA 0, 7, .inl M_rules)), ((ad 24), .inl (cA 0, 3, .inl M_ways)), ((ad 25), .inl (cA 0, 3, .inl M_place)), ((ad 26), .inl (cA 1, 512, .inr (.inl M_value))), ((ad 27), .inl (cA 1, 512, .inr (.inl M_sets))), ((ad 28), .inl (cA 1, 512, .inr (.inl M_times))), ((ad 29), .inl (cA 1, 512, .inr (.inl M_nextValue))), ((ad 30), .inl (cA 1, 512, .inr (.inl M_nextSets))), ((ad 31), .inl (cA 1, 512, .inr (.inl M_nextTimes)))]) C (c_X4_cells ad cA M_thrown M_trace M_found M_foundSet M_foundTimes M_w M_h M_sides hi_16) gX4_finds_X4_cells rfl hde_X4_cells ⟨rfl, rfl⟩ (by decide) (by decide) [0, 1] [2, 3, 4, 5, 6, 7, 8, 9, 10, 11, 12] [11, 12, 0, 1, 2, 3, 4, 5, 6, 7, 8, 9, 10] rfl rfl rfl rfl (by decide) rfl (ws2 := fun u => [((ad 19), .inr (4, [.int M_thrown, .long M_trace, .ref (ad 20), .ref (ad 21), .ref (ad 22), .ref (ad 23), .ref (ad 24), .ref (ad 25), .ref (ad 26), .ref (ad 27), .ref (ad 28), .ref (ad 29), .ref (ad 30), .ref (ad 31), .long M_found, .long M_foundSet, .long M_foundTimes, .int M_w, .int M_h, .ref (ad 32), .ref (ad 33), .ref (ad 34)])), ((ad 20), .inl (cA 0, 3, .inl M_sides)), ((ad 21), .inl (cA 0, 36, .inl M_held)), ((ad 22), .inl (cA 0, 36, .inl M_price)), ((ad 23), .inl (cA 0, 7, .inl M_rules)), ((ad 24), .inl (cA 0, 3, .inl M_ways)), ((ad 25), .inl (cA 0, 3, .inl M_place)), ((ad 26), .inl (cA 1, 512, .inr (.inl M_value))), ((ad 27), .inl (cA 1, 512, .inr (.inl M_sets))), ((ad 28), .inl (cA 1, 512, .inr (.inl M_times))), ((ad 29), .inl (cA 1, 512, .inr (.inl M_nextValue))), ((ad 30), .inl (cA 1, 512, .inr (.inl M_nextSets))), ((ad 31), .inl (cA 1, 512, .inr (.inl M_nextTimes)))]) (fun _ => rfl) 4 0 rfl rfl rfl (rest := [.int x5]) rfl (Nat.le_of_ble_eq_true rfl) dX4_finds_99 (fun r_17 u_17 hp_17 => ?_)
  subst hp_17
  change gW X 0 0 [((ad 19), .inr (4, [.int M_thrown, .long M_trace, .ref (ad 20), .ref (ad 21), .ref (ad 22), .ref (ad 23), .ref (ad 24), .ref (ad 25), .ref (ad 26), .ref (ad 27), .ref (ad 28), .ref (ad 29), .ref (ad 30), .ref (ad 31), .long M_found, .long M_foundSet, .long M_foundTimes, .int M_w, .int M_h, .ref (ad 32), .ref (ad 33), .ref (ad 34)])), ((ad 20), .inl (cA 0, 3, .inl M_sides)), ((ad 21), .inl (cA 0, 36, .inl M_held)), ((ad 22), .inl (cA 0, 36, .inl M_price)), ((ad 23), .inl (cA 0, 7, .inl M_rules)), ((ad 24), .inl (cA 0, 3, .inl M_ways)), ((ad 25), .inl (cA 0, 3, .inl M_place)), ((ad 26), .inl (cA 1, 512, .inr (.inl M_value))), ((ad 27), .inl (cA 1, 512, .inr (.inl M_sets))), ((ad 28), .inl (cA 1, 512, .inr (.inl M_times))), ((ad 29), .inl (cA 1, 512, .inr (.inl M_nextValue))), ((ad 30), .inl (cA 1, 512, .inr (.inl M_nextSets))), ((ad 31), .inl (cA 1, 512, .inr (.inl M_nextTimes)))] 12 [(0, .ref (ad 19)), (1, .int x1), (2, .int x2), (4, .int x4), (5, .int x5)] [.int (fnX4_cells M_thrown M_trace M_found M_foundSet M_foundTimes M_w M_h M_sides), .int x5] 102
  refine g_icmp_ge (tgt := 408) C dX4_finds_102 (by decide) (fun c_18 => ?_) (fun c_18 => ?_)
  · replace h := h.1 c_18
    refine g_aload_n C dX4_finds_408 rfl 0 rfl ?_
    refine g_ldc2_w C cnX4_finds_133 dX4_finds_409 ?_
    refine g_put (ws2 := [((ad 19), .inr (4, [.int M_thrown, .long M_trace, .ref (ad 20), .ref (ad 21), .ref (ad 22), .ref (ad 23), .ref (ad 24), .ref (ad 25), .ref (ad 26), .ref (ad 27), .ref (ad 28), .ref (ad 29), .ref (ad 30), .ref (ad 31), .long (4000000000000000 : Int64), .long M_foundSet, .long M_foundTimes, .int M_w, .int M_h, .ref (ad 32), .ref (ad 33), .ref (ad 34)])), ((ad 20), .inl (cA 0, 3, .inl M_sides)), ((ad 21), .inl (cA 0, 36, .inl M_held)), ((ad 22), .inl (cA 0, 36, .inl M_price)), ((ad 23), .inl (cA 0, 7, .inl M_rules)), ((ad 24), .inl (cA 0, 3, .inl M_ways)), ((ad 25), .inl (cA 0, 3, .inl M_place)), ((ad 26), .inl (cA 1, 512, .inr (.inl M_value))), ((ad 27), .inl (cA 1, 512, .inr (.inl M_sets))), ((ad 28), .inl (cA 1, 512, .inr (.inl M_times))), ((ad 29), .inl (cA 1, 512, .inr (.inl M_nextValue))), ((ad 30), .inl (cA 1, 512, .inr (.inl M_nextSets))), ((ad 31), .inl (cA 1, 512, .inr (.inl M_nextTimes)))]) C gfX4_finds_144 0 tyX4_ok nmX4 rfl rfl rfl rfl (Nat.le_of_ble_eq_true rfl) rfl dX4_finds_412 ?_
    refine g_aload_n C dX4_finds_415 rfl 0 rfl ?_
    refine g_lconst C dX4_finds_416 lk_0 ?_
    refine g_put (ws2 := [((ad 19), .inr (4, [.int M_thrown, .long M_trace, .ref (ad 20), .ref (ad 21), .ref (ad 22), .ref (ad 23), .ref (ad 24), .ref (ad 25), .ref (ad 26), .ref (ad 27), .ref (ad 28), .ref (ad 29), .ref (ad 30), .ref (ad 31), .long (4000000000000000 : Int64), .long M_foundSet, .long (0 : Int64), .int M_w, .int M_h, .ref (ad 32), .ref (ad 33), .ref (ad 34)])), ((ad 20), .inl (cA 0, 3, .inl M_sides)), ((ad 21), .inl (cA 0, 36, .inl M_held)), ((ad 22), .inl (cA 0, 36, .inl M_price)), ((ad 23), .inl (cA 0, 7, .inl M_rules)), ((ad 24), .inl (cA 0, 3, .inl M_ways)), ((ad 25), .inl (cA 0, 3, .inl M_place)), ((ad 26), .inl (cA 1, 512, .inr (.inl M_value))), ((ad 27), .inl (cA 1, 512, .inr (.inl M_sets))), ((ad 28), .inl (cA 1, 512, .inr (.inl M_times))), ((ad 29), .inl (cA 1, 512, .inr (.inl M_nextValue))), ((ad 30), .inl (cA 1, 512, .inr (.inl M_nextSets))), ((ad 31), .inl (cA 1, 512, .inr (.inl M_nextTimes)))]) C gfX4_finds_147 0 tyX4_ok nmX4 rfl rfl rfl rfl (Nat.le_of_ble_eq_true rfl) rfl dX4_finds_417 ?_
    refine g_iconst C dX4_finds_420 ik_0 ?_
    refine g_istore (lv2 := [(0, .ref (ad 19)), (1, .int x1), (2, .int x2), (4, .int x4), (5, .int (0 : Int32))]) C dX4_finds_421 (by decide) [1, 2, 3, 4, 0] rfl ?_
    exact g_lv [0, 3, 4] rfl h
  · replace h := h.2 c_18
    refine g_aload_n C dX4_finds_105 rfl 0 rfl ?_
    refine g_iload C dX4_finds_106 4 rfl ?_
    obtain ⟨dx_19, dy_19, dz_19, w0_19, w1_19, w2_19, k_19, h⟩ := h
    obtain ⟨hi_20, h⟩ := h
    refine g_callVi (wr := [((ad 21), .inl (cA 0, 36, .inl M_held)), ((ad 22), .inl (cA 0, 36, .inl M_price)), ((ad 23), .inl (cA 0, 7, .inl M_rules)), ((ad 26), .inl (cA 1, 512, .inr (.inl M_value))), ((ad 27), .inl (cA 1, 512, .inr (.inl M_sets))), ((ad 28), .inl (cA 1, 512, .inr (.inl M_times))), ((ad 29), .inl (cA 1, 512, .inr (.inl M_nextValue))), ((ad 30), .inl (cA 1, 512, .inr (.inl M_nextSets))), ((ad 31), .inl (cA 1, 512, .inr (.inl M_nextTimes)))]) C (c_X4_cellAt ad cA dx_19 dy_19 dz_19 w0_19 w1_19 w2_19 k_19 x5 M_thrown M_trace M_found M_foundSet M_foundTimes M_w M_h M_sides M_ways M_place hi_20) gX4_finds_X4_cellAt rfl hde_X4_cellAt ⟨rfl, rfl⟩ (by decide) (by decide) [0, 1, 5, 6] [2, 3, 4, 7, 8, 9, 10, 11, 12] [9, 10, 0, 1, 2, 11, 12, 3, 4, 5, 6, 7, 8] rfl rfl rfl rfl (by decide) rfl (ws2 := fun u => [((ad 19), .inr (4, [.int M_thrown, .long M_trace, .ref (ad 20), .ref (ad 21), .ref (ad 22), .ref (ad 23), .ref (ad 24), .ref (ad 25), .ref (ad 26), .ref (ad 27), .ref (ad 28), .ref (ad 29), .ref (ad 30), .ref (ad 31), .long M_found, .long M_foundSet, .long M_foundTimes, .int M_w, .int M_h, .ref (ad 32), .ref (ad 33), .ref (ad 34)])), ((ad 20), .inl (cA 0, 3, .inl M_sides)), ((ad 21), .inl (cA 0, 36, .inl M_held)), ((ad 22), .inl (cA 0, 36, .inl M_price)), ((ad 23), .inl (cA 0, 7, .inl M_rules)), ((ad 24), .inl (cA 0, 3, .inl M_ways)), ((ad 25), .inl (cA 0, 3, .inl u)), ((ad 26), .inl (cA 1, 512, .inr (.inl M_value))), ((ad 27), .inl (cA 1, 512, .inr (.inl M_sets))), ((ad 28), .inl (cA 1, 512, .inr (.inl M_times))), ((ad 29), .inl (cA 1, 512, .inr (.inl M_nextValue))), ((ad 30), .inl (cA 1, 512, .inr (.inl M_nextSets))), ((ad 31), .inl (cA 1, 512, .inr (.inl M_nextTimes)))]) (fun _ => rfl) 4 0 rfl rfl rfl (rest := []) rfl (Nat.le_of_ble_eq_true rfl) dX4_finds_108 (fun r_21 u_21 hp_21 => ?_)
    obtain ⟨u21_M_place, rfl⟩ : ∃ z, z = u_21 := ⟨_, rfl⟩
    replace h := h r_21 u21_M_place hp_21
    change gW X 0 0 [((ad 19), .inr (4, [.int M_thrown, .long M_trace, .ref (ad 20), .ref (ad 21), .ref (ad 22), .ref (ad 23), .ref (ad 24), .ref (ad 25), .ref (ad 26), .ref (ad 27), .ref (ad 28), .ref (ad 29), .ref (ad 30), .ref (ad 31), .long M_found, .long M_foundSet, .long M_foundTimes, .int M_w, .int M_h, .ref (ad 32), .ref (ad 33), .ref (ad 34)])), ((ad 20), .inl (cA 0, 3, .inl M_sides)), ((ad 21), .inl (cA 0, 36, .inl M_held)), ((ad 22), .inl (cA 0, 36, .inl M_price)), ((ad 23), .inl (cA 0, 7, .inl M_rules)), ((ad 24), .inl (cA 0, 3, .inl M_ways)), ((ad 25), .inl (cA 0, 3, .inl u21_M_place)), ((ad 26), .inl (cA 1, 512, .inr (.inl M_value))), ((ad 27), .inl (cA 1, 512, .inr (.inl M_sets))), ((ad 28), .inl (cA 1, 512, .inr (.inl M_times))), ((ad 29), .inl (cA 1, 512, .inr (.inl M_nextValue))), ((ad 30), .inl (cA 1, 512, .inr (.inl M_nextSets))), ((ad 31), .inl (cA 1, 512, .inr (.inl M_nextTimes)))] 12 [(0, .ref (ad 19)), (1, .int x1), (2, .int x2), (4, .int x4), (5, .int x5)] [.int r_21] 111
    refine g_istore (lv2 := [(0, .ref (ad 19)), (1, .int x1), (2, .int x2), (4, .int x4), (5, .int x5), (6, .int r_21)]) C dX4_finds_111 (by decide) [1, 2, 3, 4, 5, 0] rfl ?_
    refine g_iconst C dX4_finds_113 ik_0 ?_
    refine g_istore (lv2 := [(0, .ref (ad 19)), (1, .int x1), (2, .int x2), (4, .int x4), (5, .int x5), (6, .int r_21), (7, .int (0 : Int32))]) C dX4_finds_114 (by decide) [1, 2, 3, 4, 5, 6, 0] rfl ?_
    exact g_lv [0, 1, 2, 3, 4, 5, 6] rfl h
set_option maxHeartbeats 4000000 in
set_option maxRecDepth 100000 in
theorem sgX4_finds_116 {X : gX} {ad : Nat → Nat} {cA : Nat → ClassId} {post : ((Int64) × (Int64) × (Int64) × (Nat → Int32) × (Nat → Int32) × (Nat → Int64) × (Nat → Int64) × (Nat → Int64) × (Nat → Int64) × (Nat → Int64) × (Nat → Int64)) → Prop} {x1 : Int32} {x2 : Int32} {x4 : Int32} {x5 : Int32} {x6 : Int32} {x7 : Int32} {M_thrown : Int32} {M_trace : Int64} {M_found : Int64} {M_foundSet : Int64} {M_foundTimes : Int64} {M_w : Int32} {M_h : Int32} {M_sides : Nat → Int32} {M_held : Nat → Int32} {M_price : Nat → Int32} {M_rules : Nat → Int32} {M_ways : Nat → Int32} {M_place : Nat → Int32} {M_value : Nat → Int64} {M_sets : Nat → Int64} {M_times : Nat → Int64} {M_nextValue : Nat → Int64} {M_nextSets : Nat → Int64} {M_nextTimes : Nat → Int64} (C : gC X (gT cA) cX4_finds 12 RX4 wsX4_finds rmX4_finds) (E : gEv X none (gT cA) 0 0 post (w1X4_finds ad cA M_thrown M_trace M_w M_h M_sides M_held M_price M_rules)) (h : (x4 ≤ x7 → atX4_finds_150 X ad cA x1 x2 x4 x5 x6 (0 : Int32) M_thrown M_trace M_found M_foundSet M_foundTimes M_w M_h M_sides M_held M_price M_rules M_ways M_place M_value M_sets M_times M_nextValue M_nextSets M_nextTimes) ∧ (¬ x4 ≤ x7 → vp_in x7 512 ∧ vp_in x7 512 ∧ atX4_finds_116 X ad cA x1 x2 x4 x5 x6 (x7 + 1) M_thrown M_trace M_found M_foundSet M_foundTimes M_w M_h M_sides M_held M_price M_rules M_ways M_place M_value M_sets M_times (vp_updL M_nextValue x7.toNatClampNeg (4000000000000000 : Int64)) M_nextSets (vp_updL M_nextTimes x7.toNatClampNeg (0 : Int64)))) : atX4_finds_116 X ad cA x1 x2 x4 x5 x6 x7 M_thrown M_trace M_found M_foundSet M_foundTimes M_w M_h M_sides M_held M_price M_rules M_ways M_place M_value M_sets M_times M_nextValue M_nextSets M_nextTimes := by
  refine g_iload C dX4_finds_116 6 rfl ?_
  refine g_iload C dX4_finds_118 3 rfl ?_
  refine g_icmp_ge (tgt := 147) C dX4_finds_120 (by decide) (fun c_22 => ?_) (fun c_22 => ?_)
  · replace h := h.1 c_22
    refine g_iconst C dX4_finds_147 ik_0 ?_
    refine g_istore (lv2 := [(0, .ref (ad 19)), (1, .int x1), (2, .int x2), (4, .int x4), (5, .int x5), (6, .int x6), (7, .int (0 : Int32))]) C dX4_finds_148 (by decide) [1, 2, 3, 4, 5, 6, 0] rfl ?_
    exact g_lv [0, 1, 2, 3, 4, 5, 6] rfl h
  · replace h := h.2 c_22
    refine g_aload_n C dX4_finds_123 rfl 0 rfl ?_
    refine g_get C gfX4_finds_38 0 rfl rfl dX4_finds_124 ?_
    refine g_iload C dX4_finds_127 6 rfl ?_
    refine g_ldc2_w C cnX4_finds_133 dX4_finds_129 ?_
    obtain ⟨hi_23, h⟩ := h
    refine g_last (ws2 := [((ad 19), .inr (4, [.int M_thrown, .long M_trace, .ref (ad 20), .ref (ad 21), .ref (ad 22), .ref (ad 23), .ref (ad 24), .ref (ad 25), .ref (ad 26), .ref (ad 27), .ref (ad 28), .ref (ad 29), .ref (ad 30), .ref (ad 31), .long M_found, .long M_foundSet, .long M_foundTimes, .int M_w, .int M_h, .ref (ad 32), .ref (ad 33), .ref (ad 34)])), ((ad 20), .inl (cA 0, 3, .inl M_sides)), ((ad 21), .inl (cA 0, 36, .inl M_held)), ((ad 22), .inl (cA 0, 36, .inl M_price)), ((ad 23), .inl (cA 0, 7, .inl M_rules)), ((ad 24), .inl (cA 0, 3, .inl M_ways)), ((ad 25), .inl (cA 0, 3, .inl M_place)), ((ad 26), .inl (cA 1, 512, .inr (.inl M_value))), ((ad 27), .inl (cA 1, 512, .inr (.inl M_sets))), ((ad 28), .inl (cA 1, 512, .inr (.inl M_times))), ((ad 29), .inl (cA 1, 512, .inr (.inl (vp_updL M_nextValue x7.toNatClampNeg (4000000000000000 : Int64))))), ((ad 30), .inl (cA 1, 512, .inr (.inl M_nextSets))), ((ad 31), .inl (cA 1, 512, .inr (.inl M_nextTimes)))]) C 10 1 rfl rfl hi_23 rfl dX4_finds_132 ?_
    refine g_aload_n C dX4_finds_133 rfl 0 rfl ?_
    refine g_get C gfX4_finds_44 0 rfl rfl dX4_finds_134 ?_
    refine g_iload C dX4_finds_137 6 rfl ?_
    refine g_lconst C dX4_finds_139 lk_0 ?_
    obtain ⟨hi_24, h⟩ := h
    refine g_last (ws2 := [((ad 19), .inr (4, [.int M_thrown, .long M_trace, .ref (ad 20), .ref (ad 21), .ref (ad 22), .ref (ad 23), .ref (ad 24), .ref (ad 25), .ref (ad 26), .ref (ad 27), .ref (ad 28), .ref (ad 29), .ref (ad 30), .ref (ad 31), .long M_found, .long M_foundSet, .long M_foundTimes, .int M_w, .int M_h, .ref (ad 32), .ref (ad 33), .ref (ad 34)])), ((ad 20), .inl (cA 0, 3, .inl M_sides)), ((ad 21), .inl (cA 0, 36, .inl M_held)), ((ad 22), .inl (cA 0, 36, .inl M_price)), ((ad 23), .inl (cA 0, 7, .inl M_rules)), ((ad 24), .inl (cA 0, 3, .inl M_ways)), ((ad 25), .inl (cA 0, 3, .inl M_place)), ((ad 26), .inl (cA 1, 512, .inr (.inl M_value))), ((ad 27), .inl (cA 1, 512, .inr (.inl M_sets))), ((ad 28), .inl (cA 1, 512, .inr (.inl M_times))), ((ad 29), .inl (cA 1, 512, .inr (.inl (vp_updL M_nextValue x7.toNatClampNeg (4000000000000000 : Int64))))), ((ad 30), .inl (cA 1, 512, .inr (.inl M_nextSets))), ((ad 31), .inl (cA 1, 512, .inr (.inl (vp_updL M_nextTimes x7.toNatClampNeg (0 : Int64)))))]) C 12 1 rfl rfl hi_24 rfl dX4_finds_140 ?_
    refine g_iinc (v := (x7 + 1)) (lv2 := [(0, .ref (ad 19)), (1, .int x1), (2, .int x2), (4, .int x4), (5, .int x5), (6, .int x6), (7, .int (x7 + 1))]) C dX4_finds_141 6 rfl (by first | rfl | decide) (by decide) [1, 2, 3, 4, 5, 6, 0] rfl ?_
    refine g_goto (tgt := 116) C dX4_finds_144 (by decide) ?_
    exact g_lv [0, 1, 2, 3, 4, 5, 6] rfl h
set_option maxHeartbeats 4000000 in
set_option maxRecDepth 100000 in
theorem sgX4_finds_150 {X : gX} {ad : Nat → Nat} {cA : Nat → ClassId} {post : ((Int64) × (Int64) × (Int64) × (Nat → Int32) × (Nat → Int32) × (Nat → Int64) × (Nat → Int64) × (Nat → Int64) × (Nat → Int64) × (Nat → Int64) × (Nat → Int64)) → Prop} {x1 : Int32} {x2 : Int32} {x4 : Int32} {x5 : Int32} {x6 : Int32} {x7 : Int32} {M_thrown : Int32} {M_trace : Int64} {M_found : Int64} {M_foundSet : Int64} {M_foundTimes : Int64} {M_w : Int32} {M_h : Int32} {M_sides : Nat → Int32} {M_held : Nat → Int32} {M_price : Nat → Int32} {M_rules : Nat → Int32} {M_ways : Nat → Int32} {M_place : Nat → Int32} {M_value : Nat → Int64} {M_sets : Nat → Int64} {M_times : Nat → Int64} {M_nextValue : Nat → Int64} {M_nextSets : Nat → Int64} {M_nextTimes : Nat → Int64} (C : gC X (gT cA) cX4_finds 12 RX4 wsX4_finds rmX4_finds) (E : gEv X none (gT cA) 0 0 post (w1X4_finds ad cA M_thrown M_trace M_w M_h M_sides M_held M_price M_rules)) (h : (x4 ≤ x7 → atX4_finds_347 X ad cA x1 x2 x4 x5 (0 : Int32) M_thrown M_trace M_found M_foundSet M_foundTimes M_w M_h M_sides M_held M_price M_rules M_ways M_place M_value M_sets M_times M_nextValue M_nextSets M_nextTimes) ∧ (¬ x4 ≤ x7 → atX4_finds_160 X ad cA x1 x2 x4 x5 x6 x7 (0 : Int32) M_thrown M_trace M_found M_foundSet M_foundTimes M_w M_h M_sides M_held M_price M_rules M_ways M_place M_value M_sets M_times M_nextValue M_nextSets M_nextTimes)) : atX4_finds_150 X ad cA x1 x2 x4 x5 x6 x7 M_thrown M_trace M_found M_foundSet M_foundTimes M_w M_h M_sides M_held M_price M_rules M_ways M_place M_value M_sets M_times M_nextValue M_nextSets M_nextTimes := by
  refine g_iload C dX4_finds_150 6 rfl ?_
  refine g_iload C dX4_finds_152 3 rfl ?_
  refine g_icmp_ge (tgt := 344) C dX4_finds_154 (by decide) (fun c_25 => ?_) (fun c_25 => ?_)
  · replace h := h.1 c_25
    refine g_iconst C dX4_finds_344 ik_0 ?_
    refine g_istore (lv2 := [(0, .ref (ad 19)), (1, .int x1), (2, .int x2), (4, .int x4), (5, .int x5), (6, .int x6), (7, .int (0 : Int32))]) C dX4_finds_345 (by decide) [1, 2, 3, 4, 5, 6, 0] rfl ?_
    exact g_lv [0, 1, 2, 3, 4, 6] rfl h
  · replace h := h.2 c_25
    refine g_iconst C dX4_finds_157 ik_0 ?_
    refine g_istore (lv2 := [(0, .ref (ad 19)), (1, .int x1), (2, .int x2), (4, .int x4), (5, .int x5), (6, .int x6), (7, .int x7), (8, .int (0 : Int32))]) C dX4_finds_158 (by decide) [1, 2, 3, 4, 5, 6, 7, 0] rfl ?_
    exact g_lv [0, 1, 2, 3, 4, 5, 6, 7] rfl h
set_option maxHeartbeats 4000000 in
set_option maxRecDepth 100000 in
theorem sgX4_finds_160 {X : gX} {ad : Nat → Nat} {cA : Nat → ClassId} {post : ((Int64) × (Int64) × (Int64) × (Nat → Int32) × (Nat → Int32) × (Nat → Int64) × (Nat → Int64) × (Nat → Int64) × (Nat → Int64) × (Nat → Int64) × (Nat → Int64)) → Prop} {x1 : Int32} {x2 : Int32} {x4 : Int32} {x5 : Int32} {x6 : Int32} {x7 : Int32} {x8 : Int32} {M_thrown : Int32} {M_trace : Int64} {M_found : Int64} {M_foundSet : Int64} {M_foundTimes : Int64} {M_w : Int32} {M_h : Int32} {M_sides : Nat → Int32} {M_held : Nat → Int32} {M_price : Nat → Int32} {M_rules : Nat → Int32} {M_ways : Nat → Int32} {M_place : Nat → Int32} {M_value : Nat → Int64} {M_sets : Nat → Int64} {M_times : Nat → Int64} {M_nextValue : Nat → Int64} {M_nextSets : Nat → Int64} {M_nextTimes : Nat → Int64} (C : gC X (gT cA) cX4_finds 12 RX4 wsX4_finds rmX4_finds) (E : gEv X none (gT cA) 0 0 post (w1X4_finds ad cA M_thrown M_trace M_w M_h M_sides M_held M_price M_rules)) (h : ((2 : Int32) ≤ x8 → atX4_finds_150 X ad cA x1 x2 x4 x5 x6 (x7 + 1) M_thrown M_trace M_found M_foundSet M_foundTimes M_w M_h M_sides M_held M_price M_rules M_ways M_place M_value M_sets M_times M_nextValue M_nextSets M_nextTimes) ∧ (¬ (2 : Int32) ≤ x8 → vp_in x7 512 ∧ ((4000000000000000 : Int64) ≤ (M_value x7.toNatClampNeg) → atX4_finds_160 X ad cA x1 x2 x4 x5 x6 x7 (x8 + 1) M_thrown M_trace M_found M_foundSet M_foundTimes M_w M_h M_sides M_held M_price M_rules M_ways M_place M_value M_sets M_times M_nextValue M_nextSets M_nextTimes) ∧ (¬ (4000000000000000 : Int64) ≤ (M_value x7.toNatClampNeg) → vp_in x6 36 ∧ ((M_held x6.toNatClampNeg) = ((1 : Int32) + x8) → atX4_finds_160 X ad cA x1 x2 x4 x5 x6 x7 (x8 + 1) M_thrown M_trace M_found M_foundSet M_foundTimes M_w M_h M_sides M_held M_price M_rules M_ways M_place M_value M_sets M_times M_nextValue M_nextSets M_nextTimes) ∧ (¬ (M_held x6.toNatClampNeg) = ((1 : Int32) + x8) → ∀ x9_31 : Int32, x9_31 = (((x7 <<< ((1 : Int32) &&& 31)) ||| x8) &&& (x4 - (1 : Int32))) → vp_in x7 512 ∧ ∃ (dx_33 : Nat) (dy_33 : Nat) (dz_33 : Nat) (w0_33 : Nat) (w1_33 : Nat) (w2_33 : Nat) (k_33 : Nat) (ro_33 : Nat) (b_33 : Bool), prX4_adds dx_33 dy_33 dz_33 w0_33 w1_33 w2_33 k_33 ro_33 b_33 x6 x7 x8 x1 M_thrown M_trace M_found M_foundSet M_foundTimes M_w M_h M_sides M_price M_rules M_ways M_place ∧ ∀ (r_35 : Int32), po_X4_adds ad cA dx_33 dy_33 dz_33 w0_33 w1_33 w2_33 k_33 ro_33 b_33 x6 x7 x8 x1 M_thrown M_trace M_found M_foundSet M_foundTimes M_w M_h M_sides M_price M_rules M_ways M_place r_35 () → ∀ x10_37 : Int64, x10_37 = (((M_value x7.toNatClampNeg) + ((64 : Int64) * r_35.toInt64)) + ((if x8 = (1 : Int32) then x2 else (0 : Int32)).toInt64)) → vp_in x9_31 512 ∧ ((M_nextValue x9_31.toNatClampNeg) ≤ x10_37 → vp_in x9_31 512 ∧ vp_in x9_31 512 ∧ ((¬ x10_37 = (M_nextValue x9_31.toNatClampNeg) → True) ∧ (x10_37 = (M_nextValue x9_31.toNatClampNeg) → vp_in x7 512)) ∧ vp_in x9_31 512 ∧ atX4_finds_160 X ad cA x1 x2 x4 x5 x6 x7 (x8 + 1) M_thrown M_trace M_found M_foundSet M_foundTimes M_w M_h M_sides M_held M_price M_rules M_ways M_place M_value M_sets M_times M_nextValue M_nextSets (vp_updL M_nextTimes x9_31.toNatClampNeg ((M_nextTimes x9_31.toNatClampNeg) + (if x10_37 = (M_nextValue x9_31.toNatClampNeg) then (M_times x7.toNatClampNeg) else (0 : Int64))))) ∧ (¬ (M_nextValue x9_31.toNatClampNeg) ≤ x10_37 → vp_in x9_31 512 ∧ vp_in x7 512 ∧ vp_in x9_31 512 ∧ vp_in x9_31 512 ∧ vp_in x9_31 512 ∧ vp_in x9_31 512 ∧ ((¬ x10_37 = ((vp_updL M_nextValue x9_31.toNatClampNeg x10_37) x9_31.toNatClampNeg) → True) ∧ (x10_37 = ((vp_updL M_nextValue x9_31.toNatClampNeg x10_37) x9_31.toNatClampNeg) → vp_in x7 512)) ∧ vp_in x9_31 512 ∧ atX4_finds_160 X ad cA x1 x2 x4 x5 x6 x7 (x8 + 1) M_thrown M_trace M_found M_foundSet M_foundTimes M_w M_h M_sides M_held M_price M_rules M_ways M_place M_value M_sets M_times (vp_updL M_nextValue x9_31.toNatClampNeg x10_37) (vp_updL M_nextSets x9_31.toNatClampNeg ((M_sets x7.toNatClampNeg) ||| (x8.toInt64 <<< (x6.toInt64 &&& 63)))) (vp_updL (vp_updL M_nextTimes x9_31.toNatClampNeg (0 : Int64)) x9_31.toNatClampNeg (((vp_updL M_nextTimes x9_31.toNatClampNeg (0 : Int64)) x9_31.toNatClampNeg) + (if x10_37 = ((vp_updL M_nextValue x9_31.toNatClampNeg x10_37) x9_31.toNatClampNeg) then (M_times x7.toNatClampNeg) else (0 : Int64))))))))) : atX4_finds_160 X ad cA x1 x2 x4 x5 x6 x7 x8 M_thrown M_trace M_found M_foundSet M_foundTimes M_w M_h M_sides M_held M_price M_rules M_ways M_place M_value M_sets M_times M_nextValue M_nextSets M_nextTimes := by
  refine g_iload C dX4_finds_160 7 rfl ?_
  refine g_iconst C dX4_finds_162 ik_2 ?_
  refine g_icmp_ge (tgt := 338) C dX4_finds_163 (by decide) (fun c_26 => ?_) (fun c_26 => ?_)
  · replace h := h.1 c_26
    refine g_iinc (v := (x7 + 1)) (lv2 := [(0, .ref (ad 19)), (1, .int x1), (2, .int x2), (4, .int x4), (5, .int x5), (6, .int x6), (7, .int (x7 + 1)), (8, .int x8)]) C dX4_finds_338 6 rfl (by first | rfl | decide) (by decide) [1, 2, 3, 4, 5, 6, 0, 7] rfl ?_
    refine g_goto (tgt := 150) C dX4_finds_341 (by decide) ?_
    exact g_lv [0, 1, 2, 3, 4, 5, 6] rfl h
  · replace h := h.2 c_26
    refine g_aload_n C dX4_finds_166 rfl 0 rfl ?_
    refine g_get C gfX4_finds_28 0 rfl rfl dX4_finds_167 ?_
    refine g_iload C dX4_finds_170 6 rfl ?_
    obtain ⟨hi_27, h⟩ := h
    refine g_lald C 7 1 rfl rfl hi_27 dX4_finds_172 ?_
    refine g_ldc2_w C cnX4_finds_133 dX4_finds_173 ?_
    refine g_lcmp_ge (tgt := 332) C dX4_finds_176 dX4_finds_177 rfl (by decide) (fun c_28 => ?_) (fun c_28 => ?_)
    · replace h := h.1 c_28
      refine g_iinc (v := (x8 + 1)) (lv2 := [(0, .ref (ad 19)), (1, .int x1), (2, .int x2), (4, .int x4), (5, .int x5), (6, .int x6), (7, .int x7), (8, .int (x8 + 1))]) C dX4_finds_332 7 rfl (by first | rfl | decide) (by decide) [1, 2, 3, 4, 5, 6, 7, 0] rfl ?_
      refine g_goto (tgt := 160) C dX4_finds_335 (by decide) ?_
      exact g_lv [0, 1, 2, 3, 4, 5, 6, 7] rfl h
    · replace h := h.2 c_28
      refine g_aload_n C dX4_finds_180 rfl 0 rfl ?_
      refine g_get C gfX4_finds_13 0 rfl rfl dX4_finds_181 ?_
      refine g_iload C dX4_finds_184 5 rfl ?_
      obtain ⟨hi_29, h⟩ := h
      refine g_iald C 2 0 rfl rfl hi_29 dX4_finds_186 ?_
      refine g_iconst C dX4_finds_187 ik_1 ?_
      refine g_iload C dX4_finds_188 7 rfl ?_
      refine g_iadd C dX4_finds_190 ?_
      refine g_icmp_eq (tgt := 332) C dX4_finds_191 (by decide) (fun c_30 => ?_) (fun c_30 => ?_)
      · replace h := h.1 c_30
        refine g_iinc (v := (x8 + 1)) (lv2 := [(0, .ref (ad 19)), (1, .int x1), (2, .int x2), (4, .int x4), (5, .int x5), (6, .int x6), (7, .int x7), (8, .int (x8 + 1))]) C dX4_finds_332 7 rfl (by first | rfl | decide) (by decide) [1, 2, 3, 4, 5, 6, 7, 0] rfl ?_
        refine g_goto (tgt := 160) C dX4_finds_335 (by decide) ?_
        exact g_lv [0, 1, 2, 3, 4, 5, 6, 7] rfl h
      · replace h := h.2 c_30
        refine g_iload C dX4_finds_194 6 rfl ?_
        refine g_iconst C dX4_finds_196 ik_1 ?_
        refine g_ishl C dX4_finds_197 ?_
        refine g_iload C dX4_finds_198 7 rfl ?_
        refine g_ior C dX4_finds_200 ?_
        refine g_iload C dX4_finds_201 3 rfl ?_
        refine g_iconst C dX4_finds_203 ik_1 ?_
        refine g_isub C dX4_finds_204 ?_
        refine g_iand C dX4_finds_205 ?_
        refine g_topi (fun x9_31 ex9_31 => ?_)
        replace h := h x9_31 ex9_31
        refine g_istore (lv2 := [(0, .ref (ad 19)), (1, .int x1), (2, .int x2), (4, .int x4), (5, .int x5), (6, .int x6), (7, .int x7), (8, .int x8), (9, .int x9_31)]) C dX4_finds_206 (by decide) [1, 2, 3, 4, 5, 6, 7, 8, 0] rfl ?_
        refine g_aload_n C dX4_finds_208 rfl 0 rfl ?_
        refine g_get C gfX4_finds_28 0 rfl rfl dX4_finds_209 ?_
        refine g_iload C dX4_finds_212 6 rfl ?_
        obtain ⟨hi_32, h⟩ := h
        refine g_lald C 7 1 rfl rfl hi_32 dX4_finds_214 ?_
        refine g_ldc2_w C cnX4_finds_138 dX4_finds_215 ?_
        refine g_aload_n C dX4_finds_218 rfl 0 rfl ?_
        refine g_iload C dX4_finds_219 5 rfl ?_
        refine g_iload C dX4_finds_221 6 rfl ?_
        refine g_iload C dX4_finds_223 7 rfl ?_
        refine g_iload_n C dX4_finds_225 rfl 1 rfl ?_
        obtain ⟨dx_33, dy_33, dz_33, w0_33, w1_33, w2_33, k_33, ro_33, b_33, h⟩ := h
        obtain ⟨hi_34, h⟩ := h
        refine g_callVi (wr := [((ad 21), .inl (cA 0, 36, .inl M_held)), ((ad 26), .inl (cA 1, 512, .inr (.inl M_value))), ((ad 27), .inl (cA 1, 512, .inr (.inl M_sets))), ((ad 28), .inl (cA 1, 512, .inr (.inl M_times))), ((ad 29), .inl (cA 1, 512, .inr (.inl M_nextValue))), ((ad 30), .inl (cA 1, 512, .inr (.inl M_nextSets))), ((ad 31), .inl (cA 1, 512, .inr (.inl M_nextTimes)))]) C (c_X4_adds ad cA dx_33 dy_33 dz_33 w0_33 w1_33 w2_33 k_33 ro_33 b_33 x6 x7 x8 x1 M_thrown M_trace M_found M_foundSet M_foundTimes M_w M_h M_sides M_price M_rules M_ways M_place hi_34) gX4_finds_X4_adds rfl hde_X4_adds ⟨rfl, rfl⟩ (by decide) (by decide) [0, 1, 3, 4, 5, 6] [2, 7, 8, 9, 10, 11, 12] [7, 8, 0, 9, 10, 11, 12, 1, 2, 3, 4, 5, 6] rfl rfl rfl rfl (by decide) rfl (ws2 := fun u => [((ad 19), .inr (4, [.int M_thrown, .long M_trace, .ref (ad 20), .ref (ad 21), .ref (ad 22), .ref (ad 23), .ref (ad 24), .ref (ad 25), .ref (ad 26), .ref (ad 27), .ref (ad 28), .ref (ad 29), .ref (ad 30), .ref (ad 31), .long M_found, .long M_foundSet, .long M_foundTimes, .int M_w, .int M_h, .ref (ad 32), .ref (ad 33), .ref (ad 34)])), ((ad 20), .inl (cA 0, 3, .inl M_sides)), ((ad 21), .inl (cA 0, 36, .inl M_held)), ((ad 22), .inl (cA 0, 36, .inl M_price)), ((ad 23), .inl (cA 0, 7, .inl M_rules)), ((ad 24), .inl (cA 0, 3, .inl M_ways)), ((ad 25), .inl (cA 0, 3, .inl M_place)), ((ad 26), .inl (cA 1, 512, .inr (.inl M_value))), ((ad 27), .inl (cA 1, 512, .inr (.inl M_sets))), ((ad 28), .inl (cA 1, 512, .inr (.inl M_times))), ((ad 29), .inl (cA 1, 512, .inr (.inl M_nextValue))), ((ad 30), .inl (cA 1, 512, .inr (.inl M_nextSets))), ((ad 31), .inl (cA 1, 512, .inr (.inl M_nextTimes)))]) (fun _ => rfl) 4 0 rfl rfl rfl (rest := [.long (64 : Int64), .long (M_value x7.toNatClampNeg)]) rfl (Nat.le_of_ble_eq_true rfl) dX4_finds_226 (fun r_35 u_35 hp_35 => ?_)
        replace h := h r_35 hp_35
        change gW X 0 0 [((ad 19), .inr (4, [.int M_thrown, .long M_trace, .ref (ad 20), .ref (ad 21), .ref (ad 22), .ref (ad 23), .ref (ad 24), .ref (ad 25), .ref (ad 26), .ref (ad 27), .ref (ad 28), .ref (ad 29), .ref (ad 30), .ref (ad 31), .long M_found, .long M_foundSet, .long M_foundTimes, .int M_w, .int M_h, .ref (ad 32), .ref (ad 33), .ref (ad 34)])), ((ad 20), .inl (cA 0, 3, .inl M_sides)), ((ad 21), .inl (cA 0, 36, .inl M_held)), ((ad 22), .inl (cA 0, 36, .inl M_price)), ((ad 23), .inl (cA 0, 7, .inl M_rules)), ((ad 24), .inl (cA 0, 3, .inl M_ways)), ((ad 25), .inl (cA 0, 3, .inl M_place)), ((ad 26), .inl (cA 1, 512, .inr (.inl M_value))), ((ad 27), .inl (cA 1, 512, .inr (.inl M_sets))), ((ad 28), .inl (cA 1, 512, .inr (.inl M_times))), ((ad 29), .inl (cA 1, 512, .inr (.inl M_nextValue))), ((ad 30), .inl (cA 1, 512, .inr (.inl M_nextSets))), ((ad 31), .inl (cA 1, 512, .inr (.inl M_nextTimes)))] 12 [(0, .ref (ad 19)), (1, .int x1), (2, .int x2), (4, .int x4), (5, .int x5), (6, .int x6), (7, .int x7), (8, .int x8), (9, .int x9_31)] [.int r_35, .long (64 : Int64), .long (M_value x7.toNatClampNeg)] 229
        refine g_i2l C dX4_finds_229 ?_
        refine g_lmul C dX4_finds_230 ?_
        refine g_ladd C dX4_finds_231 ?_
        refine g_iload C dX4_finds_232 7 rfl ?_
        refine g_iconst C dX4_finds_234 ik_1 ?_
        have key : gW X 0 0 [((ad 19), .inr (4, [.int M_thrown, .long M_trace, .ref (ad 20), .ref (ad 21), .ref (ad 22), .ref (ad 23), .ref (ad 24), .ref (ad 25), .ref (ad 26), .ref (ad 27), .ref (ad 28), .ref (ad 29), .ref (ad 30), .ref (ad 31), .long M_found, .long M_foundSet, .long M_foundTimes, .int M_w, .int M_h, .ref (ad 32), .ref (ad 33), .ref (ad 34)])), ((ad 20), .inl (cA 0, 3, .inl M_sides)), ((ad 21), .inl (cA 0, 36, .inl M_held)), ((ad 22), .inl (cA 0, 36, .inl M_price)), ((ad 23), .inl (cA 0, 7, .inl M_rules)), ((ad 24), .inl (cA 0, 3, .inl M_ways)), ((ad 25), .inl (cA 0, 3, .inl M_place)), ((ad 26), .inl (cA 1, 512, .inr (.inl M_value))), ((ad 27), .inl (cA 1, 512, .inr (.inl M_sets))), ((ad 28), .inl (cA 1, 512, .inr (.inl M_times))), ((ad 29), .inl (cA 1, 512, .inr (.inl M_nextValue))), ((ad 30), .inl (cA 1, 512, .inr (.inl M_nextSets))), ((ad 31), .inl (cA 1, 512, .inr (.inl M_nextTimes)))] 12 [(0, .ref (ad 19)), (1, .int x1), (2, .int x2), (4, .int x4), (5, .int x5), (6, .int x6), (7, .int x7), (8, .int x8), (9, .int x9_31)] [.int (if x8 = (1 : Int32) then x2 else (0 : Int32)), .long ((M_value x7.toNatClampNeg) + ((64 : Int64) * r_35.toInt64))] 243 := by
          refine g_i2l C dX4_finds_243 ?_
          refine g_ladd C dX4_finds_244 ?_
          refine g_topl (fun x10_37 ex10_37 => ?_)
          replace h := h x10_37 ex10_37
          refine g_lstore (lv2 := [(0, .ref (ad 19)), (1, .int x1), (2, .int x2), (4, .int x4), (5, .int x5), (6, .int x6), (7, .int x7), (8, .int x8), (9, .int x9_31), (10, .long x10_37)]) C dX4_finds_245 (by decide) [1, 2, 3, 4, 5, 6, 7, 8, 9, 0] rfl ?_
          refine g_lload C dX4_finds_247 9 rfl ?_
          refine g_aload_n C dX4_finds_249 rfl 0 rfl ?_
          refine g_get C gfX4_finds_38 0 rfl rfl dX4_finds_250 ?_
          refine g_iload C dX4_finds_253 8 rfl ?_
          obtain ⟨hi_38, h⟩ := h
          refine g_lald C 10 1 rfl rfl hi_38 dX4_finds_255 ?_
          refine g_lcmp_ge (tgt := 298) C dX4_finds_256 dX4_finds_257 rfl (by decide) (fun c_39 => ?_) (fun c_39 => ?_)
          · replace h := h.1 c_39
            refine g_aload_n C dX4_finds_298 rfl 0 rfl ?_
            refine g_get C gfX4_finds_44 0 rfl rfl dX4_finds_299 ?_
            refine g_iload C dX4_finds_302 8 rfl ?_
            refine g_dup2_11 C dX4_finds_304 rfl rfl ?_
            obtain ⟨hi_40, h⟩ := h
            refine g_lald C 12 1 rfl rfl hi_40 dX4_finds_305 ?_
            refine g_lload C dX4_finds_306 9 rfl ?_
            refine g_aload_n C dX4_finds_308 rfl 0 rfl ?_
            refine g_get C gfX4_finds_38 0 rfl rfl dX4_finds_309 ?_
            refine g_iload C dX4_finds_312 8 rfl ?_
            obtain ⟨hi_41, h⟩ := h
            refine g_lald C 10 1 rfl rfl hi_41 dX4_finds_314 ?_
            obtain ⟨hr_330, h⟩ := h
            have key : gW X 0 0 [((ad 19), .inr (4, [.int M_thrown, .long M_trace, .ref (ad 20), .ref (ad 21), .ref (ad 22), .ref (ad 23), .ref (ad 24), .ref (ad 25), .ref (ad 26), .ref (ad 27), .ref (ad 28), .ref (ad 29), .ref (ad 30), .ref (ad 31), .long M_found, .long M_foundSet, .long M_foundTimes, .int M_w, .int M_h, .ref (ad 32), .ref (ad 33), .ref (ad 34)])), ((ad 20), .inl (cA 0, 3, .inl M_sides)), ((ad 21), .inl (cA 0, 36, .inl M_held)), ((ad 22), .inl (cA 0, 36, .inl M_price)), ((ad 23), .inl (cA 0, 7, .inl M_rules)), ((ad 24), .inl (cA 0, 3, .inl M_ways)), ((ad 25), .inl (cA 0, 3, .inl M_place)), ((ad 26), .inl (cA 1, 512, .inr (.inl M_value))), ((ad 27), .inl (cA 1, 512, .inr (.inl M_sets))), ((ad 28), .inl (cA 1, 512, .inr (.inl M_times))), ((ad 29), .inl (cA 1, 512, .inr (.inl M_nextValue))), ((ad 30), .inl (cA 1, 512, .inr (.inl M_nextSets))), ((ad 31), .inl (cA 1, 512, .inr (.inl M_nextTimes)))] 12 [(0, .ref (ad 19)), (1, .int x1), (2, .int x2), (4, .int x4), (5, .int x5), (6, .int x6), (7, .int x7), (8, .int x8), (9, .int x9_31), (10, .long x10_37)] [.long (if x10_37 = (M_nextValue x9_31.toNatClampNeg) then (M_times x7.toNatClampNeg) else (0 : Int64)), .long (M_nextTimes x9_31.toNatClampNeg), .int x9_31, .ref (ad 31)] 330 := by
              refine g_ladd C dX4_finds_330 ?_
              obtain ⟨hi_44, h⟩ := h
              refine g_last (ws2 := [((ad 19), .inr (4, [.int M_thrown, .long M_trace, .ref (ad 20), .ref (ad 21), .ref (ad 22), .ref (ad 23), .ref (ad 24), .ref (ad 25), .ref (ad 26), .ref (ad 27), .ref (ad 28), .ref (ad 29), .ref (ad 30), .ref (ad 31), .long M_found, .long M_foundSet, .long M_foundTimes, .int M_w, .int M_h, .ref (ad 32), .ref (ad 33), .ref (ad 34)])), ((ad 20), .inl (cA 0, 3, .inl M_sides)), ((ad 21), .inl (cA 0, 36, .inl M_held)), ((ad 22), .inl (cA 0, 36, .inl M_price)), ((ad 23), .inl (cA 0, 7, .inl M_rules)), ((ad 24), .inl (cA 0, 3, .inl M_ways)), ((ad 25), .inl (cA 0, 3, .inl M_place)), ((ad 26), .inl (cA 1, 512, .inr (.inl M_value))), ((ad 27), .inl (cA 1, 512, .inr (.inl M_sets))), ((ad 28), .inl (cA 1, 512, .inr (.inl M_times))), ((ad 29), .inl (cA 1, 512, .inr (.inl M_nextValue))), ((ad 30), .inl (cA 1, 512, .inr (.inl M_nextSets))), ((ad 31), .inl (cA 1, 512, .inr (.inl (vp_updL M_nextTimes x9_31.toNatClampNeg ((M_nextTimes x9_31.toNatClampNeg) + (if x10_37 = (M_nextValue x9_31.toNatClampNeg) then (M_times x7.toNatClampNeg) else (0 : Int64)))))))]) C 12 1 rfl rfl hi_44 rfl dX4_finds_331 ?_
              refine g_iinc (v := (x8 + 1)) (lv2 := [(0, .ref (ad 19)), (1, .int x1), (2, .int x2), (4, .int x4), (5, .int x5), (6, .int x6), (7, .int x7), (8, .int (x8 + 1)), (9, .int x9_31), (10, .long x10_37)]) C dX4_finds_332 7 rfl (by first | rfl | decide) (by decide) [1, 2, 3, 4, 5, 6, 7, 0, 8, 9] rfl ?_
              refine g_goto (tgt := 160) C dX4_finds_335 (by decide) ?_
              exact g_lv [0, 1, 2, 3, 4, 5, 6, 7] rfl h
            replace h := hr_330
            refine g_lcmp_ne (tgt := 329) C dX4_finds_315 dX4_finds_316 rfl (by decide) (fun c_42 => ?_) (fun c_42 => ?_)
            · replace h := h.1 c_42
              refine g_lconst C dX4_finds_329 lk_0 ?_
              exact g_leaf (by simp only [if_neg c_42] at key; first | exact key | (simp only [if_neg c_42]; exact key) | exact absurd rfl c_42)
            · replace h := h.2 c_42
              refine g_aload_n C dX4_finds_319 rfl 0 rfl ?_
              refine g_get C gfX4_finds_35 0 rfl rfl dX4_finds_320 ?_
              refine g_iload C dX4_finds_323 6 rfl ?_
              have hi_43 := h
              refine g_lald C 9 1 rfl rfl hi_43 dX4_finds_325 ?_
              refine g_goto (tgt := 330) C dX4_finds_326 (by decide) ?_
              exact g_leaf (by simp only [if_pos c_42] at key; first | exact key | (simp only [if_pos c_42]; exact key) | exact absurd rfl c_42)
          · replace h := h.2 c_39
            refine g_aload_n C dX4_finds_260 rfl 0 rfl ?_
            refine g_get C gfX4_finds_38 0 rfl rfl dX4_finds_261 ?_
            refine g_iload C dX4_finds_264 8 rfl ?_
            refine g_lload C dX4_finds_266 9 rfl ?_
            obtain ⟨hi_45, h⟩ := h
            refine g_last (ws2 := [((ad 19), .inr (4, [.int M_thrown, .long M_trace, .ref (ad 20), .ref (ad 21), .ref (ad 22), .ref (ad 23), .ref (ad 24), .ref (ad 25), .ref (ad 26), .ref (ad 27), .ref (ad 28), .ref (ad 29), .ref (ad 30), .ref (ad 31), .long M_found, .long M_foundSet, .long M_foundTimes, .int M_w, .int M_h, .ref (ad 32), .ref (ad 33), .ref (ad 34)])), ((ad 20), .inl (cA 0, 3, .inl M_sides)), ((ad 21), .inl (cA 0, 36, .inl M_held)), ((ad 22), .inl (cA 0, 36, .inl M_price)), ((ad 23), .inl (cA 0, 7, .inl M_rules)), ((ad 24), .inl (cA 0, 3, .inl M_ways)), ((ad 25), .inl (cA 0, 3, .inl M_place)), ((ad 26), .inl (cA 1, 512, .inr (.inl M_value))), ((ad 27), .inl (cA 1, 512, .inr (.inl M_sets))), ((ad 28), .inl (cA 1, 512, .inr (.inl M_times))), ((ad 29), .inl (cA 1, 512, .inr (.inl (vp_updL M_nextValue x9_31.toNatClampNeg x10_37)))), ((ad 30), .inl (cA 1, 512, .inr (.inl M_nextSets))), ((ad 31), .inl (cA 1, 512, .inr (.inl M_nextTimes)))]) C 10 1 rfl rfl hi_45 rfl dX4_finds_268 ?_
            refine g_aload_n C dX4_finds_269 rfl 0 rfl ?_
            refine g_get C gfX4_finds_41 0 rfl rfl dX4_finds_270 ?_
            refine g_iload C dX4_finds_273 8 rfl ?_
            refine g_aload_n C dX4_finds_275 rfl 0 rfl ?_
            refine g_get C gfX4_finds_32 0 rfl rfl dX4_finds_276 ?_
            refine g_iload C dX4_finds_279 6 rfl ?_
            obtain ⟨hi_46, h⟩ := h
            refine g_lald C 8 1 rfl rfl hi_46 dX4_finds_281 ?_
            refine g_iload C dX4_finds_282 7 rfl ?_
            refine g_i2l C dX4_finds_284 ?_
            refine g_iload C dX4_finds_285 5 rfl ?_
            refine g_lshl C dX4_finds_287 ?_
            refine g_lor C dX4_finds_288 ?_
            obtain ⟨hi_47, h⟩ := h
            refine g_last (ws2 := [((ad 19), .inr (4, [.int M_thrown, .long M_trace, .ref (ad 20), .ref (ad 21), .ref (ad 22), .ref (ad 23), .ref (ad 24), .ref (ad 25), .ref (ad 26), .ref (ad 27), .ref (ad 28), .ref (ad 29), .ref (ad 30), .ref (ad 31), .long M_found, .long M_foundSet, .long M_foundTimes, .int M_w, .int M_h, .ref (ad 32), .ref (ad 33), .ref (ad 34)])), ((ad 20), .inl (cA 0, 3, .inl M_sides)), ((ad 21), .inl (cA 0, 36, .inl M_held)), ((ad 22), .inl (cA 0, 36, .inl M_price)), ((ad 23), .inl (cA 0, 7, .inl M_rules)), ((ad 24), .inl (cA 0, 3, .inl M_ways)), ((ad 25), .inl (cA 0, 3, .inl M_place)), ((ad 26), .inl (cA 1, 512, .inr (.inl M_value))), ((ad 27), .inl (cA 1, 512, .inr (.inl M_sets))), ((ad 28), .inl (cA 1, 512, .inr (.inl M_times))), ((ad 29), .inl (cA 1, 512, .inr (.inl (vp_updL M_nextValue x9_31.toNatClampNeg x10_37)))), ((ad 30), .inl (cA 1, 512, .inr (.inl (vp_updL M_nextSets x9_31.toNatClampNeg ((M_sets x7.toNatClampNeg) ||| (x8.toInt64 <<< (x6.toInt64 &&& 63))))))), ((ad 31), .inl (cA 1, 512, .inr (.inl M_nextTimes)))]) C 11 1 rfl rfl hi_47 rfl dX4_finds_289 ?_
            refine g_aload_n C dX4_finds_290 rfl 0 rfl ?_
            refine g_get C gfX4_finds_44 0 rfl rfl dX4_finds_291 ?_
            refine g_iload C dX4_finds_294 8 rfl ?_
            refine g_lconst C dX4_finds_296 lk_0 ?_
            obtain ⟨hi_48, h⟩ := h
            refine g_last (ws2 := [((ad 19), .inr (4, [.int M_thrown, .long M_trace, .ref (ad 20), .ref (ad 21), .ref (ad 22), .ref (ad 23), .ref (ad 24), .ref (ad 25), .ref (ad 26), .ref (ad 27), .ref (ad 28), .ref (ad 29), .ref (ad 30), .ref (ad 31), .long M_found, .long M_foundSet, .long M_foundTimes, .int M_w, .int M_h, .ref (ad 32), .ref (ad 33), .ref (ad 34)])), ((ad 20), .inl (cA 0, 3, .inl M_sides)), ((ad 21), .inl (cA 0, 36, .inl M_held)), ((ad 22), .inl (cA 0, 36, .inl M_price)), ((ad 23), .inl (cA 0, 7, .inl M_rules)), ((ad 24), .inl (cA 0, 3, .inl M_ways)), ((ad 25), .inl (cA 0, 3, .inl M_place)), ((ad 26), .inl (cA 1, 512, .inr (.inl M_value))), ((ad 27), .inl (cA 1, 512, .inr (.inl M_sets))), ((ad 28), .inl (cA 1, 512, .inr (.inl M_times))), ((ad 29), .inl (cA 1, 512, .inr (.inl (vp_updL M_nextValue x9_31.toNatClampNeg x10_37)))), ((ad 30), .inl (cA 1, 512, .inr (.inl (vp_updL M_nextSets x9_31.toNatClampNeg ((M_sets x7.toNatClampNeg) ||| (x8.toInt64 <<< (x6.toInt64 &&& 63))))))), ((ad 31), .inl (cA 1, 512, .inr (.inl (vp_updL M_nextTimes x9_31.toNatClampNeg (0 : Int64)))))]) C 12 1 rfl rfl hi_48 rfl dX4_finds_297 ?_
            refine g_aload_n C dX4_finds_298 rfl 0 rfl ?_
            refine g_get C gfX4_finds_44 0 rfl rfl dX4_finds_299 ?_
            refine g_iload C dX4_finds_302 8 rfl ?_
            refine g_dup2_11 C dX4_finds_304 rfl rfl ?_
            obtain ⟨hi_49, h⟩ := h
            refine g_lald C 12 1 rfl rfl hi_49 dX4_finds_305 ?_
            refine g_lload C dX4_finds_306 9 rfl ?_
            refine g_aload_n C dX4_finds_308 rfl 0 rfl ?_
            refine g_get C gfX4_finds_38 0 rfl rfl dX4_finds_309 ?_
            refine g_iload C dX4_finds_312 8 rfl ?_
            obtain ⟨hi_50, h⟩ := h
            refine g_lald C 10 1 rfl rfl hi_50 dX4_finds_314 ?_
            obtain ⟨hr_330, h⟩ := h
            have key : gW X 0 0 [((ad 19), .inr (4, [.int M_thrown, .long M_trace, .ref (ad 20), .ref (ad 21), .ref (ad 22), .ref (ad 23), .ref (ad 24), .ref (ad 25), .ref (ad 26), .ref (ad 27), .ref (ad 28), .ref (ad 29), .ref (ad 30), .ref (ad 31), .long M_found, .long M_foundSet, .long M_foundTimes, .int M_w, .int M_h, .ref (ad 32), .ref (ad 33), .ref (ad 34)])), ((ad 20), .inl (cA 0, 3, .inl M_sides)), ((ad 21), .inl (cA 0, 36, .inl M_held)), ((ad 22), .inl (cA 0, 36, .inl M_price)), ((ad 23), .inl (cA 0, 7, .inl M_rules)), ((ad 24), .inl (cA 0, 3, .inl M_ways)), ((ad 25), .inl (cA 0, 3, .inl M_place)), ((ad 26), .inl (cA 1, 512, .inr (.inl M_value))), ((ad 27), .inl (cA 1, 512, .inr (.inl M_sets))), ((ad 28), .inl (cA 1, 512, .inr (.inl M_times))), ((ad 29), .inl (cA 1, 512, .inr (.inl (vp_updL M_nextValue x9_31.toNatClampNeg x10_37)))), ((ad 30), .inl (cA 1, 512, .inr (.inl (vp_updL M_nextSets x9_31.toNatClampNeg ((M_sets x7.toNatClampNeg) ||| (x8.toInt64 <<< (x6.toInt64 &&& 63))))))), ((ad 31), .inl (cA 1, 512, .inr (.inl (vp_updL M_nextTimes x9_31.toNatClampNeg (0 : Int64)))))] 12 [(0, .ref (ad 19)), (1, .int x1), (2, .int x2), (4, .int x4), (5, .int x5), (6, .int x6), (7, .int x7), (8, .int x8), (9, .int x9_31), (10, .long x10_37)] [.long (if x10_37 = ((vp_updL M_nextValue x9_31.toNatClampNeg x10_37) x9_31.toNatClampNeg) then (M_times x7.toNatClampNeg) else (0 : Int64)), .long ((vp_updL M_nextTimes x9_31.toNatClampNeg (0 : Int64)) x9_31.toNatClampNeg), .int x9_31, .ref (ad 31)] 330 := by
              refine g_ladd C dX4_finds_330 ?_
              obtain ⟨hi_53, h⟩ := h
              refine g_last (ws2 := [((ad 19), .inr (4, [.int M_thrown, .long M_trace, .ref (ad 20), .ref (ad 21), .ref (ad 22), .ref (ad 23), .ref (ad 24), .ref (ad 25), .ref (ad 26), .ref (ad 27), .ref (ad 28), .ref (ad 29), .ref (ad 30), .ref (ad 31), .long M_found, .long M_foundSet, .long M_foundTimes, .int M_w, .int M_h, .ref (ad 32), .ref (ad 33), .ref (ad 34)])), ((ad 20), .inl (cA 0, 3, .inl M_sides)), ((ad 21), .inl (cA 0, 36, .inl M_held)), ((ad 22), .inl (cA 0, 36, .inl M_price)), ((ad 23), .inl (cA 0, 7, .inl M_rules)), ((ad 24), .inl (cA 0, 3, .inl M_ways)), ((ad 25), .inl (cA 0, 3, .inl M_place)), ((ad 26), .inl (cA 1, 512, .inr (.inl M_value))), ((ad 27), .inl (cA 1, 512, .inr (.inl M_sets))), ((ad 28), .inl (cA 1, 512, .inr (.inl M_times))), ((ad 29), .inl (cA 1, 512, .inr (.inl (vp_updL M_nextValue x9_31.toNatClampNeg x10_37)))), ((ad 30), .inl (cA 1, 512, .inr (.inl (vp_updL M_nextSets x9_31.toNatClampNeg ((M_sets x7.toNatClampNeg) ||| (x8.toInt64 <<< (x6.toInt64 &&& 63))))))), ((ad 31), .inl (cA 1, 512, .inr (.inl (vp_updL (vp_updL M_nextTimes x9_31.toNatClampNeg (0 : Int64)) x9_31.toNatClampNeg (((vp_updL M_nextTimes x9_31.toNatClampNeg (0 : Int64)) x9_31.toNatClampNeg) + (if x10_37 = ((vp_updL M_nextValue x9_31.toNatClampNeg x10_37) x9_31.toNatClampNeg) then (M_times x7.toNatClampNeg) else (0 : Int64)))))))]) C 12 1 rfl rfl hi_53 rfl dX4_finds_331 ?_
              refine g_iinc (v := (x8 + 1)) (lv2 := [(0, .ref (ad 19)), (1, .int x1), (2, .int x2), (4, .int x4), (5, .int x5), (6, .int x6), (7, .int x7), (8, .int (x8 + 1)), (9, .int x9_31), (10, .long x10_37)]) C dX4_finds_332 7 rfl (by first | rfl | decide) (by decide) [1, 2, 3, 4, 5, 6, 7, 0, 8, 9] rfl ?_
              refine g_goto (tgt := 160) C dX4_finds_335 (by decide) ?_
              exact g_lv [0, 1, 2, 3, 4, 5, 6, 7] rfl h
            replace h := hr_330
            refine g_lcmp_ne (tgt := 329) C dX4_finds_315 dX4_finds_316 rfl (by decide) (fun c_51 => ?_) (fun c_51 => ?_)
            · replace h := h.1 c_51
              refine g_lconst C dX4_finds_329 lk_0 ?_
              exact g_leaf (by simp only [if_neg c_51] at key; first | exact key | (simp only [if_neg c_51]; exact key) | exact absurd rfl c_51)
            · replace h := h.2 c_51
              refine g_aload_n C dX4_finds_319 rfl 0 rfl ?_
              refine g_get C gfX4_finds_35 0 rfl rfl dX4_finds_320 ?_
              refine g_iload C dX4_finds_323 6 rfl ?_
              have hi_52 := h
              refine g_lald C 9 1 rfl rfl hi_52 dX4_finds_325 ?_
              refine g_goto (tgt := 330) C dX4_finds_326 (by decide) ?_
              exact g_leaf (by simp only [if_pos c_51] at key; first | exact key | (simp only [if_pos c_51]; exact key) | exact absurd rfl c_51)
        refine g_icmp_ne (tgt := 242) C dX4_finds_235 (by decide) (fun c_36 => ?_) (fun c_36 => ?_)
        · refine g_iconst C dX4_finds_242 ik_0 ?_
          exact g_leaf (by simp only [if_neg c_36] at key; first | exact key | (simp only [if_neg c_36]; exact key) | exact absurd rfl c_36)
        · refine g_iload_n C dX4_finds_238 rfl 2 rfl ?_
          refine g_goto (tgt := 243) C dX4_finds_239 (by decide) ?_
          exact g_leaf (by simp only [if_pos c_36] at key; first | exact key | (simp only [if_pos c_36]; exact key) | exact absurd rfl c_36)
set_option maxHeartbeats 4000000 in
set_option maxRecDepth 100000 in
theorem sgX4_finds_347 {X : gX} {ad : Nat → Nat} {cA : Nat → ClassId} {post : ((Int64) × (Int64) × (Int64) × (Nat → Int32) × (Nat → Int32) × (Nat → Int64) × (Nat → Int64) × (Nat → Int64) × (Nat → Int64) × (Nat → Int64) × (Nat → Int64)) → Prop} {x1 : Int32} {x2 : Int32} {x4 : Int32} {x5 : Int32} {x7 : Int32} {M_thrown : Int32} {M_trace : Int64} {M_found : Int64} {M_foundSet : Int64} {M_foundTimes : Int64} {M_w : Int32} {M_h : Int32} {M_sides : Nat → Int32} {M_held : Nat → Int32} {M_price : Nat → Int32} {M_rules : Nat → Int32} {M_ways : Nat → Int32} {M_place : Nat → Int32} {M_value : Nat → Int64} {M_sets : Nat → Int64} {M_times : Nat → Int64} {M_nextValue : Nat → Int64} {M_nextSets : Nat → Int64} {M_nextTimes : Nat → Int64} (C : gC X (gT cA) cX4_finds 12 RX4 wsX4_finds rmX4_finds) (E : gEv X none (gT cA) 0 0 post (w1X4_finds ad cA M_thrown M_trace M_w M_h M_sides M_held M_price M_rules)) (h : (x4 ≤ x7 → atX4_finds_96 X ad cA x1 x2 x4 (x5 + 1) M_thrown M_trace M_found M_foundSet M_foundTimes M_w M_h M_sides M_held M_price M_rules M_ways M_place M_value M_sets M_times M_nextValue M_nextSets M_nextTimes) ∧ (¬ x4 ≤ x7 → vp_in x7 512 ∧ vp_in x7 512 ∧ vp_in x7 512 ∧ vp_in x7 512 ∧ vp_in x7 512 ∧ vp_in x7 512 ∧ atX4_finds_347 X ad cA x1 x2 x4 x5 (x7 + 1) M_thrown M_trace M_found M_foundSet M_foundTimes M_w M_h M_sides M_held M_price M_rules M_ways M_place (vp_updL M_value x7.toNatClampNeg (M_nextValue x7.toNatClampNeg)) (vp_updL M_sets x7.toNatClampNeg (M_nextSets x7.toNatClampNeg)) (vp_updL M_times x7.toNatClampNeg (M_nextTimes x7.toNatClampNeg)) M_nextValue M_nextSets M_nextTimes)) : atX4_finds_347 X ad cA x1 x2 x4 x5 x7 M_thrown M_trace M_found M_foundSet M_foundTimes M_w M_h M_sides M_held M_price M_rules M_ways M_place M_value M_sets M_times M_nextValue M_nextSets M_nextTimes := by
  refine g_iload C dX4_finds_347 5 rfl ?_
  refine g_iload C dX4_finds_349 3 rfl ?_
  refine g_icmp_ge (tgt := 402) C dX4_finds_351 (by decide) (fun c_54 => ?_) (fun c_54 => ?_)
  · replace h := h.1 c_54
    refine g_iinc (v := (x5 + 1)) (lv2 := [(0, .ref (ad 19)), (1, .int x1), (2, .int x2), (4, .int x4), (5, .int (x5 + 1)), (7, .int x7)]) C dX4_finds_402 4 rfl (by first | rfl | decide) (by decide) [1, 2, 3, 4, 0, 5] rfl ?_
    refine g_goto (tgt := 96) C dX4_finds_405 (by decide) ?_
    exact g_lv [0, 1, 2, 3, 4] rfl h
  · replace h := h.2 c_54
    refine g_aload_n C dX4_finds_354 rfl 0 rfl ?_
    refine g_get C gfX4_finds_28 0 rfl rfl dX4_finds_355 ?_
    refine g_iload C dX4_finds_358 5 rfl ?_
    refine g_aload_n C dX4_finds_360 rfl 0 rfl ?_
    refine g_get C gfX4_finds_38 0 rfl rfl dX4_finds_361 ?_
    refine g_iload C dX4_finds_364 5 rfl ?_
    obtain ⟨hi_55, h⟩ := h
    refine g_lald C 10 1 rfl rfl hi_55 dX4_finds_366 ?_
    obtain ⟨hi_56, h⟩ := h
    refine g_last (ws2 := [((ad 19), .inr (4, [.int M_thrown, .long M_trace, .ref (ad 20), .ref (ad 21), .ref (ad 22), .ref (ad 23), .ref (ad 24), .ref (ad 25), .ref (ad 26), .ref (ad 27), .ref (ad 28), .ref (ad 29), .ref (ad 30), .ref (ad 31), .long M_found, .long M_foundSet, .long M_foundTimes, .int M_w, .int M_h, .ref (ad 32), .ref (ad 33), .ref (ad 34)])), ((ad 20), .inl (cA 0, 3, .inl M_sides)), ((ad 21), .inl (cA 0, 36, .inl M_held)), ((ad 22), .inl (cA 0, 36, .inl M_price)), ((ad 23), .inl (cA 0, 7, .inl M_rules)), ((ad 24), .inl (cA 0, 3, .inl M_ways)), ((ad 25), .inl (cA 0, 3, .inl M_place)), ((ad 26), .inl (cA 1, 512, .inr (.inl (vp_updL M_value x7.toNatClampNeg (M_nextValue x7.toNatClampNeg))))), ((ad 27), .inl (cA 1, 512, .inr (.inl M_sets))), ((ad 28), .inl (cA 1, 512, .inr (.inl M_times))), ((ad 29), .inl (cA 1, 512, .inr (.inl M_nextValue))), ((ad 30), .inl (cA 1, 512, .inr (.inl M_nextSets))), ((ad 31), .inl (cA 1, 512, .inr (.inl M_nextTimes)))]) C 7 1 rfl rfl hi_56 rfl dX4_finds_367 ?_
    refine g_aload_n C dX4_finds_368 rfl 0 rfl ?_
    refine g_get C gfX4_finds_32 0 rfl rfl dX4_finds_369 ?_
    refine g_iload C dX4_finds_372 5 rfl ?_
    refine g_aload_n C dX4_finds_374 rfl 0 rfl ?_
    refine g_get C gfX4_finds_41 0 rfl rfl dX4_finds_375 ?_
    refine g_iload C dX4_finds_378 5 rfl ?_
    obtain ⟨hi_57, h⟩ := h
    refine g_lald C 11 1 rfl rfl hi_57 dX4_finds_380 ?_
    obtain ⟨hi_58, h⟩ := h
    refine g_last (ws2 := [((ad 19), .inr (4, [.int M_thrown, .long M_trace, .ref (ad 20), .ref (ad 21), .ref (ad 22), .ref (ad 23), .ref (ad 24), .ref (ad 25), .ref (ad 26), .ref (ad 27), .ref (ad 28), .ref (ad 29), .ref (ad 30), .ref (ad 31), .long M_found, .long M_foundSet, .long M_foundTimes, .int M_w, .int M_h, .ref (ad 32), .ref (ad 33), .ref (ad 34)])), ((ad 20), .inl (cA 0, 3, .inl M_sides)), ((ad 21), .inl (cA 0, 36, .inl M_held)), ((ad 22), .inl (cA 0, 36, .inl M_price)), ((ad 23), .inl (cA 0, 7, .inl M_rules)), ((ad 24), .inl (cA 0, 3, .inl M_ways)), ((ad 25), .inl (cA 0, 3, .inl M_place)), ((ad 26), .inl (cA 1, 512, .inr (.inl (vp_updL M_value x7.toNatClampNeg (M_nextValue x7.toNatClampNeg))))), ((ad 27), .inl (cA 1, 512, .inr (.inl (vp_updL M_sets x7.toNatClampNeg (M_nextSets x7.toNatClampNeg))))), ((ad 28), .inl (cA 1, 512, .inr (.inl M_times))), ((ad 29), .inl (cA 1, 512, .inr (.inl M_nextValue))), ((ad 30), .inl (cA 1, 512, .inr (.inl M_nextSets))), ((ad 31), .inl (cA 1, 512, .inr (.inl M_nextTimes)))]) C 8 1 rfl rfl hi_58 rfl dX4_finds_381 ?_
    refine g_aload_n C dX4_finds_382 rfl 0 rfl ?_
    refine g_get C gfX4_finds_35 0 rfl rfl dX4_finds_383 ?_
    refine g_iload C dX4_finds_386 5 rfl ?_
    refine g_aload_n C dX4_finds_388 rfl 0 rfl ?_
    refine g_get C gfX4_finds_44 0 rfl rfl dX4_finds_389 ?_
    refine g_iload C dX4_finds_392 5 rfl ?_
    obtain ⟨hi_59, h⟩ := h
    refine g_lald C 12 1 rfl rfl hi_59 dX4_finds_394 ?_
    obtain ⟨hi_60, h⟩ := h
    refine g_last (ws2 := [((ad 19), .inr (4, [.int M_thrown, .long M_trace, .ref (ad 20), .ref (ad 21), .ref (ad 22), .ref (ad 23), .ref (ad 24), .ref (ad 25), .ref (ad 26), .ref (ad 27), .ref (ad 28), .ref (ad 29), .ref (ad 30), .ref (ad 31), .long M_found, .long M_foundSet, .long M_foundTimes, .int M_w, .int M_h, .ref (ad 32), .ref (ad 33), .ref (ad 34)])), ((ad 20), .inl (cA 0, 3, .inl M_sides)), ((ad 21), .inl (cA 0, 36, .inl M_held)), ((ad 22), .inl (cA 0, 36, .inl M_price)), ((ad 23), .inl (cA 0, 7, .inl M_rules)), ((ad 24), .inl (cA 0, 3, .inl M_ways)), ((ad 25), .inl (cA 0, 3, .inl M_place)), ((ad 26), .inl (cA 1, 512, .inr (.inl (vp_updL M_value x7.toNatClampNeg (M_nextValue x7.toNatClampNeg))))), ((ad 27), .inl (cA 1, 512, .inr (.inl (vp_updL M_sets x7.toNatClampNeg (M_nextSets x7.toNatClampNeg))))), ((ad 28), .inl (cA 1, 512, .inr (.inl (vp_updL M_times x7.toNatClampNeg (M_nextTimes x7.toNatClampNeg))))), ((ad 29), .inl (cA 1, 512, .inr (.inl M_nextValue))), ((ad 30), .inl (cA 1, 512, .inr (.inl M_nextSets))), ((ad 31), .inl (cA 1, 512, .inr (.inl M_nextTimes)))]) C 9 1 rfl rfl hi_60 rfl dX4_finds_395 ?_
    refine g_iinc (v := (x7 + 1)) (lv2 := [(0, .ref (ad 19)), (1, .int x1), (2, .int x2), (4, .int x4), (5, .int x5), (7, .int (x7 + 1))]) C dX4_finds_396 5 rfl (by first | rfl | decide) (by decide) [1, 2, 3, 4, 5, 0] rfl ?_
    refine g_goto (tgt := 347) C dX4_finds_399 (by decide) ?_
    exact g_lv [0, 1, 2, 3, 4, 5] rfl h
set_option maxHeartbeats 4000000 in
set_option maxRecDepth 100000 in
theorem sgX4_finds_423 {X : gX} {ad : Nat → Nat} {cA : Nat → ClassId} {post : ((Int64) × (Int64) × (Int64) × (Nat → Int32) × (Nat → Int32) × (Nat → Int64) × (Nat → Int64) × (Nat → Int64) × (Nat → Int64) × (Nat → Int64) × (Nat → Int64)) → Prop} {x4 : Int32} {x5 : Int32} {M_thrown : Int32} {M_trace : Int64} {M_found : Int64} {M_foundSet : Int64} {M_foundTimes : Int64} {M_w : Int32} {M_h : Int32} {M_sides : Nat → Int32} {M_held : Nat → Int32} {M_price : Nat → Int32} {M_rules : Nat → Int32} {M_ways : Nat → Int32} {M_place : Nat → Int32} {M_value : Nat → Int64} {M_sets : Nat → Int64} {M_times : Nat → Int64} {M_nextValue : Nat → Int64} {M_nextSets : Nat → Int64} {M_nextTimes : Nat → Int64} (C : gC X (gT cA) cX4_finds 12 RX4 wsX4_finds rmX4_finds) (E : gEv X none (gT cA) 0 0 post (w1X4_finds ad cA M_thrown M_trace M_w M_h M_sides M_held M_price M_rules)) (h : (x4 ≤ x5 → post (M_found, M_foundSet, M_foundTimes, M_ways, M_place, M_value, M_sets, M_times, M_nextValue, M_nextSets, M_nextTimes)) ∧ (¬ x4 ≤ x5 → vp_in x5 512 ∧ (M_found ≤ (M_value x5.toNatClampNeg) → vp_in x5 512 ∧ ((¬ (M_value x5.toNatClampNeg) = M_found → True) ∧ ((M_value x5.toNatClampNeg) = M_found → ((4000000000000000 : Int64) ≤ M_found → True) ∧ (¬ (4000000000000000 : Int64) ≤ M_found → vp_in x5 512))) ∧ atX4_finds_423 X ad cA x4 (x5 + 1) M_thrown M_trace M_found M_foundSet (M_foundTimes + (if (M_value x5.toNatClampNeg) = M_found then (if (4000000000000000 : Int64) ≤ M_found then (0 : Int64) else (M_times x5.toNatClampNeg)) else (0 : Int64))) M_w M_h M_sides M_held M_price M_rules M_ways M_place M_value M_sets M_times M_nextValue M_nextSets M_nextTimes) ∧ (¬ M_found ≤ (M_value x5.toNatClampNeg) → vp_in x5 512 ∧ vp_in x5 512 ∧ vp_in x5 512 ∧ ((¬ (M_value x5.toNatClampNeg) = (M_value x5.toNatClampNeg) → True) ∧ ((M_value x5.toNatClampNeg) = (M_value x5.toNatClampNeg) → ((4000000000000000 : Int64) ≤ (M_value x5.toNatClampNeg) → True) ∧ (¬ (4000000000000000 : Int64) ≤ (M_value x5.toNatClampNeg) → vp_in x5 512))) ∧ atX4_finds_423 X ad cA x4 (x5 + 1) M_thrown M_trace (M_value x5.toNatClampNeg) (M_sets x5.toNatClampNeg) ((0 : Int64) + (if (M_value x5.toNatClampNeg) = (M_value x5.toNatClampNeg) then (if (4000000000000000 : Int64) ≤ (M_value x5.toNatClampNeg) then (0 : Int64) else (M_times x5.toNatClampNeg)) else (0 : Int64))) M_w M_h M_sides M_held M_price M_rules M_ways M_place M_value M_sets M_times M_nextValue M_nextSets M_nextTimes))) : atX4_finds_423 X ad cA x4 x5 M_thrown M_trace M_found M_foundSet M_foundTimes M_w M_h M_sides M_held M_price M_rules M_ways M_place M_value M_sets M_times M_nextValue M_nextSets M_nextTimes := by
  refine g_iload C dX4_finds_423 2 rfl ?_
  refine g_iload C dX4_finds_425 1 rfl ?_
  refine g_icmp_ge (tgt := 524) C dX4_finds_427 (by decide) (fun c_61 => ?_) (fun c_61 => ?_)
  · replace h := h.1 c_61
    exact g_vret C E (M_found, M_foundSet, M_foundTimes, M_ways, M_place, M_value, M_sets, M_times, M_nextValue, M_nextSets, M_nextTimes) h rfl dX4_finds_524
  · replace h := h.2 c_61
    refine g_aload_n C dX4_finds_430 rfl 0 rfl ?_
    refine g_get C gfX4_finds_28 0 rfl rfl dX4_finds_431 ?_
    refine g_iload C dX4_finds_434 2 rfl ?_
    obtain ⟨hi_62, h⟩ := h
    refine g_lald C 7 1 rfl rfl hi_62 dX4_finds_436 ?_
    refine g_aload_n C dX4_finds_437 rfl 0 rfl ?_
    refine g_get C gfX4_finds_144 0 rfl rfl dX4_finds_438 ?_
    refine g_lcmp_ge (tgt := 472) C dX4_finds_441 dX4_finds_442 rfl (by decide) (fun c_63 => ?_) (fun c_63 => ?_)
    · replace h := h.1 c_63
      refine g_aload_n C dX4_finds_472 rfl 0 rfl ?_
      refine g_dup C dX4_finds_473 rfl ?_
      refine g_get C gfX4_finds_147 0 rfl rfl dX4_finds_474 ?_
      refine g_aload_n C dX4_finds_477 rfl 0 rfl ?_
      refine g_get C gfX4_finds_28 0 rfl rfl dX4_finds_478 ?_
      refine g_iload C dX4_finds_481 2 rfl ?_
      obtain ⟨hi_64, h⟩ := h
      refine g_lald C 7 1 rfl rfl hi_64 dX4_finds_483 ?_
      refine g_aload_n C dX4_finds_484 rfl 0 rfl ?_
      refine g_get C gfX4_finds_144 0 rfl rfl dX4_finds_485 ?_
      obtain ⟨hr_514, h⟩ := h
      have key : gW X 0 0 [((ad 19), .inr (4, [.int M_thrown, .long M_trace, .ref (ad 20), .ref (ad 21), .ref (ad 22), .ref (ad 23), .ref (ad 24), .ref (ad 25), .ref (ad 26), .ref (ad 27), .ref (ad 28), .ref (ad 29), .ref (ad 30), .ref (ad 31), .long M_found, .long M_foundSet, .long M_foundTimes, .int M_w, .int M_h, .ref (ad 32), .ref (ad 33), .ref (ad 34)])), ((ad 20), .inl (cA 0, 3, .inl M_sides)), ((ad 21), .inl (cA 0, 36, .inl M_held)), ((ad 22), .inl (cA 0, 36, .inl M_price)), ((ad 23), .inl (cA 0, 7, .inl M_rules)), ((ad 24), .inl (cA 0, 3, .inl M_ways)), ((ad 25), .inl (cA 0, 3, .inl M_place)), ((ad 26), .inl (cA 1, 512, .inr (.inl M_value))), ((ad 27), .inl (cA 1, 512, .inr (.inl M_sets))), ((ad 28), .inl (cA 1, 512, .inr (.inl M_times))), ((ad 29), .inl (cA 1, 512, .inr (.inl M_nextValue))), ((ad 30), .inl (cA 1, 512, .inr (.inl M_nextSets))), ((ad 31), .inl (cA 1, 512, .inr (.inl M_nextTimes)))] 12 [(0, .ref (ad 19)), (4, .int x4), (5, .int x5)] [.long (if (M_value x5.toNatClampNeg) = M_found then (if (4000000000000000 : Int64) ≤ M_found then (0 : Int64) else (M_times x5.toNatClampNeg)) else (0 : Int64)), .long M_foundTimes, .ref (ad 19)] 514 := by
        refine g_ladd C dX4_finds_514 ?_
        refine g_put (ws2 := [((ad 19), .inr (4, [.int M_thrown, .long M_trace, .ref (ad 20), .ref (ad 21), .ref (ad 22), .ref (ad 23), .ref (ad 24), .ref (ad 25), .ref (ad 26), .ref (ad 27), .ref (ad 28), .ref (ad 29), .ref (ad 30), .ref (ad 31), .long M_found, .long M_foundSet, .long (M_foundTimes + (if (M_value x5.toNatClampNeg) = M_found then (if (4000000000000000 : Int64) ≤ M_found then (0 : Int64) else (M_times x5.toNatClampNeg)) else (0 : Int64))), .int M_w, .int M_h, .ref (ad 32), .ref (ad 33), .ref (ad 34)])), ((ad 20), .inl (cA 0, 3, .inl M_sides)), ((ad 21), .inl (cA 0, 36, .inl M_held)), ((ad 22), .inl (cA 0, 36, .inl M_price)), ((ad 23), .inl (cA 0, 7, .inl M_rules)), ((ad 24), .inl (cA 0, 3, .inl M_ways)), ((ad 25), .inl (cA 0, 3, .inl M_place)), ((ad 26), .inl (cA 1, 512, .inr (.inl M_value))), ((ad 27), .inl (cA 1, 512, .inr (.inl M_sets))), ((ad 28), .inl (cA 1, 512, .inr (.inl M_times))), ((ad 29), .inl (cA 1, 512, .inr (.inl M_nextValue))), ((ad 30), .inl (cA 1, 512, .inr (.inl M_nextSets))), ((ad 31), .inl (cA 1, 512, .inr (.inl M_nextTimes)))]) C gfX4_finds_147 0 tyX4_ok nmX4 rfl rfl rfl rfl (Nat.le_of_ble_eq_true rfl) rfl dX4_finds_515 ?_
        refine g_iinc (v := (x5 + 1)) (lv2 := [(0, .ref (ad 19)), (4, .int x4), (5, .int (x5 + 1))]) C dX4_finds_518 2 rfl (by first | rfl | decide) (by decide) [1, 2, 0] rfl ?_
        refine g_goto (tgt := 423) C dX4_finds_521 (by decide) ?_
        exact g_lv [0, 1, 2] rfl h
      replace h := hr_514
      refine g_lcmp_ne (tgt := 513) C dX4_finds_488 dX4_finds_489 rfl (by decide) (fun c_65 => ?_) (fun c_65 => ?_)
      · replace h := h.1 c_65
        refine g_lconst C dX4_finds_513 lk_0 ?_
        exact g_leaf (by simp only [if_neg c_65] at key; first | exact key | (simp only [if_neg c_65]; exact key) | exact absurd rfl c_65)
      · replace h := h.2 c_65
        refine g_aload_n C dX4_finds_492 rfl 0 rfl ?_
        refine g_get C gfX4_finds_144 0 rfl rfl dX4_finds_493 ?_
        refine g_ldc2_w C cnX4_finds_133 dX4_finds_496 ?_
        have hr_514 := h
        have key : gW X 0 0 [((ad 19), .inr (4, [.int M_thrown, .long M_trace, .ref (ad 20), .ref (ad 21), .ref (ad 22), .ref (ad 23), .ref (ad 24), .ref (ad 25), .ref (ad 26), .ref (ad 27), .ref (ad 28), .ref (ad 29), .ref (ad 30), .ref (ad 31), .long M_found, .long M_foundSet, .long M_foundTimes, .int M_w, .int M_h, .ref (ad 32), .ref (ad 33), .ref (ad 34)])), ((ad 20), .inl (cA 0, 3, .inl M_sides)), ((ad 21), .inl (cA 0, 36, .inl M_held)), ((ad 22), .inl (cA 0, 36, .inl M_price)), ((ad 23), .inl (cA 0, 7, .inl M_rules)), ((ad 24), .inl (cA 0, 3, .inl M_ways)), ((ad 25), .inl (cA 0, 3, .inl M_place)), ((ad 26), .inl (cA 1, 512, .inr (.inl M_value))), ((ad 27), .inl (cA 1, 512, .inr (.inl M_sets))), ((ad 28), .inl (cA 1, 512, .inr (.inl M_times))), ((ad 29), .inl (cA 1, 512, .inr (.inl M_nextValue))), ((ad 30), .inl (cA 1, 512, .inr (.inl M_nextSets))), ((ad 31), .inl (cA 1, 512, .inr (.inl M_nextTimes)))] 12 [(0, .ref (ad 19)), (4, .int x4), (5, .int x5)] [.long (if (4000000000000000 : Int64) ≤ M_found then (0 : Int64) else (M_times x5.toNatClampNeg)), .long M_foundTimes, .ref (ad 19)] 514 := by
          exact g_leaf (by simp only [if_pos c_65] at key; first | exact key | (simp only [if_pos c_65]; exact key) | exact absurd rfl c_65)
        replace h := hr_514
        refine g_lcmp_ge (tgt := 513) C dX4_finds_499 dX4_finds_500 rfl (by decide) (fun c_66 => ?_) (fun c_66 => ?_)
        · replace h := h.1 c_66
          refine g_lconst C dX4_finds_513 lk_0 ?_
          exact g_leaf (by simp only [if_pos c_66] at key; first | exact key | (simp only [if_pos c_66]; exact key) | exact absurd rfl c_66)
        · replace h := h.2 c_66
          refine g_aload_n C dX4_finds_503 rfl 0 rfl ?_
          refine g_get C gfX4_finds_35 0 rfl rfl dX4_finds_504 ?_
          refine g_iload C dX4_finds_507 2 rfl ?_
          have hi_67 := h
          refine g_lald C 9 1 rfl rfl hi_67 dX4_finds_509 ?_
          refine g_goto (tgt := 514) C dX4_finds_510 (by decide) ?_
          exact g_leaf (by simp only [if_neg c_66] at key; first | exact key | (simp only [if_neg c_66]; exact key) | exact absurd rfl c_66)
    · replace h := h.2 c_63
      refine g_aload_n C dX4_finds_445 rfl 0 rfl ?_
      refine g_aload_n C dX4_finds_446 rfl 0 rfl ?_
      refine g_get C gfX4_finds_28 0 rfl rfl dX4_finds_447 ?_
      refine g_iload C dX4_finds_450 2 rfl ?_
      obtain ⟨hi_68, h⟩ := h
      refine g_lald C 7 1 rfl rfl hi_68 dX4_finds_452 ?_
      refine g_put (ws2 := [((ad 19), .inr (4, [.int M_thrown, .long M_trace, .ref (ad 20), .ref (ad 21), .ref (ad 22), .ref (ad 23), .ref (ad 24), .ref (ad 25), .ref (ad 26), .ref (ad 27), .ref (ad 28), .ref (ad 29), .ref (ad 30), .ref (ad 31), .long (M_value x5.toNatClampNeg), .long M_foundSet, .long M_foundTimes, .int M_w, .int M_h, .ref (ad 32), .ref (ad 33), .ref (ad 34)])), ((ad 20), .inl (cA 0, 3, .inl M_sides)), ((ad 21), .inl (cA 0, 36, .inl M_held)), ((ad 22), .inl (cA 0, 36, .inl M_price)), ((ad 23), .inl (cA 0, 7, .inl M_rules)), ((ad 24), .inl (cA 0, 3, .inl M_ways)), ((ad 25), .inl (cA 0, 3, .inl M_place)), ((ad 26), .inl (cA 1, 512, .inr (.inl M_value))), ((ad 27), .inl (cA 1, 512, .inr (.inl M_sets))), ((ad 28), .inl (cA 1, 512, .inr (.inl M_times))), ((ad 29), .inl (cA 1, 512, .inr (.inl M_nextValue))), ((ad 30), .inl (cA 1, 512, .inr (.inl M_nextSets))), ((ad 31), .inl (cA 1, 512, .inr (.inl M_nextTimes)))]) C gfX4_finds_144 0 tyX4_ok nmX4 rfl rfl rfl rfl (Nat.le_of_ble_eq_true rfl) rfl dX4_finds_453 ?_
      refine g_aload_n C dX4_finds_456 rfl 0 rfl ?_
      refine g_aload_n C dX4_finds_457 rfl 0 rfl ?_
      refine g_get C gfX4_finds_32 0 rfl rfl dX4_finds_458 ?_
      refine g_iload C dX4_finds_461 2 rfl ?_
      obtain ⟨hi_69, h⟩ := h
      refine g_lald C 8 1 rfl rfl hi_69 dX4_finds_463 ?_
      refine g_put (ws2 := [((ad 19), .inr (4, [.int M_thrown, .long M_trace, .ref (ad 20), .ref (ad 21), .ref (ad 22), .ref (ad 23), .ref (ad 24), .ref (ad 25), .ref (ad 26), .ref (ad 27), .ref (ad 28), .ref (ad 29), .ref (ad 30), .ref (ad 31), .long (M_value x5.toNatClampNeg), .long (M_sets x5.toNatClampNeg), .long M_foundTimes, .int M_w, .int M_h, .ref (ad 32), .ref (ad 33), .ref (ad 34)])), ((ad 20), .inl (cA 0, 3, .inl M_sides)), ((ad 21), .inl (cA 0, 36, .inl M_held)), ((ad 22), .inl (cA 0, 36, .inl M_price)), ((ad 23), .inl (cA 0, 7, .inl M_rules)), ((ad 24), .inl (cA 0, 3, .inl M_ways)), ((ad 25), .inl (cA 0, 3, .inl M_place)), ((ad 26), .inl (cA 1, 512, .inr (.inl M_value))), ((ad 27), .inl (cA 1, 512, .inr (.inl M_sets))), ((ad 28), .inl (cA 1, 512, .inr (.inl M_times))), ((ad 29), .inl (cA 1, 512, .inr (.inl M_nextValue))), ((ad 30), .inl (cA 1, 512, .inr (.inl M_nextSets))), ((ad 31), .inl (cA 1, 512, .inr (.inl M_nextTimes)))]) C gfX4_finds_150 0 tyX4_ok nmX4 rfl rfl rfl rfl (Nat.le_of_ble_eq_true rfl) rfl dX4_finds_464 ?_
      refine g_aload_n C dX4_finds_467 rfl 0 rfl ?_
      refine g_lconst C dX4_finds_468 lk_0 ?_
      refine g_put (ws2 := [((ad 19), .inr (4, [.int M_thrown, .long M_trace, .ref (ad 20), .ref (ad 21), .ref (ad 22), .ref (ad 23), .ref (ad 24), .ref (ad 25), .ref (ad 26), .ref (ad 27), .ref (ad 28), .ref (ad 29), .ref (ad 30), .ref (ad 31), .long (M_value x5.toNatClampNeg), .long (M_sets x5.toNatClampNeg), .long (0 : Int64), .int M_w, .int M_h, .ref (ad 32), .ref (ad 33), .ref (ad 34)])), ((ad 20), .inl (cA 0, 3, .inl M_sides)), ((ad 21), .inl (cA 0, 36, .inl M_held)), ((ad 22), .inl (cA 0, 36, .inl M_price)), ((ad 23), .inl (cA 0, 7, .inl M_rules)), ((ad 24), .inl (cA 0, 3, .inl M_ways)), ((ad 25), .inl (cA 0, 3, .inl M_place)), ((ad 26), .inl (cA 1, 512, .inr (.inl M_value))), ((ad 27), .inl (cA 1, 512, .inr (.inl M_sets))), ((ad 28), .inl (cA 1, 512, .inr (.inl M_times))), ((ad 29), .inl (cA 1, 512, .inr (.inl M_nextValue))), ((ad 30), .inl (cA 1, 512, .inr (.inl M_nextSets))), ((ad 31), .inl (cA 1, 512, .inr (.inl M_nextTimes)))]) C gfX4_finds_147 0 tyX4_ok nmX4 rfl rfl rfl rfl (Nat.le_of_ble_eq_true rfl) rfl dX4_finds_469 ?_
      refine g_aload_n C dX4_finds_472 rfl 0 rfl ?_
      refine g_dup C dX4_finds_473 rfl ?_
      refine g_get C gfX4_finds_147 0 rfl rfl dX4_finds_474 ?_
      refine g_aload_n C dX4_finds_477 rfl 0 rfl ?_
      refine g_get C gfX4_finds_28 0 rfl rfl dX4_finds_478 ?_
      refine g_iload C dX4_finds_481 2 rfl ?_
      obtain ⟨hi_70, h⟩ := h
      refine g_lald C 7 1 rfl rfl hi_70 dX4_finds_483 ?_
      refine g_aload_n C dX4_finds_484 rfl 0 rfl ?_
      refine g_get C gfX4_finds_144 0 rfl rfl dX4_finds_485 ?_
      obtain ⟨hr_514, h⟩ := h
      have key : gW X 0 0 [((ad 19), .inr (4, [.int M_thrown, .long M_trace, .ref (ad 20), .ref (ad 21), .ref (ad 22), .ref (ad 23), .ref (ad 24), .ref (ad 25), .ref (ad 26), .ref (ad 27), .ref (ad 28), .ref (ad 29), .ref (ad 30), .ref (ad 31), .long (M_value x5.toNatClampNeg), .long (M_sets x5.toNatClampNeg), .long (0 : Int64), .int M_w, .int M_h, .ref (ad 32), .ref (ad 33), .ref (ad 34)])), ((ad 20), .inl (cA 0, 3, .inl M_sides)), ((ad 21), .inl (cA 0, 36, .inl M_held)), ((ad 22), .inl (cA 0, 36, .inl M_price)), ((ad 23), .inl (cA 0, 7, .inl M_rules)), ((ad 24), .inl (cA 0, 3, .inl M_ways)), ((ad 25), .inl (cA 0, 3, .inl M_place)), ((ad 26), .inl (cA 1, 512, .inr (.inl M_value))), ((ad 27), .inl (cA 1, 512, .inr (.inl M_sets))), ((ad 28), .inl (cA 1, 512, .inr (.inl M_times))), ((ad 29), .inl (cA 1, 512, .inr (.inl M_nextValue))), ((ad 30), .inl (cA 1, 512, .inr (.inl M_nextSets))), ((ad 31), .inl (cA 1, 512, .inr (.inl M_nextTimes)))] 12 [(0, .ref (ad 19)), (4, .int x4), (5, .int x5)] [.long (if (M_value x5.toNatClampNeg) = (M_value x5.toNatClampNeg) then (if (4000000000000000 : Int64) ≤ (M_value x5.toNatClampNeg) then (0 : Int64) else (M_times x5.toNatClampNeg)) else (0 : Int64)), .long (0 : Int64), .ref (ad 19)] 514 := by
        refine g_ladd C dX4_finds_514 ?_
        refine g_put (ws2 := [((ad 19), .inr (4, [.int M_thrown, .long M_trace, .ref (ad 20), .ref (ad 21), .ref (ad 22), .ref (ad 23), .ref (ad 24), .ref (ad 25), .ref (ad 26), .ref (ad 27), .ref (ad 28), .ref (ad 29), .ref (ad 30), .ref (ad 31), .long (M_value x5.toNatClampNeg), .long (M_sets x5.toNatClampNeg), .long ((0 : Int64) + (if (M_value x5.toNatClampNeg) = (M_value x5.toNatClampNeg) then (if (4000000000000000 : Int64) ≤ (M_value x5.toNatClampNeg) then (0 : Int64) else (M_times x5.toNatClampNeg)) else (0 : Int64))), .int M_w, .int M_h, .ref (ad 32), .ref (ad 33), .ref (ad 34)])), ((ad 20), .inl (cA 0, 3, .inl M_sides)), ((ad 21), .inl (cA 0, 36, .inl M_held)), ((ad 22), .inl (cA 0, 36, .inl M_price)), ((ad 23), .inl (cA 0, 7, .inl M_rules)), ((ad 24), .inl (cA 0, 3, .inl M_ways)), ((ad 25), .inl (cA 0, 3, .inl M_place)), ((ad 26), .inl (cA 1, 512, .inr (.inl M_value))), ((ad 27), .inl (cA 1, 512, .inr (.inl M_sets))), ((ad 28), .inl (cA 1, 512, .inr (.inl M_times))), ((ad 29), .inl (cA 1, 512, .inr (.inl M_nextValue))), ((ad 30), .inl (cA 1, 512, .inr (.inl M_nextSets))), ((ad 31), .inl (cA 1, 512, .inr (.inl M_nextTimes)))]) C gfX4_finds_147 0 tyX4_ok nmX4 rfl rfl rfl rfl (Nat.le_of_ble_eq_true rfl) rfl dX4_finds_515 ?_
        refine g_iinc (v := (x5 + 1)) (lv2 := [(0, .ref (ad 19)), (4, .int x4), (5, .int (x5 + 1))]) C dX4_finds_518 2 rfl (by first | rfl | decide) (by decide) [1, 2, 0] rfl ?_
        refine g_goto (tgt := 423) C dX4_finds_521 (by decide) ?_
        exact g_lv [0, 1, 2] rfl h
      replace h := hr_514
      refine g_lcmp_ne (tgt := 513) C dX4_finds_488 dX4_finds_489 rfl (by decide) (fun c_71 => ?_) (fun c_71 => ?_)
      · replace h := h.1 c_71
        refine g_lconst C dX4_finds_513 lk_0 ?_
        exact g_leaf (by simp only [if_neg c_71] at key; first | exact key | (simp only [if_neg c_71]; exact key) | exact absurd rfl c_71)
      · replace h := h.2 c_71
        refine g_aload_n C dX4_finds_492 rfl 0 rfl ?_
        refine g_get C gfX4_finds_144 0 rfl rfl dX4_finds_493 ?_
        refine g_ldc2_w C cnX4_finds_133 dX4_finds_496 ?_
        have hr_514 := h
        have key : gW X 0 0 [((ad 19), .inr (4, [.int M_thrown, .long M_trace, .ref (ad 20), .ref (ad 21), .ref (ad 22), .ref (ad 23), .ref (ad 24), .ref (ad 25), .ref (ad 26), .ref (ad 27), .ref (ad 28), .ref (ad 29), .ref (ad 30), .ref (ad 31), .long (M_value x5.toNatClampNeg), .long (M_sets x5.toNatClampNeg), .long (0 : Int64), .int M_w, .int M_h, .ref (ad 32), .ref (ad 33), .ref (ad 34)])), ((ad 20), .inl (cA 0, 3, .inl M_sides)), ((ad 21), .inl (cA 0, 36, .inl M_held)), ((ad 22), .inl (cA 0, 36, .inl M_price)), ((ad 23), .inl (cA 0, 7, .inl M_rules)), ((ad 24), .inl (cA 0, 3, .inl M_ways)), ((ad 25), .inl (cA 0, 3, .inl M_place)), ((ad 26), .inl (cA 1, 512, .inr (.inl M_value))), ((ad 27), .inl (cA 1, 512, .inr (.inl M_sets))), ((ad 28), .inl (cA 1, 512, .inr (.inl M_times))), ((ad 29), .inl (cA 1, 512, .inr (.inl M_nextValue))), ((ad 30), .inl (cA 1, 512, .inr (.inl M_nextSets))), ((ad 31), .inl (cA 1, 512, .inr (.inl M_nextTimes)))] 12 [(0, .ref (ad 19)), (4, .int x4), (5, .int x5)] [.long (if (4000000000000000 : Int64) ≤ (M_value x5.toNatClampNeg) then (0 : Int64) else (M_times x5.toNatClampNeg)), .long (0 : Int64), .ref (ad 19)] 514 := by
          exact g_leaf (by simp only [if_pos c_71] at key; first | exact key | (simp only [if_pos c_71]; exact key) | exact absurd rfl c_71)
        replace h := hr_514
        refine g_lcmp_ge (tgt := 513) C dX4_finds_499 dX4_finds_500 rfl (by decide) (fun c_72 => ?_) (fun c_72 => ?_)
        · replace h := h.1 c_72
          refine g_lconst C dX4_finds_513 lk_0 ?_
          exact g_leaf (by simp only [if_pos c_72] at key; first | exact key | (simp only [if_pos c_72]; exact key) | exact absurd rfl c_72)
        · replace h := h.2 c_72
          refine g_aload_n C dX4_finds_503 rfl 0 rfl ?_
          refine g_get C gfX4_finds_35 0 rfl rfl dX4_finds_504 ?_
          refine g_iload C dX4_finds_507 2 rfl ?_
          have hi_73 := h
          refine g_lald C 9 1 rfl rfl hi_73 dX4_finds_509 ?_
          refine g_goto (tgt := 514) C dX4_finds_510 (by decide) ?_
          exact g_leaf (by simp only [if_neg c_72] at key; first | exact key | (simp only [if_neg c_72]; exact key) | exact absurd rfl c_72)
def prX4_finds (dx : Nat) (dy : Nat) (dz : Nat) (p1 : Int32) (p2 : Int32) (M_thrown : Int32) (M_trace : Int64) (M_found : Int64) (M_foundSet : Int64) (M_foundTimes : Int64) (M_w : Int32) (M_h : Int32) (M_sides : Nat → Int32) (M_held : Nat → Int32) (M_price : Nat → Int32) (M_rules : Nat → Int32) (M_ways : Nat → Int32) (M_place : Nat → Int32) (M_value : Nat → Int64) (M_sets : Nat → Int64) (M_times : Nat → Int64) (M_nextValue : Nat → Int64) (M_nextSets : Nat → Int64) (M_nextTimes : Nat → Int64) : Prop := dimOK dx dy dz ∧ sdOK M_sides dx dy dz ∧ ruOK M_rules ∧ prOK (dx * dy * dz) M_price ∧ -60 ≤ p1.toInt ∧ p1.toInt ≤ 60 ∧ -1 ≤ p2.toInt ∧ p2.toInt ≤ 1
def po_X4_finds (ad : Nat → Nat) (cA : Nat → ClassId) (dx : Nat) (dy : Nat) (dz : Nat) (p1 : Int32) (p2 : Int32) (M_thrown : Int32) (M_trace : Int64) (M_found : Int64) (M_foundSet : Int64) (M_foundTimes : Int64) (M_w : Int32) (M_h : Int32) (M_sides : Nat → Int32) (M_held : Nat → Int32) (M_price : Nat → Int32) (M_rules : Nat → Int32) (M_ways : Nat → Int32) (M_place : Nat → Int32) (M_value : Nat → Int64) (M_sets : Nat → Int64) (M_times : Nat → Int64) (M_nextValue : Nat → Int64) (M_nextSets : Nat → Int64) (M_nextTimes : Nat → Int64) (u : (Int64) × (Int64) × (Int64) × (Nat → Int32) × (Nat → Int32) × (Nat → Int64) × (Nat → Int64) × (Nat → Int64) × (Nat → Int64) × (Nat → Int64) × (Nat → Int64)) : Prop := ∃ w0 w1 w2, prm w0 w1 w2 ∧ smry (vdM dx dy dz w0 w1 w2 M_held (dx * dy * dz)) (vM dx dy dz w0 w1 w2 M_rules M_price p1.toInt p2.toInt (dx * dy * dz)) u.1 u.2.1 u.2.2.1
set_option maxHeartbeats 4000000 in
set_option maxRecDepth 100000 in
theorem c_X4_finds (ad : Nat → Nat) (cA : Nat → ClassId) (dx : Nat) (dy : Nat) (dz : Nat) (p1 : Int32) (p2 : Int32) (M_thrown : Int32) (M_trace : Int64) (M_found : Int64) (M_foundSet : Int64) (M_foundTimes : Int64) (M_w : Int32) (M_h : Int32) (M_sides : Nat → Int32) (M_held : Nat → Int32) (M_price : Nat → Int32) (M_rules : Nat → Int32) (M_ways : Nat → Int32) (M_place : Nat → Int32) (M_value : Nat → Int64) (M_sets : Nat → Int64) (M_times : Nat → Int64) (M_nextValue : Nat → Int64) (M_nextSets : Nat → Int64) (M_nextTimes : Nat → Int64) (hq : prX4_finds dx dy dz p1 p2 M_thrown M_trace M_found M_foundSet M_foundTimes M_w M_h M_sides M_held M_price M_rules M_ways M_place M_value M_sets M_times M_nextValue M_nextSets M_nextTimes) : ∀ (l : Launch) (D : va_G), gMv (S := (Int64) × (Int64) × (Int64) × (Nat → Int32) × (Nat → Int32) × (Nat → Int64) × (Nat → Int64) × (Nat → Int64) × (Nat → Int64) × (Nat → Int64) × (Nat → Int64)) l yX4_finds wsX4_finds rmX4_finds D (gT cA) 0 0 [.ref (ad 19), .int p1, .int p2] (wcX4_finds ad cA M_thrown M_trace M_found M_foundSet M_foundTimes M_w M_h M_sides M_held M_price M_rules M_ways M_place M_value M_sets M_times M_nextValue M_nextSets M_nextTimes) (po_X4_finds ad cA dx dy dz p1 p2 M_thrown M_trace M_found M_foundSet M_foundTimes M_w M_h M_sides M_held M_price M_rules M_ways M_place M_value M_sets M_times M_nextValue M_nextSets M_nextTimes) (w1X4_finds ad cA M_thrown M_trace M_w M_h M_sides M_held M_price M_rules) := by
  intro l D
  unfold prX4_finds at hq
  refine g_enterv (cc := cX4_finds) (nL := 12) (ret := none) (by decide) rfl (Nat.le_of_ble_eq_true rfl) rfl (fun X C E => ?_)
  obtain ⟨hd, hs, hru, hp, m1, m2, b1, b2⟩ := hq
  have hV := hd.2.2.2.2.2.2
  refine sgX4_finds_0 C E ⟨dx, dy, dz, ⟨hd, hs⟩, fun W hW => ?_⟩
  obtain ⟨w0, w1, w2, ho, e0, e1, e2⟩ := hW
  obtain ⟨hw, o1, o2⟩ := ho
  have hkp : bxD dx dy dz w0 * bxD dx dy dz w1 ≤ 9 := (geo_f3 hd hw).1 o1 o2
  have hkp' : kpM dx dy dz w0 w1 ≤ 9 := hkp
  have hN : 2 ^ kpM dx dy dz w0 w1 ≤ 512 := Nat.pow_le_pow_right (n := 2) (by decide) hkp
  have hw' := hw
  obtain ⟨g1, g2, g3, _, _, _⟩ := hw'
  rw [show W (0 : Int32).toNatClampNeg = nI w0 from e0, show W (1 : Int32).toNatClampNeg = nI w1 from e1, nI_clamp (n := w0) (by omega), nI_clamp (n := w1) (by omega), sd_at hs g1, sd_at hs g2]
  refine ⟨vi_0_3, vp_in_nI g1 (by decide), vi_1_3, vp_in_nI g2 (by decide), fun x3 e3 x4 e4 => ?_⟩
  have e4' : x4 = nI (2 ^ kpM dx dy dz w0 w1) := by rw [e4, e3, pk_mul]; exact one9 _ (by omega)
  clear e3 e4
  subst e4'
  have vN : ∀ r, r < 2 ^ kpM dx dy dz w0 w1 → vp_in (nI r) 512 := fun r h => vp_in_nI (by omega) (by decide)
  have ge : ∀ r, r < 2 ^ kpM dx dy dz w0 w1 → ¬ nI (2 ^ kpM dx dy dz w0 w1) ≤ nI r := fun r h => nI_ge h (by omega)
  -- the end
  have last : ∀ (pl : Nat → Int32) (va se ti nv ns nt : Nat → Int64), dpOK dx dy dz w0 w1 w2 M_rules M_price M_held p1.toInt p2.toInt (dx * dy * dz) va se ti → ∀ r, r ≤ 2 ^ kpM dx dy dz w0 w1 → ∀ fv fs ft, dpF dx dy dz w0 w1 w2 M_rules M_price M_held p1.toInt p2.toInt r fv fs ft → atX4_finds_423 X ad cA (nI (2 ^ kpM dx dy dz w0 w1)) (nI r) M_thrown M_trace fv fs ft M_w M_h M_sides M_held M_price M_rules W pl va se ti nv ns nt := by
    intro pl va se ti nv ns nt hOK r hr'
    refine up_loop (P := fun r => ∀ fv fs ft, dpF dx dy dz w0 w1 w2 M_rules M_price M_held p1.toInt p2.toInt r fv fs ft → atX4_finds_423 X ad cA (nI (2 ^ kpM dx dy dz w0 w1)) (nI r) M_thrown M_trace fv fs ft M_w M_h M_sides M_held M_price M_rules W pl va se ti nv ns nt) (2 ^ kpM dx dy dz w0 w1) ?_ (fun r hr ih => ?_) r hr'
    · intro fv fs ft hF
      refine sgX4_finds_423 C E ⟨fun _ => ⟨w0, w1, w2, hw, smry_congr hF (fun s => ⟨fun q => q.1, fun q => ⟨q, rowK_lt _ _ _⟩⟩) (fun _ _ => rfl)⟩, fun c => absurd (i32_le_refl _) c⟩
    · intro fv fs ft hF
      have hst := dpF_step hd hw hru hp m1 m2 b1 b2 hOK hr hF
      have v := vN r hr
      refine sgX4_finds_423 C E ⟨fun c => absurd c (ge r hr), fun _ => ?_⟩
      rw [nI_clamp (n := r) (by omega), nI_1 r]
      exact ⟨v, fun c => ⟨v, ⟨fun _ => trivial, fun _ => ⟨fun _ => trivial, fun _ => v⟩⟩, ih _ _ _ (hst.1 c)⟩, fun c => ⟨v, v, v, ⟨fun _ => trivial, fun _ => ⟨fun _ => trivial, fun _ => v⟩⟩, ih _ _ _ (hst.2 c)⟩⟩
  -- cell by cell
  have level : ∀ k, k ≤ dx * dy * dz → ∀ (pl : Nat → Int32) (va se ti nv ns nt : Nat → Int64), dpOK dx dy dz w0 w1 w2 M_rules M_price M_held p1.toInt p2.toInt k va se ti → atX4_finds_96 X ad cA p1 p2 (nI (2 ^ kpM dx dy dz w0 w1)) (nI k) M_thrown M_trace M_found M_foundSet M_foundTimes M_w M_h M_sides M_held M_price M_rules W pl va se ti nv ns nt := by
    intro k hk'
    refine up_loop (P := fun k => ∀ (pl : Nat → Int32) (va se ti nv ns nt : Nat → Int64), dpOK dx dy dz w0 w1 w2 M_rules M_price M_held p1.toInt p2.toInt k va se ti → atX4_finds_96 X ad cA p1 p2 (nI (2 ^ kpM dx dy dz w0 w1)) (nI k) M_thrown M_trace M_found M_foundSet M_foundTimes M_w M_h M_sides M_held M_price M_rules W pl va se ti nv ns nt) (dx * dy * dz) ?_ (fun k hk ih => ?_) k hk'
    · intro pl va se ti nv ns nt hOK
      obtain ⟨c1, c2⟩ := cells_eq (M_thrown := M_thrown) (M_trace := M_trace) (M_found := M_found) (M_foundSet := M_foundSet) (M_foundTimes := M_foundTimes) (M_w := M_w) (M_h := M_h) hs
      refine sgX4_finds_96 C E ⟨c2, fun _ => last pl va se ti nv ns nt hOK 0 (Nat.zero_le _) _ _ _ (dpF_0 _), fun c => ?_⟩
      rw [c1] at c; exact absurd (i32_le_refl _) c
    · intro pl va se ti nv ns nt hOK
      obtain ⟨c1, c2⟩ := cells_eq (M_thrown := M_thrown) (M_trace := M_trace) (M_found := M_found) (M_foundSet := M_foundSet) (M_foundTimes := M_foundTimes) (M_w := M_w) (M_h := M_h) hs
      refine sgX4_finds_96 C E ⟨c2, fun c => ?_, fun _ => ⟨dx, dy, dz, w0, w1, w2, k, ⟨hd, hs, hw, e0, e1, e2, hk, rfl⟩, fun cell pl2 hcp => ?_⟩⟩
      · rw [c1] at c; exact absurd c (nI_ge hk (by omega))
      obtain ⟨ec, hpl⟩ := hcp
      subst ec
      have hc := ((geo_f3 hd hw).2 k hk).1
      -- the copy
      have copy : ∀ (nv ns nt : Nat → Int64), dpOK dx dy dz w0 w1 w2 M_rules M_price M_held p1.toInt p2.toInt (k + 1) nv ns nt → ∀ j, j ≤ 2 ^ kpM dx dy dz w0 w1 → ∀ (va se ti : Nat → Int64), (∀ i, i < j → va i = nv i ∧ se i = ns i ∧ ti i = nt i) → atX4_finds_347 X ad cA p1 p2 (nI (2 ^ kpM dx dy dz w0 w1)) (nI k) (nI j) M_thrown M_trace M_found M_foundSet M_foundTimes M_w M_h M_sides M_held M_price M_rules W pl2 va se ti nv ns nt := by
        intro nv ns nt hnx j hj'
        refine up_loop (P := fun j => ∀ (va se ti : Nat → Int64), (∀ i, i < j → va i = nv i ∧ se i = ns i ∧ ti i = nt i) → atX4_finds_347 X ad cA p1 p2 (nI (2 ^ kpM dx dy dz w0 w1)) (nI k) (nI j) M_thrown M_trace M_found M_foundSet M_foundTimes M_w M_h M_sides M_held M_price M_rules W pl2 va se ti nv ns nt) (2 ^ kpM dx dy dz w0 w1) ?_ (fun j hj ih2 => ?_) j hj'
        · intro va se ti h
          refine sgX4_finds_347 C E ⟨fun _ => ?_, fun c => absurd (i32_le_refl _) c⟩
          rw [nI_1 k]
          refine ih _ _ _ _ _ _ _ (fun r hr => ?_)
          obtain ⟨q1, q2, q3⟩ := h r hr
          rw [q1, q2, q3]; exact hnx r hr
        · intro va se ti h
          have v := vN j hj
          refine sgX4_finds_347 C E ⟨fun c => absurd c (ge j hj), fun _ => ⟨v, v, v, v, v, v, ?_⟩⟩
          rw [nI_clamp (n := j) (by omega), nI_1 j]
          refine ih2 _ _ _ (fun i hi => ?_)
          by_cases q : i = j
          · subst q; rw [updL_s, updL_s, updL_s]; exact ⟨rfl, rfl, rfl⟩
          · rw [updL_n _ _ q, updL_n _ _ q, updL_n _ _ q]; exact h i (by omega)
      -- a row, a cell in or not
      have one : ∀ r, r < 2 ^ kpM dx dy dz w0 w1 → ∀ b : Bool, (∀ nv ns nt, dpN dx dy dz w0 w1 w2 M_rules M_price M_held p1.toInt p2.toInt k (2 * r + (if b = true then 1 else 0) + 1) nv ns nt → atX4_finds_160 X ad cA p1 p2 (nI (2 ^ kpM dx dy dz w0 w1)) (nI k) (nI (kcell dx dy dz w0 w1 w2 k)) (nI r) (bI b + 1) M_thrown M_trace M_found M_foundSet M_foundTimes M_w M_h M_sides M_held M_price M_rules W pl2 va se ti nv ns nt) → ∀ nv ns nt, dpN dx dy dz w0 w1 w2 M_rules M_price M_held p1.toInt p2.toInt k (2 * r + (if b = true then 1 else 0)) nv ns nt → atX4_finds_160 X ad cA p1 p2 (nI (2 ^ kpM dx dy dz w0 w1)) (nI k) (nI (kcell dx dy dz w0 w1 w2 k)) (nI r) (bI b) M_thrown M_trace M_found M_foundSet M_foundTimes M_w M_h M_sides M_held M_price M_rules W pl2 va se ti nv ns nt := by
        intro r hr b nx nv ns nt hdN
        have v := vN r hr
        refine sgX4_finds_160 C E ⟨fun c => ?_, fun _ => ?_⟩
        · exact absurd c (by cases b <;> decide)
        rw [nI_clamp (n := r) (by omega), nI_clamp (n := kcell dx dy dz w0 w1 w2 k) (by omega)]
        refine ⟨v, fun c => nx _ _ _ (dpN_skip hdN (fun s hs2 e => ?_)), fun c => ⟨vp_in_nI (by omega) (by decide), fun c2 => nx _ _ _ (dpN_skip hdN (fun s hs2 e => ?_)), fun c2 x9 e9 => ⟨v, dx, dy, dz, w0, w1, w2, k, r, b, ⟨hd, hs, hru, hw, hkp, e0, e1, e2, hk, rfl, hpl, by omega, rfl, rfl⟩, fun ra hra x10 e10 => ?_⟩⟩⟩
        · exact dp_rowNone hd hw hru hp m1 m2 b1 b2 hk hOK hr c s hs2 (cM_eq.mp e).1
        · have q := hs2.2 k (by omega)
          have q2 : sb s (kcell dx dy dz w0 w1 w2 k) = b := (cM_eq.mp e).2
          rw [q2, c2] at q
          exact q (by cases b <;> decide)
        have hra' : ra = iI (adZ dx dy dz w0 w1 w2 M_rules M_price p1.toInt k r b) := hra
        have abd := adZ_bd (w0 := w0) (w1 := w1) (w2 := w2) hd hw hru hp m1 m2 hk r b
        have e9' : x9 = nI ((2 * r + (if b = true then 1 else 0)) % 2 ^ kpM dx dy dz w0 w1) := by
          rw [e9, shl9 r (by omega) b]
          exact pk_andN (by split <;> omega) _ (msk9 _ (by omega))
        have tl : (2 * r + (if b = true then 1 else 0)) % 2 ^ kpM dx dy dz w0 w1 < 2 ^ kpM dx dy dz w0 w1 := Nat.mod_lt _ (Nat.two_pow_pos _)
        clear e9
        subst e9'
        have hst := dpN_step hd hw hru hp m1 m2 b1 b2 hk hOK hr b hdN c (fun q => c2 (by rw [q]; cases b <;> decide)) (v := x10) (fun x x1 x2 ex => by
          rw [e10, ex, hra', iI_long (by omega) (by omega), show (64 : Int64) = lI 64 from rfl, lI_mul, lI_add]
          cases b
          · rw [if_neg (by decide)]
            show lI (x + 64 * adZ dx dy dz w0 w1 w2 M_rules M_price p1.toInt k r false) + lI 0 = _
            rw [lI_add]; congr 1
            rw [if_neg (by decide)]; omega
          · rw [if_pos (by decide), i2l_lI, lI_add]; congr 1
            rw [if_pos rfl]; omega) rfl
        generalize (2 * r + (if b = true then 1 else 0)) % 2 ^ kpM dx dy dz w0 w1 = t at *
        have vt := vN t tl
        rw [nI_clamp (n := t) (by omega)]
        refine ⟨vt, fun c3 => ⟨vt, vt, ⟨fun _ => trivial, fun _ => v⟩, vt, nx _ _ _ (hst.1 c3)⟩, fun c3 => ⟨vt, v, vt, vt, vt, vt, ⟨fun _ => trivial, fun _ => v⟩, vt, ?_⟩⟩
        rw [updL_s, updL_s, if_pos rfl, Int64.zero_add, updL_u]
        exact nx _ _ _ (hst.2 c3)
      -- all rows
      have rows : ∀ r, r ≤ 2 ^ kpM dx dy dz w0 w1 → ∀ nv ns nt, dpN dx dy dz w0 w1 w2 M_rules M_price M_held p1.toInt p2.toInt k (2 * r) nv ns nt → atX4_finds_150 X ad cA p1 p2 (nI (2 ^ kpM dx dy dz w0 w1)) (nI k) (nI (kcell dx dy dz w0 w1 w2 k)) (nI r) M_thrown M_trace M_found M_foundSet M_foundTimes M_w M_h M_sides M_held M_price M_rules W pl2 va se ti nv ns nt := by
        intro r hr'
        refine up_loop (P := fun r => ∀ nv ns nt, dpN dx dy dz w0 w1 w2 M_rules M_price M_held p1.toInt p2.toInt k (2 * r) nv ns nt → atX4_finds_150 X ad cA p1 p2 (nI (2 ^ kpM dx dy dz w0 w1)) (nI k) (nI (kcell dx dy dz w0 w1 w2 k)) (nI r) M_thrown M_trace M_found M_foundSet M_foundTimes M_w M_h M_sides M_held M_price M_rules W pl2 va se ti nv ns nt) (2 ^ kpM dx dy dz w0 w1) ?_ (fun r hr ih2 => ?_) r hr'
        · intro nv ns nt hdN
          exact sgX4_finds_150 C E ⟨fun _ => copy nv ns nt (dp_up hdN) 0 (Nat.zero_le _) va se ti (fun i hi => absurd hi (Nat.not_lt_zero i)), fun c => absurd (i32_le_refl _) c⟩
        · intro nv ns nt hdN
          refine sgX4_finds_150 C E ⟨fun c => absurd c (ge r hr), fun _ => ?_⟩
          refine one r hr false (fun nv ns nt h1 => ?_) nv ns nt hdN
          refine one r hr true (fun nv ns nt h2 => ?_) nv ns nt h1
          refine sgX4_finds_160 C E ⟨fun _ => ?_, fun c => absurd (i32_le_refl _) c⟩
          rw [nI_1 r]
          exact ih2 nv ns nt h2
      -- the rows cleared
      have clear : ∀ j, j ≤ 2 ^ kpM dx dy dz w0 w1 → ∀ (nv nt : Nat → Int64), (∀ i, i < j → nv i = FARc ∧ nt i = 0) → atX4_finds_116 X ad cA p1 p2 (nI (2 ^ kpM dx dy dz w0 w1)) (nI k) (nI (kcell dx dy dz w0 w1 w2 k)) (nI j) M_thrown M_trace M_found M_foundSet M_foundTimes M_w M_h M_sides M_held M_price M_rules W pl2 va se ti nv ns nt := by
        intro j hj'
        refine up_loop (P := fun j => ∀ (nv nt : Nat → Int64), (∀ i, i < j → nv i = FARc ∧ nt i = 0) → atX4_finds_116 X ad cA p1 p2 (nI (2 ^ kpM dx dy dz w0 w1)) (nI k) (nI (kcell dx dy dz w0 w1 w2 k)) (nI j) M_thrown M_trace M_found M_foundSet M_foundTimes M_w M_h M_sides M_held M_price M_rules W pl2 va se ti nv ns nt) (2 ^ kpM dx dy dz w0 w1) ?_ (fun j hj ih2 => ?_) j hj'
        · intro nv nt h
          exact sgX4_finds_116 C E ⟨fun _ => rows 0 (Nat.zero_le _) nv ns nt (dpN_0 h), fun c => absurd (i32_le_refl _) c⟩
        · intro nv nt h
          have v := vN j hj
          refine sgX4_finds_116 C E ⟨fun c => absurd c (ge j hj), fun _ => ⟨v, v, ?_⟩⟩
          rw [nI_clamp (n := j) (by omega), nI_1 j]
          refine ih2 _ _ (fun i hi => ?_)
          by_cases q : i = j
          · subst q; rw [updL_s, updL_s]; exact ⟨rfl, rfl⟩
          · rw [updL_n _ _ q, updL_n _ _ q]; exact h i (by omega)
      exact clear 0 (Nat.zero_le _) nv nt (fun i hi => absurd hi (Nat.not_lt_zero i))
  -- the beginning
  have init : ∀ j, j ≤ 2 ^ kpM dx dy dz w0 w1 → ∀ (va se ti : Nat → Int64), (∀ i, i < j → va i = (if i = 0 then 0 else FARc) ∧ se i = 0 ∧ ti i = (if i = 0 then 1 else 0)) → atX4_finds_36 X ad cA p1 p2 (nI (2 ^ kpM dx dy dz w0 w1)) (nI j) M_thrown M_trace M_found M_foundSet M_foundTimes M_w M_h M_sides M_held M_price M_rules W M_place va se ti M_nextValue M_nextSets M_nextTimes := by
    intro j hj'
    refine up_loop (P := fun j => ∀ (va se ti : Nat → Int64), (∀ i, i < j → va i = (if i = 0 then 0 else FARc) ∧ se i = 0 ∧ ti i = (if i = 0 then 1 else 0)) → atX4_finds_36 X ad cA p1 p2 (nI (2 ^ kpM dx dy dz w0 w1)) (nI j) M_thrown M_trace M_found M_foundSet M_foundTimes M_w M_h M_sides M_held M_price M_rules W M_place va se ti M_nextValue M_nextSets M_nextTimes) (2 ^ kpM dx dy dz w0 w1) ?_ (fun j hj ih2 => ?_) j hj'
    · intro va se ti h
      exact sgX4_finds_36 C E ⟨fun _ => level 0 (Nat.zero_le _) _ va se ti _ _ _ (dp_0 h), fun c => absurd (i32_le_refl _) c⟩
    · intro va se ti h
      have v := vN j hj
      refine sgX4_finds_36 C E ⟨fun c => absurd c (ge j hj), fun _ => ⟨v, v, v, ?_⟩⟩
      rw [nI_clamp (n := j) (by omega), nI_1 j]
      refine ih2 _ _ _ (fun i hi => ?_)
      by_cases q : i = j
      · subst q
        rw [updL_s, updL_s, updL_s]
        have e : nI i = 0 ↔ i = 0 := nI_eq (b := 0) (by omega) (by decide)
        refine ⟨?_, rfl, ?_⟩
        · by_cases z : i = 0
          · rw [if_pos z, if_pos (e.mpr z)]
          · rw [if_neg z, if_neg (fun q => z (e.mp q))]
        · by_cases z : i = 0
          · rw [if_pos z, if_pos (e.mpr z)]
          · rw [if_neg z, if_neg (fun q => z (e.mp q))]
      · rw [updL_n _ _ q, updL_n _ _ q, updL_n _ _ q]; exact h i (by omega)
  exact init 0 (Nat.zero_le _) _ _ _ (fun i hi => absurd hi (Nat.not_lt_zero i))

