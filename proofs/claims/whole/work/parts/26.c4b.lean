theorem hde_X4_cells : yX4_cells.cls = RX4 ∧ yX4_cells.cls ≠ "java/lang/invoke/MethodHandle" ∧ yX4_cells.cls ≠ "java/lang/invoke/VarHandle" ∧ (parseMethodDescriptor yX4_cells.desc).map (fun d => d.parameters.length) = some 0 := by decide +kernel
theorem hde_X4_placeOf : yX4_placeOf.cls = RX4 ∧ yX4_placeOf.cls ≠ "java/lang/invoke/MethodHandle" ∧ yX4_placeOf.cls ≠ "java/lang/invoke/VarHandle" ∧ (parseMethodDescriptor yX4_placeOf.desc).map (fun d => d.parameters.length) = some 2 := by decide +kernel
theorem hde_X4_stride : yX4_stride.cls = RX4 ∧ yX4_stride.cls ≠ "java/lang/invoke/MethodHandle" ∧ yX4_stride.cls ≠ "java/lang/invoke/VarHandle" ∧ (parseMethodDescriptor yX4_stride.desc).map (fun d => d.parameters.length) = some 1 := by decide +kernel
abbrev w1X4_cells (ad : Nat → Nat) (cA : Nat → ClassId) (M_thrown : Int32) (M_trace : Int64) (M_found : Int64) (M_foundSet : Int64) (M_foundTimes : Int64) (M_w : Int32) (M_h : Int32) (M_sides : Nat → Int32) (u : Unit) : va_W := [((ad 19), .inr (4, [.int M_thrown, .long M_trace, .ref (ad 20), .ref (ad 21), .ref (ad 22), .ref (ad 23), .ref (ad 24), .ref (ad 25), .ref (ad 26), .ref (ad 27), .ref (ad 28), .ref (ad 29), .ref (ad 30), .ref (ad 31), .long M_found, .long M_foundSet, .long M_foundTimes, .int M_w, .int M_h, .ref (ad 32), .ref (ad 33), .ref (ad 34)])), ((ad 20), .inl (cA 0, 3, .inl M_sides))]
abbrev wcX4_cells (ad : Nat → Nat) (cA : Nat → ClassId) (M_thrown : Int32) (M_trace : Int64) (M_found : Int64) (M_foundSet : Int64) (M_foundTimes : Int64) (M_w : Int32) (M_h : Int32) (M_sides : Nat → Int32) : va_W := [((ad 19), .inr (4, [.int M_thrown, .long M_trace, .ref (ad 20), .ref (ad 21), .ref (ad 22), .ref (ad 23), .ref (ad 24), .ref (ad 25), .ref (ad 26), .ref (ad 27), .ref (ad 28), .ref (ad 29), .ref (ad 30), .ref (ad 31), .long M_found, .long M_foundSet, .long M_foundTimes, .int M_w, .int M_h, .ref (ad 32), .ref (ad 33), .ref (ad 34)])), ((ad 20), .inl (cA 0, 3, .inl M_sides))]
def rmX4_cells : Room := { frames := 0, cells := 0, slots := 0, locals := 0 }
abbrev atX4_cells_0 (X : gX) (ad : Nat → Nat) (cA : Nat → ClassId) (M_thrown : Int32) (M_trace : Int64) (M_found : Int64) (M_foundSet : Int64) (M_foundTimes : Int64) (M_w : Int32) (M_h : Int32) (M_sides : Nat → Int32) : Prop := gW X 0 0 [((ad 19), .inr (4, [.int M_thrown, .long M_trace, .ref (ad 20), .ref (ad 21), .ref (ad 22), .ref (ad 23), .ref (ad 24), .ref (ad 25), .ref (ad 26), .ref (ad 27), .ref (ad 28), .ref (ad 29), .ref (ad 30), .ref (ad 31), .long M_found, .long M_foundSet, .long M_foundTimes, .int M_w, .int M_h, .ref (ad 32), .ref (ad 33), .ref (ad 34)])), ((ad 20), .inl (cA 0, 3, .inl M_sides))] 1 [(0, .ref (ad 19))] [] 0
theorem giX4_cells_X4 : ∀ w ∈ u_ws RX4 TX4 22, w ∈ wsX4_cells := by decide +kernel
theorem gfX4_cells_7 : gF wsX4_cells RX4 7 4 2 RX4 TX4 22 := ⟨giX4_cells_X4, by decide +kernel, rfl, by decide⟩
set_option maxHeartbeats 4000000 in
set_option maxRecDepth 100000 in
theorem sgX4_cells_0 {X : gX} {ad : Nat → Nat} {cA : Nat → ClassId} {post : Int32 → (Unit) → Prop} {M_thrown : Int32} {M_trace : Int64} {M_found : Int64} {M_foundSet : Int64} {M_foundTimes : Int64} {M_w : Int32} {M_h : Int32} {M_sides : Nat → Int32} (C : gC X (gT cA) cX4_cells 1 RX4 wsX4_cells rmX4_cells) (E : gEi X (some .int) (gT cA) 0 0 post (w1X4_cells ad cA M_thrown M_trace M_found M_foundSet M_foundTimes M_w M_h M_sides)) (h : vp_in (0 : Int32) 3 ∧ vp_in (1 : Int32) 3 ∧ vp_in (2 : Int32) 3 ∧ post (((M_sides (0 : Int32).toNatClampNeg) * (M_sides (1 : Int32).toNatClampNeg)) * (M_sides (2 : Int32).toNatClampNeg)) ()) : atX4_cells_0 X ad cA M_thrown M_trace M_found M_foundSet M_foundTimes M_w M_h M_sides := by
  refine g_aload_n C dX4_cells_0 rfl 0 rfl ?_
  refine g_get C gfX4_cells_7 0 rfl rfl dX4_cells_1 ?_
  refine g_iconst C dX4_cells_4 ik_0 ?_
  obtain ⟨hi_1, h⟩ := h
  refine g_iald C 1 0 rfl rfl hi_1 dX4_cells_5 ?_
  refine g_aload_n C dX4_cells_6 rfl 0 rfl ?_
  refine g_get C gfX4_cells_7 0 rfl rfl dX4_cells_7 ?_
  refine g_iconst C dX4_cells_10 ik_1 ?_
  obtain ⟨hi_2, h⟩ := h
  refine g_iald C 1 0 rfl rfl hi_2 dX4_cells_11 ?_
  refine g_imul C dX4_cells_12 ?_
  refine g_aload_n C dX4_cells_13 rfl 0 rfl ?_
  refine g_get C gfX4_cells_7 0 rfl rfl dX4_cells_14 ?_
  refine g_iconst C dX4_cells_17 ik_2 ?_
  obtain ⟨hi_3, h⟩ := h
  refine g_iald C 1 0 rfl rfl hi_3 dX4_cells_18 ?_
  refine g_imul C dX4_cells_19 ?_
  exact g_iret C E () h rfl dX4_cells_20
def fnX4_cells (M_thrown : Int32) (M_trace : Int64) (M_found : Int64) (M_foundSet : Int64) (M_foundTimes : Int64) (M_w : Int32) (M_h : Int32) (M_sides : Nat → Int32) : Int32 := (((M_sides (0 : Int32).toNatClampNeg) * (M_sides (1 : Int32).toNatClampNeg)) * (M_sides (2 : Int32).toNatClampNeg))
def prX4_cells (M_thrown : Int32) (M_trace : Int64) (M_found : Int64) (M_foundSet : Int64) (M_foundTimes : Int64) (M_w : Int32) (M_h : Int32) (M_sides : Nat → Int32) : Prop := vp_in (0 : Int32) 3 ∧ vp_in (1 : Int32) 3 ∧ vp_in (2 : Int32) 3
set_option maxHeartbeats 4000000 in
set_option maxRecDepth 100000 in
theorem c_X4_cells (ad : Nat → Nat) (cA : Nat → ClassId) (M_thrown : Int32) (M_trace : Int64) (M_found : Int64) (M_foundSet : Int64) (M_foundTimes : Int64) (M_w : Int32) (M_h : Int32) (M_sides : Nat → Int32) (hq : prX4_cells M_thrown M_trace M_found M_foundSet M_foundTimes M_w M_h M_sides) : ∀ (l : Launch) (D : va_G), gMi (S := Unit) l yX4_cells wsX4_cells rmX4_cells D (gT cA) 0 0 [.ref (ad 19)] (wcX4_cells ad cA M_thrown M_trace M_found M_foundSet M_foundTimes M_w M_h M_sides) (fun r _ => r = fnX4_cells M_thrown M_trace M_found M_foundSet M_foundTimes M_w M_h M_sides) (w1X4_cells ad cA M_thrown M_trace M_found M_foundSet M_foundTimes M_w M_h M_sides) := by
  intro l D
  refine g_enteri (cc := cX4_cells) (nL := 1) (ret := (some .int)) (by decide) rfl (Nat.le_of_ble_eq_true rfl) rfl (fun X C E => sgX4_cells_0 C E ?_)
  unfold prX4_cells at hq
  refine ⟨hq.1, ?_⟩
  replace hq := hq.2
  refine ⟨hq.1, ?_⟩
  replace hq := hq.2
  refine ⟨hq, ?_⟩
  exact (by unfold fnX4_cells; first | rfl | (simp only []; done) | (simp only []; rfl))

abbrev w1X4_isCell (ad : Nat → Nat) (cA : Nat → ClassId) (M_thrown : Int32) (M_trace : Int64) (M_found : Int64) (M_foundSet : Int64) (M_foundTimes : Int64) (M_w : Int32) (M_h : Int32) (M_sides : Nat → Int32) (u : Unit) : va_W := [((ad 19), .inr (4, [.int M_thrown, .long M_trace, .ref (ad 20), .ref (ad 21), .ref (ad 22), .ref (ad 23), .ref (ad 24), .ref (ad 25), .ref (ad 26), .ref (ad 27), .ref (ad 28), .ref (ad 29), .ref (ad 30), .ref (ad 31), .long M_found, .long M_foundSet, .long M_foundTimes, .int M_w, .int M_h, .ref (ad 32), .ref (ad 33), .ref (ad 34)])), ((ad 20), .inl (cA 0, 3, .inl M_sides))]
abbrev wcX4_isCell (ad : Nat → Nat) (cA : Nat → ClassId) (M_thrown : Int32) (M_trace : Int64) (M_found : Int64) (M_foundSet : Int64) (M_foundTimes : Int64) (M_w : Int32) (M_h : Int32) (M_sides : Nat → Int32) : va_W := [((ad 19), .inr (4, [.int M_thrown, .long M_trace, .ref (ad 20), .ref (ad 21), .ref (ad 22), .ref (ad 23), .ref (ad 24), .ref (ad 25), .ref (ad 26), .ref (ad 27), .ref (ad 28), .ref (ad 29), .ref (ad 30), .ref (ad 31), .long M_found, .long M_foundSet, .long M_foundTimes, .int M_w, .int M_h, .ref (ad 32), .ref (ad 33), .ref (ad 34)])), ((ad 20), .inl (cA 0, 3, .inl M_sides))]
def rmX4_isCell : Room := { frames := 1, cells := 0, slots := 0, locals := 25 }
abbrev atX4_isCell_0 (X : gX) (ad : Nat → Nat) (cA : Nat → ClassId) (p1 : Int32) (M_thrown : Int32) (M_trace : Int64) (M_found : Int64) (M_foundSet : Int64) (M_foundTimes : Int64) (M_w : Int32) (M_h : Int32) (M_sides : Nat → Int32) : Prop := gW X 0 0 [((ad 19), .inr (4, [.int M_thrown, .long M_trace, .ref (ad 20), .ref (ad 21), .ref (ad 22), .ref (ad 23), .ref (ad 24), .ref (ad 25), .ref (ad 26), .ref (ad 27), .ref (ad 28), .ref (ad 29), .ref (ad 30), .ref (ad 31), .long M_found, .long M_foundSet, .long M_foundTimes, .int M_w, .int M_h, .ref (ad 32), .ref (ad 33), .ref (ad 34)])), ((ad 20), .inl (cA 0, 3, .inl M_sides))] 2 [(0, .ref (ad 19)), (1, .int p1)] [] 0
set_option maxHeartbeats 4000000 in
set_option maxRecDepth 100000 in
theorem sgX4_isCell_0 {X : gX} {ad : Nat → Nat} {cA : Nat → ClassId} {post : Int32 → (Unit) → Prop} {p1 : Int32} {M_thrown : Int32} {M_trace : Int64} {M_found : Int64} {M_foundSet : Int64} {M_foundTimes : Int64} {M_w : Int32} {M_h : Int32} {M_sides : Nat → Int32} (C : gC X (gT cA) cX4_isCell 2 RX4 wsX4_isCell rmX4_isCell) (E : gEi X (some .boolean) (gT cA) 0 0 post (w1X4_isCell ad cA M_thrown M_trace M_found M_foundSet M_foundTimes M_w M_h M_sides)) (h : prX4_cells M_thrown M_trace M_found M_foundSet M_foundTimes M_w M_h M_sides ∧ post (bI (fnX4_in p1.toInt64 (0 : Int64) (((fnX4_cells M_thrown M_trace M_found M_foundSet M_foundTimes M_w M_h M_sides) - (1 : Int32)).toInt64))) ()) : atX4_isCell_0 X ad cA p1 M_thrown M_trace M_found M_foundSet M_foundTimes M_w M_h M_sides := by
  refine g_iload_n C dX4_isCell_0 rfl 1 rfl ?_
  refine g_i2l C dX4_isCell_1 ?_
  refine g_lconst C dX4_isCell_2 lk_0 ?_
  refine g_aload_n C dX4_isCell_3 rfl 0 rfl ?_
  obtain ⟨hi_1, h⟩ := h
  refine g_callVi (wr := []) C (c_X4_cells ad cA M_thrown M_trace M_found M_foundSet M_foundTimes M_w M_h M_sides hi_1) gX4_isCell_X4_cells rfl hde_X4_cells ⟨rfl, rfl⟩ (by decide) (by decide) [0, 1] [] [0, 1] rfl rfl rfl rfl (by decide) rfl (ws2 := fun u => [((ad 19), .inr (4, [.int M_thrown, .long M_trace, .ref (ad 20), .ref (ad 21), .ref (ad 22), .ref (ad 23), .ref (ad 24), .ref (ad 25), .ref (ad 26), .ref (ad 27), .ref (ad 28), .ref (ad 29), .ref (ad 30), .ref (ad 31), .long M_found, .long M_foundSet, .long M_foundTimes, .int M_w, .int M_h, .ref (ad 32), .ref (ad 33), .ref (ad 34)])), ((ad 20), .inl (cA 0, 3, .inl M_sides))]) (fun _ => rfl) 4 0 rfl rfl rfl (rest := [.long (0 : Int64), .long p1.toInt64]) rfl (Nat.le_of_ble_eq_true rfl) dX4_isCell_4 (fun r_2 u_2 hp_2 => ?_)
  subst hp_2
  change gW X 0 0 [((ad 19), .inr (4, [.int M_thrown, .long M_trace, .ref (ad 20), .ref (ad 21), .ref (ad 22), .ref (ad 23), .ref (ad 24), .ref (ad 25), .ref (ad 26), .ref (ad 27), .ref (ad 28), .ref (ad 29), .ref (ad 30), .ref (ad 31), .long M_found, .long M_foundSet, .long M_foundTimes, .int M_w, .int M_h, .ref (ad 32), .ref (ad 33), .ref (ad 34)])), ((ad 20), .inl (cA 0, 3, .inl M_sides))] 2 [(0, .ref (ad 19)), (1, .int p1)] [.int (fnX4_cells M_thrown M_trace M_found M_foundSet M_foundTimes M_w M_h M_sides), .long (0 : Int64), .long p1.toInt64] 7
  refine g_iconst C dX4_isCell_7 ik_1 ?_
  refine g_isub C dX4_isCell_8 ?_
  refine g_i2l C dX4_isCell_9 ?_
  refine g_callSi (b := 0) (wr := [((ad 19), .inr (4, [.int M_thrown, .long M_trace, .ref (ad 20), .ref (ad 21), .ref (ad 22), .ref (ad 23), .ref (ad 24), .ref (ad 25), .ref (ad 26), .ref (ad 27), .ref (ad 28), .ref (ad 29), .ref (ad 30), .ref (ad 31), .long M_found, .long M_foundSet, .long M_foundTimes, .int M_w, .int M_h, .ref (ad 32), .ref (ad 33), .ref (ad 34)])), ((ad 20), .inl (cA 0, 3, .inl M_sides))]) C (c_X4_in ad cA p1.toInt64 (0 : Int64) (((fnX4_cells M_thrown M_trace M_found M_foundSet M_foundTimes M_w M_h M_sides) - (1 : Int32)).toInt64)) gX4_isCell_X4_in rfl hde_X4_in ⟨rfl, rfl⟩ (by decide) (by decide) [] [0, 1] [0, 1] rfl rfl rfl rfl (by decide) rfl (ws2 := fun u => [((ad 19), .inr (4, [.int M_thrown, .long M_trace, .ref (ad 20), .ref (ad 21), .ref (ad 22), .ref (ad 23), .ref (ad 24), .ref (ad 25), .ref (ad 26), .ref (ad 27), .ref (ad 28), .ref (ad 29), .ref (ad 30), .ref (ad 31), .long M_found, .long M_foundSet, .long M_foundTimes, .int M_w, .int M_h, .ref (ad 32), .ref (ad 33), .ref (ad 34)])), ((ad 20), .inl (cA 0, 3, .inl M_sides))]) (fun _ => rfl) (rest := []) rfl (Nat.le_of_ble_eq_true rfl) dX4_isCell_10 (fun r_3 u_3 hp_3 => ?_)
  subst hp_3
  change gW X 0 0 [((ad 19), .inr (4, [.int M_thrown, .long M_trace, .ref (ad 20), .ref (ad 21), .ref (ad 22), .ref (ad 23), .ref (ad 24), .ref (ad 25), .ref (ad 26), .ref (ad 27), .ref (ad 28), .ref (ad 29), .ref (ad 30), .ref (ad 31), .long M_found, .long M_foundSet, .long M_foundTimes, .int M_w, .int M_h, .ref (ad 32), .ref (ad 33), .ref (ad 34)])), ((ad 20), .inl (cA 0, 3, .inl M_sides))] 2 [(0, .ref (ad 19)), (1, .int p1)] [.int (bI (fnX4_in p1.toInt64 (0 : Int64) (((fnX4_cells M_thrown M_trace M_found M_foundSet M_foundTimes M_w M_h M_sides) - (1 : Int32)).toInt64)))] 13
  exact g_zret C E bI_n () h rfl dX4_isCell_13
def fnX4_isCell (p1 : Int32) (M_thrown : Int32) (M_trace : Int64) (M_found : Int64) (M_foundSet : Int64) (M_foundTimes : Int64) (M_w : Int32) (M_h : Int32) (M_sides : Nat → Int32) : Bool := (fnX4_in p1.toInt64 (0 : Int64) (((fnX4_cells M_thrown M_trace M_found M_foundSet M_foundTimes M_w M_h M_sides) - (1 : Int32)).toInt64))
def prX4_isCell (p1 : Int32) (M_thrown : Int32) (M_trace : Int64) (M_found : Int64) (M_foundSet : Int64) (M_foundTimes : Int64) (M_w : Int32) (M_h : Int32) (M_sides : Nat → Int32) : Prop := prX4_cells M_thrown M_trace M_found M_foundSet M_foundTimes M_w M_h M_sides
set_option maxHeartbeats 4000000 in
set_option maxRecDepth 100000 in
theorem c_X4_isCell (ad : Nat → Nat) (cA : Nat → ClassId) (p1 : Int32) (M_thrown : Int32) (M_trace : Int64) (M_found : Int64) (M_foundSet : Int64) (M_foundTimes : Int64) (M_w : Int32) (M_h : Int32) (M_sides : Nat → Int32) (hq : prX4_isCell p1 M_thrown M_trace M_found M_foundSet M_foundTimes M_w M_h M_sides) : ∀ (l : Launch) (D : va_G), gMi (S := Unit) l yX4_isCell wsX4_isCell rmX4_isCell D (gT cA) 0 0 [.ref (ad 19), .int p1] (wcX4_isCell ad cA M_thrown M_trace M_found M_foundSet M_foundTimes M_w M_h M_sides) (fun r _ => r = bI (fnX4_isCell p1 M_thrown M_trace M_found M_foundSet M_foundTimes M_w M_h M_sides)) (w1X4_isCell ad cA M_thrown M_trace M_found M_foundSet M_foundTimes M_w M_h M_sides) := by
  intro l D
  refine g_enteri (cc := cX4_isCell) (nL := 2) (ret := (some .boolean)) (by decide) rfl (Nat.le_of_ble_eq_true rfl) rfl (fun X C E => sgX4_isCell_0 C E ?_)
  unfold prX4_isCell at hq
  refine ⟨hq, ?_⟩
  exact (by unfold fnX4_isCell; first | rfl | (simp only []; done) | (simp only []; rfl))

abbrev w1X4_placeOf (ad : Nat → Nat) (cA : Nat → ClassId) (M_thrown : Int32) (M_trace : Int64) (M_found : Int64) (M_foundSet : Int64) (M_foundTimes : Int64) (M_w : Int32) (M_h : Int32) (M_sides : Nat → Int32) (u : Unit) : va_W := [((ad 19), .inr (4, [.int M_thrown, .long M_trace, .ref (ad 20), .ref (ad 21), .ref (ad 22), .ref (ad 23), .ref (ad 24), .ref (ad 25), .ref (ad 26), .ref (ad 27), .ref (ad 28), .ref (ad 29), .ref (ad 30), .ref (ad 31), .long M_found, .long M_foundSet, .long M_foundTimes, .int M_w, .int M_h, .ref (ad 32), .ref (ad 33), .ref (ad 34)])), ((ad 20), .inl (cA 0, 3, .inl M_sides))]
abbrev wcX4_placeOf (ad : Nat → Nat) (cA : Nat → ClassId) (M_thrown : Int32) (M_trace : Int64) (M_found : Int64) (M_foundSet : Int64) (M_foundTimes : Int64) (M_w : Int32) (M_h : Int32) (M_sides : Nat → Int32) : va_W := [((ad 19), .inr (4, [.int M_thrown, .long M_trace, .ref (ad 20), .ref (ad 21), .ref (ad 22), .ref (ad 23), .ref (ad 24), .ref (ad 25), .ref (ad 26), .ref (ad 27), .ref (ad 28), .ref (ad 29), .ref (ad 30), .ref (ad 31), .long M_found, .long M_foundSet, .long M_foundTimes, .int M_w, .int M_h, .ref (ad 32), .ref (ad 33), .ref (ad 34)])), ((ad 20), .inl (cA 0, 3, .inl M_sides))]
def rmX4_placeOf : Room := { frames := 0, cells := 0, slots := 0, locals := 0 }
abbrev atX4_placeOf_0 (X : gX) (ad : Nat → Nat) (cA : Nat → ClassId) (p1 : Int32) (p2 : Int32) (M_thrown : Int32) (M_trace : Int64) (M_found : Int64) (M_foundSet : Int64) (M_foundTimes : Int64) (M_w : Int32) (M_h : Int32) (M_sides : Nat → Int32) : Prop := gW X 0 0 [((ad 19), .inr (4, [.int M_thrown, .long M_trace, .ref (ad 20), .ref (ad 21), .ref (ad 22), .ref (ad 23), .ref (ad 24), .ref (ad 25), .ref (ad 26), .ref (ad 27), .ref (ad 28), .ref (ad 29), .ref (ad 30), .ref (ad 31), .long M_found, .long M_foundSet, .long M_foundTimes, .int M_w, .int M_h, .ref (ad 32), .ref (ad 33), .ref (ad 34)])), ((ad 20), .inl (cA 0, 3, .inl M_sides))] 3 [(0, .ref (ad 19)), (1, .int p1), (2, .int p2)] [] 0
theorem giX4_placeOf_X4 : ∀ w ∈ u_ws RX4 TX4 22, w ∈ wsX4_placeOf := by decide +kernel
theorem gfX4_placeOf_7 : gF wsX4_placeOf RX4 7 4 2 RX4 TX4 22 := ⟨giX4_placeOf_X4, by decide +kernel, rfl, by decide⟩
set_option maxHeartbeats 4000000 in
set_option maxRecDepth 100000 in
theorem sgX4_placeOf_0 {X : gX} {ad : Nat → Nat} {cA : Nat → ClassId} {post : Int32 → (Unit) → Prop} {p1 : Int32} {p2 : Int32} {M_thrown : Int32} {M_trace : Int64} {M_found : Int64} {M_foundSet : Int64} {M_foundTimes : Int64} {M_w : Int32} {M_h : Int32} {M_sides : Nat → Int32} (C : gC X (gT cA) cX4_placeOf 3 RX4 wsX4_placeOf rmX4_placeOf) (E : gEi X (some .int) (gT cA) 0 0 post (w1X4_placeOf ad cA M_thrown M_trace M_found M_foundSet M_foundTimes M_w M_h M_sides)) (h : (¬ p2 = 0 → (¬ p2 = (1 : Int32) → vp_in (0 : Int32) 3 ∧ ¬ (M_sides (0 : Int32).toNatClampNeg) = 0 ∧ vp_in (1 : Int32) 3 ∧ ¬ (M_sides (1 : Int32).toNatClampNeg) = 0 ∧ post ((p1 / (M_sides (0 : Int32).toNatClampNeg)) / (M_sides (1 : Int32).toNatClampNeg)) ()) ∧ (p2 = (1 : Int32) → vp_in (0 : Int32) 3 ∧ ¬ (M_sides (0 : Int32).toNatClampNeg) = 0 ∧ vp_in (1 : Int32) 3 ∧ ¬ (M_sides (1 : Int32).toNatClampNeg) = 0 ∧ post ((p1 / (M_sides (0 : Int32).toNatClampNeg)) - (p1 / (M_sides (0 : Int32).toNatClampNeg)) / (M_sides (1 : Int32).toNatClampNeg) * (M_sides (1 : Int32).toNatClampNeg)) ())) ∧ (p2 = 0 → vp_in (0 : Int32) 3 ∧ ¬ (M_sides (0 : Int32).toNatClampNeg) = 0 ∧ post (p1 - p1 / (M_sides (0 : Int32).toNatClampNeg) * (M_sides (0 : Int32).toNatClampNeg)) ())) : atX4_placeOf_0 X ad cA p1 p2 M_thrown M_trace M_found M_foundSet M_foundTimes M_w M_h M_sides := by
  refine g_iload_n C dX4_placeOf_0 rfl 2 rfl ?_
  refine g_if_ne (tgt := 15) C dX4_placeOf_1 (by decide) (fun c_1 => ?_) (fun c_1 => ?_)
  · replace h := h.1 c_1
    refine g_iload_n C dX4_placeOf_15 rfl 2 rfl ?_
    refine g_iconst C dX4_placeOf_16 ik_1 ?_
    refine g_icmp_ne (tgt := 38) C dX4_placeOf_17 (by decide) (fun c_2 => ?_) (fun c_2 => ?_)
    · replace h := h.1 c_2
      refine g_iload_n C dX4_placeOf_38 rfl 1 rfl ?_
      refine g_aload_n C dX4_placeOf_39 rfl 0 rfl ?_
      refine g_get C gfX4_placeOf_7 0 rfl rfl dX4_placeOf_40 ?_
      refine g_iconst C dX4_placeOf_43 ik_0 ?_
      obtain ⟨hi_3, h⟩ := h
      refine g_iald C 1 0 rfl rfl hi_3 dX4_placeOf_44 ?_
      obtain ⟨hi_4, h⟩ := h
      refine g_idiv C dX4_placeOf_45 hi_4 ?_
      refine g_aload_n C dX4_placeOf_46 rfl 0 rfl ?_
      refine g_get C gfX4_placeOf_7 0 rfl rfl dX4_placeOf_47 ?_
      refine g_iconst C dX4_placeOf_50 ik_1 ?_
      obtain ⟨hi_5, h⟩ := h
      refine g_iald C 1 0 rfl rfl hi_5 dX4_placeOf_51 ?_
      obtain ⟨hi_6, h⟩ := h
      refine g_idiv C dX4_placeOf_52 hi_6 ?_
      exact g_iret C E () h rfl dX4_placeOf_53
    · replace h := h.2 c_2
      refine g_iload_n C dX4_placeOf_20 rfl 1 rfl ?_
      refine g_aload_n C dX4_placeOf_21 rfl 0 rfl ?_
      refine g_get C gfX4_placeOf_7 0 rfl rfl dX4_placeOf_22 ?_
      refine g_iconst C dX4_placeOf_25 ik_0 ?_
      obtain ⟨hi_7, h⟩ := h
      refine g_iald C 1 0 rfl rfl hi_7 dX4_placeOf_26 ?_
      obtain ⟨hi_8, h⟩ := h
      refine g_idiv C dX4_placeOf_27 hi_8 ?_
      refine g_aload_n C dX4_placeOf_28 rfl 0 rfl ?_
      refine g_get C gfX4_placeOf_7 0 rfl rfl dX4_placeOf_29 ?_
      refine g_iconst C dX4_placeOf_32 ik_1 ?_
      obtain ⟨hi_9, h⟩ := h
      refine g_iald C 1 0 rfl rfl hi_9 dX4_placeOf_33 ?_
      obtain ⟨hi_10, h⟩ := h
      refine g_irem C dX4_placeOf_34 hi_10 ?_
      refine g_goto (tgt := 53) C dX4_placeOf_35 (by decide) ?_
      exact g_iret C E () h rfl dX4_placeOf_53
  · replace h := h.2 c_1
    refine g_iload_n C dX4_placeOf_4 rfl 1 rfl ?_
    refine g_aload_n C dX4_placeOf_5 rfl 0 rfl ?_
    refine g_get C gfX4_placeOf_7 0 rfl rfl dX4_placeOf_6 ?_
    refine g_iconst C dX4_placeOf_9 ik_0 ?_
    obtain ⟨hi_11, h⟩ := h
    refine g_iald C 1 0 rfl rfl hi_11 dX4_placeOf_10 ?_
    obtain ⟨hi_12, h⟩ := h
    refine g_irem C dX4_placeOf_11 hi_12 ?_
    refine g_goto (tgt := 53) C dX4_placeOf_12 (by decide) ?_
    exact g_iret C E () h rfl dX4_placeOf_53
def fnX4_placeOf (p1 : Int32) (p2 : Int32) (M_thrown : Int32) (M_trace : Int64) (M_found : Int64) (M_foundSet : Int64) (M_foundTimes : Int64) (M_w : Int32) (M_h : Int32) (M_sides : Nat → Int32) : Int32 := (if p2 = 0 then (p1 - p1 / (M_sides (0 : Int32).toNatClampNeg) * (M_sides (0 : Int32).toNatClampNeg)) else (if p2 = (1 : Int32) then ((p1 / (M_sides (0 : Int32).toNatClampNeg)) - (p1 / (M_sides (0 : Int32).toNatClampNeg)) / (M_sides (1 : Int32).toNatClampNeg) * (M_sides (1 : Int32).toNatClampNeg)) else ((p1 / (M_sides (0 : Int32).toNatClampNeg)) / (M_sides (1 : Int32).toNatClampNeg))))
def prX4_placeOf (p1 : Int32) (p2 : Int32) (M_thrown : Int32) (M_trace : Int64) (M_found : Int64) (M_foundSet : Int64) (M_foundTimes : Int64) (M_w : Int32) (M_h : Int32) (M_sides : Nat → Int32) : Prop := (¬ p2 = 0 → (¬ p2 = (1 : Int32) → vp_in (0 : Int32) 3 ∧ ¬ (M_sides (0 : Int32).toNatClampNeg) = 0 ∧ vp_in (1 : Int32) 3 ∧ ¬ (M_sides (1 : Int32).toNatClampNeg) = 0) ∧ (p2 = (1 : Int32) → vp_in (0 : Int32) 3 ∧ ¬ (M_sides (0 : Int32).toNatClampNeg) = 0 ∧ vp_in (1 : Int32) 3 ∧ ¬ (M_sides (1 : Int32).toNatClampNeg) = 0)) ∧ (p2 = 0 → vp_in (0 : Int32) 3 ∧ ¬ (M_sides (0 : Int32).toNatClampNeg) = 0)
set_option maxHeartbeats 4000000 in
set_option maxRecDepth 100000 in
theorem c_X4_placeOf (ad : Nat → Nat) (cA : Nat → ClassId) (p1 : Int32) (p2 : Int32) (M_thrown : Int32) (M_trace : Int64) (M_found : Int64) (M_foundSet : Int64) (M_foundTimes : Int64) (M_w : Int32) (M_h : Int32) (M_sides : Nat → Int32) (hq : prX4_placeOf p1 p2 M_thrown M_trace M_found M_foundSet M_foundTimes M_w M_h M_sides) : ∀ (l : Launch) (D : va_G), gMi (S := Unit) l yX4_placeOf wsX4_placeOf rmX4_placeOf D (gT cA) 0 0 [.ref (ad 19), .int p1, .int p2] (wcX4_placeOf ad cA M_thrown M_trace M_found M_foundSet M_foundTimes M_w M_h M_sides) (fun r _ => r = fnX4_placeOf p1 p2 M_thrown M_trace M_found M_foundSet M_foundTimes M_w M_h M_sides) (w1X4_placeOf ad cA M_thrown M_trace M_found M_foundSet M_foundTimes M_w M_h M_sides) := by
  intro l D
  refine g_enteri (cc := cX4_placeOf) (nL := 3) (ret := (some .int)) (by decide) rfl (Nat.le_of_ble_eq_true rfl) rfl (fun X C E => sgX4_placeOf_0 C E ?_)
  unfold prX4_placeOf at hq
  refine ⟨fun c_13 => ?_, fun c_13 => ?_⟩
  · replace hq := hq.1 c_13
    refine ⟨fun c_14 => ?_, fun c_14 => ?_⟩
    · replace hq := hq.1 c_14
      refine ⟨hq.1, ?_⟩
      replace hq := hq.2
      refine ⟨hq.1, ?_⟩
      replace hq := hq.2
      refine ⟨hq.1, ?_⟩
      replace hq := hq.2
      refine ⟨hq, ?_⟩
      exact (by unfold fnX4_placeOf; first | rfl | (simp only [if_neg c_13, if_neg c_14]; done) | (simp only [if_neg c_13, if_neg c_14]; rfl))
    · replace hq := hq.2 c_14
      refine ⟨hq.1, ?_⟩
      replace hq := hq.2
      refine ⟨hq.1, ?_⟩
      replace hq := hq.2
      refine ⟨hq.1, ?_⟩
      replace hq := hq.2
      refine ⟨hq, ?_⟩
      exact (by unfold fnX4_placeOf; first | rfl | (simp only [if_neg c_13, if_pos c_14]; done) | (simp only [if_neg c_13, if_pos c_14]; rfl))
  · replace hq := hq.2 c_13
    refine ⟨hq.1, ?_⟩
    replace hq := hq.2
    refine ⟨hq, ?_⟩
    exact (by unfold fnX4_placeOf; first | rfl | (simp only [if_pos c_13]; done) | (simp only [if_pos c_13]; rfl))

abbrev w1X4_stride (ad : Nat → Nat) (cA : Nat → ClassId) (M_thrown : Int32) (M_trace : Int64) (M_found : Int64) (M_foundSet : Int64) (M_foundTimes : Int64) (M_w : Int32) (M_h : Int32) (M_sides : Nat → Int32) (u : Unit) : va_W := [((ad 19), .inr (4, [.int M_thrown, .long M_trace, .ref (ad 20), .ref (ad 21), .ref (ad 22), .ref (ad 23), .ref (ad 24), .ref (ad 25), .ref (ad 26), .ref (ad 27), .ref (ad 28), .ref (ad 29), .ref (ad 30), .ref (ad 31), .long M_found, .long M_foundSet, .long M_foundTimes, .int M_w, .int M_h, .ref (ad 32), .ref (ad 33), .ref (ad 34)])), ((ad 20), .inl (cA 0, 3, .inl M_sides))]
abbrev wcX4_stride (ad : Nat → Nat) (cA : Nat → ClassId) (M_thrown : Int32) (M_trace : Int64) (M_found : Int64) (M_foundSet : Int64) (M_foundTimes : Int64) (M_w : Int32) (M_h : Int32) (M_sides : Nat → Int32) : va_W := [((ad 19), .inr (4, [.int M_thrown, .long M_trace, .ref (ad 20), .ref (ad 21), .ref (ad 22), .ref (ad 23), .ref (ad 24), .ref (ad 25), .ref (ad 26), .ref (ad 27), .ref (ad 28), .ref (ad 29), .ref (ad 30), .ref (ad 31), .long M_found, .long M_foundSet, .long M_foundTimes, .int M_w, .int M_h, .ref (ad 32), .ref (ad 33), .ref (ad 34)])), ((ad 20), .inl (cA 0, 3, .inl M_sides))]
def rmX4_stride : Room := { frames := 0, cells := 0, slots := 0, locals := 0 }
abbrev atX4_stride_0 (X : gX) (ad : Nat → Nat) (cA : Nat → ClassId) (p1 : Int32) (M_thrown : Int32) (M_trace : Int64) (M_found : Int64) (M_foundSet : Int64) (M_foundTimes : Int64) (M_w : Int32) (M_h : Int32) (M_sides : Nat → Int32) : Prop := gW X 0 0 [((ad 19), .inr (4, [.int M_thrown, .long M_trace, .ref (ad 20), .ref (ad 21), .ref (ad 22), .ref (ad 23), .ref (ad 24), .ref (ad 25), .ref (ad 26), .ref (ad 27), .ref (ad 28), .ref (ad 29), .ref (ad 30), .ref (ad 31), .long M_found, .long M_foundSet, .long M_foundTimes, .int M_w, .int M_h, .ref (ad 32), .ref (ad 33), .ref (ad 34)])), ((ad 20), .inl (cA 0, 3, .inl M_sides))] 2 [(0, .ref (ad 19)), (1, .int p1)] [] 0
theorem giX4_stride_X4 : ∀ w ∈ u_ws RX4 TX4 22, w ∈ wsX4_stride := by decide +kernel
theorem gfX4_stride_7 : gF wsX4_stride RX4 7 4 2 RX4 TX4 22 := ⟨giX4_stride_X4, by decide +kernel, rfl, by decide⟩
set_option maxHeartbeats 4000000 in
set_option maxRecDepth 100000 in
theorem sgX4_stride_0 {X : gX} {ad : Nat → Nat} {cA : Nat → ClassId} {post : Int32 → (Unit) → Prop} {p1 : Int32} {M_thrown : Int32} {M_trace : Int64} {M_found : Int64} {M_foundSet : Int64} {M_foundTimes : Int64} {M_w : Int32} {M_h : Int32} {M_sides : Nat → Int32} (C : gC X (gT cA) cX4_stride 2 RX4 wsX4_stride rmX4_stride) (E : gEi X (some .int) (gT cA) 0 0 post (w1X4_stride ad cA M_thrown M_trace M_found M_foundSet M_foundTimes M_w M_h M_sides)) (h : (¬ p1 = 0 → (¬ p1 = (1 : Int32) → vp_in (0 : Int32) 3 ∧ vp_in (1 : Int32) 3 ∧ post ((M_sides (0 : Int32).toNatClampNeg) * (M_sides (1 : Int32).toNatClampNeg)) ()) ∧ (p1 = (1 : Int32) → vp_in (0 : Int32) 3 ∧ post (M_sides (0 : Int32).toNatClampNeg) ())) ∧ (p1 = 0 → post (1 : Int32) ())) : atX4_stride_0 X ad cA p1 M_thrown M_trace M_found M_foundSet M_foundTimes M_w M_h M_sides := by
  refine g_iload_n C dX4_stride_0 rfl 1 rfl ?_
  refine g_if_ne (tgt := 8) C dX4_stride_1 (by decide) (fun c_1 => ?_) (fun c_1 => ?_)
  · replace h := h.1 c_1
    refine g_iload_n C dX4_stride_8 rfl 1 rfl ?_
    refine g_iconst C dX4_stride_9 ik_1 ?_
    refine g_icmp_ne (tgt := 22) C dX4_stride_10 (by decide) (fun c_2 => ?_) (fun c_2 => ?_)
    · replace h := h.1 c_2
      refine g_aload_n C dX4_stride_22 rfl 0 rfl ?_
      refine g_get C gfX4_stride_7 0 rfl rfl dX4_stride_23 ?_
      refine g_iconst C dX4_stride_26 ik_0 ?_
      obtain ⟨hi_3, h⟩ := h
      refine g_iald C 1 0 rfl rfl hi_3 dX4_stride_27 ?_
      refine g_aload_n C dX4_stride_28 rfl 0 rfl ?_
      refine g_get C gfX4_stride_7 0 rfl rfl dX4_stride_29 ?_
      refine g_iconst C dX4_stride_32 ik_1 ?_
      obtain ⟨hi_4, h⟩ := h
      refine g_iald C 1 0 rfl rfl hi_4 dX4_stride_33 ?_
      refine g_imul C dX4_stride_34 ?_
      exact g_iret C E () h rfl dX4_stride_35
    · replace h := h.2 c_2
      refine g_aload_n C dX4_stride_13 rfl 0 rfl ?_
      refine g_get C gfX4_stride_7 0 rfl rfl dX4_stride_14 ?_
      refine g_iconst C dX4_stride_17 ik_0 ?_
      obtain ⟨hi_5, h⟩ := h
      refine g_iald C 1 0 rfl rfl hi_5 dX4_stride_18 ?_
      refine g_goto (tgt := 35) C dX4_stride_19 (by decide) ?_
      exact g_iret C E () h rfl dX4_stride_35
  · replace h := h.2 c_1
    refine g_iconst C dX4_stride_4 ik_1 ?_
    refine g_goto (tgt := 35) C dX4_stride_5 (by decide) ?_
    exact g_iret C E () h rfl dX4_stride_35
def fnX4_stride (p1 : Int32) (M_thrown : Int32) (M_trace : Int64) (M_found : Int64) (M_foundSet : Int64) (M_foundTimes : Int64) (M_w : Int32) (M_h : Int32) (M_sides : Nat → Int32) : Int32 := (if p1 = 0 then (1 : Int32) else (if p1 = (1 : Int32) then (M_sides (0 : Int32).toNatClampNeg) else ((M_sides (0 : Int32).toNatClampNeg) * (M_sides (1 : Int32).toNatClampNeg))))
def prX4_stride (p1 : Int32) (M_thrown : Int32) (M_trace : Int64) (M_found : Int64) (M_foundSet : Int64) (M_foundTimes : Int64) (M_w : Int32) (M_h : Int32) (M_sides : Nat → Int32) : Prop := (¬ p1 = 0 → (¬ p1 = (1 : Int32) → vp_in (0 : Int32) 3 ∧ vp_in (1 : Int32) 3) ∧ (p1 = (1 : Int32) → vp_in (0 : Int32) 3)) ∧ (p1 = 0 → True)
set_option maxHeartbeats 4000000 in
set_option maxRecDepth 100000 in
theorem c_X4_stride (ad : Nat → Nat) (cA : Nat → ClassId) (p1 : Int32) (M_thrown : Int32) (M_trace : Int64) (M_found : Int64) (M_foundSet : Int64) (M_foundTimes : Int64) (M_w : Int32) (M_h : Int32) (M_sides : Nat → Int32) (hq : prX4_stride p1 M_thrown M_trace M_found M_foundSet M_foundTimes M_w M_h M_sides) : ∀ (l : Launch) (D : va_G), gMi (S := Unit) l yX4_stride wsX4_stride rmX4_stride D (gT cA) 0 0 [.ref (ad 19), .int p1] (wcX4_stride ad cA M_thrown M_trace M_found M_foundSet M_foundTimes M_w M_h M_sides) (fun r _ => r = fnX4_stride p1 M_thrown M_trace M_found M_foundSet M_foundTimes M_w M_h M_sides) (w1X4_stride ad cA M_thrown M_trace M_found M_foundSet M_foundTimes M_w M_h M_sides) := by
  intro l D
  refine g_enteri (cc := cX4_stride) (nL := 2) (ret := (some .int)) (by decide) rfl (Nat.le_of_ble_eq_true rfl) rfl (fun X C E => sgX4_stride_0 C E ?_)
  unfold prX4_stride at hq
  refine ⟨fun c_6 => ?_, fun c_6 => ?_⟩
  · replace hq := hq.1 c_6
    refine ⟨fun c_7 => ?_, fun c_7 => ?_⟩
    · replace hq := hq.1 c_7
      refine ⟨hq.1, ?_⟩
      replace hq := hq.2
      refine ⟨hq, ?_⟩
      exact (by unfold fnX4_stride; first | rfl | (simp only [if_neg c_6, if_neg c_7]; done) | (simp only [if_neg c_6, if_neg c_7]; rfl))
    · replace hq := hq.2 c_7
      refine ⟨hq, ?_⟩
      exact (by unfold fnX4_stride; first | rfl | (simp only [if_neg c_6, if_pos c_7]; done) | (simp only [if_neg c_6, if_pos c_7]; rfl))
  · replace hq := hq.2 c_6
    exact (by unfold fnX4_stride; first | rfl | (simp only [if_pos c_6]; done) | (simp only [if_pos c_6]; rfl))

abbrev w1X4_faceCost (ad : Nat → Nat) (cA : Nat → ClassId) (M_thrown : Int32) (M_trace : Int64) (M_found : Int64) (M_foundSet : Int64) (M_foundTimes : Int64) (M_w : Int32) (M_h : Int32) (M_rules : Nat → Int32) (u : Unit) : va_W := [((ad 19), .inr (4, [.int M_thrown, .long M_trace, .ref (ad 20), .ref (ad 21), .ref (ad 22), .ref (ad 23), .ref (ad 24), .ref (ad 25), .ref (ad 26), .ref (ad 27), .ref (ad 28), .ref (ad 29), .ref (ad 30), .ref (ad 31), .long M_found, .long M_foundSet, .long M_foundTimes, .int M_w, .int M_h, .ref (ad 32), .ref (ad 33), .ref (ad 34)])), ((ad 23), .inl (cA 0, 7, .inl M_rules))]
abbrev wcX4_faceCost (ad : Nat → Nat) (cA : Nat → ClassId) (M_thrown : Int32) (M_trace : Int64) (M_found : Int64) (M_foundSet : Int64) (M_foundTimes : Int64) (M_w : Int32) (M_h : Int32) (M_rules : Nat → Int32) : va_W := [((ad 19), .inr (4, [.int M_thrown, .long M_trace, .ref (ad 20), .ref (ad 21), .ref (ad 22), .ref (ad 23), .ref (ad 24), .ref (ad 25), .ref (ad 26), .ref (ad 27), .ref (ad 28), .ref (ad 29), .ref (ad 30), .ref (ad 31), .long M_found, .long M_foundSet, .long M_foundTimes, .int M_w, .int M_h, .ref (ad 32), .ref (ad 33), .ref (ad 34)])), ((ad 23), .inl (cA 0, 7, .inl M_rules))]
def rmX4_faceCost : Room := { frames := 0, cells := 0, slots := 0, locals := 0 }
abbrev atX4_faceCost_0 (X : gX) (ad : Nat → Nat) (cA : Nat → ClassId) (p1 : Int32) (p2 : Int32) (p3 : Int32) (M_thrown : Int32) (M_trace : Int64) (M_found : Int64) (M_foundSet : Int64) (M_foundTimes : Int64) (M_w : Int32) (M_h : Int32) (M_rules : Nat → Int32) : Prop := gW X 0 0 [((ad 19), .inr (4, [.int M_thrown, .long M_trace, .ref (ad 20), .ref (ad 21), .ref (ad 22), .ref (ad 23), .ref (ad 24), .ref (ad 25), .ref (ad 26), .ref (ad 27), .ref (ad 28), .ref (ad 29), .ref (ad 30), .ref (ad 31), .long M_found, .long M_foundSet, .long M_foundTimes, .int M_w, .int M_h, .ref (ad 32), .ref (ad 33), .ref (ad 34)])), ((ad 23), .inl (cA 0, 7, .inl M_rules))] 5 [(0, .ref (ad 19)), (1, .int p1), (2, .int p2), (3, .int p3)] [] 0
theorem giX4_faceCost_X4 : ∀ w ∈ u_ws RX4 TX4 22, w ∈ wsX4_faceCost := by decide +kernel
theorem gfX4_faceCost_19 : gF wsX4_faceCost RX4 19 4 5 RX4 TX4 22 := ⟨giX4_faceCost_X4, by decide +kernel, rfl, by decide⟩
set_option maxHeartbeats 4000000 in
set_option maxRecDepth 100000 in
theorem sgX4_faceCost_0 {X : gX} {ad : Nat → Nat} {cA : Nat → ClassId} {post : Int32 → (Unit) → Prop} {p1 : Int32} {p2 : Int32} {p3 : Int32} {M_thrown : Int32} {M_trace : Int64} {M_found : Int64} {M_foundSet : Int64} {M_foundTimes : Int64} {M_w : Int32} {M_h : Int32} {M_rules : Nat → Int32} (C : gC X (gT cA) cX4_faceCost 5 RX4 wsX4_faceCost rmX4_faceCost) (E : gEi X (some .int) (gT cA) 0 0 post (w1X4_faceCost ad cA M_thrown M_trace M_found M_foundSet M_foundTimes M_w M_h M_rules)) (h : vp_in p2 7 ∧ ((p1 ≤ 0 → True) ∧ (¬ p1 ≤ 0 → (¬ (p3 - p3 / (2 : Int32) * (2 : Int32)) = (1 : Int32) → True) ∧ ((p3 - p3 / (2 : Int32) * (2 : Int32)) = (1 : Int32) → vp_in (4 : Int32) 7))) ∧ (¬ p1 = (2 : Int32) → post ((M_rules p2.toNatClampNeg) + (if p1 ≤ 0 then (0 : Int32) else (if (p3 - p3 / (2 : Int32) * (2 : Int32)) = (1 : Int32) then (M_rules (4 : Int32).toNatClampNeg) else (0 : Int32)))) ()) ∧ (p1 = (2 : Int32) → vp_in (5 : Int32) 7 ∧ (((M_rules p2.toNatClampNeg) + (if p1 ≤ 0 then (0 : Int32) else (if (p3 - p3 / (2 : Int32) * (2 : Int32)) = (1 : Int32) then (M_rules (4 : Int32).toNatClampNeg) else (0 : Int32)))) ≤ (M_rules (5 : Int32).toNatClampNeg) → post ((M_rules p2.toNatClampNeg) + (if p1 ≤ 0 then (0 : Int32) else (if (p3 - p3 / (2 : Int32) * (2 : Int32)) = (1 : Int32) then (M_rules (4 : Int32).toNatClampNeg) else (0 : Int32)))) ()) ∧ (¬ ((M_rules p2.toNatClampNeg) + (if p1 ≤ 0 then (0 : Int32) else (if (p3 - p3 / (2 : Int32) * (2 : Int32)) = (1 : Int32) then (M_rules (4 : Int32).toNatClampNeg) else (0 : Int32)))) ≤ (M_rules (5 : Int32).toNatClampNeg) → vp_in (5 : Int32) 7 ∧ post (M_rules (5 : Int32).toNatClampNeg) ()))) : atX4_faceCost_0 X ad cA p1 p2 p3 M_thrown M_trace M_found M_foundSet M_foundTimes M_w M_h M_rules := by
  refine g_aload_n C dX4_faceCost_0 rfl 0 rfl ?_
  refine g_get C gfX4_faceCost_19 0 rfl rfl dX4_faceCost_1 ?_
  refine g_iload_n C dX4_faceCost_4 rfl 2 rfl ?_
  obtain ⟨hi_1, h⟩ := h
  refine g_iald C 1 0 rfl rfl hi_1 dX4_faceCost_5 ?_
  refine g_istore (lv2 := [(0, .ref (ad 19)), (1, .int p1), (2, .int p2), (3, .int p3), (4, .int (M_rules p2.toNatClampNeg))]) C dX4_faceCost_6 (by decide) [1, 2, 3, 4, 0] rfl ?_
  refine g_iload C dX4_faceCost_8 4 rfl ?_
  refine g_iload_n C dX4_faceCost_10 rfl 1 rfl ?_
  obtain ⟨hr_31, h⟩ := h
  have key : gW X 0 0 [((ad 19), .inr (4, [.int M_thrown, .long M_trace, .ref (ad 20), .ref (ad 21), .ref (ad 22), .ref (ad 23), .ref (ad 24), .ref (ad 25), .ref (ad 26), .ref (ad 27), .ref (ad 28), .ref (ad 29), .ref (ad 30), .ref (ad 31), .long M_found, .long M_foundSet, .long M_foundTimes, .int M_w, .int M_h, .ref (ad 32), .ref (ad 33), .ref (ad 34)])), ((ad 23), .inl (cA 0, 7, .inl M_rules))] 5 [(0, .ref (ad 19)), (1, .int p1), (2, .int p2), (3, .int p3), (4, .int (M_rules p2.toNatClampNeg))] [.int (if p1 ≤ 0 then (0 : Int32) else (if (p3 - p3 / (2 : Int32) * (2 : Int32)) = (1 : Int32) then (M_rules (4 : Int32).toNatClampNeg) else (0 : Int32))), .int (M_rules p2.toNatClampNeg)] 31 := by
    refine g_iadd C dX4_faceCost_31 ?_
    refine g_istore (lv2 := [(0, .ref (ad 19)), (1, .int p1), (2, .int p2), (3, .int p3), (4, .int ((M_rules p2.toNatClampNeg) + (if p1 ≤ 0 then (0 : Int32) else (if (p3 - p3 / (2 : Int32) * (2 : Int32)) = (1 : Int32) then (M_rules (4 : Int32).toNatClampNeg) else (0 : Int32)))))]) C dX4_faceCost_32 (by decide) [1, 2, 3, 4, 0] rfl ?_
    refine g_iload_n C dX4_faceCost_34 rfl 1 rfl ?_
    refine g_iconst C dX4_faceCost_35 ik_2 ?_
    refine g_icmp_ne (tgt := 59) C dX4_faceCost_36 (by decide) (fun c_5 => ?_) (fun c_5 => ?_)
    · replace h := h.1 c_5
      refine g_iload C dX4_faceCost_59 4 rfl ?_
      exact g_iret C E () h rfl dX4_faceCost_61
    · replace h := h.2 c_5
      refine g_iload C dX4_faceCost_39 4 rfl ?_
      refine g_aload_n C dX4_faceCost_41 rfl 0 rfl ?_
      refine g_get C gfX4_faceCost_19 0 rfl rfl dX4_faceCost_42 ?_
      refine g_iconst C dX4_faceCost_45 ik_5 ?_
      obtain ⟨hi_6, h⟩ := h
      refine g_iald C 1 0 rfl rfl hi_6 dX4_faceCost_46 ?_
      refine g_icmp_le (tgt := 59) C dX4_faceCost_47 (by decide) (fun c_7 => ?_) (fun c_7 => ?_)
      · replace h := h.1 c_7
        refine g_iload C dX4_faceCost_59 4 rfl ?_
        exact g_iret C E () h rfl dX4_faceCost_61
      · replace h := h.2 c_7
        refine g_aload_n C dX4_faceCost_50 rfl 0 rfl ?_
        refine g_get C gfX4_faceCost_19 0 rfl rfl dX4_faceCost_51 ?_
        refine g_iconst C dX4_faceCost_54 ik_5 ?_
        obtain ⟨hi_8, h⟩ := h
        refine g_iald C 1 0 rfl rfl hi_8 dX4_faceCost_55 ?_
        refine g_goto (tgt := 61) C dX4_faceCost_56 (by decide) ?_
        exact g_iret C E () h rfl dX4_faceCost_61
  replace h := hr_31
  refine g_if_le (tgt := 30) C dX4_faceCost_11 (by decide) (fun c_2 => ?_) (fun c_2 => ?_)
  · replace h := h.1 c_2
    refine g_iconst C dX4_faceCost_30 ik_0 ?_
    exact g_leaf (by simp only [if_pos c_2] at key; first | exact key | (simp only [if_pos c_2]; exact key) | exact absurd rfl c_2)
  · replace h := h.2 c_2
    refine g_iload_n C dX4_faceCost_14 rfl 3 rfl ?_
    refine g_iconst C dX4_faceCost_15 ik_2 ?_
    refine g_irem C dX4_faceCost_16 (by decide) ?_
    refine g_iconst C dX4_faceCost_17 ik_1 ?_
    have hr_31 := h
    have key : gW X 0 0 [((ad 19), .inr (4, [.int M_thrown, .long M_trace, .ref (ad 20), .ref (ad 21), .ref (ad 22), .ref (ad 23), .ref (ad 24), .ref (ad 25), .ref (ad 26), .ref (ad 27), .ref (ad 28), .ref (ad 29), .ref (ad 30), .ref (ad 31), .long M_found, .long M_foundSet, .long M_foundTimes, .int M_w, .int M_h, .ref (ad 32), .ref (ad 33), .ref (ad 34)])), ((ad 23), .inl (cA 0, 7, .inl M_rules))] 5 [(0, .ref (ad 19)), (1, .int p1), (2, .int p2), (3, .int p3), (4, .int (M_rules p2.toNatClampNeg))] [.int (if (p3 - p3 / (2 : Int32) * (2 : Int32)) = (1 : Int32) then (M_rules (4 : Int32).toNatClampNeg) else (0 : Int32)), .int (M_rules p2.toNatClampNeg)] 31 := by
      exact g_leaf (by simp only [if_neg c_2] at key; first | exact key | (simp only [if_neg c_2]; exact key) | exact absurd rfl c_2)
    replace h := hr_31
    refine g_icmp_ne (tgt := 30) C dX4_faceCost_18 (by decide) (fun c_3 => ?_) (fun c_3 => ?_)
    · replace h := h.1 c_3
      refine g_iconst C dX4_faceCost_30 ik_0 ?_
      exact g_leaf (by simp only [if_neg c_3] at key; first | exact key | (simp only [if_neg c_3]; exact key) | exact absurd rfl c_3)
    · replace h := h.2 c_3
      refine g_aload_n C dX4_faceCost_21 rfl 0 rfl ?_
      refine g_get C gfX4_faceCost_19 0 rfl rfl dX4_faceCost_22 ?_
      refine g_iconst C dX4_faceCost_25 ik_4 ?_
      have hi_4 := h
      refine g_iald C 1 0 rfl rfl hi_4 dX4_faceCost_26 ?_
      refine g_goto (tgt := 31) C dX4_faceCost_27 (by decide) ?_
      exact g_leaf (by simp only [if_pos c_3] at key; first | exact key | (simp only [if_pos c_3]; exact key) | exact absurd rfl c_3)
def fnX4_faceCost (p1 : Int32) (p2 : Int32) (p3 : Int32) (M_thrown : Int32) (M_trace : Int64) (M_found : Int64) (M_foundSet : Int64) (M_foundTimes : Int64) (M_w : Int32) (M_h : Int32) (M_rules : Nat → Int32) : Int32 := (if p1 = (2 : Int32) then (if ((M_rules p2.toNatClampNeg) + (if p1 ≤ 0 then (0 : Int32) else (if (p3 - p3 / (2 : Int32) * (2 : Int32)) = (1 : Int32) then (M_rules (4 : Int32).toNatClampNeg) else (0 : Int32)))) ≤ (M_rules (5 : Int32).toNatClampNeg) then ((M_rules p2.toNatClampNeg) + (if p1 ≤ 0 then (0 : Int32) else (if (p3 - p3 / (2 : Int32) * (2 : Int32)) = (1 : Int32) then (M_rules (4 : Int32).toNatClampNeg) else (0 : Int32)))) else (M_rules (5 : Int32).toNatClampNeg)) else ((M_rules p2.toNatClampNeg) + (if p1 ≤ 0 then (0 : Int32) else (if (p3 - p3 / (2 : Int32) * (2 : Int32)) = (1 : Int32) then (M_rules (4 : Int32).toNatClampNeg) else (0 : Int32)))))
def prX4_faceCost (p1 : Int32) (p2 : Int32) (p3 : Int32) (M_thrown : Int32) (M_trace : Int64) (M_found : Int64) (M_foundSet : Int64) (M_foundTimes : Int64) (M_w : Int32) (M_h : Int32) (M_rules : Nat → Int32) : Prop := vp_in p2 7 ∧ ((p1 ≤ 0 → True) ∧ (¬ p1 ≤ 0 → (¬ (p3 - p3 / (2 : Int32) * (2 : Int32)) = (1 : Int32) → True) ∧ ((p3 - p3 / (2 : Int32) * (2 : Int32)) = (1 : Int32) → vp_in (4 : Int32) 7))) ∧ (¬ p1 = (2 : Int32) → True) ∧ (p1 = (2 : Int32) → vp_in (5 : Int32) 7 ∧ (((M_rules p2.toNatClampNeg) + (if p1 ≤ 0 then (0 : Int32) else (if (p3 - p3 / (2 : Int32) * (2 : Int32)) = (1 : Int32) then (M_rules (4 : Int32).toNatClampNeg) else (0 : Int32)))) ≤ (M_rules (5 : Int32).toNatClampNeg) → True) ∧ (¬ ((M_rules p2.toNatClampNeg) + (if p1 ≤ 0 then (0 : Int32) else (if (p3 - p3 / (2 : Int32) * (2 : Int32)) = (1 : Int32) then (M_rules (4 : Int32).toNatClampNeg) else (0 : Int32)))) ≤ (M_rules (5 : Int32).toNatClampNeg) → vp_in (5 : Int32) 7))
set_option maxHeartbeats 4000000 in
set_option maxRecDepth 100000 in
theorem c_X4_faceCost (ad : Nat → Nat) (cA : Nat → ClassId) (p1 : Int32) (p2 : Int32) (p3 : Int32) (M_thrown : Int32) (M_trace : Int64) (M_found : Int64) (M_foundSet : Int64) (M_foundTimes : Int64) (M_w : Int32) (M_h : Int32) (M_rules : Nat → Int32) (hq : prX4_faceCost p1 p2 p3 M_thrown M_trace M_found M_foundSet M_foundTimes M_w M_h M_rules) : ∀ (l : Launch) (D : va_G), gMi (S := Unit) l yX4_faceCost wsX4_faceCost rmX4_faceCost D (gT cA) 0 0 [.ref (ad 19), .int p1, .int p2, .int p3] (wcX4_faceCost ad cA M_thrown M_trace M_found M_foundSet M_foundTimes M_w M_h M_rules) (fun r _ => r = fnX4_faceCost p1 p2 p3 M_thrown M_trace M_found M_foundSet M_foundTimes M_w M_h M_rules) (w1X4_faceCost ad cA M_thrown M_trace M_found M_foundSet M_foundTimes M_w M_h M_rules) := by
  intro l D
  refine g_enteri (cc := cX4_faceCost) (nL := 5) (ret := (some .int)) (by decide) rfl (Nat.le_of_ble_eq_true rfl) rfl (fun X C E => sgX4_faceCost_0 C E ?_)
  unfold prX4_faceCost at hq
  refine ⟨hq.1, ?_⟩
  replace hq := hq.2
  refine ⟨hq.1, ?_⟩
  replace hq := hq.2
  refine ⟨fun c_13 => ?_, fun c_13 => ?_⟩
  · replace hq := hq.1 c_13
    exact (by unfold fnX4_faceCost; first | rfl | (simp only [if_neg c_13]; done) | (simp only [if_neg c_13]; rfl))
  · replace hq := hq.2 c_13
    refine ⟨hq.1, ?_⟩
    replace hq := hq.2
    refine ⟨fun c_15 => ?_, fun c_15 => ?_⟩
    · replace hq := hq.1 c_15
      exact (by unfold fnX4_faceCost; first | rfl | (simp only [if_pos c_13, if_pos c_15]; done) | (simp only [if_pos c_13, if_pos c_15]; rfl))
    · replace hq := hq.2 c_15
      refine ⟨hq, ?_⟩
      exact (by unfold fnX4_faceCost; first | rfl | (simp only [if_pos c_13, if_neg c_15]; done) | (simp only [if_pos c_13, if_neg c_15]; rfl))

abbrev w1X4_isSet (ad : Nat → Nat) (cA : Nat → ClassId) (M_thrown : Int32) (M_trace : Int64) (M_found : Int64) (M_foundSet : Int64) (M_foundTimes : Int64) (M_w : Int32) (M_h : Int32) (M_sides : Nat → Int32) (u : Unit) : va_W := [((ad 19), .inr (4, [.int M_thrown, .long M_trace, .ref (ad 20), .ref (ad 21), .ref (ad 22), .ref (ad 23), .ref (ad 24), .ref (ad 25), .ref (ad 26), .ref (ad 27), .ref (ad 28), .ref (ad 29), .ref (ad 30), .ref (ad 31), .long M_found, .long M_foundSet, .long M_foundTimes, .int M_w, .int M_h, .ref (ad 32), .ref (ad 33), .ref (ad 34)])), ((ad 20), .inl (cA 0, 3, .inl M_sides))]
abbrev wcX4_isSet (ad : Nat → Nat) (cA : Nat → ClassId) (M_thrown : Int32) (M_trace : Int64) (M_found : Int64) (M_foundSet : Int64) (M_foundTimes : Int64) (M_w : Int32) (M_h : Int32) (M_sides : Nat → Int32) : va_W := [((ad 19), .inr (4, [.int M_thrown, .long M_trace, .ref (ad 20), .ref (ad 21), .ref (ad 22), .ref (ad 23), .ref (ad 24), .ref (ad 25), .ref (ad 26), .ref (ad 27), .ref (ad 28), .ref (ad 29), .ref (ad 30), .ref (ad 31), .long M_found, .long M_foundSet, .long M_foundTimes, .int M_w, .int M_h, .ref (ad 32), .ref (ad 33), .ref (ad 34)])), ((ad 20), .inl (cA 0, 3, .inl M_sides))]
def rmX4_isSet : Room := { frames := 1, cells := 0, slots := 0, locals := 20 }
abbrev atX4_isSet_0 (X : gX) (ad : Nat → Nat) (cA : Nat → ClassId) (p1 : Int64) (M_thrown : Int32) (M_trace : Int64) (M_found : Int64) (M_foundSet : Int64) (M_foundTimes : Int64) (M_w : Int32) (M_h : Int32) (M_sides : Nat → Int32) : Prop := gW X 0 0 [((ad 19), .inr (4, [.int M_thrown, .long M_trace, .ref (ad 20), .ref (ad 21), .ref (ad 22), .ref (ad 23), .ref (ad 24), .ref (ad 25), .ref (ad 26), .ref (ad 27), .ref (ad 28), .ref (ad 29), .ref (ad 30), .ref (ad 31), .long M_found, .long M_foundSet, .long M_foundTimes, .int M_w, .int M_h, .ref (ad 32), .ref (ad 33), .ref (ad 34)])), ((ad 20), .inl (cA 0, 3, .inl M_sides))] 3 [(0, .ref (ad 19)), (1, .long p1)] [] 0
set_option maxHeartbeats 4000000 in
set_option maxRecDepth 100000 in
theorem sgX4_isSet_0 {X : gX} {ad : Nat → Nat} {cA : Nat → ClassId} {post : Int32 → (Unit) → Prop} {p1 : Int64} {M_thrown : Int32} {M_trace : Int64} {M_found : Int64} {M_foundSet : Int64} {M_foundTimes : Int64} {M_w : Int32} {M_h : Int32} {M_sides : Nat → Int32} (C : gC X (gT cA) cX4_isSet 3 RX4 wsX4_isSet rmX4_isSet) (E : gEi X (some .boolean) (gT cA) 0 0 post (w1X4_isSet ad cA M_thrown M_trace M_found M_foundSet M_foundTimes M_w M_h M_sides)) (h : (p1 < (0 : Int64) → post (0 : Int32) ()) ∧ (¬ p1 < (0 : Int64) → prX4_cells M_thrown M_trace M_found M_foundSet M_foundTimes M_w M_h M_sides ∧ (¬ (p1 >>> ((fnX4_cells M_thrown M_trace M_found M_foundSet M_foundTimes M_w M_h M_sides).toInt64 &&& 63)) = (0 : Int64) → post (0 : Int32) ()) ∧ ((p1 >>> ((fnX4_cells M_thrown M_trace M_found M_foundSet M_foundTimes M_w M_h M_sides).toInt64 &&& 63)) = (0 : Int64) → post (1 : Int32) ()))) : atX4_isSet_0 X ad cA p1 M_thrown M_trace M_found M_foundSet M_foundTimes M_w M_h M_sides := by
  refine g_lload_n C dX4_isSet_0 rfl 1 rfl ?_
  refine g_lconst C dX4_isSet_1 lk_0 ?_
  refine g_lcmp_lt (tgt := 21) C dX4_isSet_2 dX4_isSet_3 rfl (by decide) (fun c_1 => ?_) (fun c_1 => ?_)
  · replace h := h.1 c_1
    refine g_iconst C dX4_isSet_21 ik_0 ?_
    exact g_zret C E rfl () h rfl dX4_isSet_22
  · replace h := h.2 c_1
    refine g_lload_n C dX4_isSet_6 rfl 1 rfl ?_
    refine g_aload_n C dX4_isSet_7 rfl 0 rfl ?_
    obtain ⟨hi_2, h⟩ := h
    refine g_callVi (wr := []) C (c_X4_cells ad cA M_thrown M_trace M_found M_foundSet M_foundTimes M_w M_h M_sides hi_2) gX4_isSet_X4_cells rfl hde_X4_cells ⟨rfl, rfl⟩ (by decide) (by decide) [0, 1] [] [0, 1] rfl rfl rfl rfl (by decide) rfl (ws2 := fun u => [((ad 19), .inr (4, [.int M_thrown, .long M_trace, .ref (ad 20), .ref (ad 21), .ref (ad 22), .ref (ad 23), .ref (ad 24), .ref (ad 25), .ref (ad 26), .ref (ad 27), .ref (ad 28), .ref (ad 29), .ref (ad 30), .ref (ad 31), .long M_found, .long M_foundSet, .long M_foundTimes, .int M_w, .int M_h, .ref (ad 32), .ref (ad 33), .ref (ad 34)])), ((ad 20), .inl (cA 0, 3, .inl M_sides))]) (fun _ => rfl) 4 0 rfl rfl rfl (rest := [.long p1]) rfl (Nat.le_of_ble_eq_true rfl) dX4_isSet_8 (fun r_3 u_3 hp_3 => ?_)
    subst hp_3
    change gW X 0 0 [((ad 19), .inr (4, [.int M_thrown, .long M_trace, .ref (ad 20), .ref (ad 21), .ref (ad 22), .ref (ad 23), .ref (ad 24), .ref (ad 25), .ref (ad 26), .ref (ad 27), .ref (ad 28), .ref (ad 29), .ref (ad 30), .ref (ad 31), .long M_found, .long M_foundSet, .long M_foundTimes, .int M_w, .int M_h, .ref (ad 32), .ref (ad 33), .ref (ad 34)])), ((ad 20), .inl (cA 0, 3, .inl M_sides))] 3 [(0, .ref (ad 19)), (1, .long p1)] [.int (fnX4_cells M_thrown M_trace M_found M_foundSet M_foundTimes M_w M_h M_sides), .long p1] 11
    refine g_lshr C dX4_isSet_11 ?_
    refine g_lconst C dX4_isSet_12 lk_0 ?_
    refine g_lcmp_ne (tgt := 21) C dX4_isSet_13 dX4_isSet_14 rfl (by decide) (fun c_4 => ?_) (fun c_4 => ?_)
    · replace h := h.1 c_4
      refine g_iconst C dX4_isSet_21 ik_0 ?_
      exact g_zret C E rfl () h rfl dX4_isSet_22
    · replace h := h.2 c_4
      refine g_iconst C dX4_isSet_17 ik_1 ?_
      refine g_goto (tgt := 22) C dX4_isSet_18 (by decide) ?_
      exact g_zret C E rfl () h rfl dX4_isSet_22
def fnX4_isSet (p1 : Int64) (M_thrown : Int32) (M_trace : Int64) (M_found : Int64) (M_foundSet : Int64) (M_foundTimes : Int64) (M_w : Int32) (M_h : Int32) (M_sides : Nat → Int32) : Bool := (if p1 < (0 : Int64) then false else (if (p1 >>> ((fnX4_cells M_thrown M_trace M_found M_foundSet M_foundTimes M_w M_h M_sides).toInt64 &&& 63)) = (0 : Int64) then true else false))
def prX4_isSet (p1 : Int64) (M_thrown : Int32) (M_trace : Int64) (M_found : Int64) (M_foundSet : Int64) (M_foundTimes : Int64) (M_w : Int32) (M_h : Int32) (M_sides : Nat → Int32) : Prop := (p1 < (0 : Int64) → True) ∧ (¬ p1 < (0 : Int64) → prX4_cells M_thrown M_trace M_found M_foundSet M_foundTimes M_w M_h M_sides)
set_option maxHeartbeats 4000000 in
set_option maxRecDepth 100000 in
theorem c_X4_isSet (ad : Nat → Nat) (cA : Nat → ClassId) (p1 : Int64) (M_thrown : Int32) (M_trace : Int64) (M_found : Int64) (M_foundSet : Int64) (M_foundTimes : Int64) (M_w : Int32) (M_h : Int32) (M_sides : Nat → Int32) (hq : prX4_isSet p1 M_thrown M_trace M_found M_foundSet M_foundTimes M_w M_h M_sides) : ∀ (l : Launch) (D : va_G), gMi (S := Unit) l yX4_isSet wsX4_isSet rmX4_isSet D (gT cA) 0 0 [.ref (ad 19), .long p1] (wcX4_isSet ad cA M_thrown M_trace M_found M_foundSet M_foundTimes M_w M_h M_sides) (fun r _ => r = bI (fnX4_isSet p1 M_thrown M_trace M_found M_foundSet M_foundTimes M_w M_h M_sides)) (w1X4_isSet ad cA M_thrown M_trace M_found M_foundSet M_foundTimes M_w M_h M_sides) := by
  intro l D
  refine g_enteri (cc := cX4_isSet) (nL := 3) (ret := (some .boolean)) (by decide) rfl (Nat.le_of_ble_eq_true rfl) rfl (fun X C E => sgX4_isSet_0 C E ?_)
  unfold prX4_isSet at hq
  refine ⟨fun c_5 => ?_, fun c_5 => ?_⟩
  · replace hq := hq.1 c_5
    exact (by unfold fnX4_isSet; first | rfl | (simp only [if_pos c_5]; done) | (simp only [if_pos c_5]; rfl))
  · replace hq := hq.2 c_5
    refine ⟨hq, ?_⟩
    refine ⟨fun c_8 => ?_, fun c_8 => ?_⟩
    · exact (by unfold fnX4_isSet; first | rfl | (simp only [if_neg c_5, if_neg c_8]; done) | (simp only [if_neg c_5, if_neg c_8]; rfl))
    · exact (by unfold fnX4_isSet; first | rfl | (simp only [if_neg c_5, if_pos c_8]; done) | (simp only [if_neg c_5, if_pos c_8]; rfl))

section M4
variable {M_thrown : Int32} {M_trace M_found M_foundSet M_foundTimes : Int64} {M_w M_h : Int32}
theorem cells_eq {sd : Nat → Int32} {X Y Z : Nat} (h : sdOK sd X Y Z) : fnX4_cells M_thrown M_trace M_found M_foundSet M_foundTimes M_w M_h sd = nI (X * Y * Z) ∧ prX4_cells M_thrown M_trace M_found M_foundSet M_foundTimes M_w M_h sd := by
  refine ⟨?_, vi_0_3, vi_1_3, vi_2_3⟩
  show sd 0 * sd 1 * sd 2 = _
  rw [h.1, h.2.1, h.2.2, pk_mul, pk_mul]
theorem place_eq {sd : Nat → Int32} {X Y Z : Nat} (hd : dimOK X Y Z) (h : sdOK sd X Y Z) {c k : Nat} (hc : c < X * Y * Z) (hk : k < 3) : fnX4_placeOf (nI c) (nI k) M_thrown M_trace M_found M_foundSet M_foundTimes M_w M_h sd = nI (bxP X Y Z c k) ∧ prX4_placeOf (nI c) (nI k) M_thrown M_trace M_found M_foundSet M_foundTimes M_w M_h sd := by
  obtain ⟨h1, h2, h3, h4, h5, h6, h7⟩ := hd
  have nx : ¬ sd (0 : Int32).toNatClampNeg = 0 := by show ¬ sd 0 = 0; rw [h.1]; exact nI_ne0 (by omega) (by omega)
  have ny : ¬ sd (1 : Int32).toNatClampNeg = 0 := by show ¬ sd 1 = 0; rw [h.2.1]; exact nI_ne0 (by omega) (by omega)
  have ex : sd (0 : Int32).toNatClampNeg = nI X := h.1
  have ey : sd (1 : Int32).toNatClampNeg = nI Y := h.2.1
  refine ⟨?_, fun _ => ⟨fun _ => ⟨vi_0_3, nx, vi_1_3, ny⟩, fun _ => ⟨vi_0_3, nx, vi_1_3, ny⟩⟩, fun _ => ⟨vi_0_3, nx⟩⟩
  unfold fnX4_placeOf
  rw [ex, ey]
  rcases (show k = 0 ∨ k = 1 ∨ k = 2 by omega) with rfl | rfl | rfl
  · rw [if_pos (show nI 0 = 0 from rfl), pk_rem (by omega) (by omega) (by omega)]
    show _ = nI (c / 1 % X)
    rw [Nat.div_one]
  · rw [if_neg (by decide), if_pos (show nI 1 = 1 from rfl), pk_div (by omega) (by omega) (by omega), pk_rem (by have := Nat.div_le_self c X; omega) (by omega) (by omega)]
    rfl
  · rw [if_neg (by decide), if_neg (by decide), pk_div (by omega) (by omega) (by omega), pk_div (by have := Nat.div_le_self c X; omega) (by omega) (by omega)]
    show _ = nI (c / (X * Y) % Z)
    rw [Nat.div_div_eq_div_mul, Nat.mod_eq_of_lt]
    exact Nat.div_lt_of_lt_mul hc
theorem stride_eq {sd : Nat → Int32} {X Y Z : Nat} (h : sdOK sd X Y Z) {k : Nat} (hk : k < 3) : fnX4_stride (nI k) M_thrown M_trace M_found M_foundSet M_foundTimes M_w M_h sd = nI (bxS X Y k) ∧ prX4_stride (nI k) M_thrown M_trace M_found M_foundSet M_foundTimes M_w M_h sd := by
  have ex : sd (0 : Int32).toNatClampNeg = nI X := h.1
  have ey : sd (1 : Int32).toNatClampNeg = nI Y := h.2.1
  refine ⟨?_, fun _ => ⟨fun _ => ⟨vi_0_3, vi_1_3⟩, fun _ => vi_0_3⟩, fun _ => trivial⟩
  unfold fnX4_stride
  rw [ex, ey]
  rcases (show k = 0 ∨ k = 1 ∨ k = 2 by omega) with rfl | rfl | rfl
  · rfl
  · rw [if_neg (by decide), if_pos (show nI 1 = 1 from rfl)]; rfl
  · rw [if_neg (by decide), if_neg (by decide), pk_mul]; rfl
theorem face_eq {ru : Nat → Int32} (h : ruOK ru) {kd k p : Nat} (hkd : kd ≤ 2) (hk : k < 3) (hp : p < 4) : fnX4_faceCost (nI kd) (nI k) (nI p) M_thrown M_trace M_found M_foundSet M_foundTimes M_w M_h ru = iI (sc ru kd k p) ∧ prX4_faceCost (nI kd) (nI k) (nI p) M_thrown M_trace M_found M_foundSet M_foundTimes M_w M_h ru := by
  have e2 : nI p - nI p / 2 * 2 = nI (p % 2) := pk_rem (d := 2) (by omega) (by decide) (by decide)
  have e5 : (nI (p % 2) = 1) = (p % 2 = 1) := propext (nI_eq (b := 1) (by omega) (by decide))
  have e6 : (nI kd ≤ 0) = (¬ 0 < kd) := propext (by rw [show (0 : Int32) = nI 0 from rfl, nI_leI (by omega) (by decide)]; omega)
  have e7 : (nI kd = 2) = (kd = 2) := propext (nI_eq (b := 2) (by omega) (by decide))
  have c4 : (4 : Int32).toNatClampNeg = 4 := rfl
  have c5 : (5 : Int32).toNatClampNeg = 5 := rfl
  have v1 := h.1 k (by omega)
  have v4 := h.1 4 (by omega)
  have v5 := h.2.1
  have v6 := h.2.2.1
  have s0 : ru k + 0 = ru k := Int32.add_zero _
  have sum : (ru k + ru 4).toInt = (ru k).toInt + (ru 4).toInt := toInt_add (by omega) (by omega)
  constructor
  · unfold fnX4_faceCost sc
    rw [e2, nI_clamp (by omega)]
    simp only [e5, e6, e7, c4, c5, Int32.le_iff_toInt_le]
    rw [← Int32.toInt_inj, toInt_iI (by (repeat' split) <;> omega) (by (repeat' split) <;> omega)]
    by_cases hk0 : 0 < kd <;> by_cases hk2 : kd = 2 <;> by_cases hp1 : p % 2 = 1 <;> simp only [hk0, hk2, hp1, (eq_true (by decide) : (0 < 2) = True), not_true_eq_false, not_false_eq_true, if_true, if_false, true_and, and_true, false_and, and_false, sum, s0, Int.add_zero]
    all_goals (try (split <;> split <;> (try simp only [sum]) <;> omega))
    all_goals (try (split <;> (try simp only [sum]) <;> omega))
    all_goals (try omega)
  · refine ⟨vp_in_nI (by omega) (by decide), ⟨fun _ => trivial, fun _ => ⟨fun _ => trivial, fun _ => vi_4_7⟩⟩, fun _ => trivial, fun _ => ⟨vi_5_7, fun _ => trivial, fun _ => vi_5_7⟩⟩
end M4

abbrev w1X4_outsides (ad : Nat → Nat) (cA : Nat → ClassId) (M_thrown : Int32) (M_trace : Int64) (M_found : Int64) (M_foundSet : Int64) (M_foundTimes : Int64) (M_w : Int32) (M_h : Int32) (M_sides : Nat → Int32) (u : Unit) : va_W := [((ad 19), .inr (4, [.int M_thrown, .long M_trace, .ref (ad 20), .ref (ad 21), .ref (ad 22), .ref (ad 23), .ref (ad 24), .ref (ad 25), .ref (ad 26), .ref (ad 27), .ref (ad 28), .ref (ad 29), .ref (ad 30), .ref (ad 31), .long M_found, .long M_foundSet, .long M_foundTimes, .int M_w, .int M_h, .ref (ad 32), .ref (ad 33), .ref (ad 34)])), ((ad 20), .inl (cA 0, 3, .inl M_sides))]
abbrev wcX4_outsides (ad : Nat → Nat) (cA : Nat → ClassId) (M_thrown : Int32) (M_trace : Int64) (M_found : Int64) (M_foundSet : Int64) (M_foundTimes : Int64) (M_w : Int32) (M_h : Int32) (M_sides : Nat → Int32) : va_W := [((ad 19), .inr (4, [.int M_thrown, .long M_trace, .ref (ad 20), .ref (ad 21), .ref (ad 22), .ref (ad 23), .ref (ad 24), .ref (ad 25), .ref (ad 26), .ref (ad 27), .ref (ad 28), .ref (ad 29), .ref (ad 30), .ref (ad 31), .long M_found, .long M_foundSet, .long M_foundTimes, .int M_w, .int M_h, .ref (ad 32), .ref (ad 33), .ref (ad 34)])), ((ad 20), .inl (cA 0, 3, .inl M_sides))]
def rmX4_outsides : Room := { frames := 1, cells := 0, slots := 0, locals := 22 }
abbrev atX4_outsides_0 (X : gX) (ad : Nat → Nat) (cA : Nat → ClassId) (p1 : Int32) (M_thrown : Int32) (M_trace : Int64) (M_found : Int64) (M_foundSet : Int64) (M_foundTimes : Int64) (M_w : Int32) (M_h : Int32) (M_sides : Nat → Int32) : Prop := gW X 0 0 [((ad 19), .inr (4, [.int M_thrown, .long M_trace, .ref (ad 20), .ref (ad 21), .ref (ad 22), .ref (ad 23), .ref (ad 24), .ref (ad 25), .ref (ad 26), .ref (ad 27), .ref (ad 28), .ref (ad 29), .ref (ad 30), .ref (ad 31), .long M_found, .long M_foundSet, .long M_foundTimes, .int M_w, .int M_h, .ref (ad 32), .ref (ad 33), .ref (ad 34)])), ((ad 20), .inl (cA 0, 3, .inl M_sides))] 4 [(0, .ref (ad 19)), (1, .int p1)] [] 0
abbrev atX4_outsides_4 (X : gX) (ad : Nat → Nat) (cA : Nat → ClassId) (x1 : Int32) (x2 : Int32) (x3 : Int32) (M_thrown : Int32) (M_trace : Int64) (M_found : Int64) (M_foundSet : Int64) (M_foundTimes : Int64) (M_w : Int32) (M_h : Int32) (M_sides : Nat → Int32) : Prop := gW X 0 0 [((ad 19), .inr (4, [.int M_thrown, .long M_trace, .ref (ad 20), .ref (ad 21), .ref (ad 22), .ref (ad 23), .ref (ad 24), .ref (ad 25), .ref (ad 26), .ref (ad 27), .ref (ad 28), .ref (ad 29), .ref (ad 30), .ref (ad 31), .long M_found, .long M_foundSet, .long M_foundTimes, .int M_w, .int M_h, .ref (ad 32), .ref (ad 33), .ref (ad 34)])), ((ad 20), .inl (cA 0, 3, .inl M_sides))] 4 [(0, .ref (ad 19)), (1, .int x1), (2, .int x2), (3, .int x3)] [] 4
theorem giX4_outsides_X4 : ∀ w ∈ u_ws RX4 TX4 22, w ∈ wsX4_outsides := by decide +kernel
theorem gfX4_outsides_7 : gF wsX4_outsides RX4 7 4 2 RX4 TX4 22 := ⟨giX4_outsides_X4, by decide +kernel, rfl, by decide⟩
set_option maxHeartbeats 4000000 in
set_option maxRecDepth 100000 in
theorem sgX4_outsides_0 {X : gX} {ad : Nat → Nat} {cA : Nat → ClassId} {post : Int32 → (Unit) → Prop} {p1 : Int32} {M_thrown : Int32} {M_trace : Int64} {M_found : Int64} {M_foundSet : Int64} {M_foundTimes : Int64} {M_w : Int32} {M_h : Int32} {M_sides : Nat → Int32} (C : gC X (gT cA) cX4_outsides 4 RX4 wsX4_outsides rmX4_outsides) (E : gEi X (some .int) (gT cA) 0 0 post (w1X4_outsides ad cA M_thrown M_trace M_found M_foundSet M_foundTimes M_w M_h M_sides)) (h : atX4_outsides_4 X ad cA p1 (0 : Int32) (0 : Int32) M_thrown M_trace M_found M_foundSet M_foundTimes M_w M_h M_sides) : atX4_outsides_0 X ad cA p1 M_thrown M_trace M_found M_foundSet M_foundTimes M_w M_h M_sides := by
  refine g_iconst C dX4_outsides_0 ik_0 ?_
  refine g_istore_n (lv2 := [(0, .ref (ad 19)), (1, .int p1), (2, .int (0 : Int32))]) C dX4_outsides_1 rfl (by decide) [1, 2, 0] rfl ?_
  refine g_iconst C dX4_outsides_2 ik_0 ?_
  refine g_istore_n (lv2 := [(0, .ref (ad 19)), (1, .int p1), (2, .int (0 : Int32)), (3, .int (0 : Int32))]) C dX4_outsides_3 rfl (by decide) [1, 2, 3, 0] rfl ?_
  exact g_lv [0, 1, 2, 3] rfl h
set_option maxHeartbeats 4000000 in
set_option maxRecDepth 100000 in
theorem sgX4_outsides_4 {X : gX} {ad : Nat → Nat} {cA : Nat → ClassId} {post : Int32 → (Unit) → Prop} {x1 : Int32} {x2 : Int32} {x3 : Int32} {M_thrown : Int32} {M_trace : Int64} {M_found : Int64} {M_foundSet : Int64} {M_foundTimes : Int64} {M_w : Int32} {M_h : Int32} {M_sides : Nat → Int32} (C : gC X (gT cA) cX4_outsides 4 RX4 wsX4_outsides rmX4_outsides) (E : gEi X (some .int) (gT cA) 0 0 post (w1X4_outsides ad cA M_thrown M_trace M_found M_foundSet M_foundTimes M_w M_h M_sides)) (h : ((3 : Int32) ≤ x3 → post x2 ()) ∧ (¬ (3 : Int32) ≤ x3 → prX4_placeOf x1 x3 M_thrown M_trace M_found M_foundSet M_foundTimes M_w M_h M_sides ∧ ∀ x2_5 : Int32, x2_5 = (x2 + (if (fnX4_placeOf x1 x3 M_thrown M_trace M_found M_foundSet M_foundTimes M_w M_h M_sides) = 0 then (1 : Int32) else (0 : Int32))) → prX4_placeOf x1 x3 M_thrown M_trace M_found M_foundSet M_foundTimes M_w M_h M_sides ∧ vp_in x3 3 ∧ ∀ x2_10 : Int32, x2_10 = (x2_5 + (if (fnX4_placeOf x1 x3 M_thrown M_trace M_found M_foundSet M_foundTimes M_w M_h M_sides) = ((M_sides x3.toNatClampNeg) - (1 : Int32)) then (1 : Int32) else (0 : Int32))) → atX4_outsides_4 X ad cA x1 x2_10 (x3 + 1) M_thrown M_trace M_found M_foundSet M_foundTimes M_w M_h M_sides)) : atX4_outsides_4 X ad cA x1 x2 x3 M_thrown M_trace M_found M_foundSet M_foundTimes M_w M_h M_sides := by
  refine g_iload_n C dX4_outsides_4 rfl 3 rfl ?_
  refine g_iconst C dX4_outsides_5 ik_3 ?_
  refine g_icmp_ge (tgt := 57) C dX4_outsides_6 (by decide) (fun c_1 => ?_) (fun c_1 => ?_)
  · replace h := h.1 c_1
    refine g_iload_n C dX4_outsides_57 rfl 2 rfl ?_
    exact g_iret C E () h rfl dX4_outsides_58
  · replace h := h.2 c_1
    refine g_iload_n C dX4_outsides_9 rfl 2 rfl ?_
    refine g_aload_n C dX4_outsides_10 rfl 0 rfl ?_
    refine g_iload_n C dX4_outsides_11 rfl 1 rfl ?_
    refine g_iload_n C dX4_outsides_12 rfl 3 rfl ?_
    obtain ⟨hi_2, h⟩ := h
    refine g_callVi (wr := []) C (c_X4_placeOf ad cA x1 x3 M_thrown M_trace M_found M_foundSet M_foundTimes M_w M_h M_sides hi_2) gX4_outsides_X4_placeOf rfl hde_X4_placeOf ⟨rfl, rfl⟩ (by decide) (by decide) [0, 1] [] [0, 1] rfl rfl rfl rfl (by decide) rfl (ws2 := fun u => [((ad 19), .inr (4, [.int M_thrown, .long M_trace, .ref (ad 20), .ref (ad 21), .ref (ad 22), .ref (ad 23), .ref (ad 24), .ref (ad 25), .ref (ad 26), .ref (ad 27), .ref (ad 28), .ref (ad 29), .ref (ad 30), .ref (ad 31), .long M_found, .long M_foundSet, .long M_foundTimes, .int M_w, .int M_h, .ref (ad 32), .ref (ad 33), .ref (ad 34)])), ((ad 20), .inl (cA 0, 3, .inl M_sides))]) (fun _ => rfl) 4 0 rfl rfl rfl (rest := [.int x2]) rfl (Nat.le_of_ble_eq_true rfl) dX4_outsides_13 (fun r_3 u_3 hp_3 => ?_)
    subst hp_3
    change gW X 0 0 [((ad 19), .inr (4, [.int M_thrown, .long M_trace, .ref (ad 20), .ref (ad 21), .ref (ad 22), .ref (ad 23), .ref (ad 24), .ref (ad 25), .ref (ad 26), .ref (ad 27), .ref (ad 28), .ref (ad 29), .ref (ad 30), .ref (ad 31), .long M_found, .long M_foundSet, .long M_foundTimes, .int M_w, .int M_h, .ref (ad 32), .ref (ad 33), .ref (ad 34)])), ((ad 20), .inl (cA 0, 3, .inl M_sides))] 4 [(0, .ref (ad 19)), (1, .int x1), (2, .int x2), (3, .int x3)] [.int (fnX4_placeOf x1 x3 M_thrown M_trace M_found M_foundSet M_foundTimes M_w M_h M_sides), .int x2] 16
    have key : gW X 0 0 [((ad 19), .inr (4, [.int M_thrown, .long M_trace, .ref (ad 20), .ref (ad 21), .ref (ad 22), .ref (ad 23), .ref (ad 24), .ref (ad 25), .ref (ad 26), .ref (ad 27), .ref (ad 28), .ref (ad 29), .ref (ad 30), .ref (ad 31), .long M_found, .long M_foundSet, .long M_foundTimes, .int M_w, .int M_h, .ref (ad 32), .ref (ad 33), .ref (ad 34)])), ((ad 20), .inl (cA 0, 3, .inl M_sides))] 4 [(0, .ref (ad 19)), (1, .int x1), (2, .int x2), (3, .int x3)] [.int (if (fnX4_placeOf x1 x3 M_thrown M_trace M_found M_foundSet M_foundTimes M_w M_h M_sides) = 0 then (1 : Int32) else (0 : Int32)), .int x2] 24 := by
      refine g_iadd C dX4_outsides_24 ?_
      refine g_topi (fun x2_5 ex2_5 => ?_)
      replace h := h x2_5 ex2_5
      refine g_istore_n (lv2 := [(0, .ref (ad 19)), (1, .int x1), (2, .int x2_5), (3, .int x3)]) C dX4_outsides_25 rfl (by decide) [1, 2, 0, 3] rfl ?_
      refine g_iload_n C dX4_outsides_26 rfl 2 rfl ?_
      refine g_aload_n C dX4_outsides_27 rfl 0 rfl ?_
      refine g_iload_n C dX4_outsides_28 rfl 1 rfl ?_
      refine g_iload_n C dX4_outsides_29 rfl 3 rfl ?_
      obtain ⟨hi_6, h⟩ := h
      refine g_callVi (wr := []) C (c_X4_placeOf ad cA x1 x3 M_thrown M_trace M_found M_foundSet M_foundTimes M_w M_h M_sides hi_6) gX4_outsides_X4_placeOf rfl hde_X4_placeOf ⟨rfl, rfl⟩ (by decide) (by decide) [0, 1] [] [0, 1] rfl rfl rfl rfl (by decide) rfl (ws2 := fun u => [((ad 19), .inr (4, [.int M_thrown, .long M_trace, .ref (ad 20), .ref (ad 21), .ref (ad 22), .ref (ad 23), .ref (ad 24), .ref (ad 25), .ref (ad 26), .ref (ad 27), .ref (ad 28), .ref (ad 29), .ref (ad 30), .ref (ad 31), .long M_found, .long M_foundSet, .long M_foundTimes, .int M_w, .int M_h, .ref (ad 32), .ref (ad 33), .ref (ad 34)])), ((ad 20), .inl (cA 0, 3, .inl M_sides))]) (fun _ => rfl) 4 0 rfl rfl rfl (rest := [.int x2_5]) rfl (Nat.le_of_ble_eq_true rfl) dX4_outsides_30 (fun r_7 u_7 hp_7 => ?_)
      subst hp_7
      change gW X 0 0 [((ad 19), .inr (4, [.int M_thrown, .long M_trace, .ref (ad 20), .ref (ad 21), .ref (ad 22), .ref (ad 23), .ref (ad 24), .ref (ad 25), .ref (ad 26), .ref (ad 27), .ref (ad 28), .ref (ad 29), .ref (ad 30), .ref (ad 31), .long M_found, .long M_foundSet, .long M_foundTimes, .int M_w, .int M_h, .ref (ad 32), .ref (ad 33), .ref (ad 34)])), ((ad 20), .inl (cA 0, 3, .inl M_sides))] 4 [(0, .ref (ad 19)), (1, .int x1), (2, .int x2_5), (3, .int x3)] [.int (fnX4_placeOf x1 x3 M_thrown M_trace M_found M_foundSet M_foundTimes M_w M_h M_sides), .int x2_5] 33
      refine g_aload_n C dX4_outsides_33 rfl 0 rfl ?_
      refine g_get C gfX4_outsides_7 0 rfl rfl dX4_outsides_34 ?_
      refine g_iload_n C dX4_outsides_37 rfl 3 rfl ?_
      obtain ⟨hi_8, h⟩ := h
      refine g_iald C 1 0 rfl rfl hi_8 dX4_outsides_38 ?_
      refine g_iconst C dX4_outsides_39 ik_1 ?_
      refine g_isub C dX4_outsides_40 ?_
      have key : gW X 0 0 [((ad 19), .inr (4, [.int M_thrown, .long M_trace, .ref (ad 20), .ref (ad 21), .ref (ad 22), .ref (ad 23), .ref (ad 24), .ref (ad 25), .ref (ad 26), .ref (ad 27), .ref (ad 28), .ref (ad 29), .ref (ad 30), .ref (ad 31), .long M_found, .long M_foundSet, .long M_foundTimes, .int M_w, .int M_h, .ref (ad 32), .ref (ad 33), .ref (ad 34)])), ((ad 20), .inl (cA 0, 3, .inl M_sides))] 4 [(0, .ref (ad 19)), (1, .int x1), (2, .int x2_5), (3, .int x3)] [.int (if (fnX4_placeOf x1 x3 M_thrown M_trace M_found M_foundSet M_foundTimes M_w M_h M_sides) = ((M_sides x3.toNatClampNeg) - (1 : Int32)) then (1 : Int32) else (0 : Int32)), .int x2_5] 49 := by
        refine g_iadd C dX4_outsides_49 ?_
        refine g_topi (fun x2_10 ex2_10 => ?_)
        replace h := h x2_10 ex2_10
        refine g_istore_n (lv2 := [(0, .ref (ad 19)), (1, .int x1), (2, .int x2_10), (3, .int x3)]) C dX4_outsides_50 rfl (by decide) [1, 2, 0, 3] rfl ?_
        refine g_iinc (v := (x3 + 1)) (lv2 := [(0, .ref (ad 19)), (1, .int x1), (2, .int x2_10), (3, .int (x3 + 1))]) C dX4_outsides_51 3 rfl (by first | rfl | decide) (by decide) [1, 2, 3, 0] rfl ?_
        refine g_goto (tgt := 4) C dX4_outsides_54 (by decide) ?_
        exact g_lv [0, 1, 2, 3] rfl h
      refine g_icmp_ne (tgt := 48) C dX4_outsides_41 (by decide) (fun c_9 => ?_) (fun c_9 => ?_)
      · refine g_iconst C dX4_outsides_48 ik_0 ?_
        exact g_leaf (by simp only [if_neg c_9] at key; first | exact key | (simp only [if_neg c_9]; exact key) | exact absurd rfl c_9)
      · refine g_iconst C dX4_outsides_44 ik_1 ?_
        refine g_goto (tgt := 49) C dX4_outsides_45 (by decide) ?_
        exact g_leaf (by simp only [if_pos c_9] at key; first | exact key | (simp only [if_pos c_9]; exact key) | exact absurd rfl c_9)
    refine g_if_ne (tgt := 23) C dX4_outsides_16 (by decide) (fun c_4 => ?_) (fun c_4 => ?_)
    · refine g_iconst C dX4_outsides_23 ik_0 ?_
      exact g_leaf (by simp only [if_neg c_4] at key; first | exact key | (simp only [if_neg c_4]; exact key) | exact absurd rfl c_4)
    · refine g_iconst C dX4_outsides_19 ik_1 ?_
      refine g_goto (tgt := 24) C dX4_outsides_20 (by decide) ?_
      exact g_leaf (by simp only [if_pos c_4] at key; first | exact key | (simp only [if_pos c_4]; exact key) | exact absurd rfl c_4)
def prX4_outsides (p1 : Int32) (M_thrown : Int32) (M_trace : Int64) (M_found : Int64) (M_foundSet : Int64) (M_foundTimes : Int64) (M_w : Int32) (M_h : Int32) (M_sides : Nat → Int32) : Prop := ∃ X Y Z c, dimOK X Y Z ∧ sdOK M_sides X Y Z ∧ c < X * Y * Z ∧ p1 = nI c
set_option maxHeartbeats 4000000 in
set_option maxRecDepth 100000 in
theorem c_X4_outsides (ad : Nat → Nat) (cA : Nat → ClassId) (p1 : Int32) (M_thrown : Int32) (M_trace : Int64) (M_found : Int64) (M_foundSet : Int64) (M_foundTimes : Int64) (M_w : Int32) (M_h : Int32) (M_sides : Nat → Int32) (hq : prX4_outsides p1 M_thrown M_trace M_found M_foundSet M_foundTimes M_w M_h M_sides) : ∀ (l : Launch) (D : va_G), gMi (S := Unit) l yX4_outsides wsX4_outsides rmX4_outsides D (gT cA) 0 0 [.ref (ad 19), .int p1] (wcX4_outsides ad cA M_thrown M_trace M_found M_foundSet M_foundTimes M_w M_h M_sides) (fun r _ => r = iI (outsZ (M_sides 0).toNatClampNeg (M_sides 1).toNatClampNeg (M_sides 2).toNatClampNeg p1.toNatClampNeg)) (w1X4_outsides ad cA M_thrown M_trace M_found M_foundSet M_foundTimes M_w M_h M_sides) := by
  intro l D
  unfold prX4_outsides at hq
  refine g_enteri (cc := cX4_outsides) (nL := 4) (ret := (some .int)) (by decide) rfl (Nat.le_of_ble_eq_true rfl) rfl (fun X C E => ?_)
  obtain ⟨X', Y, Z, c, hd, hs, hc, rfl⟩ := hq
  have hV := hd.2.2.2.2.2.2
  have e0 : (M_sides 0).toNatClampNeg = X' := by rw [hs.1]; exact nI_clamp (by have := hd.2.1; omega)
  have e1 : (M_sides 1).toNatClampNeg = Y := by rw [hs.2.1]; exact nI_clamp (by have := hd.2.2.2.1; omega)
  have e2 : (M_sides 2).toNatClampNeg = Z := by rw [hs.2.2]; exact nI_clamp (by have := hd.2.2.2.2.2.1; omega)
  rw [e0, e1, e2, nI_clamp (by omega)] at E
  unfold outsZ at E
  generalize ht : (fun k => (if bxP X' Y Z c k = 0 then (1 : Int) else 0) + (if bxP X' Y Z c k + 1 = bxD X' Y Z k then 1 else 0)) = t at E
  refine sgX4_outsides_0 C E ?_
  have loop : ∀ k, k ≤ 3 → atX4_outsides_4 X ad cA (nI c) (iI (sumZ t k)) (nI k) M_thrown M_trace M_found M_foundSet M_foundTimes M_w M_h M_sides := by
    intro k hk
    refine up_loop (P := fun k => atX4_outsides_4 X ad cA (nI c) (iI (sumZ t k)) (nI k) M_thrown M_trace M_found M_foundSet M_foundTimes M_w M_h M_sides) 3 ?_ (fun k hk ih => ?_) k hk
    · exact sgX4_outsides_4 C E ⟨fun _ => by rw [← ht], fun c => absurd (i32_le_refl _) c⟩
    · obtain ⟨p1, p2⟩ := place_eq (M_thrown := M_thrown) (M_trace := M_trace) (M_found := M_found) (M_foundSet := M_foundSet) (M_foundTimes := M_foundTimes) (M_w := M_w) (M_h := M_h) hd hs hc hk
      obtain ⟨f1, f2, f3⟩ := geo_f hd hc hk
      have bd := bxD_le hd k
      refine sgX4_outsides_4 C E ⟨fun c => absurd c (nI_ge (b := 3) hk (by decide)), fun _ => ⟨p2, fun v ev => ⟨p2, vp_in_nI hk (by decide), fun v2 ev2 => ?_⟩⟩⟩
      rw [nI_clamp (by omega), sd_at hs hk, p1, show nI (bxD X' Y Z k) - 1 = nI (bxD X' Y Z k - 1) from pk_sub (b := 1) (by omega)] at ev2
      rw [p1] at ev
      rw [nI_1 k, ev2, ev]
      have t1 : (if nI (bxP X' Y Z c k) = 0 then (1 : Int32) else 0) = iI (if bxP X' Y Z c k = 0 then 1 else 0) := by
        by_cases q : bxP X' Y Z c k = 0
        · rw [if_pos q, if_pos (by rw [q]; rfl)]; rfl
        · rw [if_neg q, if_neg (nI_ne0 (by omega) (by omega))]; rfl
      have t2 : (if nI (bxP X' Y Z c k) = nI (bxD X' Y Z k - 1) then (1 : Int32) else 0) = iI (if bxP X' Y Z c k + 1 = bxD X' Y Z k then 1 else 0) := by
        by_cases q : bxP X' Y Z c k + 1 = bxD X' Y Z k
        · rw [if_pos q, if_pos (by congr 1; omega)]; rfl
        · rw [if_neg q, if_neg (fun z => q (by rw [nI_eq (by omega) (by omega)] at z; omega))]; rfl
      have e3 : iI (sumZ t k) + (if nI (bxP X' Y Z c k) = 0 then (1 : Int32) else 0) + (if nI (bxP X' Y Z c k) = nI (bxD X' Y Z k - 1) then (1 : Int32) else 0) = iI (sumZ t (k + 1)) := by
        rw [t1, t2, iI_add, iI_add, sumZ, ← ht, Int.add_assoc]
      rw [e3]; exact ih
  exact loop 0 (Nat.zero_le _)


abbrev w1X4_orders (ad : Nat → Nat) (cA : Nat → ClassId) (M_thrown : Int32) (M_trace : Int64) (M_found : Int64) (M_foundSet : Int64) (M_foundTimes : Int64) (M_w : Int32) (M_h : Int32) (M_sides : Nat → Int32) (u : (Nat → Int32)) : va_W := [((ad 19), .inr (4, [.int M_thrown, .long M_trace, .ref (ad 20), .ref (ad 21), .ref (ad 22), .ref (ad 23), .ref (ad 24), .ref (ad 25), .ref (ad 26), .ref (ad 27), .ref (ad 28), .ref (ad 29), .ref (ad 30), .ref (ad 31), .long M_found, .long M_foundSet, .long M_foundTimes, .int M_w, .int M_h, .ref (ad 32), .ref (ad 33), .ref (ad 34)])), ((ad 20), .inl (cA 0, 3, .inl M_sides)), ((ad 24), .inl (cA 0, 3, .inl u))]
abbrev wcX4_orders (ad : Nat → Nat) (cA : Nat → ClassId) (M_thrown : Int32) (M_trace : Int64) (M_found : Int64) (M_foundSet : Int64) (M_foundTimes : Int64) (M_w : Int32) (M_h : Int32) (M_sides : Nat → Int32) (M_ways : Nat → Int32) : va_W := [((ad 19), .inr (4, [.int M_thrown, .long M_trace, .ref (ad 20), .ref (ad 21), .ref (ad 22), .ref (ad 23), .ref (ad 24), .ref (ad 25), .ref (ad 26), .ref (ad 27), .ref (ad 28), .ref (ad 29), .ref (ad 30), .ref (ad 31), .long M_found, .long M_foundSet, .long M_foundTimes, .int M_w, .int M_h, .ref (ad 32), .ref (ad 33), .ref (ad 34)])), ((ad 20), .inl (cA 0, 3, .inl M_sides)), ((ad 24), .inl (cA 0, 3, .inl M_ways))]
def rmX4_orders : Room := { frames := 0, cells := 0, slots := 0, locals := 0 }
abbrev atX4_orders_0 (X : gX) (ad : Nat → Nat) (cA : Nat → ClassId) (M_thrown : Int32) (M_trace : Int64) (M_found : Int64) (M_foundSet : Int64) (M_foundTimes : Int64) (M_w : Int32) (M_h : Int32) (M_sides : Nat → Int32) (M_ways : Nat → Int32) : Prop := gW X 0 0 [((ad 19), .inr (4, [.int M_thrown, .long M_trace, .ref (ad 20), .ref (ad 21), .ref (ad 22), .ref (ad 23), .ref (ad 24), .ref (ad 25), .ref (ad 26), .ref (ad 27), .ref (ad 28), .ref (ad 29), .ref (ad 30), .ref (ad 31), .long M_found, .long M_foundSet, .long M_foundTimes, .int M_w, .int M_h, .ref (ad 32), .ref (ad 33), .ref (ad 34)])), ((ad 20), .inl (cA 0, 3, .inl M_sides)), ((ad 24), .inl (cA 0, 3, .inl M_ways))] 3 [(0, .ref (ad 19))] [] 0
abbrev atX4_orders_2 (X : gX) (ad : Nat → Nat) (cA : Nat → ClassId) (x1 : Int32) (M_thrown : Int32) (M_trace : Int64) (M_found : Int64) (M_foundSet : Int64) (M_foundTimes : Int64) (M_w : Int32) (M_h : Int32) (M_sides : Nat → Int32) (M_ways : Nat → Int32) : Prop := gW X 0 0 [((ad 19), .inr (4, [.int M_thrown, .long M_trace, .ref (ad 20), .ref (ad 21), .ref (ad 22), .ref (ad 23), .ref (ad 24), .ref (ad 25), .ref (ad 26), .ref (ad 27), .ref (ad 28), .ref (ad 29), .ref (ad 30), .ref (ad 31), .long M_found, .long M_foundSet, .long M_foundTimes, .int M_w, .int M_h, .ref (ad 32), .ref (ad 33), .ref (ad 34)])), ((ad 20), .inl (cA 0, 3, .inl M_sides)), ((ad 24), .inl (cA 0, 3, .inl M_ways))] 3 [(0, .ref (ad 19)), (1, .int x1)] [] 2
abbrev atX4_orders_9 (X : gX) (ad : Nat → Nat) (cA : Nat → ClassId) (x1 : Int32) (x2 : Int32) (M_thrown : Int32) (M_trace : Int64) (M_found : Int64) (M_foundSet : Int64) (M_foundTimes : Int64) (M_w : Int32) (M_h : Int32) (M_sides : Nat → Int32) (M_ways : Nat → Int32) : Prop := gW X 0 0 [((ad 19), .inr (4, [.int M_thrown, .long M_trace, .ref (ad 20), .ref (ad 21), .ref (ad 22), .ref (ad 23), .ref (ad 24), .ref (ad 25), .ref (ad 26), .ref (ad 27), .ref (ad 28), .ref (ad 29), .ref (ad 30), .ref (ad 31), .long M_found, .long M_foundSet, .long M_foundTimes, .int M_w, .int M_h, .ref (ad 32), .ref (ad 33), .ref (ad 34)])), ((ad 20), .inl (cA 0, 3, .inl M_sides)), ((ad 24), .inl (cA 0, 3, .inl M_ways))] 3 [(0, .ref (ad 19)), (1, .int x1), (2, .int x2)] [] 9
theorem giX4_orders_X4 : ∀ w ∈ u_ws RX4 TX4 22, w ∈ wsX4_orders := by decide +kernel
theorem gfX4_orders_22 : gF wsX4_orders RX4 22 4 6 RX4 TX4 22 := ⟨giX4_orders_X4, by decide +kernel, rfl, by decide⟩
theorem gfX4_orders_7 : gF wsX4_orders RX4 7 4 2 RX4 TX4 22 := ⟨giX4_orders_X4, by decide +kernel, rfl, by decide⟩
set_option maxHeartbeats 4000000 in
set_option maxRecDepth 100000 in
theorem sgX4_orders_0 {X : gX} {ad : Nat → Nat} {cA : Nat → ClassId} {post : ((Nat → Int32)) → Prop} {M_thrown : Int32} {M_trace : Int64} {M_found : Int64} {M_foundSet : Int64} {M_foundTimes : Int64} {M_w : Int32} {M_h : Int32} {M_sides : Nat → Int32} {M_ways : Nat → Int32} (C : gC X (gT cA) cX4_orders 3 RX4 wsX4_orders rmX4_orders) (E : gEv X none (gT cA) 0 0 post (w1X4_orders ad cA M_thrown M_trace M_found M_foundSet M_foundTimes M_w M_h M_sides)) (h : atX4_orders_2 X ad cA (0 : Int32) M_thrown M_trace M_found M_foundSet M_foundTimes M_w M_h M_sides M_ways) : atX4_orders_0 X ad cA M_thrown M_trace M_found M_foundSet M_foundTimes M_w M_h M_sides M_ways := by
  refine g_iconst C dX4_orders_0 ik_0 ?_
  refine g_istore_n (lv2 := [(0, .ref (ad 19)), (1, .int (0 : Int32))]) C dX4_orders_1 rfl (by decide) [1, 0] rfl ?_
  exact g_lv [0, 1] rfl h
set_option maxHeartbeats 4000000 in
set_option maxRecDepth 100000 in
theorem sgX4_orders_2 {X : gX} {ad : Nat → Nat} {cA : Nat → ClassId} {post : ((Nat → Int32)) → Prop} {x1 : Int32} {M_thrown : Int32} {M_trace : Int64} {M_found : Int64} {M_foundSet : Int64} {M_foundTimes : Int64} {M_w : Int32} {M_h : Int32} {M_sides : Nat → Int32} {M_ways : Nat → Int32} (C : gC X (gT cA) cX4_orders 3 RX4 wsX4_orders rmX4_orders) (E : gEv X none (gT cA) 0 0 post (w1X4_orders ad cA M_thrown M_trace M_found M_foundSet M_foundTimes M_w M_h M_sides)) (h : ((3 : Int32) ≤ x1 → post M_ways) ∧ (¬ (3 : Int32) ≤ x1 → atX4_orders_9 X ad cA x1 x1 M_thrown M_trace M_found M_foundSet M_foundTimes M_w M_h M_sides M_ways)) : atX4_orders_2 X ad cA x1 M_thrown M_trace M_found M_foundSet M_foundTimes M_w M_h M_sides M_ways := by
  refine g_iload_n C dX4_orders_2 rfl 1 rfl ?_
  refine g_iconst C dX4_orders_3 ik_3 ?_
  refine g_icmp_ge (tgt := 68) C dX4_orders_4 (by decide) (fun c_1 => ?_) (fun c_1 => ?_)
  · replace h := h.1 c_1
    exact g_vret C E M_ways h rfl dX4_orders_68
  · replace h := h.2 c_1
    refine g_iload_n C dX4_orders_7 rfl 1 rfl ?_
    refine g_istore_n (lv2 := [(0, .ref (ad 19)), (1, .int x1), (2, .int x1)]) C dX4_orders_8 rfl (by decide) [1, 2, 0] rfl ?_
    exact g_lv [0, 1, 2] rfl h
set_option maxHeartbeats 4000000 in
set_option maxRecDepth 100000 in
theorem sgX4_orders_9 {X : gX} {ad : Nat → Nat} {cA : Nat → ClassId} {post : ((Nat → Int32)) → Prop} {x1 : Int32} {x2 : Int32} {M_thrown : Int32} {M_trace : Int64} {M_found : Int64} {M_foundSet : Int64} {M_foundTimes : Int64} {M_w : Int32} {M_h : Int32} {M_sides : Nat → Int32} {M_ways : Nat → Int32} (C : gC X (gT cA) cX4_orders 3 RX4 wsX4_orders rmX4_orders) (E : gEv X none (gT cA) 0 0 post (w1X4_orders ad cA M_thrown M_trace M_found M_foundSet M_foundTimes M_w M_h M_sides)) (h : (x2 ≤ 0 → vp_in x2 3 ∧ atX4_orders_2 X ad cA (x1 + 1) M_thrown M_trace M_found M_foundSet M_foundTimes M_w M_h M_sides (upd M_ways x2.toNatClampNeg x1)) ∧ (¬ x2 ≤ 0 → vp_in (x2 - (1 : Int32)) 3 ∧ vp_in (M_ways (x2 - (1 : Int32)).toNatClampNeg) 3 ∧ vp_in x1 3 ∧ ((M_sides (M_ways (x2 - (1 : Int32)).toNatClampNeg).toNatClampNeg) ≤ (M_sides x1.toNatClampNeg) → vp_in x2 3 ∧ atX4_orders_2 X ad cA (x1 + 1) M_thrown M_trace M_found M_foundSet M_foundTimes M_w M_h M_sides (upd M_ways x2.toNatClampNeg x1)) ∧ (¬ (M_sides (M_ways (x2 - (1 : Int32)).toNatClampNeg).toNatClampNeg) ≤ (M_sides x1.toNatClampNeg) → vp_in (x2 - (1 : Int32)) 3 ∧ vp_in x2 3 ∧ atX4_orders_9 X ad cA x1 (x2 + (-1)) M_thrown M_trace M_found M_foundSet M_foundTimes M_w M_h M_sides (upd M_ways x2.toNatClampNeg (M_ways (x2 - (1 : Int32)).toNatClampNeg))))) : atX4_orders_9 X ad cA x1 x2 M_thrown M_trace M_found M_foundSet M_foundTimes M_w M_h M_sides M_ways := by
  refine g_iload_n C dX4_orders_9 rfl 2 rfl ?_
  refine g_if_le (tgt := 55) C dX4_orders_10 (by decide) (fun c_2 => ?_) (fun c_2 => ?_)
  · replace h := h.1 c_2
    refine g_aload_n C dX4_orders_55 rfl 0 rfl ?_
    refine g_get C gfX4_orders_22 0 rfl rfl dX4_orders_56 ?_
    refine g_iload_n C dX4_orders_59 rfl 2 rfl ?_
    refine g_iload_n C dX4_orders_60 rfl 1 rfl ?_
    obtain ⟨hi_3, h⟩ := h
    refine g_iast (ws2 := [((ad 19), .inr (4, [.int M_thrown, .long M_trace, .ref (ad 20), .ref (ad 21), .ref (ad 22), .ref (ad 23), .ref (ad 24), .ref (ad 25), .ref (ad 26), .ref (ad 27), .ref (ad 28), .ref (ad 29), .ref (ad 30), .ref (ad 31), .long M_found, .long M_foundSet, .long M_foundTimes, .int M_w, .int M_h, .ref (ad 32), .ref (ad 33), .ref (ad 34)])), ((ad 20), .inl (cA 0, 3, .inl M_sides)), ((ad 24), .inl (cA 0, 3, .inl (upd M_ways x2.toNatClampNeg x1)))]) C 2 0 rfl rfl hi_3 rfl dX4_orders_61 ?_
    refine g_iinc (v := (x1 + 1)) (lv2 := [(0, .ref (ad 19)), (1, .int (x1 + 1)), (2, .int x2)]) C dX4_orders_62 1 rfl (by first | rfl | decide) (by decide) [1, 0, 2] rfl ?_
    refine g_goto (tgt := 2) C dX4_orders_65 (by decide) ?_
    exact g_lv [0, 1] rfl h
  · replace h := h.2 c_2
    refine g_aload_n C dX4_orders_13 rfl 0 rfl ?_
    refine g_get C gfX4_orders_7 0 rfl rfl dX4_orders_14 ?_
    refine g_aload_n C dX4_orders_17 rfl 0 rfl ?_
    refine g_get C gfX4_orders_22 0 rfl rfl dX4_orders_18 ?_
    refine g_iload_n C dX4_orders_21 rfl 2 rfl ?_
    refine g_iconst C dX4_orders_22 ik_1 ?_
    refine g_isub C dX4_orders_23 ?_
    obtain ⟨hi_4, h⟩ := h
    refine g_iald C 2 0 rfl rfl hi_4 dX4_orders_24 ?_
    obtain ⟨hi_5, h⟩ := h
    refine g_iald C 1 0 rfl rfl hi_5 dX4_orders_25 ?_
    refine g_aload_n C dX4_orders_26 rfl 0 rfl ?_
    refine g_get C gfX4_orders_7 0 rfl rfl dX4_orders_27 ?_
    refine g_iload_n C dX4_orders_30 rfl 1 rfl ?_
    obtain ⟨hi_6, h⟩ := h
    refine g_iald C 1 0 rfl rfl hi_6 dX4_orders_31 ?_
    refine g_icmp_le (tgt := 55) C dX4_orders_32 (by decide) (fun c_7 => ?_) (fun c_7 => ?_)
    · replace h := h.1 c_7
      refine g_aload_n C dX4_orders_55 rfl 0 rfl ?_
      refine g_get C gfX4_orders_22 0 rfl rfl dX4_orders_56 ?_
      refine g_iload_n C dX4_orders_59 rfl 2 rfl ?_
      refine g_iload_n C dX4_orders_60 rfl 1 rfl ?_
      obtain ⟨hi_8, h⟩ := h
      refine g_iast (ws2 := [((ad 19), .inr (4, [.int M_thrown, .long M_trace, .ref (ad 20), .ref (ad 21), .ref (ad 22), .ref (ad 23), .ref (ad 24), .ref (ad 25), .ref (ad 26), .ref (ad 27), .ref (ad 28), .ref (ad 29), .ref (ad 30), .ref (ad 31), .long M_found, .long M_foundSet, .long M_foundTimes, .int M_w, .int M_h, .ref (ad 32), .ref (ad 33), .ref (ad 34)])), ((ad 20), .inl (cA 0, 3, .inl M_sides)), ((ad 24), .inl (cA 0, 3, .inl (upd M_ways x2.toNatClampNeg x1)))]) C 2 0 rfl rfl hi_8 rfl dX4_orders_61 ?_
      refine g_iinc (v := (x1 + 1)) (lv2 := [(0, .ref (ad 19)), (1, .int (x1 + 1)), (2, .int x2)]) C dX4_orders_62 1 rfl (by first | rfl | decide) (by decide) [1, 0, 2] rfl ?_
      refine g_goto (tgt := 2) C dX4_orders_65 (by decide) ?_
      exact g_lv [0, 1] rfl h
    · replace h := h.2 c_7
      refine g_aload_n C dX4_orders_35 rfl 0 rfl ?_
      refine g_get C gfX4_orders_22 0 rfl rfl dX4_orders_36 ?_
      refine g_iload_n C dX4_orders_39 rfl 2 rfl ?_
      refine g_aload_n C dX4_orders_40 rfl 0 rfl ?_
      refine g_get C gfX4_orders_22 0 rfl rfl dX4_orders_41 ?_
      refine g_iload_n C dX4_orders_44 rfl 2 rfl ?_
      refine g_iconst C dX4_orders_45 ik_1 ?_
      refine g_isub C dX4_orders_46 ?_
      obtain ⟨hi_9, h⟩ := h
      refine g_iald C 2 0 rfl rfl hi_9 dX4_orders_47 ?_
      obtain ⟨hi_10, h⟩ := h
      refine g_iast (ws2 := [((ad 19), .inr (4, [.int M_thrown, .long M_trace, .ref (ad 20), .ref (ad 21), .ref (ad 22), .ref (ad 23), .ref (ad 24), .ref (ad 25), .ref (ad 26), .ref (ad 27), .ref (ad 28), .ref (ad 29), .ref (ad 30), .ref (ad 31), .long M_found, .long M_foundSet, .long M_foundTimes, .int M_w, .int M_h, .ref (ad 32), .ref (ad 33), .ref (ad 34)])), ((ad 20), .inl (cA 0, 3, .inl M_sides)), ((ad 24), .inl (cA 0, 3, .inl (upd M_ways x2.toNatClampNeg (M_ways (x2 - (1 : Int32)).toNatClampNeg))))]) C 2 0 rfl rfl hi_10 rfl dX4_orders_48 ?_
      refine g_iinc (v := (x2 + (-1))) (lv2 := [(0, .ref (ad 19)), (1, .int x1), (2, .int (x2 + (-1)))]) C dX4_orders_49 2 rfl (by first | rfl | decide) (by decide) [1, 2, 0] rfl ?_
      refine g_goto (tgt := 9) C dX4_orders_52 (by decide) ?_
      exact g_lv [0, 1, 2] rfl h
def prX4_orders (dx : Nat) (dy : Nat) (dz : Nat) (M_thrown : Int32) (M_trace : Int64) (M_found : Int64) (M_foundSet : Int64) (M_foundTimes : Int64) (M_w : Int32) (M_h : Int32) (M_sides : Nat → Int32) (M_ways : Nat → Int32) : Prop := dimOK dx dy dz ∧ sdOK M_sides dx dy dz
def po_X4_orders (ad : Nat → Nat) (cA : Nat → ClassId) (dx : Nat) (dy : Nat) (dz : Nat) (M_thrown : Int32) (M_trace : Int64) (M_found : Int64) (M_foundSet : Int64) (M_foundTimes : Int64) (M_w : Int32) (M_h : Int32) (M_sides : Nat → Int32) (M_ways : Nat → Int32) (u : (Nat → Int32)) : Prop := ∃ w0 w1 w2, ordOK dx dy dz w0 w1 w2 ∧ u 0 = nI w0 ∧ u 1 = nI w1 ∧ u 2 = nI w2
set_option maxHeartbeats 4000000 in
set_option maxRecDepth 100000 in
theorem c_X4_orders (ad : Nat → Nat) (cA : Nat → ClassId) (dx : Nat) (dy : Nat) (dz : Nat) (M_thrown : Int32) (M_trace : Int64) (M_found : Int64) (M_foundSet : Int64) (M_foundTimes : Int64) (M_w : Int32) (M_h : Int32) (M_sides : Nat → Int32) (M_ways : Nat → Int32) (hq : prX4_orders dx dy dz M_thrown M_trace M_found M_foundSet M_foundTimes M_w M_h M_sides M_ways) : ∀ (l : Launch) (D : va_G), gMv (S := (Nat → Int32)) l yX4_orders wsX4_orders rmX4_orders D (gT cA) 0 0 [.ref (ad 19)] (wcX4_orders ad cA M_thrown M_trace M_found M_foundSet M_foundTimes M_w M_h M_sides M_ways) (po_X4_orders ad cA dx dy dz M_thrown M_trace M_found M_foundSet M_foundTimes M_w M_h M_sides M_ways) (w1X4_orders ad cA M_thrown M_trace M_found M_foundSet M_foundTimes M_w M_h M_sides) := by
  intro l D
  unfold prX4_orders at hq
  refine g_enterv (cc := cX4_orders) (nL := 3) (ret := none) (by decide) rfl (Nat.le_of_ble_eq_true rfl) rfl (fun X C E => ?_)
  obtain ⟨hd, hs⟩ := hq
  have b0 := bxD_le hd 0
  have b1 := bxD_le hd 1
  have b2 := bxD_le hd 2
  have cmp : ∀ i j, i < 3 → j < 3 → (M_sides i ≤ M_sides j ↔ bxD dx dy dz i ≤ bxD dx dy dz j) := fun i j hi hj => by
    have g1 := bxD_le hd i
    have g2 := bxD_le hd j
    rw [sd_at hs hi, sd_at hs hj]; exact nI_leI (by omega) (by omega)
  have fin : ∀ (u : Nat → Int32) (w0 w1 w2 : Nat), ordOK dx dy dz w0 w1 w2 → u 0 = nI w0 → u 1 = nI w1 → u 2 = nI w2 → po_X4_orders ad cA dx dy dz M_thrown M_trace M_found M_foundSet M_foundTimes M_w M_h M_sides M_ways u := fun u w0 w1 w2 h1 h2 h3 h4 => ⟨w0, w1, w2, h1, h2, h3, h4⟩
  have z0 : nI 0 ≤ 0 := i32_le_refl _
  have n1 : ¬ nI 1 ≤ 0 := by decide
  have n2 : ¬ nI 2 ≤ 0 := by decide
  have k0 : ¬ (3 : Int32) ≤ nI 0 := by decide
  have k1 : ¬ (3 : Int32) ≤ nI 1 := by decide
  have k2 : ¬ (3 : Int32) ≤ nI 2 := by decide
  have done : ∀ u, po_X4_orders ad cA dx dy dz M_thrown M_trace M_found M_foundSet M_foundTimes M_w M_h M_sides M_ways u → atX4_orders_2 X ad cA (nI 3) M_thrown M_trace M_found M_foundSet M_foundTimes M_w M_h M_sides u := fun u h => sgX4_orders_2 C E ⟨fun _ => h, fun c => absurd (i32_le_refl _) c⟩
  -- the third way
  have third : ∀ (u : Nat → Int32) (a b : Nat), a < 3 → b < 3 → a ≠ b → a ≠ 2 → b ≠ 2 → u 0 = nI a → u 1 = nI b → bxD dx dy dz a ≤ bxD dx dy dz b → atX4_orders_2 X ad cA (nI 2) M_thrown M_trace M_found M_foundSet M_foundTimes M_w M_h M_sides u := by
    intro u a b ha hb hab ha2 hb2 ua ub hle
    refine sgX4_orders_2 C E ⟨fun c => absurd c k2, fun _ => ?_⟩
    refine sgX4_orders_9 C E ⟨fun c => absurd c n2, fun _ => ⟨vi_1_3, ?_⟩⟩
    show vp_in (u 1) 3 ∧ vp_in (nI 2) 3 ∧ (M_sides (u 1).toNatClampNeg ≤ M_sides 2 → vp_in (nI 2) 3 ∧ atX4_orders_2 X ad cA (nI 3) M_thrown M_trace M_found M_foundSet M_foundTimes M_w M_h M_sides (upd u 2 (nI 2))) ∧ (¬ M_sides (u 1).toNatClampNeg ≤ M_sides 2 → vp_in 1 3 ∧ vp_in (nI 2) 3 ∧ atX4_orders_9 X ad cA (nI 2) (nI 1) M_thrown M_trace M_found M_foundSet M_foundTimes M_w M_h M_sides (upd u 2 (u 1)))
    rw [ub, nI_clamp (by omega), cmp b 2 hb (by decide)]
    refine ⟨vp_in_nI hb (by decide), vi_2_3, fun c => ⟨vi_2_3, done _ (fin _ a b 2 ⟨⟨ha, hb, by decide, hab, ha2, hb2⟩, hle, c⟩ ?_ ?_ (upd_s _ _ _))⟩, fun c => ⟨vi_1_3, vi_2_3, ?_⟩⟩
    · rw [upd_n _ _ (by decide)]; exact ua
    · rw [upd_n _ _ (by decide)]; exact ub
    refine sgX4_orders_9 C E ⟨fun c => absurd c n1, fun _ => ⟨vi_0_3, ?_⟩⟩
    show vp_in (upd u 2 (nI b) 0) 3 ∧ vp_in (nI 2) 3 ∧ (M_sides (upd u 2 (nI b) 0).toNatClampNeg ≤ M_sides 2 → vp_in (nI 1) 3 ∧ atX4_orders_2 X ad cA (nI 3) M_thrown M_trace M_found M_foundSet M_foundTimes M_w M_h M_sides (upd (upd u 2 (nI b)) 1 (nI 2))) ∧ (¬ M_sides (upd u 2 (nI b) 0).toNatClampNeg ≤ M_sides 2 → vp_in 0 3 ∧ vp_in (nI 1) 3 ∧ atX4_orders_9 X ad cA (nI 2) (nI 0) M_thrown M_trace M_found M_foundSet M_foundTimes M_w M_h M_sides (upd (upd u 2 (nI b)) 1 (upd u 2 (nI b) 0)))
    rw [upd_n _ _ (by decide), ua, nI_clamp (by omega), cmp a 2 ha (by decide)]
    refine ⟨vp_in_nI ha (by decide), vi_2_3, fun c2 => ⟨vi_1_3, done _ (fin _ a 2 b ⟨⟨ha, by decide, hb, ha2, hab, fun q => hb2 q.symm⟩, c2, by omega⟩ ?_ (upd_s _ _ _) ?_)⟩, fun c2 => ⟨vi_0_3, vi_1_3, ?_⟩⟩
    · rw [upd_n _ _ (by decide), upd_n _ _ (by decide)]; exact ua
    · rw [upd_n _ _ (by decide), upd_s]
    refine sgX4_orders_9 C E ⟨fun _ => ⟨vi_0_3, done _ (fin _ 2 a b ⟨⟨by decide, ha, hb, fun q => ha2 q.symm, fun q => hb2 q.symm, hab⟩, by omega, hle⟩ (upd_s _ _ _) ?_ ?_)⟩, fun c => absurd z0 c⟩
    · show upd (upd (upd u 2 (nI b)) 1 (nI a)) 0 (nI 2) 1 = nI a
      rw [upd_n _ _ (by decide), upd_s]
    · show upd (upd (upd u 2 (nI b)) 1 (nI a)) 0 (nI 2) 2 = nI b
      rw [upd_n _ _ (by decide), upd_n _ _ (by decide), upd_s]
  refine sgX4_orders_0 C E ?_
  refine sgX4_orders_2 C E ⟨fun c => absurd c k0, fun _ => ?_⟩
  refine sgX4_orders_9 C E ⟨fun _ => ⟨vi_0_3, ?_⟩, fun c => absurd z0 c⟩
  show atX4_orders_2 X ad cA (nI 1) M_thrown M_trace M_found M_foundSet M_foundTimes M_w M_h M_sides (upd M_ways 0 (nI 0))
  refine sgX4_orders_2 C E ⟨fun c => absurd c k1, fun _ => ?_⟩
  refine sgX4_orders_9 C E ⟨fun c => absurd c n1, fun _ => ⟨vi_0_3, ?_⟩⟩
  show vp_in (upd M_ways 0 (nI 0) 0) 3 ∧ vp_in (nI 1) 3 ∧ (M_sides (upd M_ways 0 (nI 0) 0).toNatClampNeg ≤ M_sides 1 → vp_in (nI 1) 3 ∧ atX4_orders_2 X ad cA (nI 2) M_thrown M_trace M_found M_foundSet M_foundTimes M_w M_h M_sides (upd (upd M_ways 0 (nI 0)) 1 (nI 1))) ∧ (¬ M_sides (upd M_ways 0 (nI 0) 0).toNatClampNeg ≤ M_sides 1 → vp_in 0 3 ∧ vp_in (nI 1) 3 ∧ atX4_orders_9 X ad cA (nI 1) (nI 0) M_thrown M_trace M_found M_foundSet M_foundTimes M_w M_h M_sides (upd (upd M_ways 0 (nI 0)) 1 (upd M_ways 0 (nI 0) 0)))
  rw [upd_s, nI_clamp (by decide), cmp 0 1 (by decide) (by decide)]
  refine ⟨vi_0_3, vi_1_3, fun c => ⟨vi_1_3, third _ 0 1 (by decide) (by decide) (by decide) (by decide) (by decide) ?_ (upd_s _ _ _) c⟩, fun c => ⟨vi_0_3, vi_1_3, ?_⟩⟩
  · rw [upd_n _ _ (by decide), upd_s]
  refine sgX4_orders_9 C E ⟨fun _ => ⟨vi_0_3, third _ 1 0 (by decide) (by decide) (by decide) (by decide) (by decide) (upd_s _ _ _) ?_ (by omega)⟩, fun c => absurd z0 c⟩
  show upd (upd (upd M_ways 0 (nI 0)) 1 (nI 0)) 0 (nI 1) 1 = nI 0
  rw [upd_n _ _ (by decide), upd_s]


abbrev w1X4_cellAt (ad : Nat → Nat) (cA : Nat → ClassId) (M_thrown : Int32) (M_trace : Int64) (M_found : Int64) (M_foundSet : Int64) (M_foundTimes : Int64) (M_w : Int32) (M_h : Int32) (M_sides : Nat → Int32) (M_ways : Nat → Int32) (u : (Nat → Int32)) : va_W := [((ad 19), .inr (4, [.int M_thrown, .long M_trace, .ref (ad 20), .ref (ad 21), .ref (ad 22), .ref (ad 23), .ref (ad 24), .ref (ad 25), .ref (ad 26), .ref (ad 27), .ref (ad 28), .ref (ad 29), .ref (ad 30), .ref (ad 31), .long M_found, .long M_foundSet, .long M_foundTimes, .int M_w, .int M_h, .ref (ad 32), .ref (ad 33), .ref (ad 34)])), ((ad 20), .inl (cA 0, 3, .inl M_sides)), ((ad 24), .inl (cA 0, 3, .inl M_ways)), ((ad 25), .inl (cA 0, 3, .inl u))]
abbrev wcX4_cellAt (ad : Nat → Nat) (cA : Nat → ClassId) (M_thrown : Int32) (M_trace : Int64) (M_found : Int64) (M_foundSet : Int64) (M_foundTimes : Int64) (M_w : Int32) (M_h : Int32) (M_sides : Nat → Int32) (M_ways : Nat → Int32) (M_place : Nat → Int32) : va_W := [((ad 19), .inr (4, [.int M_thrown, .long M_trace, .ref (ad 20), .ref (ad 21), .ref (ad 22), .ref (ad 23), .ref (ad 24), .ref (ad 25), .ref (ad 26), .ref (ad 27), .ref (ad 28), .ref (ad 29), .ref (ad 30), .ref (ad 31), .long M_found, .long M_foundSet, .long M_foundTimes, .int M_w, .int M_h, .ref (ad 32), .ref (ad 33), .ref (ad 34)])), ((ad 20), .inl (cA 0, 3, .inl M_sides)), ((ad 24), .inl (cA 0, 3, .inl M_ways)), ((ad 25), .inl (cA 0, 3, .inl M_place))]
def rmX4_cellAt : Room := { frames := 1, cells := 0, slots := 0, locals := 21 }
abbrev atX4_cellAt_0 (X : gX) (ad : Nat → Nat) (cA : Nat → ClassId) (p1 : Int32) (M_thrown : Int32) (M_trace : Int64) (M_found : Int64) (M_foundSet : Int64) (M_foundTimes : Int64) (M_w : Int32) (M_h : Int32) (M_sides : Nat → Int32) (M_ways : Nat → Int32) (M_place : Nat → Int32) : Prop := gW X 0 0 [((ad 19), .inr (4, [.int M_thrown, .long M_trace, .ref (ad 20), .ref (ad 21), .ref (ad 22), .ref (ad 23), .ref (ad 24), .ref (ad 25), .ref (ad 26), .ref (ad 27), .ref (ad 28), .ref (ad 29), .ref (ad 30), .ref (ad 31), .long M_found, .long M_foundSet, .long M_foundTimes, .int M_w, .int M_h, .ref (ad 32), .ref (ad 33), .ref (ad 34)])), ((ad 20), .inl (cA 0, 3, .inl M_sides)), ((ad 24), .inl (cA 0, 3, .inl M_ways)), ((ad 25), .inl (cA 0, 3, .inl M_place))] 4 [(0, .ref (ad 19)), (1, .int p1)] [] 0
theorem giX4_cellAt_X4 : ∀ w ∈ u_ws RX4 TX4 22, w ∈ wsX4_cellAt := by decide +kernel
theorem gfX4_cellAt_7 : gF wsX4_cellAt RX4 7 4 2 RX4 TX4 22 := ⟨giX4_cellAt_X4, by decide +kernel, rfl, by decide⟩
theorem gfX4_cellAt_22 : gF wsX4_cellAt RX4 22 4 6 RX4 TX4 22 := ⟨giX4_cellAt_X4, by decide +kernel, rfl, by decide⟩
theorem gfX4_cellAt_25 : gF wsX4_cellAt RX4 25 4 7 RX4 TX4 22 := ⟨giX4_cellAt_X4, by decide +kernel, rfl, by decide⟩
set_option maxHeartbeats 4000000 in
set_option maxRecDepth 100000 in
theorem sgX4_cellAt_0 {X : gX} {ad : Nat → Nat} {cA : Nat → ClassId} {post : Int32 → ((Nat → Int32)) → Prop} {p1 : Int32} {M_thrown : Int32} {M_trace : Int64} {M_found : Int64} {M_foundSet : Int64} {M_foundTimes : Int64} {M_w : Int32} {M_h : Int32} {M_sides : Nat → Int32} {M_ways : Nat → Int32} {M_place : Nat → Int32} (C : gC X (gT cA) cX4_cellAt 4 RX4 wsX4_cellAt rmX4_cellAt) (E : gEi X (some .int) (gT cA) 0 0 post (w1X4_cellAt ad cA M_thrown M_trace M_found M_foundSet M_foundTimes M_w M_h M_sides M_ways)) (h : vp_in (0 : Int32) 3 ∧ vp_in (M_ways (0 : Int32).toNatClampNeg) 3 ∧ ∀ x2_3 : Int32, x2_3 = (M_sides (M_ways (0 : Int32).toNatClampNeg).toNatClampNeg) → vp_in (1 : Int32) 3 ∧ vp_in (M_ways (1 : Int32).toNatClampNeg) 3 ∧ ∀ x3_6 : Int32, x3_6 = (M_sides (M_ways (1 : Int32).toNatClampNeg).toNatClampNeg) → ¬ x2_3 = 0 ∧ vp_in (0 : Int32) 3 ∧ ¬ x2_3 = 0 ∧ ¬ x3_6 = 0 ∧ vp_in (1 : Int32) 3 ∧ ¬ x2_3 = 0 ∧ ¬ x3_6 = 0 ∧ vp_in (2 : Int32) 3 ∧ vp_in (0 : Int32) 3 ∧ vp_in (0 : Int32) 3 ∧ prX4_stride (M_ways (0 : Int32).toNatClampNeg) M_thrown M_trace M_found M_foundSet M_foundTimes M_w M_h M_sides ∧ vp_in (1 : Int32) 3 ∧ vp_in (1 : Int32) 3 ∧ prX4_stride (M_ways (1 : Int32).toNatClampNeg) M_thrown M_trace M_found M_foundSet M_foundTimes M_w M_h M_sides ∧ vp_in (2 : Int32) 3 ∧ vp_in (2 : Int32) 3 ∧ prX4_stride (M_ways (2 : Int32).toNatClampNeg) M_thrown M_trace M_found M_foundSet M_foundTimes M_w M_h M_sides ∧ post (((((upd (upd (upd M_place (0 : Int32).toNatClampNeg (p1 - p1 / x2_3 * x2_3)) (1 : Int32).toNatClampNeg ((p1 / x2_3) - (p1 / x2_3) / x3_6 * x3_6)) (2 : Int32).toNatClampNeg ((p1 / x2_3) / x3_6)) (0 : Int32).toNatClampNeg) * (fnX4_stride (M_ways (0 : Int32).toNatClampNeg) M_thrown M_trace M_found M_foundSet M_foundTimes M_w M_h M_sides)) + (((upd (upd (upd M_place (0 : Int32).toNatClampNeg (p1 - p1 / x2_3 * x2_3)) (1 : Int32).toNatClampNeg ((p1 / x2_3) - (p1 / x2_3) / x3_6 * x3_6)) (2 : Int32).toNatClampNeg ((p1 / x2_3) / x3_6)) (1 : Int32).toNatClampNeg) * (fnX4_stride (M_ways (1 : Int32).toNatClampNeg) M_thrown M_trace M_found M_foundSet M_foundTimes M_w M_h M_sides))) + (((upd (upd (upd M_place (0 : Int32).toNatClampNeg (p1 - p1 / x2_3 * x2_3)) (1 : Int32).toNatClampNeg ((p1 / x2_3) - (p1 / x2_3) / x3_6 * x3_6)) (2 : Int32).toNatClampNeg ((p1 / x2_3) / x3_6)) (2 : Int32).toNatClampNeg) * (fnX4_stride (M_ways (2 : Int32).toNatClampNeg) M_thrown M_trace M_found M_foundSet M_foundTimes M_w M_h M_sides))) (upd (upd (upd M_place (0 : Int32).toNatClampNeg (p1 - p1 / x2_3 * x2_3)) (1 : Int32).toNatClampNeg ((p1 / x2_3) - (p1 / x2_3) / x3_6 * x3_6)) (2 : Int32).toNatClampNeg ((p1 / x2_3) / x3_6))) : atX4_cellAt_0 X ad cA p1 M_thrown M_trace M_found M_foundSet M_foundTimes M_w M_h M_sides M_ways M_place := by
  refine g_aload_n C dX4_cellAt_0 rfl 0 rfl ?_
  refine g_get C gfX4_cellAt_7 0 rfl rfl dX4_cellAt_1 ?_
  refine g_aload_n C dX4_cellAt_4 rfl 0 rfl ?_
  refine g_get C gfX4_cellAt_22 0 rfl rfl dX4_cellAt_5 ?_
  refine g_iconst C dX4_cellAt_8 ik_0 ?_
  obtain ⟨hi_1, h⟩ := h
  refine g_iald C 2 0 rfl rfl hi_1 dX4_cellAt_9 ?_
  obtain ⟨hi_2, h⟩ := h
  refine g_iald C 1 0 rfl rfl hi_2 dX4_cellAt_10 ?_
  refine g_topi (fun x2_3 ex2_3 => ?_)
  replace h := h x2_3 ex2_3
  refine g_istore_n (lv2 := [(0, .ref (ad 19)), (1, .int p1), (2, .int x2_3)]) C dX4_cellAt_11 rfl (by decide) [1, 2, 0] rfl ?_
  refine g_aload_n C dX4_cellAt_12 rfl 0 rfl ?_
  refine g_get C gfX4_cellAt_7 0 rfl rfl dX4_cellAt_13 ?_
  refine g_aload_n C dX4_cellAt_16 rfl 0 rfl ?_
  refine g_get C gfX4_cellAt_22 0 rfl rfl dX4_cellAt_17 ?_
  refine g_iconst C dX4_cellAt_20 ik_1 ?_
  obtain ⟨hi_4, h⟩ := h
  refine g_iald C 2 0 rfl rfl hi_4 dX4_cellAt_21 ?_
  obtain ⟨hi_5, h⟩ := h
  refine g_iald C 1 0 rfl rfl hi_5 dX4_cellAt_22 ?_
  refine g_topi (fun x3_6 ex3_6 => ?_)
  replace h := h x3_6 ex3_6
  refine g_istore_n (lv2 := [(0, .ref (ad 19)), (1, .int p1), (2, .int x2_3), (3, .int x3_6)]) C dX4_cellAt_23 rfl (by decide) [1, 2, 3, 0] rfl ?_
  refine g_aload_n C dX4_cellAt_24 rfl 0 rfl ?_
  refine g_get C gfX4_cellAt_25 0 rfl rfl dX4_cellAt_25 ?_
  refine g_iconst C dX4_cellAt_28 ik_0 ?_
  refine g_iload_n C dX4_cellAt_29 rfl 1 rfl ?_
  refine g_iload_n C dX4_cellAt_30 rfl 2 rfl ?_
  obtain ⟨hi_7, h⟩ := h
  refine g_irem C dX4_cellAt_31 hi_7 ?_
  obtain ⟨hi_8, h⟩ := h
  refine g_iast (ws2 := [((ad 19), .inr (4, [.int M_thrown, .long M_trace, .ref (ad 20), .ref (ad 21), .ref (ad 22), .ref (ad 23), .ref (ad 24), .ref (ad 25), .ref (ad 26), .ref (ad 27), .ref (ad 28), .ref (ad 29), .ref (ad 30), .ref (ad 31), .long M_found, .long M_foundSet, .long M_foundTimes, .int M_w, .int M_h, .ref (ad 32), .ref (ad 33), .ref (ad 34)])), ((ad 20), .inl (cA 0, 3, .inl M_sides)), ((ad 24), .inl (cA 0, 3, .inl M_ways)), ((ad 25), .inl (cA 0, 3, .inl (upd M_place (0 : Int32).toNatClampNeg (p1 - p1 / x2_3 * x2_3))))]) C 3 0 rfl rfl hi_8 rfl dX4_cellAt_32 ?_
  refine g_aload_n C dX4_cellAt_33 rfl 0 rfl ?_
  refine g_get C gfX4_cellAt_25 0 rfl rfl dX4_cellAt_34 ?_
  refine g_iconst C dX4_cellAt_37 ik_1 ?_
  refine g_iload_n C dX4_cellAt_38 rfl 1 rfl ?_
  refine g_iload_n C dX4_cellAt_39 rfl 2 rfl ?_
  obtain ⟨hi_9, h⟩ := h
  refine g_idiv C dX4_cellAt_40 hi_9 ?_
  refine g_iload_n C dX4_cellAt_41 rfl 3 rfl ?_
  obtain ⟨hi_10, h⟩ := h
  refine g_irem C dX4_cellAt_42 hi_10 ?_
  obtain ⟨hi_11, h⟩ := h
  refine g_iast (ws2 := [((ad 19), .inr (4, [.int M_thrown, .long M_trace, .ref (ad 20), .ref (ad 21), .ref (ad 22), .ref (ad 23), .ref (ad 24), .ref (ad 25), .ref (ad 26), .ref (ad 27), .ref (ad 28), .ref (ad 29), .ref (ad 30), .ref (ad 31), .long M_found, .long M_foundSet, .long M_foundTimes, .int M_w, .int M_h, .ref (ad 32), .ref (ad 33), .ref (ad 34)])), ((ad 20), .inl (cA 0, 3, .inl M_sides)), ((ad 24), .inl (cA 0, 3, .inl M_ways)), ((ad 25), .inl (cA 0, 3, .inl (upd (upd M_place (0 : Int32).toNatClampNeg (p1 - p1 / x2_3 * x2_3)) (1 : Int32).toNatClampNeg ((p1 / x2_3) - (p1 / x2_3) / x3_6 * x3_6))))]) C 3 0 rfl rfl hi_11 rfl dX4_cellAt_43 ?_
  refine g_aload_n C dX4_cellAt_44 rfl 0 rfl ?_
  refine g_get C gfX4_cellAt_25 0 rfl rfl dX4_cellAt_45 ?_
  refine g_iconst C dX4_cellAt_48 ik_2 ?_
  refine g_iload_n C dX4_cellAt_49 rfl 1 rfl ?_
  refine g_iload_n C dX4_cellAt_50 rfl 2 rfl ?_
  obtain ⟨hi_12, h⟩ := h
  refine g_idiv C dX4_cellAt_51 hi_12 ?_
  refine g_iload_n C dX4_cellAt_52 rfl 3 rfl ?_
  obtain ⟨hi_13, h⟩ := h
  refine g_idiv C dX4_cellAt_53 hi_13 ?_
  obtain ⟨hi_14, h⟩ := h
  refine g_iast (ws2 := [((ad 19), .inr (4, [.int M_thrown, .long M_trace, .ref (ad 20), .ref (ad 21), .ref (ad 22), .ref (ad 23), .ref (ad 24), .ref (ad 25), .ref (ad 26), .ref (ad 27), .ref (ad 28), .ref (ad 29), .ref (ad 30), .ref (ad 31), .long M_found, .long M_foundSet, .long M_foundTimes, .int M_w, .int M_h, .ref (ad 32), .ref (ad 33), .ref (ad 34)])), ((ad 20), .inl (cA 0, 3, .inl M_sides)), ((ad 24), .inl (cA 0, 3, .inl M_ways)), ((ad 25), .inl (cA 0, 3, .inl (upd (upd (upd M_place (0 : Int32).toNatClampNeg (p1 - p1 / x2_3 * x2_3)) (1 : Int32).toNatClampNeg ((p1 / x2_3) - (p1 / x2_3) / x3_6 * x3_6)) (2 : Int32).toNatClampNeg ((p1 / x2_3) / x3_6))))]) C 3 0 rfl rfl hi_14 rfl dX4_cellAt_54 ?_
  refine g_aload_n C dX4_cellAt_55 rfl 0 rfl ?_
  refine g_get C gfX4_cellAt_25 0 rfl rfl dX4_cellAt_56 ?_
  refine g_iconst C dX4_cellAt_59 ik_0 ?_
  obtain ⟨hi_15, h⟩ := h
  refine g_iald C 3 0 rfl rfl hi_15 dX4_cellAt_60 ?_
  refine g_aload_n C dX4_cellAt_61 rfl 0 rfl ?_
  refine g_aload_n C dX4_cellAt_62 rfl 0 rfl ?_
  refine g_get C gfX4_cellAt_22 0 rfl rfl dX4_cellAt_63 ?_
  refine g_iconst C dX4_cellAt_66 ik_0 ?_
  obtain ⟨hi_16, h⟩ := h
  refine g_iald C 2 0 rfl rfl hi_16 dX4_cellAt_67 ?_
  obtain ⟨hi_17, h⟩ := h
  refine g_callVi (wr := [((ad 24), .inl (cA 0, 3, .inl M_ways)), ((ad 25), .inl (cA 0, 3, .inl (upd (upd (upd M_place (0 : Int32).toNatClampNeg (p1 - p1 / x2_3 * x2_3)) (1 : Int32).toNatClampNeg ((p1 / x2_3) - (p1 / x2_3) / x3_6 * x3_6)) (2 : Int32).toNatClampNeg ((p1 / x2_3) / x3_6))))]) C (c_X4_stride ad cA (M_ways (0 : Int32).toNatClampNeg) M_thrown M_trace M_found M_foundSet M_foundTimes M_w M_h M_sides hi_17) gX4_cellAt_X4_stride rfl hde_X4_stride ⟨rfl, rfl⟩ (by decide) (by decide) [0, 1] [2, 3] [2, 3, 0, 1] rfl rfl rfl rfl (by decide) rfl (ws2 := fun u => [((ad 19), .inr (4, [.int M_thrown, .long M_trace, .ref (ad 20), .ref (ad 21), .ref (ad 22), .ref (ad 23), .ref (ad 24), .ref (ad 25), .ref (ad 26), .ref (ad 27), .ref (ad 28), .ref (ad 29), .ref (ad 30), .ref (ad 31), .long M_found, .long M_foundSet, .long M_foundTimes, .int M_w, .int M_h, .ref (ad 32), .ref (ad 33), .ref (ad 34)])), ((ad 20), .inl (cA 0, 3, .inl M_sides)), ((ad 24), .inl (cA 0, 3, .inl M_ways)), ((ad 25), .inl (cA 0, 3, .inl (upd (upd (upd M_place (0 : Int32).toNatClampNeg (p1 - p1 / x2_3 * x2_3)) (1 : Int32).toNatClampNeg ((p1 / x2_3) - (p1 / x2_3) / x3_6 * x3_6)) (2 : Int32).toNatClampNeg ((p1 / x2_3) / x3_6))))]) (fun _ => rfl) 4 0 rfl rfl rfl (rest := [.int ((upd (upd (upd M_place (0 : Int32).toNatClampNeg (p1 - p1 / x2_3 * x2_3)) (1 : Int32).toNatClampNeg ((p1 / x2_3) - (p1 / x2_3) / x3_6 * x3_6)) (2 : Int32).toNatClampNeg ((p1 / x2_3) / x3_6)) (0 : Int32).toNatClampNeg)]) rfl (Nat.le_of_ble_eq_true rfl) dX4_cellAt_68 (fun r_18 u_18 hp_18 => ?_)
  subst hp_18
  change gW X 0 0 [((ad 19), .inr (4, [.int M_thrown, .long M_trace, .ref (ad 20), .ref (ad 21), .ref (ad 22), .ref (ad 23), .ref (ad 24), .ref (ad 25), .ref (ad 26), .ref (ad 27), .ref (ad 28), .ref (ad 29), .ref (ad 30), .ref (ad 31), .long M_found, .long M_foundSet, .long M_foundTimes, .int M_w, .int M_h, .ref (ad 32), .ref (ad 33), .ref (ad 34)])), ((ad 20), .inl (cA 0, 3, .inl M_sides)), ((ad 24), .inl (cA 0, 3, .inl M_ways)), ((ad 25), .inl (cA 0, 3, .inl (upd (upd (upd M_place (0 : Int32).toNatClampNeg (p1 - p1 / x2_3 * x2_3)) (1 : Int32).toNatClampNeg ((p1 / x2_3) - (p1 / x2_3) / x3_6 * x3_6)) (2 : Int32).toNatClampNeg ((p1 / x2_3) / x3_6))))] 4 [(0, .ref (ad 19)), (1, .int p1), (2, .int x2_3), (3, .int x3_6)] [.int (fnX4_stride (M_ways (0 : Int32).toNatClampNeg) M_thrown M_trace M_found M_foundSet M_foundTimes M_w M_h M_sides), .int ((upd (upd (upd M_place (0 : Int32).toNatClampNeg (p1 - p1 / x2_3 * x2_3)) (1 : Int32).toNatClampNeg ((p1 / x2_3) - (p1 / x2_3) / x3_6 * x3_6)) (2 : Int32).toNatClampNeg ((p1 / x2_3) / x3_6)) (0 : Int32).toNatClampNeg)] 71
  refine g_imul C dX4_cellAt_71 ?_
  refine g_aload_n C dX4_cellAt_72 rfl 0 rfl ?_
  refine g_get C gfX4_cellAt_25 0 rfl rfl dX4_cellAt_73 ?_
  refine g_iconst C dX4_cellAt_76 ik_1 ?_
  obtain ⟨hi_19, h⟩ := h
  refine g_iald C 3 0 rfl rfl hi_19 dX4_cellAt_77 ?_
  refine g_aload_n C dX4_cellAt_78 rfl 0 rfl ?_
  refine g_aload_n C dX4_cellAt_79 rfl 0 rfl ?_
  refine g_get C gfX4_cellAt_22 0 rfl rfl dX4_cellAt_80 ?_
  refine g_iconst C dX4_cellAt_83 ik_1 ?_
  obtain ⟨hi_20, h⟩ := h
  refine g_iald C 2 0 rfl rfl hi_20 dX4_cellAt_84 ?_
  obtain ⟨hi_21, h⟩ := h
  refine g_callVi (wr := [((ad 24), .inl (cA 0, 3, .inl M_ways)), ((ad 25), .inl (cA 0, 3, .inl (upd (upd (upd M_place (0 : Int32).toNatClampNeg (p1 - p1 / x2_3 * x2_3)) (1 : Int32).toNatClampNeg ((p1 / x2_3) - (p1 / x2_3) / x3_6 * x3_6)) (2 : Int32).toNatClampNeg ((p1 / x2_3) / x3_6))))]) C (c_X4_stride ad cA (M_ways (1 : Int32).toNatClampNeg) M_thrown M_trace M_found M_foundSet M_foundTimes M_w M_h M_sides hi_21) gX4_cellAt_X4_stride rfl hde_X4_stride ⟨rfl, rfl⟩ (by decide) (by decide) [0, 1] [2, 3] [2, 3, 0, 1] rfl rfl rfl rfl (by decide) rfl (ws2 := fun u => [((ad 19), .inr (4, [.int M_thrown, .long M_trace, .ref (ad 20), .ref (ad 21), .ref (ad 22), .ref (ad 23), .ref (ad 24), .ref (ad 25), .ref (ad 26), .ref (ad 27), .ref (ad 28), .ref (ad 29), .ref (ad 30), .ref (ad 31), .long M_found, .long M_foundSet, .long M_foundTimes, .int M_w, .int M_h, .ref (ad 32), .ref (ad 33), .ref (ad 34)])), ((ad 20), .inl (cA 0, 3, .inl M_sides)), ((ad 24), .inl (cA 0, 3, .inl M_ways)), ((ad 25), .inl (cA 0, 3, .inl (upd (upd (upd M_place (0 : Int32).toNatClampNeg (p1 - p1 / x2_3 * x2_3)) (1 : Int32).toNatClampNeg ((p1 / x2_3) - (p1 / x2_3) / x3_6 * x3_6)) (2 : Int32).toNatClampNeg ((p1 / x2_3) / x3_6))))]) (fun _ => rfl) 4 0 rfl rfl rfl (rest := [.int ((upd (upd (upd M_place (0 : Int32).toNatClampNeg (p1 - p1 / x2_3 * x2_3)) (1 : Int32).toNatClampNeg ((p1 / x2_3) - (p1 / x2_3) / x3_6 * x3_6)) (2 : Int32).toNatClampNeg ((p1 / x2_3) / x3_6)) (1 : Int32).toNatClampNeg), .int (((upd (upd (upd M_place (0 : Int32).toNatClampNeg (p1 - p1 / x2_3 * x2_3)) (1 : Int32).toNatClampNeg ((p1 / x2_3) - (p1 / x2_3) / x3_6 * x3_6)) (2 : Int32).toNatClampNeg ((p1 / x2_3) / x3_6)) (0 : Int32).toNatClampNeg) * (fnX4_stride (M_ways (0 : Int32).toNatClampNeg) M_thrown M_trace M_found M_foundSet M_foundTimes M_w M_h M_sides))]) rfl (Nat.le_of_ble_eq_true rfl) dX4_cellAt_85 (fun r_22 u_22 hp_22 => ?_)
  subst hp_22
  change gW X 0 0 [((ad 19), .inr (4, [.int M_thrown, .long M_trace, .ref (ad 20), .ref (ad 21), .ref (ad 22), .ref (ad 23), .ref (ad 24), .ref (ad 25), .ref (ad 26), .ref (ad 27), .ref (ad 28), .ref (ad 29), .ref (ad 30), .ref (ad 31), .long M_found, .long M_foundSet, .long M_foundTimes, .int M_w, .int M_h, .ref (ad 32), .ref (ad 33), .ref (ad 34)])), ((ad 20), .inl (cA 0, 3, .inl M_sides)), ((ad 24), .inl (cA 0, 3, .inl M_ways)), ((ad 25), .inl (cA 0, 3, .inl (upd (upd (upd M_place (0 : Int32).toNatClampNeg (p1 - p1 / x2_3 * x2_3)) (1 : Int32).toNatClampNeg ((p1 / x2_3) - (p1 / x2_3) / x3_6 * x3_6)) (2 : Int32).toNatClampNeg ((p1 / x2_3) / x3_6))))] 4 [(0, .ref (ad 19)), (1, .int p1), (2, .int x2_3), (3, .int x3_6)] [.int (fnX4_stride (M_ways (1 : Int32).toNatClampNeg) M_thrown M_trace M_found M_foundSet M_foundTimes M_w M_h M_sides), .int ((upd (upd (upd M_place (0 : Int32).toNatClampNeg (p1 - p1 / x2_3 * x2_3)) (1 : Int32).toNatClampNeg ((p1 / x2_3) - (p1 / x2_3) / x3_6 * x3_6)) (2 : Int32).toNatClampNeg ((p1 / x2_3) / x3_6)) (1 : Int32).toNatClampNeg), .int (((upd (upd (upd M_place (0 : Int32).toNatClampNeg (p1 - p1 / x2_3 * x2_3)) (1 : Int32).toNatClampNeg ((p1 / x2_3) - (p1 / x2_3) / x3_6 * x3_6)) (2 : Int32).toNatClampNeg ((p1 / x2_3) / x3_6)) (0 : Int32).toNatClampNeg) * (fnX4_stride (M_ways (0 : Int32).toNatClampNeg) M_thrown M_trace M_found M_foundSet M_foundTimes M_w M_h M_sides))] 88
  refine g_imul C dX4_cellAt_88 ?_
  refine g_iadd C dX4_cellAt_89 ?_
  refine g_aload_n C dX4_cellAt_90 rfl 0 rfl ?_
  refine g_get C gfX4_cellAt_25 0 rfl rfl dX4_cellAt_91 ?_
  refine g_iconst C dX4_cellAt_94 ik_2 ?_
  obtain ⟨hi_23, h⟩ := h
  refine g_iald C 3 0 rfl rfl hi_23 dX4_cellAt_95 ?_
  refine g_aload_n C dX4_cellAt_96 rfl 0 rfl ?_
  refine g_aload_n C dX4_cellAt_97 rfl 0 rfl ?_
  refine g_get C gfX4_cellAt_22 0 rfl rfl dX4_cellAt_98 ?_
  refine g_iconst C dX4_cellAt_101 ik_2 ?_
  obtain ⟨hi_24, h⟩ := h
  refine g_iald C 2 0 rfl rfl hi_24 dX4_cellAt_102 ?_
  obtain ⟨hi_25, h⟩ := h
  refine g_callVi (wr := [((ad 24), .inl (cA 0, 3, .inl M_ways)), ((ad 25), .inl (cA 0, 3, .inl (upd (upd (upd M_place (0 : Int32).toNatClampNeg (p1 - p1 / x2_3 * x2_3)) (1 : Int32).toNatClampNeg ((p1 / x2_3) - (p1 / x2_3) / x3_6 * x3_6)) (2 : Int32).toNatClampNeg ((p1 / x2_3) / x3_6))))]) C (c_X4_stride ad cA (M_ways (2 : Int32).toNatClampNeg) M_thrown M_trace M_found M_foundSet M_foundTimes M_w M_h M_sides hi_25) gX4_cellAt_X4_stride rfl hde_X4_stride ⟨rfl, rfl⟩ (by decide) (by decide) [0, 1] [2, 3] [2, 3, 0, 1] rfl rfl rfl rfl (by decide) rfl (ws2 := fun u => [((ad 19), .inr (4, [.int M_thrown, .long M_trace, .ref (ad 20), .ref (ad 21), .ref (ad 22), .ref (ad 23), .ref (ad 24), .ref (ad 25), .ref (ad 26), .ref (ad 27), .ref (ad 28), .ref (ad 29), .ref (ad 30), .ref (ad 31), .long M_found, .long M_foundSet, .long M_foundTimes, .int M_w, .int M_h, .ref (ad 32), .ref (ad 33), .ref (ad 34)])), ((ad 20), .inl (cA 0, 3, .inl M_sides)), ((ad 24), .inl (cA 0, 3, .inl M_ways)), ((ad 25), .inl (cA 0, 3, .inl (upd (upd (upd M_place (0 : Int32).toNatClampNeg (p1 - p1 / x2_3 * x2_3)) (1 : Int32).toNatClampNeg ((p1 / x2_3) - (p1 / x2_3) / x3_6 * x3_6)) (2 : Int32).toNatClampNeg ((p1 / x2_3) / x3_6))))]) (fun _ => rfl) 4 0 rfl rfl rfl (rest := [.int ((upd (upd (upd M_place (0 : Int32).toNatClampNeg (p1 - p1 / x2_3 * x2_3)) (1 : Int32).toNatClampNeg ((p1 / x2_3) - (p1 / x2_3) / x3_6 * x3_6)) (2 : Int32).toNatClampNeg ((p1 / x2_3) / x3_6)) (2 : Int32).toNatClampNeg), .int ((((upd (upd (upd M_place (0 : Int32).toNatClampNeg (p1 - p1 / x2_3 * x2_3)) (1 : Int32).toNatClampNeg ((p1 / x2_3) - (p1 / x2_3) / x3_6 * x3_6)) (2 : Int32).toNatClampNeg ((p1 / x2_3) / x3_6)) (0 : Int32).toNatClampNeg) * (fnX4_stride (M_ways (0 : Int32).toNatClampNeg) M_thrown M_trace M_found M_foundSet M_foundTimes M_w M_h M_sides)) + (((upd (upd (upd M_place (0 : Int32).toNatClampNeg (p1 - p1 / x2_3 * x2_3)) (1 : Int32).toNatClampNeg ((p1 / x2_3) - (p1 / x2_3) / x3_6 * x3_6)) (2 : Int32).toNatClampNeg ((p1 / x2_3) / x3_6)) (1 : Int32).toNatClampNeg) * (fnX4_stride (M_ways (1 : Int32).toNatClampNeg) M_thrown M_trace M_found M_foundSet M_foundTimes M_w M_h M_sides)))]) rfl (Nat.le_of_ble_eq_true rfl) dX4_cellAt_103 (fun r_26 u_26 hp_26 => ?_)
  subst hp_26
  change gW X 0 0 [((ad 19), .inr (4, [.int M_thrown, .long M_trace, .ref (ad 20), .ref (ad 21), .ref (ad 22), .ref (ad 23), .ref (ad 24), .ref (ad 25), .ref (ad 26), .ref (ad 27), .ref (ad 28), .ref (ad 29), .ref (ad 30), .ref (ad 31), .long M_found, .long M_foundSet, .long M_foundTimes, .int M_w, .int M_h, .ref (ad 32), .ref (ad 33), .ref (ad 34)])), ((ad 20), .inl (cA 0, 3, .inl M_sides)), ((ad 24), .inl (cA 0, 3, .inl M_ways)), ((ad 25), .inl (cA 0, 3, .inl (upd (upd (upd M_place (0 : Int32).toNatClampNeg (p1 - p1 / x2_3 * x2_3)) (1 : Int32).toNatClampNeg ((p1 / x2_3) - (p1 / x2_3) / x3_6 * x3_6)) (2 : Int32).toNatClampNeg ((p1 / x2_3) / x3_6))))] 4 [(0, .ref (ad 19)), (1, .int p1), (2, .int x2_3), (3, .int x3_6)] [.int (fnX4_stride (M_ways (2 : Int32).toNatClampNeg) M_thrown M_trace M_found M_foundSet M_foundTimes M_w M_h M_sides), .int ((upd (upd (upd M_place (0 : Int32).toNatClampNeg (p1 - p1 / x2_3 * x2_3)) (1 : Int32).toNatClampNeg ((p1 / x2_3) - (p1 / x2_3) / x3_6 * x3_6)) (2 : Int32).toNatClampNeg ((p1 / x2_3) / x3_6)) (2 : Int32).toNatClampNeg), .int ((((upd (upd (upd M_place (0 : Int32).toNatClampNeg (p1 - p1 / x2_3 * x2_3)) (1 : Int32).toNatClampNeg ((p1 / x2_3) - (p1 / x2_3) / x3_6 * x3_6)) (2 : Int32).toNatClampNeg ((p1 / x2_3) / x3_6)) (0 : Int32).toNatClampNeg) * (fnX4_stride (M_ways (0 : Int32).toNatClampNeg) M_thrown M_trace M_found M_foundSet M_foundTimes M_w M_h M_sides)) + (((upd (upd (upd M_place (0 : Int32).toNatClampNeg (p1 - p1 / x2_3 * x2_3)) (1 : Int32).toNatClampNeg ((p1 / x2_3) - (p1 / x2_3) / x3_6 * x3_6)) (2 : Int32).toNatClampNeg ((p1 / x2_3) / x3_6)) (1 : Int32).toNatClampNeg) * (fnX4_stride (M_ways (1 : Int32).toNatClampNeg) M_thrown M_trace M_found M_foundSet M_foundTimes M_w M_h M_sides)))] 106
  refine g_imul C dX4_cellAt_106 ?_
  refine g_iadd C dX4_cellAt_107 ?_
  exact g_iret C E (upd (upd (upd M_place (0 : Int32).toNatClampNeg (p1 - p1 / x2_3 * x2_3)) (1 : Int32).toNatClampNeg ((p1 / x2_3) - (p1 / x2_3) / x3_6 * x3_6)) (2 : Int32).toNatClampNeg ((p1 / x2_3) / x3_6)) h rfl dX4_cellAt_108
def prX4_cellAt (dx : Nat) (dy : Nat) (dz : Nat) (w0 : Nat) (w1 : Nat) (w2 : Nat) (k : Nat) (p1 : Int32) (M_thrown : Int32) (M_trace : Int64) (M_found : Int64) (M_foundSet : Int64) (M_foundTimes : Int64) (M_w : Int32) (M_h : Int32) (M_sides : Nat → Int32) (M_ways : Nat → Int32) (M_place : Nat → Int32) : Prop := dimOK dx dy dz ∧ sdOK M_sides dx dy dz ∧ prm w0 w1 w2 ∧ M_ways 0 = nI w0 ∧ M_ways 1 = nI w1 ∧ M_ways 2 = nI w2 ∧ k < dx * dy * dz ∧ p1 = nI k
def po_X4_cellAt (ad : Nat → Nat) (cA : Nat → ClassId) (dx : Nat) (dy : Nat) (dz : Nat) (w0 : Nat) (w1 : Nat) (w2 : Nat) (k : Nat) (p1 : Int32) (M_thrown : Int32) (M_trace : Int64) (M_found : Int64) (M_foundSet : Int64) (M_foundTimes : Int64) (M_w : Int32) (M_h : Int32) (M_sides : Nat → Int32) (M_ways : Nat → Int32) (M_place : Nat → Int32) (r : Int32) (u : (Nat → Int32)) : Prop := r = nI (kcell dx dy dz w0 w1 w2 k) ∧ ∀ q, q < 3 → u q = nI (pkQ (bxD dx dy dz w0) (bxD dx dy dz w1) q k)
set_option maxHeartbeats 4000000 in
set_option maxRecDepth 100000 in
theorem c_X4_cellAt (ad : Nat → Nat) (cA : Nat → ClassId) (dx : Nat) (dy : Nat) (dz : Nat) (w0 : Nat) (w1 : Nat) (w2 : Nat) (k : Nat) (p1 : Int32) (M_thrown : Int32) (M_trace : Int64) (M_found : Int64) (M_foundSet : Int64) (M_foundTimes : Int64) (M_w : Int32) (M_h : Int32) (M_sides : Nat → Int32) (M_ways : Nat → Int32) (M_place : Nat → Int32) (hq : prX4_cellAt dx dy dz w0 w1 w2 k p1 M_thrown M_trace M_found M_foundSet M_foundTimes M_w M_h M_sides M_ways M_place) : ∀ (l : Launch) (D : va_G), gMi (S := (Nat → Int32)) l yX4_cellAt wsX4_cellAt rmX4_cellAt D (gT cA) 0 0 [.ref (ad 19), .int p1] (wcX4_cellAt ad cA M_thrown M_trace M_found M_foundSet M_foundTimes M_w M_h M_sides M_ways M_place) (po_X4_cellAt ad cA dx dy dz w0 w1 w2 k p1 M_thrown M_trace M_found M_foundSet M_foundTimes M_w M_h M_sides M_ways M_place) (w1X4_cellAt ad cA M_thrown M_trace M_found M_foundSet M_foundTimes M_w M_h M_sides M_ways) := by
  intro l D
  unfold prX4_cellAt at hq
  refine g_enteri (cc := cX4_cellAt) (nL := 4) (ret := (some .int)) (by decide) rfl (Nat.le_of_ble_eq_true rfl) rfl (fun X C E => ?_)
  obtain ⟨hd, hs, hw, u0, u1, u2, hk, rfl⟩ := hq
  have hV := hd.2.2.2.2.2.2
  obtain ⟨g1, g2, g3, g4, g5, g6⟩ := hw
  have b0 := bxD_le hd w0
  have b1 := bxD_le hd w1
  have e0 : M_ways (0 : Int32).toNatClampNeg = nI w0 := u0
  have e1 : M_ways (1 : Int32).toNatClampNeg = nI w1 := u1
  have e2 : M_ways (2 : Int32).toNatClampNeg = nI w2 := u2
  obtain ⟨s0, q0⟩ := stride_eq (M_thrown := M_thrown) (M_trace := M_trace) (M_found := M_found) (M_foundSet := M_foundSet) (M_foundTimes := M_foundTimes) (M_w := M_w) (M_h := M_h) hs g1
  obtain ⟨s1, q1⟩ := stride_eq (M_thrown := M_thrown) (M_trace := M_trace) (M_found := M_found) (M_foundSet := M_foundSet) (M_foundTimes := M_foundTimes) (M_w := M_w) (M_h := M_h) hs g2
  obtain ⟨s2, q2⟩ := stride_eq (M_thrown := M_thrown) (M_trace := M_trace) (M_found := M_found) (M_foundSet := M_foundSet) (M_foundTimes := M_foundTimes) (M_w := M_w) (M_h := M_h) hs g3
  refine sgX4_cellAt_0 C E ?_
  rw [e0, e1, e2, s0, s1, s2, nI_clamp (n := w0) (by omega), nI_clamp (n := w1) (by omega), sd_at hs g1, sd_at hs g2]
  have na : ¬ nI (bxD dx dy dz w0) = 0 := nI_ne0 (by omega) (by omega)
  have nb : ¬ nI (bxD dx dy dz w1) = 0 := nI_ne0 (by omega) (by omega)
  have dk : k / bxD dx dy dz w0 ≤ k := Nat.div_le_self _ _
  refine ⟨vi_0_3, vp_in_nI g1 (by decide), fun a ea => ⟨vi_1_3, vp_in_nI g2 (by decide), fun b eb => ?_⟩⟩
  subst ea; subst eb
  have r0 : nI k - nI k / nI (bxD dx dy dz w0) * nI (bxD dx dy dz w0) = nI (k % bxD dx dy dz w0) := pk_rem (by omega) (by omega) (by omega)
  have d0 : nI k / nI (bxD dx dy dz w0) = nI (k / bxD dx dy dz w0) := pk_div (by omega) (by omega) (by omega)
  have r1 : nI (k / bxD dx dy dz w0) - nI (k / bxD dx dy dz w0) / nI (bxD dx dy dz w1) * nI (bxD dx dy dz w1) = nI (k / bxD dx dy dz w0 % bxD dx dy dz w1) := pk_rem (by omega) (by omega) (by omega)
  have d1 : nI (k / bxD dx dy dz w0) / nI (bxD dx dy dz w1) = nI (k / bxD dx dy dz w0 / bxD dx dy dz w1) := pk_div (by omega) (by omega) (by omega)
  rw [r0, d0, r1, d1]
  refine ⟨na, vi_0_3, na, nb, vi_1_3, na, nb, vi_2_3, vi_0_3, vi_0_3, q0, vi_1_3, vi_1_3, q1, vi_2_3, vi_2_3, q2, ?_, ?_⟩
  · show nI (k % bxD dx dy dz w0) * nI (bxS dx dy w0) + nI (k / bxD dx dy dz w0 % bxD dx dy dz w1) * nI (bxS dx dy w1) + nI (k / bxD dx dy dz w0 / bxD dx dy dz w1) * nI (bxS dx dy w2) = _
    rw [pk_mul, pk_mul, pk_mul, nI_add, nI_add]; rfl
  · intro q hq3
    rcases (show q = 0 ∨ q = 1 ∨ q = 2 by omega) with rfl | rfl | rfl <;> rfl

