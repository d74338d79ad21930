theorem inlX0 : ∀ w ∈ wsX00, w ∈ wsL_law := fun _ h => List.mem_append_left _ (List.mem_append_right _ h)
theorem inlX1 : ∀ w ∈ wsX10, w ∈ wsL_law := fun _ h => List.mem_append_left _ (List.mem_append_left _ (List.mem_append_left _ (List.mem_append_right _ h)))
theorem inlX2 : ∀ w ∈ wsX20, w ∈ wsL_law := fun _ h => List.mem_append_left _ (List.mem_append_left _ (List.mem_append_right _ h))
theorem inlX3 : ∀ w ∈ wsX30, w ∈ wsL_law := fun _ h => List.mem_append_left _ (List.mem_append_left _ (List.mem_append_left _ (List.mem_append_left _ (List.mem_append_left _ (List.mem_append_right _ h)))))
theorem inlX4 : ∀ w ∈ wsX40, w ∈ wsL_law := fun _ h => List.mem_append_left _ (List.mem_append_left _ (List.mem_append_left _ (List.mem_append_left _ (List.mem_append_right _ h))))
theorem zz_0 {args : Array Value} {s : State} {A : Nat → Prop} (hts : ∀ w ∈ lw_tbl, w.before args s = true) (hgv : (Jvm.Cond.and given_1 narrow_1).before args s = true) (hA : ∀ a : Nat, a < s.heap.size → ¬ A a) : ∃ t : Nat, va_Z "SkinBox" "LOWEST_RULE" "[I" (.ref t) A s s.heap ∧ va_T .int t 7 (fun j => .int (lowR j)) A s s.heap := by
  have hs := flat_of_before _ hgv
  have harr : (Cond.arrayOf (Jvm.Term.static "SkinBox" "LOWEST_RULE" "[I") .int).before args s = true := hs _ (by decide +kernel)
  have hlen := va_eqt (hs (Cond.eq (.length (Jvm.Term.static "SkinBox" "LOWEST_RULE" "[I")) (.int 7)) (by decide +kernel))
  have e0 := va_eqt (hs (Cond.eq (.elem (Jvm.Term.static "SkinBox" "LOWEST_RULE" "[I") (.int 0)) (.int 0)) (by decide +kernel))
  have e1 := va_eqt (hs (Cond.eq (.elem (Jvm.Term.static "SkinBox" "LOWEST_RULE" "[I") (.int 1)) (.int 0)) (by decide +kernel))
  have e2 := va_eqt (hs (Cond.eq (.elem (Jvm.Term.static "SkinBox" "LOWEST_RULE" "[I") (.int 2)) (.int 0)) (by decide +kernel))
  have e3 := va_eqt (hs (Cond.eq (.elem (Jvm.Term.static "SkinBox" "LOWEST_RULE" "[I") (.int 3)) (.int 0)) (by decide +kernel))
  have e4 := va_eqt (hs (Cond.eq (.elem (Jvm.Term.static "SkinBox" "LOWEST_RULE" "[I") (.int 4)) (.int 0)) (by decide +kernel))
  have e5 := va_eqt (hs (Cond.eq (.elem (Jvm.Term.static "SkinBox" "LOWEST_RULE" "[I") (.int 5)) (.int 1)) (by decide +kernel))
  have e6 := va_eqt (hs (Cond.eq (.elem (Jvm.Term.static "SkinBox" "LOWEST_RULE" "[I") (.int 6)) (.int 0)) (by decide +kernel))
  obtain ⟨t, ht, hT⟩ := va_Tof (N := 7) (f := fun j => .int (lowR j)) (A := A) (by decide) harr hlen (fun j hj => by
    rcases (show j = 0 ∨ j = 1 ∨ j = 2 ∨ j = 3 ∨ j = 4 ∨ j = 5 ∨ j = 6 by omega) with rfl | rfl | rfl | rfl | rfl | rfl | rfl
    · exact e0
    · exact e1
    · exact e2
    · exact e3
    · exact e4
    · exact e5
    · exact e6) hA
  exact ⟨t, va_Zref (hts _ (by decide +kernel)) (hts _ (by decide +kernel)) ht hA, hT⟩

theorem zz_1 {args : Array Value} {s : State} {A : Nat → Prop} (hts : ∀ w ∈ lw_tbl, w.before args s = true) (hgv : (Jvm.Cond.and given_1 narrow_1).before args s = true) (hA : ∀ a : Nat, a < s.heap.size → ¬ A a) : ∃ t : Nat, va_Z "SkinBox" "HIGHEST_RULE" "[I" (.ref t) A s s.heap ∧ va_T .int t 7 (fun j => .int (hgR j)) A s s.heap := by
  have hs := flat_of_before _ hgv
  have harr : (Cond.arrayOf (Jvm.Term.static "SkinBox" "HIGHEST_RULE" "[I") .int).before args s = true := hs _ (by decide +kernel)
  have hlen := va_eqt (hs (Cond.eq (.length (Jvm.Term.static "SkinBox" "HIGHEST_RULE" "[I")) (.int 7)) (by decide +kernel))
  have e0 := va_eqt (hs (Cond.eq (.elem (Jvm.Term.static "SkinBox" "HIGHEST_RULE" "[I") (.int 0)) (.int 9)) (by decide +kernel))
  have e1 := va_eqt (hs (Cond.eq (.elem (Jvm.Term.static "SkinBox" "HIGHEST_RULE" "[I") (.int 1)) (.int 9)) (by decide +kernel))
  have e2 := va_eqt (hs (Cond.eq (.elem (Jvm.Term.static "SkinBox" "HIGHEST_RULE" "[I") (.int 2)) (.int 9)) (by decide +kernel))
  have e3 := va_eqt (hs (Cond.eq (.elem (Jvm.Term.static "SkinBox" "HIGHEST_RULE" "[I") (.int 3)) (.int 9)) (by decide +kernel))
  have e4 := va_eqt (hs (Cond.eq (.elem (Jvm.Term.static "SkinBox" "HIGHEST_RULE" "[I") (.int 4)) (.int 9)) (by decide +kernel))
  have e5 := va_eqt (hs (Cond.eq (.elem (Jvm.Term.static "SkinBox" "HIGHEST_RULE" "[I") (.int 5)) (.int 9)) (by decide +kernel))
  have e6 := va_eqt (hs (Cond.eq (.elem (Jvm.Term.static "SkinBox" "HIGHEST_RULE" "[I") (.int 6)) (.int 2)) (by decide +kernel))
  obtain ⟨t, ht, hT⟩ := va_Tof (N := 7) (f := fun j => .int (hgR j)) (A := A) (by decide) harr hlen (fun j hj => by
    rcases (show j = 0 ∨ j = 1 ∨ j = 2 ∨ j = 3 ∨ j = 4 ∨ j = 5 ∨ j = 6 by omega) with rfl | rfl | rfl | rfl | rfl | rfl | rfl
    · exact e0
    · exact e1
    · exact e2
    · exact e3
    · exact e4
    · exact e5
    · exact e6) hA
  exact ⟨t, va_Zref (hts _ (by decide +kernel)) (hts _ (by decide +kernel)) ht hA, hT⟩

theorem zz_2 {args : Array Value} {s : State} {A : Nat → Prop} (hts : ∀ w ∈ lw_tbl, w.before args s = true) (hgv : (Jvm.Cond.and given_1 narrow_1).before args s = true) (hA : ∀ a : Nat, a < s.heap.size → ¬ A a) : ∃ t : Nat, va_Z "SkinBox" "MARKS" "[I" (.ref t) A s s.heap ∧ va_T .int t 3 (fun j => .int (mkR j)) A s s.heap := by
  have hs := flat_of_before _ hgv
  have harr : (Cond.arrayOf (Jvm.Term.static "SkinBox" "MARKS" "[I") .int).before args s = true := hs _ (by decide +kernel)
  have hlen := va_eqt (hs (Cond.eq (.length (Jvm.Term.static "SkinBox" "MARKS" "[I")) (.int 3)) (by decide +kernel))
  have e0 := va_eqt (hs (Cond.eq (.elem (Jvm.Term.static "SkinBox" "MARKS" "[I") (.int 0)) (.int 1)) (by decide +kernel))
  have e1 := va_eqt (hs (Cond.eq (.elem (Jvm.Term.static "SkinBox" "MARKS" "[I") (.int 1)) (.int 11)) (by decide +kernel))
  have e2 := va_eqt (hs (Cond.eq (.elem (Jvm.Term.static "SkinBox" "MARKS" "[I") (.int 2)) (.int 111)) (by decide +kernel))
  obtain ⟨t, ht, hT⟩ := va_Tof (N := 3) (f := fun j => .int (mkR j)) (A := A) (by decide) harr hlen (fun j hj => by
    rcases (show j = 0 ∨ j = 1 ∨ j = 2 by omega) with rfl | rfl | rfl
    · exact e0
    · exact e1
    · exact e2) hA
  exact ⟨t, va_Zref (hts _ (by decide +kernel)) (hts _ (by decide +kernel)) ht hA, hT⟩

def rul0 (j : Nat) : Int32 := if j < 3 then 1 else if j = 5 then 9 else 0
theorem rulC_eq : rulC = rul0 := by
  funext j
  unfold rul0
  by_cases h : j < 7
  · rcases (show j = 0 ∨ j = 1 ∨ j = 2 ∨ j = 3 ∨ j = 4 ∨ j = 5 ∨ j = 6 by omega) with rfl | rfl | rfl | rfl | rfl | rfl | rfl <;> rfl
  · rw [if_neg (by omega), if_neg (by omega)]
    show upd _ 6 _ j = 0
    rw [upd_n _ _ (by omega)]
    show upd _ 5 _ j = 0
    rw [upd_n _ _ (by omega)]
    show upd _ 4 _ j = 0
    rw [upd_n _ _ (by omega)]
    show upd _ 3 _ j = 0
    rw [upd_n _ _ (by omega)]
    show upd _ 2 _ j = 0
    rw [upd_n _ _ (by omega)]
    show upd _ 1 _ j = 0
    rw [upd_n _ _ (by omega)]
    show upd _ 0 _ j = 0
    rw [upd_n _ _ (by omega)]
abbrev rulM : Nat → Int32 := (upd (upd (upd (upd (fun _ => 0) (0 : Int32).toNatClampNeg (1 : Int32)) (1 : Int32).toNatClampNeg (1 : Int32)) (2 : Int32).toNatClampNeg (1 : Int32)) (5 : Int32).toNatClampNeg (9 : Int32))
theorem rulM_eq : rulM = rul0 := by
  funext j
  unfold rul0
  by_cases h : j < 7
  · rcases (show j = 0 ∨ j = 1 ∨ j = 2 ∨ j = 3 ∨ j = 4 ∨ j = 5 ∨ j = 6 by omega) with rfl | rfl | rfl | rfl | rfl | rfl | rfl <;> rfl
  · rw [if_neg (by omega), if_neg (by omega)]
    show upd _ 5 _ j = 0
    rw [upd_n _ _ (by omega)]
    show upd _ 2 _ j = 0
    rw [upd_n _ _ (by omega)]
    show upd _ 1 _ j = 0
    rw [upd_n _ _ (by omega)]
    show upd _ 0 _ j = 0
    rw [upd_n _ _ (by omega)]
abbrev sidM : Nat → Int32 := (upd (upd (upd (fun _ => 0) (0 : Int32).toNatClampNeg (3 : Int32)) (1 : Int32).toNatClampNeg (3 : Int32)) (2 : Int32).toNatClampNeg (1 : Int32))
theorem ru_0 : ruOK rul0 := ⟨by decide, by decide, by decide, 0, by decide, rfl⟩

theorem lx_n3a : Cond.classLink RL 7 RX3 ∈ wsL_law := by decide +kernel
theorem lx_n3b : Cond.instantiable RX3 4 ∈ wsL_law := by decide +kernel
theorem lx_n3c : Cond.initialized RX3 ∈ wsL_law := by decide +kernel
theorem lx_n4a : Cond.classLink RL 10 RX4 ∈ wsL_law := by decide +kernel
theorem lx_n4b : Cond.instantiable RX4 22 ∈ wsL_law := by decide +kernel
theorem lx_n4c : Cond.initialized RX4 ∈ wsL_law := by decide +kernel
theorem lx_i3a : Cond.initialized yX3_init.cls ∈ wsL_law := by decide +kernel
theorem lx_i3b : Cond.methodLink RL 9 yX3_init ∈ wsL_law := by decide +kernel
theorem lx_i3c : Cond.instanceMethod yX3_init ∈ wsL_law := by decide +kernel
theorem lx_i4a : Cond.initialized yX4_init.cls ∈ wsL_law := by decide +kernel
theorem lx_i4b : Cond.methodLink RL 12 yX4_init ∈ wsL_law := by decide +kernel
theorem lx_i4c : Cond.instanceMethod yX4_init ∈ wsL_law := by decide +kernel
theorem hdi_X3_init : yX3_init.cls ≠ "java/lang/invoke/MethodHandle" ∧ yX3_init.cls ≠ "java/lang/invoke/VarHandle" ∧ (parseMethodDescriptor yX3_init.desc).map (fun d => d.parameters.length) = some 0 := by decide +kernel
theorem hdi_X4_init : yX4_init.cls ≠ "java/lang/invoke/MethodHandle" ∧ yX4_init.cls ≠ "java/lang/invoke/VarHandle" ∧ (parseMethodDescriptor yX4_init.desc).map (fun d => d.parameters.length) = some 0 := by decide +kernel
theorem lx_gi3 : ∀ w ∈ u_ws RX3 TX3 4, w ∈ wsL_law := inlX3
theorem lx_gi4 : ∀ w ∈ u_ws RX4 TX4 22, w ∈ wsL_law := inlX4
set_option maxHeartbeats 4000000 in
set_option maxRecDepth 100000 in
theorem law_start {X : gX} {cA : Nat → ClassId} {tz : Nat → Nat} {b L : Nat} {xs : Nat → Int32} (C : gC X (gT cA) cL_law 4 RL wsL_law room_1) (E : gEL X) (Z : gZ X tz) (Y : gLs X b L xs) (N : gN X (.methodLinkNest RX3 9 yX1_init RX3)) (hL : L ≤ 2048) : gW X 0 0 [] 4 [(0, .ref b)] [] 0 := by
  refine g_new (ci := 3) (fs := [.null, .null, .null, .long 0]) (k2 := 1) (n2 := 4) C lx_gi3 tyX3 tyX3_ok lx_n3a lx_n3b lx_n3c rfl (fun j hj => by rcases (show j = 0 ∨ j = 1 ∨ j = 2 ∨ j = 3 by omega) with rfl | rfl | rfl | rfl <;> rfl) (Nat.le_of_ble_eq_true rfl) (Nat.le_of_ble_eq_true rfl) rfl rfl dL_law_0 (fun o3 => ?_)
  change gW X 1 4 [(o3, .inr (3, [.null, .null, .null, .long 0]))] 4 [(0, .ref b)] [.ref o3] 3
  refine g_dup C dL_law_3 rfl ?_
  refine g_callIW (wr := []) (k2 := 19) (n2 := 963) C (c_X3_init cA o3) N gL_law_X3_init rfl lx_i3a lx_i3b lx_i3c rfl hdi_X3_init ⟨rfl, rfl⟩ (by decide) ⟨Nat.le_of_ble_eq_true rfl, Nat.le_of_ble_eq_true rfl⟩ rfl rfl [0] [] [0, 2, 3, 4, 5, 6, 7, 8, 1, 9, 10, 11, 12, 13, 14, 15, 16, 17, 18] rfl rfl rfl rfl (by decide) rfl (ws2 := fun u => [(o3, .inr (3, [.ref u.1, .ref u.2.1.1, .ref u.2.2.1, .long 0])), (u.2.1.1, .inr (0, [.ref u.2.1.2.1.1, .ref u.2.1.2.1.2.1, .ref u.2.1.2.1.2.2.1, .ref u.2.1.2.1.2.2.2.1, .ref u.2.1.2.1.2.2.2.2.1, .ref u.2.1.2.1.2.2.2.2.2.1, .int u.2.1.2.1.2.2.2.2.2.2.1])), (u.2.1.2.1.1, .inl (cA 0, 3, .inl u.2.1.2.1.2.2.2.2.2.2.2.1)), (u.2.1.2.1.2.1, .inl (cA 0, 36, .inl u.2.1.2.1.2.2.2.2.2.2.2.2.1)), (u.2.1.2.1.2.2.1, .inl (cA 0, 36, .inl u.2.1.2.1.2.2.2.2.2.2.2.2.2.1)), (u.2.1.2.1.2.2.2.1, .inl (cA 0, 7, .inl rulC)), (u.2.1.2.1.2.2.2.2.1, .inl (cA 0, 108, .inl u.2.1.2.1.2.2.2.2.2.2.2.2.2.2.1)), (u.2.1.2.1.2.2.2.2.2.1, .inl (cA 0, 216, .inl u.2.1.2.1.2.2.2.2.2.2.2.2.2.2.2)), (u.1, .inr (1, [.ref u.2.1.1, .ref u.2.1.2.2.1, .ref u.2.1.2.2.2.1, .ref u.2.1.2.2.2.2.1, .ref u.2.1.2.2.2.2.2.1, .ref u.2.1.2.2.2.2.2.2.1, .ref u.2.1.2.2.2.2.2.2.2, .int 0, .int 0, .int 0, .long 0, .long 0, .long 0])), (u.2.1.2.2.1, .inl (cA 0, 36, .inl (fun _ => 0))), (u.2.1.2.2.2.1, .inl (cA 0, 36, .inl (fun _ => 0))), (u.2.1.2.2.2.2.1, .inl (cA 0, 216, .inl (fun _ => 0))), (u.2.1.2.2.2.2.2.1, .inl (cA 0, 36, .inl (fun _ => 0))), (u.2.1.2.2.2.2.2.2.1, .inl (cA 0, 36, .inl (fun _ => 0))), (u.2.1.2.2.2.2.2.2.2, .inl (cA 0, 36, .inl (fun _ => 0))), (u.2.2.1, .inr (2, [.ref u.2.2.2.1, .ref u.2.2.2.2.1, .ref u.2.2.2.2.2.1, .int u.2.2.2.2.2.2.1, .int u.2.2.2.2.2.2.2.1])), (u.2.2.2.1, .inl (cA 0, 64, .inl u.2.2.2.2.2.2.2.2.1)), (u.2.2.2.2.1, .inl (cA 2, 64, .inl u.2.2.2.2.2.2.2.2.2)), (u.2.2.2.2.2.1, .inl (cA 0, 4, .inl (fun _ => 0)))]) (fun _ => rfl) (rest := [.ref o3]) rfl (Nat.le_of_ble_eq_true rfl) dL_law_4 (fun u hp => ?_)
  obtain ⟨q2, ⟨q1, ⟨a0, a1, a2, a3, a4, a5, b0, b1, b2, b3, b4, b5⟩, f0, f1, f2, f3, f4, f5⟩, q3, ⟨g0, g1, g2, h0, h1, h2, h3⟩⟩ := u
  change gW X 19 963 [(o3, .inr (3, [.ref q2, .ref q1, .ref q3, .long 0])), (q1, .inr (0, [.ref a0, .ref a1, .ref a2, .ref a3, .ref a4, .ref a5, .int b0])), (a0, .inl (cA 0, 3, .inl b1)), (a1, .inl (cA 0, 36, .inl b2)), (a2, .inl (cA 0, 36, .inl b3)), (a3, .inl (cA 0, 7, .inl rulC)), (a4, .inl (cA 0, 108, .inl b4)), (a5, .inl (cA 0, 216, .inl b5)), (q2, .inr (1, [.ref q1, .ref f0, .ref f1, .ref f2, .ref f3, .ref f4, .ref f5, .int 0, .int 0, .int 0, .long 0, .long 0, .long 0])), (f0, .inl (cA 0, 36, .inl (fun _ => 0))), (f1, .inl (cA 0, 36, .inl (fun _ => 0))), (f2, .inl (cA 0, 216, .inl (fun _ => 0))), (f3, .inl (cA 0, 36, .inl (fun _ => 0))), (f4, .inl (cA 0, 36, .inl (fun _ => 0))), (f5, .inl (cA 0, 36, .inl (fun _ => 0))), (q3, .inr (2, [.ref g0, .ref g1, .ref g2, .int h0, .int h1])), (g0, .inl (cA 0, 64, .inl h2)), (g1, .inl (cA 2, 64, .inl h3)), (g2, .inl (cA 0, 4, .inl (fun _ => 0)))] 4 [(0, .ref b)] [.ref o3] 7
  refine g_astore_n (lv2 := [(0, .ref b), (1, .ref o3)]) C dL_law_7 rfl (by decide) [1, 0] rfl ?_
  refine g_new (ci := 4) (fs := [.int 0, .long 0, .null, .null, .null, .null, .null, .null, .null, .null, .null, .null, .null, .null, .long 0, .long 0, .long 0, .int 0, .int 0, .null, .null, .null]) (k2 := 20) (n2 := 985) C lx_gi4 tyX4 tyX4_ok lx_n4a lx_n4b lx_n4c rfl (fun j hj => by rcases (show j = 0 ∨ j = 1 ∨ j = 2 ∨ j = 3 ∨ j = 4 ∨ j = 5 ∨ j = 6 ∨ j = 7 ∨ j = 8 ∨ j = 9 ∨ j = 10 ∨ j = 11 ∨ j = 12 ∨ j = 13 ∨ j = 14 ∨ j = 15 ∨ j = 16 ∨ j = 17 ∨ j = 18 ∨ j = 19 ∨ j = 20 ∨ j = 21 by omega) with rfl | rfl | rfl | rfl | rfl | rfl | rfl | rfl | rfl | rfl | rfl | rfl | rfl | rfl | rfl | rfl | rfl | rfl | rfl | rfl | rfl | rfl <;> rfl) (Nat.le_of_ble_eq_true rfl) (Nat.le_of_ble_eq_true rfl) rfl rfl dL_law_8 (fun o4 => ?_)
  change gW X 20 985 [(o3, .inr (3, [.ref q2, .ref q1, .ref q3, .long 0])), (q1, .inr (0, [.ref a0, .ref a1, .ref a2, .ref a3, .ref a4, .ref a5, .int b0])), (a0, .inl (cA 0, 3, .inl b1)), (a1, .inl (cA 0, 36, .inl b2)), (a2, .inl (cA 0, 36, .inl b3)), (a3, .inl (cA 0, 7, .inl rulC)), (a4, .inl (cA 0, 108, .inl b4)), (a5, .inl (cA 0, 216, .inl b5)), (q2, .inr (1, [.ref q1, .ref f0, .ref f1, .ref f2, .ref f3, .ref f4, .ref f5, .int 0, .int 0, .int 0, .long 0, .long 0, .long 0])), (f0, .inl (cA 0, 36, .inl (fun _ => 0))), (f1, .inl (cA 0, 36, .inl (fun _ => 0))), (f2, .inl (cA 0, 216, .inl (fun _ => 0))), (f3, .inl (cA 0, 36, .inl (fun _ => 0))), (f4, .inl (cA 0, 36, .inl (fun _ => 0))), (f5, .inl (cA 0, 36, .inl (fun _ => 0))), (q3, .inr (2, [.ref g0, .ref g1, .ref g2, .int h0, .int h1])), (g0, .inl (cA 0, 64, .inl h2)), (g1, .inl (cA 2, 64, .inl h3)), (g2, .inl (cA 0, 4, .inl (fun _ => 0))), (o4, .inr (4, [.int 0, .long 0, .null, .null, .null, .null, .null, .null, .null, .null, .null, .null, .null, .null, .long 0, .long 0, .long 0, .int 0, .int 0, .null, .null, .null]))] 4 [(0, .ref b), (1, .ref o3)] [.ref o4] 11
  refine g_dup C dL_law_11 rfl ?_
  refine g_callI (wr := [(o3, .inr (3, [.ref q2, .ref q1, .ref q3, .long 0])), (q1, .inr (0, [.ref a0, .ref a1, .ref a2, .ref a3, .ref a4, .ref a5, .int b0])), (a0, .inl (cA 0, 3, .inl b1)), (a1, .inl (cA 0, 36, .inl b2)), (a2, .inl (cA 0, 36, .inl b3)), (a3, .inl (cA 0, 7, .inl rulC)), (a4, .inl (cA 0, 108, .inl b4)), (a5, .inl (cA 0, 216, .inl b5)), (q2, .inr (1, [.ref q1, .ref f0, .ref f1, .ref f2, .ref f3, .ref f4, .ref f5, .int 0, .int 0, .int 0, .long 0, .long 0, .long 0])), (f0, .inl (cA 0, 36, .inl (fun _ => 0))), (f1, .inl (cA 0, 36, .inl (fun _ => 0))), (f2, .inl (cA 0, 216, .inl (fun _ => 0))), (f3, .inl (cA 0, 36, .inl (fun _ => 0))), (f4, .inl (cA 0, 36, .inl (fun _ => 0))), (f5, .inl (cA 0, 36, .inl (fun _ => 0))), (q3, .inr (2, [.ref g0, .ref g1, .ref g2, .int h0, .int h1])), (g0, .inl (cA 0, 64, .inl h2)), (g1, .inl (cA 2, 64, .inl h3)), (g2, .inl (cA 0, 4, .inl (fun _ => 0)))]) (k2 := 35) (n2 := 4277) C (c_X4_init cA o4) gL_law_X4_init rfl lx_i4a lx_i4b lx_i4c rfl hdi_X4_init ⟨rfl, rfl⟩ (by decide) ⟨Nat.le_of_ble_eq_true rfl, Nat.le_of_ble_eq_true rfl⟩ rfl rfl [19] [0, 1, 2, 3, 4, 5, 6, 7, 8, 9, 10, 11, 12, 13, 14, 15, 16, 17, 18] [0, 1, 2, 3, 4, 5, 6, 7, 8, 9, 10, 11, 12, 13, 14, 15, 16, 17, 18, 19, 20, 21, 22, 23, 24, 25, 26, 27, 28, 29, 30, 31, 32, 33, 34] rfl rfl rfl rfl (by decide) rfl (ws2 := fun u => [(o3, .inr (3, [.ref q2, .ref q1, .ref q3, .long 0])), (q1, .inr (0, [.ref a0, .ref a1, .ref a2, .ref a3, .ref a4, .ref a5, .int b0])), (a0, .inl (cA 0, 3, .inl b1)), (a1, .inl (cA 0, 36, .inl b2)), (a2, .inl (cA 0, 36, .inl b3)), (a3, .inl (cA 0, 7, .inl rulC)), (a4, .inl (cA 0, 108, .inl b4)), (a5, .inl (cA 0, 216, .inl b5)), (q2, .inr (1, [.ref q1, .ref f0, .ref f1, .ref f2, .ref f3, .ref f4, .ref f5, .int 0, .int 0, .int 0, .long 0, .long 0, .long 0])), (f0, .inl (cA 0, 36, .inl (fun _ => 0))), (f1, .inl (cA 0, 36, .inl (fun _ => 0))), (f2, .inl (cA 0, 216, .inl (fun _ => 0))), (f3, .inl (cA 0, 36, .inl (fun _ => 0))), (f4, .inl (cA 0, 36, .inl (fun _ => 0))), (f5, .inl (cA 0, 36, .inl (fun _ => 0))), (q3, .inr (2, [.ref g0, .ref g1, .ref g2, .int h0, .int h1])), (g0, .inl (cA 0, 64, .inl h2)), (g1, .inl (cA 2, 64, .inl h3)), (g2, .inl (cA 0, 4, .inl (fun _ => 0))), (o4, .inr (4, [.int 0, .long 0, .ref u.1, .ref u.2.1, .ref u.2.2.1, .ref u.2.2.2.1, .ref u.2.2.2.2.1, .ref u.2.2.2.2.2.1, .ref u.2.2.2.2.2.2.1, .ref u.2.2.2.2.2.2.2.1, .ref u.2.2.2.2.2.2.2.2.1, .ref u.2.2.2.2.2.2.2.2.2.1, .ref u.2.2.2.2.2.2.2.2.2.2.1, .ref u.2.2.2.2.2.2.2.2.2.2.2.1, .long 0, .long 0, .long 0, .int (4 : Int32), .int (4 : Int32), .ref u.2.2.2.2.2.2.2.2.2.2.2.2.1, .ref u.2.2.2.2.2.2.2.2.2.2.2.2.2.1, .ref u.2.2.2.2.2.2.2.2.2.2.2.2.2.2.1])), (u.1, .inl (cA 0, 3, .inl (upd (upd (upd (fun _ => 0) (0 : Int32).toNatClampNeg (3 : Int32)) (1 : Int32).toNatClampNeg (3 : Int32)) (2 : Int32).toNatClampNeg (1 : Int32)))), (u.2.1, .inl (cA 0, 36, .inl (fun _ => 0))), (u.2.2.1, .inl (cA 0, 36, .inl (fun _ => 0))), (u.2.2.2.1, .inl (cA 0, 7, .inl (upd (upd (upd (upd (fun _ => 0) (0 : Int32).toNatClampNeg (1 : Int32)) (1 : Int32).toNatClampNeg (1 : Int32)) (2 : Int32).toNatClampNeg (1 : Int32)) (5 : Int32).toNatClampNeg (9 : Int32)))), (u.2.2.2.2.1, .inl (cA 0, 3, .inl (fun _ => 0))), (u.2.2.2.2.2.1, .inl (cA 0, 3, .inl (fun _ => 0))), (u.2.2.2.2.2.2.1, .inl (cA 1, 512, .inr (.inl (fun _ => 0)))), (u.2.2.2.2.2.2.2.1, .inl (cA 1, 512, .inr (.inl (fun _ => 0)))), (u.2.2.2.2.2.2.2.2.1, .inl (cA 1, 512, .inr (.inl (fun _ => 0)))), (u.2.2.2.2.2.2.2.2.2.1, .inl (cA 1, 512, .inr (.inl (fun _ => 0)))), (u.2.2.2.2.2.2.2.2.2.2.1, .inl (cA 1, 512, .inr (.inl (fun _ => 0)))), (u.2.2.2.2.2.2.2.2.2.2.2.1, .inl (cA 1, 512, .inr (.inl (fun _ => 0)))), (u.2.2.2.2.2.2.2.2.2.2.2.2.1, .inl (cA 0, 64, .inl u.2.2.2.2.2.2.2.2.2.2.2.2.2.2.2.1)), (u.2.2.2.2.2.2.2.2.2.2.2.2.2.1, .inl (cA 2, 64, .inl u.2.2.2.2.2.2.2.2.2.2.2.2.2.2.2.2)), (u.2.2.2.2.2.2.2.2.2.2.2.2.2.2.1, .inl (cA 0, 4, .inl (fun _ => 0)))]) (fun _ => rfl) (rest := [.ref o4]) rfl (Nat.le_of_ble_eq_true rfl) dL_law_12 (fun u hp4 => ?_)
  obtain ⟨m0, m1, m2, m3, m4, m5, m6, m7, m8, m9, m10, m11, m12, m13, m14, z0, z1⟩ := u
  change gW X 35 4277 [(o3, .inr (3, [.ref q2, .ref q1, .ref q3, .long 0])), (q1, .inr (0, [.ref a0, .ref a1, .ref a2, .ref a3, .ref a4, .ref a5, .int b0])), (a0, .inl (cA 0, 3, .inl b1)), (a1, .inl (cA 0, 36, .inl b2)), (a2, .inl (cA 0, 36, .inl b3)), (a3, .inl (cA 0, 7, .inl rulC)), (a4, .inl (cA 0, 108, .inl b4)), (a5, .inl (cA 0, 216, .inl b5)), (q2, .inr (1, [.ref q1, .ref f0, .ref f1, .ref f2, .ref f3, .ref f4, .ref f5, .int 0, .int 0, .int 0, .long 0, .long 0, .long 0])), (f0, .inl (cA 0, 36, .inl (fun _ => 0))), (f1, .inl (cA 0, 36, .inl (fun _ => 0))), (f2, .inl (cA 0, 216, .inl (fun _ => 0))), (f3, .inl (cA 0, 36, .inl (fun _ => 0))), (f4, .inl (cA 0, 36, .inl (fun _ => 0))), (f5, .inl (cA 0, 36, .inl (fun _ => 0))), (q3, .inr (2, [.ref g0, .ref g1, .ref g2, .int h0, .int h1])), (g0, .inl (cA 0, 64, .inl h2)), (g1, .inl (cA 2, 64, .inl h3)), (g2, .inl (cA 0, 4, .inl (fun _ => 0))), (o4, .inr (4, [.int 0, .long 0, .ref m0, .ref m1, .ref m2, .ref m3, .ref m4, .ref m5, .ref m6, .ref m7, .ref m8, .ref m9, .ref m10, .ref m11, .long 0, .long 0, .long 0, .int (4 : Int32), .int (4 : Int32), .ref m12, .ref m13, .ref m14])), (m0, .inl (cA 0, 3, .inl sidM)), (m1, .inl (cA 0, 36, .inl (fun _ => 0))), (m2, .inl (cA 0, 36, .inl (fun _ => 0))), (m3, .inl (cA 0, 7, .inl rulM)), (m4, .inl (cA 0, 3, .inl (fun _ => 0))), (m5, .inl (cA 0, 3, .inl (fun _ => 0))), (m6, .inl (cA 1, 512, .inr (.inl (fun _ => 0)))), (m7, .inl (cA 1, 512, .inr (.inl (fun _ => 0)))), (m8, .inl (cA 1, 512, .inr (.inl (fun _ => 0)))), (m9, .inl (cA 1, 512, .inr (.inl (fun _ => 0)))), (m10, .inl (cA 1, 512, .inr (.inl (fun _ => 0)))), (m11, .inl (cA 1, 512, .inr (.inl (fun _ => 0)))), (m12, .inl (cA 0, 64, .inl z0)), (m13, .inl (cA 2, 64, .inl z1)), (m14, .inl (cA 0, 4, .inl (fun _ => 0)))] 4 [(0, .ref b), (1, .ref o3)] [.ref o4] 15
  refine g_astore_n (lv2 := [(0, .ref b), (1, .ref o3), (2, .ref o4)]) C dL_law_15 rfl (by decide) [1, 2, 0] rfl ?_
  refine g_iconst (v := (0 : Int32)) C dL_law_16 (by decide) ?_
  refine g_istore_n (lv2 := [(0, .ref b), (1, .ref o3), (2, .ref o4), (3, .int 0)]) C dL_law_17 rfl (by decide) [1, 2, 3, 0] rfl ?_
  obtain ⟨ad, e0, e1, e2, e3, e4, e5, e6, e7, e8, e9, e10, e11, e12, e13, e14, e15, e16, e17, e18, e19, e20, e21, e22, e23, e24, e25, e26, e27, e28, e29, e30, e31, e32, e33, e34⟩ : ∃ ad : Nat → Nat, ad 0 = o3 ∧ ad 1 = q1 ∧ ad 2 = a0 ∧ ad 3 = a1 ∧ ad 4 = a2 ∧ ad 5 = a3 ∧ ad 6 = a4 ∧ ad 7 = a5 ∧ ad 8 = q2 ∧ ad 9 = f0 ∧ ad 10 = f1 ∧ ad 11 = f2 ∧ ad 12 = f3 ∧ ad 13 = f4 ∧ ad 14 = f5 ∧ ad 15 = q3 ∧ ad 16 = g0 ∧ ad 17 = g1 ∧ ad 18 = g2 ∧ ad 19 = o4 ∧ ad 20 = m0 ∧ ad 21 = m1 ∧ ad 22 = m2 ∧ ad 23 = m3 ∧ ad 24 = m4 ∧ ad 25 = m5 ∧ ad 26 = m6 ∧ ad 27 = m7 ∧ ad 28 = m8 ∧ ad 29 = m9 ∧ ad 30 = m10 ∧ ad 31 = m11 ∧ ad 32 = m12 ∧ ad 33 = m13 ∧ ad 34 = m14 := ⟨fun i => if i = 0 then o3 else if i = 1 then q1 else if i = 2 then a0 else if i = 3 then a1 else if i = 4 then a2 else if i = 5 then a3 else if i = 6 then a4 else if i = 7 then a5 else if i = 8 then q2 else if i = 9 then f0 else if i = 10 then f1 else if i = 11 then f2 else if i = 12 then f3 else if i = 13 then f4 else if i = 14 then f5 else if i = 15 then q3 else if i = 16 then g0 else if i = 17 then g1 else if i = 18 then g2 else if i = 19 then o4 else if i = 20 then m0 else if i = 21 then m1 else if i = 22 then m2 else if i = 23 then m3 else if i = 24 then m4 else if i = 25 then m5 else if i = 26 then m6 else if i = 27 then m7 else if i = 28 then m8 else if i = 29 then m9 else if i = 30 then m10 else if i = 31 then m11 else if i = 32 then m12 else if i = 33 then m13 else if i = 34 then m14 else 0, rfl, rfl, rfl, rfl, rfl, rfl, rfl, rfl, rfl, rfl, rfl, rfl, rfl, rfl, rfl, rfl, rfl, rfl, rfl, rfl, rfl, rfl, rfl, rfl, rfl, rfl, rfl, rfl, rfl, rfl, rfl, rfl, rfl, rfl, rfl⟩
  subst e0
  subst e1
  subst e2
  subst e3
  subst e4
  subst e5
  subst e6
  subst e7
  subst e8
  subst e9
  subst e10
  subst e11
  subst e12
  subst e13
  subst e14
  subst e15
  subst e16
  subst e17
  subst e18
  subst e19
  subst e20
  subst e21
  subst e22
  subst e23
  subst e24
  subst e25
  subst e26
  subst e27
  subst e28
  subst e29
  subst e30
  subst e31
  subst e32
  subst e33
  subst e34
  have I : INV 3 3 1 0 b0 b1 b2 b3 rulC b4 b5 0 0 0 0 0 h0 h1 h2 h3 0 (4 : Int32) (4 : Int32) sidM (fun _ => 0) (fun _ => 0) rulM z0 z1 := by
    obtain ⟨⟨p1, p2, p3, p4, p5⟩, r1, r2, r3, r4⟩ := hp
    obtain ⟨t1, t2⟩ := hp4
    dsimp only at p1 p2 p3 p4 p5 r1 r2 r3 r4 t1 t2
    have zf : ∀ n, fillA n 0 (fun _ => (0 : Int32)) = (fun _ => 0) := fun n => by funext j; unfold fillA; split <;> rfl
    refine ⟨by unfold dimOK; decide, p1, p2, by rw [p3, zf], by rw [p4, zf], rulC_eq.trans rulM_eq.symm, r1, r2, r3.trans t1.symm, rfl, ⟨rfl, rfl, rfl⟩, by rw [rulM_eq]; exact ru_0, fun c _ => (by decide : -20 ≤ (0 : Int32).toInt ∧ (0 : Int32).toInt ≤ 20), fun c _ => Or.inl rfl, p5, fun c => absurd rfl c, ⟨4, 4, by decide, by decide, by decide, by decide, rfl, rfl⟩, by rw [t1]; exact ht_fill _, fun y hy x hx => ?_⟩
    have hy' : y < 4 := hy
    have hx' : x < 4 := hx
    rw [r4 y hy' x hx', t2 y (by omega) x (by omega)]
  exact law_loop C E Z Y hL (L + 1) 0 (by omega) (Nat.zero_le _) I

set_option maxHeartbeats 4000000 in
set_option maxRecDepth 100000 in
/-- THE LAW, from its entry -/
theorem whole_start {p : Program} {e : Env} {s : State} {m : MethodId} {below : List Frame} {meth : Method} {c : Code} (l : Launch) {b L : Nat} {xs : Nat → Int32} (hL : L ≤ 2048) (C0 : lw_At p s m meth c b L xs) : W p l e room_1 s m #[Value.ref b] below meth c s.heap [] 0 0 (lw_Z below #[Value.ref b] s) (entryFrame m ([Value.ref b] : List Value).toArray 4) := by
  obtain ⟨hx, hb, hr, hml, hown, hts, hX, hbl, hlocks, hgv⟩ := id C0
  have hin : ∀ w ∈ wsL_law, w.before #[Value.ref b] s = true := fun w h => hts w (wsL_law_in w h)
  have hA : ∀ a : Nat, a < s.heap.size → ¬ (fun q : Nat => s.heap.size ≤ q) a := fun a h => Nat.not_le.mpr h
  obtain ⟨c0, iS0, hK0⟩ := u_known (C := RX0) (T := TX0) (N := 7) (n := 7) hin inlX0 (hin _ (by decide +kernel))
  obtain ⟨c1, iS1, hK1⟩ := u_known (C := RX1) (T := TX1) (N := 13) (n := 13) hin inlX1 (hin _ (by decide +kernel))
  obtain ⟨c2, iS2, hK2⟩ := u_known (C := RX2) (T := TX2) (N := 5) (n := 5) hin inlX2 (hin _ (by decide +kernel))
  obtain ⟨c3, iS3, hK3⟩ := u_known (C := RX3) (T := TX3) (N := 4) (n := 4) hin inlX3 (hin _ (by decide +kernel))
  obtain ⟨c4, iS4, hK4⟩ := u_known (C := RX4) (T := TX4) (N := 22) (n := 22) hin inlX4 (hin _ (by decide +kernel))
  obtain ⟨dC, dI, hKc⟩ : ∃ (dC : Nat → ClassId) (dI : Nat → Nat → Nat), ∀ (k : Nat) (q : vw_C), vwCl[k]? = some q → u_Kn s q.1 q.2.1 q.2.2 (dC k) (dI k) := by
    refine ⟨fun k => if k = 0 then c0 else if k = 1 then c1 else if k = 2 then c2 else if k = 3 then c3 else c4, fun k => if k = 0 then iS0 else if k = 1 then iS1 else if k = 2 then iS2 else if k = 3 then iS3 else iS4, ?_⟩
    intro k q hq
    match k, hq with
    | 0, hq => cases hq; exact hK0
    | 1, hq => cases hq; exact hK1
    | 2, hq => cases hq; exact hK2
    | 3, hq => cases hq; exact hK3
    | 4, hq => cases hq; exact hK4
    | k + 5, hq => simp [vwCl] at hq
  obtain ⟨ai, ki, mi, gi1, gi2, gi3⟩ := Cond.arrayClass_spec (hin (.arrayClass .int) (by decide +kernel))
  obtain ⟨al, kl, ml, gl1, gl2, gl3⟩ := Cond.arrayClass_spec (hin (.arrayClass .long) (by decide +kernel))
  obtain ⟨az, kz, mz, gz1, gz2, gz3⟩ := Cond.arrayClass_spec (hin (.arrayClass .boolean) (by decide +kernel))
  have hK : va_K (dC, dI) vwCl (gT (fun k => if k = 0 then ai else if k = 1 then al else az)) s := by
    refine ⟨hKc, fun k q hq => ?_⟩
    match k, hq with
    | 0, hq => cases hq; exact ⟨fun n z => ⟨fun k h => (by cases h), ki, gi2, mi, gi3⟩, gi1⟩
    | 1, hq => cases hq; exact ⟨fun n z => ⟨fun k h => (by cases h), kl, gl2, ml, gl3⟩, gl1⟩
    | 2, hq => cases hq; exact ⟨fun n z => ⟨fun k h => (by cases h), kz, gz2, mz, gz3⟩, gz1⟩
    | k + 3, hq => simp [gT] at hq
  obtain ⟨t0, z0a, z0b⟩ := zz_0 (A := fun q : Nat => s.heap.size ≤ q) hts hgv hA
  obtain ⟨t1, z1a, z1b⟩ := zz_1 (A := fun q : Nat => s.heap.size ≤ q) hts hgv hA
  obtain ⟨t2, z2a, z2b⟩ := zz_2 (A := fun q : Nat => s.heap.size ≤ q) hts hgv hA
  have hl := lv_entry ([.ref b]) (n := 4) (Nat.le_of_ble_eq_true rfl)
  rw [lg_entry_eq]
  exact law_start (X := (p, l, e, room_1, s, m, #[Value.ref b], below, meth, c, (fun q : Nat => s.heap.size ≤ q), (dC, dI), lw_Z below #[Value.ref b] s)) (tz := fun k => if k = 0 then t0 else if k = 1 then t1 else t2) ⟨hx, hb, hml, hown, hin, hK, fun _ h => h, rfl, hlocks⟩ ⟨hr, ⟨b, rfl⟩, rfl, rfl⟩ ⟨⟨z0a, z0b⟩, ⟨z1a, z1b⟩, ⟨z2a, z2b⟩⟩ ⟨hX, hbl, Nat.not_le.mpr hbl⟩ (va_Nw.of rfl (hts (.methodLinkNest RX3 9 yX1_init RX3) (by decide +kernel))) hL s.heap [] _ (fun k q h => by simp at h) ⟨fun i j p q h => by simp at h, fun k q h => by simp at h⟩ va_S.rf hl

