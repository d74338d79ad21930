theorem bk_36 : (Int8.ofInt (36)).toInt32 = (36 : Int32) := by decide
theorem hde_X1_see : yX1_see.cls = RX1 ∧ yX1_see.cls ≠ "java/lang/invoke/MethodHandle" ∧ yX1_see.cls ≠ "java/lang/invoke/VarHandle" ∧ (parseMethodDescriptor yX1_see.desc).map (fun d => d.parameters.length) = some 2 := by decide +kernel
theorem hde_X1_startAt : yX1_startAt.cls = RX1 ∧ yX1_startAt.cls ≠ "java/lang/invoke/MethodHandle" ∧ yX1_startAt.cls ≠ "java/lang/invoke/VarHandle" ∧ (parseMethodDescriptor yX1_startAt.desc).map (fun d => d.parameters.length) = some 1 := by decide +kernel
theorem g_dup_x1 {X : gX} {k n : Nat} {ws : va_W} {nL : Nat} {lv : List (Nat × Value)} {st : List Value} {pc : Nat} {tys : List (ClassId × FieldType)} {cc : ByteArray} {own : String} {Ts : List Cond} {rm : Room} (C : gC X tys cc nL own Ts rm) {va vb : Value} (hd : decode cc pc = .ok (.dup_x1, 1)) (hva : va.category = 1) (hvb : vb.category = 1) (kk : gW X k n ws nL lv (va :: vb :: va :: st) (pc + 1)) : gW X k n ws nL lv (va :: vb :: st) pc := by
  obtain ⟨p, l, e, R, s, m, args, below, meth, c, A, D, Q⟩ := X
  obtain ⟨hx, hb, hml, ho, ht, hK, hA, hR, hlk⟩ := C
  intro H locs ls hP hD hS hl
  exact lv_dup_x1 hx hb hd hva hvb (kk H locs ls hP hD hS hl)

abbrev w1X1_forget (ad : Nat → Nat) (cA : Nat → ClassId) (F_queued : Int32) (F_settledRise : Int32) (F_amount : Int64) (F_lowest : Int64) (F_highest : Int64) (u : (Int32)) : va_W := [((ad 8), .inr (1, [.ref (ad 1), .ref (ad 9), .ref (ad 10), .ref (ad 11), .ref (ad 12), .ref (ad 13), .ref (ad 14), .int F_queued, .int u, .int F_settledRise, .long F_amount, .long F_lowest, .long F_highest]))]
abbrev wcX1_forget (ad : Nat → Nat) (cA : Nat → ClassId) (F_queued : Int32) (F_settled : Int32) (F_settledRise : Int32) (F_amount : Int64) (F_lowest : Int64) (F_highest : Int64) : va_W := [((ad 8), .inr (1, [.ref (ad 1), .ref (ad 9), .ref (ad 10), .ref (ad 11), .ref (ad 12), .ref (ad 13), .ref (ad 14), .int F_queued, .int F_settled, .int F_settledRise, .long F_amount, .long F_lowest, .long F_highest]))]
def rmX1_forget : Room := { frames := 0, cells := 0, slots := 0, locals := 0 }
abbrev atX1_forget_0 (X : gX) (ad : Nat → Nat) (cA : Nat → ClassId) (F_queued : Int32) (F_settled : Int32) (F_settledRise : Int32) (F_amount : Int64) (F_lowest : Int64) (F_highest : Int64) : Prop := gW X 0 0 [((ad 8), .inr (1, [.ref (ad 1), .ref (ad 9), .ref (ad 10), .ref (ad 11), .ref (ad 12), .ref (ad 13), .ref (ad 14), .int F_queued, .int F_settled, .int F_settledRise, .long F_amount, .long F_lowest, .long F_highest]))] 1 [(0, .ref (ad 8))] [] 0
theorem giX1_forget_X1 : ∀ w ∈ u_ws RX1 TX1 13, w ∈ wsX1_forget := by decide +kernel
theorem gfX1_forget_41 : gF wsX1_forget RX1 41 1 8 RX1 TX1 13 := ⟨giX1_forget_X1, by decide +kernel, rfl, by decide⟩
set_option maxHeartbeats 4000000 in
set_option maxRecDepth 100000 in
theorem sgX1_forget_0 {X : gX} {ad : Nat → Nat} {cA : Nat → ClassId} {post : ((Int32)) → Prop} {F_queued : Int32} {F_settled : Int32} {F_settledRise : Int32} {F_amount : Int64} {F_lowest : Int64} {F_highest : Int64} (C : gC X (gT cA) cX1_forget 1 RX1 wsX1_forget rmX1_forget) (E : gEv X none (gT cA) 0 0 post (w1X1_forget ad cA F_queued F_settledRise F_amount F_lowest F_highest)) (h : post (0 : Int32)) : atX1_forget_0 X ad cA F_queued F_settled F_settledRise F_amount F_lowest F_highest := by
  refine g_aload_n C dX1_forget_0 rfl 0 rfl ?_
  refine g_iconst C dX1_forget_1 ik_0 ?_
  refine g_put (ws2 := [((ad 8), .inr (1, [.ref (ad 1), .ref (ad 9), .ref (ad 10), .ref (ad 11), .ref (ad 12), .ref (ad 13), .ref (ad 14), .int F_queued, .int (0 : Int32), .int F_settledRise, .long F_amount, .long F_lowest, .long F_highest]))]) C gfX1_forget_41 0 tyX1_ok nmX1 rfl rfl rfl rfl (Nat.le_of_ble_eq_true rfl) rfl dX1_forget_2 ?_
  exact g_vret C E (0 : Int32) h rfl dX1_forget_5
def fuX1_forget (F_queued : Int32) (F_settled : Int32) (F_settledRise : Int32) (F_amount : Int64) (F_lowest : Int64) (F_highest : Int64) : (Int32) := (0 : Int32)
set_option maxHeartbeats 4000000 in
set_option maxRecDepth 100000 in
theorem c_X1_forget (ad : Nat → Nat) (cA : Nat → ClassId) (F_queued : Int32) (F_settled : Int32) (F_settledRise : Int32) (F_amount : Int64) (F_lowest : Int64) (F_highest : Int64) : ∀ (l : Launch) (D : va_G), gMv (S := (Int32)) l yX1_forget wsX1_forget rmX1_forget D (gT cA) 0 0 [.ref (ad 8)] (wcX1_forget ad cA F_queued F_settled F_settledRise F_amount F_lowest F_highest) (fun u => u = fuX1_forget F_queued F_settled F_settledRise F_amount F_lowest F_highest) (w1X1_forget ad cA F_queued F_settledRise F_amount F_lowest F_highest) := by
  intro l D
  refine g_enterv (cc := cX1_forget) (nL := 1) (ret := none) (by decide) rfl (Nat.le_of_ble_eq_true rfl) rfl (fun X C E => sgX1_forget_0 C E ?_)
  exact (by unfold fuX1_forget; first | rfl | simp only [])

abbrev w1X1_see (ad : Nat → Nat) (cA : Nat → ClassId) (F_settled : Int32) (F_settledRise : Int32) (F_amount : Int64) (F_lowest : Int64) (F_highest : Int64) (u : (Nat → Int32) × (Nat → Int32) × (Int32)) : va_W := [((ad 8), .inr (1, [.ref (ad 1), .ref (ad 9), .ref (ad 10), .ref (ad 11), .ref (ad 12), .ref (ad 13), .ref (ad 14), .int u.2.2, .int F_settled, .int F_settledRise, .long F_amount, .long F_lowest, .long F_highest])), ((ad 13), .inl (cA 0, 36, .inl u.1)), ((ad 14), .inl (cA 0, 36, .inl u.2.1))]
abbrev wcX1_see (ad : Nat → Nat) (cA : Nat → ClassId) (F_queued : Int32) (F_settled : Int32) (F_settledRise : Int32) (F_amount : Int64) (F_lowest : Int64) (F_highest : Int64) (F_cameBy : Nat → Int32) (F_queue : Nat → Int32) : va_W := [((ad 8), .inr (1, [.ref (ad 1), .ref (ad 9), .ref (ad 10), .ref (ad 11), .ref (ad 12), .ref (ad 13), .ref (ad 14), .int F_queued, .int F_settled, .int F_settledRise, .long F_amount, .long F_lowest, .long F_highest])), ((ad 13), .inl (cA 0, 36, .inl F_cameBy)), ((ad 14), .inl (cA 0, 36, .inl F_queue))]
def rmX1_see : Room := { frames := 0, cells := 0, slots := 0, locals := 0 }
abbrev atX1_see_0 (X : gX) (ad : Nat → Nat) (cA : Nat → ClassId) (p1 : Int32) (p2 : Int32) (F_queued : Int32) (F_settled : Int32) (F_settledRise : Int32) (F_amount : Int64) (F_lowest : Int64) (F_highest : Int64) (F_cameBy : Nat → Int32) (F_queue : Nat → Int32) : Prop := gW X 0 0 [((ad 8), .inr (1, [.ref (ad 1), .ref (ad 9), .ref (ad 10), .ref (ad 11), .ref (ad 12), .ref (ad 13), .ref (ad 14), .int F_queued, .int F_settled, .int F_settledRise, .long F_amount, .long F_lowest, .long F_highest])), ((ad 13), .inl (cA 0, 36, .inl F_cameBy)), ((ad 14), .inl (cA 0, 36, .inl F_queue))] 3 [(0, .ref (ad 8)), (1, .int p1), (2, .int p2)] [] 0
theorem giX1_see_X1 : ∀ w ∈ u_ws RX1 TX1 13, w ∈ wsX1_see := by decide +kernel
theorem gfX1_see_31 : gF wsX1_see RX1 31 1 5 RX1 TX1 13 := ⟨giX1_see_X1, by decide +kernel, rfl, by decide⟩
theorem gfX1_see_37 : gF wsX1_see RX1 37 1 7 RX1 TX1 13 := ⟨giX1_see_X1, by decide +kernel, rfl, by decide⟩
theorem gfX1_see_34 : gF wsX1_see RX1 34 1 6 RX1 TX1 13 := ⟨giX1_see_X1, by decide +kernel, rfl, by decide⟩
set_option maxHeartbeats 4000000 in
set_option maxRecDepth 100000 in
theorem sgX1_see_0 {X : gX} {ad : Nat → Nat} {cA : Nat → ClassId} {post : ((Nat → Int32) × (Nat → Int32) × (Int32)) → Prop} {p1 : Int32} {p2 : Int32} {F_queued : Int32} {F_settled : Int32} {F_settledRise : Int32} {F_amount : Int64} {F_lowest : Int64} {F_highest : Int64} {F_cameBy : Nat → Int32} {F_queue : Nat → Int32} (C : gC X (gT cA) cX1_see 3 RX1 wsX1_see rmX1_see) (E : gEv X none (gT cA) 0 0 post (w1X1_see ad cA F_settled F_settledRise F_amount F_lowest F_highest)) (h : vp_in p1 36 ∧ ((36 : Int32) ≤ F_queued → post ((upd F_cameBy p1.toNatClampNeg p2), F_queue, F_queued)) ∧ (¬ (36 : Int32) ≤ F_queued → vp_in F_queued 36 ∧ post ((upd F_cameBy p1.toNatClampNeg p2), (upd F_queue F_queued.toNatClampNeg p1), (F_queued + (1 : Int32))))) : atX1_see_0 X ad cA p1 p2 F_queued F_settled F_settledRise F_amount F_lowest F_highest F_cameBy F_queue := by
  refine g_aload_n C dX1_see_0 rfl 0 rfl ?_
  refine g_get C gfX1_see_31 0 rfl rfl dX1_see_1 ?_
  refine g_iload_n C dX1_see_4 rfl 1 rfl ?_
  refine g_iload_n C dX1_see_5 rfl 2 rfl ?_
  obtain ⟨hi_1, h⟩ := h
  refine g_iast (ws2 := [((ad 8), .inr (1, [.ref (ad 1), .ref (ad 9), .ref (ad 10), .ref (ad 11), .ref (ad 12), .ref (ad 13), .ref (ad 14), .int F_queued, .int F_settled, .int F_settledRise, .long F_amount, .long F_lowest, .long F_highest])), ((ad 13), .inl (cA 0, 36, .inl (upd F_cameBy p1.toNatClampNeg p2))), ((ad 14), .inl (cA 0, 36, .inl F_queue))]) C 1 0 rfl rfl hi_1 rfl dX1_see_6 ?_
  refine g_aload_n C dX1_see_7 rfl 0 rfl ?_
  refine g_get C gfX1_see_37 0 rfl rfl dX1_see_8 ?_
  refine g_bipush C dX1_see_11 bk_36 ?_
  refine g_icmp_ge (tgt := 33) C dX1_see_13 (by decide) (fun c_2 => ?_) (fun c_2 => ?_)
  · replace h := h.1 c_2
    exact g_vret C E ((upd F_cameBy p1.toNatClampNeg p2), F_queue, F_queued) h rfl dX1_see_33
  · replace h := h.2 c_2
    refine g_aload_n C dX1_see_16 rfl 0 rfl ?_
    refine g_get C gfX1_see_34 0 rfl rfl dX1_see_17 ?_
    refine g_aload_n C dX1_see_20 rfl 0 rfl ?_
    refine g_dup C dX1_see_21 rfl ?_
    refine g_get C gfX1_see_37 0 rfl rfl dX1_see_22 ?_
    refine g_dup_x1 C dX1_see_25 rfl rfl ?_
    refine g_iconst C dX1_see_26 ik_1 ?_
    refine g_iadd C dX1_see_27 ?_
    refine g_put (ws2 := [((ad 8), .inr (1, [.ref (ad 1), .ref (ad 9), .ref (ad 10), .ref (ad 11), .ref (ad 12), .ref (ad 13), .ref (ad 14), .int (F_queued + (1 : Int32)), .int F_settled, .int F_settledRise, .long F_amount, .long F_lowest, .long F_highest])), ((ad 13), .inl (cA 0, 36, .inl (upd F_cameBy p1.toNatClampNeg p2))), ((ad 14), .inl (cA 0, 36, .inl F_queue))]) C gfX1_see_37 0 tyX1_ok nmX1 rfl rfl rfl rfl (Nat.le_of_ble_eq_true rfl) rfl dX1_see_28 ?_
    refine g_iload_n C dX1_see_31 rfl 1 rfl ?_
    obtain ⟨hi_3, h⟩ := h
    refine g_iast (ws2 := [((ad 8), .inr (1, [.ref (ad 1), .ref (ad 9), .ref (ad 10), .ref (ad 11), .ref (ad 12), .ref (ad 13), .ref (ad 14), .int (F_queued + (1 : Int32)), .int F_settled, .int F_settledRise, .long F_amount, .long F_lowest, .long F_highest])), ((ad 13), .inl (cA 0, 36, .inl (upd F_cameBy p1.toNatClampNeg p2))), ((ad 14), .inl (cA 0, 36, .inl (upd F_queue F_queued.toNatClampNeg p1)))]) C 2 0 rfl rfl hi_3 rfl dX1_see_32 ?_
    exact g_vret C E ((upd F_cameBy p1.toNatClampNeg p2), (upd F_queue F_queued.toNatClampNeg p1), (F_queued + (1 : Int32))) h rfl dX1_see_33
def prX1_see (p1 : Int32) (p2 : Int32) (F_queued : Int32) (F_settled : Int32) (F_settledRise : Int32) (F_amount : Int64) (F_lowest : Int64) (F_highest : Int64) (F_cameBy : Nat → Int32) (F_queue : Nat → Int32) : Prop := ∃ c t, c < 36 ∧ t < 36 ∧ p1 = nI c ∧ F_queued = nI t
def po_X1_see (ad : Nat → Nat) (cA : Nat → ClassId) (p1 : Int32) (p2 : Int32) (F_queued : Int32) (F_settled : Int32) (F_settledRise : Int32) (F_amount : Int64) (F_lowest : Int64) (F_highest : Int64) (F_cameBy : Nat → Int32) (F_queue : Nat → Int32) (u : (Nat → Int32) × (Nat → Int32) × (Int32)) : Prop := ∀ c t, c < 36 → t < 36 → p1 = nI c → F_queued = nI t → u = (upd F_cameBy c p2, upd F_queue t p1, nI (t + 1))
set_option maxHeartbeats 4000000 in
set_option maxRecDepth 100000 in
theorem c_X1_see (ad : Nat → Nat) (cA : Nat → ClassId) (p1 : Int32) (p2 : Int32) (F_queued : Int32) (F_settled : Int32) (F_settledRise : Int32) (F_amount : Int64) (F_lowest : Int64) (F_highest : Int64) (F_cameBy : Nat → Int32) (F_queue : Nat → Int32) (hq : prX1_see p1 p2 F_queued F_settled F_settledRise F_amount F_lowest F_highest F_cameBy F_queue) : ∀ (l : Launch) (D : va_G), gMv (S := (Nat → Int32) × (Nat → Int32) × (Int32)) l yX1_see wsX1_see rmX1_see D (gT cA) 0 0 [.ref (ad 8), .int p1, .int p2] (wcX1_see ad cA F_queued F_settled F_settledRise F_amount F_lowest F_highest F_cameBy F_queue) (po_X1_see ad cA p1 p2 F_queued F_settled F_settledRise F_amount F_lowest F_highest F_cameBy F_queue) (w1X1_see ad cA F_settled F_settledRise F_amount F_lowest F_highest) := by
  intro l D
  unfold prX1_see at hq
  refine g_enterv (cc := cX1_see) (nL := 3) (ret := none) (by decide) rfl (Nat.le_of_ble_eq_true rfl) rfl (fun X C E => ?_)
  obtain ⟨c, t, hc, ht, rfl, rfl⟩ := hq
  refine sgX1_see_0 C E ⟨vp_in_nI (by omega) (by decide), fun q => absurd q (nI_ge (b := 36) ht (by decide)), fun _ => ⟨vp_in_nI (by omega) (by decide), ?_⟩⟩
  intro c' t' hc' ht' e1 e2
  rw [nI_eq (by omega) (by omega)] at e1 e2
  subst e1; subst e2
  rw [nI_clamp (by omega), nI_clamp (by omega), nI_1 t]


theorem i32_nle0 {x : Int32} : ¬ x ≤ 0 ↔ 0 < x.toInt := by
  rw [Int32.le_iff_toInt_le, show (0 : Int32).toInt = 0 from rfl]; omega
theorem i32_le0 {x : Int32} : x ≤ 0 ↔ ¬ 0 < x.toInt := by
  rw [Int32.le_iff_toInt_le, show (0 : Int32).toInt = 0 from rfl]; omega
theorem nI6 {c s : Nat} : nI c * (6 : Int32) + nI s = nI (6 * c + s) := by show nI c * nI 6 + _ = _; rw [pk_mul, nI_add, Nat.mul_comm]

abbrev w1X1_startAt (ad : Nat → Nat) (cA : Nat → ClassId) (ao no : Nat) (C_size : Int32) (F_settled : Int32) (F_settledRise : Int32) (F_amount : Int64) (F_lowest : Int64) (F_highest : Int64) (O_open : Nat → Int32) (u : (Nat → Int32) × (Nat → Int32) × (Int32)) : va_W := [((ad 1), .inr (0, [.ref (ad 2), .ref (ad 3), .ref (ad 4), .ref (ad 5), .ref (ad 6), .ref (ad 7), .int C_size])), ((ad 8), .inr (1, [.ref (ad 1), .ref (ad 9), .ref (ad 10), .ref (ad 11), .ref (ad 12), .ref (ad 13), .ref (ad 14), .int u.2.2, .int F_settled, .int F_settledRise, .long F_amount, .long F_lowest, .long F_highest])), ((ad 13), .inl (cA 0, 36, .inl u.1)), ((ad 14), .inl (cA 0, 36, .inl u.2.1)), (ao, .inl (cA 0, no, .inl O_open))]
abbrev wcX1_startAt (ad : Nat → Nat) (cA : Nat → ClassId) (ao no : Nat) (C_size : Int32) (F_queued : Int32) (F_settled : Int32) (F_settledRise : Int32) (F_amount : Int64) (F_lowest : Int64) (F_highest : Int64) (F_cameBy : Nat → Int32) (F_queue : Nat → Int32) (O_open : Nat → Int32) : va_W := [((ad 1), .inr (0, [.ref (ad 2), .ref (ad 3), .ref (ad 4), .ref (ad 5), .ref (ad 6), .ref (ad 7), .int C_size])), ((ad 8), .inr (1, [.ref (ad 1), .ref (ad 9), .ref (ad 10), .ref (ad 11), .ref (ad 12), .ref (ad 13), .ref (ad 14), .int F_queued, .int F_settled, .int F_settledRise, .long F_amount, .long F_lowest, .long F_highest])), ((ad 13), .inl (cA 0, 36, .inl F_cameBy)), ((ad 14), .inl (cA 0, 36, .inl F_queue)), (ao, .inl (cA 0, no, .inl O_open))]
def rmX1_startAt : Room := { frames := 1, cells := 0, slots := 0, locals := 22 }
abbrev atX1_startAt_0 (X : gX) (ad : Nat → Nat) (cA : Nat → ClassId) (ao no : Nat) (C_size : Int32) (F_queued : Int32) (F_settled : Int32) (F_settledRise : Int32) (F_amount : Int64) (F_lowest : Int64) (F_highest : Int64) (F_cameBy : Nat → Int32) (F_queue : Nat → Int32) (O_open : Nat → Int32) : Prop := gW X 0 0 [((ad 1), .inr (0, [.ref (ad 2), .ref (ad 3), .ref (ad 4), .ref (ad 5), .ref (ad 6), .ref (ad 7), .int C_size])), ((ad 8), .inr (1, [.ref (ad 1), .ref (ad 9), .ref (ad 10), .ref (ad 11), .ref (ad 12), .ref (ad 13), .ref (ad 14), .int F_queued, .int F_settled, .int F_settledRise, .long F_amount, .long F_lowest, .long F_highest])), ((ad 13), .inl (cA 0, 36, .inl F_cameBy)), ((ad 14), .inl (cA 0, 36, .inl F_queue)), (ao, .inl (cA 0, no, .inl O_open))] 3 [(0, .ref (ad 8)), (1, .ref ao)] [] 0
abbrev atX1_startAt_7 (X : gX) (ad : Nat → Nat) (cA : Nat → ClassId) (ao no : Nat) (x2 : Int32) (C_size : Int32) (F_queued : Int32) (F_settled : Int32) (F_settledRise : Int32) (F_amount : Int64) (F_lowest : Int64) (F_highest : Int64) (F_cameBy : Nat → Int32) (F_queue : Nat → Int32) (O_open : Nat → Int32) : Prop := gW X 0 0 [((ad 1), .inr (0, [.ref (ad 2), .ref (ad 3), .ref (ad 4), .ref (ad 5), .ref (ad 6), .ref (ad 7), .int C_size])), ((ad 8), .inr (1, [.ref (ad 1), .ref (ad 9), .ref (ad 10), .ref (ad 11), .ref (ad 12), .ref (ad 13), .ref (ad 14), .int F_queued, .int F_settled, .int F_settledRise, .long F_amount, .long F_lowest, .long F_highest])), ((ad 13), .inl (cA 0, 36, .inl F_cameBy)), ((ad 14), .inl (cA 0, 36, .inl F_queue)), (ao, .inl (cA 0, no, .inl O_open))] 3 [(0, .ref (ad 8)), (1, .ref ao), (2, .int x2)] [] 7
theorem giX1_startAt_X1 : ∀ w ∈ u_ws RX1 TX1 13, w ∈ wsX1_startAt := by decide +kernel
theorem gfX1_startAt_37 : gF wsX1_startAt RX1 37 1 7 RX1 TX1 13 := ⟨giX1_startAt_X1, by decide +kernel, rfl, by decide⟩
theorem gfX1_startAt_12 : gF wsX1_startAt RX1 12 1 0 RX1 TX1 13 := ⟨giX1_startAt_X1, by decide +kernel, rfl, by decide⟩
theorem giX1_startAt_X0 : ∀ w ∈ u_ws RX0 TX0 7, w ∈ wsX1_startAt := by decide +kernel
theorem gfX1_startAt_82 : gF wsX1_startAt RX1 82 0 6 RX0 TX0 7 := ⟨giX1_startAt_X0, by decide +kernel, rfl, by decide⟩
theorem gfX1_startAt_31 : gF wsX1_startAt RX1 31 1 5 RX1 TX1 13 := ⟨giX1_startAt_X1, by decide +kernel, rfl, by decide⟩
set_option maxHeartbeats 4000000 in
set_option maxRecDepth 100000 in
theorem sgX1_startAt_0 {X : gX} {ad : Nat → Nat} {cA : Nat → ClassId} {ao no : Nat} {post : ((Nat → Int32) × (Nat → Int32) × (Int32)) → Prop} {C_size : Int32} {F_queued : Int32} {F_settled : Int32} {F_settledRise : Int32} {F_amount : Int64} {F_lowest : Int64} {F_highest : Int64} {F_cameBy : Nat → Int32} {F_queue : Nat → Int32} {O_open : Nat → Int32} (C : gC X (gT cA) cX1_startAt 3 RX1 wsX1_startAt rmX1_startAt) (E : gEv X none (gT cA) 0 0 post (w1X1_startAt ad cA ao no C_size F_settled F_settledRise F_amount F_lowest F_highest O_open)) (h : atX1_startAt_7 X ad cA ao no (0 : Int32) C_size (0 : Int32) F_settled F_settledRise F_amount F_lowest F_highest F_cameBy F_queue O_open) : atX1_startAt_0 X ad cA ao no C_size F_queued F_settled F_settledRise F_amount F_lowest F_highest F_cameBy F_queue O_open := by
  refine g_aload_n C dX1_startAt_0 rfl 0 rfl ?_
  refine g_iconst C dX1_startAt_1 ik_0 ?_
  refine g_put (ws2 := [((ad 1), .inr (0, [.ref (ad 2), .ref (ad 3), .ref (ad 4), .ref (ad 5), .ref (ad 6), .ref (ad 7), .int C_size])), ((ad 8), .inr (1, [.ref (ad 1), .ref (ad 9), .ref (ad 10), .ref (ad 11), .ref (ad 12), .ref (ad 13), .ref (ad 14), .int (0 : Int32), .int F_settled, .int F_settledRise, .long F_amount, .long F_lowest, .long F_highest])), ((ad 13), .inl (cA 0, 36, .inl F_cameBy)), ((ad 14), .inl (cA 0, 36, .inl F_queue)), (ao, .inl (cA 0, no, .inl O_open))]) C gfX1_startAt_37 1 tyX1_ok nmX1 rfl rfl rfl rfl (Nat.le_of_ble_eq_true rfl) rfl dX1_startAt_2 ?_
  refine g_iconst C dX1_startAt_5 ik_0 ?_
  refine g_istore_n (lv2 := [(0, .ref (ad 8)), (1, .ref ao), (2, .int (0 : Int32))]) C dX1_startAt_6 rfl (by decide) [1, 2, 0] rfl ?_
  exact g_lv [0, 1, 2] rfl h
set_option maxHeartbeats 4000000 in
set_option maxRecDepth 100000 in
theorem sgX1_startAt_7 {X : gX} {ad : Nat → Nat} {cA : Nat → ClassId} {ao no : Nat} {post : ((Nat → Int32) × (Nat → Int32) × (Int32)) → Prop} {x2 : Int32} {C_size : Int32} {F_queued : Int32} {F_settled : Int32} {F_settledRise : Int32} {F_amount : Int64} {F_lowest : Int64} {F_highest : Int64} {F_cameBy : Nat → Int32} {F_queue : Nat → Int32} {O_open : Nat → Int32} (C : gC X (gT cA) cX1_startAt 3 RX1 wsX1_startAt rmX1_startAt) (E : gEv X none (gT cA) 0 0 post (w1X1_startAt ad cA ao no C_size F_settled F_settledRise F_amount F_lowest F_highest O_open)) (h : (C_size ≤ x2 → post (F_cameBy, F_queue, F_queued)) ∧ (¬ C_size ≤ x2 → vp_in x2 36 ∧ vp_in x2 no ∧ ((O_open x2.toNatClampNeg) ≤ 0 → atX1_startAt_7 X ad cA ao no (x2 + 1) C_size F_queued F_settled F_settledRise F_amount F_lowest F_highest (upd F_cameBy x2.toNatClampNeg (-1 : Int32)) F_queue O_open) ∧ (¬ (O_open x2.toNatClampNeg) ≤ 0 → prX1_see x2 (6 : Int32) F_queued F_settled F_settledRise F_amount F_lowest F_highest (upd F_cameBy x2.toNatClampNeg (-1 : Int32)) F_queue ∧ ∀ (u6_F_cameBy : Nat → Int32) (u6_F_queue : Nat → Int32) (u6_F_queued : Int32), po_X1_see ad cA x2 (6 : Int32) F_queued F_settled F_settledRise F_amount F_lowest F_highest (upd F_cameBy x2.toNatClampNeg (-1 : Int32)) F_queue (u6_F_cameBy, u6_F_queue, u6_F_queued) → atX1_startAt_7 X ad cA ao no (x2 + 1) C_size u6_F_queued F_settled F_settledRise F_amount F_lowest F_highest u6_F_cameBy u6_F_queue O_open))) : atX1_startAt_7 X ad cA ao no x2 C_size F_queued F_settled F_settledRise F_amount F_lowest F_highest F_cameBy F_queue O_open := by
  refine g_iload_n C dX1_startAt_7 rfl 2 rfl ?_
  refine g_aload_n C dX1_startAt_8 rfl 0 rfl ?_
  refine g_get C gfX1_startAt_12 1 rfl rfl dX1_startAt_9 ?_
  refine g_get C gfX1_startAt_82 0 rfl rfl dX1_startAt_12 ?_
  refine g_icmp_ge (tgt := 44) C dX1_startAt_15 (by decide) (fun c_1 => ?_) (fun c_1 => ?_)
  · replace h := h.1 c_1
    exact g_vret C E (F_cameBy, F_queue, F_queued) h rfl dX1_startAt_44
  · replace h := h.2 c_1
    refine g_aload_n C dX1_startAt_18 rfl 0 rfl ?_
    refine g_get C gfX1_startAt_31 1 rfl rfl dX1_startAt_19 ?_
    refine g_iload_n C dX1_startAt_22 rfl 2 rfl ?_
    refine g_iconst C dX1_startAt_23 ik_m1 ?_
    obtain ⟨hi_2, h⟩ := h
    refine g_iast (ws2 := [((ad 1), .inr (0, [.ref (ad 2), .ref (ad 3), .ref (ad 4), .ref (ad 5), .ref (ad 6), .ref (ad 7), .int C_size])), ((ad 8), .inr (1, [.ref (ad 1), .ref (ad 9), .ref (ad 10), .ref (ad 11), .ref (ad 12), .ref (ad 13), .ref (ad 14), .int F_queued, .int F_settled, .int F_settledRise, .long F_amount, .long F_lowest, .long F_highest])), ((ad 13), .inl (cA 0, 36, .inl (upd F_cameBy x2.toNatClampNeg (-1 : Int32)))), ((ad 14), .inl (cA 0, 36, .inl F_queue)), (ao, .inl (cA 0, no, .inl O_open))]) C 2 0 rfl rfl hi_2 rfl dX1_startAt_24 ?_
    refine g_aload_n C dX1_startAt_25 rfl 1 rfl ?_
    refine g_iload_n C dX1_startAt_26 rfl 2 rfl ?_
    obtain ⟨hi_3, h⟩ := h
    refine g_iald C 4 0 rfl rfl hi_3 dX1_startAt_27 ?_
    refine g_if_le (tgt := 38) C dX1_startAt_28 (by decide) (fun c_4 => ?_) (fun c_4 => ?_)
    · replace h := h.1 c_4
      refine g_iinc (v := (x2 + 1)) (lv2 := [(0, .ref (ad 8)), (1, .ref ao), (2, .int (x2 + 1))]) C dX1_startAt_38 2 rfl (by first | rfl | decide) (by decide) [1, 2, 0] rfl ?_
      refine g_goto (tgt := 7) C dX1_startAt_41 (by decide) ?_
      exact g_lv [0, 1, 2] rfl h
    · replace h := h.2 c_4
      refine g_aload_n C dX1_startAt_31 rfl 0 rfl ?_
      refine g_iload_n C dX1_startAt_32 rfl 2 rfl ?_
      refine g_bipush C dX1_startAt_33 bk_6 ?_
      obtain ⟨hi_5, h⟩ := h
      refine g_callVv (wr := [((ad 1), .inr (0, [.ref (ad 2), .ref (ad 3), .ref (ad 4), .ref (ad 5), .ref (ad 6), .ref (ad 7), .int C_size])), (ao, .inl (cA 0, no, .inl O_open))]) C (c_X1_see ad cA x2 (6 : Int32) F_queued F_settled F_settledRise F_amount F_lowest F_highest (upd F_cameBy x2.toNatClampNeg (-1 : Int32)) F_queue hi_5) gX1_startAt_X1_see rfl hde_X1_see ⟨rfl, rfl⟩ (by decide) (by decide) [1, 2, 3] [0, 4] [0, 2, 3, 4, 1] rfl rfl rfl rfl (by decide) rfl (ws2 := fun u => [((ad 1), .inr (0, [.ref (ad 2), .ref (ad 3), .ref (ad 4), .ref (ad 5), .ref (ad 6), .ref (ad 7), .int C_size])), ((ad 8), .inr (1, [.ref (ad 1), .ref (ad 9), .ref (ad 10), .ref (ad 11), .ref (ad 12), .ref (ad 13), .ref (ad 14), .int u.2.2, .int F_settled, .int F_settledRise, .long F_amount, .long F_lowest, .long F_highest])), ((ad 13), .inl (cA 0, 36, .inl u.1)), ((ad 14), .inl (cA 0, 36, .inl u.2.1)), (ao, .inl (cA 0, no, .inl O_open))]) (fun _ => rfl) 1 0 rfl rfl rfl (rest := []) rfl (Nat.le_of_ble_eq_true rfl) dX1_startAt_35 (fun u_6 hp_6 => ?_)
      obtain ⟨u6_F_cameBy, u6_F_queue, u6_F_queued⟩ := u_6
      replace h := h u6_F_cameBy u6_F_queue u6_F_queued hp_6
      change gW X 0 0 [((ad 1), .inr (0, [.ref (ad 2), .ref (ad 3), .ref (ad 4), .ref (ad 5), .ref (ad 6), .ref (ad 7), .int C_size])), ((ad 8), .inr (1, [.ref (ad 1), .ref (ad 9), .ref (ad 10), .ref (ad 11), .ref (ad 12), .ref (ad 13), .ref (ad 14), .int u6_F_queued, .int F_settled, .int F_settledRise, .long F_amount, .long F_lowest, .long F_highest])), ((ad 13), .inl (cA 0, 36, .inl u6_F_cameBy)), ((ad 14), .inl (cA 0, 36, .inl u6_F_queue)), (ao, .inl (cA 0, no, .inl O_open))] 3 [(0, .ref (ad 8)), (1, .ref ao), (2, .int x2)] [] 38
      refine g_iinc (v := (x2 + 1)) (lv2 := [(0, .ref (ad 8)), (1, .ref ao), (2, .int (x2 + 1))]) C dX1_startAt_38 2 rfl (by first | rfl | decide) (by decide) [1, 2, 0] rfl ?_
      refine g_goto (tgt := 7) C dX1_startAt_41 (by decide) ?_
      exact g_lv [0, 1, 2] rfl h
def prX1_startAt (ao no : Nat) (C_size : Int32) (F_queued : Int32) (F_settled : Int32) (F_settledRise : Int32) (F_amount : Int64) (F_lowest : Int64) (F_highest : Int64) (F_cameBy : Nat → Int32) (F_queue : Nat → Int32) (O_open : Nat → Int32) : Prop := ∃ n, n ≤ 36 ∧ C_size = nI n ∧ no = 36
def po_X1_startAt (ad : Nat → Nat) (cA : Nat → ClassId) (ao no : Nat) (C_size : Int32) (F_queued : Int32) (F_settled : Int32) (F_settledRise : Int32) (F_amount : Int64) (F_lowest : Int64) (F_highest : Int64) (F_cameBy : Nat → Int32) (F_queue : Nat → Int32) (O_open : Nat → Int32) (u : (Nat → Int32) × (Nat → Int32) × (Int32)) : Prop := ∀ n, n ≤ 36 → C_size = nI n → ∃ tl, tl ≤ n ∧ u.2.2 = nI tl ∧ stO n (fun c => 0 < (O_open c).toInt) tl u.1 u.2.1
set_option maxHeartbeats 4000000 in
set_option maxRecDepth 100000 in
theorem c_X1_startAt (ad : Nat → Nat) (cA : Nat → ClassId) (ao no : Nat) (C_size : Int32) (F_queued : Int32) (F_settled : Int32) (F_settledRise : Int32) (F_amount : Int64) (F_lowest : Int64) (F_highest : Int64) (F_cameBy : Nat → Int32) (F_queue : Nat → Int32) (O_open : Nat → Int32) (hq : prX1_startAt ao no C_size F_queued F_settled F_settledRise F_amount F_lowest F_highest F_cameBy F_queue O_open) : ∀ (l : Launch) (D : va_G), gMv (S := (Nat → Int32) × (Nat → Int32) × (Int32)) l yX1_startAt wsX1_startAt rmX1_startAt D (gT cA) 0 0 [.ref (ad 8), .ref ao] (wcX1_startAt ad cA ao no C_size F_queued F_settled F_settledRise F_amount F_lowest F_highest F_cameBy F_queue O_open) (po_X1_startAt ad cA ao no C_size F_queued F_settled F_settledRise F_amount F_lowest F_highest F_cameBy F_queue O_open) (w1X1_startAt ad cA ao no C_size F_settled F_settledRise F_amount F_lowest F_highest O_open) := by
  intro l D
  unfold prX1_startAt at hq
  refine g_enterv (cc := cX1_startAt) (nL := 3) (ret := none) (by decide) rfl (Nat.le_of_ble_eq_true rfl) rfl (fun X C E => ?_)
  obtain ⟨n, hn, rfl, rfl⟩ := hq
  refine sgX1_startAt_0 C E ?_
  have fin : ∀ cb q, stO n (fun c => 0 < (O_open c).toInt) (cntA n (vis cb)) cb q → po_X1_startAt ad cA ao 36 (nI n) F_queued F_settled F_settledRise F_amount F_lowest F_highest F_cameBy F_queue O_open (cb, q, nI (cntA n (vis cb))) := by
    intro cb q h n' hn' e
    rw [nI_eq (by omega) (by omega)] at e
    subst e
    exact ⟨_, cntA_le _ _, rfl, h⟩
  have loop : ∀ k, k ≤ n → ∀ cb q, stO k (fun c => 0 < (O_open c).toInt) (cntA k (vis cb)) cb q → atX1_startAt_7 X ad cA ao 36 (nI k) (nI n) (nI (cntA k (vis cb))) F_settled F_settledRise F_amount F_lowest F_highest cb q O_open := by
    intro k hk
    refine up_loop (P := fun k => ∀ cb q, stO k (fun c => 0 < (O_open c).toInt) (cntA k (vis cb)) cb q → atX1_startAt_7 X ad cA ao 36 (nI k) (nI n) (nI (cntA k (vis cb))) F_settled F_settledRise F_amount F_lowest F_highest cb q O_open) n ?_ (fun k hk ih cb q h => ?_) k hk
    · exact fun cb q h => sgX1_startAt_7 C E ⟨fun _ => fin cb q h, fun c => absurd (i32_le_refl _) c⟩
    · have cl := cntA_le k (vis cb)
      obtain ⟨a1, a2, a3, a4⟩ := h
      refine sgX1_startAt_7 C E ⟨fun c => absurd c (nI_ge hk (by omega)), fun _ => ⟨vp_in_nI (by omega) (by decide), vp_in_nI (by omega) (by decide), fun c => ?_, fun c => ⟨⟨k, cntA k (vis cb), by omega, by omega, rfl, rfl⟩, fun cb2 q2 t2 hse => ?_⟩⟩⟩ <;> rw [nI_clamp (n := k) (by omega)] at c
      · rw [nI_clamp (n := k) (by omega), nI_1 k]
        have hs : ¬ 0 < (O_open k).toInt := i32_le0.mp c
        have e : cntA (k + 1) (vis (upd cb k (-1))) = cntA k (vis cb) := by
          simp only [cntA]
          rw [cntA_congr (fun c hc => show vis (upd cb k (-1)) c = vis cb c by unfold vis; rw [upd_n _ _ (by omega)]), vis_f.mpr (upd_s cb k (-1)), if_neg (by decide)]; rfl
        have h2 := ih (upd cb k (-1)) q
        rw [e] at h2
        refine h2 ⟨e.symm, fun c hc => ?_, fun j hj => ?_, fun c hc hsc => ?_⟩
        · rcases Nat.lt_or_ge c k with g | g
          · rw [upd_n _ _ (by omega)]; exact a2 c g
          · have e2 : c = k := by omega
            subst e2; exact Or.inr ⟨hs, upd_s _ _ _⟩
        · obtain ⟨c, h1, h2, h3⟩ := a3 j hj
          exact ⟨c, by omega, h2, h3⟩
        · rcases Nat.lt_or_ge c k with g | g
          · exact a4 c g hsc
          · have e2 : c = k := by omega
            subst e2; exact absurd hsc hs
      · have hse := hse k (cntA k (vis cb)) (by omega) (by omega) rfl rfl
        simp only [Prod.mk.injEq] at hse
        obtain ⟨rfl, rfl, rfl⟩ := hse
        rw [nI_clamp (n := k) (by omega), nI_1 k]
        have hs : 0 < (O_open k).toInt := i32_nle0.mp c
        have e0 : upd (upd cb k (-1)) k 6 = upd cb k (nI 6) := by
          funext j; unfold upd; split <;> rfl
        rw [e0]
        have e : cntA (k + 1) (vis (upd cb k (nI 6))) = cntA k (vis cb) + 1 := by
          simp only [cntA]
          rw [cntA_congr (fun c hc => show vis (upd cb k (nI 6)) c = vis cb c by unfold vis; rw [upd_n _ _ (by omega)]), vis_t.mpr (show ¬ upd cb k (nI 6) k = -1 by rw [upd_s]; decide), if_pos rfl]
        have h2 := ih (upd cb k (nI 6)) (upd q (cntA k (vis cb)) (nI k))
        rw [e] at h2
        refine h2 ⟨e.symm, fun c hc => ?_, fun j hj => ?_, fun c hc hsc => ?_⟩
        · rcases Nat.lt_or_ge c k with g | g
          · rw [upd_n _ _ (by omega)]; exact a2 c g
          · have e2 : c = k := by omega
            subst e2; exact Or.inl ⟨hs, upd_s _ _ _⟩
        · rcases Nat.lt_or_ge j (cntA k (vis cb)) with g | g
          · obtain ⟨c, h1, h2, h3⟩ := a3 j g
            exact ⟨c, by omega, by rw [upd_n _ _ (by omega)]; exact h2, h3⟩
          · have e2 : j = cntA k (vis cb) := by omega
            exact ⟨k, by omega, by rw [e2, upd_s], hs⟩
        · rcases Nat.lt_or_ge c k with g | g
          · obtain ⟨j, h1, h2⟩ := a4 c g hsc
            exact ⟨j, by omega, by rw [upd_n _ _ (by omega)]; exact h2⟩
          · have e2 : c = k := by omega
            rw [e2]; exact ⟨cntA k (vis cb), by omega, upd_s _ _ _⟩
  exact loop 0 (Nat.zero_le _) F_cameBy F_queue ⟨rfl, fun c hc => absurd hc (Nat.not_lt_zero c), fun j hj => absurd hj (Nat.not_lt_zero j), fun c hc => absurd hc (Nat.not_lt_zero c)⟩


abbrev w1X1_seen (ad : Nat → Nat) (cA : Nat → ClassId) (C_size : Int32) (F_queued : Int32) (F_settled : Int32) (F_settledRise : Int32) (F_amount : Int64) (F_lowest : Int64) (F_highest : Int64) (F_cameBy : Nat → Int32) (u : Unit) : va_W := [((ad 1), .inr (0, [.ref (ad 2), .ref (ad 3), .ref (ad 4), .ref (ad 5), .ref (ad 6), .ref (ad 7), .int C_size])), ((ad 8), .inr (1, [.ref (ad 1), .ref (ad 9), .ref (ad 10), .ref (ad 11), .ref (ad 12), .ref (ad 13), .ref (ad 14), .int F_queued, .int F_settled, .int F_settledRise, .long F_amount, .long F_lowest, .long F_highest])), ((ad 13), .inl (cA 0, 36, .inl F_cameBy))]
abbrev wcX1_seen (ad : Nat → Nat) (cA : Nat → ClassId) (C_size : Int32) (F_queued : Int32) (F_settled : Int32) (F_settledRise : Int32) (F_amount : Int64) (F_lowest : Int64) (F_highest : Int64) (F_cameBy : Nat → Int32) : va_W := [((ad 1), .inr (0, [.ref (ad 2), .ref (ad 3), .ref (ad 4), .ref (ad 5), .ref (ad 6), .ref (ad 7), .int C_size])), ((ad 8), .inr (1, [.ref (ad 1), .ref (ad 9), .ref (ad 10), .ref (ad 11), .ref (ad 12), .ref (ad 13), .ref (ad 14), .int F_queued, .int F_settled, .int F_settledRise, .long F_amount, .long F_lowest, .long F_highest])), ((ad 13), .inl (cA 0, 36, .inl F_cameBy))]
def rmX1_seen : Room := { frames := 0, cells := 0, slots := 0, locals := 0 }
abbrev atX1_seen_0 (X : gX) (ad : Nat → Nat) (cA : Nat → ClassId) (C_size : Int32) (F_queued : Int32) (F_settled : Int32) (F_settledRise : Int32) (F_amount : Int64) (F_lowest : Int64) (F_highest : Int64) (F_cameBy : Nat → Int32) : Prop := gW X 0 0 [((ad 1), .inr (0, [.ref (ad 2), .ref (ad 3), .ref (ad 4), .ref (ad 5), .ref (ad 6), .ref (ad 7), .int C_size])), ((ad 8), .inr (1, [.ref (ad 1), .ref (ad 9), .ref (ad 10), .ref (ad 11), .ref (ad 12), .ref (ad 13), .ref (ad 14), .int F_queued, .int F_settled, .int F_settledRise, .long F_amount, .long F_lowest, .long F_highest])), ((ad 13), .inl (cA 0, 36, .inl F_cameBy))] 4 [(0, .ref (ad 8))] [] 0
abbrev atX1_seen_4 (X : gX) (ad : Nat → Nat) (cA : Nat → ClassId) (x1 : Int64) (x3 : Int32) (C_size : Int32) (F_queued : Int32) (F_settled : Int32) (F_settledRise : Int32) (F_amount : Int64) (F_lowest : Int64) (F_highest : Int64) (F_cameBy : Nat → Int32) : Prop := gW X 0 0 [((ad 1), .inr (0, [.ref (ad 2), .ref (ad 3), .ref (ad 4), .ref (ad 5), .ref (ad 6), .ref (ad 7), .int C_size])), ((ad 8), .inr (1, [.ref (ad 1), .ref (ad 9), .ref (ad 10), .ref (ad 11), .ref (ad 12), .ref (ad 13), .ref (ad 14), .int F_queued, .int F_settled, .int F_settledRise, .long F_amount, .long F_lowest, .long F_highest])), ((ad 13), .inl (cA 0, 36, .inl F_cameBy))] 4 [(0, .ref (ad 8)), (1, .long x1), (3, .int x3)] [] 4
theorem giX1_seen_X1 : ∀ w ∈ u_ws RX1 TX1 13, w ∈ wsX1_seen := by decide +kernel
theorem gfX1_seen_12 : gF wsX1_seen RX1 12 1 0 RX1 TX1 13 := ⟨giX1_seen_X1, by decide +kernel, rfl, by decide⟩
theorem giX1_seen_X0 : ∀ w ∈ u_ws RX0 TX0 7, w ∈ wsX1_seen := by decide +kernel
theorem gfX1_seen_82 : gF wsX1_seen RX1 82 0 6 RX0 TX0 7 := ⟨giX1_seen_X0, by decide +kernel, rfl, by decide⟩
theorem gfX1_seen_31 : gF wsX1_seen RX1 31 1 5 RX1 TX1 13 := ⟨giX1_seen_X1, by decide +kernel, rfl, by decide⟩
set_option maxHeartbeats 4000000 in
set_option maxRecDepth 100000 in
theorem sgX1_seen_0 {X : gX} {ad : Nat → Nat} {cA : Nat → ClassId} {post : Int64 → (Unit) → Prop} {C_size : Int32} {F_queued : Int32} {F_settled : Int32} {F_settledRise : Int32} {F_amount : Int64} {F_lowest : Int64} {F_highest : Int64} {F_cameBy : Nat → Int32} (C : gC X (gT cA) cX1_seen 4 RX1 wsX1_seen rmX1_seen) (E : gEl X (some .long) (gT cA) 0 0 post (w1X1_seen ad cA C_size F_queued F_settled F_settledRise F_amount F_lowest F_highest F_cameBy)) (h : atX1_seen_4 X ad cA (0 : Int64) (0 : Int32) C_size F_queued F_settled F_settledRise F_amount F_lowest F_highest F_cameBy) : atX1_seen_0 X ad cA C_size F_queued F_settled F_settledRise F_amount F_lowest F_highest F_cameBy := by
  refine g_lconst C dX1_seen_0 lk_0 ?_
  refine g_lstore_n (lv2 := [(0, .ref (ad 8)), (1, .long (0 : Int64))]) C dX1_seen_1 rfl (by decide) [1, 0] rfl ?_
  refine g_iconst C dX1_seen_2 ik_0 ?_
  refine g_istore_n (lv2 := [(0, .ref (ad 8)), (1, .long (0 : Int64)), (3, .int (0 : Int32))]) C dX1_seen_3 rfl (by decide) [1, 2, 0] rfl ?_
  exact g_lv [0, 1, 2] rfl h
set_option maxHeartbeats 4000000 in
set_option maxRecDepth 100000 in
theorem sgX1_seen_4 {X : gX} {ad : Nat → Nat} {cA : Nat → ClassId} {post : Int64 → (Unit) → Prop} {x1 : Int64} {x3 : Int32} {C_size : Int32} {F_queued : Int32} {F_settled : Int32} {F_settledRise : Int32} {F_amount : Int64} {F_lowest : Int64} {F_highest : Int64} {F_cameBy : Nat → Int32} (C : gC X (gT cA) cX1_seen 4 RX1 wsX1_seen rmX1_seen) (E : gEl X (some .long) (gT cA) 0 0 post (w1X1_seen ad cA C_size F_queued F_settled F_settledRise F_amount F_lowest F_highest F_cameBy)) (h : (C_size ≤ x3 → post x1 ()) ∧ (¬ C_size ≤ x3 → vp_in x3 36 ∧ atX1_seen_4 X ad cA (if (F_cameBy x3.toNatClampNeg) = (-1 : Int32) then x1 else (x1 ||| ((1 : Int64) <<< (x3.toInt64 &&& 63)))) (x3 + 1) C_size F_queued F_settled F_settledRise F_amount F_lowest F_highest F_cameBy)) : atX1_seen_4 X ad cA x1 x3 C_size F_queued F_settled F_settledRise F_amount F_lowest F_highest F_cameBy := by
  refine g_iload_n C dX1_seen_4 rfl 2 rfl ?_
  refine g_aload_n C dX1_seen_5 rfl 0 rfl ?_
  refine g_get C gfX1_seen_12 1 rfl rfl dX1_seen_6 ?_
  refine g_get C gfX1_seen_82 0 rfl rfl dX1_seen_9 ?_
  refine g_icmp_ge (tgt := 37) C dX1_seen_12 (by decide) (fun c_1 => ?_) (fun c_1 => ?_)
  · replace h := h.1 c_1
    refine g_lload_n C dX1_seen_37 rfl 1 rfl ?_
    exact g_lret C E () h rfl dX1_seen_38
  · replace h := h.2 c_1
    refine g_aload_n C dX1_seen_15 rfl 0 rfl ?_
    refine g_get C gfX1_seen_31 1 rfl rfl dX1_seen_16 ?_
    refine g_iload_n C dX1_seen_19 rfl 2 rfl ?_
    obtain ⟨hi_2, h⟩ := h
    refine g_iald C 2 0 rfl rfl hi_2 dX1_seen_20 ?_
    refine g_iconst C dX1_seen_21 ik_m1 ?_
    have key : gW X 0 0 [((ad 1), .inr (0, [.ref (ad 2), .ref (ad 3), .ref (ad 4), .ref (ad 5), .ref (ad 6), .ref (ad 7), .int C_size])), ((ad 8), .inr (1, [.ref (ad 1), .ref (ad 9), .ref (ad 10), .ref (ad 11), .ref (ad 12), .ref (ad 13), .ref (ad 14), .int F_queued, .int F_settled, .int F_settledRise, .long F_amount, .long F_lowest, .long F_highest])), ((ad 13), .inl (cA 0, 36, .inl F_cameBy))] 4 [(0, .ref (ad 8)), (1, .long (if (F_cameBy x3.toNatClampNeg) = (-1 : Int32) then x1 else (x1 ||| ((1 : Int64) <<< (x3.toInt64 &&& 63))))), (3, .int x3)] [] 31 := by
      refine g_iinc (v := (x3 + 1)) (lv2 := [(0, .ref (ad 8)), (1, .long (if (F_cameBy x3.toNatClampNeg) = (-1 : Int32) then x1 else (x1 ||| ((1 : Int64) <<< (x3.toInt64 &&& 63))))), (3, .int (x3 + 1))]) C dX1_seen_31 2 rfl (by first | rfl | decide) (by decide) [1, 2, 0] rfl ?_
      refine g_goto (tgt := 4) C dX1_seen_34 (by decide) ?_
      exact g_lv [0, 1, 2] rfl h
    refine g_icmp_eq (tgt := 31) C dX1_seen_22 (by decide) (fun c_3 => ?_) (fun c_3 => ?_)
    · exact g_leaf (by simp only [if_pos c_3] at key; first | exact key | (simp only [if_pos c_3]; exact key) | exact absurd rfl c_3)
    · refine g_lload_n C dX1_seen_25 rfl 1 rfl ?_
      refine g_lconst C dX1_seen_26 lk_1 ?_
      refine g_iload_n C dX1_seen_27 rfl 2 rfl ?_
      refine g_lshl C dX1_seen_28 ?_
      refine g_lor C dX1_seen_29 ?_
      refine g_lstore_n (lv2 := [(0, .ref (ad 8)), (1, .long (x1 ||| ((1 : Int64) <<< (x3.toInt64 &&& 63)))), (3, .int x3)]) C dX1_seen_30 rfl (by decide) [1, 0, 2] rfl ?_
      exact g_leaf (by simp only [if_neg c_3] at key; first | exact key | (simp only [if_neg c_3]; exact key) | exact absurd rfl c_3)
def prX1_seen (C_size : Int32) (F_queued : Int32) (F_settled : Int32) (F_settledRise : Int32) (F_amount : Int64) (F_lowest : Int64) (F_highest : Int64) (F_cameBy : Nat → Int32) : Prop := ∃ n, n ≤ 36 ∧ C_size = nI n
def po_X1_seen (ad : Nat → Nat) (cA : Nat → ClassId) (C_size : Int32) (F_queued : Int32) (F_settled : Int32) (F_settledRise : Int32) (F_amount : Int64) (F_lowest : Int64) (F_highest : Int64) (F_cameBy : Nat → Int32) (r : Int64) (u : Unit) : Prop := ∀ i, i < 64 → sb r i = (decide (i < C_size.toNatClampNeg) && vis F_cameBy i)
set_option maxHeartbeats 4000000 in
set_option maxRecDepth 100000 in
theorem c_X1_seen (ad : Nat → Nat) (cA : Nat → ClassId) (C_size : Int32) (F_queued : Int32) (F_settled : Int32) (F_settledRise : Int32) (F_amount : Int64) (F_lowest : Int64) (F_highest : Int64) (F_cameBy : Nat → Int32) (hq : prX1_seen C_size F_queued F_settled F_settledRise F_amount F_lowest F_highest F_cameBy) : ∀ (l : Launch) (D : va_G), gMl (S := Unit) l yX1_seen wsX1_seen rmX1_seen D (gT cA) 0 0 [.ref (ad 8)] (wcX1_seen ad cA C_size F_queued F_settled F_settledRise F_amount F_lowest F_highest F_cameBy) (po_X1_seen ad cA C_size F_queued F_settled F_settledRise F_amount F_lowest F_highest F_cameBy) (w1X1_seen ad cA C_size F_queued F_settled F_settledRise F_amount F_lowest F_highest F_cameBy) := by
  intro l D
  unfold prX1_seen at hq
  refine g_enterl (cc := cX1_seen) (nL := 4) (ret := (some .long)) (by decide) rfl (Nat.le_of_ble_eq_true rfl) rfl (fun X C E => ?_)
  obtain ⟨n, hn, rfl⟩ := hq
  refine sgX1_seen_0 C E ?_
  have loop : ∀ k, k ≤ n → ∀ v, (∀ i, i < 64 → sb v i = (decide (i < k) && vis F_cameBy i)) → atX1_seen_4 X ad cA v (nI k) (nI n) F_queued F_settled F_settledRise F_amount F_lowest F_highest F_cameBy := by
    intro k hk
    refine up_loop (P := fun k => ∀ v, (∀ i, i < 64 → sb v i = (decide (i < k) && vis F_cameBy i)) → atX1_seen_4 X ad cA v (nI k) (nI n) F_queued F_settled F_settledRise F_amount F_lowest F_highest F_cameBy) n ?_ (fun k hk ih v hv => ?_) k hk
    · refine fun v hv => sgX1_seen_4 C E ⟨fun _ => ?_, fun c => absurd (i32_le_refl _) c⟩
      intro i hi; rw [nI_clamp (by omega)]; exact hv i hi
    · refine sgX1_seen_4 C E ⟨fun c => absurd c (nI_ge hk (by omega)), fun _ => ⟨vp_in_nI (by omega) (by decide), ?_⟩⟩
      rw [nI_clamp (by omega), nI_1]
      refine ih _ (fun i hi => ?_)
      by_cases hc : F_cameBy k = -1
      · rw [if_pos hc, hv i hi]
        by_cases e : i = k
        · rw [e, vis_f.mpr hc, Bool.and_false, Bool.and_false]
        · congr 1; rw [decide_eq_decide]; omega
      · rw [if_neg hc, zb_or, hv i hi, zb_one (by omega) hi]
        by_cases e : i = k
        · rw [e, vis_t.mpr hc, decide_eq_true (rfl : k = k), decide_eq_true (show k < k + 1 by omega)]; simp
        · rw [decide_eq_false e, Bool.or_false]; congr 1; rw [decide_eq_decide]; omega
  exact loop 0 (Nat.zero_le _) 0 (fun i hi => by rw [zb_0, decide_eq_false (Nat.not_lt_zero i)]; rfl)


def frE (be pa : Nat → Int32) (c s d : Nat) : Prop := d < 36 ∧ be (6 * c + s) = nI d ∧ 0 < (pa (6 * c + s)).toInt
def bkE (be pa : Nat → Int32) (c s d : Nat) : Prop := d < 36 ∧ be (6 * c + s) = nI d ∧ 0 < (pa (6 * d + rv s)).toInt
def posS (f : Nat → Int32) (c : Nat) : Prop := 0 < (f c).toInt
/-- what a search from the springs has found: all that it reached, each with the one it came from -/
def frOK (n : Nat) (be sp pa cf cb : Nat → Int32) : Prop := ∃ rk : Nat → Nat, (∀ c, c < n → posS sp c → vis cb c = true) ∧ ∀ c, c < n → vis cb c = true → rk c < 36 ∧ bPar n (frE be pa) (posS sp) cf cb rk c
def frDone (n : Nat) (be dr pa cb : Nat → Int32) : Prop := ∀ c, c < n → vis cb c = true → bDone (frE be pa) (fun c => ¬ posS dr c) cb c

abbrev w1X1_search (ad : Nat → Nat) (cA : Nat → ClassId) (C_size : Int32) (C_beyond : Nat → Int32) (F_settled : Int32) (F_settledRise : Int32) (F_amount : Int64) (F_lowest : Int64) (F_highest : Int64) (F_springs : Nat → Int32) (F_drains : Nat → Int32) (F_passes : Nat → Int32) (u : (Nat → Int32) × (Nat → Int32) × (Nat → Int32) × (Int32)) : va_W := [((ad 1), .inr (0, [.ref (ad 2), .ref (ad 3), .ref (ad 4), .ref (ad 5), .ref (ad 6), .ref (ad 7), .int C_size])), ((ad 7), .inl (cA 0, 216, .inl C_beyond)), ((ad 8), .inr (1, [.ref (ad 1), .ref (ad 9), .ref (ad 10), .ref (ad 11), .ref (ad 12), .ref (ad 13), .ref (ad 14), .int u.2.2.2, .int F_settled, .int F_settledRise, .long F_amount, .long F_lowest, .long F_highest])), ((ad 9), .inl (cA 0, 36, .inl F_springs)), ((ad 10), .inl (cA 0, 36, .inl F_drains)), ((ad 11), .inl (cA 0, 216, .inl F_passes)), ((ad 12), .inl (cA 0, 36, .inl u.1)), ((ad 13), .inl (cA 0, 36, .inl u.2.1)), ((ad 14), .inl (cA 0, 36, .inl u.2.2.1))]
abbrev wcX1_search (ad : Nat → Nat) (cA : Nat → ClassId) (C_size : Int32) (C_beyond : Nat → Int32) (F_queued : Int32) (F_settled : Int32) (F_settledRise : Int32) (F_amount : Int64) (F_lowest : Int64) (F_highest : Int64) (F_springs : Nat → Int32) (F_drains : Nat → Int32) (F_passes : Nat → Int32) (F_cameFrom : Nat → Int32) (F_cameBy : Nat → Int32) (F_queue : Nat → Int32) : va_W := [((ad 1), .inr (0, [.ref (ad 2), .ref (ad 3), .ref (ad 4), .ref (ad 5), .ref (ad 6), .ref (ad 7), .int C_size])), ((ad 7), .inl (cA 0, 216, .inl C_beyond)), ((ad 8), .inr (1, [.ref (ad 1), .ref (ad 9), .ref (ad 10), .ref (ad 11), .ref (ad 12), .ref (ad 13), .ref (ad 14), .int F_queued, .int F_settled, .int F_settledRise, .long F_amount, .long F_lowest, .long F_highest])), ((ad 9), .inl (cA 0, 36, .inl F_springs)), ((ad 10), .inl (cA 0, 36, .inl F_drains)), ((ad 11), .inl (cA 0, 216, .inl F_passes)), ((ad 12), .inl (cA 0, 36, .inl F_cameFrom)), ((ad 13), .inl (cA 0, 36, .inl F_cameBy)), ((ad 14), .inl (cA 0, 36, .inl F_queue))]
def rmX1_search : Room := { frames := 2, cells := 0, slots := 0, locals := 44 }
abbrev atX1_search_0 (X : gX) (ad : Nat → Nat) (cA : Nat → ClassId) (C_size : Int32) (C_beyond : Nat → Int32) (F_queued : Int32) (F_settled : Int32) (F_settledRise : Int32) (F_amount : Int64) (F_lowest : Int64) (F_highest : Int64) (F_springs : Nat → Int32) (F_drains : Nat → Int32) (F_passes : Nat → Int32) (F_cameFrom : Nat → Int32) (F_cameBy : Nat → Int32) (F_queue : Nat → Int32) : Prop := gW X 0 0 [((ad 1), .inr (0, [.ref (ad 2), .ref (ad 3), .ref (ad 4), .ref (ad 5), .ref (ad 6), .ref (ad 7), .int C_size])), ((ad 7), .inl (cA 0, 216, .inl C_beyond)), ((ad 8), .inr (1, [.ref (ad 1), .ref (ad 9), .ref (ad 10), .ref (ad 11), .ref (ad 12), .ref (ad 13), .ref (ad 14), .int F_queued, .int F_settled, .int F_settledRise, .long F_amount, .long F_lowest, .long F_highest])), ((ad 9), .inl (cA 0, 36, .inl F_springs)), ((ad 10), .inl (cA 0, 36, .inl F_drains)), ((ad 11), .inl (cA 0, 216, .inl F_passes)), ((ad 12), .inl (cA 0, 36, .inl F_cameFrom)), ((ad 13), .inl (cA 0, 36, .inl F_cameBy)), ((ad 14), .inl (cA 0, 36, .inl F_queue))] 5 [(0, .ref (ad 8))] [] 0
abbrev atX1_search_10 (X : gX) (ad : Nat → Nat) (cA : Nat → ClassId) (x1 : Int32) (C_size : Int32) (C_beyond : Nat → Int32) (F_queued : Int32) (F_settled : Int32) (F_settledRise : Int32) (F_amount : Int64) (F_lowest : Int64) (F_highest : Int64) (F_springs : Nat → Int32) (F_drains : Nat → Int32) (F_passes : Nat → Int32) (F_cameFrom : Nat → Int32) (F_cameBy : Nat → Int32) (F_queue : Nat → Int32) : Prop := gW X 0 0 [((ad 1), .inr (0, [.ref (ad 2), .ref (ad 3), .ref (ad 4), .ref (ad 5), .ref (ad 6), .ref (ad 7), .int C_size])), ((ad 7), .inl (cA 0, 216, .inl C_beyond)), ((ad 8), .inr (1, [.ref (ad 1), .ref (ad 9), .ref (ad 10), .ref (ad 11), .ref (ad 12), .ref (ad 13), .ref (ad 14), .int F_queued, .int F_settled, .int F_settledRise, .long F_amount, .long F_lowest, .long F_highest])), ((ad 9), .inl (cA 0, 36, .inl F_springs)), ((ad 10), .inl (cA 0, 36, .inl F_drains)), ((ad 11), .inl (cA 0, 216, .inl F_passes)), ((ad 12), .inl (cA 0, 36, .inl F_cameFrom)), ((ad 13), .inl (cA 0, 36, .inl F_cameBy)), ((ad 14), .inl (cA 0, 36, .inl F_queue))] 5 [(0, .ref (ad 8)), (1, .int x1)] [] 10
abbrev atX1_search_44 (X : gX) (ad : Nat → Nat) (cA : Nat → ClassId) (x1 : Int32) (x2 : Int32) (x3 : Int32) (C_size : Int32) (C_beyond : Nat → Int32) (F_queued : Int32) (F_settled : Int32) (F_settledRise : Int32) (F_amount : Int64) (F_lowest : Int64) (F_highest : Int64) (F_springs : Nat → Int32) (F_drains : Nat → Int32) (F_passes : Nat → Int32) (F_cameFrom : Nat → Int32) (F_cameBy : Nat → Int32) (F_queue : Nat → Int32) : Prop := gW X 0 0 [((ad 1), .inr (0, [.ref (ad 2), .ref (ad 3), .ref (ad 4), .ref (ad 5), .ref (ad 6), .ref (ad 7), .int C_size])), ((ad 7), .inl (cA 0, 216, .inl C_beyond)), ((ad 8), .inr (1, [.ref (ad 1), .ref (ad 9), .ref (ad 10), .ref (ad 11), .ref (ad 12), .ref (ad 13), .ref (ad 14), .int F_queued, .int F_settled, .int F_settledRise, .long F_amount, .long F_lowest, .long F_highest])), ((ad 9), .inl (cA 0, 36, .inl F_springs)), ((ad 10), .inl (cA 0, 36, .inl F_drains)), ((ad 11), .inl (cA 0, 216, .inl F_passes)), ((ad 12), .inl (cA 0, 36, .inl F_cameFrom)), ((ad 13), .inl (cA 0, 36, .inl F_cameBy)), ((ad 14), .inl (cA 0, 36, .inl F_queue))] 5 [(0, .ref (ad 8)), (1, .int x1), (2, .int x2), (3, .int x3)] [] 44
theorem giX1_search_X1 : ∀ w ∈ u_ws RX1 TX1 13, w ∈ wsX1_search := by decide +kernel
theorem gfX1_search_18 : gF wsX1_search RX1 18 1 1 RX1 TX1 13 := ⟨giX1_search_X1, by decide +kernel, rfl, by decide⟩
theorem gfX1_search_37 : gF wsX1_search RX1 37 1 7 RX1 TX1 13 := ⟨giX1_search_X1, by decide +kernel, rfl, by decide⟩
theorem gfX1_search_34 : gF wsX1_search RX1 34 1 6 RX1 TX1 13 := ⟨giX1_search_X1, by decide +kernel, rfl, by decide⟩
theorem gfX1_search_22 : gF wsX1_search RX1 22 1 2 RX1 TX1 13 := ⟨giX1_search_X1, by decide +kernel, rfl, by decide⟩
theorem gfX1_search_12 : gF wsX1_search RX1 12 1 0 RX1 TX1 13 := ⟨giX1_search_X1, by decide +kernel, rfl, by decide⟩
theorem giX1_search_X0 : ∀ w ∈ u_ws RX0 TX0 7, w ∈ wsX1_search := by decide +kernel
theorem gfX1_search_93 : gF wsX1_search RX1 93 0 5 RX0 TX0 7 := ⟨giX1_search_X0, by decide +kernel, rfl, by decide⟩
theorem gfX1_search_31 : gF wsX1_search RX1 31 1 5 RX1 TX1 13 := ⟨giX1_search_X1, by decide +kernel, rfl, by decide⟩
theorem gfX1_search_25 : gF wsX1_search RX1 25 1 3 RX1 TX1 13 := ⟨giX1_search_X1, by decide +kernel, rfl, by decide⟩
theorem gfX1_search_28 : gF wsX1_search RX1 28 1 4 RX1 TX1 13 := ⟨giX1_search_X1, by decide +kernel, rfl, by decide⟩
set_option maxHeartbeats 4000000 in
set_option maxRecDepth 100000 in
theorem sgX1_search_0 {X : gX} {ad : Nat → Nat} {cA : Nat → ClassId} {post : Int32 → ((Nat → Int32) × (Nat → Int32) × (Nat → Int32) × (Int32)) → Prop} {C_size : Int32} {C_beyond : Nat → Int32} {F_queued : Int32} {F_settled : Int32} {F_settledRise : Int32} {F_amount : Int64} {F_lowest : Int64} {F_highest : Int64} {F_springs : Nat → Int32} {F_drains : Nat → Int32} {F_passes : Nat → Int32} {F_cameFrom : Nat → Int32} {F_cameBy : Nat → Int32} {F_queue : Nat → Int32} (C : gC X (gT cA) cX1_search 5 RX1 wsX1_search rmX1_search) (E : gEi X (some .int) (gT cA) 0 0 post (w1X1_search ad cA C_size C_beyond F_settled F_settledRise F_amount F_lowest F_highest F_springs F_drains F_passes)) (h : prX1_startAt (ad 9) 36 C_size F_queued F_settled F_settledRise F_amount F_lowest F_highest F_cameBy F_queue F_springs ∧ ∀ (u2_F_cameBy : Nat → Int32) (u2_F_queue : Nat → Int32) (u2_F_queued : Int32), po_X1_startAt ad cA (ad 9) 36 C_size F_queued F_settled F_settledRise F_amount F_lowest F_highest F_cameBy F_queue F_springs (u2_F_cameBy, u2_F_queue, u2_F_queued) → atX1_search_10 X ad cA (0 : Int32) C_size C_beyond u2_F_queued F_settled F_settledRise F_amount F_lowest F_highest F_springs F_drains F_passes F_cameFrom u2_F_cameBy u2_F_queue) : atX1_search_0 X ad cA C_size C_beyond F_queued F_settled F_settledRise F_amount F_lowest F_highest F_springs F_drains F_passes F_cameFrom F_cameBy F_queue := by
  refine g_aload_n C dX1_search_0 rfl 0 rfl ?_
  refine g_aload_n C dX1_search_1 rfl 0 rfl ?_
  refine g_get C gfX1_search_18 2 rfl rfl dX1_search_2 ?_
  obtain ⟨hi_1, h⟩ := h
  refine g_callVv (wr := [((ad 7), .inl (cA 0, 216, .inl C_beyond)), ((ad 10), .inl (cA 0, 36, .inl F_drains)), ((ad 11), .inl (cA 0, 216, .inl F_passes)), ((ad 12), .inl (cA 0, 36, .inl F_cameFrom))]) C (c_X1_startAt ad cA (ad 9) 36 C_size F_queued F_settled F_settledRise F_amount F_lowest F_highest F_cameBy F_queue F_springs hi_1) gX1_search_X1_startAt rfl hde_X1_startAt ⟨rfl, rfl⟩ (by decide) (by decide) [0, 2, 7, 8, 3] [1, 4, 5, 6] [4, 0, 5, 8, 1, 2, 3, 6, 7] rfl rfl rfl rfl (by decide) rfl (ws2 := fun u => [((ad 1), .inr (0, [.ref (ad 2), .ref (ad 3), .ref (ad 4), .ref (ad 5), .ref (ad 6), .ref (ad 7), .int C_size])), ((ad 7), .inl (cA 0, 216, .inl C_beyond)), ((ad 8), .inr (1, [.ref (ad 1), .ref (ad 9), .ref (ad 10), .ref (ad 11), .ref (ad 12), .ref (ad 13), .ref (ad 14), .int u.2.2, .int F_settled, .int F_settledRise, .long F_amount, .long F_lowest, .long F_highest])), ((ad 9), .inl (cA 0, 36, .inl F_springs)), ((ad 10), .inl (cA 0, 36, .inl F_drains)), ((ad 11), .inl (cA 0, 216, .inl F_passes)), ((ad 12), .inl (cA 0, 36, .inl F_cameFrom)), ((ad 13), .inl (cA 0, 36, .inl u.1)), ((ad 14), .inl (cA 0, 36, .inl u.2.1))]) (fun _ => rfl) 1 1 rfl rfl rfl (rest := []) rfl (Nat.le_of_ble_eq_true rfl) dX1_search_5 (fun u_2 hp_2 => ?_)
  obtain ⟨u2_F_cameBy, u2_F_queue, u2_F_queued⟩ := u_2
  replace h := h u2_F_cameBy u2_F_queue u2_F_queued hp_2
  change gW X 0 0 [((ad 1), .inr (0, [.ref (ad 2), .ref (ad 3), .ref (ad 4), .ref (ad 5), .ref (ad 6), .ref (ad 7), .int C_size])), ((ad 7), .inl (cA 0, 216, .inl C_beyond)), ((ad 8), .inr (1, [.ref (ad 1), .ref (ad 9), .ref (ad 10), .ref (ad 11), .ref (ad 12), .ref (ad 13), .ref (ad 14), .int u2_F_queued, .int F_settled, .int F_settledRise, .long F_amount, .long F_lowest, .long F_highest])), ((ad 9), .inl (cA 0, 36, .inl F_springs)), ((ad 10), .inl (cA 0, 36, .inl F_drains)), ((ad 11), .inl (cA 0, 216, .inl F_passes)), ((ad 12), .inl (cA 0, 36, .inl F_cameFrom)), ((ad 13), .inl (cA 0, 36, .inl u2_F_cameBy)), ((ad 14), .inl (cA 0, 36, .inl u2_F_queue))] 5 [(0, .ref (ad 8))] [] 8
  refine g_iconst C dX1_search_8 ik_0 ?_
  refine g_istore_n (lv2 := [(0, .ref (ad 8)), (1, .int (0 : Int32))]) C dX1_search_9 rfl (by decide) [1, 0] rfl ?_
  exact g_lv [0, 1] rfl h
set_option maxHeartbeats 4000000 in
set_option maxRecDepth 100000 in
theorem sgX1_search_10 {X : gX} {ad : Nat → Nat} {cA : Nat → ClassId} {post : Int32 → ((Nat → Int32) × (Nat → Int32) × (Nat → Int32) × (Int32)) → Prop} {x1 : Int32} {C_size : Int32} {C_beyond : Nat → Int32} {F_queued : Int32} {F_settled : Int32} {F_settledRise : Int32} {F_amount : Int64} {F_lowest : Int64} {F_highest : Int64} {F_springs : Nat → Int32} {F_drains : Nat → Int32} {F_passes : Nat → Int32} {F_cameFrom : Nat → Int32} {F_cameBy : Nat → Int32} {F_queue : Nat → Int32} (C : gC X (gT cA) cX1_search 5 RX1 wsX1_search rmX1_search) (E : gEi X (some .int) (gT cA) 0 0 post (w1X1_search ad cA C_size C_beyond F_settled F_settledRise F_amount F_lowest F_highest F_springs F_drains F_passes)) (h : ((36 : Int32) ≤ x1 → post (-1 : Int32) (F_cameFrom, F_cameBy, F_queue, F_queued)) ∧ (¬ (36 : Int32) ≤ x1 → (F_queued ≤ x1 → post (-1 : Int32) (F_cameFrom, F_cameBy, F_queue, F_queued)) ∧ (¬ F_queued ≤ x1 → vp_in x1 36 ∧ vp_in (F_queue x1.toNatClampNeg) 36 ∧ ((F_drains (F_queue x1.toNatClampNeg).toNatClampNeg) ≤ 0 → atX1_search_44 X ad cA x1 (F_queue x1.toNatClampNeg) (0 : Int32) C_size C_beyond F_queued F_settled F_settledRise F_amount F_lowest F_highest F_springs F_drains F_passes F_cameFrom F_cameBy F_queue) ∧ (¬ (F_drains (F_queue x1.toNatClampNeg).toNatClampNeg) ≤ 0 → post (F_queue x1.toNatClampNeg) (F_cameFrom, F_cameBy, F_queue, F_queued))))) : atX1_search_10 X ad cA x1 C_size C_beyond F_queued F_settled F_settledRise F_amount F_lowest F_highest F_springs F_drains F_passes F_cameFrom F_cameBy F_queue := by
  refine g_iload_n C dX1_search_10 rfl 1 rfl ?_
  refine g_bipush C dX1_search_11 bk_36 ?_
  refine g_icmp_ge (tgt := 124) C dX1_search_13 (by decide) (fun c_3 => ?_) (fun c_3 => ?_)
  · replace h := h.1 c_3
    refine g_iconst C dX1_search_124 ik_m1 ?_
    exact g_iret C E (F_cameFrom, F_cameBy, F_queue, F_queued) h rfl dX1_search_125
  · replace h := h.2 c_3
    refine g_iload_n C dX1_search_16 rfl 1 rfl ?_
    refine g_aload_n C dX1_search_17 rfl 0 rfl ?_
    refine g_get C gfX1_search_37 2 rfl rfl dX1_search_18 ?_
    refine g_icmp_ge (tgt := 124) C dX1_search_21 (by decide) (fun c_4 => ?_) (fun c_4 => ?_)
    · replace h := h.1 c_4
      refine g_iconst C dX1_search_124 ik_m1 ?_
      exact g_iret C E (F_cameFrom, F_cameBy, F_queue, F_queued) h rfl dX1_search_125
    · replace h := h.2 c_4
      refine g_aload_n C dX1_search_24 rfl 0 rfl ?_
      refine g_get C gfX1_search_34 2 rfl rfl dX1_search_25 ?_
      refine g_iload_n C dX1_search_28 rfl 1 rfl ?_
      obtain ⟨hi_5, h⟩ := h
      refine g_iald C 8 0 rfl rfl hi_5 dX1_search_29 ?_
      refine g_istore_n (lv2 := [(0, .ref (ad 8)), (1, .int x1), (2, .int (F_queue x1.toNatClampNeg))]) C dX1_search_30 rfl (by decide) [1, 2, 0] rfl ?_
      refine g_aload_n C dX1_search_31 rfl 0 rfl ?_
      refine g_get C gfX1_search_22 2 rfl rfl dX1_search_32 ?_
      refine g_iload_n C dX1_search_35 rfl 2 rfl ?_
      obtain ⟨hi_6, h⟩ := h
      refine g_iald C 4 0 rfl rfl hi_6 dX1_search_36 ?_
      refine g_if_le (tgt := 42) C dX1_search_37 (by decide) (fun c_7 => ?_) (fun c_7 => ?_)
      · replace h := h.1 c_7
        refine g_iconst C dX1_search_42 ik_0 ?_
        refine g_istore_n (lv2 := [(0, .ref (ad 8)), (1, .int x1), (2, .int (F_queue x1.toNatClampNeg)), (3, .int (0 : Int32))]) C dX1_search_43 rfl (by decide) [1, 2, 3, 0] rfl ?_
        exact g_lv [0, 1, 2, 3] rfl h
      · replace h := h.2 c_7
        refine g_iload_n C dX1_search_40 rfl 2 rfl ?_
        exact g_iret C E (F_cameFrom, F_cameBy, F_queue, F_queued) h rfl dX1_search_41
set_option maxHeartbeats 4000000 in
set_option maxRecDepth 100000 in
theorem sgX1_search_44 {X : gX} {ad : Nat → Nat} {cA : Nat → ClassId} {post : Int32 → ((Nat → Int32) × (Nat → Int32) × (Nat → Int32) × (Int32)) → Prop} {x1 : Int32} {x2 : Int32} {x3 : Int32} {C_size : Int32} {C_beyond : Nat → Int32} {F_queued : Int32} {F_settled : Int32} {F_settledRise : Int32} {F_amount : Int64} {F_lowest : Int64} {F_highest : Int64} {F_springs : Nat → Int32} {F_drains : Nat → Int32} {F_passes : Nat → Int32} {F_cameFrom : Nat → Int32} {F_cameBy : Nat → Int32} {F_queue : Nat → Int32} (C : gC X (gT cA) cX1_search 5 RX1 wsX1_search rmX1_search) (E : gEi X (some .int) (gT cA) 0 0 post (w1X1_search ad cA C_size C_beyond F_settled F_settledRise F_amount F_lowest F_highest F_springs F_drains F_passes)) (h : ((6 : Int32) ≤ x3 → atX1_search_10 X ad cA (x1 + 1) C_size C_beyond F_queued F_settled F_settledRise F_amount F_lowest F_highest F_springs F_drains F_passes F_cameFrom F_cameBy F_queue) ∧ (¬ (6 : Int32) ≤ x3 → vp_in ((x2 * (6 : Int32)) + x3) 216 ∧ ∀ x4_10 : Int32, x4_10 = (C_beyond ((x2 * (6 : Int32)) + x3).toNatClampNeg) → (x4_10 = (-1 : Int32) → atX1_search_44 X ad cA x1 x2 (x3 + 1) C_size C_beyond F_queued F_settled F_settledRise F_amount F_lowest F_highest F_springs F_drains F_passes F_cameFrom F_cameBy F_queue) ∧ (¬ x4_10 = (-1 : Int32) → vp_in x4_10 36 ∧ (¬ (F_cameBy x4_10.toNatClampNeg) = (-1 : Int32) → atX1_search_44 X ad cA x1 x2 (x3 + 1) C_size C_beyond F_queued F_settled F_settledRise F_amount F_lowest F_highest F_springs F_drains F_passes F_cameFrom F_cameBy F_queue) ∧ ((F_cameBy x4_10.toNatClampNeg) = (-1 : Int32) → vp_in ((x2 * (6 : Int32)) + x3) 216 ∧ ((F_passes ((x2 * (6 : Int32)) + x3).toNatClampNeg) ≤ 0 → atX1_search_44 X ad cA x1 x2 (x3 + 1) C_size C_beyond F_queued F_settled F_settledRise F_amount F_lowest F_highest F_springs F_drains F_passes F_cameFrom F_cameBy F_queue) ∧ (¬ (F_passes ((x2 * (6 : Int32)) + x3).toNatClampNeg) ≤ 0 → vp_in x4_10 36 ∧ prX1_see x4_10 x3 F_queued F_settled F_settledRise F_amount F_lowest F_highest F_cameBy F_queue ∧ ∀ (u18_F_cameBy : Nat → Int32) (u18_F_queue : Nat → Int32) (u18_F_queued : Int32), po_X1_see ad cA x4_10 x3 F_queued F_settled F_settledRise F_amount F_lowest F_highest F_cameBy F_queue (u18_F_cameBy, u18_F_queue, u18_F_queued) → atX1_search_44 X ad cA x1 x2 (x3 + 1) C_size C_beyond u18_F_queued F_settled F_settledRise F_amount F_lowest F_highest F_springs F_drains F_passes (upd F_cameFrom x4_10.toNatClampNeg x2) u18_F_cameBy u18_F_queue))))) : atX1_search_44 X ad cA x1 x2 x3 C_size C_beyond F_queued F_settled F_settledRise F_amount F_lowest F_highest F_springs F_drains F_passes F_cameFrom F_cameBy F_queue := by
  refine g_iload_n C dX1_search_44 rfl 3 rfl ?_
  refine g_bipush C dX1_search_45 bk_6 ?_
  refine g_icmp_ge (tgt := 118) C dX1_search_47 (by decide) (fun c_8 => ?_) (fun c_8 => ?_)
  · replace h := h.1 c_8
    refine g_iinc (v := (x1 + 1)) (lv2 := [(0, .ref (ad 8)), (1, .int (x1 + 1)), (2, .int x2), (3, .int x3)]) C dX1_search_118 1 rfl (by first | rfl | decide) (by decide) [1, 0, 2, 3] rfl ?_
    refine g_goto (tgt := 10) C dX1_search_121 (by decide) ?_
    exact g_lv [0, 1] rfl h
  · replace h := h.2 c_8
    refine g_aload_n C dX1_search_50 rfl 0 rfl ?_
    refine g_get C gfX1_search_12 2 rfl rfl dX1_search_51 ?_
    refine g_get C gfX1_search_93 0 rfl rfl dX1_search_54 ?_
    refine g_iload_n C dX1_search_57 rfl 2 rfl ?_
    refine g_bipush C dX1_search_58 bk_6 ?_
    refine g_imul C dX1_search_60 ?_
    refine g_iload_n C dX1_search_61 rfl 3 rfl ?_
    refine g_iadd C dX1_search_62 ?_
    obtain ⟨hi_9, h⟩ := h
    refine g_iald C 1 0 rfl rfl hi_9 dX1_search_63 ?_
    refine g_topi (fun x4_10 ex4_10 => ?_)
    replace h := h x4_10 ex4_10
    refine g_istore (lv2 := [(0, .ref (ad 8)), (1, .int x1), (2, .int x2), (3, .int x3), (4, .int x4_10)]) C dX1_search_64 (by decide) [1, 2, 3, 4, 0] rfl ?_
    refine g_iload C dX1_search_66 4 rfl ?_
    refine g_iconst C dX1_search_68 ik_m1 ?_
    refine g_icmp_eq (tgt := 112) C dX1_search_69 (by decide) (fun c_11 => ?_) (fun c_11 => ?_)
    · replace h := h.1 c_11
      refine g_iinc (v := (x3 + 1)) (lv2 := [(0, .ref (ad 8)), (1, .int x1), (2, .int x2), (3, .int (x3 + 1)), (4, .int x4_10)]) C dX1_search_112 3 rfl (by first | rfl | decide) (by decide) [1, 2, 3, 0, 4] rfl ?_
      refine g_goto (tgt := 44) C dX1_search_115 (by decide) ?_
      exact g_lv [0, 1, 2, 3] rfl h
    · replace h := h.2 c_11
      refine g_aload_n C dX1_search_72 rfl 0 rfl ?_
      refine g_get C gfX1_search_31 2 rfl rfl dX1_search_73 ?_
      refine g_iload C dX1_search_76 4 rfl ?_
      obtain ⟨hi_12, h⟩ := h
      refine g_iald C 7 0 rfl rfl hi_12 dX1_search_78 ?_
      refine g_iconst C dX1_search_79 ik_m1 ?_
      refine g_icmp_ne (tgt := 112) C dX1_search_80 (by decide) (fun c_13 => ?_) (fun c_13 => ?_)
      · replace h := h.1 c_13
        refine g_iinc (v := (x3 + 1)) (lv2 := [(0, .ref (ad 8)), (1, .int x1), (2, .int x2), (3, .int (x3 + 1)), (4, .int x4_10)]) C dX1_search_112 3 rfl (by first | rfl | decide) (by decide) [1, 2, 3, 0, 4] rfl ?_
        refine g_goto (tgt := 44) C dX1_search_115 (by decide) ?_
        exact g_lv [0, 1, 2, 3] rfl h
      · replace h := h.2 c_13
        refine g_aload_n C dX1_search_83 rfl 0 rfl ?_
        refine g_get C gfX1_search_25 2 rfl rfl dX1_search_84 ?_
        refine g_iload_n C dX1_search_87 rfl 2 rfl ?_
        refine g_bipush C dX1_search_88 bk_6 ?_
        refine g_imul C dX1_search_90 ?_
        refine g_iload_n C dX1_search_91 rfl 3 rfl ?_
        refine g_iadd C dX1_search_92 ?_
        obtain ⟨hi_14, h⟩ := h
        refine g_iald C 5 0 rfl rfl hi_14 dX1_search_93 ?_
        refine g_if_le (tgt := 112) C dX1_search_94 (by decide) (fun c_15 => ?_) (fun c_15 => ?_)
        · replace h := h.1 c_15
          refine g_iinc (v := (x3 + 1)) (lv2 := [(0, .ref (ad 8)), (1, .int x1), (2, .int x2), (3, .int (x3 + 1)), (4, .int x4_10)]) C dX1_search_112 3 rfl (by first | rfl | decide) (by decide) [1, 2, 3, 0, 4] rfl ?_
          refine g_goto (tgt := 44) C dX1_search_115 (by decide) ?_
          exact g_lv [0, 1, 2, 3] rfl h
        · replace h := h.2 c_15
          refine g_aload_n C dX1_search_97 rfl 0 rfl ?_
          refine g_get C gfX1_search_28 2 rfl rfl dX1_search_98 ?_
          refine g_iload C dX1_search_101 4 rfl ?_
          refine g_iload_n C dX1_search_103 rfl 2 rfl ?_
          obtain ⟨hi_16, h⟩ := h
          refine g_iast (ws2 := [((ad 1), .inr (0, [.ref (ad 2), .ref (ad 3), .ref (ad 4), .ref (ad 5), .ref (ad 6), .ref (ad 7), .int C_size])), ((ad 7), .inl (cA 0, 216, .inl C_beyond)), ((ad 8), .inr (1, [.ref (ad 1), .ref (ad 9), .ref (ad 10), .ref (ad 11), .ref (ad 12), .ref (ad 13), .ref (ad 14), .int F_queued, .int F_settled, .int F_settledRise, .long F_amount, .long F_lowest, .long F_highest])), ((ad 9), .inl (cA 0, 36, .inl F_springs)), ((ad 10), .inl (cA 0, 36, .inl F_drains)), ((ad 11), .inl (cA 0, 216, .inl F_passes)), ((ad 12), .inl (cA 0, 36, .inl (upd F_cameFrom x4_10.toNatClampNeg x2))), ((ad 13), .inl (cA 0, 36, .inl F_cameBy)), ((ad 14), .inl (cA 0, 36, .inl F_queue))]) C 6 0 rfl rfl hi_16 rfl dX1_search_104 ?_
          refine g_aload_n C dX1_search_105 rfl 0 rfl ?_
          refine g_iload C dX1_search_106 4 rfl ?_
          refine g_iload_n C dX1_search_108 rfl 3 rfl ?_
          obtain ⟨hi_17, h⟩ := h
          refine g_callVv (wr := [((ad 1), .inr (0, [.ref (ad 2), .ref (ad 3), .ref (ad 4), .ref (ad 5), .ref (ad 6), .ref (ad 7), .int C_size])), ((ad 7), .inl (cA 0, 216, .inl C_beyond)), ((ad 9), .inl (cA 0, 36, .inl F_springs)), ((ad 10), .inl (cA 0, 36, .inl F_drains)), ((ad 11), .inl (cA 0, 216, .inl F_passes)), ((ad 12), .inl (cA 0, 36, .inl (upd F_cameFrom x4_10.toNatClampNeg x2)))]) C (c_X1_see ad cA x4_10 x3 F_queued F_settled F_settledRise F_amount F_lowest F_highest F_cameBy F_queue hi_17) gX1_search_X1_see rfl hde_X1_see ⟨rfl, rfl⟩ (by decide) (by decide) [2, 7, 8] [0, 1, 3, 4, 5, 6] [0, 1, 6, 2, 3, 4, 5, 7, 8] rfl rfl rfl rfl (by decide) rfl (ws2 := fun u => [((ad 1), .inr (0, [.ref (ad 2), .ref (ad 3), .ref (ad 4), .ref (ad 5), .ref (ad 6), .ref (ad 7), .int C_size])), ((ad 7), .inl (cA 0, 216, .inl C_beyond)), ((ad 8), .inr (1, [.ref (ad 1), .ref (ad 9), .ref (ad 10), .ref (ad 11), .ref (ad 12), .ref (ad 13), .ref (ad 14), .int u.2.2, .int F_settled, .int F_settledRise, .long F_amount, .long F_lowest, .long F_highest])), ((ad 9), .inl (cA 0, 36, .inl F_springs)), ((ad 10), .inl (cA 0, 36, .inl F_drains)), ((ad 11), .inl (cA 0, 216, .inl F_passes)), ((ad 12), .inl (cA 0, 36, .inl (upd F_cameFrom x4_10.toNatClampNeg x2))), ((ad 13), .inl (cA 0, 36, .inl u.1)), ((ad 14), .inl (cA 0, 36, .inl u.2.1))]) (fun _ => rfl) 1 0 rfl rfl rfl (rest := []) rfl (Nat.le_of_ble_eq_true rfl) dX1_search_109 (fun u_18 hp_18 => ?_)
          obtain ⟨u18_F_cameBy, u18_F_queue, u18_F_queued⟩ := u_18
          replace h := h u18_F_cameBy u18_F_queue u18_F_queued hp_18
          change gW X 0 0 [((ad 1), .inr (0, [.ref (ad 2), .ref (ad 3), .ref (ad 4), .ref (ad 5), .ref (ad 6), .ref (ad 7), .int C_size])), ((ad 7), .inl (cA 0, 216, .inl C_beyond)), ((ad 8), .inr (1, [.ref (ad 1), .ref (ad 9), .ref (ad 10), .ref (ad 11), .ref (ad 12), .ref (ad 13), .ref (ad 14), .int u18_F_queued, .int F_settled, .int F_settledRise, .long F_amount, .long F_lowest, .long F_highest])), ((ad 9), .inl (cA 0, 36, .inl F_springs)), ((ad 10), .inl (cA 0, 36, .inl F_drains)), ((ad 11), .inl (cA 0, 216, .inl F_passes)), ((ad 12), .inl (cA 0, 36, .inl (upd F_cameFrom x4_10.toNatClampNeg x2))), ((ad 13), .inl (cA 0, 36, .inl u18_F_cameBy)), ((ad 14), .inl (cA 0, 36, .inl u18_F_queue))] 5 [(0, .ref (ad 8)), (1, .int x1), (2, .int x2), (3, .int x3), (4, .int x4_10)] [] 112
          refine g_iinc (v := (x3 + 1)) (lv2 := [(0, .ref (ad 8)), (1, .int x1), (2, .int x2), (3, .int (x3 + 1)), (4, .int x4_10)]) C dX1_search_112 3 rfl (by first | rfl | decide) (by decide) [1, 2, 3, 0, 4] rfl ?_
          refine g_goto (tgt := 44) C dX1_search_115 (by decide) ?_
          exact g_lv [0, 1, 2, 3] rfl h
def prX1_search (C_size : Int32) (C_beyond : Nat → Int32) (F_queued : Int32) (F_settled : Int32) (F_settledRise : Int32) (F_amount : Int64) (F_lowest : Int64) (F_highest : Int64) (F_springs : Nat → Int32) (F_drains : Nat → Int32) (F_passes : Nat → Int32) (F_cameFrom : Nat → Int32) (F_cameBy : Nat → Int32) (F_queue : Nat → Int32) : Prop := ∃ n pl, grOK n C_beyond pl ∧ C_size = nI n
def po_X1_search (ad : Nat → Nat) (cA : Nat → ClassId) (C_size : Int32) (C_beyond : Nat → Int32) (F_queued : Int32) (F_settled : Int32) (F_settledRise : Int32) (F_amount : Int64) (F_lowest : Int64) (F_highest : Int64) (F_springs : Nat → Int32) (F_drains : Nat → Int32) (F_passes : Nat → Int32) (F_cameFrom : Nat → Int32) (F_cameBy : Nat → Int32) (F_queue : Nat → Int32) (r : Int32) (u : (Nat → Int32) × (Nat → Int32) × (Nat → Int32) × (Int32)) : Prop := ∀ n pl, grOK n C_beyond pl → C_size = nI n → frOK n C_beyond F_springs F_passes u.1 u.2.1 ∧ ((r = -1 ∧ frDone n C_beyond F_drains F_passes u.2.1) ∨ ∃ e, e < n ∧ r = nI e ∧ posS F_drains e ∧ vis u.2.1 e = true)
set_option maxHeartbeats 4000000 in
set_option maxRecDepth 100000 in
theorem c_X1_search (ad : Nat → Nat) (cA : Nat → ClassId) (C_size : Int32) (C_beyond : Nat → Int32) (F_queued : Int32) (F_settled : Int32) (F_settledRise : Int32) (F_amount : Int64) (F_lowest : Int64) (F_highest : Int64) (F_springs : Nat → Int32) (F_drains : Nat → Int32) (F_passes : Nat → Int32) (F_cameFrom : Nat → Int32) (F_cameBy : Nat → Int32) (F_queue : Nat → Int32) (hq : prX1_search C_size C_beyond F_queued F_settled F_settledRise F_amount F_lowest F_highest F_springs F_drains F_passes F_cameFrom F_cameBy F_queue) : ∀ (l : Launch) (D : va_G), gMi (S := (Nat → Int32) × (Nat → Int32) × (Nat → Int32) × (Int32)) l yX1_search wsX1_search rmX1_search D (gT cA) 0 0 [.ref (ad 8)] (wcX1_search ad cA C_size C_beyond F_queued F_settled F_settledRise F_amount F_lowest F_highest F_springs F_drains F_passes F_cameFrom F_cameBy F_queue) (po_X1_search ad cA C_size C_beyond F_queued F_settled F_settledRise F_amount F_lowest F_highest F_springs F_drains F_passes F_cameFrom F_cameBy F_queue) (w1X1_search ad cA C_size C_beyond F_settled F_settledRise F_amount F_lowest F_highest F_springs F_drains F_passes) := by
  intro l D
  unfold prX1_search at hq
  refine g_enteri (cc := cX1_search) (nL := 5) (ret := (some .int)) (by decide) rfl (Nat.le_of_ble_eq_true rfl) rfl (fun X C E => ?_)
  obtain ⟨n, pl, hg, rfl⟩ := hq
  have hn := hg.2.1
  have key : ∀ hd tl cf cb q rk, BI n (frE C_beyond F_passes) (posS F_springs) (fun c => ¬ posS F_drains c) (fun _ => False) hd tl cf cb q rk → frOK n C_beyond F_springs F_passes cf cb := by
    intro hd tl cf cb q rk h
    have := BI_le h
    obtain ⟨a1, a2, a3, a4, a5⟩ := h
    exact ⟨rk, a4, fun c hc hv => ⟨by have := (a5 c hc hv).1; omega, (a5 c hc hv).2⟩⟩
  have fin : ∀ (r : Int32) cf cb q (qd : Int32), frOK n C_beyond F_springs F_passes cf cb → ((r = -1 ∧ frDone n C_beyond F_drains F_passes cb) ∨ ∃ e, e < n ∧ r = nI e ∧ posS F_drains e ∧ vis cb e = true) → po_X1_search ad cA (nI n) C_beyond F_queued F_settled F_settledRise F_amount F_lowest F_highest F_springs F_drains F_passes F_cameFrom F_cameBy F_queue r (cf, cb, q, qd) := by
    intro r cf cb q qd h1 h2 n' pl' hg' e
    have hn' := hg'.2.1
    rw [nI_eq (by omega) (by omega)] at e
    subst e
    exact ⟨h1, h2⟩
  refine sgX1_search_0 C E ⟨⟨n, hn, rfl, rfl⟩, fun cb q qd hr => ?_⟩
  obtain ⟨tl, htl, e0, hst⟩ := hr n hn rfl
  dsimp only at e0 hst
  subst e0
  have loop : ∀ (m hd tl : Nat) cf cb q rk, n - hd < m → BI n (frE C_beyond F_passes) (posS F_springs) (fun c => ¬ posS F_drains c) (fun _ => False) hd tl cf cb q rk → hd ≤ tl → atX1_search_10 X ad cA (nI hd) (nI n) C_beyond (nI tl) F_settled F_settledRise F_amount F_lowest F_highest F_springs F_drains F_passes cf cb q := by
    intro m
    induction m with
    | zero => intro hd tl cf cb q rk h; exact absurd h (Nat.not_lt_zero _)
    | succ m ih =>
      intro hd tl cf cb q rk hm hB hle
      have htn := BI_le hB
      have out : hd = tl → po_X1_search ad cA (nI n) C_beyond F_queued F_settled F_settledRise F_amount F_lowest F_highest F_springs F_drains F_passes F_cameFrom F_cameBy F_queue (-1) (cf, cb, q, nI tl) := by
        intro e
        refine fin _ _ _ _ _ (key _ _ _ _ _ _ hB) (Or.inl ⟨rfl, fun c hc hv => ?_⟩)
        rcases hB.2.2.1 c hc hv with b | ⟨j, b1, b2, _⟩ | b
        · exact b
        · omega
        · exact absurd b id
      refine sgX1_search_10 C E ⟨fun c => out ?_, fun _ => ⟨fun c => out ?_, fun c => ?_⟩⟩
      · have := (nI_leI (a := 36) (by omega) (by omega)).mp c; omega
      · have := (nI_leI (by omega) (by omega)).mp c; omega
      · have hlt : hd < tl := Nat.lt_of_not_le (fun q => c (nI_le q (by omega)))
        obtain ⟨c0, hc0, hq0, hv0⟩ := hB.2.1 hd hlt
        rw [nI_clamp (n := hd) (by omega), hq0]
        refine ⟨vp_in_nI (by omega) (by decide), vp_in_nI (by omega) (by decide), fun c1 => ?_, fun c1 => fin _ _ _ _ _ (key _ _ _ _ _ _ hB) (Or.inr ⟨c0, hc0, rfl, ?_, hv0⟩)⟩ <;> rw [nI_clamp (n := c0) (by omega)] at c1
        · have hd0 : ¬ posS F_drains c0 := i32_le0.mp c1
          have inner : ∀ (k s : Nat) tl cf cb q rk, s + k = 6 → BI n (frE C_beyond F_passes) (posS F_springs) (fun c => ¬ posS F_drains c) (fun c => c = c0) (hd + 1) tl cf cb q rk → hd + 1 ≤ tl → vis cb c0 = true → (∀ s', s' < s → ∀ d, frE C_beyond F_passes c0 s' d → vis cb d = true) → atX1_search_44 X ad cA (nI hd) (nI c0) (nI s) (nI n) C_beyond (nI tl) F_settled F_settledRise F_amount F_lowest F_highest F_springs F_drains F_passes cf cb q := by
            intro k
            induction k with
            | zero =>
              intro s tl cf cb q rk hs hI htl hv hcl
              have e6 : s = 6 := by omega
              refine sgX1_search_44 C E ⟨fun _ => ?_, fun c => absurd (by rw [e6]; exact i32_le_refl _) c⟩
              rw [nI_1 hd]
              exact ih (hd + 1) tl cf cb q rk (by omega) (BI_put hI ⟨hd0, fun s' hs' d hE => hcl s' (by omega) d hE⟩) htl
            | succ k ihk =>
              intro s tl cf cb q rk hs hI htl hv hcl
              have htn2 := BI_le hI
              refine sgX1_search_44 C E ⟨fun c => absurd c (nI_ge (b := 6) (by omega) (by decide)), fun _ => ?_⟩
              rw [nI6, nI_clamp (n := 6 * c0 + s) (by omega)]
              refine ⟨vp_in_nI (by omega) (by decide), fun v ev => ?_⟩
              have next : (∀ d, frE C_beyond F_passes c0 s d → vis cb d = true) → atX1_search_44 X ad cA (nI hd) (nI c0) (nI s + 1) (nI n) C_beyond (nI tl) F_settled F_settledRise F_amount F_lowest F_highest F_springs F_drains F_passes cf cb q := by
                intro hn2
                rw [nI_1 s]
                refine ihk (s + 1) tl cf cb q rk (by omega) hI htl hv (fun s' hs' d hE => ?_)
                rcases Nat.lt_or_ge s' s with g | g
                · exact hcl s' g d hE
                · have e : s' = s := by omega
                  rw [e] at hE; exact hn2 d hE
              rcases (hg.2.2 c0 hc0).2 s (by omega) with hb | ⟨d, hd1, hdc, hb, hb2, _, _⟩
              · refine ⟨fun _ => next (fun d hE => ?_), fun c => absurd (ev.trans hb) c⟩
                exact absurd (hE.2.1.symm.trans hb) (n1_ne hE.1)
              · rw [hb] at ev
                subst ev
                refine ⟨fun c => absurd c (n1_ne (by omega)), fun _ => ?_⟩
                rw [nI_clamp (n := d) (by omega)]
                refine ⟨vp_in_nI (by omega) (by decide), fun c => next (fun d' hE => ?_), fun c => ⟨vp_in_nI (by omega) (by decide), fun c2 => next (fun d' hE => absurd hE.2.2 (i32_le0.mp c2)), fun c2 => ?_⟩⟩
                · have e := hE.2.1
                  rw [hb, nI_eq (by omega) (by have := hE.1; omega)] at e
                  rw [← e]; exact vis_t.mpr c
                · have hE : frE C_beyond F_passes c0 s d := ⟨by omega, hb, i32_nle0.mp c2⟩
                  obtain ⟨g1, g2⟩ := BI_add hn hI htl hc0 (show s < 6 by omega) hd1 hE hv (vis_f.mpr c)
                  have mono : ∀ c, vis cb c = true → vis (upd cb d (nI s)) c = true := fun c hc => (vis_upd (by omega) c).mpr (Or.inr hc)
                  refine ⟨vp_in_nI (by omega) (by decide), ⟨d, tl, by omega, by omega, rfl, rfl⟩, fun cb2 q2 t2 hse => ?_⟩
                  have hse := hse d tl (by omega) (by omega) rfl rfl
                  simp only [Prod.mk.injEq] at hse
                  obtain ⟨rfl, rfl, rfl⟩ := hse
                  rw [nI_1 s]
                  refine ihk (s + 1) (tl + 1) _ _ _ _ (by omega) g2 (by omega) (mono _ hv) (fun s' hs' d' hE' => ?_)
                  rcases Nat.lt_or_ge s' s with g | g
                  · exact mono _ (hcl s' g d' hE')
                  · have e : s' = s := by omega
                    rw [e] at hE'
                    have e2 := hE'.2.1
                    rw [hb, nI_eq (by omega) (by have := hE'.1; omega)] at e2
                    rw [← e2]; exact (vis_upd (by omega) d).mpr (Or.inl rfl)
          exact inner 6 0 tl cf cb q rk rfl (BI_take hn hB hc0 hq0) hlt hv0 (fun s' hs' => absurd hs' (Nat.not_lt_zero s'))
        · exact i32_nle0.mp c1
  exact loop (n + 1) 0 tl F_cameFrom cb q _ (by omega) (BI_start hst) (Nat.zero_le _)


theorem rv_xor {s : Nat} (hs : s < 6) : nI s ^^^ (1 : Int32) = nI (rv s) := by
  rcases (show s = 0 ∨ s = 1 ∨ s = 2 ∨ s = 3 ∨ s = 4 ∨ s = 5 by omega) with rfl | rfl | rfl | rfl | rfl | rfl <;> decide
theorem rv_lt {s : Nat} (hs : s < 6) : rv s < 6 := by unfold rv; split <;> omega
theorem rv_rv {s : Nat} (hs : s < 6) : rv (rv s) = s := by
  rcases (show s = 0 ∨ s = 1 ∨ s = 2 ∨ s = 3 ∨ s = 4 ∨ s = 5 by omega) with rfl | rfl | rfl | rfl | rfl | rfl <;> rfl
/-- what a search back from the drains has found -/
def bkOK (n : Nat) (be dr pa cb : Nat → Int32) : Prop := (∀ c, c < n → posS dr c → vis cb c = true) ∧ (∀ c, c < n → vis cb c = true → ∀ s, s < 6 → ∀ d, bkE be pa c s d → vis cb d = true) ∧ ∃ (rk : Nat → Nat) (cf : Nat → Int32), ∀ c, c < n → vis cb c = true → bPar n (bkE be pa) (posS dr) cf cb rk c

abbrev w1X1_searchBack (ad : Nat → Nat) (cA : Nat → ClassId) (C_size : Int32) (C_beyond : Nat → Int32) (F_settled : Int32) (F_settledRise : Int32) (F_amount : Int64) (F_lowest : Int64) (F_highest : Int64) (F_drains : Nat → Int32) (F_passes : Nat → Int32) (u : (Nat → Int32) × (Nat → Int32) × (Int32)) : va_W := [((ad 1), .inr (0, [.ref (ad 2), .ref (ad 3), .ref (ad 4), .ref (ad 5), .ref (ad 6), .ref (ad 7), .int C_size])), ((ad 7), .inl (cA 0, 216, .inl C_beyond)), ((ad 8), .inr (1, [.ref (ad 1), .ref (ad 9), .ref (ad 10), .ref (ad 11), .ref (ad 12), .ref (ad 13), .ref (ad 14), .int u.2.2, .int F_settled, .int F_settledRise, .long F_amount, .long F_lowest, .long F_highest])), ((ad 10), .inl (cA 0, 36, .inl F_drains)), ((ad 11), .inl (cA 0, 216, .inl F_passes)), ((ad 13), .inl (cA 0, 36, .inl u.1)), ((ad 14), .inl (cA 0, 36, .inl u.2.1))]
abbrev wcX1_searchBack (ad : Nat → Nat) (cA : Nat → ClassId) (C_size : Int32) (C_beyond : Nat → Int32) (F_queued : Int32) (F_settled : Int32) (F_settledRise : Int32) (F_amount : Int64) (F_lowest : Int64) (F_highest : Int64) (F_drains : Nat → Int32) (F_passes : Nat → Int32) (F_cameBy : Nat → Int32) (F_queue : Nat → Int32) : va_W := [((ad 1), .inr (0, [.ref (ad 2), .ref (ad 3), .ref (ad 4), .ref (ad 5), .ref (ad 6), .ref (ad 7), .int C_size])), ((ad 7), .inl (cA 0, 216, .inl C_beyond)), ((ad 8), .inr (1, [.ref (ad 1), .ref (ad 9), .ref (ad 10), .ref (ad 11), .ref (ad 12), .ref (ad 13), .ref (ad 14), .int F_queued, .int F_settled, .int F_settledRise, .long F_amount, .long F_lowest, .long F_highest])), ((ad 10), .inl (cA 0, 36, .inl F_drains)), ((ad 11), .inl (cA 0, 216, .inl F_passes)), ((ad 13), .inl (cA 0, 36, .inl F_cameBy)), ((ad 14), .inl (cA 0, 36, .inl F_queue))]
def rmX1_searchBack : Room := { frames := 2, cells := 0, slots := 0, locals := 44 }
abbrev atX1_searchBack_0 (X : gX) (ad : Nat → Nat) (cA : Nat → ClassId) (C_size : Int32) (C_beyond : Nat → Int32) (F_queued : Int32) (F_settled : Int32) (F_settledRise : Int32) (F_amount : Int64) (F_lowest : Int64) (F_highest : Int64) (F_drains : Nat → Int32) (F_passes : Nat → Int32) (F_cameBy : Nat → Int32) (F_queue : Nat → Int32) : Prop := gW X 0 0 [((ad 1), .inr (0, [.ref (ad 2), .ref (ad 3), .ref (ad 4), .ref (ad 5), .ref (ad 6), .ref (ad 7), .int C_size])), ((ad 7), .inl (cA 0, 216, .inl C_beyond)), ((ad 8), .inr (1, [.ref (ad 1), .ref (ad 9), .ref (ad 10), .ref (ad 11), .ref (ad 12), .ref (ad 13), .ref (ad 14), .int F_queued, .int F_settled, .int F_settledRise, .long F_amount, .long F_lowest, .long F_highest])), ((ad 10), .inl (cA 0, 36, .inl F_drains)), ((ad 11), .inl (cA 0, 216, .inl F_passes)), ((ad 13), .inl (cA 0, 36, .inl F_cameBy)), ((ad 14), .inl (cA 0, 36, .inl F_queue))] 5 [(0, .ref (ad 8))] [] 0
abbrev atX1_searchBack_10 (X : gX) (ad : Nat → Nat) (cA : Nat → ClassId) (x1 : Int32) (C_size : Int32) (C_beyond : Nat → Int32) (F_queued : Int32) (F_settled : Int32) (F_settledRise : Int32) (F_amount : Int64) (F_lowest : Int64) (F_highest : Int64) (F_drains : Nat → Int32) (F_passes : Nat → Int32) (F_cameBy : Nat → Int32) (F_queue : Nat → Int32) : Prop := gW X 0 0 [((ad 1), .inr (0, [.ref (ad 2), .ref (ad 3), .ref (ad 4), .ref (ad 5), .ref (ad 6), .ref (ad 7), .int C_size])), ((ad 7), .inl (cA 0, 216, .inl C_beyond)), ((ad 8), .inr (1, [.ref (ad 1), .ref (ad 9), .ref (ad 10), .ref (ad 11), .ref (ad 12), .ref (ad 13), .ref (ad 14), .int F_queued, .int F_settled, .int F_settledRise, .long F_amount, .long F_lowest, .long F_highest])), ((ad 10), .inl (cA 0, 36, .inl F_drains)), ((ad 11), .inl (cA 0, 216, .inl F_passes)), ((ad 13), .inl (cA 0, 36, .inl F_cameBy)), ((ad 14), .inl (cA 0, 36, .inl F_queue))] 5 [(0, .ref (ad 8)), (1, .int x1)] [] 10
abbrev atX1_searchBack_33 (X : gX) (ad : Nat → Nat) (cA : Nat → ClassId) (x1 : Int32) (x2 : Int32) (x3 : Int32) (C_size : Int32) (C_beyond : Nat → Int32) (F_queued : Int32) (F_settled : Int32) (F_settledRise : Int32) (F_amount : Int64) (F_lowest : Int64) (F_highest : Int64) (F_drains : Nat → Int32) (F_passes : Nat → Int32) (F_cameBy : Nat → Int32) (F_queue : Nat → Int32) : Prop := gW X 0 0 [((ad 1), .inr (0, [.ref (ad 2), .ref (ad 3), .ref (ad 4), .ref (ad 5), .ref (ad 6), .ref (ad 7), .int C_size])), ((ad 7), .inl (cA 0, 216, .inl C_beyond)), ((ad 8), .inr (1, [.ref (ad 1), .ref (ad 9), .ref (ad 10), .ref (ad 11), .ref (ad 12), .ref (ad 13), .ref (ad 14), .int F_queued, .int F_settled, .int F_settledRise, .long F_amount, .long F_lowest, .long F_highest])), ((ad 10), .inl (cA 0, 36, .inl F_drains)), ((ad 11), .inl (cA 0, 216, .inl F_passes)), ((ad 13), .inl (cA 0, 36, .inl F_cameBy)), ((ad 14), .inl (cA 0, 36, .inl F_queue))] 5 [(0, .ref (ad 8)), (1, .int x1), (2, .int x2), (3, .int x3)] [] 33
theorem giX1_searchBack_X1 : ∀ w ∈ u_ws RX1 TX1 13, w ∈ wsX1_searchBack := by decide +kernel
theorem gfX1_searchBack_22 : gF wsX1_searchBack RX1 22 1 2 RX1 TX1 13 := ⟨giX1_searchBack_X1, by decide +kernel, rfl, by decide⟩
theorem gfX1_searchBack_37 : gF wsX1_searchBack RX1 37 1 7 RX1 TX1 13 := ⟨giX1_searchBack_X1, by decide +kernel, rfl, by decide⟩
theorem gfX1_searchBack_34 : gF wsX1_searchBack RX1 34 1 6 RX1 TX1 13 := ⟨giX1_searchBack_X1, by decide +kernel, rfl, by decide⟩
theorem gfX1_searchBack_12 : gF wsX1_searchBack RX1 12 1 0 RX1 TX1 13 := ⟨giX1_searchBack_X1, by decide +kernel, rfl, by decide⟩
theorem giX1_searchBack_X0 : ∀ w ∈ u_ws RX0 TX0 7, w ∈ wsX1_searchBack := by decide +kernel
theorem gfX1_searchBack_93 : gF wsX1_searchBack RX1 93 0 5 RX0 TX0 7 := ⟨giX1_searchBack_X0, by decide +kernel, rfl, by decide⟩
theorem gfX1_searchBack_31 : gF wsX1_searchBack RX1 31 1 5 RX1 TX1 13 := ⟨giX1_searchBack_X1, by decide +kernel, rfl, by decide⟩
theorem gfX1_searchBack_25 : gF wsX1_searchBack RX1 25 1 3 RX1 TX1 13 := ⟨giX1_searchBack_X1, by decide +kernel, rfl, by decide⟩
set_option maxHeartbeats 4000000 in
set_option maxRecDepth 100000 in
theorem sgX1_searchBack_0 {X : gX} {ad : Nat → Nat} {cA : Nat → ClassId} {post : ((Nat → Int32) × (Nat → Int32) × (Int32)) → Prop} {C_size : Int32} {C_beyond : Nat → Int32} {F_queued : Int32} {F_settled : Int32} {F_settledRise : Int32} {F_amount : Int64} {F_lowest : Int64} {F_highest : Int64} {F_drains : Nat → Int32} {F_passes : Nat → Int32} {F_cameBy : Nat → Int32} {F_queue : Nat → Int32} (C : gC X (gT cA) cX1_searchBack 5 RX1 wsX1_searchBack rmX1_searchBack) (E : gEv X none (gT cA) 0 0 post (w1X1_searchBack ad cA C_size C_beyond F_settled F_settledRise F_amount F_lowest F_highest F_drains F_passes)) (h : prX1_startAt (ad 10) 36 C_size F_queued F_settled F_settledRise F_amount F_lowest F_highest F_cameBy F_queue F_drains ∧ ∀ (u2_F_cameBy : Nat → Int32) (u2_F_queue : Nat → Int32) (u2_F_queued : Int32), po_X1_startAt ad cA (ad 10) 36 C_size F_queued F_settled F_settledRise F_amount F_lowest F_highest F_cameBy F_queue F_drains (u2_F_cameBy, u2_F_queue, u2_F_queued) → atX1_searchBack_10 X ad cA (0 : Int32) C_size C_beyond u2_F_queued F_settled F_settledRise F_amount F_lowest F_highest F_drains F_passes u2_F_cameBy u2_F_queue) : atX1_searchBack_0 X ad cA C_size C_beyond F_queued F_settled F_settledRise F_amount F_lowest F_highest F_drains F_passes F_cameBy F_queue := by
  refine g_aload_n C dX1_searchBack_0 rfl 0 rfl ?_
  refine g_aload_n C dX1_searchBack_1 rfl 0 rfl ?_
  refine g_get C gfX1_searchBack_22 2 rfl rfl dX1_searchBack_2 ?_
  obtain ⟨hi_1, h⟩ := h
  refine g_callVv (wr := [((ad 7), .inl (cA 0, 216, .inl C_beyond)), ((ad 11), .inl (cA 0, 216, .inl F_passes))]) C (c_X1_startAt ad cA (ad 10) 36 C_size F_queued F_settled F_settledRise F_amount F_lowest F_highest F_cameBy F_queue F_drains hi_1) gX1_searchBack_X1_startAt rfl hde_X1_startAt ⟨rfl, rfl⟩ (by decide) (by decide) [0, 2, 5, 6, 3] [1, 4] [2, 0, 3, 6, 1, 4, 5] rfl rfl rfl rfl (by decide) rfl (ws2 := fun u => [((ad 1), .inr (0, [.ref (ad 2), .ref (ad 3), .ref (ad 4), .ref (ad 5), .ref (ad 6), .ref (ad 7), .int C_size])), ((ad 7), .inl (cA 0, 216, .inl C_beyond)), ((ad 8), .inr (1, [.ref (ad 1), .ref (ad 9), .ref (ad 10), .ref (ad 11), .ref (ad 12), .ref (ad 13), .ref (ad 14), .int u.2.2, .int F_settled, .int F_settledRise, .long F_amount, .long F_lowest, .long F_highest])), ((ad 10), .inl (cA 0, 36, .inl F_drains)), ((ad 11), .inl (cA 0, 216, .inl F_passes)), ((ad 13), .inl (cA 0, 36, .inl u.1)), ((ad 14), .inl (cA 0, 36, .inl u.2.1))]) (fun _ => rfl) 1 1 rfl rfl rfl (rest := []) rfl (Nat.le_of_ble_eq_true rfl) dX1_searchBack_5 (fun u_2 hp_2 => ?_)
  obtain ⟨u2_F_cameBy, u2_F_queue, u2_F_queued⟩ := u_2
  replace h := h u2_F_cameBy u2_F_queue u2_F_queued hp_2
  change gW X 0 0 [((ad 1), .inr (0, [.ref (ad 2), .ref (ad 3), .ref (ad 4), .ref (ad 5), .ref (ad 6), .ref (ad 7), .int C_size])), ((ad 7), .inl (cA 0, 216, .inl C_beyond)), ((ad 8), .inr (1, [.ref (ad 1), .ref (ad 9), .ref (ad 10), .ref (ad 11), .ref (ad 12), .ref (ad 13), .ref (ad 14), .int u2_F_queued, .int F_settled, .int F_settledRise, .long F_amount, .long F_lowest, .long F_highest])), ((ad 10), .inl (cA 0, 36, .inl F_drains)), ((ad 11), .inl (cA 0, 216, .inl F_passes)), ((ad 13), .inl (cA 0, 36, .inl u2_F_cameBy)), ((ad 14), .inl (cA 0, 36, .inl u2_F_queue))] 5 [(0, .ref (ad 8))] [] 8
  refine g_iconst C dX1_searchBack_8 ik_0 ?_
  refine g_istore_n (lv2 := [(0, .ref (ad 8)), (1, .int (0 : Int32))]) C dX1_searchBack_9 rfl (by decide) [1, 0] rfl ?_
  exact g_lv [0, 1] rfl h
set_option maxHeartbeats 4000000 in
set_option maxRecDepth 100000 in
theorem sgX1_searchBack_10 {X : gX} {ad : Nat → Nat} {cA : Nat → ClassId} {post : ((Nat → Int32) × (Nat → Int32) × (Int32)) → Prop} {x1 : Int32} {C_size : Int32} {C_beyond : Nat → Int32} {F_queued : Int32} {F_settled : Int32} {F_settledRise : Int32} {F_amount : Int64} {F_lowest : Int64} {F_highest : Int64} {F_drains : Nat → Int32} {F_passes : Nat → Int32} {F_cameBy : Nat → Int32} {F_queue : Nat → Int32} (C : gC X (gT cA) cX1_searchBack 5 RX1 wsX1_searchBack rmX1_searchBack) (E : gEv X none (gT cA) 0 0 post (w1X1_searchBack ad cA C_size C_beyond F_settled F_settledRise F_amount F_lowest F_highest F_drains F_passes)) (h : ((36 : Int32) ≤ x1 → post (F_cameBy, F_queue, F_queued)) ∧ (¬ (36 : Int32) ≤ x1 → (F_queued ≤ x1 → post (F_cameBy, F_queue, F_queued)) ∧ (¬ F_queued ≤ x1 → vp_in x1 36 ∧ atX1_searchBack_33 X ad cA x1 (F_queue x1.toNatClampNeg) (0 : Int32) C_size C_beyond F_queued F_settled F_settledRise F_amount F_lowest F_highest F_drains F_passes F_cameBy F_queue))) : atX1_searchBack_10 X ad cA x1 C_size C_beyond F_queued F_settled F_settledRise F_amount F_lowest F_highest F_drains F_passes F_cameBy F_queue := by
  refine g_iload_n C dX1_searchBack_10 rfl 1 rfl ?_
  refine g_bipush C dX1_searchBack_11 bk_36 ?_
  refine g_icmp_ge (tgt := 108) C dX1_searchBack_13 (by decide) (fun c_3 => ?_) (fun c_3 => ?_)
  · replace h := h.1 c_3
    exact g_vret C E (F_cameBy, F_queue, F_queued) h rfl dX1_searchBack_108
  · replace h := h.2 c_3
    refine g_iload_n C dX1_searchBack_16 rfl 1 rfl ?_
    refine g_aload_n C dX1_searchBack_17 rfl 0 rfl ?_
    refine g_get C gfX1_searchBack_37 2 rfl rfl dX1_searchBack_18 ?_
    refine g_icmp_ge (tgt := 108) C dX1_searchBack_21 (by decide) (fun c_4 => ?_) (fun c_4 => ?_)
    · replace h := h.1 c_4
      exact g_vret C E (F_cameBy, F_queue, F_queued) h rfl dX1_searchBack_108
    · replace h := h.2 c_4
      refine g_aload_n C dX1_searchBack_24 rfl 0 rfl ?_
      refine g_get C gfX1_searchBack_34 2 rfl rfl dX1_searchBack_25 ?_
      refine g_iload_n C dX1_searchBack_28 rfl 1 rfl ?_
      obtain ⟨hi_5, h⟩ := h
      refine g_iald C 6 0 rfl rfl hi_5 dX1_searchBack_29 ?_
      refine g_istore_n (lv2 := [(0, .ref (ad 8)), (1, .int x1), (2, .int (F_queue x1.toNatClampNeg))]) C dX1_searchBack_30 rfl (by decide) [1, 2, 0] rfl ?_
      refine g_iconst C dX1_searchBack_31 ik_0 ?_
      refine g_istore_n (lv2 := [(0, .ref (ad 8)), (1, .int x1), (2, .int (F_queue x1.toNatClampNeg)), (3, .int (0 : Int32))]) C dX1_searchBack_32 rfl (by decide) [1, 2, 3, 0] rfl ?_
      exact g_lv [0, 1, 2, 3] rfl h
set_option maxHeartbeats 4000000 in
set_option maxRecDepth 100000 in
theorem sgX1_searchBack_33 {X : gX} {ad : Nat → Nat} {cA : Nat → ClassId} {post : ((Nat → Int32) × (Nat → Int32) × (Int32)) → Prop} {x1 : Int32} {x2 : Int32} {x3 : Int32} {C_size : Int32} {C_beyond : Nat → Int32} {F_queued : Int32} {F_settled : Int32} {F_settledRise : Int32} {F_amount : Int64} {F_lowest : Int64} {F_highest : Int64} {F_drains : Nat → Int32} {F_passes : Nat → Int32} {F_cameBy : Nat → Int32} {F_queue : Nat → Int32} (C : gC X (gT cA) cX1_searchBack 5 RX1 wsX1_searchBack rmX1_searchBack) (E : gEv X none (gT cA) 0 0 post (w1X1_searchBack ad cA C_size C_beyond F_settled F_settledRise F_amount F_lowest F_highest F_drains F_passes)) (h : ((6 : Int32) ≤ x3 → atX1_searchBack_10 X ad cA (x1 + 1) C_size C_beyond F_queued F_settled F_settledRise F_amount F_lowest F_highest F_drains F_passes F_cameBy F_queue) ∧ (¬ (6 : Int32) ≤ x3 → vp_in ((x2 * (6 : Int32)) + x3) 216 ∧ ∀ x4_8 : Int32, x4_8 = (C_beyond ((x2 * (6 : Int32)) + x3).toNatClampNeg) → (x4_8 = (-1 : Int32) → atX1_searchBack_33 X ad cA x1 x2 (x3 + 1) C_size C_beyond F_queued F_settled F_settledRise F_amount F_lowest F_highest F_drains F_passes F_cameBy F_queue) ∧ (¬ x4_8 = (-1 : Int32) → vp_in x4_8 36 ∧ (¬ (F_cameBy x4_8.toNatClampNeg) = (-1 : Int32) → atX1_searchBack_33 X ad cA x1 x2 (x3 + 1) C_size C_beyond F_queued F_settled F_settledRise F_amount F_lowest F_highest F_drains F_passes F_cameBy F_queue) ∧ ((F_cameBy x4_8.toNatClampNeg) = (-1 : Int32) → vp_in ((x4_8 * (6 : Int32)) + (x3 ^^^ (1 : Int32))) 216 ∧ ((F_passes ((x4_8 * (6 : Int32)) + (x3 ^^^ (1 : Int32))).toNatClampNeg) ≤ 0 → atX1_searchBack_33 X ad cA x1 x2 (x3 + 1) C_size C_beyond F_queued F_settled F_settledRise F_amount F_lowest F_highest F_drains F_passes F_cameBy F_queue) ∧ (¬ (F_passes ((x4_8 * (6 : Int32)) + (x3 ^^^ (1 : Int32))).toNatClampNeg) ≤ 0 → prX1_see x4_8 x3 F_queued F_settled F_settledRise F_amount F_lowest F_highest F_cameBy F_queue ∧ ∀ (u15_F_cameBy : Nat → Int32) (u15_F_queue : Nat → Int32) (u15_F_queued : Int32), po_X1_see ad cA x4_8 x3 F_queued F_settled F_settledRise F_amount F_lowest F_highest F_cameBy F_queue (u15_F_cameBy, u15_F_queue, u15_F_queued) → atX1_searchBack_33 X ad cA x1 x2 (x3 + 1) C_size C_beyond u15_F_queued F_settled F_settledRise F_amount F_lowest F_highest F_drains F_passes u15_F_cameBy u15_F_queue))))) : atX1_searchBack_33 X ad cA x1 x2 x3 C_size C_beyond F_queued F_settled F_settledRise F_amount F_lowest F_highest F_drains F_passes F_cameBy F_queue := by
  refine g_iload_n C dX1_searchBack_33 rfl 3 rfl ?_
  refine g_bipush C dX1_searchBack_34 bk_6 ?_
  refine g_icmp_ge (tgt := 102) C dX1_searchBack_36 (by decide) (fun c_6 => ?_) (fun c_6 => ?_)
  · replace h := h.1 c_6
    refine g_iinc (v := (x1 + 1)) (lv2 := [(0, .ref (ad 8)), (1, .int (x1 + 1)), (2, .int x2), (3, .int x3)]) C dX1_searchBack_102 1 rfl (by first | rfl | decide) (by decide) [1, 0, 2, 3] rfl ?_
    refine g_goto (tgt := 10) C dX1_searchBack_105 (by decide) ?_
    exact g_lv [0, 1] rfl h
  · replace h := h.2 c_6
    refine g_aload_n C dX1_searchBack_39 rfl 0 rfl ?_
    refine g_get C gfX1_searchBack_12 2 rfl rfl dX1_searchBack_40 ?_
    refine g_get C gfX1_searchBack_93 0 rfl rfl dX1_searchBack_43 ?_
    refine g_iload_n C dX1_searchBack_46 rfl 2 rfl ?_
    refine g_bipush C dX1_searchBack_47 bk_6 ?_
    refine g_imul C dX1_searchBack_49 ?_
    refine g_iload_n C dX1_searchBack_50 rfl 3 rfl ?_
    refine g_iadd C dX1_searchBack_51 ?_
    obtain ⟨hi_7, h⟩ := h
    refine g_iald C 1 0 rfl rfl hi_7 dX1_searchBack_52 ?_
    refine g_topi (fun x4_8 ex4_8 => ?_)
    replace h := h x4_8 ex4_8
    refine g_istore (lv2 := [(0, .ref (ad 8)), (1, .int x1), (2, .int x2), (3, .int x3), (4, .int x4_8)]) C dX1_searchBack_53 (by decide) [1, 2, 3, 4, 0] rfl ?_
    refine g_iload C dX1_searchBack_55 4 rfl ?_
    refine g_iconst C dX1_searchBack_57 ik_m1 ?_
    refine g_icmp_eq (tgt := 96) C dX1_searchBack_58 (by decide) (fun c_9 => ?_) (fun c_9 => ?_)
    · replace h := h.1 c_9
      refine g_iinc (v := (x3 + 1)) (lv2 := [(0, .ref (ad 8)), (1, .int x1), (2, .int x2), (3, .int (x3 + 1)), (4, .int x4_8)]) C dX1_searchBack_96 3 rfl (by first | rfl | decide) (by decide) [1, 2, 3, 0, 4] rfl ?_
      refine g_goto (tgt := 33) C dX1_searchBack_99 (by decide) ?_
      exact g_lv [0, 1, 2, 3] rfl h
    · replace h := h.2 c_9
      refine g_aload_n C dX1_searchBack_61 rfl 0 rfl ?_
      refine g_get C gfX1_searchBack_31 2 rfl rfl dX1_searchBack_62 ?_
      refine g_iload C dX1_searchBack_65 4 rfl ?_
      obtain ⟨hi_10, h⟩ := h
      refine g_iald C 5 0 rfl rfl hi_10 dX1_searchBack_67 ?_
      refine g_iconst C dX1_searchBack_68 ik_m1 ?_
      refine g_icmp_ne (tgt := 96) C dX1_searchBack_69 (by decide) (fun c_11 => ?_) (fun c_11 => ?_)
      · replace h := h.1 c_11
        refine g_iinc (v := (x3 + 1)) (lv2 := [(0, .ref (ad 8)), (1, .int x1), (2, .int x2), (3, .int (x3 + 1)), (4, .int x4_8)]) C dX1_searchBack_96 3 rfl (by first | rfl | decide) (by decide) [1, 2, 3, 0, 4] rfl ?_
        refine g_goto (tgt := 33) C dX1_searchBack_99 (by decide) ?_
        exact g_lv [0, 1, 2, 3] rfl h
      · replace h := h.2 c_11
        refine g_aload_n C dX1_searchBack_72 rfl 0 rfl ?_
        refine g_get C gfX1_searchBack_25 2 rfl rfl dX1_searchBack_73 ?_
        refine g_iload C dX1_searchBack_76 4 rfl ?_
        refine g_bipush C dX1_searchBack_78 bk_6 ?_
        refine g_imul C dX1_searchBack_80 ?_
        refine g_iload_n C dX1_searchBack_81 rfl 3 rfl ?_
        refine g_iconst C dX1_searchBack_82 ik_1 ?_
        refine g_ixor C dX1_searchBack_83 ?_
        refine g_iadd C dX1_searchBack_84 ?_
        obtain ⟨hi_12, h⟩ := h
        refine g_iald C 4 0 rfl rfl hi_12 dX1_searchBack_85 ?_
        refine g_if_le (tgt := 96) C dX1_searchBack_86 (by decide) (fun c_13 => ?_) (fun c_13 => ?_)
        · replace h := h.1 c_13
          refine g_iinc (v := (x3 + 1)) (lv2 := [(0, .ref (ad 8)), (1, .int x1), (2, .int x2), (3, .int (x3 + 1)), (4, .int x4_8)]) C dX1_searchBack_96 3 rfl (by first | rfl | decide) (by decide) [1, 2, 3, 0, 4] rfl ?_
          refine g_goto (tgt := 33) C dX1_searchBack_99 (by decide) ?_
          exact g_lv [0, 1, 2, 3] rfl h
        · replace h := h.2 c_13
          refine g_aload_n C dX1_searchBack_89 rfl 0 rfl ?_
          refine g_iload C dX1_searchBack_90 4 rfl ?_
          refine g_iload_n C dX1_searchBack_92 rfl 3 rfl ?_
          obtain ⟨hi_14, h⟩ := h
          refine g_callVv (wr := [((ad 1), .inr (0, [.ref (ad 2), .ref (ad 3), .ref (ad 4), .ref (ad 5), .ref (ad 6), .ref (ad 7), .int C_size])), ((ad 7), .inl (cA 0, 216, .inl C_beyond)), ((ad 10), .inl (cA 0, 36, .inl F_drains)), ((ad 11), .inl (cA 0, 216, .inl F_passes))]) C (c_X1_see ad cA x4_8 x3 F_queued F_settled F_settledRise F_amount F_lowest F_highest F_cameBy F_queue hi_14) gX1_searchBack_X1_see rfl hde_X1_see ⟨rfl, rfl⟩ (by decide) (by decide) [2, 5, 6] [0, 1, 3, 4] [0, 1, 4, 2, 3, 5, 6] rfl rfl rfl rfl (by decide) rfl (ws2 := fun u => [((ad 1), .inr (0, [.ref (ad 2), .ref (ad 3), .ref (ad 4), .ref (ad 5), .ref (ad 6), .ref (ad 7), .int C_size])), ((ad 7), .inl (cA 0, 216, .inl C_beyond)), ((ad 8), .inr (1, [.ref (ad 1), .ref (ad 9), .ref (ad 10), .ref (ad 11), .ref (ad 12), .ref (ad 13), .ref (ad 14), .int u.2.2, .int F_settled, .int F_settledRise, .long F_amount, .long F_lowest, .long F_highest])), ((ad 10), .inl (cA 0, 36, .inl F_drains)), ((ad 11), .inl (cA 0, 216, .inl F_passes)), ((ad 13), .inl (cA 0, 36, .inl u.1)), ((ad 14), .inl (cA 0, 36, .inl u.2.1))]) (fun _ => rfl) 1 0 rfl rfl rfl (rest := []) rfl (Nat.le_of_ble_eq_true rfl) dX1_searchBack_93 (fun u_15 hp_15 => ?_)
          obtain ⟨u15_F_cameBy, u15_F_queue, u15_F_queued⟩ := u_15
          replace h := h u15_F_cameBy u15_F_queue u15_F_queued hp_15
          change gW X 0 0 [((ad 1), .inr (0, [.ref (ad 2), .ref (ad 3), .ref (ad 4), .ref (ad 5), .ref (ad 6), .ref (ad 7), .int C_size])), ((ad 7), .inl (cA 0, 216, .inl C_beyond)), ((ad 8), .inr (1, [.ref (ad 1), .ref (ad 9), .ref (ad 10), .ref (ad 11), .ref (ad 12), .ref (ad 13), .ref (ad 14), .int u15_F_queued, .int F_settled, .int F_settledRise, .long F_amount, .long F_lowest, .long F_highest])), ((ad 10), .inl (cA 0, 36, .inl F_drains)), ((ad 11), .inl (cA 0, 216, .inl F_passes)), ((ad 13), .inl (cA 0, 36, .inl u15_F_cameBy)), ((ad 14), .inl (cA 0, 36, .inl u15_F_queue))] 5 [(0, .ref (ad 8)), (1, .int x1), (2, .int x2), (3, .int x3), (4, .int x4_8)] [] 96
          refine g_iinc (v := (x3 + 1)) (lv2 := [(0, .ref (ad 8)), (1, .int x1), (2, .int x2), (3, .int (x3 + 1)), (4, .int x4_8)]) C dX1_searchBack_96 3 rfl (by first | rfl | decide) (by decide) [1, 2, 3, 0, 4] rfl ?_
          refine g_goto (tgt := 33) C dX1_searchBack_99 (by decide) ?_
          exact g_lv [0, 1, 2, 3] rfl h
def prX1_searchBack (C_size : Int32) (C_beyond : Nat → Int32) (F_queued : Int32) (F_settled : Int32) (F_settledRise : Int32) (F_amount : Int64) (F_lowest : Int64) (F_highest : Int64) (F_drains : Nat → Int32) (F_passes : Nat → Int32) (F_cameBy : Nat → Int32) (F_queue : Nat → Int32) : Prop := ∃ n pl, grOK n C_beyond pl ∧ C_size = nI n
def po_X1_searchBack (ad : Nat → Nat) (cA : Nat → ClassId) (C_size : Int32) (C_beyond : Nat → Int32) (F_queued : Int32) (F_settled : Int32) (F_settledRise : Int32) (F_amount : Int64) (F_lowest : Int64) (F_highest : Int64) (F_drains : Nat → Int32) (F_passes : Nat → Int32) (F_cameBy : Nat → Int32) (F_queue : Nat → Int32) (u : (Nat → Int32) × (Nat → Int32) × (Int32)) : Prop := ∀ n pl, grOK n C_beyond pl → C_size = nI n → bkOK n C_beyond F_drains F_passes u.1
set_option maxHeartbeats 4000000 in
set_option maxRecDepth 100000 in
theorem c_X1_searchBack (ad : Nat → Nat) (cA : Nat → ClassId) (C_size : Int32) (C_beyond : Nat → Int32) (F_queued : Int32) (F_settled : Int32) (F_settledRise : Int32) (F_amount : Int64) (F_lowest : Int64) (F_highest : Int64) (F_drains : Nat → Int32) (F_passes : Nat → Int32) (F_cameBy : Nat → Int32) (F_queue : Nat → Int32) (hq : prX1_searchBack C_size C_beyond F_queued F_settled F_settledRise F_amount F_lowest F_highest F_drains F_passes F_cameBy F_queue) : ∀ (l : Launch) (D : va_G), gMv (S := (Nat → Int32) × (Nat → Int32) × (Int32)) l yX1_searchBack wsX1_searchBack rmX1_searchBack D (gT cA) 0 0 [.ref (ad 8)] (wcX1_searchBack ad cA C_size C_beyond F_queued F_settled F_settledRise F_amount F_lowest F_highest F_drains F_passes F_cameBy F_queue) (po_X1_searchBack ad cA C_size C_beyond F_queued F_settled F_settledRise F_amount F_lowest F_highest F_drains F_passes F_cameBy F_queue) (w1X1_searchBack ad cA C_size C_beyond F_settled F_settledRise F_amount F_lowest F_highest F_drains F_passes) := by
  intro l D
  unfold prX1_searchBack at hq
  refine g_enterv (cc := cX1_searchBack) (nL := 5) (ret := none) (by decide) rfl (Nat.le_of_ble_eq_true rfl) rfl (fun X C E => ?_)
  obtain ⟨n, pl, hg, rfl⟩ := hq
  have hn := hg.2.1
  refine sgX1_searchBack_0 C E ⟨⟨n, hn, rfl, rfl⟩, fun cb q qd hr => ?_⟩
  obtain ⟨tl, htl, e0, hst⟩ := hr n hn rfl
  dsimp only at e0 hst
  subst e0
  have loop : ∀ (m hd tl : Nat) cf cb q rk, n - hd < m → BI n (bkE C_beyond F_passes) (posS F_drains) (fun _ => True) (fun _ => False) hd tl cf cb q rk → hd ≤ tl → atX1_searchBack_10 X ad cA (nI hd) (nI n) C_beyond (nI tl) F_settled F_settledRise F_amount F_lowest F_highest F_drains F_passes cb q := by
    intro m
    induction m with
    | zero => intro hd tl cf cb q rk h; exact absurd h (Nat.not_lt_zero _)
    | succ m ih =>
      intro hd tl cf cb q rk hm hB hle
      have htn := BI_le hB
      have out : hd = tl → po_X1_searchBack ad cA (nI n) C_beyond F_queued F_settled F_settledRise F_amount F_lowest F_highest F_drains F_passes F_cameBy F_queue (cb, q, nI tl) := by
        intro e n' pl' hg' e'
        have hn' := hg'.2.1
        rw [nI_eq (by omega) (by omega)] at e'
        subst e'
        obtain ⟨a1, a2, a3, a4, a5⟩ := hB
        refine ⟨a4, fun c hc hv => ?_, rk, cf, fun c hc hv => (a5 c hc hv).2⟩
        rcases a3 c hc hv with b | ⟨j, b1, b2, _⟩ | b
        · exact b.2
        · omega
        · exact absurd b id
      refine sgX1_searchBack_10 C E ⟨fun c => out ?_, fun _ => ⟨fun c => out ?_, fun c => ?_⟩⟩
      · have := (nI_leI (a := 36) (by omega) (by omega)).mp c; omega
      · have := (nI_leI (by omega) (by omega)).mp c; omega
      · have hlt : hd < tl := Nat.lt_of_not_le (fun q => c (nI_le q (by omega)))
        obtain ⟨c0, hc0, hq0, hv0⟩ := hB.2.1 hd hlt
        rw [nI_clamp (n := hd) (by omega), hq0]
        refine ⟨vp_in_nI (by omega) (by decide), ?_⟩
        have inner : ∀ (k s : Nat) tl cf cb q rk, s + k = 6 → BI n (bkE C_beyond F_passes) (posS F_drains) (fun _ => True) (fun c => c = c0) (hd + 1) tl cf cb q rk → hd + 1 ≤ tl → vis cb c0 = true → (∀ s', s' < s → ∀ d, bkE C_beyond F_passes c0 s' d → vis cb d = true) → atX1_searchBack_33 X ad cA (nI hd) (nI c0) (nI s) (nI n) C_beyond (nI tl) F_settled F_settledRise F_amount F_lowest F_highest F_drains F_passes cb q := by
          intro k
          induction k with
          | zero =>
            intro s tl cf cb q rk hs hI htl hv hcl
            have e6 : s = 6 := by omega
            refine sgX1_searchBack_33 C E ⟨fun _ => ?_, fun c => absurd (by rw [e6]; exact i32_le_refl _) c⟩
            rw [nI_1 hd]
            exact ih (hd + 1) tl cf cb q rk (by omega) (BI_put hI ⟨trivial, fun s' hs' d hE => hcl s' (by omega) d hE⟩) htl
          | succ k ihk =>
            intro s tl cf cb q rk hs hI htl hv hcl
            have htn2 := BI_le hI
            refine sgX1_searchBack_33 C E ⟨fun c => absurd c (nI_ge (b := 6) (by omega) (by decide)), fun _ => ?_⟩
            rw [nI6, nI_clamp (n := 6 * c0 + s) (by omega)]
            refine ⟨vp_in_nI (by omega) (by decide), fun v ev => ?_⟩
            have next : (∀ d, bkE C_beyond F_passes c0 s d → vis cb d = true) → atX1_searchBack_33 X ad cA (nI hd) (nI c0) (nI s + 1) (nI n) C_beyond (nI tl) F_settled F_settledRise F_amount F_lowest F_highest F_drains F_passes cb q := by
              intro hn2
              rw [nI_1 s]
              refine ihk (s + 1) tl cf cb q rk (by omega) hI htl hv (fun s' hs' d hE => ?_)
              rcases Nat.lt_or_ge s' s with g | g
              · exact hcl s' g d hE
              · have e : s' = s := by omega
                rw [e] at hE; exact hn2 d hE
            rcases (hg.2.2 c0 hc0).2 s (by omega) with hb | ⟨d, hd1, hdc, hb, hb2, _, _⟩
            · refine ⟨fun _ => next (fun d hE => ?_), fun c => absurd (ev.trans hb) c⟩
              exact absurd (hE.2.1.symm.trans hb) (n1_ne hE.1)
            · rw [hb] at ev
              subst ev
              have hrl := rv_lt (show s < 6 by omega)
              refine ⟨fun c => absurd c (n1_ne (by omega)), fun _ => ?_⟩
              rw [nI_clamp (n := d) (by omega), rv_xor (by omega), nI6, nI_clamp (n := 6 * d + rv s) (by omega)]
              refine ⟨vp_in_nI (by omega) (by decide), fun c => next (fun d' hE => ?_), fun c => ⟨vp_in_nI (by omega) (by decide), fun c2 => next (fun d' hE => ?_), fun c2 => ?_⟩⟩
              · have e := hE.2.1
                rw [hb, nI_eq (by omega) (by have := hE.1; omega)] at e
                rw [← e]; exact vis_t.mpr c
              · have e := hE.2.1
                rw [hb, nI_eq (by omega) (by have := hE.1; omega)] at e
                rw [← e] at hE
                exact absurd hE.2.2 (i32_le0.mp c2)
              · have hE : bkE C_beyond F_passes c0 s d := ⟨by omega, hb, i32_nle0.mp c2⟩
                obtain ⟨g1, g2⟩ := BI_add hn hI htl hc0 (show s < 6 by omega) hd1 hE hv (vis_f.mpr c)
                have mono : ∀ c, vis cb c = true → vis (upd cb d (nI s)) c = true := fun c hc => (vis_upd (by omega) c).mpr (Or.inr hc)
                refine ⟨⟨d, tl, by omega, by omega, rfl, rfl⟩, fun cb2 q2 t2 hse => ?_⟩
                have hse := hse d tl (by omega) (by omega) rfl rfl
                simp only [Prod.mk.injEq] at hse
                obtain ⟨rfl, rfl, rfl⟩ := hse
                rw [nI_1 s]
                refine ihk (s + 1) (tl + 1) _ _ _ _ (by omega) g2 (by omega) (mono _ hv) (fun s' hs' d' hE' => ?_)
                rcases Nat.lt_or_ge s' s with g | g
                · exact mono _ (hcl s' g d' hE')
                · have e : s' = s := by omega
                  rw [e] at hE'
                  have e2 := hE'.2.1
                  rw [hb, nI_eq (by omega) (by have := hE'.1; omega)] at e2
                  rw [← e2]; exact (vis_upd (by omega) d).mpr (Or.inl rfl)
        exact inner 6 0 tl cf cb q rk rfl (BI_take hn hB hc0 hq0) hlt hv0 (fun s' hs' => absurd hs' (Nat.not_lt_zero s'))
  exact loop (n + 1) 0 tl (fun _ => 0) cb q _ (by omega) (BI_start hst) (Nat.zero_le _)

