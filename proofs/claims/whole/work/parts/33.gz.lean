/-! rows for static tables, for cells that are made, for constructors, for the law's script -/
def lowR (j : Nat) : Int32 := if j = 5 then 1 else 0
def hgR (j : Nat) : Int32 := if j = 6 then 2 else 9
def mkR (j : Nat) : Int32 := if j = 0 then 1 else if j = 1 then 11 else 111
def gZs (A : Nat → Prop) (tz : Nat → Nat) (U : State) (H : Heap) : Prop := (va_Z "SkinBox" "LOWEST_RULE" "[I" (.ref (tz 0)) A U H ∧ va_T .int (tz 0) 7 (fun j => .int (lowR j)) A U H) ∧ (va_Z "SkinBox" "HIGHEST_RULE" "[I" (.ref (tz 1)) A U H ∧ va_T .int (tz 1) 7 (fun j => .int (hgR j)) A U H) ∧ (va_Z "SkinBox" "MARKS" "[I" (.ref (tz 2)) A U H ∧ va_T .int (tz 2) 3 (fun j => .int (mkR j)) A U H)
theorem gZs.moved {A : Nat → Prop} {tz : Nat → Nat} {u U : State} {H : Heap} (hvm : u.vm.Alike U.vm) (h : gZs A tz u H) : gZs A tz U H := ⟨⟨va_Z.moved hvm h.1.1, va_T.moved hvm h.1.2⟩, ⟨va_Z.moved hvm h.2.1.1, va_T.moved hvm h.2.1.2⟩, ⟨va_Z.moved hvm h.2.2.1, va_T.moved hvm h.2.2.2⟩⟩
theorem gZs.kept {A : Nat → Prop} {tz : Nat → Nat} {U : State} {H H1 : Heap} (h : gZs A tz U H) (hq : ∀ a : Nat, a < H.size → ¬ A a → H1[a]? = H[a]?) : gZs A tz U H1 := ⟨⟨va_Z.kept h.1.1 hq, va_T.kept h.1.2 hq⟩, ⟨va_Z.kept h.2.1.1 hq, va_T.kept h.2.1.2 hq⟩, ⟨va_Z.kept h.2.2.1 hq, va_T.kept h.2.2.2 hq⟩⟩
theorem gZs.narrow {A B : Nat → Prop} {tz : Nat → Nat} {U : State} {H : Heap} (h : gZs A tz U H) (hAB : ∀ q, B q → A q) : gZs B tz U H := ⟨⟨va_Z.narrow h.1.1 hAB, va_T.narrow h.1.2 hAB⟩, ⟨va_Z.narrow h.2.1.1 hAB, va_T.narrow h.2.1.2 hAB⟩, ⟨va_Z.narrow h.2.2.1 hAB, va_T.narrow h.2.2.2 hAB⟩⟩
def gZ (X : gX) (tz : Nat → Nat) : Prop := match X with
  | (_, _, _, _, s, _, _, _, _, _, A, _, _) => gZs A tz s s.heap
def gI (X : gX) : Prop := match X with
  | (_, _, _, _, _, _, _, _, meth, _, _, _, _) => meth.name = "<init>"
def gPreZ (av : List Value) (D : va_G) (tys : List (ClassId × FieldType)) (wc : va_W) (tz : Nat → Nat) (sz : Nat) : Array Value → State → Prop := va_Pc av (fun U => U.heap.size = sz ∧ va_P D vwCl wc U.heap ∧ va_K D vwCl tys U ∧ va_D (fun _ => True) wc ∧ gZs (va_A wc sz) tz U U.heap)
def gMiZ {S : Type} (l : Launch) (y : MethodName) (wsy : List Cond) (rm : Room) (D : va_G) (tys : List (ClassId × FieldType)) (mc ms : Nat) (av : List Value) (wc : va_W) (tz : Nat → Nat) (post : Int32 → S → Prop) (w1 : S → va_W) : Prop :=
  ∀ sz : Nat, Met l y wsy rm (gPreZ av D tys wc tz sz) (va_Qi post (gB D tys (va_A wc sz) w1) (va_A wc sz)) mc ms (va_A wc sz)

theorem g_enteriZ {S : Type} {l : Launch} {y : MethodName} {wsy wst : List Cond} {rm : Room} {D : va_G} {tys : List (ClassId × FieldType)} {mc ms : Nat} {av : List Value} {wc : va_W} {post : Int32 → S → Prop} {w1 : S → va_W} {tz : Nat → Nat} {cc : ByteArray} {nL : Nat} {ret : Option FieldType} (hy : plainName y.cls = true) (hw : wsy = Cond.code y cc nL ret :: wst) (hn : (lg_sl av).length ≤ nL) {lv : List (Nat × Value)} (hlv : lv_args 0 av = lv)
    (h : ∀ X : gX, gC X tys cc nL y.cls wsy rm → gEi X ret tys mc ms post w1 → gZ X tz → gW X 0 0 wc nL lv [] 0) : gMiZ l y wsy rm D tys mc ms av wc tz post w1 := by
  intro sz
  refine Met.ofW (cc := cc) (maxL := nL) (ret := ret) hy hw ?_
  intro p e s m args below meth c s₁ B hml hv
  obtain ⟨rfl, hsz, hP, hK, hD0, hZ0⟩ := hv
  have hts := atoms_spec (ws := wsy) B.pre
  have hown : s.vm.findClass y.cls = some m.cls := findClass_of_methodNamed B.named
  subst hsz
  have hD := hD0.self (sz := s.heap.size)
  have hl := lv_entry av (n := nL) hn
  rw [hlv] at hl
  rw [lg_entry_eq]
  exact h (p, l, e, (headSpec wsy rm).room, s, m, av.toArray, below, meth, c, va_A wc s.heap.size, D, MQ below (va_Qi post (gB D tys (va_A wc s.heap.size) w1) (va_A wc s.heap.size)) av.toArray s mc ms (va_A wc s.heap.size)) ⟨B.exec, B.bytes, hml, hown, hts, hK, fun q h => Or.inr h, rfl, B.notSynchronized⟩ ⟨B.returns, rfl⟩ hZ0 s.heap [] _ hP hD va_S.rf hl
theorem g_enterI {S : Type} {l : Launch} {y : MethodName} {wsy wst : List Cond} {rm : Room} {D : va_G} {tys : List (ClassId × FieldType)} {mc ms : Nat} {av : List Value} {wc : va_W} {post : S → Prop} {w1 : S → va_W} {cc : ByteArray} {nL : Nat} {ret : Option FieldType} (hnm : y.name = "<init>") (hy : plainName y.cls = true) (hw : wsy = Cond.code y cc nL ret :: wst) (hn : (lg_sl av).length ≤ nL) {lv : List (Nat × Value)} (hlv : lv_args 0 av = lv)
    (h : ∀ X : gX, gC X tys cc nL y.cls wsy rm → gEv X ret tys mc ms post w1 → gI X → gW X 0 0 wc nL lv [] 0) : gMv l y wsy rm D tys mc ms av wc post w1 := by
  intro sz
  refine Met.ofW (cc := cc) (maxL := nL) (ret := ret) hy hw ?_
  intro p e s m args below meth c s₁ B hml hv
  obtain ⟨rfl, hsz, hP, hK, hD0⟩ := hv
  have hts := atoms_spec (ws := wsy) B.pre
  have hown : s.vm.findClass y.cls = some m.cls := findClass_of_methodNamed B.named
  subst hsz
  have hD := hD0.self (sz := s.heap.size)
  have hl := lv_entry av (n := nL) hn
  rw [hlv] at hl
  rw [lg_entry_eq]
  exact h (p, l, e, (headSpec wsy rm).room, s, m, av.toArray, below, meth, c, va_A wc s.heap.size, D, MQ below (va_Qv post (gB D tys (va_A wc s.heap.size) w1) (va_A wc s.heap.size)) av.toArray s mc ms (va_A wc s.heap.size)) ⟨B.exec, B.bytes, hml, hown, hts, hK, fun q h => Or.inr h, rfl, B.notSynchronized⟩ ⟨B.returns, rfl⟩ ((name_of_methodNamed B.named B.method).1.trans hnm) s.heap [] _ hP hD va_S.rf hl

section GZ
variable {X : gX} {k n : Nat} {ws : va_W} {nL : Nat} {lv : List (Nat × Value)} {st : List Value} {pc : Nat} {tys : List (ClassId × FieldType)} {cc : ByteArray} {own : String} {Ts : List Cond} {rm : Room}
theorem g_gets0 (C : gC X tys cc nL own Ts rm) {tz : Nat → Nat} (Z : gZ X tz) {index : Nat} (hw : Cond.fieldLink own index "SkinBox" "LOWEST_RULE" "[I" ∈ Ts) (hd : decode cc pc = .ok (.getstatic index, 3)) (kk : gW X k n ws nL lv (.ref (tz 0) :: st) (pc + 3)) : gW X k n ws nL lv st pc := by
  obtain ⟨p, l, e, R, s, m, args, below, meth, c, A, D, Q⟩ := X
  obtain ⟨hx, hb, hml, ho, ht, hK, hA, hR, hlk⟩ := C
  intro H locs ls hP hD hS hl
  exact va_gets (C := "SkinBox") (ref := "SkinBox") hx hb Z.1.1 hS ho (ht _ hw) (fun _ h => h) hd (kk H locs ls hP hD hS hl)
theorem g_tald0 (C : gC X tys cc nL own Ts rm) {tz : Nat → Nat} (Z : gZ X tz) {i : Int32} (hin : vp_in i 7) (hd : decode cc pc = .ok (.iaload, 1)) (kk : gW X k n ws nL lv (.int (lowR i.toNatClampNeg) :: st) (pc + 1)) : gW X k n ws nL lv (.int i :: .ref (tz 0) :: st) pc := by
  obtain ⟨p, l, e, R, s, m, args, below, meth, c, A, D, Q⟩ := X
  obtain ⟨hx, hb, hml, ho, ht, hK, hA, hR, hlk⟩ := C
  intro H locs ls hP hD hS hl
  exact va_ti hx hb Z.1.2 hS hin rfl hd (kk H locs ls hP hD hS hl)
theorem g_gets1 (C : gC X tys cc nL own Ts rm) {tz : Nat → Nat} (Z : gZ X tz) {index : Nat} (hw : Cond.fieldLink own index "SkinBox" "HIGHEST_RULE" "[I" ∈ Ts) (hd : decode cc pc = .ok (.getstatic index, 3)) (kk : gW X k n ws nL lv (.ref (tz 1) :: st) (pc + 3)) : gW X k n ws nL lv st pc := by
  obtain ⟨p, l, e, R, s, m, args, below, meth, c, A, D, Q⟩ := X
  obtain ⟨hx, hb, hml, ho, ht, hK, hA, hR, hlk⟩ := C
  intro H locs ls hP hD hS hl
  exact va_gets (C := "SkinBox") (ref := "SkinBox") hx hb Z.2.1.1 hS ho (ht _ hw) (fun _ h => h) hd (kk H locs ls hP hD hS hl)
theorem g_tald1 (C : gC X tys cc nL own Ts rm) {tz : Nat → Nat} (Z : gZ X tz) {i : Int32} (hin : vp_in i 7) (hd : decode cc pc = .ok (.iaload, 1)) (kk : gW X k n ws nL lv (.int (hgR i.toNatClampNeg) :: st) (pc + 1)) : gW X k n ws nL lv (.int i :: .ref (tz 1) :: st) pc := by
  obtain ⟨p, l, e, R, s, m, args, below, meth, c, A, D, Q⟩ := X
  obtain ⟨hx, hb, hml, ho, ht, hK, hA, hR, hlk⟩ := C
  intro H locs ls hP hD hS hl
  exact va_ti hx hb Z.2.1.2 hS hin rfl hd (kk H locs ls hP hD hS hl)
theorem g_gets2 (C : gC X tys cc nL own Ts rm) {tz : Nat → Nat} (Z : gZ X tz) {index : Nat} (hw : Cond.fieldLink own index "SkinBox" "MARKS" "[I" ∈ Ts) (hd : decode cc pc = .ok (.getstatic index, 3)) (kk : gW X k n ws nL lv (.ref (tz 2) :: st) (pc + 3)) : gW X k n ws nL lv st pc := by
  obtain ⟨p, l, e, R, s, m, args, below, meth, c, A, D, Q⟩ := X
  obtain ⟨hx, hb, hml, ho, ht, hK, hA, hR, hlk⟩ := C
  intro H locs ls hP hD hS hl
  exact va_gets (C := "SkinBox") (ref := "SkinBox") hx hb Z.2.2.1 hS ho (ht _ hw) (fun _ h => h) hd (kk H locs ls hP hD hS hl)
theorem g_tald2 (C : gC X tys cc nL own Ts rm) {tz : Nat → Nat} (Z : gZ X tz) {i : Int32} (hin : vp_in i 3) (hd : decode cc pc = .ok (.iaload, 1)) (kk : gW X k n ws nL lv (.int (mkR i.toNatClampNeg) :: st) (pc + 1)) : gW X k n ws nL lv (.int i :: .ref (tz 2) :: st) pc := by
  obtain ⟨p, l, e, R, s, m, args, below, meth, c, A, D, Q⟩ := X
  obtain ⟨hx, hb, hml, ho, ht, hK, hA, hR, hlk⟩ := C
  intro H locs ls hP hD hS hl
  exact va_ti hx hb Z.2.2.2 hS hin rfl hd (kk H locs ls hP hD hS hl)
theorem g_callViZ (C : gC X tys cc nL own Ts rm) {tz : Nat → Nat} (Z : gZ X tz) {S : Type} {y : MethodName} {wsy : List Cond} {rmy : Room} {b : Nat} {As rest : List Value} {wc wr : va_W} {post : Int32 → S → Prop} {w1 : S → va_W} {mc ms : Nat} (hM : ∀ (l : Launch) (D : va_G), gMiZ l y wsy rmy D tys mc ms (.ref b :: As) wc tz post w1) {index : Nat} {bytes : ByteArray} {maxL : Nat} {ret : Option FieldType} {wst : List Cond} {Cn : String} (hG : GoodIn Ts (wsV own index Cn y wsy)) (hw : wsy = Cond.code y bytes maxL ret :: wst) (hde : y.cls = Cn ∧ y.cls ≠ "java/lang/invoke/MethodHandle" ∧ y.cls ≠ "java/lang/invoke/VarHandle" ∧ (parseMethodDescriptor y.desc).map (fun d => d.parameters.length) = some As.length) (hrm : rmy.cells = mc ∧ rmy.slots = ms) (hRo : rmy.frames + 1 ≤ rm.frames ∧ 8 + (maxL + 11) + rmy.locals ≤ rm.locals) (hcs : k + mc ≤ rm.cells ∧ n + ms ≤ rm.slots) (isC isR isP : List Nat) (hC : isC.map (fun i => ws[i]?) = wc.map some) (hRr : isR.map (fun i => ws[i]?) = wr.map some) (hnC : va_nd isC = true) (hnR : va_nd isR = true) (hdis : ∀ i ∈ isR, i ∉ isC) (hnP : va_nd isP = true) {ws2 : S → va_W} (hX : ∀ u, isP.map (fun i => (wr ++ w1 u)[i]?) = (ws2 u).map some) (ci qr : Nat) {fs : List Value} {q : vw_C} (hr1 : vwCl[ci]? = some q) (hq : q.1 = Cn) (hr2 : wc[qr]? = some (b, .inr (ci, fs))) (hst : st = As.reverse ++ .ref b :: rest) (hro : (rest.map fun v => v.category).sum ≤ 8) (hd : decode cc pc = .ok (.invokevirtual index, 3))  (kk : ∀ (r : Int32) (u : S), post r u → gW X (k + mc) (n + ms) (ws2 u) nL lv (.int r :: rest) (pc + 3)) : gW X k n ws nL lv (st) pc := by
  obtain ⟨p, l, e, R, s, m, args, below, meth, c, A, D, Q⟩ := X
  obtain ⟨hx, hb, hml, ho, ht, hK, hA, hR, hlk⟩ := C
  intro H locs ls hP hD hS hl
  subst hst; subst hR
  have hFm : ∀ {w2 : va_W} (ks : List Nat), ks.map (fun i => ws[i]?) = w2.map some → ks.filterMap (fun i => ws[i]?) = w2 := by
    intro w2 ks hk
    have h1 : ks.filterMap (fun i => ws[i]?) = (ks.map (fun i => ws[i]?)).filterMap id := by rw [List.filterMap_map]; rfl
    rw [h1, hk, List.filterMap_map]
    exact List.filterMap_some
  have hPc := hP.sub isC (hFm isC hC)
  have hDc := hD.sub isC hnC hC
  have hFc := va_free (wc := wc) hD hS hA isC hC
  refine va_calli (va_runV (As := As) (rest := rest) (cc := cc) (nL := nL) (Ts := Ts) ⟨hx, hb, hml, ho, ht⟩ (hM l D H.size) (cwV As.length ht hG hw hrm.1 hrm.2 hde hRo) ⟨fun a U g mk q => ?_, by obtain ⟨cl0, g1, g2, g3⟩ := va_recv hK hPc hr1 hr2; exact ⟨cl0, g1, g2, by rw [← hq]; exact g3⟩, fun U hU hW => ⟨rfl, by rw [hU], by rw [hU]; exact hPc, va_K.moved hW.alike hK, hDc.weaken (fun _ _ _ _ => trivial), by rw [hU]; exact ((gZs.moved hW.alike Z).kept (fun a h1 h2 => hS.2.1 a h1 h2)).narrow hFc⟩⟩ rfl rfl hl.1 rfl (show 2 * 0 + (rest.map fun v => v.category).sum ≤ 8 by omega) hd hcs) hS (fun q _ h => hFc q h) hFc (fun r u t H1 locs1 htt hvm hw1 hB hz1 hk1 hS1 => ?_)
  · obtain ⟨q0, q1, qP, qK, qD, qZ⟩ := q
    exact ⟨q0, q1, qP, va_K.moved (u := U) (U := U.calling g mk a) (Vm.Alike.refl U.vm) qK, qD, gZs.moved (u := U) (U := U.calling g mk a) (Vm.Alike.refl U.vm) qZ⟩
  · obtain ⟨hP1, hK1, hD1⟩ := hB
    rw [htt] at hP1
    obtain ⟨hP2, hD2⟩ := va_join (wr := wr) (w1 := w1 u) hP hD isC isR hC hRr hnR hdis hk1 hFc hP1 hD1
    have hX2 := hX u
    have hP3 : va_P D vwCl (ws2 u) H1 := hP2.sub isP (by
      have h1 : isP.filterMap (fun i => (wr ++ w1 u)[i]?) = (isP.map (fun i => (wr ++ w1 u)[i]?)).filterMap id := by rw [List.filterMap_map]; rfl
      rw [h1, hX2, List.filterMap_map]
      exact List.filterMap_some)
    exact kk r u hw1 H1 locs1 ls hP3 (hD2.sub isP hnP hX2) hS1 hl
theorem g_newa (C : gC X tys cc nL own Ts rm) {atype : ArrayType} {ty : FieldType} (t0 : Nat) {cA : ClassId} (hT : tys[t0]? = some (cA, ty)) (hra : ∀ (U : State) (c c' : ClassId), va_RA U c ty → va_RA U c' ty → c = c') (harr : Cond.arrayClass ty ∈ Ts) (hty : newarray.typeOf atype = ty) {i : Int32} {N' : Nat} {a0 : vp_A} (ha : ∀ cA : ClassId, vp_cell cA a0 = arrV cA N' (fun _ => defaultValue ty)) (hn : ¬ i < 0) (hN : i.toNatClampNeg = N') (hby : N' * componentBytes ty ≤ 536870912) (hc : k + 1 ≤ rm.cells) (hs : n + N' ≤ rm.slots) {k2 n2 : Nat} (hk2 : k + 1 = k2) (hn2 : n + N' = n2) (hd : decode cc pc = .ok (.newarray atype, 2)) (kk : ∀ q : Nat, gW X k2 n2 (ws ++ [(q, .inl (cA, a0))]) nL lv (.ref q :: st) (pc + 2)) : gW X k n ws nL lv (.int i :: st) pc := by
  obtain ⟨p, l, e, R, s, m, args, below, meth, c, A, D, Q⟩ := X
  obtain ⟨hx, hb, hml, ho, ht, hK, hA, hR, hlk⟩ := C
  intro H locs ls hP hD hS hl
  subst hR; subst hk2; subst hn2
  refine va_newa hx hb (by rw [hty]; exact ht _ harr) hty hK hP hD hS hA ha hn hN hby hc hs hd (fun q cA' H1 hK1 hP1 hD1 hS1 => ?_)
  have e : cA' = cA := hra s cA' cA (hK1.2 tys.length (cA', ty) (by simp)).2 (hK.2 t0 _ hT).2
  subst e
  exact kk q H1 locs ls hP1 hD1 hS1 hl
theorem g_new (C : gC X tys cc nL own Ts rm) {index ci : Nat} {Cn : String} {T : u_T} {N : Nat} (hin : ∀ w ∈ u_ws Cn T N, w ∈ Ts) (ty0 : Nat → FieldType) (hty : ∀ k, k < N → parseFieldDescriptor (T k).2.2.1 = some (ty0 k)) (hcl : Cond.classLink own index Cn ∈ Ts) (hinst : Cond.instantiable Cn N ∈ Ts) (hini : Cond.initialized Cn ∈ Ts) (hc : vwCl[ci]? = some (Cn, T, N)) {fs : List Value} (hfs : ∀ j, j < N → defaultValue (ty0 j) = vp_V fs j) (hcs : k + 1 ≤ rm.cells) (hsl : n + N ≤ rm.slots) {k2 n2 : Nat} (hk2 : k + 1 = k2) (hn2 : n + N = n2) (hd : decode cc pc = .ok (.new index, 3)) (kk : ∀ q : Nat, gW X k2 n2 (ws ++ [(q, .inr (ci, fs))]) nL lv (.ref q :: st) (pc + 3)) : gW X k n ws nL lv st pc := by
  obtain ⟨p, l, e, R, s, m, args, below, meth, c, A, D, Q⟩ := X
  obtain ⟨hx, hb, hml, ho, ht, hK, hA, hR, hlk⟩ := C
  intro H locs ls hP hD hS hl
  subst hR; subst hk2; subst hn2
  exact va_new hx hb ht hin ty0 hty ho (ht _ hcl) (ht _ hinst) (ht _ hini) hK hP hD hS hA hc hfs hcs hsl hd (fun q H1 hP1 hD1 hS1 => kk q H1 locs ls hP1 hD1 hS1 hl)
theorem g_objInit (C : gC X tys cc nL own Ts rm) {idx : Nat} (h1 : Cond.methodLink own idx objectInit ∈ Ts) (h2 : Cond.instanceMethod objectInit ∈ Ts) (h3 : Cond.code objectInit ⟨#[0xb1]⟩ 1 none ∈ Ts) {a : Nat} (hfr : 1 ≤ rm.frames) (hlo : (st.map fun v => v.category).sum + 12 ≤ rm.locals) (hd : decode cc pc = .ok (.invokespecial idx, 3)) (kk : gW X k n ws nL lv st (pc + 3)) : gW X k n ws nL lv (.ref a :: st) pc := by
  obtain ⟨p, l, e, R, s, m, args, below, meth, c, A, D, Q⟩ := X
  obtain ⟨hx, hb, hml, ho, ht, hK, hA, hR, hlk⟩ := C
  intro H locs ls hP hD hS hl
  subst hR
  refine W.objInit hx hb ho (ht _ h1) (ht _ h2) (ht _ h3) rfl (by rw [hml]; exact hl.1) rfl hd hfr (show 2 * 0 + (st.map fun v => v.category).sum + 12 ≤ _ by omega) ?_
  exact kk H locs ls hP hD hS hl
theorem g_putF (C : gC X tys cc nL own Ts rm) (I : gI X) {index ci kf : Nat} {Cn : String} {T : u_T} {N : Nat} (F : gF Ts own index ci kf Cn T N) (q0 : Nat) {a : Nat} {fs : List Value} {v : Value} {ty0 : Nat → FieldType} (hty : ∀ k, k < N → parseFieldDescriptor (T k).2.2.1 = some (ty0 k)) (hnm : ∀ a, a < N → ∀ b, b < N → a ≠ b → (T a).2.1 ≠ (T b).2.1) (he : ws[q0]? = some (a, .inr (ci, fs))) (hfin : (T kf).2.2.2 = true) (hdecl : (T kf).1 = own) (hna : narrow (ty0 kf) v = v) (hfit : fits (ty0 kf) v = true) (hle : kf < fs.length) {ws2 : va_W} (hw : ws.set q0 (a, .inr (ci, fs.set kf v)) = ws2) (hd : decode cc pc = .ok (.putfield index, 3)) (kk : gW X k n ws2 nL lv st (pc + 3)) : gW X k n ws nL lv (v :: .ref a :: st) pc := by
  obtain ⟨p, l, e, R, s, m, args, below, meth, c, A, D, Q⟩ := X
  obtain ⟨hx, hb, hml, ho, ht, hK, hA, hR, hlk⟩ := C
  intro H locs ls hP hD hS hl
  subst hw
  exact va_putF (D := D) (ref := (T kf).1) hx hb ht F.1 ty0 hty hnm ho hK hP hD hS q0 he F.2.2.1 kf F.2.2.2 (ht _ F.2.1) (fun _ h => h) hfin I hdecl (hty kf F.2.2.2) hna hfit hle hd (fun H1 locs1 hP hD hS => kk H1 locs1 ls hP hD hS hl)
theorem g_callI (C : gC X tys cc nL own Ts rm) {S : Type} {y : MethodName} {wsy : List Cond} {rmy : Room} {b : Nat} {As rest : List Value} {wc wr : va_W} {post : S → Prop} {w1 : S → va_W} {mc ms : Nat} (hM : ∀ (l : Launch) (D : va_G), gMv l y wsy rmy D tys mc ms (.ref b :: As) wc post w1) {index : Nat} {bytes : ByteArray} {maxL : Nat} {wst : List Cond} (hG : GoodIn Ts wsy) (hw : wsy = Cond.code y bytes maxL none :: wst) (h1 : Cond.initialized y.cls ∈ Ts) (h2 : Cond.methodLink own index y ∈ Ts) (h3 : Cond.instanceMethod y ∈ Ts) (hnm : y.name = "<init>") (hde : y.cls ≠ "java/lang/invoke/MethodHandle" ∧ y.cls ≠ "java/lang/invoke/VarHandle" ∧ (parseMethodDescriptor y.desc).map (fun d => d.parameters.length) = some As.length) (hrm : rmy.cells = mc ∧ rmy.slots = ms) (hRo : rmy.frames + 1 ≤ rm.frames ∧ 8 + (maxL + 11) + rmy.locals ≤ rm.locals) (hcs : k + mc ≤ rm.cells ∧ n + ms ≤ rm.slots) {k2 n2 : Nat} (hk2 : k + mc = k2) (hn2 : n + ms = n2) (isC isR isP : List Nat) (hC : isC.map (fun i => ws[i]?) = wc.map some) (hRr : isR.map (fun i => ws[i]?) = wr.map some) (hnC : va_nd isC = true) (hnR : va_nd isR = true) (hdis : ∀ i ∈ isR, i ∉ isC) (hnP : va_nd isP = true) {ws2 : S → va_W} (hX : ∀ u, isP.map (fun i => (wr ++ w1 u)[i]?) = (ws2 u).map some) (hst : st = As.reverse ++ .ref b :: rest) (hro : (rest.map fun v => v.category).sum ≤ 8) (hd : decode cc pc = .ok (.invokespecial index, 3)) (kk : ∀ (u : S), post u → gW X k2 n2 (ws2 u) nL lv rest (pc + 3)) : gW X k n ws nL lv (st) pc := by
  obtain ⟨p, l, e, R, s, m, args, below, meth, c, A, D, Q⟩ := X
  obtain ⟨hx, hb, hml, ho, ht, hK, hA, hR, hlk⟩ := C
  intro H locs ls hP hD hS hl
  subst hst; subst hR; subst hk2; subst hn2
  have hFm : ∀ {w2 : va_W} (ks : List Nat), ks.map (fun i => ws[i]?) = w2.map some → ks.filterMap (fun i => ws[i]?) = w2 := by
    intro w2 ks hk
    have h1 : ks.filterMap (fun i => ws[i]?) = (ks.map (fun i => ws[i]?)).filterMap id := by rw [List.filterMap_map]; rfl
    rw [h1, hk, List.filterMap_map]
    exact List.filterMap_some
  have hPc := hP.sub isC (hFm isC hC)
  have hDc := hD.sub isC hnC hC
  have hFc := va_free (wc := wc) hD hS hA isC hC
  refine va_callv (va_runI (As := As) (rest := rest) (cc := cc) (nL := nL) (Ts := Ts) ⟨hx, hb, hml, ho, ht⟩ (hM l D H.size) (cwI As.length ht hG hw hrm.1 hrm.2 (ht _ h1) (ht _ h2) (ht _ h3) hnm hde hRo) ⟨fun a U g mk q => ?_, fun U hU hW => ⟨rfl, by rw [hU], by rw [hU]; exact hPc, va_K.moved hW.alike hK, hDc.weaken (fun _ _ _ _ => trivial)⟩⟩ rfl rfl hl.1 rfl (show 2 * 0 + (rest.map fun v => v.category).sum ≤ 8 by omega) hd hcs) hS (fun q _ h => hFc q h) hFc (fun u t H1 locs1 htt hvm hw1 hB hz1 hk1 hS1 => ?_)
  · obtain ⟨q0, q1, qP, qK, qD⟩ := q
    exact ⟨q0, q1, qP, va_K.moved (u := U) (U := U.calling g mk a) (Vm.Alike.refl U.vm) qK, qD⟩
  · obtain ⟨hP1, hK1, hD1⟩ := hB
    rw [htt] at hP1
    obtain ⟨hP2, hD2⟩ := va_join (wr := wr) (w1 := w1 u) hP hD isC isR hC hRr hnR hdis hk1 hFc hP1 hD1
    have hX2 := hX u
    have hP3 : va_P D vwCl (ws2 u) H1 := hP2.sub isP (by
      have h1 : isP.filterMap (fun i => (wr ++ w1 u)[i]?) = (isP.map (fun i => (wr ++ w1 u)[i]?)).filterMap id := by rw [List.filterMap_map]; rfl
      rw [h1, hX2, List.filterMap_map]
      exact List.filterMap_some)
    exact kk u hw1 H1 locs1 ls hP3 (hD2.sub isP hnP hX2) hS1 hl
def gLs (X : gX) (b L : Nat) (xs : Nat → Int32) : Prop := match X with
  | (_, _, _, _, s, _, _, _, _, _, A, _, _) => va_X b L xs s s.heap ∧ b < s.heap.size ∧ ¬ A b
theorem g_sld (C : gC X tys cc nL own Ts rm) {b L : Nat} {xs : Nat → Int32} (Y : gLs X b L xs) {i : Int32} (hin : vp_in i L) (hd : decode cc pc = .ok (.iaload, 1)) (kk : gW X k n ws nL lv (.int (xs i.toNatClampNeg) :: st) (pc + 1)) : gW X k n ws nL lv (.int i :: .ref b :: st) pc := by
  obtain ⟨p, l, e, R, s, m, args, below, meth, c, A, D, Q⟩ := X
  obtain ⟨hx, hb, hml, ho, ht, hK, hA, hR, hlk⟩ := C
  intro H locs ls hP hD hS hl
  exact va_sld hx hb Y.1 Y.2.1 Y.2.2 hS hin hd (kk H locs ls hP hD hS hl)
theorem g_slen (C : gC X tys cc nL own Ts rm) {b L : Nat} {xs : Nat → Int32} (Y : gLs X b L xs) (hd : decode cc pc = .ok (.arraylength, 1)) (kk : gW X k n ws nL lv (.int (nI L) :: st) (pc + 1)) : gW X k n ws nL lv (.ref b :: st) pc := by
  obtain ⟨p, l, e, R, s, m, args, below, meth, c, A, D, Q⟩ := X
  obtain ⟨hx, hb, hml, ho, ht, hK, hA, hR, hlk⟩ := C
  intro H locs ls hP hD hS hl
  exact va_slen hx hb Y.1 Y.2.1 Y.2.2 hS hd (kk H locs ls hP hD hS hl)
end GZ
theorem ra_int (U : State) (c c' : ClassId) (h : va_RA U c .int) (h' : va_RA U c' .int) : c = c' := Option.some.inj (h.symm.trans h')
theorem ra_long (U : State) (c c' : ClassId) (h : va_RA U c .long) (h' : va_RA U c' .long) : c = c' := Option.some.inj (h.symm.trans h')
theorem ra_bool (U : State) (c c' : ClassId) (h : va_RA U c .boolean) (h' : va_RA U c' .boolean) : c = c' := Option.some.inj (h.symm.trans h')
theorem nw_int (N : Nat) (cA : ClassId) : vp_cell cA (N, .inl (fun _ => 0)) = arrV cA N (fun _ => defaultValue .int) := rfl
theorem nw_bool (N : Nat) (cA : ClassId) : vp_cell cA (N, .inl (fun _ => 0)) = arrV cA N (fun _ => defaultValue .boolean) := rfl
theorem nw_long (N : Nat) (cA : ClassId) : vp_cell cA (N, .inr (.inl (fun _ => 0))) = arrV cA N (fun _ => defaultValue .long) := rfl
def gN (X : gX) (w : Cond) : Prop := match X with
  | (_, _, _, _, s, _, _, _, _, _, _, _, _) => va_Nw w s
def gPreN (av : List Value) (D : va_G) (tys : List (ClassId × FieldType)) (wc : va_W) (w : Cond) (sz : Nat) : Array Value → State → Prop := va_Pc av (fun U => U.heap.size = sz ∧ va_P D vwCl wc U.heap ∧ va_K D vwCl tys U ∧ va_D (fun _ => True) wc ∧ va_Nw w U)
def gMvN {S : Type} (l : Launch) (y : MethodName) (wsy : List Cond) (rm : Room) (D : va_G) (tys : List (ClassId × FieldType)) (mc ms : Nat) (av : List Value) (wc : va_W) (w : Cond) (post : S → Prop) (w1 : S → va_W) : Prop :=
  ∀ sz : Nat, Met l y wsy rm (gPreN av D tys wc w sz) (va_Qv post (gB D tys (va_A wc sz) w1) (va_A wc sz)) mc ms (va_A wc sz)
theorem g_enterN {S : Type} {l : Launch} {y : MethodName} {wsy wst : List Cond} {rm : Room} {D : va_G} {tys : List (ClassId × FieldType)} {mc ms : Nat} {av : List Value} {wc : va_W} {post : S → Prop} {w1 : S → va_W} {w : Cond} {cc : ByteArray} {nL : Nat} {ret : Option FieldType} (hnm : y.name = "<init>") (hy : plainName y.cls = true) (hw : wsy = Cond.code y cc nL ret :: wst) (hn : (lg_sl av).length ≤ nL) {lv : List (Nat × Value)} (hlv : lv_args 0 av = lv)
    (h : ∀ X : gX, gC X tys cc nL y.cls wsy rm → gEv X ret tys mc ms post w1 → gI X → gN X w → gW X 0 0 wc nL lv [] 0) : gMvN l y wsy rm D tys mc ms av wc w post w1 := by
  intro sz
  refine Met.ofW (cc := cc) (maxL := nL) (ret := ret) hy hw ?_
  intro p e s m args below meth c s₁ B hml hv
  obtain ⟨rfl, hsz, hP, hK, hD0, hN0⟩ := hv
  have hts := atoms_spec (ws := wsy) B.pre
  have hown : s.vm.findClass y.cls = some m.cls := findClass_of_methodNamed B.named
  subst hsz
  have hD := hD0.self (sz := s.heap.size)
  have hl := lv_entry av (n := nL) hn
  rw [hlv] at hl
  rw [lg_entry_eq]
  exact h (p, l, e, (headSpec wsy rm).room, s, m, av.toArray, below, meth, c, va_A wc s.heap.size, D, MQ below (va_Qv post (gB D tys (va_A wc s.heap.size) w1) (va_A wc s.heap.size)) av.toArray s mc ms (va_A wc s.heap.size)) ⟨B.exec, B.bytes, hml, hown, hts, hK, fun q h => Or.inr h, rfl, B.notSynchronized⟩ ⟨B.returns, rfl⟩ ((name_of_methodNamed B.named B.method).1.trans hnm) hN0 s.heap [] _ hP hD va_S.rf hl

section GN
variable {X : gX} {k n : Nat} {ws : va_W} {nL : Nat} {lv : List (Nat × Value)} {st : List Value} {pc : Nat} {tys : List (ClassId × FieldType)} {cc : ByteArray} {own : String} {Ts : List Cond} {rm : Room}
theorem g_callIN (C : gC X tys cc nL own Ts rm) {S : Type} {y : MethodName} {wsy : List Cond} {rmy : Room} {b : Nat} {As rest : List Value} {wc wr : va_W} {post : S → Prop} {w1 : S → va_W} {mc ms : Nat} (hM : ∀ (l : Launch) (D : va_G), gMv l y wsy rmy D tys mc ms (.ref b :: As) wc post w1) {index : Nat} {bytes : ByteArray} {maxL : Nat} {wst : List Cond} (hG : GoodIn Ts wsy) (hw : wsy = Cond.code y bytes maxL none :: wst) (h1 : Cond.initialized y.cls ∈ Ts) {host : String} (h2 : gN X (.methodLinkNest own index y host)) (h3 : Cond.instanceMethod y ∈ Ts) (hnm : y.name = "<init>") (hde : y.cls ≠ "java/lang/invoke/MethodHandle" ∧ y.cls ≠ "java/lang/invoke/VarHandle" ∧ (parseMethodDescriptor y.desc).map (fun d => d.parameters.length) = some As.length) (hrm : rmy.cells = mc ∧ rmy.slots = ms) (hRo : rmy.frames + 1 ≤ rm.frames ∧ 8 + (maxL + 11) + rmy.locals ≤ rm.locals) (hcs : k + mc ≤ rm.cells ∧ n + ms ≤ rm.slots) {k2 n2 : Nat} (hk2 : k + mc = k2) (hn2 : n + ms = n2) (isC isR isP : List Nat) (hC : isC.map (fun i => ws[i]?) = wc.map some) (hRr : isR.map (fun i => ws[i]?) = wr.map some) (hnC : va_nd isC = true) (hnR : va_nd isR = true) (hdis : ∀ i ∈ isR, i ∉ isC) (hnP : va_nd isP = true) {ws2 : S → va_W} (hX : ∀ u, isP.map (fun i => (wr ++ w1 u)[i]?) = (ws2 u).map some) (hst : st = As.reverse ++ .ref b :: rest) (hro : (rest.map fun v => v.category).sum ≤ 8) (hd : decode cc pc = .ok (.invokespecial index, 3)) (kk : ∀ (u : S), post u → gW X k2 n2 (ws2 u) nL lv rest (pc + 3)) : gW X k n ws nL lv (st) pc := by
  obtain ⟨p, l, e, R, s, m, args, below, meth, c, A, D, Q⟩ := X
  obtain ⟨hx, hb, hml, ho, ht, hK, hA, hR, hlk⟩ := C
  intro H locs ls hP hD hS hl
  subst hst; subst hR; subst hk2; subst hn2
  have hFm : ∀ {w2 : va_W} (ks : List Nat), ks.map (fun i => ws[i]?) = w2.map some → ks.filterMap (fun i => ws[i]?) = w2 := by
    intro w2 ks hk
    have h1 : ks.filterMap (fun i => ws[i]?) = (ks.map (fun i => ws[i]?)).filterMap id := by rw [List.filterMap_map]; rfl
    rw [h1, hk, List.filterMap_map]
    exact List.filterMap_some
  have hPc := hP.sub isC (hFm isC hC)
  have hDc := hD.sub isC hnC hC
  have hFc := va_free (wc := wc) hD hS hA isC hC
  refine va_callv (va_runIN (As := As) (rest := rest) (cc := cc) (nL := nL) (Ts := Ts) ⟨hx, hb, hml, ho, ht⟩ (hM l D H.size) ⟨va_cnB As.length ht hG hw hrm.1 hrm.2 h2 (ht _ h1) hde hRo, hnm, ht _ h3⟩ ⟨fun a U g mk q => ?_, fun U hU hW => ⟨rfl, by rw [hU], by rw [hU]; exact hPc, va_K.moved hW.alike hK, hDc.weaken (fun _ _ _ _ => trivial)⟩⟩ rfl rfl hl.1 rfl (show 2 * 0 + (rest.map fun v => v.category).sum ≤ 8 by omega) hd hcs) hS (fun q _ h => hFc q h) hFc (fun u t H1 locs1 htt hvm hw1 hB hz1 hk1 hS1 => ?_)
  · obtain ⟨q0, q1, qP, qK, qD⟩ := q
    exact ⟨q0, q1, qP, va_K.moved (u := U) (U := U.calling g mk a) (Vm.Alike.refl U.vm) qK, qD⟩
  · obtain ⟨hP1, hK1, hD1⟩ := hB
    rw [htt] at hP1
    obtain ⟨hP2, hD2⟩ := va_join (wr := wr) (w1 := w1 u) hP hD isC isR hC hRr hnR hdis hk1 hFc hP1 hD1
    have hX2 := hX u
    have hP3 : va_P D vwCl (ws2 u) H1 := hP2.sub isP (by
      have h1 : isP.filterMap (fun i => (wr ++ w1 u)[i]?) = (isP.map (fun i => (wr ++ w1 u)[i]?)).filterMap id := by rw [List.filterMap_map]; rfl
      rw [h1, hX2, List.filterMap_map]
      exact List.filterMap_some)
    exact kk u hw1 H1 locs1 ls hP3 (hD2.sub isP hnP hX2) hS1 hl
theorem g_callIW (C : gC X tys cc nL own Ts rm) {S : Type} {y : MethodName} {wsy : List Cond} {rmy : Room} {b : Nat} {As rest : List Value} {wc wr : va_W} {post : S → Prop} {w1 : S → va_W} {mc ms : Nat} {na : String} {ni : Nat} {nx : MethodName} {nh : String} (hM : ∀ (l : Launch) (D : va_G), gMvN l y wsy rmy D tys mc ms (.ref b :: As) wc (.methodLinkNest na ni nx nh) post w1) (hN : gN X (.methodLinkNest na ni nx nh)) {index : Nat} {bytes : ByteArray} {maxL : Nat} {wst : List Cond} (hG : GoodIn Ts wsy) (hw : wsy = Cond.code y bytes maxL none :: wst) (h1 : Cond.initialized y.cls ∈ Ts) (h2 : Cond.methodLink own index y ∈ Ts) (h3 : Cond.instanceMethod y ∈ Ts) (hnm : y.name = "<init>") (hde : y.cls ≠ "java/lang/invoke/MethodHandle" ∧ y.cls ≠ "java/lang/invoke/VarHandle" ∧ (parseMethodDescriptor y.desc).map (fun d => d.parameters.length) = some As.length) (hrm : rmy.cells = mc ∧ rmy.slots = ms) (hRo : rmy.frames + 1 ≤ rm.frames ∧ 8 + (maxL + 11) + rmy.locals ≤ rm.locals) (hcs : k + mc ≤ rm.cells ∧ n + ms ≤ rm.slots) {k2 n2 : Nat} (hk2 : k + mc = k2) (hn2 : n + ms = n2) (isC isR isP : List Nat) (hC : isC.map (fun i => ws[i]?) = wc.map some) (hRr : isR.map (fun i => ws[i]?) = wr.map some) (hnC : va_nd isC = true) (hnR : va_nd isR = true) (hdis : ∀ i ∈ isR, i ∉ isC) (hnP : va_nd isP = true) {ws2 : S → va_W} (hX : ∀ u, isP.map (fun i => (wr ++ w1 u)[i]?) = (ws2 u).map some) (hst : st = As.reverse ++ .ref b :: rest) (hro : (rest.map fun v => v.category).sum ≤ 8) (hd : decode cc pc = .ok (.invokespecial index, 3)) (kk : ∀ (u : S), post u → gW X k2 n2 (ws2 u) nL lv rest (pc + 3)) : gW X k n ws nL lv (st) pc := by
  obtain ⟨p, l, e, R, s, m, args, below, meth, c, A, D, Q⟩ := X
  obtain ⟨hx, hb, hml, ho, ht, hK, hA, hR, hlk⟩ := C
  intro H locs ls hP hD hS hl
  subst hst; subst hR; subst hk2; subst hn2
  have hFm : ∀ {w2 : va_W} (ks : List Nat), ks.map (fun i => ws[i]?) = w2.map some → ks.filterMap (fun i => ws[i]?) = w2 := by
    intro w2 ks hk
    have h1 : ks.filterMap (fun i => ws[i]?) = (ks.map (fun i => ws[i]?)).filterMap id := by rw [List.filterMap_map]; rfl
    rw [h1, hk, List.filterMap_map]
    exact List.filterMap_some
  have hPc := hP.sub isC (hFm isC hC)
  have hDc := hD.sub isC hnC hC
  have hFc := va_free (wc := wc) hD hS hA isC hC
  refine va_callv (va_runI (As := As) (rest := rest) (cc := cc) (nL := nL) (Ts := Ts) ⟨hx, hb, hml, ho, ht⟩ (hM l D H.size) (cwI As.length ht hG hw hrm.1 hrm.2 (ht _ h1) (ht _ h2) (ht _ h3) hnm hde hRo) ⟨fun a U g mk q => ?_, fun U hU hW => ⟨rfl, by rw [hU], by rw [hU]; exact hPc, va_K.moved hW.alike hK, hDc.weaken (fun _ _ _ _ => trivial), va_Nw.warmM hW hN⟩⟩ rfl rfl hl.1 rfl (show 2 * 0 + (rest.map fun v => v.category).sum ≤ 8 by omega) hd hcs) hS (fun q _ h => hFc q h) hFc (fun u t H1 locs1 htt hvm hw1 hB hz1 hk1 hS1 => ?_)
  · obtain ⟨q0, q1, qP, qK, qD, qN⟩ := q
    exact ⟨q0, q1, qP, va_K.moved (u := U) (U := U.calling g mk a) (Vm.Alike.refl U.vm) qK, qD, va_Nw.same (u := U) (U := U.calling g mk a) rfl rfl qN⟩
  · obtain ⟨hP1, hK1, hD1⟩ := hB
    rw [htt] at hP1
    obtain ⟨hP2, hD2⟩ := va_join (wr := wr) (w1 := w1 u) hP hD isC isR hC hRr hnR hdis hk1 hFc hP1 hD1
    have hX2 := hX u
    have hP3 : va_P D vwCl (ws2 u) H1 := hP2.sub isP (by
      have h1 : isP.filterMap (fun i => (wr ++ w1 u)[i]?) = (isP.map (fun i => (wr ++ w1 u)[i]?)).filterMap id := by rw [List.filterMap_map]; rfl
      rw [h1, hX2, List.filterMap_map]
      exact List.filterMap_some)
    exact kk u hw1 H1 locs1 ls hP3 (hD2.sub isP hnP hX2) hS1 hl
end GN
