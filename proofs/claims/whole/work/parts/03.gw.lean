/-- the surroundings of a walk -/
abbrev gX : Type := Program × Launch × Env × Room × State × MethodId × Array Value × List Frame × Method × Code × (Nat → Prop) × va_G × (State → Prop)
/-- from pc with these locals, this stack and this world the machine comes to Q -/
def gW (X : gX) (k n : Nat) (ws : va_W) (nL : Nat) (lv : List (Nat × Value)) (st : List Value) (pc : Nat) : Prop :=
  match X with
  | (p, l, e, R, s, m, args, below, meth, c, A, D, Q) => ∀ (H : Heap) (locs : List Loc) (ls : Array Slot), va_P D vwCl ws H → va_D A ws → va_S A s.heap H locs → lv_has ls nL lv → W p l e R s m args below meth c H locs k n Q (F0 m pc ls st)
/-- what stays the same while a method runs -/
def gC (X : gX) (tys : List (ClassId × FieldType)) (cc : ByteArray) (nL : Nat) (own : String) (Ts : List Cond) (rm : Room) : Prop :=
  match X with
  | (p, _, _, R, s, m, args, _, meth, c, A, D, _) => p.tables.exec = Jvm.exec ∧ c.code = cc ∧ c.maxLocals = nL ∧ s.vm.findClass own = some m.cls ∧ (∀ w ∈ Ts, w.before args s = true) ∧ va_K D vwCl tys s ∧ (∀ q : Nat, s.heap.size ≤ q → A q) ∧ R = rm ∧ meth.locks = false
/-- what the world is behind a method -/
def gB {S : Type} (D : va_G) (tys : List (ClassId × FieldType)) (A : Nat → Prop) (w1 : S → va_W) : S → State → Prop := fun u t => va_P D vwCl (w1 u) t.heap ∧ va_K D vwCl tys t ∧ va_D A (w1 u)
def gEi {S : Type} (X : gX) (rt : Option FieldType) (tys : List (ClassId × FieldType)) (mc ms : Nat) (post : Int32 → S → Prop) (w1 : S → va_W) : Prop :=
  match X with
  | (_, _, _, _, s, _, args, below, meth, _, A, D, Q) => meth.sig.returnType = rt ∧ Q = MQ below (va_Qi post (gB D tys A w1) A) args s mc ms A
def gEl {S : Type} (X : gX) (rt : Option FieldType) (tys : List (ClassId × FieldType)) (mc ms : Nat) (post : Int64 → S → Prop) (w1 : S → va_W) : Prop :=
  match X with
  | (_, _, _, _, s, _, args, below, meth, _, A, D, Q) => meth.sig.returnType = rt ∧ Q = MQ below (va_Ql post (gB D tys A w1) A) args s mc ms A
def gEv {S : Type} (X : gX) (rt : Option FieldType) (tys : List (ClassId × FieldType)) (mc ms : Nat) (post : S → Prop) (w1 : S → va_W) : Prop :=
  match X with
  | (_, _, _, _, s, _, args, below, meth, _, A, D, Q) => meth.sig.returnType = rt ∧ Q = MQ below (va_Qv post (gB D tys A w1) A) args s mc ms A
/-- a method's contract -/
def gPre (av : List Value) (D : va_G) (tys : List (ClassId × FieldType)) (wc : va_W) (sz : Nat) : Array Value → State → Prop := va_Pc av (fun U => U.heap.size = sz ∧ va_P D vwCl wc U.heap ∧ va_K D vwCl tys U ∧ va_D (fun _ => True) wc)
def gMi {S : Type} (l : Launch) (y : MethodName) (wsy : List Cond) (rm : Room) (D : va_G) (tys : List (ClassId × FieldType)) (mc ms : Nat) (av : List Value) (wc : va_W) (post : Int32 → S → Prop) (w1 : S → va_W) : Prop :=
  ∀ sz : Nat, Met l y wsy rm (gPre av D tys wc sz) (va_Qi post (gB D tys (va_A wc sz) w1) (va_A wc sz)) mc ms (va_A wc sz)
def gMl {S : Type} (l : Launch) (y : MethodName) (wsy : List Cond) (rm : Room) (D : va_G) (tys : List (ClassId × FieldType)) (mc ms : Nat) (av : List Value) (wc : va_W) (post : Int64 → S → Prop) (w1 : S → va_W) : Prop :=
  ∀ sz : Nat, Met l y wsy rm (gPre av D tys wc sz) (va_Ql post (gB D tys (va_A wc sz) w1) (va_A wc sz)) mc ms (va_A wc sz)
def gMv {S : Type} (l : Launch) (y : MethodName) (wsy : List Cond) (rm : Room) (D : va_G) (tys : List (ClassId × FieldType)) (mc ms : Nat) (av : List Value) (wc : va_W) (post : S → Prop) (w1 : S → va_W) : Prop :=
  ∀ sz : Nat, Met l y wsy rm (gPre av D tys wc sz) (va_Qv post (gB D tys (va_A wc sz) w1) (va_A wc sz)) mc ms (va_A wc sz)
/-- a field that a method may reach -/
def gF (Ts : List Cond) (own : String) (index ci k : Nat) (Cn : String) (T : u_T) (N : Nat) : Prop := (∀ w ∈ u_ws Cn T N, w ∈ Ts) ∧ Cond.fieldLink own index (T k).1 (T k).2.1 (T k).2.2.1 ∈ Ts ∧ vwCl[ci]? = some (Cn, T, N) ∧ k < N
/-- a boolean as the machine has it -/
def bI (b : Bool) : Int32 := if b = true then 1 else 0
theorem bI_t {b : Bool} (h : b = true) : bI b = 1 := by simp [bI, h]
theorem bI_f {b : Bool} (h : b = false) : bI b = 0 := by simp [bI, h]
theorem bI_0 {b : Bool} : bI b = 0 ↔ b = false := by cases b <;> simp [bI]
theorem bI_n {b : Bool} : narrow .boolean (.int (bI b)) = .int (bI b) := by cases b <;> rfl

abbrev gT (cA : Nat → ClassId) : List (ClassId × FieldType) := [(cA 0, .int), (cA 1, .long), (cA 2, .boolean)]
theorem ik_m1 : Int32.ofInt (-1) = (-1 : Int32) := by decide
theorem ik_0 : Int32.ofInt (0) = (0 : Int32) := by decide
theorem ik_1 : Int32.ofInt (1) = (1 : Int32) := by decide
theorem ik_2 : Int32.ofInt (2) = (2 : Int32) := by decide
theorem ik_3 : Int32.ofInt (3) = (3 : Int32) := by decide
theorem ik_4 : Int32.ofInt (4) = (4 : Int32) := by decide
theorem ik_5 : Int32.ofInt (5) = (5 : Int32) := by decide
theorem lk_0 : Int64.ofNat (((0 : Fin 2) : Nat)) = (0 : Int64) := by decide
theorem lk_1 : Int64.ofNat (((1 : Fin 2) : Nat)) = (1 : Int64) := by decide
section GW
variable {X : gX} {k n : Nat} {ws : va_W} {nL : Nat} {lv : List (Nat × Value)} {st : List Value} {pc : Nat} {tys : List (ClassId × FieldType)} {cc : ByteArray} {own : String} {Ts : List Cond} {rm : Room}
theorem g_iconst (C : gC X tys cc nL own Ts rm) {i : Int} {v : Int32} (hd : decode cc pc = .ok (.iconst i, 1)) (hv : Int32.ofInt i = v) (kk : gW X k n ws nL lv (.int v :: st) (pc + 1)) : gW X k n ws nL lv (st) pc := by
  obtain ⟨p, l, e, R, s, m, args, below, meth, c, A, D, Q⟩ := X
  obtain ⟨hx, hb, hml, ho, ht, hK, hA, hR, hlk⟩ := C
  intro H locs ls hP hD hS hl
  exact lv_iconst hx hb hd hv (kk H locs ls hP hD hS hl)
theorem g_bipush (C : gC X tys cc nL own Ts rm) {i : Int} {v : Int32} (hd : decode cc pc = .ok (.bipush i, 2)) (hv : (Int8.ofInt i).toInt32 = v) (kk : gW X k n ws nL lv (.int v :: st) (pc + 2)) : gW X k n ws nL lv (st) pc := by
  obtain ⟨p, l, e, R, s, m, args, below, meth, c, A, D, Q⟩ := X
  obtain ⟨hx, hb, hml, ho, ht, hK, hA, hR, hlk⟩ := C
  intro H locs ls hP hD hS hl
  exact lv_bipush hx hb hd hv (kk H locs ls hP hD hS hl)
theorem g_sipush (C : gC X tys cc nL own Ts rm) {i : Int} {v : Int32} (hd : decode cc pc = .ok (.sipush i, 3)) (hv : (Int16.ofInt i).toInt32 = v) (kk : gW X k n ws nL lv (.int v :: st) (pc + 3)) : gW X k n ws nL lv (st) pc := by
  obtain ⟨p, l, e, R, s, m, args, below, meth, c, A, D, Q⟩ := X
  obtain ⟨hx, hb, hml, ho, ht, hK, hA, hR, hlk⟩ := C
  intro H locs ls hP hD hS hl
  exact lv_sipush hx hb hd hv (kk H locs ls hP hD hS hl)
theorem g_lconst (C : gC X tys cc nL own Ts rm) {i : Fin 2} {v : Int64} (hd : decode cc pc = .ok (.lconst i, 1)) (hv : Int64.ofNat (i : Nat) = v) (kk : gW X k n ws nL lv (.long v :: st) (pc + 1)) : gW X k n ws nL lv (st) pc := by
  obtain ⟨p, l, e, R, s, m, args, below, meth, c, A, D, Q⟩ := X
  obtain ⟨hx, hb, hml, ho, ht, hK, hA, hR, hlk⟩ := C
  intro H locs ls hP hD hS hl
  exact lv_lconst hx hb hd hv (kk H locs ls hP hD hS hl)
theorem g_ldc (C : gC X tys cc nL own Ts rm) {i : Nat} {v : Int32} (hw : Cond.constant own i v ∈ Ts) (hd : decode cc pc = .ok (.ldc i, 2)) (kk : gW X k n ws nL lv (.int v :: st) (pc + 2)) : gW X k n ws nL lv (st) pc := by
  obtain ⟨p, l, e, R, s, m, args, below, meth, c, A, D, Q⟩ := X
  obtain ⟨hx, hb, hml, ho, ht, hK, hA, hR, hlk⟩ := C
  intro H locs ls hP hD hS hl
  exact lv_ldc hx hb ho (ht _ hw) hd (kk H locs ls hP hD hS hl)
theorem g_ldc_w (C : gC X tys cc nL own Ts rm) {i : Nat} {v : Int32} (hw : Cond.constant own i v ∈ Ts) (hd : decode cc pc = .ok (.ldc_w i, 3)) (kk : gW X k n ws nL lv (.int v :: st) (pc + 3)) : gW X k n ws nL lv (st) pc := by
  obtain ⟨p, l, e, R, s, m, args, below, meth, c, A, D, Q⟩ := X
  obtain ⟨hx, hb, hml, ho, ht, hK, hA, hR, hlk⟩ := C
  intro H locs ls hP hD hS hl
  exact lv_ldcw hx hb ho (ht _ hw) hd (kk H locs ls hP hD hS hl)
theorem g_ldc2_w (C : gC X tys cc nL own Ts rm) {i : Nat} {v : Int64} (hw : Cond.constantLong own i v ∈ Ts) (hd : decode cc pc = .ok (.ldc2_w i, 3)) (kk : gW X k n ws nL lv (.long v :: st) (pc + 3)) : gW X k n ws nL lv (st) pc := by
  obtain ⟨p, l, e, R, s, m, args, below, meth, c, A, D, Q⟩ := X
  obtain ⟨hx, hb, hml, ho, ht, hK, hA, hR, hlk⟩ := C
  intro H locs ls hP hD hS hl
  exact lv_ldc2 hx hb ho (ht _ hw) hd (kk H locs ls hP hD hS hl)
theorem g_iload_n (C : gC X tys cc nL own Ts rm) {j : Fin 4} {i : Nat} {x : Int32} (hd : decode cc pc = .ok (.iload_n j, 1)) (hi : (j : Nat) = i) (q : Nat) (hq : lv[q]? = some (i, .int x)) (kk : gW X k n ws nL lv (.int x :: st) (pc + 1)) : gW X k n ws nL lv (st) pc := by
  obtain ⟨p, l, e, R, s, m, args, below, meth, c, A, D, Q⟩ := X
  obtain ⟨hx, hb, hml, ho, ht, hK, hA, hR, hlk⟩ := C
  intro H locs ls hP hD hS hl
  exact lv_iload_n hx hb hd hi (lv_at hl q hq) (kk H locs ls hP hD hS hl)
theorem g_iload (C : gC X tys cc nL own Ts rm) {i : Nat} {x : Int32} (hd : decode cc pc = .ok (.iload i, 2)) (q : Nat) (hq : lv[q]? = some (i, .int x)) (kk : gW X k n ws nL lv (.int x :: st) (pc + 2)) : gW X k n ws nL lv (st) pc := by
  obtain ⟨p, l, e, R, s, m, args, below, meth, c, A, D, Q⟩ := X
  obtain ⟨hx, hb, hml, ho, ht, hK, hA, hR, hlk⟩ := C
  intro H locs ls hP hD hS hl
  exact lv_iload hx hb hd (lv_at hl q hq) (kk H locs ls hP hD hS hl)
theorem g_istore_n (C : gC X tys cc nL own Ts rm) {j : Fin 4} {i : Nat} {x : Int32} {lv2 : List (Nat × Value)} (hd : decode cc pc = .ok (.istore_n j, 1)) (hi : (j : Nat) = i) (hn : i < nL) (ks : List Nat) (hk : lv_pick ((i, Value.int x) :: lv.filter (fun q => !(q.1 == i) && !(q.1 + 1 == i && q.2.category == 2))) ks = lv2) (kk : gW X k n ws nL lv2 st (pc + 1)) : gW X k n ws nL lv (.int x :: st) pc := by
  obtain ⟨p, l, e, R, s, m, args, below, meth, c, A, D, Q⟩ := X
  obtain ⟨hx, hb, hml, ho, ht, hK, hA, hR, hlk⟩ := C
  intro H locs ls hP hD hS hl
  exact lv_istore_n hx hb hd hi hl hn rfl (fun ls2 h2 => kk H locs ls2 hP hD hS (lv_sub h2 ks hk))
theorem g_istore (C : gC X tys cc nL own Ts rm) {i : Nat} {x : Int32} {lv2 : List (Nat × Value)} (hd : decode cc pc = .ok (.istore i, 2)) (hn : i < nL) (ks : List Nat) (hk : lv_pick ((i, Value.int x) :: lv.filter (fun q => !(q.1 == i) && !(q.1 + 1 == i && q.2.category == 2))) ks = lv2) (kk : gW X k n ws nL lv2 st (pc + 2)) : gW X k n ws nL lv (.int x :: st) pc := by
  obtain ⟨p, l, e, R, s, m, args, below, meth, c, A, D, Q⟩ := X
  obtain ⟨hx, hb, hml, ho, ht, hK, hA, hR, hlk⟩ := C
  intro H locs ls hP hD hS hl
  exact lv_istore hx hb hd hl hn rfl (fun ls2 h2 => kk H locs ls2 hP hD hS (lv_sub h2 ks hk))
theorem g_lload_n (C : gC X tys cc nL own Ts rm) {j : Fin 4} {i : Nat} {x : Int64} (hd : decode cc pc = .ok (.lload_n j, 1)) (hi : (j : Nat) = i) (q : Nat) (hq : lv[q]? = some (i, .long x)) (kk : gW X k n ws nL lv (.long x :: st) (pc + 1)) : gW X k n ws nL lv (st) pc := by
  obtain ⟨p, l, e, R, s, m, args, below, meth, c, A, D, Q⟩ := X
  obtain ⟨hx, hb, hml, ho, ht, hK, hA, hR, hlk⟩ := C
  intro H locs ls hP hD hS hl
  exact lv_lload_n hx hb hd hi (lv_at hl q hq) (kk H locs ls hP hD hS hl)
theorem g_lload (C : gC X tys cc nL own Ts rm) {i : Nat} {x : Int64} (hd : decode cc pc = .ok (.lload i, 2)) (q : Nat) (hq : lv[q]? = some (i, .long x)) (kk : gW X k n ws nL lv (.long x :: st) (pc + 2)) : gW X k n ws nL lv (st) pc := by
  obtain ⟨p, l, e, R, s, m, args, below, meth, c, A, D, Q⟩ := X
  obtain ⟨hx, hb, hml, ho, ht, hK, hA, hR, hlk⟩ := C
  intro H locs ls hP hD hS hl
  exact lv_lload hx hb hd (lv_at hl q hq) (kk H locs ls hP hD hS hl)
theorem g_lstore_n (C : gC X tys cc nL own Ts rm) {j : Fin 4} {i : Nat} {x : Int64} {lv2 : List (Nat × Value)} (hd : decode cc pc = .ok (.lstore_n j, 1)) (hi : (j : Nat) = i) (hn : i + 1 < nL) (ks : List Nat) (hk : lv_pick ((i, Value.long x) :: lv.filter (fun q => !(q.1 == i) && (!(q.1 == i + 1) && !(q.1 + 1 == i && q.2.category == 2)))) ks = lv2) (kk : gW X k n ws nL lv2 st (pc + 1)) : gW X k n ws nL lv (.long x :: st) pc := by
  obtain ⟨p, l, e, R, s, m, args, below, meth, c, A, D, Q⟩ := X
  obtain ⟨hx, hb, hml, ho, ht, hK, hA, hR, hlk⟩ := C
  intro H locs ls hP hD hS hl
  exact lv_lstore_n hx hb hd hi hl hn rfl (fun ls2 h2 => kk H locs ls2 hP hD hS (lv_sub h2 ks hk))
theorem g_lstore (C : gC X tys cc nL own Ts rm) {i : Nat} {x : Int64} {lv2 : List (Nat × Value)} (hd : decode cc pc = .ok (.lstore i, 2)) (hn : i + 1 < nL) (ks : List Nat) (hk : lv_pick ((i, Value.long x) :: lv.filter (fun q => !(q.1 == i) && (!(q.1 == i + 1) && !(q.1 + 1 == i && q.2.category == 2)))) ks = lv2) (kk : gW X k n ws nL lv2 st (pc + 2)) : gW X k n ws nL lv (.long x :: st) pc := by
  obtain ⟨p, l, e, R, s, m, args, below, meth, c, A, D, Q⟩ := X
  obtain ⟨hx, hb, hml, ho, ht, hK, hA, hR, hlk⟩ := C
  intro H locs ls hP hD hS hl
  exact lv_lstore hx hb hd hl hn rfl (fun ls2 h2 => kk H locs ls2 hP hD hS (lv_sub h2 ks hk))
theorem g_aload_n (C : gC X tys cc nL own Ts rm) {j : Fin 4} {i : Nat} {x : Nat} (hd : decode cc pc = .ok (.aload_n j, 1)) (hi : (j : Nat) = i) (q : Nat) (hq : lv[q]? = some (i, .ref x)) (kk : gW X k n ws nL lv (.ref x :: st) (pc + 1)) : gW X k n ws nL lv (st) pc := by
  obtain ⟨p, l, e, R, s, m, args, below, meth, c, A, D, Q⟩ := X
  obtain ⟨hx, hb, hml, ho, ht, hK, hA, hR, hlk⟩ := C
  intro H locs ls hP hD hS hl
  exact lv_aload_n hx hb hd hi (lv_at hl q hq) (kk H locs ls hP hD hS hl)
theorem g_aload (C : gC X tys cc nL own Ts rm) {i : Nat} {x : Nat} (hd : decode cc pc = .ok (.aload i, 2)) (q : Nat) (hq : lv[q]? = some (i, .ref x)) (kk : gW X k n ws nL lv (.ref x :: st) (pc + 2)) : gW X k n ws nL lv (st) pc := by
  obtain ⟨p, l, e, R, s, m, args, below, meth, c, A, D, Q⟩ := X
  obtain ⟨hx, hb, hml, ho, ht, hK, hA, hR, hlk⟩ := C
  intro H locs ls hP hD hS hl
  exact lv_aload hx hb hd (lv_at hl q hq) (kk H locs ls hP hD hS hl)
theorem g_astore_n (C : gC X tys cc nL own Ts rm) {j : Fin 4} {i : Nat} {x : Nat} {lv2 : List (Nat × Value)} (hd : decode cc pc = .ok (.astore_n j, 1)) (hi : (j : Nat) = i) (hn : i < nL) (ks : List Nat) (hk : lv_pick ((i, Value.ref x) :: lv.filter (fun q => !(q.1 == i) && !(q.1 + 1 == i && q.2.category == 2))) ks = lv2) (kk : gW X k n ws nL lv2 st (pc + 1)) : gW X k n ws nL lv (.ref x :: st) pc := by
  obtain ⟨p, l, e, R, s, m, args, below, meth, c, A, D, Q⟩ := X
  obtain ⟨hx, hb, hml, ho, ht, hK, hA, hR, hlk⟩ := C
  intro H locs ls hP hD hS hl
  exact lv_astore_n hx hb hd hi hl hn rfl (fun ls2 h2 => kk H locs ls2 hP hD hS (lv_sub h2 ks hk))
theorem g_astore (C : gC X tys cc nL own Ts rm) {i : Nat} {x : Nat} {lv2 : List (Nat × Value)} (hd : decode cc pc = .ok (.astore i, 2)) (hn : i < nL) (ks : List Nat) (hk : lv_pick ((i, Value.ref x) :: lv.filter (fun q => !(q.1 == i) && !(q.1 + 1 == i && q.2.category == 2))) ks = lv2) (kk : gW X k n ws nL lv2 st (pc + 2)) : gW X k n ws nL lv (.ref x :: st) pc := by
  obtain ⟨p, l, e, R, s, m, args, below, meth, c, A, D, Q⟩ := X
  obtain ⟨hx, hb, hml, ho, ht, hK, hA, hR, hlk⟩ := C
  intro H locs ls hP hD hS hl
  exact lv_astore hx hb hd hl hn rfl (fun ls2 h2 => kk H locs ls2 hP hD hS (lv_sub h2 ks hk))
theorem g_iinc (C : gC X tys cc nL own Ts rm) {i : Nat} {d : Int} {x v : Int32} {lv2 : List (Nat × Value)} (hd : decode cc pc = .ok (.iinc i d, 3)) (q : Nat) (hq : lv[q]? = some (i, .int x)) (hv : x + Int32.ofInt d = v) (hn : i < nL) (ks : List Nat) (hk : lv_pick ((i, Value.int v) :: lv.filter (fun q => !(q.1 == i) && !(q.1 + 1 == i && q.2.category == 2))) ks = lv2) (kk : gW X k n ws nL lv2 st (pc + 3)) : gW X k n ws nL lv (st) pc := by
  obtain ⟨p, l, e, R, s, m, args, below, meth, c, A, D, Q⟩ := X
  obtain ⟨hx, hb, hml, ho, ht, hK, hA, hR, hlk⟩ := C
  intro H locs ls hP hD hS hl
  exact lv_iinc hx hb hd hl hq hv hn rfl (fun ls2 h2 => kk H locs ls2 hP hD hS (lv_sub h2 ks hk))
theorem g_iadd (C : gC X tys cc nL own Ts rm) {x y : Int32} (hd : decode cc pc = .ok (.iadd, 1)) (kk : gW X k n ws nL lv (.int (x + y) :: st) (pc + 1)) : gW X k n ws nL lv (.int y :: .int x :: st) pc := by
  obtain ⟨p, l, e, R, s, m, args, below, meth, c, A, D, Q⟩ := X
  obtain ⟨hx, hb, hml, ho, ht, hK, hA, hR, hlk⟩ := C
  intro H locs ls hP hD hS hl
  exact lv_iadd hx hb hd (kk H locs ls hP hD hS hl)
theorem g_isub (C : gC X tys cc nL own Ts rm) {x y : Int32} (hd : decode cc pc = .ok (.isub, 1)) (kk : gW X k n ws nL lv (.int (x - y) :: st) (pc + 1)) : gW X k n ws nL lv (.int y :: .int x :: st) pc := by
  obtain ⟨p, l, e, R, s, m, args, below, meth, c, A, D, Q⟩ := X
  obtain ⟨hx, hb, hml, ho, ht, hK, hA, hR, hlk⟩ := C
  intro H locs ls hP hD hS hl
  exact lv_isub hx hb hd (kk H locs ls hP hD hS hl)
theorem g_imul (C : gC X tys cc nL own Ts rm) {x y : Int32} (hd : decode cc pc = .ok (.imul, 1)) (kk : gW X k n ws nL lv (.int (x * y) :: st) (pc + 1)) : gW X k n ws nL lv (.int y :: .int x :: st) pc := by
  obtain ⟨p, l, e, R, s, m, args, below, meth, c, A, D, Q⟩ := X
  obtain ⟨hx, hb, hml, ho, ht, hK, hA, hR, hlk⟩ := C
  intro H locs ls hP hD hS hl
  exact lv_imul hx hb hd (kk H locs ls hP hD hS hl)
theorem g_iand (C : gC X tys cc nL own Ts rm) {x y : Int32} (hd : decode cc pc = .ok (.iand, 1)) (kk : gW X k n ws nL lv (.int (x &&& y) :: st) (pc + 1)) : gW X k n ws nL lv (.int y :: .int x :: st) pc := by
  obtain ⟨p, l, e, R, s, m, args, below, meth, c, A, D, Q⟩ := X
  obtain ⟨hx, hb, hml, ho, ht, hK, hA, hR, hlk⟩ := C
  intro H locs ls hP hD hS hl
  exact lv_iand hx hb hd (kk H locs ls hP hD hS hl)
theorem g_ior (C : gC X tys cc nL own Ts rm) {x y : Int32} (hd : decode cc pc = .ok (.ior, 1)) (kk : gW X k n ws nL lv (.int (x ||| y) :: st) (pc + 1)) : gW X k n ws nL lv (.int y :: .int x :: st) pc := by
  obtain ⟨p, l, e, R, s, m, args, below, meth, c, A, D, Q⟩ := X
  obtain ⟨hx, hb, hml, ho, ht, hK, hA, hR, hlk⟩ := C
  intro H locs ls hP hD hS hl
  exact lv_ior hx hb hd (kk H locs ls hP hD hS hl)
theorem g_ixor (C : gC X tys cc nL own Ts rm) {x y : Int32} (hd : decode cc pc = .ok (.ixor, 1)) (kk : gW X k n ws nL lv (.int (x ^^^ y) :: st) (pc + 1)) : gW X k n ws nL lv (.int y :: .int x :: st) pc := by
  obtain ⟨p, l, e, R, s, m, args, below, meth, c, A, D, Q⟩ := X
  obtain ⟨hx, hb, hml, ho, ht, hK, hA, hR, hlk⟩ := C
  intro H locs ls hP hD hS hl
  exact lv_ixor hx hb hd (kk H locs ls hP hD hS hl)
theorem g_ineg (C : gC X tys cc nL own Ts rm) {x : Int32} (hd : decode cc pc = .ok (.ineg, 1)) (kk : gW X k n ws nL lv (.int (-x) :: st) (pc + 1)) : gW X k n ws nL lv (.int x :: st) pc := by
  obtain ⟨p, l, e, R, s, m, args, below, meth, c, A, D, Q⟩ := X
  obtain ⟨hx, hb, hml, ho, ht, hK, hA, hR, hlk⟩ := C
  intro H locs ls hP hD hS hl
  exact lv_ineg hx hb hd (kk H locs ls hP hD hS hl)
theorem g_idiv (C : gC X tys cc nL own Ts rm) {x y : Int32} (hd : decode cc pc = .ok (.idiv, 1)) (hne : ¬ y = 0) (kk : gW X k n ws nL lv (.int (x / y) :: st) (pc + 1)) : gW X k n ws nL lv (.int y :: .int x :: st) pc := by
  obtain ⟨p, l, e, R, s, m, args, below, meth, c, A, D, Q⟩ := X
  obtain ⟨hx, hb, hml, ho, ht, hK, hA, hR, hlk⟩ := C
  intro H locs ls hP hD hS hl
  exact lv_idiv hx hb hd hne (kk H locs ls hP hD hS hl)
theorem g_irem (C : gC X tys cc nL own Ts rm) {x y : Int32} (hd : decode cc pc = .ok (.irem, 1)) (hne : ¬ y = 0) (kk : gW X k n ws nL lv (.int (x - x / y * y) :: st) (pc + 1)) : gW X k n ws nL lv (.int y :: .int x :: st) pc := by
  obtain ⟨p, l, e, R, s, m, args, below, meth, c, A, D, Q⟩ := X
  obtain ⟨hx, hb, hml, ho, ht, hK, hA, hR, hlk⟩ := C
  intro H locs ls hP hD hS hl
  exact lv_irem hx hb hd hne (kk H locs ls hP hD hS hl)
theorem g_ladd (C : gC X tys cc nL own Ts rm) {x y : Int64} (hd : decode cc pc = .ok (.ladd, 1)) (kk : gW X k n ws nL lv (.long (x + y) :: st) (pc + 1)) : gW X k n ws nL lv (.long y :: .long x :: st) pc := by
  obtain ⟨p, l, e, R, s, m, args, below, meth, c, A, D, Q⟩ := X
  obtain ⟨hx, hb, hml, ho, ht, hK, hA, hR, hlk⟩ := C
  intro H locs ls hP hD hS hl
  exact lv_ladd hx hb hd (kk H locs ls hP hD hS hl)
theorem g_lsub (C : gC X tys cc nL own Ts rm) {x y : Int64} (hd : decode cc pc = .ok (.lsub, 1)) (kk : gW X k n ws nL lv (.long (x - y) :: st) (pc + 1)) : gW X k n ws nL lv (.long y :: .long x :: st) pc := by
  obtain ⟨p, l, e, R, s, m, args, below, meth, c, A, D, Q⟩ := X
  obtain ⟨hx, hb, hml, ho, ht, hK, hA, hR, hlk⟩ := C
  intro H locs ls hP hD hS hl
  exact lv_lsub hx hb hd (kk H locs ls hP hD hS hl)
theorem g_lmul (C : gC X tys cc nL own Ts rm) {x y : Int64} (hd : decode cc pc = .ok (.lmul, 1)) (kk : gW X k n ws nL lv (.long (x * y) :: st) (pc + 1)) : gW X k n ws nL lv (.long y :: .long x :: st) pc := by
  obtain ⟨p, l, e, R, s, m, args, below, meth, c, A, D, Q⟩ := X
  obtain ⟨hx, hb, hml, ho, ht, hK, hA, hR, hlk⟩ := C
  intro H locs ls hP hD hS hl
  exact lv_lmul hx hb hd (kk H locs ls hP hD hS hl)
theorem g_land (C : gC X tys cc nL own Ts rm) {x y : Int64} (hd : decode cc pc = .ok (.land, 1)) (kk : gW X k n ws nL lv (.long (x &&& y) :: st) (pc + 1)) : gW X k n ws nL lv (.long y :: .long x :: st) pc := by
  obtain ⟨p, l, e, R, s, m, args, below, meth, c, A, D, Q⟩ := X
  obtain ⟨hx, hb, hml, ho, ht, hK, hA, hR, hlk⟩ := C
  intro H locs ls hP hD hS hl
  exact lv_land hx hb hd (kk H locs ls hP hD hS hl)
theorem g_lor (C : gC X tys cc nL own Ts rm) {x y : Int64} (hd : decode cc pc = .ok (.lor, 1)) (kk : gW X k n ws nL lv (.long (x ||| y) :: st) (pc + 1)) : gW X k n ws nL lv (.long y :: .long x :: st) pc := by
  obtain ⟨p, l, e, R, s, m, args, below, meth, c, A, D, Q⟩ := X
  obtain ⟨hx, hb, hml, ho, ht, hK, hA, hR, hlk⟩ := C
  intro H locs ls hP hD hS hl
  exact lv_lor hx hb hd (kk H locs ls hP hD hS hl)
theorem g_lxor (C : gC X tys cc nL own Ts rm) {x y : Int64} (hd : decode cc pc = .ok (.lxor, 1)) (kk : gW X k n ws nL lv (.long (x ^^^ y) :: st) (pc + 1)) : gW X k n ws nL lv (.long y :: .long x :: st) pc := by
  obtain ⟨p, l, e, R, s, m, args, below, meth, c, A, D, Q⟩ := X
  obtain ⟨hx, hb, hml, ho, ht, hK, hA, hR, hlk⟩ := C
  intro H locs ls hP hD hS hl
  exact lv_lxor hx hb hd (kk H locs ls hP hD hS hl)
theorem g_lneg (C : gC X tys cc nL own Ts rm) {x : Int64} (hd : decode cc pc = .ok (.lneg, 1)) (kk : gW X k n ws nL lv (.long (-x) :: st) (pc + 1)) : gW X k n ws nL lv (.long x :: st) pc := by
  obtain ⟨p, l, e, R, s, m, args, below, meth, c, A, D, Q⟩ := X
  obtain ⟨hx, hb, hml, ho, ht, hK, hA, hR, hlk⟩ := C
  intro H locs ls hP hD hS hl
  exact lv_lneg hx hb hd (kk H locs ls hP hD hS hl)
theorem g_ldiv (C : gC X tys cc nL own Ts rm) {x y : Int64} (hd : decode cc pc = .ok (.ldiv, 1)) (hne : ¬ y = 0) (kk : gW X k n ws nL lv (.long (x / y) :: st) (pc + 1)) : gW X k n ws nL lv (.long y :: .long x :: st) pc := by
  obtain ⟨p, l, e, R, s, m, args, below, meth, c, A, D, Q⟩ := X
  obtain ⟨hx, hb, hml, ho, ht, hK, hA, hR, hlk⟩ := C
  intro H locs ls hP hD hS hl
  exact lv_ldiv hx hb hd hne (kk H locs ls hP hD hS hl)
theorem g_lrem (C : gC X tys cc nL own Ts rm) {x y : Int64} (hd : decode cc pc = .ok (.lrem, 1)) (hne : ¬ y = 0) (kk : gW X k n ws nL lv (.long (x - x / y * y) :: st) (pc + 1)) : gW X k n ws nL lv (.long y :: .long x :: st) pc := by
  obtain ⟨p, l, e, R, s, m, args, below, meth, c, A, D, Q⟩ := X
  obtain ⟨hx, hb, hml, ho, ht, hK, hA, hR, hlk⟩ := C
  intro H locs ls hP hD hS hl
  exact lv_lrem hx hb hd hne (kk H locs ls hP hD hS hl)
theorem g_ishl (C : gC X tys cc nL own Ts rm) {x y : Int32} (hd : decode cc pc = .ok (.ishl, 1)) (kk : gW X k n ws nL lv (.int (x <<< (y &&& 31)) :: st) (pc + 1)) : gW X k n ws nL lv (.int y :: .int x :: st) pc := by
  obtain ⟨p, l, e, R, s, m, args, below, meth, c, A, D, Q⟩ := X
  obtain ⟨hx, hb, hml, ho, ht, hK, hA, hR, hlk⟩ := C
  intro H locs ls hP hD hS hl
  exact lv_ishl hx hb hd (kk H locs ls hP hD hS hl)
theorem g_ishr (C : gC X tys cc nL own Ts rm) {x y : Int32} (hd : decode cc pc = .ok (.ishr, 1)) (kk : gW X k n ws nL lv (.int (x >>> (y &&& 31)) :: st) (pc + 1)) : gW X k n ws nL lv (.int y :: .int x :: st) pc := by
  obtain ⟨p, l, e, R, s, m, args, below, meth, c, A, D, Q⟩ := X
  obtain ⟨hx, hb, hml, ho, ht, hK, hA, hR, hlk⟩ := C
  intro H locs ls hP hD hS hl
  exact lv_ishr hx hb hd (kk H locs ls hP hD hS hl)
theorem g_iushr (C : gC X tys cc nL own Ts rm) {x y : Int32} (hd : decode cc pc = .ok (.iushr, 1)) (kk : gW X k n ws nL lv (.int ((x.toUInt32 >>> (y.toUInt32 &&& Int32.toUInt32 31)).toInt32) :: st) (pc + 1)) : gW X k n ws nL lv (.int y :: .int x :: st) pc := by
  obtain ⟨p, l, e, R, s, m, args, below, meth, c, A, D, Q⟩ := X
  obtain ⟨hx, hb, hml, ho, ht, hK, hA, hR, hlk⟩ := C
  intro H locs ls hP hD hS hl
  exact lv_iushr hx hb hd rfl (kk H locs ls hP hD hS hl)
theorem g_lshl (C : gC X tys cc nL own Ts rm) {x : Int64} {y : Int32} (hd : decode cc pc = .ok (.lshl, 1)) (kk : gW X k n ws nL lv (.long (x <<< (y.toInt64 &&& 63)) :: st) (pc + 1)) : gW X k n ws nL lv (.int y :: .long x :: st) pc := by
  obtain ⟨p, l, e, R, s, m, args, below, meth, c, A, D, Q⟩ := X
  obtain ⟨hx, hb, hml, ho, ht, hK, hA, hR, hlk⟩ := C
  intro H locs ls hP hD hS hl
  exact lv_lshl hx hb hd rfl (kk H locs ls hP hD hS hl)
theorem g_lshr (C : gC X tys cc nL own Ts rm) {x : Int64} {y : Int32} (hd : decode cc pc = .ok (.lshr, 1)) (kk : gW X k n ws nL lv (.long (x >>> (y.toInt64 &&& 63)) :: st) (pc + 1)) : gW X k n ws nL lv (.int y :: .long x :: st) pc := by
  obtain ⟨p, l, e, R, s, m, args, below, meth, c, A, D, Q⟩ := X
  obtain ⟨hx, hb, hml, ho, ht, hK, hA, hR, hlk⟩ := C
  intro H locs ls hP hD hS hl
  exact lv_lshr hx hb hd rfl (kk H locs ls hP hD hS hl)
theorem g_lushr (C : gC X tys cc nL own Ts rm) {x : Int64} {y : Int32} (hd : decode cc pc = .ok (.lushr, 1)) (kk : gW X k n ws nL lv (.long ((x.toUInt64 >>> (y.toInt64.toUInt64 &&& Int64.toUInt64 63)).toInt64) :: st) (pc + 1)) : gW X k n ws nL lv (.int y :: .long x :: st) pc := by
  obtain ⟨p, l, e, R, s, m, args, below, meth, c, A, D, Q⟩ := X
  obtain ⟨hx, hb, hml, ho, ht, hK, hA, hR, hlk⟩ := C
  intro H locs ls hP hD hS hl
  exact lv_lushr hx hb hd rfl (kk H locs ls hP hD hS hl)
theorem g_i2l (C : gC X tys cc nL own Ts rm) {x : Int32} (hd : decode cc pc = .ok (.i2l, 1)) (kk : gW X k n ws nL lv (.long x.toInt64 :: st) (pc + 1)) : gW X k n ws nL lv (.int x :: st) pc := by
  obtain ⟨p, l, e, R, s, m, args, below, meth, c, A, D, Q⟩ := X
  obtain ⟨hx, hb, hml, ho, ht, hK, hA, hR, hlk⟩ := C
  intro H locs ls hP hD hS hl
  exact lv_i2l hx hb hd rfl (kk H locs ls hP hD hS hl)
theorem g_l2i (C : gC X tys cc nL own Ts rm) {x : Int64} (hd : decode cc pc = .ok (.l2i, 1)) (kk : gW X k n ws nL lv (.int x.toInt32 :: st) (pc + 1)) : gW X k n ws nL lv (.long x :: st) pc := by
  obtain ⟨p, l, e, R, s, m, args, below, meth, c, A, D, Q⟩ := X
  obtain ⟨hx, hb, hml, ho, ht, hK, hA, hR, hlk⟩ := C
  intro H locs ls hP hD hS hl
  exact lv_l2i hx hb hd rfl (kk H locs ls hP hD hS hl)
theorem g_lcmp (C : gC X tys cc nL own Ts rm) {x y : Int64} (hd : decode cc pc = .ok (.lcmp, 1)) (kk : gW X k n ws nL lv (.int (lg_cmp x y) :: st) (pc + 1)) : gW X k n ws nL lv (.long y :: .long x :: st) pc := by
  obtain ⟨p, l, e, R, s, m, args, below, meth, c, A, D, Q⟩ := X
  obtain ⟨hx, hb, hml, ho, ht, hK, hA, hR, hlk⟩ := C
  intro H locs ls hP hD hS hl
  exact W.lcmp hx hb hd (kk H locs ls hP hD hS hl)
theorem g_dup (C : gC X tys cc nL own Ts rm) {va : Value} (hd : decode cc pc = .ok (.dup, 1)) (hva : va.category = 1) (kk : gW X k n ws nL lv (va :: va :: st) (pc + 1)) : gW X k n ws nL lv (va :: st) pc := by
  obtain ⟨p, l, e, R, s, m, args, below, meth, c, A, D, Q⟩ := X
  obtain ⟨hx, hb, hml, ho, ht, hK, hA, hR, hlk⟩ := C
  intro H locs ls hP hD hS hl
  exact lv_dup hx hb hd hva (kk H locs ls hP hD hS hl)
theorem g_dup2_2 (C : gC X tys cc nL own Ts rm) {va : Value} (hd : decode cc pc = .ok (.dup2, 1)) (hva : va.category = 2) (kk : gW X k n ws nL lv (va :: va :: st) (pc + 1)) : gW X k n ws nL lv (va :: st) pc := by
  obtain ⟨p, l, e, R, s, m, args, below, meth, c, A, D, Q⟩ := X
  obtain ⟨hx, hb, hml, ho, ht, hK, hA, hR, hlk⟩ := C
  intro H locs ls hP hD hS hl
  exact lv_dup2_2 hx hb hd hva (kk H locs ls hP hD hS hl)
theorem g_dup2_11 (C : gC X tys cc nL own Ts rm) {va vb : Value} (hd : decode cc pc = .ok (.dup2, 1)) (hva : va.category = 1) (hvb : vb.category = 1) (kk : gW X k n ws nL lv (va :: vb :: va :: vb :: st) (pc + 1)) : gW X k n ws nL lv (va :: vb :: st) pc := by
  obtain ⟨p, l, e, R, s, m, args, below, meth, c, A, D, Q⟩ := X
  obtain ⟨hx, hb, hml, ho, ht, hK, hA, hR, hlk⟩ := C
  intro H locs ls hP hD hS hl
  exact lv_dup2_11 hx hb hd hva hvb (kk H locs ls hP hD hS hl)
theorem g_goto (C : gC X tys cc nL own Ts rm) {off : Int} {tgt : Nat} (hd : decode cc pc = .ok (.goto off, 3)) (h0 : (pc : Int) + off = (tgt : Int)) (kk : gW X k n ws nL lv st tgt) : gW X k n ws nL lv (st) pc := by
  obtain ⟨p, l, e, R, s, m, args, below, meth, c, A, D, Q⟩ := X
  obtain ⟨hx, hb, hml, ho, ht, hK, hA, hR, hlk⟩ := C
  intro H locs ls hP hD hS hl
  exact lv_goto hx hb hd h0 (kk H locs ls hP hD hS hl)
theorem g_icmp_eq (C : gC X tys cc nL own Ts rm) {x y : Int32} {off : Int} {tgt : Nat} (hd : decode cc pc = .ok (.if_icmp .eq off, 3)) (h0 : (pc : Int) + off = (tgt : Int)) (kt : x = y → gW X k n ws nL lv st tgt) (kf : ¬ x = y → gW X k n ws nL lv st (pc + 3)) : gW X k n ws nL lv (.int y :: .int x :: st) pc := by
  obtain ⟨p, l, e, R, s, m, args, below, meth, c, A, D, Q⟩ := X
  obtain ⟨hx, hb, hml, ho, ht, hK, hA, hR, hlk⟩ := C
  intro H locs ls hP hD hS hl
  exact lv_icmp_eq hx hb hd h0 (fun h => kt h H locs ls hP hD hS hl) (fun h => kf h H locs ls hP hD hS hl)
theorem g_if_eq (C : gC X tys cc nL own Ts rm) {x : Int32} {off : Int} {tgt : Nat} (hd : decode cc pc = .ok (.ifCond .eq off, 3)) (h0 : (pc : Int) + off = (tgt : Int)) (kt : x = 0 → gW X k n ws nL lv st tgt) (kf : ¬ x = 0 → gW X k n ws nL lv st (pc + 3)) : gW X k n ws nL lv (.int x :: st) pc := by
  obtain ⟨p, l, e, R, s, m, args, below, meth, c, A, D, Q⟩ := X
  obtain ⟨hx, hb, hml, ho, ht, hK, hA, hR, hlk⟩ := C
  intro H locs ls hP hD hS hl
  exact lv_if_eq hx hb hd h0 (fun h => kt h H locs ls hP hD hS hl) (fun h => kf h H locs ls hP hD hS hl)
theorem g_icmp_ne (C : gC X tys cc nL own Ts rm) {x y : Int32} {off : Int} {tgt : Nat} (hd : decode cc pc = .ok (.if_icmp .ne off, 3)) (h0 : (pc : Int) + off = (tgt : Int)) (kt : ¬ x = y → gW X k n ws nL lv st tgt) (kf : x = y → gW X k n ws nL lv st (pc + 3)) : gW X k n ws nL lv (.int y :: .int x :: st) pc := by
  obtain ⟨p, l, e, R, s, m, args, below, meth, c, A, D, Q⟩ := X
  obtain ⟨hx, hb, hml, ho, ht, hK, hA, hR, hlk⟩ := C
  intro H locs ls hP hD hS hl
  exact lv_icmp_ne hx hb hd h0 (fun h => kt h H locs ls hP hD hS hl) (fun h => kf h H locs ls hP hD hS hl)
theorem g_if_ne (C : gC X tys cc nL own Ts rm) {x : Int32} {off : Int} {tgt : Nat} (hd : decode cc pc = .ok (.ifCond .ne off, 3)) (h0 : (pc : Int) + off = (tgt : Int)) (kt : ¬ x = 0 → gW X k n ws nL lv st tgt) (kf : x = 0 → gW X k n ws nL lv st (pc + 3)) : gW X k n ws nL lv (.int x :: st) pc := by
  obtain ⟨p, l, e, R, s, m, args, below, meth, c, A, D, Q⟩ := X
  obtain ⟨hx, hb, hml, ho, ht, hK, hA, hR, hlk⟩ := C
  intro H locs ls hP hD hS hl
  exact lv_if_ne hx hb hd h0 (fun h => kt h H locs ls hP hD hS hl) (fun h => kf h H locs ls hP hD hS hl)
theorem g_icmp_lt (C : gC X tys cc nL own Ts rm) {x y : Int32} {off : Int} {tgt : Nat} (hd : decode cc pc = .ok (.if_icmp .lt off, 3)) (h0 : (pc : Int) + off = (tgt : Int)) (kt : x < y → gW X k n ws nL lv st tgt) (kf : ¬ x < y → gW X k n ws nL lv st (pc + 3)) : gW X k n ws nL lv (.int y :: .int x :: st) pc := by
  obtain ⟨p, l, e, R, s, m, args, below, meth, c, A, D, Q⟩ := X
  obtain ⟨hx, hb, hml, ho, ht, hK, hA, hR, hlk⟩ := C
  intro H locs ls hP hD hS hl
  exact lv_icmp_lt hx hb hd h0 (fun h => kt h H locs ls hP hD hS hl) (fun h => kf h H locs ls hP hD hS hl)
theorem g_if_lt (C : gC X tys cc nL own Ts rm) {x : Int32} {off : Int} {tgt : Nat} (hd : decode cc pc = .ok (.ifCond .lt off, 3)) (h0 : (pc : Int) + off = (tgt : Int)) (kt : x < 0 → gW X k n ws nL lv st tgt) (kf : ¬ x < 0 → gW X k n ws nL lv st (pc + 3)) : gW X k n ws nL lv (.int x :: st) pc := by
  obtain ⟨p, l, e, R, s, m, args, below, meth, c, A, D, Q⟩ := X
  obtain ⟨hx, hb, hml, ho, ht, hK, hA, hR, hlk⟩ := C
  intro H locs ls hP hD hS hl
  exact lv_if_lt hx hb hd h0 (fun h => kt h H locs ls hP hD hS hl) (fun h => kf h H locs ls hP hD hS hl)
theorem g_icmp_ge (C : gC X tys cc nL own Ts rm) {x y : Int32} {off : Int} {tgt : Nat} (hd : decode cc pc = .ok (.if_icmp .ge off, 3)) (h0 : (pc : Int) + off = (tgt : Int)) (kt : y ≤ x → gW X k n ws nL lv st tgt) (kf : ¬ y ≤ x → gW X k n ws nL lv st (pc + 3)) : gW X k n ws nL lv (.int y :: .int x :: st) pc := by
  obtain ⟨p, l, e, R, s, m, args, below, meth, c, A, D, Q⟩ := X
  obtain ⟨hx, hb, hml, ho, ht, hK, hA, hR, hlk⟩ := C
  intro H locs ls hP hD hS hl
  exact lv_icmp_ge hx hb hd h0 (fun h => kt h H locs ls hP hD hS hl) (fun h => kf h H locs ls hP hD hS hl)
theorem g_if_ge (C : gC X tys cc nL own Ts rm) {x : Int32} {off : Int} {tgt : Nat} (hd : decode cc pc = .ok (.ifCond .ge off, 3)) (h0 : (pc : Int) + off = (tgt : Int)) (kt : 0 ≤ x → gW X k n ws nL lv st tgt) (kf : ¬ 0 ≤ x → gW X k n ws nL lv st (pc + 3)) : gW X k n ws nL lv (.int x :: st) pc := by
  obtain ⟨p, l, e, R, s, m, args, below, meth, c, A, D, Q⟩ := X
  obtain ⟨hx, hb, hml, ho, ht, hK, hA, hR, hlk⟩ := C
  intro H locs ls hP hD hS hl
  exact lv_if_ge hx hb hd h0 (fun h => kt h H locs ls hP hD hS hl) (fun h => kf h H locs ls hP hD hS hl)
theorem g_icmp_gt (C : gC X tys cc nL own Ts rm) {x y : Int32} {off : Int} {tgt : Nat} (hd : decode cc pc = .ok (.if_icmp .gt off, 3)) (h0 : (pc : Int) + off = (tgt : Int)) (kt : y < x → gW X k n ws nL lv st tgt) (kf : ¬ y < x → gW X k n ws nL lv st (pc + 3)) : gW X k n ws nL lv (.int y :: .int x :: st) pc := by
  obtain ⟨p, l, e, R, s, m, args, below, meth, c, A, D, Q⟩ := X
  obtain ⟨hx, hb, hml, ho, ht, hK, hA, hR, hlk⟩ := C
  intro H locs ls hP hD hS hl
  exact lv_icmp_gt hx hb hd h0 (fun h => kt h H locs ls hP hD hS hl) (fun h => kf h H locs ls hP hD hS hl)
theorem g_if_gt (C : gC X tys cc nL own Ts rm) {x : Int32} {off : Int} {tgt : Nat} (hd : decode cc pc = .ok (.ifCond .gt off, 3)) (h0 : (pc : Int) + off = (tgt : Int)) (kt : 0 < x → gW X k n ws nL lv st tgt) (kf : ¬ 0 < x → gW X k n ws nL lv st (pc + 3)) : gW X k n ws nL lv (.int x :: st) pc := by
  obtain ⟨p, l, e, R, s, m, args, below, meth, c, A, D, Q⟩ := X
  obtain ⟨hx, hb, hml, ho, ht, hK, hA, hR, hlk⟩ := C
  intro H locs ls hP hD hS hl
  exact lv_if_gt hx hb hd h0 (fun h => kt h H locs ls hP hD hS hl) (fun h => kf h H locs ls hP hD hS hl)
theorem g_icmp_le (C : gC X tys cc nL own Ts rm) {x y : Int32} {off : Int} {tgt : Nat} (hd : decode cc pc = .ok (.if_icmp .le off, 3)) (h0 : (pc : Int) + off = (tgt : Int)) (kt : x ≤ y → gW X k n ws nL lv st tgt) (kf : ¬ x ≤ y → gW X k n ws nL lv st (pc + 3)) : gW X k n ws nL lv (.int y :: .int x :: st) pc := by
  obtain ⟨p, l, e, R, s, m, args, below, meth, c, A, D, Q⟩ := X
  obtain ⟨hx, hb, hml, ho, ht, hK, hA, hR, hlk⟩ := C
  intro H locs ls hP hD hS hl
  exact lv_icmp_le hx hb hd h0 (fun h => kt h H locs ls hP hD hS hl) (fun h => kf h H locs ls hP hD hS hl)
theorem g_if_le (C : gC X tys cc nL own Ts rm) {x : Int32} {off : Int} {tgt : Nat} (hd : decode cc pc = .ok (.ifCond .le off, 3)) (h0 : (pc : Int) + off = (tgt : Int)) (kt : x ≤ 0 → gW X k n ws nL lv st tgt) (kf : ¬ x ≤ 0 → gW X k n ws nL lv st (pc + 3)) : gW X k n ws nL lv (.int x :: st) pc := by
  obtain ⟨p, l, e, R, s, m, args, below, meth, c, A, D, Q⟩ := X
  obtain ⟨hx, hb, hml, ho, ht, hK, hA, hR, hlk⟩ := C
  intro H locs ls hP hD hS hl
  exact lv_if_le hx hb hd h0 (fun h => kt h H locs ls hP hD hS hl) (fun h => kf h H locs ls hP hD hS hl)
theorem lgc_tri (x y : Int64) : (y < x ∧ lg_cmp x y = 1) ∨ (x = y ∧ lg_cmp x y = 0) ∨ (x < y ∧ lg_cmp x y = -1) := by
  by_cases h1 : y < x
  · exact Or.inl ⟨h1, by simp [lg_cmp, h1]⟩
  · by_cases h2 : x = y
    · exact Or.inr (Or.inl ⟨h2, by subst h2; simp [lg_cmp]⟩)
    · refine Or.inr (Or.inr ⟨?_, by simp [lg_cmp, h1, h2]⟩)
      rw [Int64.lt_iff_toInt_lt] at h1 ⊢
      have h3 : ¬ x.toInt = y.toInt := fun q => h2 (Int64.toInt_inj.mp q)
      omega
theorem lgc_eq {x y : Int64} : lg_cmp x y = 0 ↔ x = y := by
  rcases lgc_tri x y with ⟨h, e⟩ | ⟨h, e⟩ | ⟨h, e⟩
  all_goals
    rw [e]
    have h' := h
    simp only [Int64.lt_iff_toInt_lt, Int64.le_iff_toInt_le, ← Int64.toInt_inj] at h' ⊢
    constructor
    · intro q; first | exact absurd q (by decide) | omega
    · intro q; first | decide | (exfalso; omega)
theorem lgc_ne {x y : Int64} : ¬ lg_cmp x y = 0 ↔ ¬ x = y := by
  rcases lgc_tri x y with ⟨h, e⟩ | ⟨h, e⟩ | ⟨h, e⟩
  all_goals
    rw [e]
    have h' := h
    simp only [Int64.lt_iff_toInt_lt, Int64.le_iff_toInt_le, ← Int64.toInt_inj] at h' ⊢
    constructor
    · intro q; first | exact absurd q (by decide) | omega
    · intro q; first | decide | (exfalso; omega)
theorem lgc_lt {x y : Int64} : lg_cmp x y < 0 ↔ x < y := by
  rcases lgc_tri x y with ⟨h, e⟩ | ⟨h, e⟩ | ⟨h, e⟩
  all_goals
    rw [e]
    have h' := h
    simp only [Int64.lt_iff_toInt_lt, Int64.le_iff_toInt_le, ← Int64.toInt_inj] at h' ⊢
    constructor
    · intro q; first | exact absurd q (by decide) | omega
    · intro q; first | decide | (exfalso; omega)
theorem lgc_ge {x y : Int64} : 0 ≤ lg_cmp x y ↔ y ≤ x := by
  rcases lgc_tri x y with ⟨h, e⟩ | ⟨h, e⟩ | ⟨h, e⟩
  all_goals
    rw [e]
    have h' := h
    simp only [Int64.lt_iff_toInt_lt, Int64.le_iff_toInt_le, ← Int64.toInt_inj] at h' ⊢
    constructor
    · intro q; first | exact absurd q (by decide) | omega
    · intro q; first | decide | (exfalso; omega)
theorem lgc_gt {x y : Int64} : 0 < lg_cmp x y ↔ y < x := by
  rcases lgc_tri x y with ⟨h, e⟩ | ⟨h, e⟩ | ⟨h, e⟩
  all_goals
    rw [e]
    have h' := h
    simp only [Int64.lt_iff_toInt_lt, Int64.le_iff_toInt_le, ← Int64.toInt_inj] at h' ⊢
    constructor
    · intro q; first | exact absurd q (by decide) | omega
    · intro q; first | decide | (exfalso; omega)
theorem lgc_le {x y : Int64} : lg_cmp x y ≤ 0 ↔ x ≤ y := by
  rcases lgc_tri x y with ⟨h, e⟩ | ⟨h, e⟩ | ⟨h, e⟩
  all_goals
    rw [e]
    have h' := h
    simp only [Int64.lt_iff_toInt_lt, Int64.le_iff_toInt_le, ← Int64.toInt_inj] at h' ⊢
    constructor
    · intro q; first | exact absurd q (by decide) | omega
    · intro q; first | decide | (exfalso; omega)
theorem g_lcmp_eq (C : gC X tys cc nL own Ts rm) {x y : Int64} {off : Int} {tgt pc2 : Nat} (hd1 : decode cc pc = .ok (.lcmp, 1)) (hd : decode cc pc2 = .ok (.ifCond .eq off, 3)) (hp : pc + 1 = pc2) (h0 : (pc2 : Int) + off = (tgt : Int)) (kt : x = y → gW X k n ws nL lv st tgt) (kf : ¬ x = y → gW X k n ws nL lv st (pc + 4)) : gW X k n ws nL lv (.long y :: .long x :: st) pc := by
  obtain ⟨p, l, e, R, s, m, args, below, meth, c, A, D, Q⟩ := X
  obtain ⟨hx, hb, hml, ho, ht, hK, hA, hR, hlk⟩ := C
  intro H locs ls hP hD hS hl
  subst hp
  exact W.lcmp hx hb hd1 (lv_if_eq hx hb hd h0 (fun h => kt (lgc_eq.mp h) H locs ls hP hD hS hl) (fun h => kf (fun q => h (lgc_eq.mpr q)) H locs ls hP hD hS hl))
theorem g_lcmp_ne (C : gC X tys cc nL own Ts rm) {x y : Int64} {off : Int} {tgt pc2 : Nat} (hd1 : decode cc pc = .ok (.lcmp, 1)) (hd : decode cc pc2 = .ok (.ifCond .ne off, 3)) (hp : pc + 1 = pc2) (h0 : (pc2 : Int) + off = (tgt : Int)) (kt : ¬ x = y → gW X k n ws nL lv st tgt) (kf : x = y → gW X k n ws nL lv st (pc + 4)) : gW X k n ws nL lv (.long y :: .long x :: st) pc := by
  obtain ⟨p, l, e, R, s, m, args, below, meth, c, A, D, Q⟩ := X
  obtain ⟨hx, hb, hml, ho, ht, hK, hA, hR, hlk⟩ := C
  intro H locs ls hP hD hS hl
  subst hp
  exact W.lcmp hx hb hd1 (lv_if_ne hx hb hd h0 (fun h => kt (lgc_ne.mp h) H locs ls hP hD hS hl) (fun h => kf (Classical.byContradiction (fun q => absurd (lgc_ne.mpr q) (by rw [h]; decide))) H locs ls hP hD hS hl))
theorem g_lcmp_lt (C : gC X tys cc nL own Ts rm) {x y : Int64} {off : Int} {tgt pc2 : Nat} (hd1 : decode cc pc = .ok (.lcmp, 1)) (hd : decode cc pc2 = .ok (.ifCond .lt off, 3)) (hp : pc + 1 = pc2) (h0 : (pc2 : Int) + off = (tgt : Int)) (kt : x < y → gW X k n ws nL lv st tgt) (kf : ¬ x < y → gW X k n ws nL lv st (pc + 4)) : gW X k n ws nL lv (.long y :: .long x :: st) pc := by
  obtain ⟨p, l, e, R, s, m, args, below, meth, c, A, D, Q⟩ := X
  obtain ⟨hx, hb, hml, ho, ht, hK, hA, hR, hlk⟩ := C
  intro H locs ls hP hD hS hl
  subst hp
  exact W.lcmp hx hb hd1 (lv_if_lt hx hb hd h0 (fun h => kt (lgc_lt.mp h) H locs ls hP hD hS hl) (fun h => kf (fun q => h (lgc_lt.mpr q)) H locs ls hP hD hS hl))
theorem g_lcmp_ge (C : gC X tys cc nL own Ts rm) {x y : Int64} {off : Int} {tgt pc2 : Nat} (hd1 : decode cc pc = .ok (.lcmp, 1)) (hd : decode cc pc2 = .ok (.ifCond .ge off, 3)) (hp : pc + 1 = pc2) (h0 : (pc2 : Int) + off = (tgt : Int)) (kt : y ≤ x → gW X k n ws nL lv st tgt) (kf : ¬ y ≤ x → gW X k n ws nL lv st (pc + 4)) : gW X k n ws nL lv (.long y :: .long x :: st) pc := by
  obtain ⟨p, l, e, R, s, m, args, below, meth, c, A, D, Q⟩ := X
  obtain ⟨hx, hb, hml, ho, ht, hK, hA, hR, hlk⟩ := C
  intro H locs ls hP hD hS hl
  subst hp
  exact W.lcmp hx hb hd1 (lv_if_ge hx hb hd h0 (fun h => kt (lgc_ge.mp h) H locs ls hP hD hS hl) (fun h => kf (fun q => h (lgc_ge.mpr q)) H locs ls hP hD hS hl))
theorem g_lcmp_gt (C : gC X tys cc nL own Ts rm) {x y : Int64} {off : Int} {tgt pc2 : Nat} (hd1 : decode cc pc = .ok (.lcmp, 1)) (hd : decode cc pc2 = .ok (.ifCond .gt off, 3)) (hp : pc + 1 = pc2) (h0 : (pc2 : Int) + off = (tgt : Int)) (kt : y < x → gW X k n ws nL lv st tgt) (kf : ¬ y < x → gW X k n ws nL lv st (pc + 4)) : gW X k n ws nL lv (.long y :: .long x :: st) pc := by
  obtain ⟨p, l, e, R, s, m, args, below, meth, c, A, D, Q⟩ := X
  obtain ⟨hx, hb, hml, ho, ht, hK, hA, hR, hlk⟩ := C
  intro H locs ls hP hD hS hl
  subst hp
  exact W.lcmp hx hb hd1 (lv_if_gt hx hb hd h0 (fun h => kt (lgc_gt.mp h) H locs ls hP hD hS hl) (fun h => kf (fun q => h (lgc_gt.mpr q)) H locs ls hP hD hS hl))
theorem g_lcmp_le (C : gC X tys cc nL own Ts rm) {x y : Int64} {off : Int} {tgt pc2 : Nat} (hd1 : decode cc pc = .ok (.lcmp, 1)) (hd : decode cc pc2 = .ok (.ifCond .le off, 3)) (hp : pc + 1 = pc2) (h0 : (pc2 : Int) + off = (tgt : Int)) (kt : x ≤ y → gW X k n ws nL lv st tgt) (kf : ¬ x ≤ y → gW X k n ws nL lv st (pc + 4)) : gW X k n ws nL lv (.long y :: .long x :: st) pc := by
  obtain ⟨p, l, e, R, s, m, args, below, meth, c, A, D, Q⟩ := X
  obtain ⟨hx, hb, hml, ho, ht, hK, hA, hR, hlk⟩ := C
  intro H locs ls hP hD hS hl
  subst hp
  exact W.lcmp hx hb hd1 (lv_if_le hx hb hd h0 (fun h => kt (lgc_le.mp h) H locs ls hP hD hS hl) (fun h => kf (fun q => h (lgc_le.mpr q)) H locs ls hP hD hS hl))
theorem g_ifeq_b (C : gC X tys cc nL own Ts rm) {b : Bool} {off : Int} {tgt : Nat} (hd : decode cc pc = .ok (.ifCond .eq off, 3)) (h0 : (pc : Int) + off = (tgt : Int)) (kt : b = false → gW X k n ws nL lv st tgt) (kf : b = true → gW X k n ws nL lv st (pc + 3)) : gW X k n ws nL lv (.int (bI b) :: st) pc := by
  obtain ⟨p, l, e, R, s, m, args, below, meth, c, A, D, Q⟩ := X
  obtain ⟨hx, hb, hml, ho, ht, hK, hA, hR, hlk⟩ := C
  intro H locs ls hP hD hS hl
  exact lv_if_eq hx hb hd h0 (fun h => kt (bI_0.mp h) H locs ls hP hD hS hl) (fun h => kf (by cases b; exact absurd (bI_f rfl) h; rfl) H locs ls hP hD hS hl)
theorem g_ifne_b (C : gC X tys cc nL own Ts rm) {b : Bool} {off : Int} {tgt : Nat} (hd : decode cc pc = .ok (.ifCond .ne off, 3)) (h0 : (pc : Int) + off = (tgt : Int)) (kt : b = true → gW X k n ws nL lv st tgt) (kf : b = false → gW X k n ws nL lv st (pc + 3)) : gW X k n ws nL lv (.int (bI b) :: st) pc := by
  obtain ⟨p, l, e, R, s, m, args, below, meth, c, A, D, Q⟩ := X
  obtain ⟨hx, hb, hml, ho, ht, hK, hA, hR, hlk⟩ := C
  intro H locs ls hP hD hS hl
  exact lv_if_ne hx hb hd h0 (fun h => kt (by cases b; exact absurd (bI_f rfl) h; rfl) H locs ls hP hD hS hl) (fun h => kf (bI_0.mp h) H locs ls hP hD hS hl)
theorem g_get (C : gC X tys cc nL own Ts rm) {index ci kf : Nat} {Cn : String} {T : u_T} {N : Nat} (F : gF Ts own index ci kf Cn T N) (q0 : Nat) {a : Nat} {fs : List Value} {v : Value} (he : ws[q0]? = some (a, .inr (ci, fs))) (hv : fs[kf]? = some v) (hd : decode cc pc = .ok (.getfield index, 3)) (kk : gW X k n ws nL lv (v :: st) (pc + 3)) : gW X k n ws nL lv (.ref a :: st) pc := by
  obtain ⟨p, l, e, R, s, m, args, below, meth, c, A, D, Q⟩ := X
  obtain ⟨hx, hb, hml, ho, ht, hK, hA, hR, hlk⟩ := C
  intro H locs ls hP hD hS hl
  exact va_get (D := D) (ref := (T kf).1) hx hb ht F.1 ho hK hP q0 he F.2.2.1 kf F.2.2.2 (ht _ F.2.1) (fun _ h => h) hv hd (kk H locs ls hP hD hS hl)
theorem g_put (C : gC X tys cc nL own Ts rm) {index ci kf : Nat} {Cn : String} {T : u_T} {N : Nat} (F : gF Ts own index ci kf Cn T N) (q0 : Nat) {a : Nat} {fs : List Value} {v : Value} {ty0 : Nat → FieldType} (hty : ∀ k, k < N → parseFieldDescriptor (T k).2.2.1 = some (ty0 k)) (hnm : ∀ a, a < N → ∀ b, b < N → a ≠ b → (T a).2.1 ≠ (T b).2.1) (he : ws[q0]? = some (a, .inr (ci, fs))) (hfin : (T kf).2.2.2 = false) (hna : narrow (ty0 kf) v = v) (hfit : fits (ty0 kf) v = true) (hle : kf < fs.length) {ws2 : va_W} (hw : ws.set q0 (a, .inr (ci, fs.set kf v)) = ws2) (hd : decode cc pc = .ok (.putfield index, 3)) (kk : gW X k n ws2 nL lv st (pc + 3)) : gW X k n ws nL lv (v :: .ref a :: st) pc := by
  obtain ⟨p, l, e, R, s, m, args, below, meth, c, A, D, Q⟩ := X
  obtain ⟨hx, hb, hml, ho, ht, hK, hA, hR, hlk⟩ := C
  intro H locs ls hP hD hS hl
  subst hw
  exact va_put (D := D) (ref := (T kf).1) hx hb ht F.1 ty0 hty hnm ho hK hP hD hS q0 he F.2.2.1 kf F.2.2.2 (ht _ F.2.1) (fun _ h => h) hfin (hty kf F.2.2.2) hna hfit hle hd (fun H1 locs1 hP hD hS => kk H1 locs1 ls hP hD hS hl)
theorem g_iald (C : gC X tys cc nL own Ts rm) (q0 t0 : Nat) {a : Nat} {cA : ClassId} {N : Nat} {f : Nat → Int32} {i : Int32} (ha : ws[q0]? = some (a, .inl (cA, N, .inl f))) (hty : tys[t0]? = some (cA, .int)) (hin : vp_in i N) (hd : decode cc pc = .ok (.iaload, 1)) (kk : gW X k n ws nL lv (.int (f i.toNatClampNeg) :: st) (pc + 1)) : gW X k n ws nL lv (.int i :: .ref a :: st) pc := by
  obtain ⟨p, l, e, R, s, m, args, below, meth, c, A, D, Q⟩ := X
  obtain ⟨hx, hb, hml, ho, ht, hK, hA, hR, hlk⟩ := C
  intro H locs ls hP hD hS hl
  exact va_iald hx hb hK hP q0 t0 ha hty hin hd (kk H locs ls hP hD hS hl)
theorem g_zald (C : gC X tys cc nL own Ts rm) (q0 t0 : Nat) {a : Nat} {cA : ClassId} {N : Nat} {f : Nat → Int32} {i : Int32} (ha : ws[q0]? = some (a, .inl (cA, N, .inl f))) (hty : tys[t0]? = some (cA, .boolean)) (hin : vp_in i N) (hd : decode cc pc = .ok (.baload, 1)) (kk : gW X k n ws nL lv (.int (f i.toNatClampNeg) :: st) (pc + 1)) : gW X k n ws nL lv (.int i :: .ref a :: st) pc := by
  obtain ⟨p, l, e, R, s, m, args, below, meth, c, A, D, Q⟩ := X
  obtain ⟨hx, hb, hml, ho, ht, hK, hA, hR, hlk⟩ := C
  intro H locs ls hP hD hS hl
  exact va_zald hx hb hK hP q0 t0 ha hty hin hd (kk H locs ls hP hD hS hl)
theorem g_lald (C : gC X tys cc nL own Ts rm) (q0 t0 : Nat) {a : Nat} {cA : ClassId} {N : Nat} {f : Nat → Int64} {i : Int32} (ha : ws[q0]? = some (a, .inl (cA, N, .inr (.inl f)))) (hty : tys[t0]? = some (cA, .long)) (hin : vp_in i N) (hd : decode cc pc = .ok (.laload, 1)) (kk : gW X k n ws nL lv (.long (f i.toNatClampNeg) :: st) (pc + 1)) : gW X k n ws nL lv (.int i :: .ref a :: st) pc := by
  obtain ⟨p, l, e, R, s, m, args, below, meth, c, A, D, Q⟩ := X
  obtain ⟨hx, hb, hml, ho, ht, hK, hA, hR, hlk⟩ := C
  intro H locs ls hP hD hS hl
  exact va_lald hx hb hK hP q0 t0 ha hty hin hd (kk H locs ls hP hD hS hl)
theorem g_iast (C : gC X tys cc nL own Ts rm) (q0 t0 : Nat) {a : Nat} {cA : ClassId} {N : Nat} {f : Nat → Int32} {i : Int32} {x : Int32} (ha : ws[q0]? = some (a, .inl (cA, N, .inl f))) (hty : tys[t0]? = some (cA, .int)) (hin : vp_in i N) {ws2 : va_W} (hw : ws.set q0 (a, .inl (cA, N, .inl (upd f i.toNatClampNeg x))) = ws2) (hd : decode cc pc = .ok (.iastore, 1)) (kk : gW X k n ws2 nL lv st (pc + 1)) : gW X k n ws nL lv (.int x :: .int i :: .ref a :: st) pc := by
  obtain ⟨p, l, e, R, s, m, args, below, meth, c, A, D, Q⟩ := X
  obtain ⟨hx, hb, hml, ho, ht, hK, hA, hR, hlk⟩ := C
  intro H locs ls hP hD hS hl
  subst hw
  exact va_iast hx hb hK hP hD hS q0 t0 ha hty hin hd (fun H1 locs1 hP hD hS => kk H1 locs1 ls hP hD hS hl)
theorem g_zast (C : gC X tys cc nL own Ts rm) (q0 t0 : Nat) {a : Nat} {cA : ClassId} {N : Nat} {f : Nat → Int32} {i : Int32} {x : Int32} (ha : ws[q0]? = some (a, .inl (cA, N, .inl f))) (hty : tys[t0]? = some (cA, .boolean)) (hin : vp_in i N) {ws2 : va_W} (hw : ws.set q0 (a, .inl (cA, N, .inl (upd f i.toNatClampNeg (vp_nar .boolean x)))) = ws2) (hd : decode cc pc = .ok (.bastore, 1)) (kk : gW X k n ws2 nL lv st (pc + 1)) : gW X k n ws nL lv (.int x :: .int i :: .ref a :: st) pc := by
  obtain ⟨p, l, e, R, s, m, args, below, meth, c, A, D, Q⟩ := X
  obtain ⟨hx, hb, hml, ho, ht, hK, hA, hR, hlk⟩ := C
  intro H locs ls hP hD hS hl
  subst hw
  exact va_zast hx hb hK hP hD hS q0 t0 ha hty hin hd (fun H1 locs1 hP hD hS => kk H1 locs1 ls hP hD hS hl)
theorem g_last (C : gC X tys cc nL own Ts rm) (q0 t0 : Nat) {a : Nat} {cA : ClassId} {N : Nat} {f : Nat → Int64} {i : Int32} {x : Int64} (ha : ws[q0]? = some (a, .inl (cA, N, .inr (.inl f)))) (hty : tys[t0]? = some (cA, .long)) (hin : vp_in i N) {ws2 : va_W} (hw : ws.set q0 (a, .inl (cA, N, .inr (.inl (vp_updL f i.toNatClampNeg x)))) = ws2) (hd : decode cc pc = .ok (.lastore, 1)) (kk : gW X k n ws2 nL lv st (pc + 1)) : gW X k n ws nL lv (.long x :: .int i :: .ref a :: st) pc := by
  obtain ⟨p, l, e, R, s, m, args, below, meth, c, A, D, Q⟩ := X
  obtain ⟨hx, hb, hml, ho, ht, hK, hA, hR, hlk⟩ := C
  intro H locs ls hP hD hS hl
  subst hw
  exact va_last hx hb hK hP hD hS q0 t0 ha hty hin hd (fun H1 locs1 hP hD hS => kk H1 locs1 ls hP hD hS hl)
theorem g_alen (C : gC X tys cc nL own Ts rm) (q0 t0 : Nat) {a : Nat} {cA : ClassId} {x : vp_A} {ty : FieldType} {v : Int32} (ha : ws[q0]? = some (a, .inl (cA, x))) (hty : tys[t0]? = some (cA, ty)) (hv : Int32.ofNat x.1 = v) (hd : decode cc pc = .ok (.arraylength, 1)) (kk : gW X k n ws nL lv (.int v :: st) (pc + 1)) : gW X k n ws nL lv (.ref a :: st) pc := by
  obtain ⟨p, l, e, R, s, m, args, below, meth, c, A, D, Q⟩ := X
  obtain ⟨hx, hb, hml, ho, ht, hK, hA, hR, hlk⟩ := C
  intro H locs ls hP hD hS hl
  exact va_alen hx hb hK hP q0 t0 ha hty hv hd (kk H locs ls hP hD hS hl)
theorem g_mmin (C : gC X tys cc nL own Ts rm) {x y : Int32} {index : Nat} (h1 : Cond.methodLink own index Lib.Math.min.name ∈ Ts) (h2 : Cond.static Lib.Math.min.name ∈ Ts) (h3 : Cond.initialized "java/lang/Math" ∈ Ts) (h4 : Cond.code Lib.Math.min.name Lib.Math.min.code 2 (some .int) ∈ Ts) (hf : 1 ≤ rm.frames) (hlo : (st.map fun v => v.category).sum + 13 ≤ rm.locals) (hc : k ≤ rm.cells) (hs : n ≤ rm.slots) (hd : decode cc pc = .ok (.invokestatic index, 3)) (kk : gW X k n ws nL lv (.int (if y < x then y else x) :: st) (pc + 3)) : gW X k n ws nL lv (.int y :: .int x :: st) pc := by
  obtain ⟨p, l, e, R, s, m, args, below, meth, c, A, D, Q⟩ := X
  obtain ⟨hx, hb, hml, ho, ht, hK, hA, hR, hlk⟩ := C
  intro H locs ls hP hD hS hl
  subst hR
  exact va_mmin hx hb (hml.trans hl.1.symm) ho (ht _ h1) (ht _ h2) (ht _ h3) (ht _ h4) hf (hlo) hc hs hd (kk H locs ls hP hD hS hl)
theorem g_mmax (C : gC X tys cc nL own Ts rm) {x y : Int32} {index : Nat} (h1 : Cond.methodLink own index Lib.Math.max.name ∈ Ts) (h2 : Cond.static Lib.Math.max.name ∈ Ts) (h3 : Cond.initialized "java/lang/Math" ∈ Ts) (h4 : Cond.code Lib.Math.max.name Lib.Math.max.code 2 (some .int) ∈ Ts) (hf : 1 ≤ rm.frames) (hlo : (st.map fun v => v.category).sum + 13 ≤ rm.locals) (hc : k ≤ rm.cells) (hs : n ≤ rm.slots) (hd : decode cc pc = .ok (.invokestatic index, 3)) (kk : gW X k n ws nL lv (.int (if x < y then y else x) :: st) (pc + 3)) : gW X k n ws nL lv (.int y :: .int x :: st) pc := by
  obtain ⟨p, l, e, R, s, m, args, below, meth, c, A, D, Q⟩ := X
  obtain ⟨hx, hb, hml, ho, ht, hK, hA, hR, hlk⟩ := C
  intro H locs ls hP hD hS hl
  subst hR
  exact va_mmax hx hb (hml.trans hl.1.symm) ho (ht _ h1) (ht _ h2) (ht _ h3) (ht _ h4) hf (hlo) hc hs hd (kk H locs ls hP hD hS hl)
theorem g_mabs (C : gC X tys cc nL own Ts rm) {x : Int32} {index : Nat} (h1 : Cond.methodLink own index Lib.Math.abs.name ∈ Ts) (h2 : Cond.static Lib.Math.abs.name ∈ Ts) (h3 : Cond.initialized "java/lang/Math" ∈ Ts) (h4 : Cond.code Lib.Math.abs.name Lib.Math.abs.code 1 (some .int) ∈ Ts) (hf : 1 ≤ rm.frames) (hlo : (st.map fun v => v.category).sum + 13 ≤ rm.locals) (hc : k ≤ rm.cells) (hs : n ≤ rm.slots) (hd : decode cc pc = .ok (.invokestatic index, 3)) (kk : gW X k n ws nL lv (.int (if 0 ≤ x then x else 0 - x) :: st) (pc + 3)) : gW X k n ws nL lv (.int x :: st) pc := by
  obtain ⟨p, l, e, R, s, m, args, below, meth, c, A, D, Q⟩ := X
  obtain ⟨hx, hb, hml, ho, ht, hK, hA, hR, hlk⟩ := C
  intro H locs ls hP hD hS hl
  subst hR
  exact va_mabs hx hb (hml.trans hl.1.symm) ho (ht _ h1) (ht _ h2) (ht _ h3) (ht _ h4) hf (by omega) hc hs hd (kk H locs ls hP hD hS hl)
theorem g_topi {x : Int32} (kk : ∀ y : Int32, y = x → gW X k n ws nL lv (.int y :: st) pc) : gW X k n ws nL lv (.int x :: st) pc := kk x rfl
theorem g_topl {x : Int64} (kk : ∀ y : Int64, y = x → gW X k n ws nL lv (.long y :: st) pc) : gW X k n ws nL lv (.long x :: st) pc := kk x rfl
theorem g_leaf {P : Prop} (h : P) : P := h
theorem g_tsw (C : gC X tys cc nL own Ts rm) {dflt hi : Int} {offs : Array Int} {len : Nat} {x : Int32} {tgd : Nat} (hd : decode cc pc = .ok (.tableswitch dflt 0 hi offs, len)) (h0 : (pc : Int) + dflt = (tgd : Int)) (kin : ∀ j : Nat, (j : Int) ≤ hi → x = nI j → ∃ (off : Int) (tgt : Nat), offs[j]? = some off ∧ (pc : Int) + off = (tgt : Int) ∧ gW X k n ws nL lv st tgt) (kout : (x.toInt < 0 ∨ hi < x.toInt) → gW X k n ws nL lv st tgd) : gW X k n ws nL lv (.int x :: st) pc := by
  obtain ⟨p, l, e, R, s, m, args, below, meth, c, A, D, Q⟩ := X
  obtain ⟨hx, hb, hml, ho, ht, hK, hA, hR, hlk⟩ := C
  intro H locs ls hP hD hS hl
  by_cases h1 : x.toInt < 0 ∨ hi < x.toInt
  · exact lv_tableOut hx hb hd h1 h0 (kout h1 H locs ls hP hD hS hl)
  · obtain ⟨off, tgt, h2, h3, h4⟩ := kin x.toInt.toNat (by omega) (by
      rw [← Int32.toInt_inj, nI_toInt (by have := Int32.toInt_lt x; omega)]; omega)
    exact lv_tableIn hx hb hd (by omega) (by omega) (by rw [Int.sub_zero]; exact h2) h3 (h4 H locs ls hP hD hS hl)
theorem g_lv {lv2 : List (Nat × Value)} (ks : List Nat) (hk : lv_pick lv ks = lv2) (kk : gW X k n ws nL lv2 st pc) : gW X k n ws nL lv st pc := by
  obtain ⟨p, l, e, R, s, m, args, below, meth, c, A, D, Q⟩ := X
  intro H locs ls hP hD hS hl
  exact kk H locs ls hP hD hS (lv_sub hl ks hk)
theorem g_ws {ws2 : va_W} (ks : List Nat) (hn : va_nd ks = true) (hk : ks.map (fun i => ws[i]?) = ws2.map some) (kk : gW X k n ws2 nL lv st pc) : gW X k n ws nL lv st pc := by
  obtain ⟨p, l, e, R, s, m, args, below, meth, c, A, D, Q⟩ := X
  intro H locs ls hP hD hS hl
  refine kk H locs ls (hP.sub ks ?_) (hD.sub ks hn hk) hS hl
  have h1 : ks.filterMap (fun i => ws[i]?) = (ks.map (fun i => ws[i]?)).filterMap id := by rw [List.filterMap_map]; rfl
  rw [h1, hk, List.filterMap_map]
  exact List.filterMap_some
theorem g_iret (C : gC X tys cc nL own Ts rm) {S : Type} {post : Int32 → S → Prop} {w1 : S → va_W} (E : gEi X (some .int) tys k n post w1) {v : Int32} (u : S) (hp : post v u) (hw : w1 u = ws) (hd : decode cc pc = .ok (.ireturn, 1)) : gW X k n ws nL lv [.int v] pc := by
  obtain ⟨p, l, e, R, s, m, args, below, meth, c, A, D, Q⟩ := X
  obtain ⟨hx, hb, hml, ho, ht, hK, hA, hR, hlk⟩ := C
  intro H locs ls hP hD hS hl
  obtain ⟨hr, hq⟩ := E
  subst hq; subst hw
  exact W.iret hx hb hr (fun t htt hW => ⟨⟨v, u, rfl, hp, by rw [htt]; exact hP, va_K.moved hW.alike hK, hD⟩, hS.F htt⟩) hS.2.2 hd
theorem g_lret (C : gC X tys cc nL own Ts rm) {S : Type} {post : Int64 → S → Prop} {w1 : S → va_W} (E : gEl X (some .long) tys k n post w1) {v : Int64} (u : S) (hp : post v u) (hw : w1 u = ws) (hd : decode cc pc = .ok (.lreturn, 1)) : gW X k n ws nL lv [.long v] pc := by
  obtain ⟨p, l, e, R, s, m, args, below, meth, c, A, D, Q⟩ := X
  obtain ⟨hx, hb, hml, ho, ht, hK, hA, hR, hlk⟩ := C
  intro H locs ls hP hD hS hl
  obtain ⟨hr, hq⟩ := E
  subst hq; subst hw
  exact W.lret hx hb hr (fun t htt hW => ⟨⟨v, u, rfl, hp, by rw [htt]; exact hP, va_K.moved hW.alike hK, hD⟩, hS.F htt⟩) hS.2.2 hd
theorem g_zret (C : gC X tys cc nL own Ts rm) {S : Type} {post : Int32 → S → Prop} {w1 : S → va_W} (E : gEi X (some .boolean) tys k n post w1) {v : Int32} (hn : narrow .boolean (.int v) = .int v) (u : S) (hp : post v u) (hw : w1 u = ws) (hd : decode cc pc = .ok (.ireturn, 1)) : gW X k n ws nL lv [.int v] pc := by
  obtain ⟨p, l, e, R, s, m, args, below, meth, c, A, D, Q⟩ := X
  obtain ⟨hx, hb, hml, ho, ht, hK, hA, hR, hlk⟩ := C
  intro H locs ls hP hD hS hl
  obtain ⟨hr, hq⟩ := E
  subst hq; subst hw
  exact W.zret hx hb hr hn (fun t htt hW => ⟨⟨v, u, rfl, hp, by rw [htt]; exact hP, va_K.moved hW.alike hK, hD⟩, hS.F htt⟩) hS.2.2 hd
theorem g_vret (C : gC X tys cc nL own Ts rm) {S : Type} {post : S → Prop} {w1 : S → va_W} (E : gEv X none tys k n post w1) (u : S) (hp : post u) (hw : w1 u = ws) (hd : decode cc pc = .ok (.return_, 1)) : gW X k n ws nL lv [] pc := by
  obtain ⟨p, l, e, R, s, m, args, below, meth, c, A, D, Q⟩ := X
  obtain ⟨hx, hb, hml, ho, ht, hK, hA, hR, hlk⟩ := C
  intro H locs ls hP hD hS hl
  obtain ⟨hr, hq⟩ := E
  subst hq; subst hw
  exact W.vret hx hb hr (fun t htt hW => ⟨⟨u, rfl, hp, by rw [htt]; exact hP, va_K.moved hW.alike hK, hD⟩, hS.F htt⟩) hS.2.2 hd
theorem g_callVi (C : gC X tys cc nL own Ts rm) {S : Type} {y : MethodName} {wsy : List Cond} {rmy : Room} {b : Nat} {As rest : List Value} {wc wr : va_W} {post : Int32 → S → Prop} {w1 : S → va_W} {mc ms : Nat} (hM : ∀ (l : Launch) (D : va_G), gMi l y wsy rmy D tys mc ms (.ref b :: As) wc post w1) {index : Nat} {bytes : ByteArray} {maxL : Nat} {ret : Option FieldType} {wst : List Cond} {Cn : String} (hG : GoodIn Ts (wsV own index Cn y wsy)) (hw : wsy = Cond.code y bytes maxL ret :: wst) (hde : y.cls = Cn ∧ y.cls ≠ "java/lang/invoke/MethodHandle" ∧ y.cls ≠ "java/lang/invoke/VarHandle" ∧ (parseMethodDescriptor y.desc).map (fun d => d.parameters.length) = some As.length) (hrm : rmy.cells = mc ∧ rmy.slots = ms) (hRo : rmy.frames + 1 ≤ rm.frames ∧ 8 + (maxL + 11) + rmy.locals ≤ rm.locals) (hcs : k + mc ≤ rm.cells ∧ n + ms ≤ rm.slots) (isC isR isP : List Nat) (hC : isC.map (fun i => ws[i]?) = wc.map some) (hRr : isR.map (fun i => ws[i]?) = wr.map some) (hnC : va_nd isC = true) (hnR : va_nd isR = true) (hdis : ∀ i ∈ isR, i ∉ isC) (hnP : va_nd isP = true) {ws2 : S → va_W} (hX : ∀ u, isP.map (fun i => (wr ++ w1 u)[i]?) = (ws2 u).map some) (ci qr : Nat) {fs : List Value} {q : vw_C} (hr1 : vwCl[ci]? = some q) (hq : q.1 = Cn) (hr2 : wc[qr]? = some (b, .inr (ci, fs))) (hst : st = As.reverse ++ .ref b :: rest) (hro : (rest.map fun v => v.category).sum ≤ 8) (hd : decode cc pc = .ok (.invokevirtual index, 3))  (kk : ∀ (r : Int32) (u : S), post r u → gW X (k + mc) (n + ms) (ws2 u) nL lv (.int r :: rest) (pc + 3)) : gW X k n ws nL lv (st) pc := by
  obtain ⟨p, l, e, R, s, m, args, below, meth, c, A, D, Q⟩ := X
  obtain ⟨hx, hb, hml, ho, ht, hK, hA, hR, hlk⟩ := C
  intro H locs ls hP hD hS hl
  subst hst; subst hR
  have hFm : ∀ {w2 : va_W} (ks : List Nat), ks.map (fun i => ws[i]?) = w2.map some → ks.filterMap (fun i => ws[i]?) = w2 := by
    intro w2 ks hk
    have h1 : ks.filterMap (fun i => ws[i]?) = (ks.map (fun i => ws[i]?)).filterMap id := by rw [List.filterMap_map]; rfl
    rw [h1, hk, List.filterMap_map]
    exact List.filterMap_some
  have hPc := hP.sub isC (hFm isC hC)
  have hDc := hD.sub isC hnC hC
  have hFc := va_free (wc := wc) hD hS hA isC hC
  refine va_calli (va_runV (As := As) (rest := rest) (cc := cc) (nL := nL) (Ts := Ts) ⟨hx, hb, hml, ho, ht⟩ (hM l D H.size) (cwV As.length ht hG hw hrm.1 hrm.2 hde hRo) ⟨fun a U g mk q => ?_, by obtain ⟨cl0, g1, g2, g3⟩ := va_recv hK hPc hr1 hr2; exact ⟨cl0, g1, g2, by rw [← hq]; exact g3⟩, fun U hU hW => ⟨rfl, by rw [hU], by rw [hU]; exact hPc, va_K.moved hW.alike hK, hDc.weaken (fun _ _ _ _ => trivial)⟩⟩ rfl rfl hl.1 rfl (show 2 * 0 + (rest.map fun v => v.category).sum ≤ 8 by omega) hd hcs) hS (fun q _ h => hFc q h) hFc (fun r u t H1 locs1 htt hvm hw1 hB hz1 hk1 hS1 => ?_)
  · obtain ⟨q0, q1, qP, qK, qD⟩ := q
    exact ⟨q0, q1, qP, va_K.moved (u := U) (U := U.calling g mk a) (Vm.Alike.refl U.vm) qK, qD⟩
  · obtain ⟨hP1, hK1, hD1⟩ := hB
    rw [htt] at hP1
    obtain ⟨hP2, hD2⟩ := va_join (wr := wr) (w1 := w1 u) hP hD isC isR hC hRr hnR hdis hk1 hFc hP1 hD1
    have hX2 := hX u
    have hP3 : va_P D vwCl (ws2 u) H1 := hP2.sub isP (by
      have h1 : isP.filterMap (fun i => (wr ++ w1 u)[i]?) = (isP.map (fun i => (wr ++ w1 u)[i]?)).filterMap id := by rw [List.filterMap_map]; rfl
      rw [h1, hX2, List.filterMap_map]
      exact List.filterMap_some)
    exact kk r u hw1 H1 locs1 ls hP3 (hD2.sub isP hnP hX2) hS1 hl
theorem g_callSi (C : gC X tys cc nL own Ts rm) {S : Type} {y : MethodName} {wsy : List Cond} {rmy : Room} {b : Nat} {As rest : List Value} {wc wr : va_W} {post : Int32 → S → Prop} {w1 : S → va_W} {mc ms : Nat} (hM : ∀ (l : Launch) (D : va_G), gMi l y wsy rmy D tys mc ms As wc post w1) {index : Nat} {bytes : ByteArray} {maxL : Nat} {ret : Option FieldType} {wst : List Cond} (hG : GoodIn Ts (va_wsS own index y wsy)) (hw : wsy = Cond.code y bytes maxL ret :: wst) (hde : y.cls ≠ "java/lang/invoke/MethodHandle" ∧ y.cls ≠ "java/lang/invoke/VarHandle" ∧ (parseMethodDescriptor y.desc).map (fun d => d.parameters.length) = some As.length) (hrm : rmy.cells = mc ∧ rmy.slots = ms) (hRo : rmy.frames + 1 ≤ rm.frames ∧ 8 + (maxL + 11) + rmy.locals ≤ rm.locals) (hcs : k + mc ≤ rm.cells ∧ n + ms ≤ rm.slots) (isC isR isP : List Nat) (hC : isC.map (fun i => ws[i]?) = wc.map some) (hRr : isR.map (fun i => ws[i]?) = wr.map some) (hnC : va_nd isC = true) (hnR : va_nd isR = true) (hdis : ∀ i ∈ isR, i ∉ isC) (hnP : va_nd isP = true) {ws2 : S → va_W} (hX : ∀ u, isP.map (fun i => (wr ++ w1 u)[i]?) = (ws2 u).map some) (hst : st = As.reverse ++ rest) (hro : (rest.map fun v => v.category).sum ≤ 8) (hd : decode cc pc = .ok (.invokestatic index, 3))  (kk : ∀ (r : Int32) (u : S), post r u → gW X (k + mc) (n + ms) (ws2 u) nL lv (.int r :: rest) (pc + 3)) : gW X k n ws nL lv (st) pc := by
  obtain ⟨p, l, e, R, s, m, args, below, meth, c, A, D, Q⟩ := X
  obtain ⟨hx, hb, hml, ho, ht, hK, hA, hR, hlk⟩ := C
  intro H locs ls hP hD hS hl
  subst hst; subst hR
  have hFm : ∀ {w2 : va_W} (ks : List Nat), ks.map (fun i => ws[i]?) = w2.map some → ks.filterMap (fun i => ws[i]?) = w2 := by
    intro w2 ks hk
    have h1 : ks.filterMap (fun i => ws[i]?) = (ks.map (fun i => ws[i]?)).filterMap id := by rw [List.filterMap_map]; rfl
    rw [h1, hk, List.filterMap_map]
    exact List.filterMap_some
  have hPc := hP.sub isC (hFm isC hC)
  have hDc := hD.sub isC hnC hC
  have hFc := va_free (wc := wc) hD hS hA isC hC
  refine va_calli (va_runS (As := As) (rest := rest) (cc := cc) (nL := nL) (Ts := Ts) ⟨hx, hb, hml, ho, ht⟩ (hM l D H.size) (va_cwS As.length ht hG hw hrm.1 hrm.2 hde hRo) ⟨fun a U g mk q => ?_, fun U hU hW => ⟨rfl, by rw [hU], by rw [hU]; exact hPc, va_K.moved hW.alike hK, hDc.weaken (fun _ _ _ _ => trivial)⟩⟩ rfl rfl hl.1 rfl (show 2 * 0 + (rest.map fun v => v.category).sum ≤ 8 by omega) hd hcs) hS (fun q _ h => hFc q h) hFc (fun r u t H1 locs1 htt hvm hw1 hB hz1 hk1 hS1 => ?_)
  · obtain ⟨q0, q1, qP, qK, qD⟩ := q
    exact ⟨q0, q1, qP, va_K.moved (u := U) (U := U.calling g mk a) (Vm.Alike.refl U.vm) qK, qD⟩
  · obtain ⟨hP1, hK1, hD1⟩ := hB
    rw [htt] at hP1
    obtain ⟨hP2, hD2⟩ := va_join (wr := wr) (w1 := w1 u) hP hD isC isR hC hRr hnR hdis hk1 hFc hP1 hD1
    have hX2 := hX u
    have hP3 : va_P D vwCl (ws2 u) H1 := hP2.sub isP (by
      have h1 : isP.filterMap (fun i => (wr ++ w1 u)[i]?) = (isP.map (fun i => (wr ++ w1 u)[i]?)).filterMap id := by rw [List.filterMap_map]; rfl
      rw [h1, hX2, List.filterMap_map]
      exact List.filterMap_some)
    exact kk r u hw1 H1 locs1 ls hP3 (hD2.sub isP hnP hX2) hS1 hl
theorem g_callVl (C : gC X tys cc nL own Ts rm) {S : Type} {y : MethodName} {wsy : List Cond} {rmy : Room} {b : Nat} {As rest : List Value} {wc wr : va_W} {post : Int64 → S → Prop} {w1 : S → va_W} {mc ms : Nat} (hM : ∀ (l : Launch) (D : va_G), gMl l y wsy rmy D tys mc ms (.ref b :: As) wc post w1) {index : Nat} {bytes : ByteArray} {maxL : Nat} {ret : Option FieldType} {wst : List Cond} {Cn : String} (hG : GoodIn Ts (wsV own index Cn y wsy)) (hw : wsy = Cond.code y bytes maxL ret :: wst) (hde : y.cls = Cn ∧ y.cls ≠ "java/lang/invoke/MethodHandle" ∧ y.cls ≠ "java/lang/invoke/VarHandle" ∧ (parseMethodDescriptor y.desc).map (fun d => d.parameters.length) = some As.length) (hrm : rmy.cells = mc ∧ rmy.slots = ms) (hRo : rmy.frames + 1 ≤ rm.frames ∧ 8 + (maxL + 11) + rmy.locals ≤ rm.locals) (hcs : k + mc ≤ rm.cells ∧ n + ms ≤ rm.slots) (isC isR isP : List Nat) (hC : isC.map (fun i => ws[i]?) = wc.map some) (hRr : isR.map (fun i => ws[i]?) = wr.map some) (hnC : va_nd isC = true) (hnR : va_nd isR = true) (hdis : ∀ i ∈ isR, i ∉ isC) (hnP : va_nd isP = true) {ws2 : S → va_W} (hX : ∀ u, isP.map (fun i => (wr ++ w1 u)[i]?) = (ws2 u).map some) (ci qr : Nat) {fs : List Value} {q : vw_C} (hr1 : vwCl[ci]? = some q) (hq : q.1 = Cn) (hr2 : wc[qr]? = some (b, .inr (ci, fs))) (hst : st = As.reverse ++ .ref b :: rest) (hro : (rest.map fun v => v.category).sum ≤ 8) (hd : decode cc pc = .ok (.invokevirtual index, 3))  (kk : ∀ (r : Int64) (u : S), post r u → gW X (k + mc) (n + ms) (ws2 u) nL lv (.long r :: rest) (pc + 3)) : gW X k n ws nL lv (st) pc := by
  obtain ⟨p, l, e, R, s, m, args, below, meth, c, A, D, Q⟩ := X
  obtain ⟨hx, hb, hml, ho, ht, hK, hA, hR, hlk⟩ := C
  intro H locs ls hP hD hS hl
  subst hst; subst hR
  have hFm : ∀ {w2 : va_W} (ks : List Nat), ks.map (fun i => ws[i]?) = w2.map some → ks.filterMap (fun i => ws[i]?) = w2 := by
    intro w2 ks hk
    have h1 : ks.filterMap (fun i => ws[i]?) = (ks.map (fun i => ws[i]?)).filterMap id := by rw [List.filterMap_map]; rfl
    rw [h1, hk, List.filterMap_map]
    exact List.filterMap_some
  have hPc := hP.sub isC (hFm isC hC)
  have hDc := hD.sub isC hnC hC
  have hFc := va_free (wc := wc) hD hS hA isC hC
  refine va_calll (va_runV (As := As) (rest := rest) (cc := cc) (nL := nL) (Ts := Ts) ⟨hx, hb, hml, ho, ht⟩ (hM l D H.size) (cwV As.length ht hG hw hrm.1 hrm.2 hde hRo) ⟨fun a U g mk q => ?_, by obtain ⟨cl0, g1, g2, g3⟩ := va_recv hK hPc hr1 hr2; exact ⟨cl0, g1, g2, by rw [← hq]; exact g3⟩, fun U hU hW => ⟨rfl, by rw [hU], by rw [hU]; exact hPc, va_K.moved hW.alike hK, hDc.weaken (fun _ _ _ _ => trivial)⟩⟩ rfl rfl hl.1 rfl (show 2 * 0 + (rest.map fun v => v.category).sum ≤ 8 by omega) hd hcs) hS (fun q _ h => hFc q h) hFc (fun r u t H1 locs1 htt hvm hw1 hB hz1 hk1 hS1 => ?_)
  · obtain ⟨q0, q1, qP, qK, qD⟩ := q
    exact ⟨q0, q1, qP, va_K.moved (u := U) (U := U.calling g mk a) (Vm.Alike.refl U.vm) qK, qD⟩
  · obtain ⟨hP1, hK1, hD1⟩ := hB
    rw [htt] at hP1
    obtain ⟨hP2, hD2⟩ := va_join (wr := wr) (w1 := w1 u) hP hD isC isR hC hRr hnR hdis hk1 hFc hP1 hD1
    have hX2 := hX u
    have hP3 : va_P D vwCl (ws2 u) H1 := hP2.sub isP (by
      have h1 : isP.filterMap (fun i => (wr ++ w1 u)[i]?) = (isP.map (fun i => (wr ++ w1 u)[i]?)).filterMap id := by rw [List.filterMap_map]; rfl
      rw [h1, hX2, List.filterMap_map]
      exact List.filterMap_some)
    exact kk r u hw1 H1 locs1 ls hP3 (hD2.sub isP hnP hX2) hS1 hl
theorem g_callSl (C : gC X tys cc nL own Ts rm) {S : Type} {y : MethodName} {wsy : List Cond} {rmy : Room} {b : Nat} {As rest : List Value} {wc wr : va_W} {post : Int64 → S → Prop} {w1 : S → va_W} {mc ms : Nat} (hM : ∀ (l : Launch) (D : va_G), gMl l y wsy rmy D tys mc ms As wc post w1) {index : Nat} {bytes : ByteArray} {maxL : Nat} {ret : Option FieldType} {wst : List Cond} (hG : GoodIn Ts (va_wsS own index y wsy)) (hw : wsy = Cond.code y bytes maxL ret :: wst) (hde : y.cls ≠ "java/lang/invoke/MethodHandle" ∧ y.cls ≠ "java/lang/invoke/VarHandle" ∧ (parseMethodDescriptor y.desc).map (fun d => d.parameters.length) = some As.length) (hrm : rmy.cells = mc ∧ rmy.slots = ms) (hRo : rmy.frames + 1 ≤ rm.frames ∧ 8 + (maxL + 11) + rmy.locals ≤ rm.locals) (hcs : k + mc ≤ rm.cells ∧ n + ms ≤ rm.slots) (isC isR isP : List Nat) (hC : isC.map (fun i => ws[i]?) = wc.map some) (hRr : isR.map (fun i => ws[i]?) = wr.map some) (hnC : va_nd isC = true) (hnR : va_nd isR = true) (hdis : ∀ i ∈ isR, i ∉ isC) (hnP : va_nd isP = true) {ws2 : S → va_W} (hX : ∀ u, isP.map (fun i => (wr ++ w1 u)[i]?) = (ws2 u).map some) (hst : st = As.reverse ++ rest) (hro : (rest.map fun v => v.category).sum ≤ 8) (hd : decode cc pc = .ok (.invokestatic index, 3))  (kk : ∀ (r : Int64) (u : S), post r u → gW X (k + mc) (n + ms) (ws2 u) nL lv (.long r :: rest) (pc + 3)) : gW X k n ws nL lv (st) pc := by
  obtain ⟨p, l, e, R, s, m, args, below, meth, c, A, D, Q⟩ := X
  obtain ⟨hx, hb, hml, ho, ht, hK, hA, hR, hlk⟩ := C
  intro H locs ls hP hD hS hl
  subst hst; subst hR
  have hFm : ∀ {w2 : va_W} (ks : List Nat), ks.map (fun i => ws[i]?) = w2.map some → ks.filterMap (fun i => ws[i]?) = w2 := by
    intro w2 ks hk
    have h1 : ks.filterMap (fun i => ws[i]?) = (ks.map (fun i => ws[i]?)).filterMap id := by rw [List.filterMap_map]; rfl
    rw [h1, hk, List.filterMap_map]
    exact List.filterMap_some
  have hPc := hP.sub isC (hFm isC hC)
  have hDc := hD.sub isC hnC hC
  have hFc := va_free (wc := wc) hD hS hA isC hC
  refine va_calll (va_runS (As := As) (rest := rest) (cc := cc) (nL := nL) (Ts := Ts) ⟨hx, hb, hml, ho, ht⟩ (hM l D H.size) (va_cwS As.length ht hG hw hrm.1 hrm.2 hde hRo) ⟨fun a U g mk q => ?_, fun U hU hW => ⟨rfl, by rw [hU], by rw [hU]; exact hPc, va_K.moved hW.alike hK, hDc.weaken (fun _ _ _ _ => trivial)⟩⟩ rfl rfl hl.1 rfl (show 2 * 0 + (rest.map fun v => v.category).sum ≤ 8 by omega) hd hcs) hS (fun q _ h => hFc q h) hFc (fun r u t H1 locs1 htt hvm hw1 hB hz1 hk1 hS1 => ?_)
  · obtain ⟨q0, q1, qP, qK, qD⟩ := q
    exact ⟨q0, q1, qP, va_K.moved (u := U) (U := U.calling g mk a) (Vm.Alike.refl U.vm) qK, qD⟩
  · obtain ⟨hP1, hK1, hD1⟩ := hB
    rw [htt] at hP1
    obtain ⟨hP2, hD2⟩ := va_join (wr := wr) (w1 := w1 u) hP hD isC isR hC hRr hnR hdis hk1 hFc hP1 hD1
    have hX2 := hX u
    have hP3 : va_P D vwCl (ws2 u) H1 := hP2.sub isP (by
      have h1 : isP.filterMap (fun i => (wr ++ w1 u)[i]?) = (isP.map (fun i => (wr ++ w1 u)[i]?)).filterMap id := by rw [List.filterMap_map]; rfl
      rw [h1, hX2, List.filterMap_map]
      exact List.filterMap_some)
    exact kk r u hw1 H1 locs1 ls hP3 (hD2.sub isP hnP hX2) hS1 hl
theorem g_callVv (C : gC X tys cc nL own Ts rm) {S : Type} {y : MethodName} {wsy : List Cond} {rmy : Room} {b : Nat} {As rest : List Value} {wc wr : va_W} {post : S → Prop} {w1 : S → va_W} {mc ms : Nat} (hM : ∀ (l : Launch) (D : va_G), gMv l y wsy rmy D tys mc ms (.ref b :: As) wc post w1) {index : Nat} {bytes : ByteArray} {maxL : Nat} {ret : Option FieldType} {wst : List Cond} {Cn : String} (hG : GoodIn Ts (wsV own index Cn y wsy)) (hw : wsy = Cond.code y bytes maxL ret :: wst) (hde : y.cls = Cn ∧ y.cls ≠ "java/lang/invoke/MethodHandle" ∧ y.cls ≠ "java/lang/invoke/VarHandle" ∧ (parseMethodDescriptor y.desc).map (fun d => d.parameters.length) = some As.length) (hrm : rmy.cells = mc ∧ rmy.slots = ms) (hRo : rmy.frames + 1 ≤ rm.frames ∧ 8 + (maxL + 11) + rmy.locals ≤ rm.locals) (hcs : k + mc ≤ rm.cells ∧ n + ms ≤ rm.slots) (isC isR isP : List Nat) (hC : isC.map (fun i => ws[i]?) = wc.map some) (hRr : isR.map (fun i => ws[i]?) = wr.map some) (hnC : va_nd isC = true) (hnR : va_nd isR = true) (hdis : ∀ i ∈ isR, i ∉ isC) (hnP : va_nd isP = true) {ws2 : S → va_W} (hX : ∀ u, isP.map (fun i => (wr ++ w1 u)[i]?) = (ws2 u).map some) (ci qr : Nat) {fs : List Value} {q : vw_C} (hr1 : vwCl[ci]? = some q) (hq : q.1 = Cn) (hr2 : wc[qr]? = some (b, .inr (ci, fs))) (hst : st = As.reverse ++ .ref b :: rest) (hro : (rest.map fun v => v.category).sum ≤ 8) (hd : decode cc pc = .ok (.invokevirtual index, 3))  (kk : ∀ (u : S), post u → gW X (k + mc) (n + ms) (ws2 u) nL lv rest (pc + 3)) : gW X k n ws nL lv (st) pc := by
  obtain ⟨p, l, e, R, s, m, args, below, meth, c, A, D, Q⟩ := X
  obtain ⟨hx, hb, hml, ho, ht, hK, hA, hR, hlk⟩ := C
  intro H locs ls hP hD hS hl
  subst hst; subst hR
  have hFm : ∀ {w2 : va_W} (ks : List Nat), ks.map (fun i => ws[i]?) = w2.map some → ks.filterMap (fun i => ws[i]?) = w2 := by
    intro w2 ks hk
    have h1 : ks.filterMap (fun i => ws[i]?) = (ks.map (fun i => ws[i]?)).filterMap id := by rw [List.filterMap_map]; rfl
    rw [h1, hk, List.filterMap_map]
    exact List.filterMap_some
  have hPc := hP.sub isC (hFm isC hC)
  have hDc := hD.sub isC hnC hC
  have hFc := va_free (wc := wc) hD hS hA isC hC
  refine va_callv (va_runV (As := As) (rest := rest) (cc := cc) (nL := nL) (Ts := Ts) ⟨hx, hb, hml, ho, ht⟩ (hM l D H.size) (cwV As.length ht hG hw hrm.1 hrm.2 hde hRo) ⟨fun a U g mk q => ?_, by obtain ⟨cl0, g1, g2, g3⟩ := va_recv hK hPc hr1 hr2; exact ⟨cl0, g1, g2, by rw [← hq]; exact g3⟩, fun U hU hW => ⟨rfl, by rw [hU], by rw [hU]; exact hPc, va_K.moved hW.alike hK, hDc.weaken (fun _ _ _ _ => trivial)⟩⟩ rfl rfl hl.1 rfl (show 2 * 0 + (rest.map fun v => v.category).sum ≤ 8 by omega) hd hcs) hS (fun q _ h => hFc q h) hFc (fun u t H1 locs1 htt hvm hw1 hB hz1 hk1 hS1 => ?_)
  · obtain ⟨q0, q1, qP, qK, qD⟩ := q
    exact ⟨q0, q1, qP, va_K.moved (u := U) (U := U.calling g mk a) (Vm.Alike.refl U.vm) qK, qD⟩
  · obtain ⟨hP1, hK1, hD1⟩ := hB
    rw [htt] at hP1
    obtain ⟨hP2, hD2⟩ := va_join (wr := wr) (w1 := w1 u) hP hD isC isR hC hRr hnR hdis hk1 hFc hP1 hD1
    have hX2 := hX u
    have hP3 : va_P D vwCl (ws2 u) H1 := hP2.sub isP (by
      have h1 : isP.filterMap (fun i => (wr ++ w1 u)[i]?) = (isP.map (fun i => (wr ++ w1 u)[i]?)).filterMap id := by rw [List.filterMap_map]; rfl
      rw [h1, hX2, List.filterMap_map]
      exact List.filterMap_some)
    exact kk u hw1 H1 locs1 ls hP3 (hD2.sub isP hnP hX2) hS1 hl
theorem g_callSv (C : gC X tys cc nL own Ts rm) {S : Type} {y : MethodName} {wsy : List Cond} {rmy : Room} {b : Nat} {As rest : List Value} {wc wr : va_W} {post : S → Prop} {w1 : S → va_W} {mc ms : Nat} (hM : ∀ (l : Launch) (D : va_G), gMv l y wsy rmy D tys mc ms As wc post w1) {index : Nat} {bytes : ByteArray} {maxL : Nat} {ret : Option FieldType} {wst : List Cond} (hG : GoodIn Ts (va_wsS own index y wsy)) (hw : wsy = Cond.code y bytes maxL ret :: wst) (hde : y.cls ≠ "java/lang/invoke/MethodHandle" ∧ y.cls ≠ "java/lang/invoke/VarHandle" ∧ (parseMethodDescriptor y.desc).map (fun d => d.parameters.length) = some As.length) (hrm : rmy.cells = mc ∧ rmy.slots = ms) (hRo : rmy.frames + 1 ≤ rm.frames ∧ 8 + (maxL + 11) + rmy.locals ≤ rm.locals) (hcs : k + mc ≤ rm.cells ∧ n + ms ≤ rm.slots) (isC isR isP : List Nat) (hC : isC.map (fun i => ws[i]?) = wc.map some) (hRr : isR.map (fun i => ws[i]?) = wr.map some) (hnC : va_nd isC = true) (hnR : va_nd isR = true) (hdis : ∀ i ∈ isR, i ∉ isC) (hnP : va_nd isP = true) {ws2 : S → va_W} (hX : ∀ u, isP.map (fun i => (wr ++ w1 u)[i]?) = (ws2 u).map some) (hst : st = As.reverse ++ rest) (hro : (rest.map fun v => v.category).sum ≤ 8) (hd : decode cc pc = .ok (.invokestatic index, 3))  (kk : ∀ (u : S), post u → gW X (k + mc) (n + ms) (ws2 u) nL lv rest (pc + 3)) : gW X k n ws nL lv (st) pc := by
  obtain ⟨p, l, e, R, s, m, args, below, meth, c, A, D, Q⟩ := X
  obtain ⟨hx, hb, hml, ho, ht, hK, hA, hR, hlk⟩ := C
  intro H locs ls hP hD hS hl
  subst hst; subst hR
  have hFm : ∀ {w2 : va_W} (ks : List Nat), ks.map (fun i => ws[i]?) = w2.map some → ks.filterMap (fun i => ws[i]?) = w2 := by
    intro w2 ks hk
    have h1 : ks.filterMap (fun i => ws[i]?) = (ks.map (fun i => ws[i]?)).filterMap id := by rw [List.filterMap_map]; rfl
    rw [h1, hk, List.filterMap_map]
    exact List.filterMap_some
  have hPc := hP.sub isC (hFm isC hC)
  have hDc := hD.sub isC hnC hC
  have hFc := va_free (wc := wc) hD hS hA isC hC
  refine va_callv (va_runS (As := As) (rest := rest) (cc := cc) (nL := nL) (Ts := Ts) ⟨hx, hb, hml, ho, ht⟩ (hM l D H.size) (va_cwS As.length ht hG hw hrm.1 hrm.2 hde hRo) ⟨fun a U g mk q => ?_, fun U hU hW => ⟨rfl, by rw [hU], by rw [hU]; exact hPc, va_K.moved hW.alike hK, hDc.weaken (fun _ _ _ _ => trivial)⟩⟩ rfl rfl hl.1 rfl (show 2 * 0 + (rest.map fun v => v.category).sum ≤ 8 by omega) hd hcs) hS (fun q _ h => hFc q h) hFc (fun u t H1 locs1 htt hvm hw1 hB hz1 hk1 hS1 => ?_)
  · obtain ⟨q0, q1, qP, qK, qD⟩ := q
    exact ⟨q0, q1, qP, va_K.moved (u := U) (U := U.calling g mk a) (Vm.Alike.refl U.vm) qK, qD⟩
  · obtain ⟨hP1, hK1, hD1⟩ := hB
    rw [htt] at hP1
    obtain ⟨hP2, hD2⟩ := va_join (wr := wr) (w1 := w1 u) hP hD isC isR hC hRr hnR hdis hk1 hFc hP1 hD1
    have hX2 := hX u
    have hP3 : va_P D vwCl (ws2 u) H1 := hP2.sub isP (by
      have h1 : isP.filterMap (fun i => (wr ++ w1 u)[i]?) = (isP.map (fun i => (wr ++ w1 u)[i]?)).filterMap id := by rw [List.filterMap_map]; rfl
      rw [h1, hX2, List.filterMap_map]
      exact List.filterMap_some)
    exact kk u hw1 H1 locs1 ls hP3 (hD2.sub isP hnP hX2) hS1 hl
end GW
theorem g_enteri {S : Type} {l : Launch} {y : MethodName} {wsy wst : List Cond} {rm : Room} {D : va_G} {tys : List (ClassId × FieldType)} {mc ms : Nat} {av : List Value} {wc : va_W} {post : Int32 → S → Prop} {w1 : S → va_W} {cc : ByteArray} {nL : Nat} {ret : Option FieldType} (hy : plainName y.cls = true) (hw : wsy = Cond.code y cc nL ret :: wst) (hn : (lg_sl av).length ≤ nL) {lv : List (Nat × Value)} (hlv : lv_args 0 av = lv)
    (h : ∀ X : gX, gC X tys cc nL y.cls wsy rm → gEi X ret tys mc ms post w1 → gW X 0 0 wc nL lv [] 0) : gMi l y wsy rm D tys mc ms av wc post w1 := by
  intro sz
  refine Met.ofW (cc := cc) (maxL := nL) (ret := ret) hy hw ?_
  intro p e s m args below meth c s₁ B hml hv
  obtain ⟨rfl, hsz, hP, hK, hD0⟩ := hv
  have hts := atoms_spec (ws := wsy) B.pre
  have hown : s.vm.findClass y.cls = some m.cls := findClass_of_methodNamed B.named
  subst hsz
  have hD := hD0.self (sz := s.heap.size)
  have hl := lv_entry av (n := nL) hn
  rw [hlv] at hl
  rw [lg_entry_eq]
  exact h (p, l, e, (headSpec wsy rm).room, s, m, av.toArray, below, meth, c, va_A wc s.heap.size, D, MQ below (va_Qi post (gB D tys (va_A wc s.heap.size) w1) (va_A wc s.heap.size)) av.toArray s mc ms (va_A wc s.heap.size)) ⟨B.exec, B.bytes, hml, hown, hts, hK, fun q h => Or.inr h, rfl, B.notSynchronized⟩ ⟨B.returns, rfl⟩ s.heap [] _ hP hD va_S.rf hl
theorem g_enterl {S : Type} {l : Launch} {y : MethodName} {wsy wst : List Cond} {rm : Room} {D : va_G} {tys : List (ClassId × FieldType)} {mc ms : Nat} {av : List Value} {wc : va_W} {post : Int64 → S → Prop} {w1 : S → va_W} {cc : ByteArray} {nL : Nat} {ret : Option FieldType} (hy : plainName y.cls = true) (hw : wsy = Cond.code y cc nL ret :: wst) (hn : (lg_sl av).length ≤ nL) {lv : List (Nat × Value)} (hlv : lv_args 0 av = lv)
    (h : ∀ X : gX, gC X tys cc nL y.cls wsy rm → gEl X ret tys mc ms post w1 → gW X 0 0 wc nL lv [] 0) : gMl l y wsy rm D tys mc ms av wc post w1 := by
  intro sz
  refine Met.ofW (cc := cc) (maxL := nL) (ret := ret) hy hw ?_
  intro p e s m args below meth c s₁ B hml hv
  obtain ⟨rfl, hsz, hP, hK, hD0⟩ := hv
  have hts := atoms_spec (ws := wsy) B.pre
  have hown : s.vm.findClass y.cls = some m.cls := findClass_of_methodNamed B.named
  subst hsz
  have hD := hD0.self (sz := s.heap.size)
  have hl := lv_entry av (n := nL) hn
  rw [hlv] at hl
  rw [lg_entry_eq]
  exact h (p, l, e, (headSpec wsy rm).room, s, m, av.toArray, below, meth, c, va_A wc s.heap.size, D, MQ below (va_Ql post (gB D tys (va_A wc s.heap.size) w1) (va_A wc s.heap.size)) av.toArray s mc ms (va_A wc s.heap.size)) ⟨B.exec, B.bytes, hml, hown, hts, hK, fun q h => Or.inr h, rfl, B.notSynchronized⟩ ⟨B.returns, rfl⟩ s.heap [] _ hP hD va_S.rf hl
theorem g_enterv {S : Type} {l : Launch} {y : MethodName} {wsy wst : List Cond} {rm : Room} {D : va_G} {tys : List (ClassId × FieldType)} {mc ms : Nat} {av : List Value} {wc : va_W} {post : S → Prop} {w1 : S → va_W} {cc : ByteArray} {nL : Nat} {ret : Option FieldType} (hy : plainName y.cls = true) (hw : wsy = Cond.code y cc nL ret :: wst) (hn : (lg_sl av).length ≤ nL) {lv : List (Nat × Value)} (hlv : lv_args 0 av = lv)
    (h : ∀ X : gX, gC X tys cc nL y.cls wsy rm → gEv X ret tys mc ms post w1 → gW X 0 0 wc nL lv [] 0) : gMv l y wsy rm D tys mc ms av wc post w1 := by
  intro sz
  refine Met.ofW (cc := cc) (maxL := nL) (ret := ret) hy hw ?_
  intro p e s m args below meth c s₁ B hml hv
  obtain ⟨rfl, hsz, hP, hK, hD0⟩ := hv
  have hts := atoms_spec (ws := wsy) B.pre
  have hown : s.vm.findClass y.cls = some m.cls := findClass_of_methodNamed B.named
  subst hsz
  have hD := hD0.self (sz := s.heap.size)
  have hl := lv_entry av (n := nL) hn
  rw [hlv] at hl
  rw [lg_entry_eq]
  exact h (p, l, e, (headSpec wsy rm).room, s, m, av.toArray, below, meth, c, va_A wc s.heap.size, D, MQ below (va_Qv post (gB D tys (va_A wc s.heap.size) w1) (va_A wc s.heap.size)) av.toArray s mc ms (va_A wc s.heap.size)) ⟨B.exec, B.bytes, hml, hown, hts, hK, fun q h => Or.inr h, rfl, B.notSynchronized⟩ ⟨B.returns, rfl⟩ s.heap [] _ hP hD va_S.rf hl
