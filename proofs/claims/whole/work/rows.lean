section
-- ===== PART A: goes FIRST, ahead of the names: the tables' words, and 'selects' of the private methods out of them =====
/-- a private method of a class that the tables say can be made, by its rows of tables_1 -/
def lw_okq (q : MethodName × Nat) : Prop := (q.1.cls ≠ "java/lang/invoke/MethodHandle" ∧ q.1.cls ≠ "java/lang/invoke/VarHandle") ∧ Cond.instantiable q.1.cls q.2 ∈ tables_1 ∧ Cond.privateMethod q.1 ∈ tables_1 ∧ Cond.instanceMethod q.1 ∈ tables_1
theorem lw_p0 : lw_okq (⟨"SkinBox$Cells", "layAlong", "(IIII)V"⟩, 7) := ⟨⟨by decide +kernel, by decide +kernel⟩, List.mem_of_getElem? (i := 19) (by decide +kernel), List.mem_of_getElem? (i := 32) (by decide +kernel), List.mem_of_getElem? (i := 33) (by decide +kernel)⟩
theorem lw_p1 : lw_okq (⟨"SkinBox$Cells", "skinOfCell", "(JI)I"⟩, 7) := ⟨⟨by decide +kernel, by decide +kernel⟩, List.mem_of_getElem? (i := 19) (by decide +kernel), List.mem_of_getElem? (i := 233) (by decide +kernel), List.mem_of_getElem? (i := 234) (by decide +kernel)⟩
theorem lw_p2 : lw_okq (⟨"SkinBox$Flow", "open", "(I)V"⟩, 12) := ⟨⟨by decide +kernel, by decide +kernel⟩, List.mem_of_getElem? (i := 68) (by decide +kernel), List.mem_of_getElem? (i := 264) (by decide +kernel), List.mem_of_getElem? (i := 265) (by decide +kernel)⟩
theorem lw_p3 : lw_okq (⟨"SkinBox$Flow", "openCell", "(II)V"⟩, 12) := ⟨⟨by decide +kernel, by decide +kernel⟩, List.mem_of_getElem? (i := 68) (by decide +kernel), List.mem_of_getElem? (i := 272) (by decide +kernel), List.mem_of_getElem? (i := 273) (by decide +kernel)⟩
theorem lw_p4 : lw_okq (⟨"SkinBox$Flow", "search", "()I"⟩, 12) := ⟨⟨by decide +kernel, by decide +kernel⟩, List.mem_of_getElem? (i := 68) (by decide +kernel), List.mem_of_getElem? (i := 278) (by decide +kernel), List.mem_of_getElem? (i := 279) (by decide +kernel)⟩
theorem lw_p5 : lw_okq (⟨"SkinBox$Flow", "startAt", "([I)I"⟩, 12) := ⟨⟨by decide +kernel, by decide +kernel⟩, List.mem_of_getElem? (i := 68) (by decide +kernel), List.mem_of_getElem? (i := 282) (by decide +kernel), List.mem_of_getElem? (i := 283) (by decide +kernel)⟩
theorem lw_p6 : lw_okq (⟨"SkinBox$Flow", "pushTo", "(I)V"⟩, 12) := ⟨⟨by decide +kernel, by decide +kernel⟩, List.mem_of_getElem? (i := 68) (by decide +kernel), List.mem_of_getElem? (i := 286) (by decide +kernel), List.mem_of_getElem? (i := 287) (by decide +kernel)⟩
theorem lw_p7 : lw_okq (⟨"SkinBox$Flow", "seen", "()J"⟩, 12) := ⟨⟨by decide +kernel, by decide +kernel⟩, List.mem_of_getElem? (i := 68) (by decide +kernel), List.mem_of_getElem? (i := 291) (by decide +kernel), List.mem_of_getElem? (i := 292) (by decide +kernel)⟩
theorem lw_p8 : lw_okq (⟨"SkinBox$Flow", "searchBack", "()V"⟩, 12) := ⟨⟨by decide +kernel, by decide +kernel⟩, List.mem_of_getElem? (i := 68) (by decide +kernel), List.mem_of_getElem? (i := 295) (by decide +kernel), List.mem_of_getElem? (i := 296) (by decide +kernel)⟩
theorem lw_p9 : lw_okq (⟨"SkinBox$Flow", "queueOpen", "()I"⟩, 12) := ⟨⟨by decide +kernel, by decide +kernel⟩, List.mem_of_getElem? (i := 68) (by decide +kernel), List.mem_of_getElem? (i := 327) (by decide +kernel), List.mem_of_getElem? (i := 328) (by decide +kernel)⟩
theorem lw_p10 : lw_okq (⟨"SkinBox$Points", "difference", "(IIII)I"⟩, 5) := ⟨⟨by decide +kernel, by decide +kernel⟩, List.mem_of_getElem? (i := 114) (by decide +kernel), List.mem_of_getElem? (i := 376) (by decide +kernel), List.mem_of_getElem? (i := 377) (by decide +kernel)⟩
theorem lw_p11 : lw_okq (⟨"SkinBox$Points", "stepped", "(II)I"⟩, 5) := ⟨⟨by decide +kernel, by decide +kernel⟩, List.mem_of_getElem? (i := 114) (by decide +kernel), List.mem_of_getElem? (i := 392) (by decide +kernel), List.mem_of_getElem? (i := 393) (by decide +kernel)⟩
theorem lw_p12 : lw_okq (⟨"SkinBox$Points", "putInOrder", "(III)I"⟩, 5) := ⟨⟨by decide +kernel, by decide +kernel⟩, List.mem_of_getElem? (i := 114) (by decide +kernel), List.mem_of_getElem? (i := 396) (by decide +kernel), List.mem_of_getElem? (i := 397) (by decide +kernel)⟩
theorem lw_p13 : lw_okq (⟨"SkinBoxModel", "pins", "()V"⟩, 22) := ⟨⟨by decide +kernel, by decide +kernel⟩, List.mem_of_getElem? (i := 425) (by decide +kernel), List.mem_of_getElem? (i := 431) (by decide +kernel), List.mem_of_getElem? (i := 432) (by decide +kernel)⟩
theorem lw_p14 : lw_okq (⟨"SkinBoxModel", "cells", "()I"⟩, 22) := ⟨⟨by decide +kernel, by decide +kernel⟩, List.mem_of_getElem? (i := 425) (by decide +kernel), List.mem_of_getElem? (i := 511) (by decide +kernel), List.mem_of_getElem? (i := 512) (by decide +kernel)⟩
theorem lw_p15 : lw_okq (⟨"SkinBoxModel", "isCell", "(I)Z"⟩, 22) := ⟨⟨by decide +kernel, by decide +kernel⟩, List.mem_of_getElem? (i := 425) (by decide +kernel), List.mem_of_getElem? (i := 519) (by decide +kernel), List.mem_of_getElem? (i := 520) (by decide +kernel)⟩
def lw_privs_1 : List (MethodName × Nat) := [(⟨"SkinBox$Cells", "layAlong", "(IIII)V"⟩, 7), (⟨"SkinBox$Cells", "skinOfCell", "(JI)I"⟩, 7), (⟨"SkinBox$Flow", "open", "(I)V"⟩, 12), (⟨"SkinBox$Flow", "openCell", "(II)V"⟩, 12), (⟨"SkinBox$Flow", "search", "()I"⟩, 12), (⟨"SkinBox$Flow", "startAt", "([I)I"⟩, 12), (⟨"SkinBox$Flow", "pushTo", "(I)V"⟩, 12), (⟨"SkinBox$Flow", "seen", "()J"⟩, 12), (⟨"SkinBox$Flow", "searchBack", "()V"⟩, 12), (⟨"SkinBox$Flow", "queueOpen", "()I"⟩, 12), (⟨"SkinBox$Points", "difference", "(IIII)I"⟩, 5), (⟨"SkinBox$Points", "stepped", "(II)I"⟩, 5), (⟨"SkinBox$Points", "putInOrder", "(III)I"⟩, 5), (⟨"SkinBoxModel", "pins", "()V"⟩, 22), (⟨"SkinBoxModel", "cells", "()I"⟩, 22), (⟨"SkinBoxModel", "isCell", "(I)Z"⟩, 22)]
theorem lw_r1 : ∀ q ∈ lw_privs_1, lw_okq q := List.forall_mem_cons.mpr ⟨lw_p0, List.forall_mem_cons.mpr ⟨lw_p1, List.forall_mem_cons.mpr ⟨lw_p2, List.forall_mem_cons.mpr ⟨lw_p3, List.forall_mem_cons.mpr ⟨lw_p4, List.forall_mem_cons.mpr ⟨lw_p5, List.forall_mem_cons.mpr ⟨lw_p6, List.forall_mem_cons.mpr ⟨lw_p7, List.forall_mem_cons.mpr ⟨lw_p8, List.forall_mem_cons.mpr ⟨lw_p9, List.forall_mem_cons.mpr ⟨lw_p10, List.forall_mem_cons.mpr ⟨lw_p11, List.forall_mem_cons.mpr ⟨lw_p12, List.forall_mem_cons.mpr ⟨lw_p13, List.forall_mem_cons.mpr ⟨lw_p14, List.forall_mem_cons.mpr ⟨lw_p15, fun _ h => absurd h List.not_mem_nil⟩⟩⟩⟩⟩⟩⟩⟩⟩⟩⟩⟩⟩⟩⟩⟩
theorem lw_p16 : lw_okq (⟨"SkinBoxModel", "stride", "(I)I"⟩, 22) := ⟨⟨by decide +kernel, by decide +kernel⟩, List.mem_of_getElem? (i := 425) (by decide +kernel), List.mem_of_getElem? (i := 541) (by decide +kernel), List.mem_of_getElem? (i := 542) (by decide +kernel)⟩
theorem lw_p17 : lw_okq (⟨"SkinBoxModel", "placeOf", "(II)I"⟩, 22) := ⟨⟨by decide +kernel, by decide +kernel⟩, List.mem_of_getElem? (i := 425) (by decide +kernel), List.mem_of_getElem? (i := 545) (by decide +kernel), List.mem_of_getElem? (i := 546) (by decide +kernel)⟩
theorem lw_p18 : lw_okq (⟨"SkinBoxModel", "faceCost", "(III)I"⟩, 22) := ⟨⟨by decide +kernel, by decide +kernel⟩, List.mem_of_getElem? (i := 425) (by decide +kernel), List.mem_of_getElem? (i := 551) (by decide +kernel), List.mem_of_getElem? (i := 552) (by decide +kernel)⟩
theorem lw_p19 : lw_okq (⟨"SkinBoxModel", "isSet", "(J)Z"⟩, 22) := ⟨⟨by decide +kernel, by decide +kernel⟩, List.mem_of_getElem? (i := 425) (by decide +kernel), List.mem_of_getElem? (i := 559) (by decide +kernel), List.mem_of_getElem? (i := 560) (by decide +kernel)⟩
theorem lw_p20 : lw_okq (⟨"SkinBoxModel", "skinOf", "(J)J"⟩, 22) := ⟨⟨by decide +kernel, by decide +kernel⟩, List.mem_of_getElem? (i := 425) (by decide +kernel), List.mem_of_getElem? (i := 563) (by decide +kernel), List.mem_of_getElem? (i := 564) (by decide +kernel)⟩
theorem lw_p21 : lw_okq (⟨"SkinBoxModel", "outsides", "(I)I"⟩, 22) := ⟨⟨by decide +kernel, by decide +kernel⟩, List.mem_of_getElem? (i := 425) (by decide +kernel), List.mem_of_getElem? (i := 567) (by decide +kernel), List.mem_of_getElem? (i := 568) (by decide +kernel)⟩
theorem lw_p22 : lw_okq (⟨"SkinBoxModel", "finds", "(II)V"⟩, 22) := ⟨⟨by decide +kernel, by decide +kernel⟩, List.mem_of_getElem? (i := 425) (by decide +kernel), List.mem_of_getElem? (i := 585) (by decide +kernel), List.mem_of_getElem? (i := 586) (by decide +kernel)⟩
theorem lw_p23 : lw_okq (⟨"SkinBoxModel", "orders", "()V"⟩, 22) := ⟨⟨by decide +kernel, by decide +kernel⟩, List.mem_of_getElem? (i := 425) (by decide +kernel), List.mem_of_getElem? (i := 589) (by decide +kernel), List.mem_of_getElem? (i := 590) (by decide +kernel)⟩
theorem lw_p24 : lw_okq (⟨"SkinBoxModel", "cellAt", "(I)I"⟩, 22) := ⟨⟨by decide +kernel, by decide +kernel⟩, List.mem_of_getElem? (i := 425) (by decide +kernel), List.mem_of_getElem? (i := 594) (by decide +kernel), List.mem_of_getElem? (i := 595) (by decide +kernel)⟩
theorem lw_p25 : lw_okq (⟨"SkinBoxModel", "adds", "(IIII)I"⟩, 22) := ⟨⟨by decide +kernel, by decide +kernel⟩, List.mem_of_getElem? (i := 425) (by decide +kernel), List.mem_of_getElem? (i := 599) (by decide +kernel), List.mem_of_getElem? (i := 600) (by decide +kernel)⟩
theorem lw_p26 : lw_okq (⟨"SkinBoxModel", "free", "()I"⟩, 22) := ⟨⟨by decide +kernel, by decide +kernel⟩, List.mem_of_getElem? (i := 425) (by decide +kernel), List.mem_of_getElem? (i := 617) (by decide +kernel), List.mem_of_getElem? (i := 618) (by decide +kernel)⟩
theorem lw_p27 : lw_okq (⟨"SkinBoxModel", "isPoint", "(II)Z"⟩, 22) := ⟨⟨by decide +kernel, by decide +kernel⟩, List.mem_of_getElem? (i := 425) (by decide +kernel), List.mem_of_getElem? (i := 630) (by decide +kernel), List.mem_of_getElem? (i := 631) (by decide +kernel)⟩
theorem lw_p28 : lw_okq (⟨"SkinBoxModel", "slackOf", "()I"⟩, 22) := ⟨⟨by decide +kernel, by decide +kernel⟩, List.mem_of_getElem? (i := 425) (by decide +kernel), List.mem_of_getElem? (i := 655) (by decide +kernel), List.mem_of_getElem? (i := 656) (by decide +kernel)⟩
theorem lw_p29 : lw_okq (⟨"SkinBoxModel", "stepOf", "(II)I"⟩, 22) := ⟨⟨by decide +kernel, by decide +kernel⟩, List.mem_of_getElem? (i := 425) (by decide +kernel), List.mem_of_getElem? (i := 659) (by decide +kernel), List.mem_of_getElem? (i := 660) (by decide +kernel)⟩
theorem lw_p30 : lw_okq (⟨"SkinBoxModel", "puts", "(II)I"⟩, 22) := ⟨⟨by decide +kernel, by decide +kernel⟩, List.mem_of_getElem? (i := 425) (by decide +kernel), List.mem_of_getElem? (i := 663) (by decide +kernel), List.mem_of_getElem? (i := 664) (by decide +kernel)⟩
def lw_privs_2 : List (MethodName × Nat) := [(⟨"SkinBoxModel", "stride", "(I)I"⟩, 22), (⟨"SkinBoxModel", "placeOf", "(II)I"⟩, 22), (⟨"SkinBoxModel", "faceCost", "(III)I"⟩, 22), (⟨"SkinBoxModel", "isSet", "(J)Z"⟩, 22), (⟨"SkinBoxModel", "skinOf", "(J)J"⟩, 22), (⟨"SkinBoxModel", "outsides", "(I)I"⟩, 22), (⟨"SkinBoxModel", "finds", "(II)V"⟩, 22), (⟨"SkinBoxModel", "orders", "()V"⟩, 22), (⟨"SkinBoxModel", "cellAt", "(I)I"⟩, 22), (⟨"SkinBoxModel", "adds", "(IIII)I"⟩, 22), (⟨"SkinBoxModel", "free", "()I"⟩, 22), (⟨"SkinBoxModel", "isPoint", "(II)Z"⟩, 22), (⟨"SkinBoxModel", "slackOf", "()I"⟩, 22), (⟨"SkinBoxModel", "stepOf", "(II)I"⟩, 22), (⟨"SkinBoxModel", "puts", "(II)I"⟩, 22)]
theorem lw_r2 : ∀ q ∈ lw_privs_2, lw_okq q := List.forall_mem_cons.mpr ⟨lw_p16, List.forall_mem_cons.mpr ⟨lw_p17, List.forall_mem_cons.mpr ⟨lw_p18, List.forall_mem_cons.mpr ⟨lw_p19, List.forall_mem_cons.mpr ⟨lw_p20, List.forall_mem_cons.mpr ⟨lw_p21, List.forall_mem_cons.mpr ⟨lw_p22, List.forall_mem_cons.mpr ⟨lw_p23, List.forall_mem_cons.mpr ⟨lw_p24, List.forall_mem_cons.mpr ⟨lw_p25, List.forall_mem_cons.mpr ⟨lw_p26, List.forall_mem_cons.mpr ⟨lw_p27, List.forall_mem_cons.mpr ⟨lw_p28, List.forall_mem_cons.mpr ⟨lw_p29, List.forall_mem_cons.mpr ⟨lw_p30, fun _ h => absurd h List.not_mem_nil⟩⟩⟩⟩⟩⟩⟩⟩⟩⟩⟩⟩⟩⟩⟩
def lw_privs : List (MethodName × Nat) := lw_privs_1 ++ (lw_privs_2)
def lw_tbl : List Cond := k2_sels lw_privs ++ tables_1
theorem lw_privs_ok : ∀ q ∈ lw_privs, lw_okq q := by
  show ∀ q ∈ lw_privs_1 ++ (lw_privs_2), lw_okq q
  exact List.forall_mem_append.mpr ⟨lw_r1, lw_r2⟩
end
section
/-! ===== BEGIN words of one list among another's, by their places ===== -/
theorem goodIn_r {big : List Cond} (ws : List Cond) (ps : List Nat) (hp : ws = ps.filterMap (fun i => big[i]?)) (h : ws.all goodWord = true) : GoodIn big ws := by
  intro w hw
  have h1 := List.all_eq_true.mp h w hw
  rw [hp] at hw
  obtain ⟨i, -, hi⟩ := List.mem_filterMap.mp hw
  have hm : w ∈ big := by first | exact List.mem_of_getElem? hi | exact List.getElem?_mem hi
  exact ⟨hm, good_of_word h1⟩
theorem goodIn_app {big a b : List Cond} (ha : GoodIn big a) (hb : GoodIn big b) : GoodIn big (a ++ b) := fun w h => (List.mem_append.mp h).elim (ha w) (hb w)
theorem goodIn_ca {big a b : List Cond} {c : Cond} (ha : GoodIn big (c :: a)) (hb : GoodIn big b) : GoodIn big (c :: (a ++ b)) := fun w h => (List.mem_cons.mp h).elim (fun e => ha w (List.mem_cons.mpr (Or.inl e))) (fun h => (List.mem_append.mp h).elim (fun h => ha w (List.mem_cons.mpr (Or.inr h))) (hb w))
theorem goodIn_sub {big ws : List Cond} (hm : ∀ w ∈ ws, w ∈ big) (h : ws.all goodWord = true) : GoodIn big ws := fun w hw => ⟨hm w hw, good_of_word (List.all_eq_true.mp h w hw)⟩
/-! ===== END ===== -/

/-! ===== BEGIN printed: names, fields, word lists, decode rows ===== -/
def RX0 : String := "SkinBox$Cells"
def TX0 : u_T := fun k => match k with
  | 0 => ("SkinBox$Cells", "sides", "[I", true)
  | 1 => ("SkinBox$Cells", "held", "[I", true)
  | 2 => ("SkinBox$Cells", "prices", "[I", true)
  | 3 => ("SkinBox$Cells", "rules", "[I", true)
  | 4 => ("SkinBox$Cells", "places", "[I", true)
  | 5 => ("SkinBox$Cells", "beyond", "[I", true)
  | _ => ("SkinBox$Cells", "size", "I", false)
def tyX0 : Nat → FieldType := fun k => match k with
  | 0 => .array .int
  | 1 => .array .int
  | 2 => .array .int
  | 3 => .array .int
  | 4 => .array .int
  | 5 => .array .int
  | _ => .int
abbrev wsX00 : List Cond := u_ws RX0 TX0 7
theorem nmX0 : ∀ a, a < 7 → ∀ b, b < 7 → a ≠ b → (TX0 a).2.1 ≠ (TX0 b).2.1 := by decide +kernel
theorem tyX0_ok : ∀ k, k < 7 → parseFieldDescriptor (TX0 k).2.2.1 = some (tyX0 k) := by decide +kernel
abbrev cX0_init : ByteArray := prog_2_method_1_code
def yX0_init : MethodName := ⟨RX0, "<init>", "()V"⟩
abbrev cX0_lay : ByteArray := prog_2_method_2_code
def yX0_lay : MethodName := ⟨RX0, "lay", "(III)V"⟩
abbrev cX0_layAlong : ByteArray := prog_2_method_3_code
def yX0_layAlong : MethodName := ⟨RX0, "layAlong", "(IIII)V"⟩
abbrev cX0_has : ByteArray := prog_2_method_4_code
def yX0_has : MethodName := ⟨RX0, "has", "(I)Z"⟩
abbrev cX0_every : ByteArray := prog_2_method_5_code
def yX0_every : MethodName := ⟨RX0, "every", "()J"⟩
abbrev cX0_isSet : ByteArray := prog_2_method_6_code
def yX0_isSet : MethodName := ⟨RX0, "isSet", "(J)Z"⟩
abbrev cX0_freeCells : ByteArray := prog_2_method_7_code
def yX0_freeCells : MethodName := ⟨RX0, "freeCells", "()I"⟩
abbrev cX0_sideTowards : ByteArray := prog_2_method_8_code
def yX0_sideTowards : MethodName := ⟨RX0, "sideTowards", "(II)I"⟩
abbrev cX0_seamCost : ByteArray := prog_2_method_9_code
def yX0_seamCost : MethodName := ⟨RX0, "seamCost", "(III)I"⟩
abbrev cX0_ownCost : ByteArray := prog_2_method_10_code
def yX0_ownCost : MethodName := ⟨RX0, "ownCost", "(I)I"⟩
abbrev cX0_seamsGrowth : ByteArray := prog_2_method_11_code
def yX0_seamsGrowth : MethodName := ⟨RX0, "seamsGrowth", "(JI)I"⟩
abbrev cX0_skinOf : ByteArray := prog_2_method_12_code
def yX0_skinOf : MethodName := ⟨RX0, "skinOf", "(J)J"⟩
abbrev cX0_skinOfCell : ByteArray := prog_2_method_13_code
def yX0_skinOfCell : MethodName := ⟨RX0, "skinOfCell", "(JI)I"⟩
abbrev cX0_pricesOf : ByteArray := prog_2_method_14_code
def yX0_pricesOf : MethodName := ⟨RX0, "pricesOf", "(J)J"⟩
abbrev cX0_isRight : ByteArray := prog_2_method_15_code
def yX0_isRight : MethodName := ⟨RX0, "isRight", "(J)Z"⟩
abbrev cX0_holds : ByteArray := prog_2_method_16_code
def yX0_holds : MethodName := ⟨RX0, "holds", "(JI)Z"⟩
def RX1 : String := "SkinBox$Flow"
def TX1 : u_T := fun k => match k with
  | 0 => ("SkinBox$Flow", "cells", "LSkinBox$Cells;", true)
  | 1 => ("SkinBox$Flow", "springs", "[I", true)
  | 2 => ("SkinBox$Flow", "drains", "[I", true)
  | 3 => ("SkinBox$Flow", "passes", "[I", true)
  | 4 => ("SkinBox$Flow", "cameFrom", "[I", true)
  | 5 => ("SkinBox$Flow", "cameBy", "[I", true)
  | 6 => ("SkinBox$Flow", "queue", "[I", true)
  | 7 => ("SkinBox$Flow", "settled", "Z", false)
  | 8 => ("SkinBox$Flow", "settledRise", "I", false)
  | 9 => ("SkinBox$Flow", "amount", "J", false)
  | 10 => ("SkinBox$Flow", "lowest", "J", false)
  | _ => ("SkinBox$Flow", "highest", "J", false)
def tyX1 : Nat → FieldType := fun k => match k with
  | 0 => .object "SkinBox$Cells"
  | 1 => .array .int
  | 2 => .array .int
  | 3 => .array .int
  | 4 => .array .int
  | 5 => .array .int
  | 6 => .array .int
  | 7 => .boolean
  | 8 => .int
  | 9 => .long
  | 10 => .long
  | _ => .long
abbrev wsX10 : List Cond := u_ws RX1 TX1 12
theorem nmX1 : ∀ a, a < 12 → ∀ b, b < 12 → a ≠ b → (TX1 a).2.1 ≠ (TX1 b).2.1 := by decide +kernel
theorem tyX1_ok : ∀ k, k < 12 → parseFieldDescriptor (TX1 k).2.2.1 = some (tyX1 k) := by decide +kernel
abbrev cX1_init : ByteArray := prog_3_method_1_code
def yX1_init : MethodName := ⟨RX1, "<init>", "(LSkinBox$Cells;)V"⟩
abbrev cX1_forget : ByteArray := prog_3_method_2_code
def yX1_forget : MethodName := ⟨RX1, "forget", "()V"⟩
abbrev cX1_settle : ByteArray := prog_3_method_3_code
def yX1_settle : MethodName := ⟨RX1, "settle", "(I)V"⟩
abbrev cX1_open : ByteArray := prog_3_method_4_code
def yX1_open : MethodName := ⟨RX1, "open", "(I)V"⟩
abbrev cX1_openCell : ByteArray := prog_3_method_5_code
def yX1_openCell : MethodName := ⟨RX1, "openCell", "(II)V"⟩
abbrev cX1_search : ByteArray := prog_3_method_6_code
def yX1_search : MethodName := ⟨RX1, "search", "()I"⟩
abbrev cX1_searchBack : ByteArray := prog_3_method_7_code
def yX1_searchBack : MethodName := ⟨RX1, "searchBack", "()V"⟩
abbrev cX1_startAt : ByteArray := prog_3_method_8_code
def yX1_startAt : MethodName := ⟨RX1, "startAt", "([I)I"⟩
abbrev cX1_seen : ByteArray := prog_3_method_9_code
def yX1_seen : MethodName := ⟨RX1, "seen", "()J"⟩
abbrev cX1_pushTo : ByteArray := prog_3_method_10_code
def yX1_pushTo : MethodName := ⟨RX1, "pushTo", "(I)V"⟩
abbrev cX1_leastSets : ByteArray := prog_3_method_11_code
def yX1_leastSets : MethodName := ⟨RX1, "leastSets", "()I"⟩
abbrev cX1_queueOpen : ByteArray := prog_3_method_12_code
def yX1_queueOpen : MethodName := ⟨RX1, "queueOpen", "()I"⟩
def RX2 : String := "SkinBox$Points"
def TX2 : u_T := fun k => match k with
  | 0 => ("SkinBox$Points", "heights", "[I", true)
  | 1 => ("SkinBox$Points", "pinned", "[Z", true)
  | 2 => ("SkinBox$Points", "near", "[I", true)
  | 3 => ("SkinBox$Points", "wide", "I", false)
  | _ => ("SkinBox$Points", "high", "I", false)
def tyX2 : Nat → FieldType := fun k => match k with
  | 0 => .array .int
  | 1 => .array .boolean
  | 2 => .array .int
  | 3 => .int
  | _ => .int
abbrev wsX20 : List Cond := u_ws RX2 TX2 5
theorem nmX2 : ∀ a, a < 5 → ∀ b, b < 5 → a ≠ b → (TX2 a).2.1 ≠ (TX2 b).2.1 := by decide +kernel
theorem tyX2_ok : ∀ k, k < 5 → parseFieldDescriptor (TX2 k).2.2.1 = some (tyX2 k) := by decide +kernel
abbrev cX2_init : ByteArray := prog_4_method_1_code
def yX2_init : MethodName := ⟨RX2, "<init>", "()V"⟩
abbrev cX2_spread : ByteArray := prog_4_method_2_code
def yX2_spread : MethodName := ⟨RX2, "spread", "(II)V"⟩
abbrev cX2_has : ByteArray := prog_4_method_3_code
def yX2_has : MethodName := ⟨RX2, "has", "(II)Z"⟩
abbrev cX2_at : ByteArray := prog_4_method_4_code
def yX2_at : MethodName := ⟨RX2, "at", "(II)I"⟩
abbrev cX2_pins : ByteArray := prog_4_method_5_code
def yX2_pins : MethodName := ⟨RX2, "pins", "()I"⟩
abbrev cX2_sumOfDifferences : ByteArray := prog_4_method_6_code
def yX2_sumOfDifferences : MethodName := ⟨RX2, "sumOfDifferences", "()I"⟩
abbrev cX2_difference : ByteArray := prog_4_method_7_code
def yX2_difference : MethodName := ⟨RX2, "difference", "(IIII)I"⟩
abbrev cX2_sumOfChanges : ByteArray := prog_4_method_8_code
def yX2_sumOfChanges : MethodName := ⟨RX2, "sumOfChanges", "()I"⟩
abbrev cX2_isAtRest : ByteArray := prog_4_method_9_code
def yX2_isAtRest : MethodName := ⟨RX2, "isAtRest", "()Z"⟩
abbrev cX2_stepAtEach : ByteArray := prog_4_method_10_code
def yX2_stepAtEach : MethodName := ⟨RX2, "stepAtEach", "()V"⟩
abbrev cX2_stepped : ByteArray := prog_4_method_11_code
def yX2_stepped : MethodName := ⟨RX2, "stepped", "(II)I"⟩
abbrev cX2_putInOrder : ByteArray := prog_4_method_12_code
def yX2_putInOrder : MethodName := ⟨RX2, "putInOrder", "(III)I"⟩
def RX3 : String := "SkinBox"
def TX3 : u_T := fun k => match k with
  | 0 => ("SkinBox", "cells", "LSkinBox$Cells;", true)
  | 1 => ("SkinBox", "flow", "LSkinBox$Flow;", true)
  | 2 => ("SkinBox", "points", "LSkinBox$Points;", true)
  | _ => ("SkinBox", "asked", "J", false)
def tyX3 : Nat → FieldType := fun k => match k with
  | 0 => .object "SkinBox$Cells"
  | 1 => .object "SkinBox$Flow"
  | 2 => .object "SkinBox$Points"
  | _ => .long
abbrev wsX30 : List Cond := u_ws RX3 TX3 4
theorem nmX3 : ∀ a, a < 4 → ∀ b, b < 4 → a ≠ b → (TX3 a).2.1 ≠ (TX3 b).2.1 := by decide +kernel
theorem tyX3_ok : ∀ k, k < 4 → parseFieldDescriptor (TX3 k).2.2.1 = some (tyX3 k) := by decide +kernel
abbrev cX3_init : ByteArray := prog_1_method_1_code
def yX3_init : MethodName := ⟨RX3, "<init>", "()V"⟩
abbrev cX3_box : ByteArray := prog_1_method_2_code
def yX3_box : MethodName := ⟨RX3, "box", "(III)I"⟩
abbrev cX3_hold : ByteArray := prog_1_method_3_code
def yX3_hold : MethodName := ⟨RX3, "hold", "(II)I"⟩
abbrev cX3_price : ByteArray := prog_1_method_4_code
def yX3_price : MethodName := ⟨RX3, "price", "(II)I"⟩
abbrev cX3_set : ByteArray := prog_1_method_5_code
def yX3_set : MethodName := ⟨RX3, "set", "(II)I"⟩
abbrev cX3_cost : ByteArray := prog_1_method_6_code
def yX3_cost : MethodName := ⟨RX3, "cost", "(III)I"⟩
abbrev cX3_skin : ByteArray := prog_1_method_7_code
def yX3_skin : MethodName := ⟨RX3, "skin", "(J)J"⟩
abbrev cX3_all : ByteArray := prog_1_method_8_code
def yX3_all : MethodName := ⟨RX3, "all", "(J)J"⟩
abbrev cX3_right : ByteArray := prog_1_method_9_code
def yX3_right : MethodName := ⟨RX3, "right", "(J)I"⟩
abbrev cX3_least : ByteArray := prog_1_method_10_code
def yX3_least : MethodName := ⟨RX3, "least", "()J"⟩
abbrev cX3_film : ByteArray := prog_1_method_11_code
def yX3_film : MethodName := ⟨RX3, "film", "(I)J"⟩
abbrev cX3_room : ByteArray := prog_1_method_12_code
def yX3_room : MethodName := ⟨RX3, "room", "(II)I"⟩
abbrev cX3_many : ByteArray := prog_1_method_13_code
def yX3_many : MethodName := ⟨RX3, "many", "()I"⟩
abbrev cX3_net : ByteArray := prog_1_method_14_code
def yX3_net : MethodName := ⟨RX3, "net", "(II)I"⟩
abbrev cX3_lift : ByteArray := prog_1_method_15_code
def yX3_lift : MethodName := ⟨RX3, "lift", "(III)I"⟩
abbrev cX3_pin : ByteArray := prog_1_method_16_code
def yX3_pin : MethodName := ⟨RX3, "pin", "(IIZ)I"⟩
abbrev cX3_height : ByteArray := prog_1_method_17_code
def yX3_height : MethodName := ⟨RX3, "height", "(II)I"⟩
abbrev cX3_drawn : ByteArray := prog_1_method_18_code
def yX3_drawn : MethodName := ⟨RX3, "drawn", "()I"⟩
abbrev cX3_slack : ByteArray := prog_1_method_19_code
def yX3_slack : MethodName := ⟨RX3, "slack", "()I"⟩
abbrev cX3_rounds : ByteArray := prog_1_method_20_code
def yX3_rounds : MethodName := ⟨RX3, "rounds", "(I)I"⟩
abbrev cX3_count : ByteArray := prog_1_method_21_code
def yX3_count : MethodName := ⟨RX3, "count", "(I)I"⟩
abbrev cX3_trace : ByteArray := prog_1_method_22_code
def yX3_trace : MethodName := ⟨RX3, "trace", "()J"⟩
abbrev cX3_within : ByteArray := prog_1_method_23_code
def yX3_within : MethodName := ⟨RX3, "within", "(III)Z"⟩
def RX4 : String := "SkinBoxModel"
def TX4 : u_T := fun k => match k with
  | 0 => ("SkinBoxModel", "thrown", "I", false)
  | 1 => ("SkinBoxModel", "trace", "J", false)
  | 2 => ("SkinBoxModel", "sides", "[I", true)
  | 3 => ("SkinBoxModel", "held", "[I", true)
  | 4 => ("SkinBoxModel", "price", "[I", true)
  | 5 => ("SkinBoxModel", "rules", "[I", true)
  | 6 => ("SkinBoxModel", "ways", "[I", true)
  | 7 => ("SkinBoxModel", "place", "[I", true)
  | 8 => ("SkinBoxModel", "value", "[J", true)
  | 9 => ("SkinBoxModel", "sets", "[J", true)
  | 10 => ("SkinBoxModel", "times", "[J", true)
  | 11 => ("SkinBoxModel", "nextValue", "[J", true)
  | 12 => ("SkinBoxModel", "nextSets", "[J", true)
  | 13 => ("SkinBoxModel", "nextTimes", "[J", true)
  | 14 => ("SkinBoxModel", "found", "J", false)
  | 15 => ("SkinBoxModel", "foundSet", "J", false)
  | 16 => ("SkinBoxModel", "foundTimes", "J", false)
  | 17 => ("SkinBoxModel", "w", "I", false)
  | 18 => ("SkinBoxModel", "h", "I", false)
  | 19 => ("SkinBoxModel", "height", "[I", true)
  | 20 => ("SkinBoxModel", "isPinned", "[Z", true)
  | _ => ("SkinBoxModel", "beside", "[I", true)
def tyX4 : Nat → FieldType := fun k => match k with
  | 0 => .int
  | 1 => .long
  | 2 => .array .int
  | 3 => .array .int
  | 4 => .array .int
  | 5 => .array .int
  | 6 => .array .int
  | 7 => .array .int
  | 8 => .array .long
  | 9 => .array .long
  | 10 => .array .long
  | 11 => .array .long
  | 12 => .array .long
  | 13 => .array .long
  | 14 => .long
  | 15 => .long
  | 16 => .long
  | 17 => .int
  | 18 => .int
  | 19 => .array .int
  | 20 => .array .boolean
  | _ => .array .int
abbrev wsX40 : List Cond := u_ws RX4 TX4 22
theorem nmX4 : ∀ a, a < 22 → ∀ b, b < 22 → a ≠ b → (TX4 a).2.1 ≠ (TX4 b).2.1 := by decide +kernel
theorem tyX4_ok : ∀ k, k < 22 → parseFieldDescriptor (TX4 k).2.2.1 = some (tyX4 k) := by decide +kernel
abbrev cX4_init : ByteArray := prog_6_method_1_code
def yX4_init : MethodName := ⟨RX4, "<init>", "()V"⟩
abbrev cX4_in : ByteArray := prog_6_method_3_code
def yX4_in : MethodName := ⟨RX4, "in", "(JJJ)Z"⟩
abbrev cX4_cells : ByteArray := prog_6_method_4_code
def yX4_cells : MethodName := ⟨RX4, "cells", "()I"⟩
abbrev cX4_isCell : ByteArray := prog_6_method_5_code
def yX4_isCell : MethodName := ⟨RX4, "isCell", "(I)Z"⟩
abbrev cX4_placeOf : ByteArray := prog_6_method_6_code
def yX4_placeOf : MethodName := ⟨RX4, "placeOf", "(II)I"⟩
abbrev cX4_stride : ByteArray := prog_6_method_7_code
def yX4_stride : MethodName := ⟨RX4, "stride", "(I)I"⟩
abbrev cX4_box : ByteArray := prog_6_method_8_code
def yX4_box : MethodName := ⟨RX4, "box", "(III)I"⟩
abbrev cX4_hold : ByteArray := prog_6_method_9_code
def yX4_hold : MethodName := ⟨RX4, "hold", "(II)I"⟩
abbrev cX4_price : ByteArray := prog_6_method_10_code
def yX4_price : MethodName := ⟨RX4, "price", "(II)I"⟩
abbrev cX4_set : ByteArray := prog_6_method_11_code
def yX4_set : MethodName := ⟨RX4, "set", "(II)I"⟩
abbrev cX4_faceCost : ByteArray := prog_6_method_12_code
def yX4_faceCost : MethodName := ⟨RX4, "faceCost", "(III)I"⟩
abbrev cX4_cost : ByteArray := prog_6_method_13_code
def yX4_cost : MethodName := ⟨RX4, "cost", "(III)I"⟩
abbrev cX4_isSet : ByteArray := prog_6_method_14_code
def yX4_isSet : MethodName := ⟨RX4, "isSet", "(J)Z"⟩
abbrev cX4_outsides : ByteArray := prog_6_method_15_code
def yX4_outsides : MethodName := ⟨RX4, "outsides", "(I)I"⟩
abbrev cX4_skinOf : ByteArray := prog_6_method_16_code
def yX4_skinOf : MethodName := ⟨RX4, "skinOf", "(J)J"⟩
abbrev cX4_skin : ByteArray := prog_6_method_17_code
def yX4_skin : MethodName := ⟨RX4, "skin", "(J)J"⟩
abbrev cX4_all : ByteArray := prog_6_method_18_code
def yX4_all : MethodName := ⟨RX4, "all", "(J)J"⟩
abbrev cX4_right : ByteArray := prog_6_method_19_code
def yX4_right : MethodName := ⟨RX4, "right", "(J)I"⟩
abbrev cX4_orders : ByteArray := prog_6_method_20_code
def yX4_orders : MethodName := ⟨RX4, "orders", "()V"⟩
abbrev cX4_cellAt : ByteArray := prog_6_method_21_code
def yX4_cellAt : MethodName := ⟨RX4, "cellAt", "(I)I"⟩
abbrev cX4_adds : ByteArray := prog_6_method_22_code
def yX4_adds : MethodName := ⟨RX4, "adds", "(IIII)I"⟩
abbrev cX4_finds : ByteArray := prog_6_method_23_code
def yX4_finds : MethodName := ⟨RX4, "finds", "(II)V"⟩
abbrev cX4_least : ByteArray := prog_6_method_24_code
def yX4_least : MethodName := ⟨RX4, "least", "()J"⟩
abbrev cX4_film : ByteArray := prog_6_method_25_code
def yX4_film : MethodName := ⟨RX4, "film", "(I)J"⟩
abbrev cX4_room : ByteArray := prog_6_method_26_code
def yX4_room : MethodName := ⟨RX4, "room", "(II)I"⟩
abbrev cX4_free : ByteArray := prog_6_method_27_code
def yX4_free : MethodName := ⟨RX4, "free", "()I"⟩
abbrev cX4_many : ByteArray := prog_6_method_28_code
def yX4_many : MethodName := ⟨RX4, "many", "()I"⟩
abbrev cX4_pins : ByteArray := prog_6_method_29_code
def yX4_pins : MethodName := ⟨RX4, "pins", "()V"⟩
abbrev cX4_isPoint : ByteArray := prog_6_method_30_code
def yX4_isPoint : MethodName := ⟨RX4, "isPoint", "(II)Z"⟩
abbrev cX4_net : ByteArray := prog_6_method_31_code
def yX4_net : MethodName := ⟨RX4, "net", "(II)I"⟩
abbrev cX4_lift : ByteArray := prog_6_method_32_code
def yX4_lift : MethodName := ⟨RX4, "lift", "(III)I"⟩
abbrev cX4_pin : ByteArray := prog_6_method_33_code
def yX4_pin : MethodName := ⟨RX4, "pin", "(IIZ)I"⟩
abbrev cX4_height : ByteArray := prog_6_method_34_code
def yX4_height : MethodName := ⟨RX4, "height", "(II)I"⟩
abbrev cX4_size : ByteArray := prog_6_method_35_code
def yX4_size : MethodName := ⟨RX4, "size", "(I)I"⟩
abbrev cX4_drawn : ByteArray := prog_6_method_36_code
def yX4_drawn : MethodName := ⟨RX4, "drawn", "()I"⟩
abbrev cX4_puts : ByteArray := prog_6_method_37_code
def yX4_puts : MethodName := ⟨RX4, "puts", "(II)I"⟩
abbrev cX4_stepOf : ByteArray := prog_6_method_38_code
def yX4_stepOf : MethodName := ⟨RX4, "stepOf", "(II)I"⟩
abbrev cX4_slackOf : ByteArray := prog_6_method_39_code
def yX4_slackOf : MethodName := ⟨RX4, "slackOf", "()I"⟩
abbrev cX4_slack : ByteArray := prog_6_method_40_code
def yX4_slack : MethodName := ⟨RX4, "slack", "()I"⟩
abbrev cX4_rounds : ByteArray := prog_6_method_41_code
def yX4_rounds : MethodName := ⟨RX4, "rounds", "(I)I"⟩
abbrev cX4_count : ByteArray := prog_6_method_42_code
def yX4_count : MethodName := ⟨RX4, "count", "(I)I"⟩
abbrev cX4_trace : ByteArray := prog_6_method_43_code
def yX4_trace : MethodName := ⟨RX4, "trace", "()J"⟩
def RJ6 : String := "java/lang/Integer"
def TJ6 : u_T := fun k => match k with
  | _ => ("", "", "", false)
def tyJ6 : Nat → FieldType := fun k => match k with
  | _ => .int
abbrev wsJ60 : List Cond := u_ws RJ6 TJ6 0
theorem nmJ6 : ∀ a, a < 0 → ∀ b, b < 0 → a ≠ b → (TJ6 a).2.1 ≠ (TJ6 b).2.1 := by decide +kernel
theorem tyJ6_ok : ∀ k, k < 0 → parseFieldDescriptor (TJ6 k).2.2.1 = some (tyJ6 k) := by decide +kernel
abbrev cJ6_bitCount_0f7a4 : ByteArray := prog_7_method_49_code
def yJ6_bitCount_0f7a4 : MethodName := ⟨RJ6, "bitCount", "(I)I"⟩
def RJ13 : String := "java/lang/Long"
def TJ13 : u_T := fun k => match k with
  | _ => ("", "", "", false)
def tyJ13 : Nat → FieldType := fun k => match k with
  | _ => .int
abbrev wsJ130 : List Cond := u_ws RJ13 TJ13 0
theorem nmJ13 : ∀ a, a < 0 → ∀ b, b < 0 → a ≠ b → (TJ13 a).2.1 ≠ (TJ13 b).2.1 := by decide +kernel
theorem tyJ13_ok : ∀ k, k < 0 → parseFieldDescriptor (TJ13 k).2.2.1 = some (tyJ13 k) := by decide +kernel
abbrev cJ13_bitCount_95d88 : ByteArray := prog_8_method_50_code
def yJ13_bitCount_95d88 : MethodName := ⟨RJ13, "bitCount", "(J)I"⟩
def RJ9 : String := "java/lang/Math"
def TJ9 : u_T := fun k => match k with
  | _ => ("", "", "", false)
def tyJ9 : Nat → FieldType := fun k => match k with
  | _ => .int
abbrev wsJ90 : List Cond := u_ws RJ9 TJ9 0
theorem nmJ9 : ∀ a, a < 0 → ∀ b, b < 0 → a ≠ b → (TJ9 a).2.1 ≠ (TJ9 b).2.1 := by decide +kernel
theorem tyJ9_ok : ∀ k, k < 0 → parseFieldDescriptor (TJ9 k).2.2.1 = some (tyJ9 k) := by decide +kernel
abbrev cJ9_abs_0f7a4 : ByteArray := prog_9_method_59_code
def yJ9_abs_0f7a4 : MethodName := ⟨RJ9, "abs", "(I)I"⟩
abbrev cJ9_max_7cf53 : ByteArray := prog_9_method_65_code
def yJ9_max_7cf53 : MethodName := ⟨RJ9, "max", "(II)I"⟩
abbrev cJ9_min_7cf53 : ByteArray := prog_9_method_69_code
def yJ9_min_7cf53 : MethodName := ⟨RJ9, "min", "(II)I"⟩
def RJ7 : String := "java/util/Arrays"
def TJ7 : u_T := fun k => match k with
  | _ => ("", "", "", false)
def tyJ7 : Nat → FieldType := fun k => match k with
  | _ => .int
abbrev wsJ70 : List Cond := u_ws RJ7 TJ7 0
theorem nmJ7 : ∀ a, a < 0 → ∀ b, b < 0 → a ≠ b → (TJ7 a).2.1 ≠ (TJ7 b).2.1 := by decide +kernel
theorem tyJ7_ok : ∀ k, k < 0 → parseFieldDescriptor (TJ7 k).2.2.1 = some (tyJ7 k) := by decide +kernel
abbrev cJ7_fill_53178 : ByteArray := prog_10_method_103_code
def yJ7_fill_53178 : MethodName := ⟨RJ7, "fill", "([II)V"⟩
def RL : String := "SkinBoxLaw"
abbrev cL_law : ByteArray := code
def yL_law : MethodName := ⟨RL, "law", "([I)Z"⟩
def wsJ7_fill_53178 : List Cond := .code yJ7_fill_53178 cJ7_fill_53178 4 none :: ([])
def wsX0_layAlong : List Cond := .code yX0_layAlong cX0_layAlong 6 none :: ([.fieldLink RX0 24 "SkinBox$Cells" "places" "[I", .fieldLink RX0 27 "SkinBox$Cells" "beyond" "[I", .fieldLink RX0 9 "SkinBox$Cells" "sides" "[I"] ++ wsX00)
def wsX0_lay : List Cond := .code yX0_lay cX0_lay 8 none :: ([.fieldLink RX0 9 "SkinBox$Cells" "sides" "[I", .fieldLink RX0 30 "SkinBox$Cells" "size" "I", .fieldLink RX0 15 "SkinBox$Cells" "held" "[I", .fieldLink RX0 18 "SkinBox$Cells" "prices" "[I", .methodLink RX0 38 yJ7_fill_53178, .static yJ7_fill_53178, .initialized RJ7, .code yJ7_fill_53178 cJ7_fill_53178 4 none, .methodLink RX0 44 yX0_layAlong, .instanceMethod yX0_layAlong, .selects RX0 yX0_layAlong yX0_layAlong, .initialized RX0, .code yX0_layAlong cX0_layAlong 6 none, .fieldLink RX0 24 "SkinBox$Cells" "places" "[I", .fieldLink RX0 27 "SkinBox$Cells" "beyond" "[I"] ++ wsX00)
def wsX0_init : List Cond := .code yX0_init cX0_init 1 none :: ([.methodLink RX0 3 objectInit, .instanceMethod objectInit, .code objectInit ⟨#[0xb1]⟩ 1 none, .arrayClass .int, .fieldLink RX0 9 "SkinBox$Cells" "sides" "[I", .fieldLink RX0 15 "SkinBox$Cells" "held" "[I", .fieldLink RX0 18 "SkinBox$Cells" "prices" "[I", .fieldLink RX0 21 "SkinBox$Cells" "rules" "[I", .fieldLink RX0 24 "SkinBox$Cells" "places" "[I", .fieldLink RX0 27 "SkinBox$Cells" "beyond" "[I", .fieldLink RX0 30 "SkinBox$Cells" "size" "I", .methodLink RX0 34 yX0_lay, .instanceMethod yX0_lay, .selects RX0 yX0_lay yX0_lay, .initialized RX0, .code yX0_lay cX0_lay 8 none, .methodLink RX0 38 yJ7_fill_53178, .static yJ7_fill_53178, .initialized RJ7, .code yJ7_fill_53178 cJ7_fill_53178 4 none, .methodLink RX0 44 yX0_layAlong, .instanceMethod yX0_layAlong, .selects RX0 yX0_layAlong yX0_layAlong, .code yX0_layAlong cX0_layAlong 6 none] ++ wsX00)
def wsX0_has : List Cond := .code yX0_has cX0_has 2 (some .boolean) :: ([.fieldLink RX0 30 "SkinBox$Cells" "size" "I"] ++ wsX00)
def wsX0_every : List Cond := .code yX0_every cX0_every 1 (some .long) :: ([.fieldLink RX0 30 "SkinBox$Cells" "size" "I"] ++ wsX00)
def wsX0_isSet : List Cond := .code yX0_isSet cX0_isSet 3 (some .boolean) :: ([.constantLong RX0 52 (-1), .methodLink RX0 48 yX0_every, .instanceMethod yX0_every, .selects RX0 yX0_every yX0_every, .initialized RX0, .code yX0_every cX0_every 1 (some .long), .fieldLink RX0 30 "SkinBox$Cells" "size" "I"] ++ wsX00)
def wsX0_freeCells : List Cond := .code yX0_freeCells cX0_freeCells 3 (some .int) :: ([.fieldLink RX0 30 "SkinBox$Cells" "size" "I", .fieldLink RX0 15 "SkinBox$Cells" "held" "[I"] ++ wsX00)
def wsX0_sideTowards : List Cond := .code yX0_sideTowards cX0_sideTowards 4 (some .int) :: ([.fieldLink RX0 27 "SkinBox$Cells" "beyond" "[I"] ++ wsX00)
def wsX0_seamCost : List Cond := .code yX0_seamCost cX0_seamCost 7 (some .int) :: ([.fieldLink RX0 24 "SkinBox$Cells" "places" "[I", .fieldLink RX0 21 "SkinBox$Cells" "rules" "[I", .methodLink RX0 54 Lib.Math.min.name, .static Lib.Math.min.name, .initialized "java/lang/Math", .code Lib.Math.min.name Lib.Math.min.code 2 (some .int)] ++ wsX00)
def wsX0_ownCost : List Cond := .code yX0_ownCost cX0_ownCost 4 (some .int) :: ([.fieldLink RX0 18 "SkinBox$Cells" "prices" "[I", .fieldLink RX0 27 "SkinBox$Cells" "beyond" "[I", .fieldLink RX0 21 "SkinBox$Cells" "rules" "[I"] ++ wsX00)
def wsX0_holds : List Cond := .code yX0_holds cX0_holds 3 (some .boolean) :: ([])
def wsX0_seamsGrowth : List Cond := .code yX0_seamsGrowth cX0_seamsGrowth 8 (some .int) :: ([.fieldLink RX0 27 "SkinBox$Cells" "beyond" "[I", .fieldLink RX0 21 "SkinBox$Cells" "rules" "[I", .methodLink RX0 60 yX0_seamCost, .instanceMethod yX0_seamCost, .selects RX0 yX0_seamCost yX0_seamCost, .initialized RX0, .code yX0_seamCost cX0_seamCost 7 (some .int), .fieldLink RX0 24 "SkinBox$Cells" "places" "[I", .methodLink RX0 54 Lib.Math.min.name, .static Lib.Math.min.name, .initialized "java/lang/Math", .code Lib.Math.min.name Lib.Math.min.code 2 (some .int), .methodLink RX0 64 yX0_holds, .static yX0_holds, .code yX0_holds cX0_holds 3 (some .boolean)] ++ wsX00)
def wsX0_skinOfCell : List Cond := .code yX0_skinOfCell cX0_skinOfCell 7 (some .int) :: ([.fieldLink RX0 27 "SkinBox$Cells" "beyond" "[I", .fieldLink RX0 21 "SkinBox$Cells" "rules" "[I", .methodLink RX0 64 yX0_holds, .static yX0_holds, .initialized RX0, .code yX0_holds cX0_holds 3 (some .boolean), .methodLink RX0 60 yX0_seamCost, .instanceMethod yX0_seamCost, .selects RX0 yX0_seamCost yX0_seamCost, .code yX0_seamCost cX0_seamCost 7 (some .int), .fieldLink RX0 24 "SkinBox$Cells" "places" "[I", .methodLink RX0 54 Lib.Math.min.name, .static Lib.Math.min.name, .initialized "java/lang/Math", .code Lib.Math.min.name Lib.Math.min.code 2 (some .int)] ++ wsX00)
def wsX0_skinOf : List Cond := .code yX0_skinOf cX0_skinOf 6 (some .long) :: ([.fieldLink RX0 30 "SkinBox$Cells" "size" "I", .methodLink RX0 64 yX0_holds, .static yX0_holds, .initialized RX0, .code yX0_holds cX0_holds 3 (some .boolean), .methodLink RX0 68 yX0_skinOfCell, .instanceMethod yX0_skinOfCell, .selects RX0 yX0_skinOfCell yX0_skinOfCell, .code yX0_skinOfCell cX0_skinOfCell 7 (some .int), .fieldLink RX0 27 "SkinBox$Cells" "beyond" "[I", .fieldLink RX0 21 "SkinBox$Cells" "rules" "[I", .methodLink RX0 60 yX0_seamCost, .instanceMethod yX0_seamCost, .selects RX0 yX0_seamCost yX0_seamCost, .code yX0_seamCost cX0_seamCost 7 (some .int), .fieldLink RX0 24 "SkinBox$Cells" "places" "[I", .methodLink RX0 54 Lib.Math.min.name, .static Lib.Math.min.name, .initialized "java/lang/Math", .code Lib.Math.min.name Lib.Math.min.code 2 (some .int)] ++ wsX00)
def wsX0_pricesOf : List Cond := .code yX0_pricesOf cX0_pricesOf 6 (some .long) :: ([.fieldLink RX0 30 "SkinBox$Cells" "size" "I", .fieldLink RX0 18 "SkinBox$Cells" "prices" "[I", .methodLink RX0 64 yX0_holds, .static yX0_holds, .initialized RX0, .code yX0_holds cX0_holds 3 (some .boolean)] ++ wsX00)
def wsX0_isRight : List Cond := .code yX0_isRight cX0_isRight 4 (some .boolean) :: ([.fieldLink RX0 30 "SkinBox$Cells" "size" "I", .fieldLink RX0 15 "SkinBox$Cells" "held" "[I", .methodLink RX0 64 yX0_holds, .static yX0_holds, .initialized RX0, .code yX0_holds cX0_holds 3 (some .boolean)] ++ wsX00)
def wsX1_init : List Cond := .code yX1_init cX1_init 2 none :: ([.methodLink RX1 3 objectInit, .instanceMethod objectInit, .code objectInit ⟨#[0xb1]⟩ 1 none, .arrayClass .int, .fieldLink RX1 9 "SkinBox$Flow" "springs" "[I", .fieldLink RX1 15 "SkinBox$Flow" "drains" "[I", .fieldLink RX1 18 "SkinBox$Flow" "passes" "[I", .fieldLink RX1 21 "SkinBox$Flow" "cameFrom" "[I", .fieldLink RX1 24 "SkinBox$Flow" "cameBy" "[I", .fieldLink RX1 27 "SkinBox$Flow" "queue" "[I", .fieldLink RX1 30 "SkinBox$Flow" "settled" "Z", .fieldLink RX1 34 "SkinBox$Flow" "settledRise" "I", .fieldLink RX1 38 "SkinBox$Flow" "amount" "J", .fieldLink RX1 42 "SkinBox$Flow" "lowest" "J", .fieldLink RX1 45 "SkinBox$Flow" "highest" "J", .fieldLink RX1 48 "SkinBox$Flow" "cells" "LSkinBox$Cells;"] ++ wsX10)
def wsX1_forget : List Cond := .code yX1_forget cX1_forget 1 none :: ([.fieldLink RX1 30 "SkinBox$Flow" "settled" "Z"] ++ wsX10)
def wsX1_openCell : List Cond := .code yX1_openCell cX1_openCell 3 none :: ([.fieldLink RX1 9 "SkinBox$Flow" "springs" "[I", .fieldLink RX1 15 "SkinBox$Flow" "drains" "[I", .fieldLink RX1 48 "SkinBox$Flow" "cells" "LSkinBox$Cells;", .fieldLink RX1 99 "SkinBox$Cells" "held" "[I", .constant RX1 60 (1000000), .fieldLink RX1 38 "SkinBox$Flow" "amount" "J"] ++ wsX10 ++ wsX00)
def wsX1_open_r1 : List Cond := [Cond.fieldLink RX1 38 "SkinBox$Flow" "amount" "J", Cond.fieldLink RX1 48 "SkinBox$Flow" "cells" "LSkinBox$Cells;", Cond.fieldLink RX1 78 "SkinBox$Cells" "size" "I", Cond.fieldLink RX1 18 "SkinBox$Flow" "passes" "[I", Cond.fieldLink RX1 89 "SkinBox$Cells" "beyond" "[I", Cond.fieldLink RX1 92 "SkinBox$Cells" "rules" "[I", Cond.methodLink RX1 81 yX0_ownCost, Cond.instanceMethod yX0_ownCost, Cond.selects RX0 yX0_ownCost yX0_ownCost, Cond.initialized RX0, Cond.code yX0_ownCost cX0_ownCost 4 (some .int), Cond.fieldLink RX0 18 "SkinBox$Cells" "prices" "[I", Cond.fieldLink RX0 27 "SkinBox$Cells" "beyond" "[I", Cond.fieldLink RX0 21 "SkinBox$Cells" "rules" "[I", Cond.methodLink RX1 85 yX1_openCell, Cond.instanceMethod yX1_openCell, Cond.selects RX1 yX1_openCell yX1_openCell, Cond.initialized RX1, Cond.code yX1_openCell cX1_openCell 3 none, Cond.fieldLink RX1 9 "SkinBox$Flow" "springs" "[I", Cond.fieldLink RX1 15 "SkinBox$Flow" "drains" "[I", Cond.fieldLink RX1 99 "SkinBox$Cells" "held" "[I", Cond.constant RX1 60 (1000000), Cond.methodLink RX1 95 yX0_seamCost]
def wsX1_open_r2 : List Cond := [Cond.instanceMethod yX0_seamCost, Cond.selects RX0 yX0_seamCost yX0_seamCost, Cond.code yX0_seamCost cX0_seamCost 7 (some .int), Cond.fieldLink RX0 24 "SkinBox$Cells" "places" "[I", Cond.methodLink RX0 54 Lib.Math.min.name, Cond.static Lib.Math.min.name, Cond.initialized "java/lang/Math", Cond.code Lib.Math.min.name Lib.Math.min.code 2 (some .int)]
def wsX1_open : List Cond := .code yX1_open cX1_open 4 none :: ((wsX1_open_r1 ++ wsX1_open_r2) ++ wsX10 ++ wsX00)
def wsX1_startAt : List Cond := .code yX1_startAt cX1_startAt 4 (some .int) :: ([.fieldLink RX1 48 "SkinBox$Flow" "cells" "LSkinBox$Cells;", .fieldLink RX1 78 "SkinBox$Cells" "size" "I", .fieldLink RX1 24 "SkinBox$Flow" "cameBy" "[I", .fieldLink RX1 27 "SkinBox$Flow" "queue" "[I"] ++ wsX10 ++ wsX00)
def wsX1_search : List Cond := .code yX1_search cX1_search 6 (some .int) :: ([.fieldLink RX1 9 "SkinBox$Flow" "springs" "[I", .fieldLink RX1 27 "SkinBox$Flow" "queue" "[I", .fieldLink RX1 15 "SkinBox$Flow" "drains" "[I", .fieldLink RX1 48 "SkinBox$Flow" "cells" "LSkinBox$Cells;", .fieldLink RX1 89 "SkinBox$Cells" "beyond" "[I", .fieldLink RX1 24 "SkinBox$Flow" "cameBy" "[I", .fieldLink RX1 18 "SkinBox$Flow" "passes" "[I", .fieldLink RX1 21 "SkinBox$Flow" "cameFrom" "[I", .methodLink RX1 102 yX1_startAt, .instanceMethod yX1_startAt, .selects RX1 yX1_startAt yX1_startAt, .initialized RX1, .code yX1_startAt cX1_startAt 4 (some .int), .fieldLink RX1 78 "SkinBox$Cells" "size" "I"] ++ wsX10 ++ wsX00)
def wsX1_pushTo : List Cond := .code yX1_pushTo cX1_pushTo 5 none :: ([.fieldLink RX1 15 "SkinBox$Flow" "drains" "[I", .fieldLink RX1 24 "SkinBox$Flow" "cameBy" "[I", .fieldLink RX1 18 "SkinBox$Flow" "passes" "[I", .fieldLink RX1 21 "SkinBox$Flow" "cameFrom" "[I", .methodLink RX1 106 Lib.Math.min.name, .static Lib.Math.min.name, .initialized "java/lang/Math", .code Lib.Math.min.name Lib.Math.min.code 2 (some .int), .fieldLink RX1 9 "SkinBox$Flow" "springs" "[I", .fieldLink RX1 38 "SkinBox$Flow" "amount" "J"] ++ wsX10)
def wsX1_seen : List Cond := .code yX1_seen cX1_seen 4 (some .long) :: ([.fieldLink RX1 48 "SkinBox$Flow" "cells" "LSkinBox$Cells;", .fieldLink RX1 78 "SkinBox$Cells" "size" "I", .fieldLink RX1 24 "SkinBox$Flow" "cameBy" "[I"] ++ wsX10 ++ wsX00)
def wsX1_searchBack : List Cond := .code yX1_searchBack cX1_searchBack 6 none :: ([.fieldLink RX1 15 "SkinBox$Flow" "drains" "[I", .fieldLink RX1 27 "SkinBox$Flow" "queue" "[I", .fieldLink RX1 48 "SkinBox$Flow" "cells" "LSkinBox$Cells;", .fieldLink RX1 89 "SkinBox$Cells" "beyond" "[I", .fieldLink RX1 24 "SkinBox$Flow" "cameBy" "[I", .fieldLink RX1 18 "SkinBox$Flow" "passes" "[I", .methodLink RX1 102 yX1_startAt, .instanceMethod yX1_startAt, .selects RX1 yX1_startAt yX1_startAt, .initialized RX1, .code yX1_startAt cX1_startAt 4 (some .int), .fieldLink RX1 78 "SkinBox$Cells" "size" "I"] ++ wsX10 ++ wsX00)
def wsX1_settle_r1 : List Cond := [Cond.fieldLink RX1 30 "SkinBox$Flow" "settled" "Z", Cond.fieldLink RX1 34 "SkinBox$Flow" "settledRise" "I", Cond.constant RX1 60 (1000000), Cond.fieldLink RX1 42 "SkinBox$Flow" "lowest" "J", Cond.fieldLink RX1 48 "SkinBox$Flow" "cells" "LSkinBox$Cells;", Cond.constantLong RX1 76 (-1), Cond.fieldLink RX1 45 "SkinBox$Flow" "highest" "J", Cond.methodLink RX1 52 yX1_open, Cond.instanceMethod yX1_open, Cond.selects RX1 yX1_open yX1_open, Cond.initialized RX1, Cond.code yX1_open cX1_open 4 none, Cond.fieldLink RX1 38 "SkinBox$Flow" "amount" "J", Cond.fieldLink RX1 78 "SkinBox$Cells" "size" "I", Cond.fieldLink RX1 18 "SkinBox$Flow" "passes" "[I", Cond.fieldLink RX1 89 "SkinBox$Cells" "beyond" "[I", Cond.fieldLink RX1 92 "SkinBox$Cells" "rules" "[I", Cond.methodLink RX1 81 yX0_ownCost, Cond.instanceMethod yX0_ownCost, Cond.selects RX0 yX0_ownCost yX0_ownCost, Cond.initialized RX0, Cond.code yX0_ownCost cX0_ownCost 4 (some .int), Cond.fieldLink RX0 18 "SkinBox$Cells" "prices" "[I", Cond.fieldLink RX0 27 "SkinBox$Cells" "beyond" "[I"]
def wsX1_settle_r2 : List Cond := [Cond.fieldLink RX0 21 "SkinBox$Cells" "rules" "[I", Cond.methodLink RX1 85 yX1_openCell, Cond.instanceMethod yX1_openCell, Cond.selects RX1 yX1_openCell yX1_openCell, Cond.code yX1_openCell cX1_openCell 3 none, Cond.fieldLink RX1 9 "SkinBox$Flow" "springs" "[I", Cond.fieldLink RX1 15 "SkinBox$Flow" "drains" "[I", Cond.fieldLink RX1 99 "SkinBox$Cells" "held" "[I", Cond.methodLink RX1 95 yX0_seamCost, Cond.instanceMethod yX0_seamCost, Cond.selects RX0 yX0_seamCost yX0_seamCost, Cond.code yX0_seamCost cX0_seamCost 7 (some .int), Cond.fieldLink RX0 24 "SkinBox$Cells" "places" "[I", Cond.methodLink RX0 54 Lib.Math.min.name, Cond.static Lib.Math.min.name, Cond.initialized "java/lang/Math", Cond.code Lib.Math.min.name Lib.Math.min.code 2 (some .int), Cond.methodLink RX1 56 yX1_search, Cond.instanceMethod yX1_search, Cond.selects RX1 yX1_search yX1_search, Cond.code yX1_search cX1_search 6 (some .int), Cond.fieldLink RX1 27 "SkinBox$Flow" "queue" "[I", Cond.fieldLink RX1 24 "SkinBox$Flow" "cameBy" "[I", Cond.fieldLink RX1 21 "SkinBox$Flow" "cameFrom" "[I"]
def wsX1_settle_r3 : List Cond := [Cond.methodLink RX1 102 yX1_startAt, Cond.instanceMethod yX1_startAt, Cond.selects RX1 yX1_startAt yX1_startAt, Cond.code yX1_startAt cX1_startAt 4 (some .int), Cond.methodLink RX1 61 yX1_pushTo, Cond.instanceMethod yX1_pushTo, Cond.selects RX1 yX1_pushTo yX1_pushTo, Cond.code yX1_pushTo cX1_pushTo 5 none, Cond.methodLink RX1 106 Lib.Math.min.name, Cond.methodLink RX1 64 yX1_seen, Cond.instanceMethod yX1_seen, Cond.selects RX1 yX1_seen yX1_seen, Cond.code yX1_seen cX1_seen 4 (some .long), Cond.methodLink RX1 68 yX1_searchBack, Cond.instanceMethod yX1_searchBack, Cond.selects RX1 yX1_searchBack yX1_searchBack, Cond.code yX1_searchBack cX1_searchBack 6 none, Cond.methodLink RX1 71 yX0_every, Cond.instanceMethod yX0_every, Cond.selects RX0 yX0_every yX0_every, Cond.code yX0_every cX0_every 1 (some .long), Cond.fieldLink RX0 30 "SkinBox$Cells" "size" "I"]
def wsX1_settle : List Cond := .code yX1_settle cX1_settle 4 none :: ((wsX1_settle_r1 ++ (wsX1_settle_r2 ++ wsX1_settle_r3)) ++ wsX10 ++ wsX00)
def wsX1_queueOpen : List Cond := .code yX1_queueOpen cX1_queueOpen 3 (some .int) :: ([.fieldLink RX1 48 "SkinBox$Flow" "cells" "LSkinBox$Cells;", .fieldLink RX1 78 "SkinBox$Cells" "size" "I", .fieldLink RX1 45 "SkinBox$Flow" "highest" "J", .fieldLink RX1 42 "SkinBox$Flow" "lowest" "J", .constantLong RX1 76 (-1), .fieldLink RX1 27 "SkinBox$Flow" "queue" "[I", .methodLink RX1 124 yX0_holds, .static yX0_holds, .initialized RX0, .code yX0_holds cX0_holds 3 (some .boolean)] ++ wsX10 ++ wsX00)
def wsJ6_bitCount_0f7a4 : List Cond := .code yJ6_bitCount_0f7a4 cJ6_bitCount_0f7a4 1 (some .int) :: ([.constant RJ6 265 (1431655765), .constant RJ6 266 (858993459), .constant RJ6 267 (252645135)])
def wsX1_leastSets_r1 : List Cond := [Cond.fieldLink RX1 42 "SkinBox$Flow" "lowest" "J", Cond.fieldLink RX1 27 "SkinBox$Flow" "queue" "[I", Cond.fieldLink RX1 48 "SkinBox$Flow" "cells" "LSkinBox$Cells;", Cond.methodLink RX1 112 yX1_queueOpen, Cond.instanceMethod yX1_queueOpen, Cond.selects RX1 yX1_queueOpen yX1_queueOpen, Cond.initialized RX1, Cond.code yX1_queueOpen cX1_queueOpen 3 (some .int), Cond.fieldLink RX1 78 "SkinBox$Cells" "size" "I", Cond.fieldLink RX1 45 "SkinBox$Flow" "highest" "J", Cond.constantLong RX1 76 (-1), Cond.methodLink RX1 124 yX0_holds, Cond.static yX0_holds, Cond.initialized RX0, Cond.code yX0_holds cX0_holds 3 (some .boolean), Cond.methodLink RX1 115 yJ6_bitCount_0f7a4, Cond.static yJ6_bitCount_0f7a4, Cond.initialized RJ6, Cond.code yJ6_bitCount_0f7a4 cJ6_bitCount_0f7a4 1 (some .int), Cond.constant RJ6 265 (1431655765), Cond.constant RJ6 266 (858993459), Cond.constant RJ6 267 (252645135), Cond.methodLink RX1 81 yX0_ownCost, Cond.instanceMethod yX0_ownCost]
def wsX1_leastSets_r2 : List Cond := [Cond.selects RX0 yX0_ownCost yX0_ownCost, Cond.code yX0_ownCost cX0_ownCost 4 (some .int), Cond.fieldLink RX0 18 "SkinBox$Cells" "prices" "[I", Cond.fieldLink RX0 27 "SkinBox$Cells" "beyond" "[I", Cond.fieldLink RX0 21 "SkinBox$Cells" "rules" "[I", Cond.methodLink RX1 120 yX0_seamsGrowth, Cond.instanceMethod yX0_seamsGrowth, Cond.selects RX0 yX0_seamsGrowth yX0_seamsGrowth, Cond.code yX0_seamsGrowth cX0_seamsGrowth 8 (some .int), Cond.methodLink RX0 60 yX0_seamCost, Cond.instanceMethod yX0_seamCost, Cond.selects RX0 yX0_seamCost yX0_seamCost, Cond.code yX0_seamCost cX0_seamCost 7 (some .int), Cond.fieldLink RX0 24 "SkinBox$Cells" "places" "[I", Cond.methodLink RX0 54 Lib.Math.min.name, Cond.static Lib.Math.min.name, Cond.initialized "java/lang/Math", Cond.code Lib.Math.min.name Lib.Math.min.code 2 (some .int), Cond.methodLink RX0 64 yX0_holds]
def wsX1_leastSets : List Cond := .code yX1_leastSets cX1_leastSets 9 (some .int) :: ((wsX1_leastSets_r1 ++ wsX1_leastSets_r2) ++ wsX10 ++ wsX00)
def wsX2_at : List Cond := .code yX2_at cX2_at 3 (some .int) :: ([])
def wsX2_spread : List Cond := .code yX2_spread cX2_spread 5 none :: ([.fieldLink RX2 22 "SkinBox$Points" "wide" "I", .fieldLink RX2 26 "SkinBox$Points" "high" "I", .fieldLink RX2 9 "SkinBox$Points" "heights" "[I", .fieldLink RX2 15 "SkinBox$Points" "pinned" "[Z", .methodLink RX2 33 yJ7_fill_53178, .static yJ7_fill_53178, .initialized RJ7, .code yJ7_fill_53178 cJ7_fill_53178 4 none, .methodLink RX2 39 yX2_at, .instanceMethod yX2_at, .selects RX2 yX2_at yX2_at, .initialized RX2, .code yX2_at cX2_at 3 (some .int)] ++ wsX20)
def wsX2_init : List Cond := .code yX2_init cX2_init 1 none :: ([.methodLink RX2 3 objectInit, .instanceMethod objectInit, .code objectInit ⟨#[0xb1]⟩ 1 none, .arrayClass .int, .fieldLink RX2 9 "SkinBox$Points" "heights" "[I", .arrayClass .boolean, .fieldLink RX2 15 "SkinBox$Points" "pinned" "[Z", .fieldLink RX2 19 "SkinBox$Points" "near" "[I", .fieldLink RX2 22 "SkinBox$Points" "wide" "I", .fieldLink RX2 26 "SkinBox$Points" "high" "I", .methodLink RX2 29 yX2_spread, .instanceMethod yX2_spread, .selects RX2 yX2_spread yX2_spread, .initialized RX2, .code yX2_spread cX2_spread 5 none, .methodLink RX2 33 yJ7_fill_53178, .static yJ7_fill_53178, .initialized RJ7, .code yJ7_fill_53178 cJ7_fill_53178 4 none, .methodLink RX2 39 yX2_at, .instanceMethod yX2_at, .selects RX2 yX2_at yX2_at, .code yX2_at cX2_at 3 (some .int)] ++ wsX20)
def wsX2_has : List Cond := .code yX2_has cX2_has 3 (some .boolean) :: ([.fieldLink RX2 22 "SkinBox$Points" "wide" "I", .fieldLink RX2 26 "SkinBox$Points" "high" "I"] ++ wsX20)
def wsX2_pins : List Cond := .code yX2_pins cX2_pins 4 (some .int) :: ([.fieldLink RX2 26 "SkinBox$Points" "high" "I", .fieldLink RX2 22 "SkinBox$Points" "wide" "I", .fieldLink RX2 15 "SkinBox$Points" "pinned" "[Z", .methodLink RX2 39 yX2_at, .instanceMethod yX2_at, .selects RX2 yX2_at yX2_at, .initialized RX2, .code yX2_at cX2_at 3 (some .int)] ++ wsX20)
def wsX2_difference : List Cond := .code yX2_difference cX2_difference 5 (some .int) :: ([.fieldLink RX2 9 "SkinBox$Points" "heights" "[I", .methodLink RX2 51 Lib.Math.abs.name, .static Lib.Math.abs.name, .initialized "java/lang/Math", .code Lib.Math.abs.name Lib.Math.abs.code 1 (some .int), .methodLink RX2 47 yX2_has, .instanceMethod yX2_has, .selects RX2 yX2_has yX2_has, .initialized RX2, .code yX2_has cX2_has 3 (some .boolean), .fieldLink RX2 22 "SkinBox$Points" "wide" "I", .fieldLink RX2 26 "SkinBox$Points" "high" "I", .methodLink RX2 39 yX2_at, .instanceMethod yX2_at, .selects RX2 yX2_at yX2_at, .code yX2_at cX2_at 3 (some .int)] ++ wsX20)
def wsX2_sumOfDifferences : List Cond := .code yX2_sumOfDifferences cX2_sumOfDifferences 4 (some .int) :: ([.fieldLink RX2 26 "SkinBox$Points" "high" "I", .fieldLink RX2 22 "SkinBox$Points" "wide" "I", .methodLink RX2 43 yX2_difference, .instanceMethod yX2_difference, .selects RX2 yX2_difference yX2_difference, .initialized RX2, .code yX2_difference cX2_difference 5 (some .int), .fieldLink RX2 9 "SkinBox$Points" "heights" "[I", .methodLink RX2 51 Lib.Math.abs.name, .static Lib.Math.abs.name, .initialized "java/lang/Math", .code Lib.Math.abs.name Lib.Math.abs.code 1 (some .int), .methodLink RX2 47 yX2_has, .instanceMethod yX2_has, .selects RX2 yX2_has yX2_has, .code yX2_has cX2_has 3 (some .boolean), .methodLink RX2 39 yX2_at, .instanceMethod yX2_at, .selects RX2 yX2_at yX2_at, .code yX2_at cX2_at 3 (some .int)] ++ wsX20)
def wsX2_putInOrder : List Cond := .code yX2_putInOrder cX2_putInOrder 6 (some .int) :: ([.fieldLink RX2 9 "SkinBox$Points" "heights" "[I", .fieldLink RX2 19 "SkinBox$Points" "near" "[I", .methodLink RX2 47 yX2_has, .instanceMethod yX2_has, .selects RX2 yX2_has yX2_has, .initialized RX2, .code yX2_has cX2_has 3 (some .boolean), .fieldLink RX2 22 "SkinBox$Points" "wide" "I", .fieldLink RX2 26 "SkinBox$Points" "high" "I", .methodLink RX2 39 yX2_at, .instanceMethod yX2_at, .selects RX2 yX2_at yX2_at, .code yX2_at cX2_at 3 (some .int)] ++ wsX20)
def wsX2_stepped_r1 : List Cond := [Cond.fieldLink RX2 9 "SkinBox$Points" "heights" "[I", Cond.fieldLink RX2 15 "SkinBox$Points" "pinned" "[Z", Cond.fieldLink RX2 19 "SkinBox$Points" "near" "[I", Cond.methodLink RX2 68 Lib.Math.min.name, Cond.static Lib.Math.min.name, Cond.initialized "java/lang/Math", Cond.code Lib.Math.min.name Lib.Math.min.code 2 (some .int), Cond.methodLink RX2 71 Lib.Math.max.name, Cond.static Lib.Math.max.name, Cond.code Lib.Math.max.name Lib.Math.max.code 2 (some .int), Cond.methodLink RX2 39 yX2_at, Cond.instanceMethod yX2_at, Cond.selects RX2 yX2_at yX2_at, Cond.initialized RX2, Cond.code yX2_at cX2_at 3 (some .int), Cond.methodLink RX2 64 yX2_putInOrder, Cond.instanceMethod yX2_putInOrder, Cond.selects RX2 yX2_putInOrder yX2_putInOrder, Cond.code yX2_putInOrder cX2_putInOrder 6 (some .int), Cond.methodLink RX2 47 yX2_has, Cond.instanceMethod yX2_has, Cond.selects RX2 yX2_has yX2_has, Cond.code yX2_has cX2_has 3 (some .boolean), Cond.fieldLink RX2 22 "SkinBox$Points" "wide" "I"]
def wsX2_stepped_r2 : List Cond := [Cond.fieldLink RX2 26 "SkinBox$Points" "high" "I"]
def wsX2_stepped : List Cond := .code yX2_stepped cX2_stepped 7 (some .int) :: ((wsX2_stepped_r1 ++ wsX2_stepped_r2) ++ wsX20)
def wsX2_sumOfChanges_r1 : List Cond := [Cond.fieldLink RX2 26 "SkinBox$Points" "high" "I", Cond.fieldLink RX2 22 "SkinBox$Points" "wide" "I", Cond.fieldLink RX2 9 "SkinBox$Points" "heights" "[I", Cond.methodLink RX2 51 Lib.Math.abs.name, Cond.static Lib.Math.abs.name, Cond.initialized "java/lang/Math", Cond.code Lib.Math.abs.name Lib.Math.abs.code 1 (some .int), Cond.methodLink RX2 57 yX2_stepped, Cond.instanceMethod yX2_stepped, Cond.selects RX2 yX2_stepped yX2_stepped, Cond.initialized RX2, Cond.code yX2_stepped cX2_stepped 7 (some .int), Cond.fieldLink RX2 15 "SkinBox$Points" "pinned" "[Z", Cond.fieldLink RX2 19 "SkinBox$Points" "near" "[I", Cond.methodLink RX2 68 Lib.Math.min.name, Cond.static Lib.Math.min.name, Cond.code Lib.Math.min.name Lib.Math.min.code 2 (some .int), Cond.methodLink RX2 71 Lib.Math.max.name, Cond.static Lib.Math.max.name, Cond.code Lib.Math.max.name Lib.Math.max.code 2 (some .int), Cond.methodLink RX2 39 yX2_at, Cond.instanceMethod yX2_at, Cond.selects RX2 yX2_at yX2_at, Cond.code yX2_at cX2_at 3 (some .int)]
def wsX2_sumOfChanges_r2 : List Cond := [Cond.methodLink RX2 64 yX2_putInOrder, Cond.instanceMethod yX2_putInOrder, Cond.selects RX2 yX2_putInOrder yX2_putInOrder, Cond.code yX2_putInOrder cX2_putInOrder 6 (some .int), Cond.methodLink RX2 47 yX2_has, Cond.instanceMethod yX2_has, Cond.selects RX2 yX2_has yX2_has, Cond.code yX2_has cX2_has 3 (some .boolean)]
def wsX2_sumOfChanges : List Cond := .code yX2_sumOfChanges cX2_sumOfChanges 4 (some .int) :: ((wsX2_sumOfChanges_r1 ++ wsX2_sumOfChanges_r2) ++ wsX20)
def wsX2_isAtRest_r1 : List Cond := [Cond.methodLink RX2 60 yX2_sumOfChanges, Cond.instanceMethod yX2_sumOfChanges, Cond.selects RX2 yX2_sumOfChanges yX2_sumOfChanges, Cond.initialized RX2, Cond.code yX2_sumOfChanges cX2_sumOfChanges 4 (some .int), Cond.fieldLink RX2 26 "SkinBox$Points" "high" "I", Cond.fieldLink RX2 22 "SkinBox$Points" "wide" "I", Cond.fieldLink RX2 9 "SkinBox$Points" "heights" "[I", Cond.methodLink RX2 51 Lib.Math.abs.name, Cond.static Lib.Math.abs.name, Cond.initialized "java/lang/Math", Cond.code Lib.Math.abs.name Lib.Math.abs.code 1 (some .int), Cond.methodLink RX2 57 yX2_stepped, Cond.instanceMethod yX2_stepped, Cond.selects RX2 yX2_stepped yX2_stepped, Cond.code yX2_stepped cX2_stepped 7 (some .int), Cond.fieldLink RX2 15 "SkinBox$Points" "pinned" "[Z", Cond.fieldLink RX2 19 "SkinBox$Points" "near" "[I", Cond.methodLink RX2 68 Lib.Math.min.name, Cond.static Lib.Math.min.name, Cond.code Lib.Math.min.name Lib.Math.min.code 2 (some .int), Cond.methodLink RX2 71 Lib.Math.max.name, Cond.static Lib.Math.max.name, Cond.code Lib.Math.max.name Lib.Math.max.code 2 (some .int)]
def wsX2_isAtRest_r2 : List Cond := [Cond.methodLink RX2 39 yX2_at, Cond.instanceMethod yX2_at, Cond.selects RX2 yX2_at yX2_at, Cond.code yX2_at cX2_at 3 (some .int), Cond.methodLink RX2 64 yX2_putInOrder, Cond.instanceMethod yX2_putInOrder, Cond.selects RX2 yX2_putInOrder yX2_putInOrder, Cond.code yX2_putInOrder cX2_putInOrder 6 (some .int), Cond.methodLink RX2 47 yX2_has, Cond.instanceMethod yX2_has, Cond.selects RX2 yX2_has yX2_has, Cond.code yX2_has cX2_has 3 (some .boolean)]
def wsX2_isAtRest : List Cond := .code yX2_isAtRest cX2_isAtRest 1 (some .boolean) :: ((wsX2_isAtRest_r1 ++ wsX2_isAtRest_r2) ++ wsX20)
def wsX2_stepAtEach_r1 : List Cond := [Cond.fieldLink RX2 26 "SkinBox$Points" "high" "I", Cond.fieldLink RX2 22 "SkinBox$Points" "wide" "I", Cond.fieldLink RX2 9 "SkinBox$Points" "heights" "[I", Cond.methodLink RX2 39 yX2_at, Cond.instanceMethod yX2_at, Cond.selects RX2 yX2_at yX2_at, Cond.initialized RX2, Cond.code yX2_at cX2_at 3 (some .int), Cond.methodLink RX2 57 yX2_stepped, Cond.instanceMethod yX2_stepped, Cond.selects RX2 yX2_stepped yX2_stepped, Cond.code yX2_stepped cX2_stepped 7 (some .int), Cond.fieldLink RX2 15 "SkinBox$Points" "pinned" "[Z", Cond.fieldLink RX2 19 "SkinBox$Points" "near" "[I", Cond.methodLink RX2 68 Lib.Math.min.name, Cond.static Lib.Math.min.name, Cond.initialized "java/lang/Math", Cond.code Lib.Math.min.name Lib.Math.min.code 2 (some .int), Cond.methodLink RX2 71 Lib.Math.max.name, Cond.static Lib.Math.max.name, Cond.code Lib.Math.max.name Lib.Math.max.code 2 (some .int), Cond.methodLink RX2 64 yX2_putInOrder, Cond.instanceMethod yX2_putInOrder, Cond.selects RX2 yX2_putInOrder yX2_putInOrder]
def wsX2_stepAtEach_r2 : List Cond := [Cond.code yX2_putInOrder cX2_putInOrder 6 (some .int), Cond.methodLink RX2 47 yX2_has, Cond.instanceMethod yX2_has, Cond.selects RX2 yX2_has yX2_has, Cond.code yX2_has cX2_has 3 (some .boolean)]
def wsX2_stepAtEach : List Cond := .code yX2_stepAtEach cX2_stepAtEach 3 none :: ((wsX2_stepAtEach_r1 ++ wsX2_stepAtEach_r2) ++ wsX20)
def wsX3_init_r1 : List Cond := [Cond.methodLink RX3 1 objectInit, Cond.instanceMethod objectInit, Cond.code objectInit ⟨#[0xb1]⟩ 1 none, Cond.classLink RX3 7 RX0, Cond.instantiable RX0 7, Cond.initialized RX0, Cond.fieldLink RX3 10 "SkinBox" "cells" "LSkinBox$Cells;", Cond.classLink RX3 16 RX1, Cond.instantiable RX1 12, Cond.initialized RX1, Cond.fieldLink RX3 21 "SkinBox" "flow" "LSkinBox$Flow;", Cond.classLink RX3 25 RX2, Cond.instantiable RX2 5, Cond.initialized RX2, Cond.fieldLink RX3 28 "SkinBox" "points" "LSkinBox$Points;", Cond.fieldLink RX3 32 "SkinBox" "asked" "J", Cond.methodLink RX3 9 yX0_init, Cond.instanceMethod yX0_init, Cond.code yX0_init cX0_init 1 none, Cond.methodLink RX0 3 objectInit, Cond.arrayClass .int, Cond.fieldLink RX0 9 "SkinBox$Cells" "sides" "[I", Cond.fieldLink RX0 15 "SkinBox$Cells" "held" "[I", Cond.fieldLink RX0 18 "SkinBox$Cells" "prices" "[I"]
def wsX3_init_r2 : List Cond := [Cond.fieldLink RX0 21 "SkinBox$Cells" "rules" "[I", Cond.fieldLink RX0 24 "SkinBox$Cells" "places" "[I", Cond.fieldLink RX0 27 "SkinBox$Cells" "beyond" "[I", Cond.fieldLink RX0 30 "SkinBox$Cells" "size" "I", Cond.methodLink RX0 34 yX0_lay, Cond.instanceMethod yX0_lay, Cond.selects RX0 yX0_lay yX0_lay, Cond.code yX0_lay cX0_lay 8 none, Cond.methodLink RX0 38 yJ7_fill_53178, Cond.static yJ7_fill_53178, Cond.initialized RJ7, Cond.code yJ7_fill_53178 cJ7_fill_53178 4 none, Cond.methodLink RX0 44 yX0_layAlong, Cond.instanceMethod yX0_layAlong, Cond.selects RX0 yX0_layAlong yX0_layAlong, Cond.code yX0_layAlong cX0_layAlong 6 none, Cond.methodLink RX3 18 yX1_init, Cond.instanceMethod yX1_init, Cond.code yX1_init cX1_init 2 none, Cond.methodLink RX1 3 objectInit, Cond.fieldLink RX1 9 "SkinBox$Flow" "springs" "[I", Cond.fieldLink RX1 15 "SkinBox$Flow" "drains" "[I", Cond.fieldLink RX1 18 "SkinBox$Flow" "passes" "[I", Cond.fieldLink RX1 21 "SkinBox$Flow" "cameFrom" "[I"]
def wsX3_init_r3 : List Cond := [Cond.fieldLink RX1 24 "SkinBox$Flow" "cameBy" "[I", Cond.fieldLink RX1 27 "SkinBox$Flow" "queue" "[I", Cond.fieldLink RX1 30 "SkinBox$Flow" "settled" "Z", Cond.fieldLink RX1 34 "SkinBox$Flow" "settledRise" "I", Cond.fieldLink RX1 38 "SkinBox$Flow" "amount" "J", Cond.fieldLink RX1 42 "SkinBox$Flow" "lowest" "J", Cond.fieldLink RX1 45 "SkinBox$Flow" "highest" "J", Cond.fieldLink RX1 48 "SkinBox$Flow" "cells" "LSkinBox$Cells;", Cond.methodLink RX3 27 yX2_init, Cond.instanceMethod yX2_init, Cond.code yX2_init cX2_init 1 none, Cond.methodLink RX2 3 objectInit, Cond.fieldLink RX2 9 "SkinBox$Points" "heights" "[I", Cond.arrayClass .boolean, Cond.fieldLink RX2 15 "SkinBox$Points" "pinned" "[Z", Cond.fieldLink RX2 19 "SkinBox$Points" "near" "[I", Cond.fieldLink RX2 22 "SkinBox$Points" "wide" "I", Cond.fieldLink RX2 26 "SkinBox$Points" "high" "I", Cond.methodLink RX2 29 yX2_spread, Cond.instanceMethod yX2_spread, Cond.selects RX2 yX2_spread yX2_spread, Cond.code yX2_spread cX2_spread 5 none, Cond.methodLink RX2 33 yJ7_fill_53178, Cond.methodLink RX2 39 yX2_at]
def wsX3_init_r4 : List Cond := [Cond.instanceMethod yX2_at, Cond.selects RX2 yX2_at yX2_at, Cond.code yX2_at cX2_at 3 (some .int)]
def wsX3_init : List Cond := .code yX3_init cX3_init 1 none :: ((wsX3_init_r1 ++ (wsX3_init_r2 ++ (wsX3_init_r3 ++ wsX3_init_r4))) ++ wsX00 ++ wsX30 ++ wsX10 ++ wsX20)
def wsX3_within : List Cond := .code yX3_within cX3_within 3 (some .boolean) :: ([])
def wsX3_box_r1 : List Cond := [Cond.fieldLink RX3 10 "SkinBox" "cells" "LSkinBox$Cells;", Cond.fieldLink RX3 21 "SkinBox" "flow" "LSkinBox$Flow;", Cond.fieldLink RX3 47 "SkinBox$Cells" "size" "I", Cond.methodLink RX3 36 yX3_within, Cond.static yX3_within, Cond.initialized RX3, Cond.code yX3_within cX3_within 3 (some .boolean), Cond.methodLink RX3 40 yX0_lay, Cond.instanceMethod yX0_lay, Cond.selects RX0 yX0_lay yX0_lay, Cond.initialized RX0, Cond.code yX0_lay cX0_lay 8 none, Cond.fieldLink RX0 9 "SkinBox$Cells" "sides" "[I", Cond.fieldLink RX0 30 "SkinBox$Cells" "size" "I", Cond.fieldLink RX0 15 "SkinBox$Cells" "held" "[I", Cond.fieldLink RX0 18 "SkinBox$Cells" "prices" "[I", Cond.methodLink RX0 38 yJ7_fill_53178, Cond.static yJ7_fill_53178, Cond.initialized RJ7, Cond.code yJ7_fill_53178 cJ7_fill_53178 4 none, Cond.methodLink RX0 44 yX0_layAlong, Cond.instanceMethod yX0_layAlong, Cond.selects RX0 yX0_layAlong yX0_layAlong, Cond.code yX0_layAlong cX0_layAlong 6 none]
def wsX3_box_r2 : List Cond := [Cond.fieldLink RX0 24 "SkinBox$Cells" "places" "[I", Cond.fieldLink RX0 27 "SkinBox$Cells" "beyond" "[I", Cond.methodLink RX3 44 yX1_forget, Cond.instanceMethod yX1_forget, Cond.selects RX1 yX1_forget yX1_forget, Cond.initialized RX1, Cond.code yX1_forget cX1_forget 1 none, Cond.fieldLink RX1 30 "SkinBox$Flow" "settled" "Z"]
def wsX3_box : List Cond := .code yX3_box cX3_box 4 (some .int) :: ((wsX3_box_r1 ++ wsX3_box_r2) ++ wsX30 ++ wsX00 ++ wsX10)
def wsX3_hold : List Cond := .code yX3_hold cX3_hold 4 (some .int) :: ([.fieldLink RX3 10 "SkinBox" "cells" "LSkinBox$Cells;", .fieldLink RX3 55 "SkinBox$Cells" "held" "[I", .fieldLink RX3 21 "SkinBox" "flow" "LSkinBox$Flow;", .methodLink RX3 51 yX0_has, .instanceMethod yX0_has, .selects RX0 yX0_has yX0_has, .initialized RX0, .code yX0_has cX0_has 2 (some .boolean), .fieldLink RX0 30 "SkinBox$Cells" "size" "I", .methodLink RX3 36 yX3_within, .static yX3_within, .initialized RX3, .code yX3_within cX3_within 3 (some .boolean), .methodLink RX3 44 yX1_forget, .instanceMethod yX1_forget, .selects RX1 yX1_forget yX1_forget, .initialized RX1, .code yX1_forget cX1_forget 1 none, .fieldLink RX1 30 "SkinBox$Flow" "settled" "Z"] ++ wsX30 ++ wsX00 ++ wsX10)
def wsX3_price : List Cond := .code yX3_price cX3_price 4 (some .int) :: ([.fieldLink RX3 10 "SkinBox" "cells" "LSkinBox$Cells;", .constant RX3 59 (-1000000), .fieldLink RX3 60 "SkinBox$Cells" "prices" "[I", .fieldLink RX3 21 "SkinBox" "flow" "LSkinBox$Flow;", .methodLink RX3 51 yX0_has, .instanceMethod yX0_has, .selects RX0 yX0_has yX0_has, .initialized RX0, .code yX0_has cX0_has 2 (some .boolean), .fieldLink RX0 30 "SkinBox$Cells" "size" "I", .methodLink RX3 36 yX3_within, .static yX3_within, .initialized RX3, .code yX3_within cX3_within 3 (some .boolean), .methodLink RX3 44 yX1_forget, .instanceMethod yX1_forget, .selects RX1 yX1_forget yX1_forget, .initialized RX1, .code yX1_forget cX1_forget 1 none, .fieldLink RX1 30 "SkinBox$Flow" "settled" "Z"] ++ wsX30 ++ wsX00 ++ wsX10)
def wsX3_set : List Cond := .code yX3_set cX3_set 4 (some .int) :: ([.fieldLink RX3 63 "SkinBox" "LOWEST_RULE" "[I", .fieldLink RX3 66 "SkinBox" "HIGHEST_RULE" "[I", .fieldLink RX3 10 "SkinBox" "cells" "LSkinBox$Cells;", .fieldLink RX3 69 "SkinBox$Cells" "rules" "[I", .fieldLink RX3 21 "SkinBox" "flow" "LSkinBox$Flow;", .methodLink RX3 36 yX3_within, .static yX3_within, .initialized RX3, .code yX3_within cX3_within 3 (some .boolean), .methodLink RX3 44 yX1_forget, .instanceMethod yX1_forget, .selects RX1 yX1_forget yX1_forget, .initialized RX1, .code yX1_forget cX1_forget 1 none, .fieldLink RX1 30 "SkinBox$Flow" "settled" "Z"] ++ wsX30 ++ wsX00 ++ wsX10)
def wsX3_cost_r1 : List Cond := [Cond.fieldLink RX3 10 "SkinBox" "cells" "LSkinBox$Cells;", Cond.fieldLink RX3 32 "SkinBox" "asked" "J", Cond.fieldLink RX3 76 "SkinBox" "MARKS" "[I", Cond.methodLink RX3 36 yX3_within, Cond.static yX3_within, Cond.initialized RX3, Cond.code yX3_within cX3_within 3 (some .boolean), Cond.methodLink RX3 51 yX0_has, Cond.instanceMethod yX0_has, Cond.selects RX0 yX0_has yX0_has, Cond.initialized RX0, Cond.code yX0_has cX0_has 2 (some .boolean), Cond.fieldLink RX0 30 "SkinBox$Cells" "size" "I", Cond.methodLink RX3 72 yX0_sideTowards, Cond.instanceMethod yX0_sideTowards, Cond.selects RX0 yX0_sideTowards yX0_sideTowards, Cond.code yX0_sideTowards cX0_sideTowards 4 (some .int), Cond.fieldLink RX0 27 "SkinBox$Cells" "beyond" "[I", Cond.methodLink RX3 79 yX0_seamCost, Cond.instanceMethod yX0_seamCost, Cond.selects RX0 yX0_seamCost yX0_seamCost, Cond.code yX0_seamCost cX0_seamCost 7 (some .int), Cond.fieldLink RX0 24 "SkinBox$Cells" "places" "[I", Cond.fieldLink RX0 21 "SkinBox$Cells" "rules" "[I"]
def wsX3_cost_r2 : List Cond := [Cond.methodLink RX0 54 Lib.Math.min.name, Cond.static Lib.Math.min.name, Cond.initialized "java/lang/Math", Cond.code Lib.Math.min.name Lib.Math.min.code 2 (some .int)]
def wsX3_cost : List Cond := .code yX3_cost cX3_cost 5 (some .int) :: ((wsX3_cost_r1 ++ wsX3_cost_r2) ++ wsX30 ++ wsX00)
def wsX3_skin_r1 : List Cond := [Cond.fieldLink RX3 10 "SkinBox" "cells" "LSkinBox$Cells;", Cond.constantLong RX3 91 (-1), Cond.methodLink RX3 83 yX0_isSet, Cond.instanceMethod yX0_isSet, Cond.selects RX0 yX0_isSet yX0_isSet, Cond.initialized RX0, Cond.code yX0_isSet cX0_isSet 3 (some .boolean), Cond.constantLong RX0 52 (-1), Cond.methodLink RX0 48 yX0_every, Cond.instanceMethod yX0_every, Cond.selects RX0 yX0_every yX0_every, Cond.code yX0_every cX0_every 1 (some .long), Cond.fieldLink RX0 30 "SkinBox$Cells" "size" "I", Cond.methodLink RX3 87 yX0_skinOf, Cond.instanceMethod yX0_skinOf, Cond.selects RX0 yX0_skinOf yX0_skinOf, Cond.code yX0_skinOf cX0_skinOf 6 (some .long), Cond.methodLink RX0 64 yX0_holds, Cond.static yX0_holds, Cond.code yX0_holds cX0_holds 3 (some .boolean), Cond.methodLink RX0 68 yX0_skinOfCell, Cond.instanceMethod yX0_skinOfCell, Cond.selects RX0 yX0_skinOfCell yX0_skinOfCell, Cond.code yX0_skinOfCell cX0_skinOfCell 7 (some .int)]
def wsX3_skin_r2 : List Cond := [Cond.fieldLink RX0 27 "SkinBox$Cells" "beyond" "[I", Cond.fieldLink RX0 21 "SkinBox$Cells" "rules" "[I", Cond.methodLink RX0 60 yX0_seamCost, Cond.instanceMethod yX0_seamCost, Cond.selects RX0 yX0_seamCost yX0_seamCost, Cond.code yX0_seamCost cX0_seamCost 7 (some .int), Cond.fieldLink RX0 24 "SkinBox$Cells" "places" "[I", Cond.methodLink RX0 54 Lib.Math.min.name, Cond.static Lib.Math.min.name, Cond.initialized "java/lang/Math", Cond.code Lib.Math.min.name Lib.Math.min.code 2 (some .int)]
def wsX3_skin : List Cond := .code yX3_skin cX3_skin 3 (some .long) :: ((wsX3_skin_r1 ++ wsX3_skin_r2) ++ wsX30 ++ wsX00)
def wsX3_all_r1 : List Cond := [Cond.fieldLink RX3 10 "SkinBox" "cells" "LSkinBox$Cells;", Cond.constantLong RX3 96 (-1000000), Cond.methodLink RX3 83 yX0_isSet, Cond.instanceMethod yX0_isSet, Cond.selects RX0 yX0_isSet yX0_isSet, Cond.initialized RX0, Cond.code yX0_isSet cX0_isSet 3 (some .boolean), Cond.constantLong RX0 52 (-1), Cond.methodLink RX0 48 yX0_every, Cond.instanceMethod yX0_every, Cond.selects RX0 yX0_every yX0_every, Cond.code yX0_every cX0_every 1 (some .long), Cond.fieldLink RX0 30 "SkinBox$Cells" "size" "I", Cond.methodLink RX3 87 yX0_skinOf, Cond.instanceMethod yX0_skinOf, Cond.selects RX0 yX0_skinOf yX0_skinOf, Cond.code yX0_skinOf cX0_skinOf 6 (some .long), Cond.methodLink RX0 64 yX0_holds, Cond.static yX0_holds, Cond.code yX0_holds cX0_holds 3 (some .boolean), Cond.methodLink RX0 68 yX0_skinOfCell, Cond.instanceMethod yX0_skinOfCell, Cond.selects RX0 yX0_skinOfCell yX0_skinOfCell, Cond.code yX0_skinOfCell cX0_skinOfCell 7 (some .int)]
def wsX3_all_r2 : List Cond := [Cond.fieldLink RX0 27 "SkinBox$Cells" "beyond" "[I", Cond.fieldLink RX0 21 "SkinBox$Cells" "rules" "[I", Cond.methodLink RX0 60 yX0_seamCost, Cond.instanceMethod yX0_seamCost, Cond.selects RX0 yX0_seamCost yX0_seamCost, Cond.code yX0_seamCost cX0_seamCost 7 (some .int), Cond.fieldLink RX0 24 "SkinBox$Cells" "places" "[I", Cond.methodLink RX0 54 Lib.Math.min.name, Cond.static Lib.Math.min.name, Cond.initialized "java/lang/Math", Cond.code Lib.Math.min.name Lib.Math.min.code 2 (some .int), Cond.methodLink RX3 93 yX0_pricesOf, Cond.instanceMethod yX0_pricesOf, Cond.selects RX0 yX0_pricesOf yX0_pricesOf, Cond.code yX0_pricesOf cX0_pricesOf 6 (some .long), Cond.fieldLink RX0 18 "SkinBox$Cells" "prices" "[I"]
def wsX3_all : List Cond := .code yX3_all cX3_all 3 (some .long) :: ((wsX3_all_r1 ++ wsX3_all_r2) ++ wsX30 ++ wsX00)
def wsX3_right : List Cond := .code yX3_right cX3_right 3 (some .int) :: ([.fieldLink RX3 10 "SkinBox" "cells" "LSkinBox$Cells;", .methodLink RX3 83 yX0_isSet, .instanceMethod yX0_isSet, .selects RX0 yX0_isSet yX0_isSet, .initialized RX0, .code yX0_isSet cX0_isSet 3 (some .boolean), .constantLong RX0 52 (-1), .methodLink RX0 48 yX0_every, .instanceMethod yX0_every, .selects RX0 yX0_every yX0_every, .code yX0_every cX0_every 1 (some .long), .fieldLink RX0 30 "SkinBox$Cells" "size" "I", .methodLink RX3 98 yX0_isRight, .instanceMethod yX0_isRight, .selects RX0 yX0_isRight yX0_isRight, .code yX0_isRight cX0_isRight 4 (some .boolean), .fieldLink RX0 15 "SkinBox$Cells" "held" "[I", .methodLink RX0 64 yX0_holds, .static yX0_holds, .code yX0_holds cX0_holds 3 (some .boolean)] ++ wsX30 ++ wsX00)
def wsX3_least_r1 : List Cond := [Cond.fieldLink RX3 21 "SkinBox" "flow" "LSkinBox$Flow;", Cond.fieldLink RX3 105 "SkinBox$Flow" "amount" "J", Cond.methodLink RX3 101 yX1_settle, Cond.instanceMethod yX1_settle, Cond.selects RX1 yX1_settle yX1_settle, Cond.initialized RX1, Cond.code yX1_settle cX1_settle 4 none, Cond.fieldLink RX1 30 "SkinBox$Flow" "settled" "Z", Cond.fieldLink RX1 34 "SkinBox$Flow" "settledRise" "I", Cond.constant RX1 60 (1000000), Cond.fieldLink RX1 42 "SkinBox$Flow" "lowest" "J", Cond.fieldLink RX1 48 "SkinBox$Flow" "cells" "LSkinBox$Cells;", Cond.constantLong RX1 76 (-1), Cond.fieldLink RX1 45 "SkinBox$Flow" "highest" "J", Cond.methodLink RX1 52 yX1_open, Cond.instanceMethod yX1_open, Cond.selects RX1 yX1_open yX1_open, Cond.code yX1_open cX1_open 4 none, Cond.fieldLink RX1 38 "SkinBox$Flow" "amount" "J", Cond.fieldLink RX1 78 "SkinBox$Cells" "size" "I", Cond.fieldLink RX1 18 "SkinBox$Flow" "passes" "[I", Cond.fieldLink RX1 89 "SkinBox$Cells" "beyond" "[I", Cond.fieldLink RX1 92 "SkinBox$Cells" "rules" "[I", Cond.methodLink RX1 81 yX0_ownCost]
def wsX3_least_r2 : List Cond := [Cond.instanceMethod yX0_ownCost, Cond.selects RX0 yX0_ownCost yX0_ownCost, Cond.initialized RX0, Cond.code yX0_ownCost cX0_ownCost 4 (some .int), Cond.fieldLink RX0 18 "SkinBox$Cells" "prices" "[I", Cond.fieldLink RX0 27 "SkinBox$Cells" "beyond" "[I", Cond.fieldLink RX0 21 "SkinBox$Cells" "rules" "[I", Cond.methodLink RX1 85 yX1_openCell, Cond.instanceMethod yX1_openCell, Cond.selects RX1 yX1_openCell yX1_openCell, Cond.code yX1_openCell cX1_openCell 3 none, Cond.fieldLink RX1 9 "SkinBox$Flow" "springs" "[I", Cond.fieldLink RX1 15 "SkinBox$Flow" "drains" "[I", Cond.fieldLink RX1 99 "SkinBox$Cells" "held" "[I", Cond.methodLink RX1 95 yX0_seamCost, Cond.instanceMethod yX0_seamCost, Cond.selects RX0 yX0_seamCost yX0_seamCost, Cond.code yX0_seamCost cX0_seamCost 7 (some .int), Cond.fieldLink RX0 24 "SkinBox$Cells" "places" "[I", Cond.methodLink RX0 54 Lib.Math.min.name, Cond.static Lib.Math.min.name, Cond.initialized "java/lang/Math", Cond.code Lib.Math.min.name Lib.Math.min.code 2 (some .int), Cond.methodLink RX1 56 yX1_search]
def wsX3_least_r3 : List Cond := [Cond.instanceMethod yX1_search, Cond.selects RX1 yX1_search yX1_search, Cond.code yX1_search cX1_search 6 (some .int), Cond.fieldLink RX1 27 "SkinBox$Flow" "queue" "[I", Cond.fieldLink RX1 24 "SkinBox$Flow" "cameBy" "[I", Cond.fieldLink RX1 21 "SkinBox$Flow" "cameFrom" "[I", Cond.methodLink RX1 102 yX1_startAt, Cond.instanceMethod yX1_startAt, Cond.selects RX1 yX1_startAt yX1_startAt, Cond.code yX1_startAt cX1_startAt 4 (some .int), Cond.methodLink RX1 61 yX1_pushTo, Cond.instanceMethod yX1_pushTo, Cond.selects RX1 yX1_pushTo yX1_pushTo, Cond.code yX1_pushTo cX1_pushTo 5 none, Cond.methodLink RX1 106 Lib.Math.min.name, Cond.methodLink RX1 64 yX1_seen, Cond.instanceMethod yX1_seen, Cond.selects RX1 yX1_seen yX1_seen, Cond.code yX1_seen cX1_seen 4 (some .long), Cond.methodLink RX1 68 yX1_searchBack, Cond.instanceMethod yX1_searchBack, Cond.selects RX1 yX1_searchBack yX1_searchBack, Cond.code yX1_searchBack cX1_searchBack 6 none, Cond.methodLink RX1 71 yX0_every]
def wsX3_least_r4 : List Cond := [Cond.instanceMethod yX0_every, Cond.selects RX0 yX0_every yX0_every, Cond.code yX0_every cX0_every 1 (some .long), Cond.fieldLink RX0 30 "SkinBox$Cells" "size" "I"]
def wsX3_least : List Cond := .code yX3_least cX3_least 1 (some .long) :: ((wsX3_least_r1 ++ (wsX3_least_r2 ++ (wsX3_least_r3 ++ wsX3_least_r4))) ++ wsX30 ++ wsX10 ++ wsX00)
def wsX3_film_r1 : List Cond := [Cond.constantLong RX3 91 (-1), Cond.fieldLink RX3 21 "SkinBox" "flow" "LSkinBox$Flow;", Cond.fieldLink RX3 108 "SkinBox$Flow" "lowest" "J", Cond.fieldLink RX3 111 "SkinBox$Flow" "highest" "J", Cond.methodLink RX3 36 yX3_within, Cond.static yX3_within, Cond.initialized RX3, Cond.code yX3_within cX3_within 3 (some .boolean), Cond.methodLink RX3 101 yX1_settle, Cond.instanceMethod yX1_settle, Cond.selects RX1 yX1_settle yX1_settle, Cond.initialized RX1, Cond.code yX1_settle cX1_settle 4 none, Cond.fieldLink RX1 30 "SkinBox$Flow" "settled" "Z", Cond.fieldLink RX1 34 "SkinBox$Flow" "settledRise" "I", Cond.constant RX1 60 (1000000), Cond.fieldLink RX1 42 "SkinBox$Flow" "lowest" "J", Cond.fieldLink RX1 48 "SkinBox$Flow" "cells" "LSkinBox$Cells;", Cond.constantLong RX1 76 (-1), Cond.fieldLink RX1 45 "SkinBox$Flow" "highest" "J", Cond.methodLink RX1 52 yX1_open, Cond.instanceMethod yX1_open, Cond.selects RX1 yX1_open yX1_open, Cond.code yX1_open cX1_open 4 none]
def wsX3_film_r2 : List Cond := [Cond.fieldLink RX1 38 "SkinBox$Flow" "amount" "J", Cond.fieldLink RX1 78 "SkinBox$Cells" "size" "I", Cond.fieldLink RX1 18 "SkinBox$Flow" "passes" "[I", Cond.fieldLink RX1 89 "SkinBox$Cells" "beyond" "[I", Cond.fieldLink RX1 92 "SkinBox$Cells" "rules" "[I", Cond.methodLink RX1 81 yX0_ownCost, Cond.instanceMethod yX0_ownCost, Cond.selects RX0 yX0_ownCost yX0_ownCost, Cond.initialized RX0, Cond.code yX0_ownCost cX0_ownCost 4 (some .int), Cond.fieldLink RX0 18 "SkinBox$Cells" "prices" "[I", Cond.fieldLink RX0 27 "SkinBox$Cells" "beyond" "[I", Cond.fieldLink RX0 21 "SkinBox$Cells" "rules" "[I", Cond.methodLink RX1 85 yX1_openCell, Cond.instanceMethod yX1_openCell, Cond.selects RX1 yX1_openCell yX1_openCell, Cond.code yX1_openCell cX1_openCell 3 none, Cond.fieldLink RX1 9 "SkinBox$Flow" "springs" "[I", Cond.fieldLink RX1 15 "SkinBox$Flow" "drains" "[I", Cond.fieldLink RX1 99 "SkinBox$Cells" "held" "[I", Cond.methodLink RX1 95 yX0_seamCost, Cond.instanceMethod yX0_seamCost, Cond.selects RX0 yX0_seamCost yX0_seamCost, Cond.code yX0_seamCost cX0_seamCost 7 (some .int)]
def wsX3_film_r3 : List Cond := [Cond.fieldLink RX0 24 "SkinBox$Cells" "places" "[I", Cond.methodLink RX0 54 Lib.Math.min.name, Cond.static Lib.Math.min.name, Cond.initialized "java/lang/Math", Cond.code Lib.Math.min.name Lib.Math.min.code 2 (some .int), Cond.methodLink RX1 56 yX1_search, Cond.instanceMethod yX1_search, Cond.selects RX1 yX1_search yX1_search, Cond.code yX1_search cX1_search 6 (some .int), Cond.fieldLink RX1 27 "SkinBox$Flow" "queue" "[I", Cond.fieldLink RX1 24 "SkinBox$Flow" "cameBy" "[I", Cond.fieldLink RX1 21 "SkinBox$Flow" "cameFrom" "[I", Cond.methodLink RX1 102 yX1_startAt, Cond.instanceMethod yX1_startAt, Cond.selects RX1 yX1_startAt yX1_startAt, Cond.code yX1_startAt cX1_startAt 4 (some .int), Cond.methodLink RX1 61 yX1_pushTo, Cond.instanceMethod yX1_pushTo, Cond.selects RX1 yX1_pushTo yX1_pushTo, Cond.code yX1_pushTo cX1_pushTo 5 none, Cond.methodLink RX1 106 Lib.Math.min.name, Cond.methodLink RX1 64 yX1_seen, Cond.instanceMethod yX1_seen, Cond.selects RX1 yX1_seen yX1_seen]
def wsX3_film_r4 : List Cond := [Cond.code yX1_seen cX1_seen 4 (some .long), Cond.methodLink RX1 68 yX1_searchBack, Cond.instanceMethod yX1_searchBack, Cond.selects RX1 yX1_searchBack yX1_searchBack, Cond.code yX1_searchBack cX1_searchBack 6 none, Cond.methodLink RX1 71 yX0_every, Cond.instanceMethod yX0_every, Cond.selects RX0 yX0_every yX0_every, Cond.code yX0_every cX0_every 1 (some .long), Cond.fieldLink RX0 30 "SkinBox$Cells" "size" "I"]
def wsX3_film : List Cond := .code yX3_film cX3_film 2 (some .long) :: ((wsX3_film_r1 ++ (wsX3_film_r2 ++ (wsX3_film_r3 ++ wsX3_film_r4))) ++ wsX30 ++ wsX10 ++ wsX00)
def wsJ13_bitCount_95d88 : List Cond := .code yJ13_bitCount_95d88 cJ13_bitCount_95d88 2 (some .int) :: ([.constantLong RJ13 314 (6148914691236517205), .constantLong RJ13 316 (3689348814741910323), .constantLong RJ13 318 (1085102592571150095)])
def wsX3_room_r1 : List Cond := [Cond.fieldLink RX3 21 "SkinBox" "flow" "LSkinBox$Flow;", Cond.fieldLink RX3 108 "SkinBox$Flow" "lowest" "J", Cond.fieldLink RX3 111 "SkinBox$Flow" "highest" "J", Cond.methodLink RX3 36 yX3_within, Cond.static yX3_within, Cond.initialized RX3, Cond.code yX3_within cX3_within 3 (some .boolean), Cond.methodLink RX3 101 yX1_settle, Cond.instanceMethod yX1_settle, Cond.selects RX1 yX1_settle yX1_settle, Cond.initialized RX1, Cond.code yX1_settle cX1_settle 4 none, Cond.fieldLink RX1 30 "SkinBox$Flow" "settled" "Z", Cond.fieldLink RX1 34 "SkinBox$Flow" "settledRise" "I", Cond.constant RX1 60 (1000000), Cond.fieldLink RX1 42 "SkinBox$Flow" "lowest" "J", Cond.fieldLink RX1 48 "SkinBox$Flow" "cells" "LSkinBox$Cells;", Cond.constantLong RX1 76 (-1), Cond.fieldLink RX1 45 "SkinBox$Flow" "highest" "J", Cond.methodLink RX1 52 yX1_open, Cond.instanceMethod yX1_open, Cond.selects RX1 yX1_open yX1_open, Cond.code yX1_open cX1_open 4 none, Cond.fieldLink RX1 38 "SkinBox$Flow" "amount" "J"]
def wsX3_room_r2 : List Cond := [Cond.fieldLink RX1 78 "SkinBox$Cells" "size" "I", Cond.fieldLink RX1 18 "SkinBox$Flow" "passes" "[I", Cond.fieldLink RX1 89 "SkinBox$Cells" "beyond" "[I", Cond.fieldLink RX1 92 "SkinBox$Cells" "rules" "[I", Cond.methodLink RX1 81 yX0_ownCost, Cond.instanceMethod yX0_ownCost, Cond.selects RX0 yX0_ownCost yX0_ownCost, Cond.initialized RX0, Cond.code yX0_ownCost cX0_ownCost 4 (some .int), Cond.fieldLink RX0 18 "SkinBox$Cells" "prices" "[I", Cond.fieldLink RX0 27 "SkinBox$Cells" "beyond" "[I", Cond.fieldLink RX0 21 "SkinBox$Cells" "rules" "[I", Cond.methodLink RX1 85 yX1_openCell, Cond.instanceMethod yX1_openCell, Cond.selects RX1 yX1_openCell yX1_openCell, Cond.code yX1_openCell cX1_openCell 3 none, Cond.fieldLink RX1 9 "SkinBox$Flow" "springs" "[I", Cond.fieldLink RX1 15 "SkinBox$Flow" "drains" "[I", Cond.fieldLink RX1 99 "SkinBox$Cells" "held" "[I", Cond.methodLink RX1 95 yX0_seamCost, Cond.instanceMethod yX0_seamCost, Cond.selects RX0 yX0_seamCost yX0_seamCost, Cond.code yX0_seamCost cX0_seamCost 7 (some .int), Cond.fieldLink RX0 24 "SkinBox$Cells" "places" "[I"]
def wsX3_room_r3 : List Cond := [Cond.methodLink RX0 54 Lib.Math.min.name, Cond.static Lib.Math.min.name, Cond.initialized "java/lang/Math", Cond.code Lib.Math.min.name Lib.Math.min.code 2 (some .int), Cond.methodLink RX1 56 yX1_search, Cond.instanceMethod yX1_search, Cond.selects RX1 yX1_search yX1_search, Cond.code yX1_search cX1_search 6 (some .int), Cond.fieldLink RX1 27 "SkinBox$Flow" "queue" "[I", Cond.fieldLink RX1 24 "SkinBox$Flow" "cameBy" "[I", Cond.fieldLink RX1 21 "SkinBox$Flow" "cameFrom" "[I", Cond.methodLink RX1 102 yX1_startAt, Cond.instanceMethod yX1_startAt, Cond.selects RX1 yX1_startAt yX1_startAt, Cond.code yX1_startAt cX1_startAt 4 (some .int), Cond.methodLink RX1 61 yX1_pushTo, Cond.instanceMethod yX1_pushTo, Cond.selects RX1 yX1_pushTo yX1_pushTo, Cond.code yX1_pushTo cX1_pushTo 5 none, Cond.methodLink RX1 106 Lib.Math.min.name, Cond.methodLink RX1 64 yX1_seen, Cond.instanceMethod yX1_seen, Cond.selects RX1 yX1_seen yX1_seen, Cond.code yX1_seen cX1_seen 4 (some .long)]
def wsX3_room_r4 : List Cond := [Cond.methodLink RX1 68 yX1_searchBack, Cond.instanceMethod yX1_searchBack, Cond.selects RX1 yX1_searchBack yX1_searchBack, Cond.code yX1_searchBack cX1_searchBack 6 none, Cond.methodLink RX1 71 yX0_every, Cond.instanceMethod yX0_every, Cond.selects RX0 yX0_every yX0_every, Cond.code yX0_every cX0_every 1 (some .long), Cond.fieldLink RX0 30 "SkinBox$Cells" "size" "I", Cond.methodLink RX3 114 yJ13_bitCount_95d88, Cond.static yJ13_bitCount_95d88, Cond.initialized RJ13, Cond.code yJ13_bitCount_95d88 cJ13_bitCount_95d88 2 (some .int), Cond.constantLong RJ13 314 (6148914691236517205), Cond.constantLong RJ13 316 (3689348814741910323), Cond.constantLong RJ13 318 (1085102592571150095)]
def wsX3_room : List Cond := .code yX3_room cX3_room 3 (some .int) :: ((wsX3_room_r1 ++ (wsX3_room_r2 ++ (wsX3_room_r3 ++ wsX3_room_r4))) ++ wsX30 ++ wsX10 ++ wsX00)
def wsX3_many_r1 : List Cond := [Cond.fieldLink RX3 10 "SkinBox" "cells" "LSkinBox$Cells;", Cond.fieldLink RX3 21 "SkinBox" "flow" "LSkinBox$Flow;", Cond.methodLink RX3 120 yX0_freeCells, Cond.instanceMethod yX0_freeCells, Cond.selects RX0 yX0_freeCells yX0_freeCells, Cond.initialized RX0, Cond.code yX0_freeCells cX0_freeCells 3 (some .int), Cond.fieldLink RX0 30 "SkinBox$Cells" "size" "I", Cond.fieldLink RX0 15 "SkinBox$Cells" "held" "[I", Cond.methodLink RX3 101 yX1_settle, Cond.instanceMethod yX1_settle, Cond.selects RX1 yX1_settle yX1_settle, Cond.initialized RX1, Cond.code yX1_settle cX1_settle 4 none, Cond.fieldLink RX1 30 "SkinBox$Flow" "settled" "Z", Cond.fieldLink RX1 34 "SkinBox$Flow" "settledRise" "I", Cond.constant RX1 60 (1000000), Cond.fieldLink RX1 42 "SkinBox$Flow" "lowest" "J", Cond.fieldLink RX1 48 "SkinBox$Flow" "cells" "LSkinBox$Cells;", Cond.constantLong RX1 76 (-1), Cond.fieldLink RX1 45 "SkinBox$Flow" "highest" "J", Cond.methodLink RX1 52 yX1_open, Cond.instanceMethod yX1_open, Cond.selects RX1 yX1_open yX1_open]
def wsX3_many_r2 : List Cond := [Cond.code yX1_open cX1_open 4 none, Cond.fieldLink RX1 38 "SkinBox$Flow" "amount" "J", Cond.fieldLink RX1 78 "SkinBox$Cells" "size" "I", Cond.fieldLink RX1 18 "SkinBox$Flow" "passes" "[I", Cond.fieldLink RX1 89 "SkinBox$Cells" "beyond" "[I", Cond.fieldLink RX1 92 "SkinBox$Cells" "rules" "[I", Cond.methodLink RX1 81 yX0_ownCost, Cond.instanceMethod yX0_ownCost, Cond.selects RX0 yX0_ownCost yX0_ownCost, Cond.code yX0_ownCost cX0_ownCost 4 (some .int), Cond.fieldLink RX0 18 "SkinBox$Cells" "prices" "[I", Cond.fieldLink RX0 27 "SkinBox$Cells" "beyond" "[I", Cond.fieldLink RX0 21 "SkinBox$Cells" "rules" "[I", Cond.methodLink RX1 85 yX1_openCell, Cond.instanceMethod yX1_openCell, Cond.selects RX1 yX1_openCell yX1_openCell, Cond.code yX1_openCell cX1_openCell 3 none, Cond.fieldLink RX1 9 "SkinBox$Flow" "springs" "[I", Cond.fieldLink RX1 15 "SkinBox$Flow" "drains" "[I", Cond.fieldLink RX1 99 "SkinBox$Cells" "held" "[I", Cond.methodLink RX1 95 yX0_seamCost, Cond.instanceMethod yX0_seamCost, Cond.selects RX0 yX0_seamCost yX0_seamCost, Cond.code yX0_seamCost cX0_seamCost 7 (some .int)]
def wsX3_many_r3 : List Cond := [Cond.fieldLink RX0 24 "SkinBox$Cells" "places" "[I", Cond.methodLink RX0 54 Lib.Math.min.name, Cond.static Lib.Math.min.name, Cond.initialized "java/lang/Math", Cond.code Lib.Math.min.name Lib.Math.min.code 2 (some .int), Cond.methodLink RX1 56 yX1_search, Cond.instanceMethod yX1_search, Cond.selects RX1 yX1_search yX1_search, Cond.code yX1_search cX1_search 6 (some .int), Cond.fieldLink RX1 27 "SkinBox$Flow" "queue" "[I", Cond.fieldLink RX1 24 "SkinBox$Flow" "cameBy" "[I", Cond.fieldLink RX1 21 "SkinBox$Flow" "cameFrom" "[I", Cond.methodLink RX1 102 yX1_startAt, Cond.instanceMethod yX1_startAt, Cond.selects RX1 yX1_startAt yX1_startAt, Cond.code yX1_startAt cX1_startAt 4 (some .int), Cond.methodLink RX1 61 yX1_pushTo, Cond.instanceMethod yX1_pushTo, Cond.selects RX1 yX1_pushTo yX1_pushTo, Cond.code yX1_pushTo cX1_pushTo 5 none, Cond.methodLink RX1 106 Lib.Math.min.name, Cond.methodLink RX1 64 yX1_seen, Cond.instanceMethod yX1_seen, Cond.selects RX1 yX1_seen yX1_seen]
def wsX3_many_r4 : List Cond := [Cond.code yX1_seen cX1_seen 4 (some .long), Cond.methodLink RX1 68 yX1_searchBack, Cond.instanceMethod yX1_searchBack, Cond.selects RX1 yX1_searchBack yX1_searchBack, Cond.code yX1_searchBack cX1_searchBack 6 none, Cond.methodLink RX1 71 yX0_every, Cond.instanceMethod yX0_every, Cond.selects RX0 yX0_every yX0_every, Cond.code yX0_every cX0_every 1 (some .long), Cond.methodLink RX3 124 yX1_leastSets, Cond.instanceMethod yX1_leastSets, Cond.selects RX1 yX1_leastSets yX1_leastSets, Cond.code yX1_leastSets cX1_leastSets 9 (some .int), Cond.methodLink RX1 112 yX1_queueOpen, Cond.instanceMethod yX1_queueOpen, Cond.selects RX1 yX1_queueOpen yX1_queueOpen, Cond.code yX1_queueOpen cX1_queueOpen 3 (some .int), Cond.methodLink RX1 124 yX0_holds, Cond.static yX0_holds, Cond.code yX0_holds cX0_holds 3 (some .boolean), Cond.methodLink RX1 115 yJ6_bitCount_0f7a4, Cond.static yJ6_bitCount_0f7a4, Cond.initialized RJ6, Cond.code yJ6_bitCount_0f7a4 cJ6_bitCount_0f7a4 1 (some .int)]
def wsX3_many_r5 : List Cond := [Cond.constant RJ6 265 (1431655765), Cond.constant RJ6 266 (858993459), Cond.constant RJ6 267 (252645135), Cond.methodLink RX1 120 yX0_seamsGrowth, Cond.instanceMethod yX0_seamsGrowth, Cond.selects RX0 yX0_seamsGrowth yX0_seamsGrowth, Cond.code yX0_seamsGrowth cX0_seamsGrowth 8 (some .int), Cond.methodLink RX0 60 yX0_seamCost, Cond.methodLink RX0 64 yX0_holds]
def wsX3_many : List Cond := .code yX3_many cX3_many 1 (some .int) :: ((wsX3_many_r1 ++ (wsX3_many_r2 ++ (wsX3_many_r3 ++ (wsX3_many_r4 ++ wsX3_many_r5)))) ++ wsX30 ++ wsX00 ++ wsX10)
def wsX3_net_r1 : List Cond := [Cond.fieldLink RX3 28 "SkinBox" "points" "LSkinBox$Points;", Cond.methodLink RX3 36 yX3_within, Cond.static yX3_within, Cond.initialized RX3, Cond.code yX3_within cX3_within 3 (some .boolean), Cond.methodLink RX3 127 yX2_spread, Cond.instanceMethod yX2_spread, Cond.selects RX2 yX2_spread yX2_spread, Cond.initialized RX2, Cond.code yX2_spread cX2_spread 5 none, Cond.fieldLink RX2 22 "SkinBox$Points" "wide" "I", Cond.fieldLink RX2 26 "SkinBox$Points" "high" "I", Cond.fieldLink RX2 9 "SkinBox$Points" "heights" "[I", Cond.fieldLink RX2 15 "SkinBox$Points" "pinned" "[Z", Cond.methodLink RX2 33 yJ7_fill_53178, Cond.static yJ7_fill_53178, Cond.initialized RJ7, Cond.code yJ7_fill_53178 cJ7_fill_53178 4 none, Cond.methodLink RX2 39 yX2_at, Cond.instanceMethod yX2_at, Cond.selects RX2 yX2_at yX2_at, Cond.code yX2_at cX2_at 3 (some .int), Cond.methodLink RX3 131 yX2_pins, Cond.instanceMethod yX2_pins]
def wsX3_net_r2 : List Cond := [Cond.selects RX2 yX2_pins yX2_pins, Cond.code yX2_pins cX2_pins 4 (some .int)]
def wsX3_net : List Cond := .code yX3_net cX3_net 3 (some .int) :: ((wsX3_net_r1 ++ wsX3_net_r2) ++ wsX30 ++ wsX20)
def wsX3_lift : List Cond := .code yX3_lift cX3_lift 6 (some .int) :: ([.fieldLink RX3 28 "SkinBox" "points" "LSkinBox$Points;", .constant RX3 59 (-1000000), .fieldLink RX3 140 "SkinBox$Points" "heights" "[I", .methodLink RX3 134 yX2_has, .instanceMethod yX2_has, .selects RX2 yX2_has yX2_has, .initialized RX2, .code yX2_has cX2_has 3 (some .boolean), .fieldLink RX2 22 "SkinBox$Points" "wide" "I", .fieldLink RX2 26 "SkinBox$Points" "high" "I", .methodLink RX3 36 yX3_within, .static yX3_within, .initialized RX3, .code yX3_within cX3_within 3 (some .boolean), .methodLink RX3 137 yX2_at, .instanceMethod yX2_at, .selects RX2 yX2_at yX2_at, .code yX2_at cX2_at 3 (some .int)] ++ wsX30 ++ wsX20)
def wsX3_pin : List Cond := .code yX3_pin cX3_pin 6 (some .int) :: ([.fieldLink RX3 28 "SkinBox" "points" "LSkinBox$Points;", .fieldLink RX3 143 "SkinBox$Points" "pinned" "[Z", .methodLink RX3 134 yX2_has, .instanceMethod yX2_has, .selects RX2 yX2_has yX2_has, .initialized RX2, .code yX2_has cX2_has 3 (some .boolean), .fieldLink RX2 22 "SkinBox$Points" "wide" "I", .fieldLink RX2 26 "SkinBox$Points" "high" "I", .methodLink RX3 137 yX2_at, .instanceMethod yX2_at, .selects RX2 yX2_at yX2_at, .code yX2_at cX2_at 3 (some .int)] ++ wsX30 ++ wsX20)
def wsX3_height : List Cond := .code yX3_height cX3_height 3 (some .int) :: ([.fieldLink RX3 28 "SkinBox" "points" "LSkinBox$Points;", .fieldLink RX3 140 "SkinBox$Points" "heights" "[I", .constant RX3 59 (-1000000), .methodLink RX3 134 yX2_has, .instanceMethod yX2_has, .selects RX2 yX2_has yX2_has, .initialized RX2, .code yX2_has cX2_has 3 (some .boolean), .fieldLink RX2 22 "SkinBox$Points" "wide" "I", .fieldLink RX2 26 "SkinBox$Points" "high" "I", .methodLink RX3 137 yX2_at, .instanceMethod yX2_at, .selects RX2 yX2_at yX2_at, .code yX2_at cX2_at 3 (some .int)] ++ wsX30 ++ wsX20)
def wsX3_drawn_r1 : List Cond := [Cond.fieldLink RX3 28 "SkinBox" "points" "LSkinBox$Points;", Cond.methodLink RX3 147 yX2_sumOfDifferences, Cond.instanceMethod yX2_sumOfDifferences, Cond.selects RX2 yX2_sumOfDifferences yX2_sumOfDifferences, Cond.initialized RX2, Cond.code yX2_sumOfDifferences cX2_sumOfDifferences 4 (some .int), Cond.fieldLink RX2 26 "SkinBox$Points" "high" "I", Cond.fieldLink RX2 22 "SkinBox$Points" "wide" "I", Cond.methodLink RX2 43 yX2_difference, Cond.instanceMethod yX2_difference, Cond.selects RX2 yX2_difference yX2_difference, Cond.code yX2_difference cX2_difference 5 (some .int), Cond.fieldLink RX2 9 "SkinBox$Points" "heights" "[I", Cond.methodLink RX2 51 Lib.Math.abs.name, Cond.static Lib.Math.abs.name, Cond.initialized "java/lang/Math", Cond.code Lib.Math.abs.name Lib.Math.abs.code 1 (some .int), Cond.methodLink RX2 47 yX2_has, Cond.instanceMethod yX2_has, Cond.selects RX2 yX2_has yX2_has, Cond.code yX2_has cX2_has 3 (some .boolean), Cond.methodLink RX2 39 yX2_at, Cond.instanceMethod yX2_at, Cond.selects RX2 yX2_at yX2_at]
def wsX3_drawn_r2 : List Cond := [Cond.code yX2_at cX2_at 3 (some .int)]
def wsX3_drawn : List Cond := .code yX3_drawn cX3_drawn 1 (some .int) :: ((wsX3_drawn_r1 ++ wsX3_drawn_r2) ++ wsX30 ++ wsX20)
def wsX3_slack_r1 : List Cond := [Cond.fieldLink RX3 28 "SkinBox" "points" "LSkinBox$Points;", Cond.methodLink RX3 150 yX2_sumOfChanges, Cond.instanceMethod yX2_sumOfChanges, Cond.selects RX2 yX2_sumOfChanges yX2_sumOfChanges, Cond.initialized RX2, Cond.code yX2_sumOfChanges cX2_sumOfChanges 4 (some .int), Cond.fieldLink RX2 26 "SkinBox$Points" "high" "I", Cond.fieldLink RX2 22 "SkinBox$Points" "wide" "I", Cond.fieldLink RX2 9 "SkinBox$Points" "heights" "[I", Cond.methodLink RX2 51 Lib.Math.abs.name, Cond.static Lib.Math.abs.name, Cond.initialized "java/lang/Math", Cond.code Lib.Math.abs.name Lib.Math.abs.code 1 (some .int), Cond.methodLink RX2 57 yX2_stepped, Cond.instanceMethod yX2_stepped, Cond.selects RX2 yX2_stepped yX2_stepped, Cond.code yX2_stepped cX2_stepped 7 (some .int), Cond.fieldLink RX2 15 "SkinBox$Points" "pinned" "[Z", Cond.fieldLink RX2 19 "SkinBox$Points" "near" "[I", Cond.methodLink RX2 68 Lib.Math.min.name, Cond.static Lib.Math.min.name, Cond.code Lib.Math.min.name Lib.Math.min.code 2 (some .int), Cond.methodLink RX2 71 Lib.Math.max.name, Cond.static Lib.Math.max.name]
def wsX3_slack_r2 : List Cond := [Cond.code Lib.Math.max.name Lib.Math.max.code 2 (some .int), Cond.methodLink RX2 39 yX2_at, Cond.instanceMethod yX2_at, Cond.selects RX2 yX2_at yX2_at, Cond.code yX2_at cX2_at 3 (some .int), Cond.methodLink RX2 64 yX2_putInOrder, Cond.instanceMethod yX2_putInOrder, Cond.selects RX2 yX2_putInOrder yX2_putInOrder, Cond.code yX2_putInOrder cX2_putInOrder 6 (some .int), Cond.methodLink RX2 47 yX2_has, Cond.instanceMethod yX2_has, Cond.selects RX2 yX2_has yX2_has, Cond.code yX2_has cX2_has 3 (some .boolean)]
def wsX3_slack : List Cond := .code yX3_slack cX3_slack 1 (some .int) :: ((wsX3_slack_r1 ++ wsX3_slack_r2) ++ wsX30 ++ wsX20)
def wsX3_rounds_r1 : List Cond := [Cond.fieldLink RX3 28 "SkinBox" "points" "LSkinBox$Points;", Cond.methodLink RX3 36 yX3_within, Cond.static yX3_within, Cond.initialized RX3, Cond.code yX3_within cX3_within 3 (some .boolean), Cond.methodLink RX3 153 yX2_isAtRest, Cond.instanceMethod yX2_isAtRest, Cond.selects RX2 yX2_isAtRest yX2_isAtRest, Cond.initialized RX2, Cond.code yX2_isAtRest cX2_isAtRest 1 (some .boolean), Cond.methodLink RX2 60 yX2_sumOfChanges, Cond.instanceMethod yX2_sumOfChanges, Cond.selects RX2 yX2_sumOfChanges yX2_sumOfChanges, Cond.code yX2_sumOfChanges cX2_sumOfChanges 4 (some .int), Cond.fieldLink RX2 26 "SkinBox$Points" "high" "I", Cond.fieldLink RX2 22 "SkinBox$Points" "wide" "I", Cond.fieldLink RX2 9 "SkinBox$Points" "heights" "[I", Cond.methodLink RX2 51 Lib.Math.abs.name, Cond.static Lib.Math.abs.name, Cond.initialized "java/lang/Math", Cond.code Lib.Math.abs.name Lib.Math.abs.code 1 (some .int), Cond.methodLink RX2 57 yX2_stepped, Cond.instanceMethod yX2_stepped, Cond.selects RX2 yX2_stepped yX2_stepped]
def wsX3_rounds_r2 : List Cond := [Cond.code yX2_stepped cX2_stepped 7 (some .int), Cond.fieldLink RX2 15 "SkinBox$Points" "pinned" "[Z", Cond.fieldLink RX2 19 "SkinBox$Points" "near" "[I", Cond.methodLink RX2 68 Lib.Math.min.name, Cond.static Lib.Math.min.name, Cond.code Lib.Math.min.name Lib.Math.min.code 2 (some .int), Cond.methodLink RX2 71 Lib.Math.max.name, Cond.static Lib.Math.max.name, Cond.code Lib.Math.max.name Lib.Math.max.code 2 (some .int), Cond.methodLink RX2 39 yX2_at, Cond.instanceMethod yX2_at, Cond.selects RX2 yX2_at yX2_at, Cond.code yX2_at cX2_at 3 (some .int), Cond.methodLink RX2 64 yX2_putInOrder, Cond.instanceMethod yX2_putInOrder, Cond.selects RX2 yX2_putInOrder yX2_putInOrder, Cond.code yX2_putInOrder cX2_putInOrder 6 (some .int), Cond.methodLink RX2 47 yX2_has, Cond.instanceMethod yX2_has, Cond.selects RX2 yX2_has yX2_has, Cond.code yX2_has cX2_has 3 (some .boolean), Cond.methodLink RX3 157 yX2_stepAtEach, Cond.instanceMethod yX2_stepAtEach, Cond.selects RX2 yX2_stepAtEach yX2_stepAtEach]
def wsX3_rounds_r3 : List Cond := [Cond.code yX2_stepAtEach cX2_stepAtEach 3 none]
def wsX3_rounds : List Cond := .code yX3_rounds cX3_rounds 3 (some .int) :: ((wsX3_rounds_r1 ++ (wsX3_rounds_r2 ++ wsX3_rounds_r3)) ++ wsX30 ++ wsX20)
def wsX3_count_r1 : List Cond := [Cond.fieldLink RX3 10 "SkinBox" "cells" "LSkinBox$Cells;", Cond.fieldLink RX3 160 "SkinBox$Cells" "sides" "[I", Cond.fieldLink RX3 28 "SkinBox" "points" "LSkinBox$Points;", Cond.fieldLink RX3 163 "SkinBox$Points" "wide" "I", Cond.fieldLink RX3 166 "SkinBox$Points" "high" "I", Cond.methodLink RX3 120 yX0_freeCells, Cond.instanceMethod yX0_freeCells, Cond.selects RX0 yX0_freeCells yX0_freeCells, Cond.initialized RX0, Cond.code yX0_freeCells cX0_freeCells 3 (some .int), Cond.fieldLink RX0 30 "SkinBox$Cells" "size" "I", Cond.fieldLink RX0 15 "SkinBox$Cells" "held" "[I", Cond.methodLink RX3 131 yX2_pins, Cond.instanceMethod yX2_pins, Cond.selects RX2 yX2_pins yX2_pins, Cond.initialized RX2, Cond.code yX2_pins cX2_pins 4 (some .int), Cond.fieldLink RX2 26 "SkinBox$Points" "high" "I", Cond.fieldLink RX2 22 "SkinBox$Points" "wide" "I", Cond.fieldLink RX2 15 "SkinBox$Points" "pinned" "[Z", Cond.methodLink RX2 39 yX2_at, Cond.instanceMethod yX2_at, Cond.selects RX2 yX2_at yX2_at, Cond.code yX2_at cX2_at 3 (some .int)]
def wsX3_count_r2 : List Cond := [Cond.methodLink RX3 153 yX2_isAtRest, Cond.instanceMethod yX2_isAtRest, Cond.selects RX2 yX2_isAtRest yX2_isAtRest, Cond.code yX2_isAtRest cX2_isAtRest 1 (some .boolean), Cond.methodLink RX2 60 yX2_sumOfChanges, Cond.instanceMethod yX2_sumOfChanges, Cond.selects RX2 yX2_sumOfChanges yX2_sumOfChanges, Cond.code yX2_sumOfChanges cX2_sumOfChanges 4 (some .int), Cond.fieldLink RX2 9 "SkinBox$Points" "heights" "[I", Cond.methodLink RX2 51 Lib.Math.abs.name, Cond.static Lib.Math.abs.name, Cond.initialized "java/lang/Math", Cond.code Lib.Math.abs.name Lib.Math.abs.code 1 (some .int), Cond.methodLink RX2 57 yX2_stepped, Cond.instanceMethod yX2_stepped, Cond.selects RX2 yX2_stepped yX2_stepped, Cond.code yX2_stepped cX2_stepped 7 (some .int), Cond.fieldLink RX2 19 "SkinBox$Points" "near" "[I", Cond.methodLink RX2 68 Lib.Math.min.name, Cond.static Lib.Math.min.name, Cond.code Lib.Math.min.name Lib.Math.min.code 2 (some .int), Cond.methodLink RX2 71 Lib.Math.max.name, Cond.static Lib.Math.max.name, Cond.code Lib.Math.max.name Lib.Math.max.code 2 (some .int)]
def wsX3_count_r3 : List Cond := [Cond.methodLink RX2 64 yX2_putInOrder, Cond.instanceMethod yX2_putInOrder, Cond.selects RX2 yX2_putInOrder yX2_putInOrder, Cond.code yX2_putInOrder cX2_putInOrder 6 (some .int), Cond.methodLink RX2 47 yX2_has, Cond.instanceMethod yX2_has, Cond.selects RX2 yX2_has yX2_has, Cond.code yX2_has cX2_has 3 (some .boolean)]
def wsX3_count : List Cond := .code yX3_count cX3_count 2 (some .int) :: ((wsX3_count_r1 ++ (wsX3_count_r2 ++ wsX3_count_r3)) ++ wsX30 ++ wsX00 ++ wsX20)
def wsX3_trace : List Cond := .code yX3_trace cX3_trace 1 (some .long) :: ([.fieldLink RX3 32 "SkinBox" "asked" "J"] ++ wsX30)
def wsX4_pins : List Cond := .code yX4_pins cX4_pins 4 none :: ([.fieldLink RX4 54 "SkinBoxModel" "height" "[I", .fieldLink RX4 57 "SkinBoxModel" "isPinned" "[Z", .fieldLink RX4 47 "SkinBoxModel" "w" "I", .fieldLink RX4 51 "SkinBoxModel" "h" "I"] ++ wsX40)
def wsX4_init_r1 : List Cond := [Cond.methodLink RX4 1 objectInit, Cond.instanceMethod objectInit, Cond.code objectInit ⟨#[0xb1]⟩ 1 none, Cond.arrayClass .int, Cond.fieldLink RX4 7 "SkinBoxModel" "sides" "[I", Cond.fieldLink RX4 13 "SkinBoxModel" "held" "[I", Cond.fieldLink RX4 16 "SkinBoxModel" "price" "[I", Cond.fieldLink RX4 19 "SkinBoxModel" "rules" "[I", Cond.fieldLink RX4 22 "SkinBoxModel" "ways" "[I", Cond.fieldLink RX4 25 "SkinBoxModel" "place" "[I", Cond.arrayClass .long, Cond.fieldLink RX4 28 "SkinBoxModel" "value" "[J", Cond.fieldLink RX4 32 "SkinBoxModel" "sets" "[J", Cond.fieldLink RX4 35 "SkinBoxModel" "times" "[J", Cond.fieldLink RX4 38 "SkinBoxModel" "nextValue" "[J", Cond.fieldLink RX4 41 "SkinBoxModel" "nextSets" "[J", Cond.fieldLink RX4 44 "SkinBoxModel" "nextTimes" "[J", Cond.fieldLink RX4 47 "SkinBoxModel" "w" "I", Cond.fieldLink RX4 51 "SkinBoxModel" "h" "I", Cond.fieldLink RX4 54 "SkinBoxModel" "height" "[I", Cond.arrayClass .boolean, Cond.fieldLink RX4 57 "SkinBoxModel" "isPinned" "[Z", Cond.fieldLink RX4 61 "SkinBoxModel" "beside" "[I", Cond.methodLink RX4 64 yX4_pins]
def wsX4_init_r2 : List Cond := [Cond.instanceMethod yX4_pins, Cond.selects RX4 yX4_pins yX4_pins, Cond.initialized RX4, Cond.code yX4_pins cX4_pins 4 none]
def wsX4_init : List Cond := .code yX4_init cX4_init 1 none :: ((wsX4_init_r1 ++ wsX4_init_r2) ++ wsX40)
def wsX4_in : List Cond := .code yX4_in cX4_in 6 (some .boolean) :: ([])
def wsX4_cells : List Cond := .code yX4_cells cX4_cells 1 (some .int) :: ([.fieldLink RX4 7 "SkinBoxModel" "sides" "[I"] ++ wsX40)
def wsX4_isCell : List Cond := .code yX4_isCell cX4_isCell 2 (some .boolean) :: ([.methodLink RX4 70 yX4_cells, .instanceMethod yX4_cells, .selects RX4 yX4_cells yX4_cells, .initialized RX4, .code yX4_cells cX4_cells 1 (some .int), .fieldLink RX4 7 "SkinBoxModel" "sides" "[I", .methodLink RX4 74 yX4_in, .static yX4_in, .code yX4_in cX4_in 6 (some .boolean)] ++ wsX40)
def wsX4_placeOf : List Cond := .code yX4_placeOf cX4_placeOf 3 (some .int) :: ([.fieldLink RX4 7 "SkinBoxModel" "sides" "[I"] ++ wsX40)
def wsX4_stride : List Cond := .code yX4_stride cX4_stride 2 (some .int) :: ([.fieldLink RX4 7 "SkinBoxModel" "sides" "[I"] ++ wsX40)
def wsX4_box : List Cond := .code yX4_box cX4_box 5 (some .int) :: ([.fieldLink RX4 67 "SkinBoxModel" "thrown" "I", .constantLong RX4 78 (4), .fieldLink RX4 7 "SkinBoxModel" "sides" "[I", .fieldLink RX4 13 "SkinBoxModel" "held" "[I", .fieldLink RX4 16 "SkinBoxModel" "price" "[I", .methodLink RX4 74 yX4_in, .static yX4_in, .initialized RX4, .code yX4_in cX4_in 6 (some .boolean), .methodLink RX4 70 yX4_cells, .instanceMethod yX4_cells, .selects RX4 yX4_cells yX4_cells, .code yX4_cells cX4_cells 1 (some .int)] ++ wsX40)
def wsX4_hold : List Cond := .code yX4_hold cX4_hold 4 (some .int) :: ([.fieldLink RX4 67 "SkinBoxModel" "thrown" "I", .constantLong RX4 84 (2), .fieldLink RX4 13 "SkinBoxModel" "held" "[I", .methodLink RX4 80 yX4_isCell, .instanceMethod yX4_isCell, .selects RX4 yX4_isCell yX4_isCell, .initialized RX4, .code yX4_isCell cX4_isCell 2 (some .boolean), .methodLink RX4 70 yX4_cells, .instanceMethod yX4_cells, .selects RX4 yX4_cells yX4_cells, .code yX4_cells cX4_cells 1 (some .int), .fieldLink RX4 7 "SkinBoxModel" "sides" "[I", .methodLink RX4 74 yX4_in, .static yX4_in, .code yX4_in cX4_in 6 (some .boolean)] ++ wsX40)
def wsX4_price : List Cond := .code yX4_price cX4_price 4 (some .int) :: ([.fieldLink RX4 67 "SkinBoxModel" "thrown" "I", .constantLong RX4 86 (-20), .constantLong RX4 88 (20), .constant RX4 90 (-1000000), .fieldLink RX4 16 "SkinBoxModel" "price" "[I", .methodLink RX4 80 yX4_isCell, .instanceMethod yX4_isCell, .selects RX4 yX4_isCell yX4_isCell, .initialized RX4, .code yX4_isCell cX4_isCell 2 (some .boolean), .methodLink RX4 70 yX4_cells, .instanceMethod yX4_cells, .selects RX4 yX4_cells yX4_cells, .code yX4_cells cX4_cells 1 (some .int), .fieldLink RX4 7 "SkinBoxModel" "sides" "[I", .methodLink RX4 74 yX4_in, .static yX4_in, .code yX4_in cX4_in 6 (some .boolean)] ++ wsX40)
def wsX4_set : List Cond := .code yX4_set cX4_set 4 (some .int) :: ([.fieldLink RX4 67 "SkinBoxModel" "thrown" "I", .constantLong RX4 91 (6), .constantLong RX4 84 (2), .constantLong RX4 93 (9), .fieldLink RX4 19 "SkinBoxModel" "rules" "[I", .methodLink RX4 74 yX4_in, .static yX4_in, .initialized RX4, .code yX4_in cX4_in 6 (some .boolean)] ++ wsX40)
def wsX4_faceCost : List Cond := .code yX4_faceCost cX4_faceCost 5 (some .int) :: ([.fieldLink RX4 19 "SkinBoxModel" "rules" "[I"] ++ wsX40)
def wsX4_cost_r1 : List Cond := [Cond.fieldLink RX4 67 "SkinBoxModel" "thrown" "I", Cond.constantLong RX4 84 (2), Cond.fieldLink RX4 103 "SkinBoxModel" "trace" "J", Cond.constantLong RX4 107 (11), Cond.constantLong RX4 109 (111), Cond.methodLink RX4 74 yX4_in, Cond.static yX4_in, Cond.initialized RX4, Cond.code yX4_in cX4_in 6 (some .boolean), Cond.methodLink RX4 80 yX4_isCell, Cond.instanceMethod yX4_isCell, Cond.selects RX4 yX4_isCell yX4_isCell, Cond.code yX4_isCell cX4_isCell 2 (some .boolean), Cond.methodLink RX4 70 yX4_cells, Cond.instanceMethod yX4_cells, Cond.selects RX4 yX4_cells yX4_cells, Cond.code yX4_cells cX4_cells 1 (some .int), Cond.fieldLink RX4 7 "SkinBoxModel" "sides" "[I", Cond.methodLink RX4 95 yX4_stride, Cond.instanceMethod yX4_stride, Cond.selects RX4 yX4_stride yX4_stride, Cond.code yX4_stride cX4_stride 2 (some .int), Cond.methodLink RX4 99 yX4_placeOf, Cond.instanceMethod yX4_placeOf]
def wsX4_cost_r2 : List Cond := [Cond.selects RX4 yX4_placeOf yX4_placeOf, Cond.code yX4_placeOf cX4_placeOf 3 (some .int), Cond.methodLink RX4 111 yX4_faceCost, Cond.instanceMethod yX4_faceCost, Cond.selects RX4 yX4_faceCost yX4_faceCost, Cond.code yX4_faceCost cX4_faceCost 5 (some .int), Cond.fieldLink RX4 19 "SkinBoxModel" "rules" "[I"]
def wsX4_cost : List Cond := .code yX4_cost cX4_cost 7 (some .int) :: ((wsX4_cost_r1 ++ wsX4_cost_r2) ++ wsX40)
def wsX4_isSet : List Cond := .code yX4_isSet cX4_isSet 3 (some .boolean) :: ([.methodLink RX4 70 yX4_cells, .instanceMethod yX4_cells, .selects RX4 yX4_cells yX4_cells, .initialized RX4, .code yX4_cells cX4_cells 1 (some .int), .fieldLink RX4 7 "SkinBoxModel" "sides" "[I"] ++ wsX40)
def wsX4_outsides : List Cond := .code yX4_outsides cX4_outsides 4 (some .int) :: ([.fieldLink RX4 7 "SkinBoxModel" "sides" "[I", .methodLink RX4 99 yX4_placeOf, .instanceMethod yX4_placeOf, .selects RX4 yX4_placeOf yX4_placeOf, .initialized RX4, .code yX4_placeOf cX4_placeOf 3 (some .int)] ++ wsX40)
def wsX4_skinOf : List Cond := .code yX4_skinOf cX4_skinOf 9 (some .long) :: ([.fieldLink RX4 19 "SkinBoxModel" "rules" "[I", .fieldLink RX4 7 "SkinBoxModel" "sides" "[I", .methodLink RX4 70 yX4_cells, .instanceMethod yX4_cells, .selects RX4 yX4_cells yX4_cells, .initialized RX4, .code yX4_cells cX4_cells 1 (some .int), .methodLink RX4 115 yX4_outsides, .instanceMethod yX4_outsides, .selects RX4 yX4_outsides yX4_outsides, .code yX4_outsides cX4_outsides 4 (some .int), .methodLink RX4 99 yX4_placeOf, .instanceMethod yX4_placeOf, .selects RX4 yX4_placeOf yX4_placeOf, .code yX4_placeOf cX4_placeOf 3 (some .int), .methodLink RX4 95 yX4_stride, .instanceMethod yX4_stride, .selects RX4 yX4_stride yX4_stride, .code yX4_stride cX4_stride 2 (some .int), .methodLink RX4 111 yX4_faceCost, .instanceMethod yX4_faceCost, .selects RX4 yX4_faceCost yX4_faceCost, .code yX4_faceCost cX4_faceCost 5 (some .int)] ++ wsX40)
def wsX4_skin_r1 : List Cond := [Cond.fieldLink RX4 67 "SkinBoxModel" "thrown" "I", Cond.constantLong RX4 126 (-1), Cond.methodLink RX4 118 yX4_isSet, Cond.instanceMethod yX4_isSet, Cond.selects RX4 yX4_isSet yX4_isSet, Cond.initialized RX4, Cond.code yX4_isSet cX4_isSet 3 (some .boolean), Cond.methodLink RX4 70 yX4_cells, Cond.instanceMethod yX4_cells, Cond.selects RX4 yX4_cells yX4_cells, Cond.code yX4_cells cX4_cells 1 (some .int), Cond.fieldLink RX4 7 "SkinBoxModel" "sides" "[I", Cond.methodLink RX4 122 yX4_skinOf, Cond.instanceMethod yX4_skinOf, Cond.selects RX4 yX4_skinOf yX4_skinOf, Cond.code yX4_skinOf cX4_skinOf 9 (some .long), Cond.fieldLink RX4 19 "SkinBoxModel" "rules" "[I", Cond.methodLink RX4 115 yX4_outsides, Cond.instanceMethod yX4_outsides, Cond.selects RX4 yX4_outsides yX4_outsides, Cond.code yX4_outsides cX4_outsides 4 (some .int), Cond.methodLink RX4 99 yX4_placeOf, Cond.instanceMethod yX4_placeOf, Cond.selects RX4 yX4_placeOf yX4_placeOf]
def wsX4_skin_r2 : List Cond := [Cond.code yX4_placeOf cX4_placeOf 3 (some .int), Cond.methodLink RX4 95 yX4_stride, Cond.instanceMethod yX4_stride, Cond.selects RX4 yX4_stride yX4_stride, Cond.code yX4_stride cX4_stride 2 (some .int), Cond.methodLink RX4 111 yX4_faceCost, Cond.instanceMethod yX4_faceCost, Cond.selects RX4 yX4_faceCost yX4_faceCost, Cond.code yX4_faceCost cX4_faceCost 5 (some .int)]
def wsX4_skin : List Cond := .code yX4_skin cX4_skin 3 (some .long) :: ((wsX4_skin_r1 ++ wsX4_skin_r2) ++ wsX40)
def wsX4_all_r1 : List Cond := [Cond.fieldLink RX4 67 "SkinBoxModel" "thrown" "I", Cond.constantLong RX4 128 (-1000000), Cond.fieldLink RX4 16 "SkinBoxModel" "price" "[I", Cond.methodLink RX4 118 yX4_isSet, Cond.instanceMethod yX4_isSet, Cond.selects RX4 yX4_isSet yX4_isSet, Cond.initialized RX4, Cond.code yX4_isSet cX4_isSet 3 (some .boolean), Cond.methodLink RX4 70 yX4_cells, Cond.instanceMethod yX4_cells, Cond.selects RX4 yX4_cells yX4_cells, Cond.code yX4_cells cX4_cells 1 (some .int), Cond.fieldLink RX4 7 "SkinBoxModel" "sides" "[I", Cond.methodLink RX4 122 yX4_skinOf, Cond.instanceMethod yX4_skinOf, Cond.selects RX4 yX4_skinOf yX4_skinOf, Cond.code yX4_skinOf cX4_skinOf 9 (some .long), Cond.fieldLink RX4 19 "SkinBoxModel" "rules" "[I", Cond.methodLink RX4 115 yX4_outsides, Cond.instanceMethod yX4_outsides, Cond.selects RX4 yX4_outsides yX4_outsides, Cond.code yX4_outsides cX4_outsides 4 (some .int), Cond.methodLink RX4 99 yX4_placeOf, Cond.instanceMethod yX4_placeOf]
def wsX4_all_r2 : List Cond := [Cond.selects RX4 yX4_placeOf yX4_placeOf, Cond.code yX4_placeOf cX4_placeOf 3 (some .int), Cond.methodLink RX4 95 yX4_stride, Cond.instanceMethod yX4_stride, Cond.selects RX4 yX4_stride yX4_stride, Cond.code yX4_stride cX4_stride 2 (some .int), Cond.methodLink RX4 111 yX4_faceCost, Cond.instanceMethod yX4_faceCost, Cond.selects RX4 yX4_faceCost yX4_faceCost, Cond.code yX4_faceCost cX4_faceCost 5 (some .int)]
def wsX4_all : List Cond := .code yX4_all cX4_all 6 (some .long) :: ((wsX4_all_r1 ++ wsX4_all_r2) ++ wsX40)
def wsX4_right : List Cond := .code yX4_right cX4_right 5 (some .int) :: ([.fieldLink RX4 67 "SkinBoxModel" "thrown" "I", .fieldLink RX4 13 "SkinBoxModel" "held" "[I", .methodLink RX4 118 yX4_isSet, .instanceMethod yX4_isSet, .selects RX4 yX4_isSet yX4_isSet, .initialized RX4, .code yX4_isSet cX4_isSet 3 (some .boolean), .methodLink RX4 70 yX4_cells, .instanceMethod yX4_cells, .selects RX4 yX4_cells yX4_cells, .code yX4_cells cX4_cells 1 (some .int), .fieldLink RX4 7 "SkinBoxModel" "sides" "[I"] ++ wsX40)
def wsX4_orders : List Cond := .code yX4_orders cX4_orders 3 none :: ([.fieldLink RX4 7 "SkinBoxModel" "sides" "[I", .fieldLink RX4 22 "SkinBoxModel" "ways" "[I"] ++ wsX40)
def wsX4_cellAt : List Cond := .code yX4_cellAt cX4_cellAt 4 (some .int) :: ([.fieldLink RX4 7 "SkinBoxModel" "sides" "[I", .fieldLink RX4 22 "SkinBoxModel" "ways" "[I", .fieldLink RX4 25 "SkinBoxModel" "place" "[I", .methodLink RX4 95 yX4_stride, .instanceMethod yX4_stride, .selects RX4 yX4_stride yX4_stride, .initialized RX4, .code yX4_stride cX4_stride 2 (some .int)] ++ wsX40)
def wsX4_adds : List Cond := .code yX4_adds cX4_adds 8 (some .int) :: ([.fieldLink RX4 16 "SkinBoxModel" "price" "[I", .fieldLink RX4 19 "SkinBoxModel" "rules" "[I", .fieldLink RX4 25 "SkinBoxModel" "place" "[I", .fieldLink RX4 22 "SkinBoxModel" "ways" "[I", .fieldLink RX4 7 "SkinBoxModel" "sides" "[I", .methodLink RX4 115 yX4_outsides, .instanceMethod yX4_outsides, .selects RX4 yX4_outsides yX4_outsides, .initialized RX4, .code yX4_outsides cX4_outsides 4 (some .int), .methodLink RX4 99 yX4_placeOf, .instanceMethod yX4_placeOf, .selects RX4 yX4_placeOf yX4_placeOf, .code yX4_placeOf cX4_placeOf 3 (some .int), .methodLink RX4 111 yX4_faceCost, .instanceMethod yX4_faceCost, .selects RX4 yX4_faceCost yX4_faceCost, .code yX4_faceCost cX4_faceCost 5 (some .int)] ++ wsX40)
def wsX4_finds_r1 : List Cond := [Cond.fieldLink RX4 7 "SkinBoxModel" "sides" "[I", Cond.fieldLink RX4 22 "SkinBoxModel" "ways" "[I", Cond.fieldLink RX4 28 "SkinBoxModel" "value" "[J", Cond.constantLong RX4 133 (4000000000000000), Cond.fieldLink RX4 32 "SkinBoxModel" "sets" "[J", Cond.fieldLink RX4 35 "SkinBoxModel" "times" "[J", Cond.fieldLink RX4 38 "SkinBoxModel" "nextValue" "[J", Cond.fieldLink RX4 44 "SkinBoxModel" "nextTimes" "[J", Cond.fieldLink RX4 13 "SkinBoxModel" "held" "[I", Cond.constantLong RX4 138 (64), Cond.fieldLink RX4 41 "SkinBoxModel" "nextSets" "[J", Cond.fieldLink RX4 144 "SkinBoxModel" "found" "J", Cond.fieldLink RX4 147 "SkinBoxModel" "foundTimes" "J", Cond.fieldLink RX4 150 "SkinBoxModel" "foundSet" "J", Cond.methodLink RX4 130 yX4_orders, Cond.instanceMethod yX4_orders, Cond.selects RX4 yX4_orders yX4_orders, Cond.initialized RX4, Cond.code yX4_orders cX4_orders 3 none, Cond.methodLink RX4 70 yX4_cells, Cond.instanceMethod yX4_cells, Cond.selects RX4 yX4_cells yX4_cells, Cond.code yX4_cells cX4_cells 1 (some .int), Cond.methodLink RX4 135 yX4_cellAt]
def wsX4_finds_r2 : List Cond := [Cond.instanceMethod yX4_cellAt, Cond.selects RX4 yX4_cellAt yX4_cellAt, Cond.code yX4_cellAt cX4_cellAt 4 (some .int), Cond.fieldLink RX4 25 "SkinBoxModel" "place" "[I", Cond.methodLink RX4 95 yX4_stride, Cond.instanceMethod yX4_stride, Cond.selects RX4 yX4_stride yX4_stride, Cond.code yX4_stride cX4_stride 2 (some .int), Cond.methodLink RX4 140 yX4_adds, Cond.instanceMethod yX4_adds, Cond.selects RX4 yX4_adds yX4_adds, Cond.code yX4_adds cX4_adds 8 (some .int), Cond.fieldLink RX4 16 "SkinBoxModel" "price" "[I", Cond.fieldLink RX4 19 "SkinBoxModel" "rules" "[I", Cond.methodLink RX4 115 yX4_outsides, Cond.instanceMethod yX4_outsides, Cond.selects RX4 yX4_outsides yX4_outsides, Cond.code yX4_outsides cX4_outsides 4 (some .int), Cond.methodLink RX4 99 yX4_placeOf, Cond.instanceMethod yX4_placeOf, Cond.selects RX4 yX4_placeOf yX4_placeOf, Cond.code yX4_placeOf cX4_placeOf 3 (some .int), Cond.methodLink RX4 111 yX4_faceCost, Cond.instanceMethod yX4_faceCost]
def wsX4_finds_r3 : List Cond := [Cond.selects RX4 yX4_faceCost yX4_faceCost, Cond.code yX4_faceCost cX4_faceCost 5 (some .int)]
def wsX4_finds : List Cond := .code yX4_finds cX4_finds 12 none :: ((wsX4_finds_r1 ++ (wsX4_finds_r2 ++ wsX4_finds_r3)) ++ wsX40)
def wsX4_least_r1 : List Cond := [Cond.fieldLink RX4 67 "SkinBoxModel" "thrown" "I", Cond.fieldLink RX4 144 "SkinBoxModel" "found" "J", Cond.constantLong RX4 138 (64), Cond.methodLink RX4 153 yX4_finds, Cond.instanceMethod yX4_finds, Cond.selects RX4 yX4_finds yX4_finds, Cond.initialized RX4, Cond.code yX4_finds cX4_finds 12 none, Cond.fieldLink RX4 7 "SkinBoxModel" "sides" "[I", Cond.fieldLink RX4 22 "SkinBoxModel" "ways" "[I", Cond.fieldLink RX4 28 "SkinBoxModel" "value" "[J", Cond.constantLong RX4 133 (4000000000000000), Cond.fieldLink RX4 32 "SkinBoxModel" "sets" "[J", Cond.fieldLink RX4 35 "SkinBoxModel" "times" "[J", Cond.fieldLink RX4 38 "SkinBoxModel" "nextValue" "[J", Cond.fieldLink RX4 44 "SkinBoxModel" "nextTimes" "[J", Cond.fieldLink RX4 13 "SkinBoxModel" "held" "[I", Cond.fieldLink RX4 41 "SkinBoxModel" "nextSets" "[J", Cond.fieldLink RX4 147 "SkinBoxModel" "foundTimes" "J", Cond.fieldLink RX4 150 "SkinBoxModel" "foundSet" "J", Cond.methodLink RX4 130 yX4_orders, Cond.instanceMethod yX4_orders, Cond.selects RX4 yX4_orders yX4_orders, Cond.code yX4_orders cX4_orders 3 none]
def wsX4_least_r2 : List Cond := [Cond.methodLink RX4 70 yX4_cells, Cond.instanceMethod yX4_cells, Cond.selects RX4 yX4_cells yX4_cells, Cond.code yX4_cells cX4_cells 1 (some .int), Cond.methodLink RX4 135 yX4_cellAt, Cond.instanceMethod yX4_cellAt, Cond.selects RX4 yX4_cellAt yX4_cellAt, Cond.code yX4_cellAt cX4_cellAt 4 (some .int), Cond.fieldLink RX4 25 "SkinBoxModel" "place" "[I", Cond.methodLink RX4 95 yX4_stride, Cond.instanceMethod yX4_stride, Cond.selects RX4 yX4_stride yX4_stride, Cond.code yX4_stride cX4_stride 2 (some .int), Cond.methodLink RX4 140 yX4_adds, Cond.instanceMethod yX4_adds, Cond.selects RX4 yX4_adds yX4_adds, Cond.code yX4_adds cX4_adds 8 (some .int), Cond.fieldLink RX4 16 "SkinBoxModel" "price" "[I", Cond.fieldLink RX4 19 "SkinBoxModel" "rules" "[I", Cond.methodLink RX4 115 yX4_outsides, Cond.instanceMethod yX4_outsides, Cond.selects RX4 yX4_outsides yX4_outsides, Cond.code yX4_outsides cX4_outsides 4 (some .int), Cond.methodLink RX4 99 yX4_placeOf]
def wsX4_least_r3 : List Cond := [Cond.instanceMethod yX4_placeOf, Cond.selects RX4 yX4_placeOf yX4_placeOf, Cond.code yX4_placeOf cX4_placeOf 3 (some .int), Cond.methodLink RX4 111 yX4_faceCost, Cond.instanceMethod yX4_faceCost, Cond.selects RX4 yX4_faceCost yX4_faceCost, Cond.code yX4_faceCost cX4_faceCost 5 (some .int)]
def wsX4_least : List Cond := .code yX4_least cX4_least 1 (some .long) :: ((wsX4_least_r1 ++ (wsX4_least_r2 ++ wsX4_least_r3)) ++ wsX40)
def wsX4_film_r1 : List Cond := [Cond.fieldLink RX4 67 "SkinBoxModel" "thrown" "I", Cond.constantLong RX4 126 (-1), Cond.fieldLink RX4 150 "SkinBoxModel" "foundSet" "J", Cond.methodLink RX4 74 yX4_in, Cond.static yX4_in, Cond.initialized RX4, Cond.code yX4_in cX4_in 6 (some .boolean), Cond.methodLink RX4 153 yX4_finds, Cond.instanceMethod yX4_finds, Cond.selects RX4 yX4_finds yX4_finds, Cond.code yX4_finds cX4_finds 12 none, Cond.fieldLink RX4 7 "SkinBoxModel" "sides" "[I", Cond.fieldLink RX4 22 "SkinBoxModel" "ways" "[I", Cond.fieldLink RX4 28 "SkinBoxModel" "value" "[J", Cond.constantLong RX4 133 (4000000000000000), Cond.fieldLink RX4 32 "SkinBoxModel" "sets" "[J", Cond.fieldLink RX4 35 "SkinBoxModel" "times" "[J", Cond.fieldLink RX4 38 "SkinBoxModel" "nextValue" "[J", Cond.fieldLink RX4 44 "SkinBoxModel" "nextTimes" "[J", Cond.fieldLink RX4 13 "SkinBoxModel" "held" "[I", Cond.constantLong RX4 138 (64), Cond.fieldLink RX4 41 "SkinBoxModel" "nextSets" "[J", Cond.fieldLink RX4 144 "SkinBoxModel" "found" "J", Cond.fieldLink RX4 147 "SkinBoxModel" "foundTimes" "J"]
def wsX4_film_r2 : List Cond := [Cond.methodLink RX4 130 yX4_orders, Cond.instanceMethod yX4_orders, Cond.selects RX4 yX4_orders yX4_orders, Cond.code yX4_orders cX4_orders 3 none, Cond.methodLink RX4 70 yX4_cells, Cond.instanceMethod yX4_cells, Cond.selects RX4 yX4_cells yX4_cells, Cond.code yX4_cells cX4_cells 1 (some .int), Cond.methodLink RX4 135 yX4_cellAt, Cond.instanceMethod yX4_cellAt, Cond.selects RX4 yX4_cellAt yX4_cellAt, Cond.code yX4_cellAt cX4_cellAt 4 (some .int), Cond.fieldLink RX4 25 "SkinBoxModel" "place" "[I", Cond.methodLink RX4 95 yX4_stride, Cond.instanceMethod yX4_stride, Cond.selects RX4 yX4_stride yX4_stride, Cond.code yX4_stride cX4_stride 2 (some .int), Cond.methodLink RX4 140 yX4_adds, Cond.instanceMethod yX4_adds, Cond.selects RX4 yX4_adds yX4_adds, Cond.code yX4_adds cX4_adds 8 (some .int), Cond.fieldLink RX4 16 "SkinBoxModel" "price" "[I", Cond.fieldLink RX4 19 "SkinBoxModel" "rules" "[I", Cond.methodLink RX4 115 yX4_outsides]
def wsX4_film_r3 : List Cond := [Cond.instanceMethod yX4_outsides, Cond.selects RX4 yX4_outsides yX4_outsides, Cond.code yX4_outsides cX4_outsides 4 (some .int), Cond.methodLink RX4 99 yX4_placeOf, Cond.instanceMethod yX4_placeOf, Cond.selects RX4 yX4_placeOf yX4_placeOf, Cond.code yX4_placeOf cX4_placeOf 3 (some .int), Cond.methodLink RX4 111 yX4_faceCost, Cond.instanceMethod yX4_faceCost, Cond.selects RX4 yX4_faceCost yX4_faceCost, Cond.code yX4_faceCost cX4_faceCost 5 (some .int)]
def wsX4_film : List Cond := .code yX4_film cX4_film 2 (some .long) :: ((wsX4_film_r1 ++ (wsX4_film_r2 ++ wsX4_film_r3)) ++ wsX40)
def wsX4_room_r1 : List Cond := [Cond.fieldLink RX4 67 "SkinBoxModel" "thrown" "I", Cond.constantLong RX4 157 (-60), Cond.constantLong RX4 159 (60), Cond.fieldLink RX4 150 "SkinBoxModel" "foundSet" "J", Cond.methodLink RX4 74 yX4_in, Cond.static yX4_in, Cond.initialized RX4, Cond.code yX4_in cX4_in 6 (some .boolean), Cond.methodLink RX4 153 yX4_finds, Cond.instanceMethod yX4_finds, Cond.selects RX4 yX4_finds yX4_finds, Cond.code yX4_finds cX4_finds 12 none, Cond.fieldLink RX4 7 "SkinBoxModel" "sides" "[I", Cond.fieldLink RX4 22 "SkinBoxModel" "ways" "[I", Cond.fieldLink RX4 28 "SkinBoxModel" "value" "[J", Cond.constantLong RX4 133 (4000000000000000), Cond.fieldLink RX4 32 "SkinBoxModel" "sets" "[J", Cond.fieldLink RX4 35 "SkinBoxModel" "times" "[J", Cond.fieldLink RX4 38 "SkinBoxModel" "nextValue" "[J", Cond.fieldLink RX4 44 "SkinBoxModel" "nextTimes" "[J", Cond.fieldLink RX4 13 "SkinBoxModel" "held" "[I", Cond.constantLong RX4 138 (64), Cond.fieldLink RX4 41 "SkinBoxModel" "nextSets" "[J", Cond.fieldLink RX4 144 "SkinBoxModel" "found" "J"]
def wsX4_room_r2 : List Cond := [Cond.fieldLink RX4 147 "SkinBoxModel" "foundTimes" "J", Cond.methodLink RX4 130 yX4_orders, Cond.instanceMethod yX4_orders, Cond.selects RX4 yX4_orders yX4_orders, Cond.code yX4_orders cX4_orders 3 none, Cond.methodLink RX4 70 yX4_cells, Cond.instanceMethod yX4_cells, Cond.selects RX4 yX4_cells yX4_cells, Cond.code yX4_cells cX4_cells 1 (some .int), Cond.methodLink RX4 135 yX4_cellAt, Cond.instanceMethod yX4_cellAt, Cond.selects RX4 yX4_cellAt yX4_cellAt, Cond.code yX4_cellAt cX4_cellAt 4 (some .int), Cond.fieldLink RX4 25 "SkinBoxModel" "place" "[I", Cond.methodLink RX4 95 yX4_stride, Cond.instanceMethod yX4_stride, Cond.selects RX4 yX4_stride yX4_stride, Cond.code yX4_stride cX4_stride 2 (some .int), Cond.methodLink RX4 140 yX4_adds, Cond.instanceMethod yX4_adds, Cond.selects RX4 yX4_adds yX4_adds, Cond.code yX4_adds cX4_adds 8 (some .int), Cond.fieldLink RX4 16 "SkinBoxModel" "price" "[I", Cond.fieldLink RX4 19 "SkinBoxModel" "rules" "[I"]
def wsX4_room_r3 : List Cond := [Cond.methodLink RX4 115 yX4_outsides, Cond.instanceMethod yX4_outsides, Cond.selects RX4 yX4_outsides yX4_outsides, Cond.code yX4_outsides cX4_outsides 4 (some .int), Cond.methodLink RX4 99 yX4_placeOf, Cond.instanceMethod yX4_placeOf, Cond.selects RX4 yX4_placeOf yX4_placeOf, Cond.code yX4_placeOf cX4_placeOf 3 (some .int), Cond.methodLink RX4 111 yX4_faceCost, Cond.instanceMethod yX4_faceCost, Cond.selects RX4 yX4_faceCost yX4_faceCost, Cond.code yX4_faceCost cX4_faceCost 5 (some .int)]
def wsX4_room : List Cond := .code yX4_room cX4_room 5 (some .int) :: ((wsX4_room_r1 ++ (wsX4_room_r2 ++ wsX4_room_r3)) ++ wsX40)
def wsX4_free : List Cond := .code yX4_free cX4_free 3 (some .int) :: ([.fieldLink RX4 13 "SkinBoxModel" "held" "[I", .methodLink RX4 70 yX4_cells, .instanceMethod yX4_cells, .selects RX4 yX4_cells yX4_cells, .initialized RX4, .code yX4_cells cX4_cells 1 (some .int), .fieldLink RX4 7 "SkinBoxModel" "sides" "[I"] ++ wsX40)
def wsX4_many_r1 : List Cond := [Cond.fieldLink RX4 67 "SkinBoxModel" "thrown" "I", Cond.fieldLink RX4 147 "SkinBoxModel" "foundTimes" "J", Cond.methodLink RX4 161 yX4_free, Cond.instanceMethod yX4_free, Cond.selects RX4 yX4_free yX4_free, Cond.initialized RX4, Cond.code yX4_free cX4_free 3 (some .int), Cond.fieldLink RX4 13 "SkinBoxModel" "held" "[I", Cond.methodLink RX4 70 yX4_cells, Cond.instanceMethod yX4_cells, Cond.selects RX4 yX4_cells yX4_cells, Cond.code yX4_cells cX4_cells 1 (some .int), Cond.fieldLink RX4 7 "SkinBoxModel" "sides" "[I", Cond.methodLink RX4 153 yX4_finds, Cond.instanceMethod yX4_finds, Cond.selects RX4 yX4_finds yX4_finds, Cond.code yX4_finds cX4_finds 12 none, Cond.fieldLink RX4 22 "SkinBoxModel" "ways" "[I", Cond.fieldLink RX4 28 "SkinBoxModel" "value" "[J", Cond.constantLong RX4 133 (4000000000000000), Cond.fieldLink RX4 32 "SkinBoxModel" "sets" "[J", Cond.fieldLink RX4 35 "SkinBoxModel" "times" "[J", Cond.fieldLink RX4 38 "SkinBoxModel" "nextValue" "[J", Cond.fieldLink RX4 44 "SkinBoxModel" "nextTimes" "[J"]
def wsX4_many_r2 : List Cond := [Cond.constantLong RX4 138 (64), Cond.fieldLink RX4 41 "SkinBoxModel" "nextSets" "[J", Cond.fieldLink RX4 144 "SkinBoxModel" "found" "J", Cond.fieldLink RX4 150 "SkinBoxModel" "foundSet" "J", Cond.methodLink RX4 130 yX4_orders, Cond.instanceMethod yX4_orders, Cond.selects RX4 yX4_orders yX4_orders, Cond.code yX4_orders cX4_orders 3 none, Cond.methodLink RX4 135 yX4_cellAt, Cond.instanceMethod yX4_cellAt, Cond.selects RX4 yX4_cellAt yX4_cellAt, Cond.code yX4_cellAt cX4_cellAt 4 (some .int), Cond.fieldLink RX4 25 "SkinBoxModel" "place" "[I", Cond.methodLink RX4 95 yX4_stride, Cond.instanceMethod yX4_stride, Cond.selects RX4 yX4_stride yX4_stride, Cond.code yX4_stride cX4_stride 2 (some .int), Cond.methodLink RX4 140 yX4_adds, Cond.instanceMethod yX4_adds, Cond.selects RX4 yX4_adds yX4_adds, Cond.code yX4_adds cX4_adds 8 (some .int), Cond.fieldLink RX4 16 "SkinBoxModel" "price" "[I", Cond.fieldLink RX4 19 "SkinBoxModel" "rules" "[I", Cond.methodLink RX4 115 yX4_outsides]
def wsX4_many_r3 : List Cond := [Cond.instanceMethod yX4_outsides, Cond.selects RX4 yX4_outsides yX4_outsides, Cond.code yX4_outsides cX4_outsides 4 (some .int), Cond.methodLink RX4 99 yX4_placeOf, Cond.instanceMethod yX4_placeOf, Cond.selects RX4 yX4_placeOf yX4_placeOf, Cond.code yX4_placeOf cX4_placeOf 3 (some .int), Cond.methodLink RX4 111 yX4_faceCost, Cond.instanceMethod yX4_faceCost, Cond.selects RX4 yX4_faceCost yX4_faceCost, Cond.code yX4_faceCost cX4_faceCost 5 (some .int)]
def wsX4_many : List Cond := .code yX4_many cX4_many 1 (some .int) :: ((wsX4_many_r1 ++ (wsX4_many_r2 ++ wsX4_many_r3)) ++ wsX40)
def wsX4_isPoint : List Cond := .code yX4_isPoint cX4_isPoint 3 (some .boolean) :: ([.fieldLink RX4 47 "SkinBoxModel" "w" "I", .fieldLink RX4 51 "SkinBoxModel" "h" "I", .methodLink RX4 74 yX4_in, .static yX4_in, .initialized RX4, .code yX4_in cX4_in 6 (some .boolean)] ++ wsX40)
def wsX4_net : List Cond := .code yX4_net cX4_net 3 (some .int) :: ([.fieldLink RX4 67 "SkinBoxModel" "thrown" "I", .constantLong RX4 84 (2), .constantLong RX4 164 (8), .fieldLink RX4 47 "SkinBoxModel" "w" "I", .fieldLink RX4 51 "SkinBoxModel" "h" "I", .methodLink RX4 74 yX4_in, .static yX4_in, .initialized RX4, .code yX4_in cX4_in 6 (some .boolean), .methodLink RX4 64 yX4_pins, .instanceMethod yX4_pins, .selects RX4 yX4_pins yX4_pins, .code yX4_pins cX4_pins 4 none, .fieldLink RX4 54 "SkinBoxModel" "height" "[I", .fieldLink RX4 57 "SkinBoxModel" "isPinned" "[Z"] ++ wsX40)
def wsX4_lift : List Cond := .code yX4_lift cX4_lift 5 (some .int) :: ([.fieldLink RX4 67 "SkinBoxModel" "thrown" "I", .constantLong RX4 170 (-100), .constantLong RX4 172 (100), .constant RX4 90 (-1000000), .fieldLink RX4 54 "SkinBoxModel" "height" "[I", .methodLink RX4 166 yX4_isPoint, .instanceMethod yX4_isPoint, .selects RX4 yX4_isPoint yX4_isPoint, .initialized RX4, .code yX4_isPoint cX4_isPoint 3 (some .boolean), .fieldLink RX4 47 "SkinBoxModel" "w" "I", .fieldLink RX4 51 "SkinBoxModel" "h" "I", .methodLink RX4 74 yX4_in, .static yX4_in, .code yX4_in cX4_in 6 (some .boolean)] ++ wsX40)
def wsX4_pin : List Cond := .code yX4_pin cX4_pin 5 (some .int) :: ([.fieldLink RX4 67 "SkinBoxModel" "thrown" "I", .fieldLink RX4 57 "SkinBoxModel" "isPinned" "[Z", .methodLink RX4 166 yX4_isPoint, .instanceMethod yX4_isPoint, .selects RX4 yX4_isPoint yX4_isPoint, .initialized RX4, .code yX4_isPoint cX4_isPoint 3 (some .boolean), .fieldLink RX4 47 "SkinBoxModel" "w" "I", .fieldLink RX4 51 "SkinBoxModel" "h" "I", .methodLink RX4 74 yX4_in, .static yX4_in, .code yX4_in cX4_in 6 (some .boolean)] ++ wsX40)
def wsX4_height : List Cond := .code yX4_height cX4_height 3 (some .int) :: ([.fieldLink RX4 67 "SkinBoxModel" "thrown" "I", .fieldLink RX4 54 "SkinBoxModel" "height" "[I", .constant RX4 90 (-1000000), .methodLink RX4 166 yX4_isPoint, .instanceMethod yX4_isPoint, .selects RX4 yX4_isPoint yX4_isPoint, .initialized RX4, .code yX4_isPoint cX4_isPoint 3 (some .boolean), .fieldLink RX4 47 "SkinBoxModel" "w" "I", .fieldLink RX4 51 "SkinBoxModel" "h" "I", .methodLink RX4 74 yX4_in, .static yX4_in, .code yX4_in cX4_in 6 (some .boolean)] ++ wsX40)
def wsX4_size : List Cond := .code yX4_size cX4_size 1 (some .int) :: ([])
def wsX4_drawn : List Cond := .code yX4_drawn cX4_drawn 4 (some .int) :: ([.fieldLink RX4 67 "SkinBoxModel" "thrown" "I", .fieldLink RX4 51 "SkinBoxModel" "h" "I", .fieldLink RX4 47 "SkinBoxModel" "w" "I", .fieldLink RX4 54 "SkinBoxModel" "height" "[I", .methodLink RX4 174 yX4_size, .static yX4_size, .initialized RX4, .code yX4_size cX4_size 1 (some .int)] ++ wsX40)
def wsX4_puts : List Cond := .code yX4_puts cX4_puts 4 (some .int) :: ([.fieldLink RX4 61 "SkinBoxModel" "beside" "[I"] ++ wsX40)
def wsX4_stepOf : List Cond := .code yX4_stepOf cX4_stepOf 7 (some .int) :: ([.fieldLink RX4 54 "SkinBoxModel" "height" "[I", .fieldLink RX4 47 "SkinBoxModel" "w" "I", .fieldLink RX4 51 "SkinBoxModel" "h" "I", .fieldLink RX4 61 "SkinBoxModel" "beside" "[I", .fieldLink RX4 57 "SkinBoxModel" "isPinned" "[Z", .methodLink RX4 177 yX4_puts, .instanceMethod yX4_puts, .selects RX4 yX4_puts yX4_puts, .initialized RX4, .code yX4_puts cX4_puts 4 (some .int)] ++ wsX40)
def wsX4_slackOf : List Cond := .code yX4_slackOf cX4_slackOf 4 (some .int) :: ([.fieldLink RX4 51 "SkinBoxModel" "h" "I", .fieldLink RX4 47 "SkinBoxModel" "w" "I", .fieldLink RX4 54 "SkinBoxModel" "height" "[I", .methodLink RX4 180 yX4_stepOf, .instanceMethod yX4_stepOf, .selects RX4 yX4_stepOf yX4_stepOf, .initialized RX4, .code yX4_stepOf cX4_stepOf 7 (some .int), .fieldLink RX4 61 "SkinBoxModel" "beside" "[I", .fieldLink RX4 57 "SkinBoxModel" "isPinned" "[Z", .methodLink RX4 177 yX4_puts, .instanceMethod yX4_puts, .selects RX4 yX4_puts yX4_puts, .code yX4_puts cX4_puts 4 (some .int), .methodLink RX4 174 yX4_size, .static yX4_size, .code yX4_size cX4_size 1 (some .int)] ++ wsX40)
def wsX4_slack : List Cond := .code yX4_slack cX4_slack 1 (some .int) :: ([.fieldLink RX4 67 "SkinBoxModel" "thrown" "I", .methodLink RX4 183 yX4_slackOf, .instanceMethod yX4_slackOf, .selects RX4 yX4_slackOf yX4_slackOf, .initialized RX4, .code yX4_slackOf cX4_slackOf 4 (some .int), .fieldLink RX4 51 "SkinBoxModel" "h" "I", .fieldLink RX4 47 "SkinBoxModel" "w" "I", .fieldLink RX4 54 "SkinBoxModel" "height" "[I", .methodLink RX4 180 yX4_stepOf, .instanceMethod yX4_stepOf, .selects RX4 yX4_stepOf yX4_stepOf, .code yX4_stepOf cX4_stepOf 7 (some .int), .fieldLink RX4 61 "SkinBoxModel" "beside" "[I", .fieldLink RX4 57 "SkinBoxModel" "isPinned" "[Z", .methodLink RX4 177 yX4_puts, .instanceMethod yX4_puts, .selects RX4 yX4_puts yX4_puts, .code yX4_puts cX4_puts 4 (some .int), .methodLink RX4 174 yX4_size, .static yX4_size, .code yX4_size cX4_size 1 (some .int)] ++ wsX40)
def wsX4_rounds_r1 : List Cond := [Cond.fieldLink RX4 67 "SkinBoxModel" "thrown" "I", Cond.constantLong RX4 186 (50), Cond.fieldLink RX4 51 "SkinBoxModel" "h" "I", Cond.fieldLink RX4 47 "SkinBoxModel" "w" "I", Cond.fieldLink RX4 54 "SkinBoxModel" "height" "[I", Cond.methodLink RX4 74 yX4_in, Cond.static yX4_in, Cond.initialized RX4, Cond.code yX4_in cX4_in 6 (some .boolean), Cond.methodLink RX4 183 yX4_slackOf, Cond.instanceMethod yX4_slackOf, Cond.selects RX4 yX4_slackOf yX4_slackOf, Cond.code yX4_slackOf cX4_slackOf 4 (some .int), Cond.methodLink RX4 180 yX4_stepOf, Cond.instanceMethod yX4_stepOf, Cond.selects RX4 yX4_stepOf yX4_stepOf, Cond.code yX4_stepOf cX4_stepOf 7 (some .int), Cond.fieldLink RX4 61 "SkinBoxModel" "beside" "[I", Cond.fieldLink RX4 57 "SkinBoxModel" "isPinned" "[Z", Cond.methodLink RX4 177 yX4_puts, Cond.instanceMethod yX4_puts, Cond.selects RX4 yX4_puts yX4_puts, Cond.code yX4_puts cX4_puts 4 (some .int), Cond.methodLink RX4 174 yX4_size]
def wsX4_rounds_r2 : List Cond := [Cond.static yX4_size, Cond.code yX4_size cX4_size 1 (some .int)]
def wsX4_rounds : List Cond := .code yX4_rounds cX4_rounds 5 (some .int) :: ((wsX4_rounds_r1 ++ wsX4_rounds_r2) ++ wsX40)
def wsX4_count_r1 : List Cond := [Cond.fieldLink RX4 67 "SkinBoxModel" "thrown" "I", Cond.fieldLink RX4 51 "SkinBoxModel" "h" "I", Cond.fieldLink RX4 47 "SkinBoxModel" "w" "I", Cond.fieldLink RX4 57 "SkinBoxModel" "isPinned" "[Z", Cond.fieldLink RX4 7 "SkinBoxModel" "sides" "[I", Cond.methodLink RX4 161 yX4_free, Cond.instanceMethod yX4_free, Cond.selects RX4 yX4_free yX4_free, Cond.initialized RX4, Cond.code yX4_free cX4_free 3 (some .int), Cond.fieldLink RX4 13 "SkinBoxModel" "held" "[I", Cond.methodLink RX4 70 yX4_cells, Cond.instanceMethod yX4_cells, Cond.selects RX4 yX4_cells yX4_cells, Cond.code yX4_cells cX4_cells 1 (some .int), Cond.methodLink RX4 183 yX4_slackOf, Cond.instanceMethod yX4_slackOf, Cond.selects RX4 yX4_slackOf yX4_slackOf, Cond.code yX4_slackOf cX4_slackOf 4 (some .int), Cond.fieldLink RX4 54 "SkinBoxModel" "height" "[I", Cond.methodLink RX4 180 yX4_stepOf, Cond.instanceMethod yX4_stepOf, Cond.selects RX4 yX4_stepOf yX4_stepOf, Cond.code yX4_stepOf cX4_stepOf 7 (some .int)]
def wsX4_count_r2 : List Cond := [Cond.fieldLink RX4 61 "SkinBoxModel" "beside" "[I", Cond.methodLink RX4 177 yX4_puts, Cond.instanceMethod yX4_puts, Cond.selects RX4 yX4_puts yX4_puts, Cond.code yX4_puts cX4_puts 4 (some .int), Cond.methodLink RX4 174 yX4_size, Cond.static yX4_size, Cond.code yX4_size cX4_size 1 (some .int)]
def wsX4_count : List Cond := .code yX4_count cX4_count 5 (some .int) :: ((wsX4_count_r1 ++ wsX4_count_r2) ++ wsX40)
def wsX4_trace : List Cond := .code yX4_trace cX4_trace 1 (some .long) :: ([.fieldLink RX4 67 "SkinBoxModel" "thrown" "I", .fieldLink RX4 103 "SkinBoxModel" "trace" "J"] ++ wsX40)
def wsJ9_abs_0f7a4 : List Cond := .code yJ9_abs_0f7a4 cJ9_abs_0f7a4 1 (some .int) :: ([])
def wsJ9_max_7cf53 : List Cond := .code yJ9_max_7cf53 cJ9_max_7cf53 2 (some .int) :: ([])
def wsJ9_min_7cf53 : List Cond := .code yJ9_min_7cf53 cJ9_min_7cf53 2 (some .int) :: ([])
abbrev vwCl : List vw_C := [(RX0, TX0, 7), (RX1, TX1, 12), (RX2, TX2, 5), (RX3, TX3, 4), (RX4, TX4, 22)]
end
section
/-- the surroundings of a walk -/
abbrev gX : Type := Program × Launch × Env × Room × State × MethodId × Array Value × List Frame × Method × Code × (Nat → Prop) × va_G × (State → Prop)
/-- from pc with these locals, this stack and this world the machine comes to Q -/
def gW (X : gX) (k n : Nat) (ws : va_W) (nL : Nat) (lv : List (Nat × Value)) (st : List Value) (pc : Nat) : Prop :=
  match X with
  | (p, l, e, R, s, m, args, below, meth, c, A, D, Q) => ∀ (H : Heap) (locs : List Loc) (ls : Array Slot), va_P D vwCl ws H → va_D A ws → va_S A s.heap H locs → lv_has ls nL lv → W p l e R s m args below meth c H locs k n Q (F0 m pc ls st)
/-- what stays the same while a method runs -/
def gC (X : gX) (tys : List (ClassId × FieldType)) (cc : ByteArray) (nL : Nat) (own : String) (Ts : List Cond) (rm : Room) : Prop :=
  match X with
  | (p, _, _, R, s, m, args, _, meth, c, A, D, _) => p.tables.exec = Jvm.exec ∧ c.code = cc ∧ c.maxLocals = nL ∧ s.vm.findClass own = some m.cls ∧ (∀ w ∈ Ts, w.before args s = true) ∧ va_K D vwCl tys s ∧ (∀ q : Nat, s.heap.size ≤ q → A q) ∧ R = rm ∧ meth.locks = false
/-- what the world is behind a method -/
def gB {S : Type} (D : va_G) (tys : List (ClassId × FieldType)) (A : Nat → Prop) (w1 : S → va_W) : S → State → Prop := fun u t => va_P D vwCl (w1 u) t.heap ∧ va_K D vwCl tys t ∧ va_D A (w1 u)
def gEi {S : Type} (X : gX) (rt : Option FieldType) (tys : List (ClassId × FieldType)) (mc ms : Nat) (post : Int32 → S → Prop) (w1 : S → va_W) : Prop :=
  match X with
  | (_, _, _, _, s, _, args, below, meth, _, A, D, Q) => meth.sig.returnType = rt ∧ Q = MQ below (va_Qi post (gB D tys A w1) A) args s mc ms A
def gEl {S : Type} (X : gX) (rt : Option FieldType) (tys : List (ClassId × FieldType)) (mc ms : Nat) (post : Int64 → S → Prop) (w1 : S → va_W) : Prop :=
  match X with
  | (_, _, _, _, s, _, args, below, meth, _, A, D, Q) => meth.sig.returnType = rt ∧ Q = MQ below (va_Ql post (gB D tys A w1) A) args s mc ms A
def gEv {S : Type} (X : gX) (rt : Option FieldType) (tys : List (ClassId × FieldType)) (mc ms : Nat) (post : S → Prop) (w1 : S → va_W) : Prop :=
  match X with
  | (_, _, _, _, s, _, args, below, meth, _, A, D, Q) => meth.sig.returnType = rt ∧ Q = MQ below (va_Qv post (gB D tys A w1) A) args s mc ms A
/-- a method's contract -/
def gPre (av : List Value) (D : va_G) (tys : List (ClassId × FieldType)) (wc : va_W) (sz : Nat) : Array Value → State → Prop := va_Pc av (fun U => U.heap.size = sz ∧ va_P D vwCl wc U.heap ∧ va_K D vwCl tys U ∧ va_D (fun _ => True) wc)
def gMi {S : Type} (l : Launch) (y : MethodName) (wsy : List Cond) (rm : Room) (D : va_G) (tys : List (ClassId × FieldType)) (mc ms : Nat) (av : List Value) (wc : va_W) (post : Int32 → S → Prop) (w1 : S → va_W) : Prop :=
  ∀ sz : Nat, Met l y wsy rm (gPre av D tys wc sz) (va_Qi post (gB D tys (va_A wc sz) w1) (va_A wc sz)) mc ms (va_A wc sz)
def gMl {S : Type} (l : Launch) (y : MethodName) (wsy : List Cond) (rm : Room) (D : va_G) (tys : List (ClassId × FieldType)) (mc ms : Nat) (av : List Value) (wc : va_W) (post : Int64 → S → Prop) (w1 : S → va_W) : Prop :=
  ∀ sz : Nat, Met l y wsy rm (gPre av D tys wc sz) (va_Ql post (gB D tys (va_A wc sz) w1) (va_A wc sz)) mc ms (va_A wc sz)
def gMv {S : Type} (l : Launch) (y : MethodName) (wsy : List Cond) (rm : Room) (D : va_G) (tys : List (ClassId × FieldType)) (mc ms : Nat) (av : List Value) (wc : va_W) (post : S → Prop) (w1 : S → va_W) : Prop :=
  ∀ sz : Nat, Met l y wsy rm (gPre av D tys wc sz) (va_Qv post (gB D tys (va_A wc sz) w1) (va_A wc sz)) mc ms (va_A wc sz)
/-- a field that a method may reach -/
def gF (Ts : List Cond) (own : String) (index ci k : Nat) (Cn : String) (T : u_T) (N : Nat) : Prop := (∀ w ∈ u_ws Cn T N, w ∈ Ts) ∧ Cond.fieldLink own index (T k).1 (T k).2.1 (T k).2.2.1 ∈ Ts ∧ vwCl[ci]? = some (Cn, T, N) ∧ k < N
/-- a boolean as the machine has it -/
def bI (b : Bool) : Int32 := if b = true then 1 else 0
theorem bI_t {b : Bool} (h : b = true) : bI b = 1 := by simp [bI, h]
theorem bI_f {b : Bool} (h : b = false) : bI b = 0 := by simp [bI, h]
theorem bI_0 {b : Bool} : bI b = 0 ↔ b = false := by cases b <;> simp [bI]
theorem bI_n {b : Bool} : narrow .boolean (.int (bI b)) = .int (bI b) := by cases b <;> rfl

abbrev gT (cA : Nat → ClassId) : List (ClassId × FieldType) := [(cA 0, .int), (cA 1, .long), (cA 2, .boolean)]
theorem ik_m1 : Int32.ofInt (-1) = (-1 : Int32) := by decide
theorem ik_0 : Int32.ofInt (0) = (0 : Int32) := by decide
theorem ik_1 : Int32.ofInt (1) = (1 : Int32) := by decide
theorem ik_2 : Int32.ofInt (2) = (2 : Int32) := by decide
theorem ik_3 : Int32.ofInt (3) = (3 : Int32) := by decide
theorem ik_4 : Int32.ofInt (4) = (4 : Int32) := by decide
theorem ik_5 : Int32.ofInt (5) = (5 : Int32) := by decide
theorem lk_0 : Int64.ofNat (((0 : Fin 2) : Nat)) = (0 : Int64) := by decide
theorem lk_1 : Int64.ofNat (((1 : Fin 2) : Nat)) = (1 : Int64) := by decide
section GW
variable {X : gX} {k n : Nat} {ws : va_W} {nL : Nat} {lv : List (Nat × Value)} {st : List Value} {pc : Nat} {tys : List (ClassId × FieldType)} {cc : ByteArray} {own : String} {Ts : List Cond} {rm : Room}
theorem g_iconst (C : gC X tys cc nL own Ts rm) {i : Int} {v : Int32} (hd : decode cc pc = .ok (.iconst i, 1)) (hv : Int32.ofInt i = v) (kk : gW X k n ws nL lv (.int v :: st) (pc + 1)) : gW X k n ws nL lv (st) pc := by
  obtain ⟨p, l, e, R, s, m, args, below, meth, c, A, D, Q⟩ := X
  obtain ⟨hx, hb, hml, ho, ht, hK, hA, hR, hlk⟩ := C
  intro H locs ls hP hD hS hl
  exact lv_iconst hx hb hd hv (kk H locs ls hP hD hS hl)
theorem g_bipush (C : gC X tys cc nL own Ts rm) {i : Int} {v : Int32} (hd : decode cc pc = .ok (.bipush i, 2)) (hv : (Int8.ofInt i).toInt32 = v) (kk : gW X k n ws nL lv (.int v :: st) (pc + 2)) : gW X k n ws nL lv (st) pc := by
  obtain ⟨p, l, e, R, s, m, args, below, meth, c, A, D, Q⟩ := X
  obtain ⟨hx, hb, hml, ho, ht, hK, hA, hR, hlk⟩ := C
  intro H locs ls hP hD hS hl
  exact lv_bipush hx hb hd hv (kk H locs ls hP hD hS hl)
theorem g_sipush (C : gC X tys cc nL own Ts rm) {i : Int} {v : Int32} (hd : decode cc pc = .ok (.sipush i, 3)) (hv : (Int16.ofInt i).toInt32 = v) (kk : gW X k n ws nL lv (.int v :: st) (pc + 3)) : gW X k n ws nL lv (st) pc := by
  obtain ⟨p, l, e, R, s, m, args, below, meth, c, A, D, Q⟩ := X
  obtain ⟨hx, hb, hml, ho, ht, hK, hA, hR, hlk⟩ := C
  intro H locs ls hP hD hS hl
  exact lv_sipush hx hb hd hv (kk H locs ls hP hD hS hl)
theorem g_lconst (C : gC X tys cc nL own Ts rm) {i : Fin 2} {v : Int64} (hd : decode cc pc = .ok (.lconst i, 1)) (hv : Int64.ofNat (i : Nat) = v) (kk : gW X k n ws nL lv (.long v :: st) (pc + 1)) : gW X k n ws nL lv (st) pc := by
  obtain ⟨p, l, e, R, s, m, args, below, meth, c, A, D, Q⟩ := X
  obtain ⟨hx, hb, hml, ho, ht, hK, hA, hR, hlk⟩ := C
  intro H locs ls hP hD hS hl
  exact lv_lconst hx hb hd hv (kk H locs ls hP hD hS hl)
theorem g_ldc (C : gC X tys cc nL own Ts rm) {i : Nat} {v : Int32} (hw : Cond.constant own i v ∈ Ts) (hd : decode cc pc = .ok (.ldc i, 2)) (kk : gW X k n ws nL lv (.int v :: st) (pc + 2)) : gW X k n ws nL lv (st) pc := by
  obtain ⟨p, l, e, R, s, m, args, below, meth, c, A, D, Q⟩ := X
  obtain ⟨hx, hb, hml, ho, ht, hK, hA, hR, hlk⟩ := C
  intro H locs ls hP hD hS hl
  exact lv_ldc hx hb ho (ht _ hw) hd (kk H locs ls hP hD hS hl)
theorem g_ldc_w (C : gC X tys cc nL own Ts rm) {i : Nat} {v : Int32} (hw : Cond.constant own i v ∈ Ts) (hd : decode cc pc = .ok (.ldc_w i, 3)) (kk : gW X k n ws nL lv (.int v :: st) (pc + 3)) : gW X k n ws nL lv (st) pc := by
  obtain ⟨p, l, e, R, s, m, args, below, meth, c, A, D, Q⟩ := X
  obtain ⟨hx, hb, hml, ho, ht, hK, hA, hR, hlk⟩ := C
  intro H locs ls hP hD hS hl
  exact lv_ldcw hx hb ho (ht _ hw) hd (kk H locs ls hP hD hS hl)
theorem g_ldc2_w (C : gC X tys cc nL own Ts rm) {i : Nat} {v : Int64} (hw : Cond.constantLong own i v ∈ Ts) (hd : decode cc pc = .ok (.ldc2_w i, 3)) (kk : gW X k n ws nL lv (.long v :: st) (pc + 3)) : gW X k n ws nL lv (st) pc := by
  obtain ⟨p, l, e, R, s, m, args, below, meth, c, A, D, Q⟩ := X
  obtain ⟨hx, hb, hml, ho, ht, hK, hA, hR, hlk⟩ := C
  intro H locs ls hP hD hS hl
  exact lv_ldc2 hx hb ho (ht _ hw) hd (kk H locs ls hP hD hS hl)
theorem g_iload_n (C : gC X tys cc nL own Ts rm) {j : Fin 4} {i : Nat} {x : Int32} (hd : decode cc pc = .ok (.iload_n j, 1)) (hi : (j : Nat) = i) (q : Nat) (hq : lv[q]? = some (i, .int x)) (kk : gW X k n ws nL lv (.int x :: st) (pc + 1)) : gW X k n ws nL lv (st) pc := by
  obtain ⟨p, l, e, R, s, m, args, below, meth, c, A, D, Q⟩ := X
  obtain ⟨hx, hb, hml, ho, ht, hK, hA, hR, hlk⟩ := C
  intro H locs ls hP hD hS hl
  exact lv_iload_n hx hb hd hi (lv_at hl q hq) (kk H locs ls hP hD hS hl)
theorem g_iload (C : gC X tys cc nL own Ts rm) {i : Nat} {x : Int32} (hd : decode cc pc = .ok (.iload i, 2)) (q : Nat) (hq : lv[q]? = some (i, .int x)) (kk : gW X k n ws nL lv (.int x :: st) (pc + 2)) : gW X k n ws nL lv (st) pc := by
  obtain ⟨p, l, e, R, s, m, args, below, meth, c, A, D, Q⟩ := X
  obtain ⟨hx, hb, hml, ho, ht, hK, hA, hR, hlk⟩ := C
  intro H locs ls hP hD hS hl
  exact lv_iload hx hb hd (lv_at hl q hq) (kk H locs ls hP hD hS hl)
theorem g_istore_n (C : gC X tys cc nL own Ts rm) {j : Fin 4} {i : Nat} {x : Int32} {lv2 : List (Nat × Value)} (hd : decode cc pc = .ok (.istore_n j, 1)) (hi : (j : Nat) = i) (hn : i < nL) (ks : List Nat) (hk : lv_pick ((i, Value.int x) :: lv.filter (fun q => !(q.1 == i) && !(q.1 + 1 == i && q.2.category == 2))) ks = lv2) (kk : gW X k n ws nL lv2 st (pc + 1)) : gW X k n ws nL lv (.int x :: st) pc := by
  obtain ⟨p, l, e, R, s, m, args, below, meth, c, A, D, Q⟩ := X
  obtain ⟨hx, hb, hml, ho, ht, hK, hA, hR, hlk⟩ := C
  intro H locs ls hP hD hS hl
  exact lv_istore_n hx hb hd hi hl hn rfl (fun ls2 h2 => kk H locs ls2 hP hD hS (lv_sub h2 ks hk))
theorem g_istore (C : gC X tys cc nL own Ts rm) {i : Nat} {x : Int32} {lv2 : List (Nat × Value)} (hd : decode cc pc = .ok (.istore i, 2)) (hn : i < nL) (ks : List Nat) (hk : lv_pick ((i, Value.int x) :: lv.filter (fun q => !(q.1 == i) && !(q.1 + 1 == i && q.2.category == 2))) ks = lv2) (kk : gW X k n ws nL lv2 st (pc + 2)) : gW X k n ws nL lv (.int x :: st) pc := by
  obtain ⟨p, l, e, R, s, m, args, below, meth, c, A, D, Q⟩ := X
  obtain ⟨hx, hb, hml, ho, ht, hK, hA, hR, hlk⟩ := C
  intro H locs ls hP hD hS hl
  exact lv_istore hx hb hd hl hn rfl (fun ls2 h2 => kk H locs ls2 hP hD hS (lv_sub h2 ks hk))
theorem g_lload_n (C : gC X tys cc nL own Ts rm) {j : Fin 4} {i : Nat} {x : Int64} (hd : decode cc pc = .ok (.lload_n j, 1)) (hi : (j : Nat) = i) (q : Nat) (hq : lv[q]? = some (i, .long x)) (kk : gW X k n ws nL lv (.long x :: st) (pc + 1)) : gW X k n ws nL lv (st) pc := by
  obtain ⟨p, l, e, R, s, m, args, below, meth, c, A, D, Q⟩ := X
  obtain ⟨hx, hb, hml, ho, ht, hK, hA, hR, hlk⟩ := C
  intro H locs ls hP hD hS hl
  exact lv_lload_n hx hb hd hi (lv_at hl q hq) (kk H locs ls hP hD hS hl)
theorem g_lload (C : gC X tys cc nL own Ts rm) {i : Nat} {x : Int64} (hd : decode cc pc = .ok (.lload i, 2)) (q : Nat) (hq : lv[q]? = some (i, .long x)) (kk : gW X k n ws nL lv (.long x :: st) (pc + 2)) : gW X k n ws nL lv (st) pc := by
  obtain ⟨p, l, e, R, s, m, args, below, meth, c, A, D, Q⟩ := X
  obtain ⟨hx, hb, hml, ho, ht, hK, hA, hR, hlk⟩ := C
  intro H locs ls hP hD hS hl
  exact lv_lload hx hb hd (lv_at hl q hq) (kk H locs ls hP hD hS hl)
theorem g_lstore_n (C : gC X tys cc nL own Ts rm) {j : Fin 4} {i : Nat} {x : Int64} {lv2 : List (Nat × Value)} (hd : decode cc pc = .ok (.lstore_n j, 1)) (hi : (j : Nat) = i) (hn : i + 1 < nL) (ks : List Nat) (hk : lv_pick ((i, Value.long x) :: lv.filter (fun q => !(q.1 == i) && (!(q.1 == i + 1) && !(q.1 + 1 == i && q.2.category == 2)))) ks = lv2) (kk : gW X k n ws nL lv2 st (pc + 1)) : gW X k n ws nL lv (.long x :: st) pc := by
  obtain ⟨p, l, e, R, s, m, args, below, meth, c, A, D, Q⟩ := X
  obtain ⟨hx, hb, hml, ho, ht, hK, hA, hR, hlk⟩ := C
  intro H locs ls hP hD hS hl
  exact lv_lstore_n hx hb hd hi hl hn rfl (fun ls2 h2 => kk H locs ls2 hP hD hS (lv_sub h2 ks hk))
theorem g_lstore (C : gC X tys cc nL own Ts rm) {i : Nat} {x : Int64} {lv2 : List (Nat × Value)} (hd : decode cc pc = .ok (.lstore i, 2)) (hn : i + 1 < nL) (ks : List Nat) (hk : lv_pick ((i, Value.long x) :: lv.filter (fun q => !(q.1 == i) && (!(q.1 == i + 1) && !(q.1 + 1 == i && q.2.category == 2)))) ks = lv2) (kk : gW X k n ws nL lv2 st (pc + 2)) : gW X k n ws nL lv (.long x :: st) pc := by
  obtain ⟨p, l, e, R, s, m, args, below, meth, c, A, D, Q⟩ := X
  obtain ⟨hx, hb, hml, ho, ht, hK, hA, hR, hlk⟩ := C
  intro H locs ls hP hD hS hl
  exact lv_lstore hx hb hd hl hn rfl (fun ls2 h2 => kk H locs ls2 hP hD hS (lv_sub h2 ks hk))
theorem g_aload_n (C : gC X tys cc nL own Ts rm) {j : Fin 4} {i : Nat} {x : Nat} (hd : decode cc pc = .ok (.aload_n j, 1)) (hi : (j : Nat) = i) (q : Nat) (hq : lv[q]? = some (i, .ref x)) (kk : gW X k n ws nL lv (.ref x :: st) (pc + 1)) : gW X k n ws nL lv (st) pc := by
  obtain ⟨p, l, e, R, s, m, args, below, meth, c, A, D, Q⟩ := X
  obtain ⟨hx, hb, hml, ho, ht, hK, hA, hR, hlk⟩ := C
  intro H locs ls hP hD hS hl
  exact lv_aload_n hx hb hd hi (lv_at hl q hq) (kk H locs ls hP hD hS hl)
theorem g_aload (C : gC X tys cc nL own Ts rm) {i : Nat} {x : Nat} (hd : decode cc pc = .ok (.aload i, 2)) (q : Nat) (hq : lv[q]? = some (i, .ref x)) (kk : gW X k n ws nL lv (.ref x :: st) (pc + 2)) : gW X k n ws nL lv (st) pc := by
  obtain ⟨p, l, e, R, s, m, args, below, meth, c, A, D, Q⟩ := X
  obtain ⟨hx, hb, hml, ho, ht, hK, hA, hR, hlk⟩ := C
  intro H locs ls hP hD hS hl
  exact lv_aload hx hb hd (lv_at hl q hq) (kk H locs ls hP hD hS hl)
theorem g_astore_n (C : gC X tys cc nL own Ts rm) {j : Fin 4} {i : Nat} {x : Nat} {lv2 : List (Nat × Value)} (hd : decode cc pc = .ok (.astore_n j, 1)) (hi : (j : Nat) = i) (hn : i < nL) (ks : List Nat) (hk : lv_pick ((i, Value.ref x) :: lv.filter (fun q => !(q.1 == i) && !(q.1 + 1 == i && q.2.category == 2))) ks = lv2) (kk : gW X k n ws nL lv2 st (pc + 1)) : gW X k n ws nL lv (.ref x :: st) pc := by
  obtain ⟨p, l, e, R, s, m, args, below, meth, c, A, D, Q⟩ := X
  obtain ⟨hx, hb, hml, ho, ht, hK, hA, hR, hlk⟩ := C
  intro H locs ls hP hD hS hl
  exact lv_astore_n hx hb hd hi hl hn rfl (fun ls2 h2 => kk H locs ls2 hP hD hS (lv_sub h2 ks hk))
theorem g_astore (C : gC X tys cc nL own Ts rm) {i : Nat} {x : Nat} {lv2 : List (Nat × Value)} (hd : decode cc pc = .ok (.astore i, 2)) (hn : i < nL) (ks : List Nat) (hk : lv_pick ((i, Value.ref x) :: lv.filter (fun q => !(q.1 == i) && !(q.1 + 1 == i && q.2.category == 2))) ks = lv2) (kk : gW X k n ws nL lv2 st (pc + 2)) : gW X k n ws nL lv (.ref x :: st) pc := by
  obtain ⟨p, l, e, R, s, m, args, below, meth, c, A, D, Q⟩ := X
  obtain ⟨hx, hb, hml, ho, ht, hK, hA, hR, hlk⟩ := C
  intro H locs ls hP hD hS hl
  exact lv_astore hx hb hd hl hn rfl (fun ls2 h2 => kk H locs ls2 hP hD hS (lv_sub h2 ks hk))
theorem g_iinc (C : gC X tys cc nL own Ts rm) {i : Nat} {d : Int} {x v : Int32} {lv2 : List (Nat × Value)} (hd : decode cc pc = .ok (.iinc i d, 3)) (q : Nat) (hq : lv[q]? = some (i, .int x)) (hv : x + Int32.ofInt d = v) (hn : i < nL) (ks : List Nat) (hk : lv_pick ((i, Value.int v) :: lv.filter (fun q => !(q.1 == i) && !(q.1 + 1 == i && q.2.category == 2))) ks = lv2) (kk : gW X k n ws nL lv2 st (pc + 3)) : gW X k n ws nL lv (st) pc := by
  obtain ⟨p, l, e, R, s, m, args, below, meth, c, A, D, Q⟩ := X
  obtain ⟨hx, hb, hml, ho, ht, hK, hA, hR, hlk⟩ := C
  intro H locs ls hP hD hS hl
  exact lv_iinc hx hb hd hl hq hv hn rfl (fun ls2 h2 => kk H locs ls2 hP hD hS (lv_sub h2 ks hk))
theorem g_iadd (C : gC X tys cc nL own Ts rm) {x y : Int32} (hd : decode cc pc = .ok (.iadd, 1)) (kk : gW X k n ws nL lv (.int (x + y) :: st) (pc + 1)) : gW X k n ws nL lv (.int y :: .int x :: st) pc := by
  obtain ⟨p, l, e, R, s, m, args, below, meth, c, A, D, Q⟩ := X
  obtain ⟨hx, hb, hml, ho, ht, hK, hA, hR, hlk⟩ := C
  intro H locs ls hP hD hS hl
  exact lv_iadd hx hb hd (kk H locs ls hP hD hS hl)
theorem g_isub (C : gC X tys cc nL own Ts rm) {x y : Int32} (hd : decode cc pc = .ok (.isub, 1)) (kk : gW X k n ws nL lv (.int (x - y) :: st) (pc + 1)) : gW X k n ws nL lv (.int y :: .int x :: st) pc := by
  obtain ⟨p, l, e, R, s, m, args, below, meth, c, A, D, Q⟩ := X
  obtain ⟨hx, hb, hml, ho, ht, hK, hA, hR, hlk⟩ := C
  intro H locs ls hP hD hS hl
  exact lv_isub hx hb hd (kk H locs ls hP hD hS hl)
theorem g_imul (C : gC X tys cc nL own Ts rm) {x y : Int32} (hd : decode cc pc = .ok (.imul, 1)) (kk : gW X k n ws nL lv (.int (x * y) :: st) (pc + 1)) : gW X k n ws nL lv (.int y :: .int x :: st) pc := by
  obtain ⟨p, l, e, R, s, m, args, below, meth, c, A, D, Q⟩ := X
  obtain ⟨hx, hb, hml, ho, ht, hK, hA, hR, hlk⟩ := C
  intro H locs ls hP hD hS hl
  exact lv_imul hx hb hd (kk H locs ls hP hD hS hl)
theorem g_iand (C : gC X tys cc nL own Ts rm) {x y : Int32} (hd : decode cc pc = .ok (.iand, 1)) (kk : gW X k n ws nL lv (.int (x &&& y) :: st) (pc + 1)) : gW X k n ws nL lv (.int y :: .int x :: st) pc := by
  obtain ⟨p, l, e, R, s, m, args, below, meth, c, A, D, Q⟩ := X
  obtain ⟨hx, hb, hml, ho, ht, hK, hA, hR, hlk⟩ := C
  intro H locs ls hP hD hS hl
  exact lv_iand hx hb hd (kk H locs ls hP hD hS hl)
theorem g_ior (C : gC X tys cc nL own Ts rm) {x y : Int32} (hd : decode cc pc = .ok (.ior, 1)) (kk : gW X k n ws nL lv (.int (x ||| y) :: st) (pc + 1)) : gW X k n ws nL lv (.int y :: .int x :: st) pc := by
  obtain ⟨p, l, e, R, s, m, args, below, meth, c, A, D, Q⟩ := X
  obtain ⟨hx, hb, hml, ho, ht, hK, hA, hR, hlk⟩ := C
  intro H locs ls hP hD hS hl
  exact lv_ior hx hb hd (kk H locs ls hP hD hS hl)
theorem g_ixor (C : gC X tys cc nL own Ts rm) {x y : Int32} (hd : decode cc pc = .ok (.ixor, 1)) (kk : gW X k n ws nL lv (.int (x ^^^ y) :: st) (pc + 1)) : gW X k n ws nL lv (.int y :: .int x :: st) pc := by
  obtain ⟨p, l, e, R, s, m, args, below, meth, c, A, D, Q⟩ := X
  obtain ⟨hx, hb, hml, ho, ht, hK, hA, hR, hlk⟩ := C
  intro H locs ls hP hD hS hl
  exact lv_ixor hx hb hd (kk H locs ls hP hD hS hl)
theorem g_ineg (C : gC X tys cc nL own Ts rm) {x : Int32} (hd : decode cc pc = .ok (.ineg, 1)) (kk : gW X k n ws nL lv (.int (-x) :: st) (pc + 1)) : gW X k n ws nL lv (.int x :: st) pc := by
  obtain ⟨p, l, e, R, s, m, args, below, meth, c, A, D, Q⟩ := X
  obtain ⟨hx, hb, hml, ho, ht, hK, hA, hR, hlk⟩ := C
  intro H locs ls hP hD hS hl
  exact lv_ineg hx hb hd (kk H locs ls hP hD hS hl)
theorem g_idiv (C : gC X tys cc nL own Ts rm) {x y : Int32} (hd : decode cc pc = .ok (.idiv, 1)) (hne : ¬ y = 0) (kk : gW X k n ws nL lv (.int (x / y) :: st) (pc + 1)) : gW X k n ws nL lv (.int y :: .int x :: st) pc := by
  obtain ⟨p, l, e, R, s, m, args, below, meth, c, A, D, Q⟩ := X
  obtain ⟨hx, hb, hml, ho, ht, hK, hA, hR, hlk⟩ := C
  intro H locs ls hP hD hS hl
  exact lv_idiv hx hb hd hne (kk H locs ls hP hD hS hl)
theorem g_irem (C : gC X tys cc nL own Ts rm) {x y : Int32} (hd : decode cc pc = .ok (.irem, 1)) (hne : ¬ y = 0) (kk : gW X k n ws nL lv (.int (x - x / y * y) :: st) (pc + 1)) : gW X k n ws nL lv (.int y :: .int x :: st) pc := by
  obtain ⟨p, l, e, R, s, m, args, below, meth, c, A, D, Q⟩ := X
  obtain ⟨hx, hb, hml, ho, ht, hK, hA, hR, hlk⟩ := C
  intro H locs ls hP hD hS hl
  exact lv_irem hx hb hd hne (kk H locs ls hP hD hS hl)
theorem g_ladd (C : gC X tys cc nL own Ts rm) {x y : Int64} (hd : decode cc pc = .ok (.ladd, 1)) (kk : gW X k n ws nL lv (.long (x + y) :: st) (pc + 1)) : gW X k n ws nL lv (.long y :: .long x :: st) pc := by
  obtain ⟨p, l, e, R, s, m, args, below, meth, c, A, D, Q⟩ := X
  obtain ⟨hx, hb, hml, ho, ht, hK, hA, hR, hlk⟩ := C
  intro H locs ls hP hD hS hl
  exact lv_ladd hx hb hd (kk H locs ls hP hD hS hl)
theorem g_lsub (C : gC X tys cc nL own Ts rm) {x y : Int64} (hd : decode cc pc = .ok (.lsub, 1)) (kk : gW X k n ws nL lv (.long (x - y) :: st) (pc + 1)) : gW X k n ws nL lv (.long y :: .long x :: st) pc := by
  obtain ⟨p, l, e, R, s, m, args, below, meth, c, A, D, Q⟩ := X
  obtain ⟨hx, hb, hml, ho, ht, hK, hA, hR, hlk⟩ := C
  intro H locs ls hP hD hS hl
  exact lv_lsub hx hb hd (kk H locs ls hP hD hS hl)
theorem g_lmul (C : gC X tys cc nL own Ts rm) {x y : Int64} (hd : decode cc pc = .ok (.lmul, 1)) (kk : gW X k n ws nL lv (.long (x * y) :: st) (pc + 1)) : gW X k n ws nL lv (.long y :: .long x :: st) pc := by
  obtain ⟨p, l, e, R, s, m, args, below, meth, c, A, D, Q⟩ := X
  obtain ⟨hx, hb, hml, ho, ht, hK, hA, hR, hlk⟩ := C
  intro H locs ls hP hD hS hl
  exact lv_lmul hx hb hd (kk H locs ls hP hD hS hl)
theorem g_land (C : gC X tys cc nL own Ts rm) {x y : Int64} (hd : decode cc pc = .ok (.land, 1)) (kk : gW X k n ws nL lv (.long (x &&& y) :: st) (pc + 1)) : gW X k n ws nL lv (.long y :: .long x :: st) pc := by
  obtain ⟨p, l, e, R, s, m, args, below, meth, c, A, D, Q⟩ := X
  obtain ⟨hx, hb, hml, ho, ht, hK, hA, hR, hlk⟩ := C
  intro H locs ls hP hD hS hl
  exact lv_land hx hb hd (kk H locs ls hP hD hS hl)
theorem g_lor (C : gC X tys cc nL own Ts rm) {x y : Int64} (hd : decode cc pc = .ok (.lor, 1)) (kk : gW X k n ws nL lv (.long (x ||| y) :: st) (pc + 1)) : gW X k n ws nL lv (.long y :: .long x :: st) pc := by
  obtain ⟨p, l, e, R, s, m, args, below, meth, c, A, D, Q⟩ := X
  obtain ⟨hx, hb, hml, ho, ht, hK, hA, hR, hlk⟩ := C
  intro H locs ls hP hD hS hl
  exact lv_lor hx hb hd (kk H locs ls hP hD hS hl)
theorem g_lxor (C : gC X tys cc nL own Ts rm) {x y : Int64} (hd : decode cc pc = .ok (.lxor, 1)) (kk : gW X k n ws nL lv (.long (x ^^^ y) :: st) (pc + 1)) : gW X k n ws nL lv (.long y :: .long x :: st) pc := by
  obtain ⟨p, l, e, R, s, m, args, below, meth, c, A, D, Q⟩ := X
  obtain ⟨hx, hb, hml, ho, ht, hK, hA, hR, hlk⟩ := C
  intro H locs ls hP hD hS hl
  exact lv_lxor hx hb hd (kk H locs ls hP hD hS hl)
theorem g_lneg (C : gC X tys cc nL own Ts rm) {x : Int64} (hd : decode cc pc = .ok (.lneg, 1)) (kk : gW X k n ws nL lv (.long (-x) :: st) (pc + 1)) : gW X k n ws nL lv (.long x :: st) pc := by
  obtain ⟨p, l, e, R, s, m, args, below, meth, c, A, D, Q⟩ := X
  obtain ⟨hx, hb, hml, ho, ht, hK, hA, hR, hlk⟩ := C
  intro H locs ls hP hD hS hl
  exact lv_lneg hx hb hd (kk H locs ls hP hD hS hl)
theorem g_ldiv (C : gC X tys cc nL own Ts rm) {x y : Int64} (hd : decode cc pc = .ok (.ldiv, 1)) (hne : ¬ y = 0) (kk : gW X k n ws nL lv (.long (x / y) :: st) (pc + 1)) : gW X k n ws nL lv (.long y :: .long x :: st) pc := by
  obtain ⟨p, l, e, R, s, m, args, below, meth, c, A, D, Q⟩ := X
  obtain ⟨hx, hb, hml, ho, ht, hK, hA, hR, hlk⟩ := C
  intro H locs ls hP hD hS hl
  exact lv_ldiv hx hb hd hne (kk H locs ls hP hD hS hl)
theorem g_lrem (C : gC X tys cc nL own Ts rm) {x y : Int64} (hd : decode cc pc = .ok (.lrem, 1)) (hne : ¬ y = 0) (kk : gW X k n ws nL lv (.long (x - x / y * y) :: st) (pc + 1)) : gW X k n ws nL lv (.long y :: .long x :: st) pc := by
  obtain ⟨p, l, e, R, s, m, args, below, meth, c, A, D, Q⟩ := X
  obtain ⟨hx, hb, hml, ho, ht, hK, hA, hR, hlk⟩ := C
  intro H locs ls hP hD hS hl
  exact lv_lrem hx hb hd hne (kk H locs ls hP hD hS hl)
theorem g_ishl (C : gC X tys cc nL own Ts rm) {x y : Int32} (hd : decode cc pc = .ok (.ishl, 1)) (kk : gW X k n ws nL lv (.int (x <<< (y &&& 31)) :: st) (pc + 1)) : gW X k n ws nL lv (.int y :: .int x :: st) pc := by
  obtain ⟨p, l, e, R, s, m, args, below, meth, c, A, D, Q⟩ := X
  obtain ⟨hx, hb, hml, ho, ht, hK, hA, hR, hlk⟩ := C
  intro H locs ls hP hD hS hl
  exact lv_ishl hx hb hd (kk H locs ls hP hD hS hl)
theorem g_ishr (C : gC X tys cc nL own Ts rm) {x y : Int32} (hd : decode cc pc = .ok (.ishr, 1)) (kk : gW X k n ws nL lv (.int (x >>> (y &&& 31)) :: st) (pc + 1)) : gW X k n ws nL lv (.int y :: .int x :: st) pc := by
  obtain ⟨p, l, e, R, s, m, args, below, meth, c, A, D, Q⟩ := X
  obtain ⟨hx, hb, hml, ho, ht, hK, hA, hR, hlk⟩ := C
  intro H locs ls hP hD hS hl
  exact lv_ishr hx hb hd (kk H locs ls hP hD hS hl)
theorem g_iushr (C : gC X tys cc nL own Ts rm) {x y : Int32} (hd : decode cc pc = .ok (.iushr, 1)) (kk : gW X k n ws nL lv (.int ((x.toUInt32 >>> (y.toUInt32 &&& Int32.toUInt32 31)).toInt32) :: st) (pc + 1)) : gW X k n ws nL lv (.int y :: .int x :: st) pc := by
  obtain ⟨p, l, e, R, s, m, args, below, meth, c, A, D, Q⟩ := X
  obtain ⟨hx, hb, hml, ho, ht, hK, hA, hR, hlk⟩ := C
  intro H locs ls hP hD hS hl
  exact lv_iushr hx hb hd rfl (kk H locs ls hP hD hS hl)
theorem g_lshl (C : gC X tys cc nL own Ts rm) {x : Int64} {y : Int32} (hd : decode cc pc = .ok (.lshl, 1)) (kk : gW X k n ws nL lv (.long (x <<< (y.toInt64 &&& 63)) :: st) (pc + 1)) : gW X k n ws nL lv (.int y :: .long x :: st) pc := by
  obtain ⟨p, l, e, R, s, m, args, below, meth, c, A, D, Q⟩ := X
  obtain ⟨hx, hb, hml, ho, ht, hK, hA, hR, hlk⟩ := C
  intro H locs ls hP hD hS hl
  exact lv_lshl hx hb hd rfl (kk H locs ls hP hD hS hl)
theorem g_lshr (C : gC X tys cc nL own Ts rm) {x : Int64} {y : Int32} (hd : decode cc pc = .ok (.lshr, 1)) (kk : gW X k n ws nL lv (.long (x >>> (y.toInt64 &&& 63)) :: st) (pc + 1)) : gW X k n ws nL lv (.int y :: .long x :: st) pc := by
  obtain ⟨p, l, e, R, s, m, args, below, meth, c, A, D, Q⟩ := X
  obtain ⟨hx, hb, hml, ho, ht, hK, hA, hR, hlk⟩ := C
  intro H locs ls hP hD hS hl
  exact lv_lshr hx hb hd rfl (kk H locs ls hP hD hS hl)
theorem g_lushr (C : gC X tys cc nL own Ts rm) {x : Int64} {y : Int32} (hd : decode cc pc = .ok (.lushr, 1)) (kk : gW X k n ws nL lv (.long ((x.toUInt64 >>> (y.toInt64.toUInt64 &&& Int64.toUInt64 63)).toInt64) :: st) (pc + 1)) : gW X k n ws nL lv (.int y :: .long x :: st) pc := by
  obtain ⟨p, l, e, R, s, m, args, below, meth, c, A, D, Q⟩ := X
  obtain ⟨hx, hb, hml, ho, ht, hK, hA, hR, hlk⟩ := C
  intro H locs ls hP hD hS hl
  exact lv_lushr hx hb hd rfl (kk H locs ls hP hD hS hl)
theorem g_i2l (C : gC X tys cc nL own Ts rm) {x : Int32} (hd : decode cc pc = .ok (.i2l, 1)) (kk : gW X k n ws nL lv (.long x.toInt64 :: st) (pc + 1)) : gW X k n ws nL lv (.int x :: st) pc := by
  obtain ⟨p, l, e, R, s, m, args, below, meth, c, A, D, Q⟩ := X
  obtain ⟨hx, hb, hml, ho, ht, hK, hA, hR, hlk⟩ := C
  intro H locs ls hP hD hS hl
  exact lv_i2l hx hb hd rfl (kk H locs ls hP hD hS hl)
theorem g_l2i (C : gC X tys cc nL own Ts rm) {x : Int64} (hd : decode cc pc = .ok (.l2i, 1)) (kk : gW X k n ws nL lv (.int x.toInt32 :: st) (pc + 1)) : gW X k n ws nL lv (.long x :: st) pc := by
  obtain ⟨p, l, e, R, s, m, args, below, meth, c, A, D, Q⟩ := X
  obtain ⟨hx, hb, hml, ho, ht, hK, hA, hR, hlk⟩ := C
  intro H locs ls hP hD hS hl
  exact lv_l2i hx hb hd rfl (kk H locs ls hP hD hS hl)
theorem g_lcmp (C : gC X tys cc nL own Ts rm) {x y : Int64} (hd : decode cc pc = .ok (.lcmp, 1)) (kk : gW X k n ws nL lv (.int (lg_cmp x y) :: st) (pc + 1)) : gW X k n ws nL lv (.long y :: .long x :: st) pc := by
  obtain ⟨p, l, e, R, s, m, args, below, meth, c, A, D, Q⟩ := X
  obtain ⟨hx, hb, hml, ho, ht, hK, hA, hR, hlk⟩ := C
  intro H locs ls hP hD hS hl
  exact W.lcmp hx hb hd (kk H locs ls hP hD hS hl)
theorem g_dup (C : gC X tys cc nL own Ts rm) {va : Value} (hd : decode cc pc = .ok (.dup, 1)) (hva : va.category = 1) (kk : gW X k n ws nL lv (va :: va :: st) (pc + 1)) : gW X k n ws nL lv (va :: st) pc := by
  obtain ⟨p, l, e, R, s, m, args, below, meth, c, A, D, Q⟩ := X
  obtain ⟨hx, hb, hml, ho, ht, hK, hA, hR, hlk⟩ := C
  intro H locs ls hP hD hS hl
  exact lv_dup hx hb hd hva (kk H locs ls hP hD hS hl)
theorem g_dup2_2 (C : gC X tys cc nL own Ts rm) {va : Value} (hd : decode cc pc = .ok (.dup2, 1)) (hva : va.category = 2) (kk : gW X k n ws nL lv (va :: va :: st) (pc + 1)) : gW X k n ws nL lv (va :: st) pc := by
  obtain ⟨p, l, e, R, s, m, args, below, meth, c, A, D, Q⟩ := X
  obtain ⟨hx, hb, hml, ho, ht, hK, hA, hR, hlk⟩ := C
  intro H locs ls hP hD hS hl
  exact lv_dup2_2 hx hb hd hva (kk H locs ls hP hD hS hl)
theorem g_dup2_11 (C : gC X tys cc nL own Ts rm) {va vb : Value} (hd : decode cc pc = .ok (.dup2, 1)) (hva : va.category = 1) (hvb : vb.category = 1) (kk : gW X k n ws nL lv (va :: vb :: va :: vb :: st) (pc + 1)) : gW X k n ws nL lv (va :: vb :: st) pc := by
  obtain ⟨p, l, e, R, s, m, args, below, meth, c, A, D, Q⟩ := X
  obtain ⟨hx, hb, hml, ho, ht, hK, hA, hR, hlk⟩ := C
  intro H locs ls hP hD hS hl
  exact lv_dup2_11 hx hb hd hva hvb (kk H locs ls hP hD hS hl)
theorem g_goto (C : gC X tys cc nL own Ts rm) {off : Int} {tgt : Nat} (hd : decode cc pc = .ok (.goto off, 3)) (h0 : (pc : Int) + off = (tgt : Int)) (kk : gW X k n ws nL lv st tgt) : gW X k n ws nL lv (st) pc := by
  obtain ⟨p, l, e, R, s, m, args, below, meth, c, A, D, Q⟩ := X
  obtain ⟨hx, hb, hml, ho, ht, hK, hA, hR, hlk⟩ := C
  intro H locs ls hP hD hS hl
  exact lv_goto hx hb hd h0 (kk H locs ls hP hD hS hl)
theorem g_icmp_eq (C : gC X tys cc nL own Ts rm) {x y : Int32} {off : Int} {tgt : Nat} (hd : decode cc pc = .ok (.if_icmp .eq off, 3)) (h0 : (pc : Int) + off = (tgt : Int)) (kt : x = y → gW X k n ws nL lv st tgt) (kf : ¬ x = y → gW X k n ws nL lv st (pc + 3)) : gW X k n ws nL lv (.int y :: .int x :: st) pc := by
  obtain ⟨p, l, e, R, s, m, args, below, meth, c, A, D, Q⟩ := X
  obtain ⟨hx, hb, hml, ho, ht, hK, hA, hR, hlk⟩ := C
  intro H locs ls hP hD hS hl
  exact lv_icmp_eq hx hb hd h0 (fun h => kt h H locs ls hP hD hS hl) (fun h => kf h H locs ls hP hD hS hl)
theorem g_if_eq (C : gC X tys cc nL own Ts rm) {x : Int32} {off : Int} {tgt : Nat} (hd : decode cc pc = .ok (.ifCond .eq off, 3)) (h0 : (pc : Int) + off = (tgt : Int)) (kt : x = 0 → gW X k n ws nL lv st tgt) (kf : ¬ x = 0 → gW X k n ws nL lv st (pc + 3)) : gW X k n ws nL lv (.int x :: st) pc := by
  obtain ⟨p, l, e, R, s, m, args, below, meth, c, A, D, Q⟩ := X
  obtain ⟨hx, hb, hml, ho, ht, hK, hA, hR, hlk⟩ := C
  intro H locs ls hP hD hS hl
  exact lv_if_eq hx hb hd h0 (fun h => kt h H locs ls hP hD hS hl) (fun h => kf h H locs ls hP hD hS hl)
theorem g_icmp_ne (C : gC X tys cc nL own Ts rm) {x y : Int32} {off : Int} {tgt : Nat} (hd : decode cc pc = .ok (.if_icmp .ne off, 3)) (h0 : (pc : Int) + off = (tgt : Int)) (kt : ¬ x = y → gW X k n ws nL lv st tgt) (kf : x = y → gW X k n ws nL lv st (pc + 3)) : gW X k n ws nL lv (.int y :: .int x :: st) pc := by
  obtain ⟨p, l, e, R, s, m, args, below, meth, c, A, D, Q⟩ := X
  obtain ⟨hx, hb, hml, ho, ht, hK, hA, hR, hlk⟩ := C
  intro H locs ls hP hD hS hl
  exact lv_icmp_ne hx hb hd h0 (fun h => kt h H locs ls hP hD hS hl) (fun h => kf h H locs ls hP hD hS hl)
theorem g_if_ne (C : gC X tys cc nL own Ts rm) {x : Int32} {off : Int} {tgt : Nat} (hd : decode cc pc = .ok (.ifCond .ne off, 3)) (h0 : (pc : Int) + off = (tgt : Int)) (kt : ¬ x = 0 → gW X k n ws nL lv st tgt) (kf : x = 0 → gW X k n ws nL lv st (pc + 3)) : gW X k n ws nL lv (.int x :: st) pc := by
  obtain ⟨p, l, e, R, s, m, args, below, meth, c, A, D, Q⟩ := X
  obtain ⟨hx, hb, hml, ho, ht, hK, hA, hR, hlk⟩ := C
  intro H locs ls hP hD hS hl
  exact lv_if_ne hx hb hd h0 (fun h => kt h H locs ls hP hD hS hl) (fun h => kf h H locs ls hP hD hS hl)
theorem g_icmp_lt (C : gC X tys cc nL own Ts rm) {x y : Int32} {off : Int} {tgt : Nat} (hd : decode cc pc = .ok (.if_icmp .lt off, 3)) (h0 : (pc : Int) + off = (tgt : Int)) (kt : x < y → gW X k n ws nL lv st tgt) (kf : ¬ x < y → gW X k n ws nL lv st (pc + 3)) : gW X k n ws nL lv (.int y :: .int x :: st) pc := by
  obtain ⟨p, l, e, R, s, m, args, below, meth, c, A, D, Q⟩ := X
  obtain ⟨hx, hb, hml, ho, ht, hK, hA, hR, hlk⟩ := C
  intro H locs ls hP hD hS hl
  exact lv_icmp_lt hx hb hd h0 (fun h => kt h H locs ls hP hD hS hl) (fun h => kf h H locs ls hP hD hS hl)
theorem g_if_lt (C : gC X tys cc nL own Ts rm) {x : Int32} {off : Int} {tgt : Nat} (hd : decode cc pc = .ok (.ifCond .lt off, 3)) (h0 : (pc : Int) + off = (tgt : Int)) (kt : x < 0 → gW X k n ws nL lv st tgt) (kf : ¬ x < 0 → gW X k n ws nL lv st (pc + 3)) : gW X k n ws nL lv (.int x :: st) pc := by
  obtain ⟨p, l, e, R, s, m, args, below, meth, c, A, D, Q⟩ := X
  obtain ⟨hx, hb, hml, ho, ht, hK, hA, hR, hlk⟩ := C
  intro H locs ls hP hD hS hl
  exact lv_if_lt hx hb hd h0 (fun h => kt h H locs ls hP hD hS hl) (fun h => kf h H locs ls hP hD hS hl)
theorem g_icmp_ge (C : gC X tys cc nL own Ts rm) {x y : Int32} {off : Int} {tgt : Nat} (hd : decode cc pc = .ok (.if_icmp .ge off, 3)) (h0 : (pc : Int) + off = (tgt : Int)) (kt : y ≤ x → gW X k n ws nL lv st tgt) (kf : ¬ y ≤ x → gW X k n ws nL lv st (pc + 3)) : gW X k n ws nL lv (.int y :: .int x :: st) pc := by
  obtain ⟨p, l, e, R, s, m, args, below, meth, c, A, D, Q⟩ := X
  obtain ⟨hx, hb, hml, ho, ht, hK, hA, hR, hlk⟩ := C
  intro H locs ls hP hD hS hl
  exact lv_icmp_ge hx hb hd h0 (fun h => kt h H locs ls hP hD hS hl) (fun h => kf h H locs ls hP hD hS hl)
theorem g_if_ge (C : gC X tys cc nL own Ts rm) {x : Int32} {off : Int} {tgt : Nat} (hd : decode cc pc = .ok (.ifCond .ge off, 3)) (h0 : (pc : Int) + off = (tgt : Int)) (kt : 0 ≤ x → gW X k n ws nL lv st tgt) (kf : ¬ 0 ≤ x → gW X k n ws nL lv st (pc + 3)) : gW X k n ws nL lv (.int x :: st) pc := by
  obtain ⟨p, l, e, R, s, m, args, below, meth, c, A, D, Q⟩ := X
  obtain ⟨hx, hb, hml, ho, ht, hK, hA, hR, hlk⟩ := C
  intro H locs ls hP hD hS hl
  exact lv_if_ge hx hb hd h0 (fun h => kt h H locs ls hP hD hS hl) (fun h => kf h H locs ls hP hD hS hl)
theorem g_icmp_gt (C : gC X tys cc nL own Ts rm) {x y : Int32} {off : Int} {tgt : Nat} (hd : decode cc pc = .ok (.if_icmp .gt off, 3)) (h0 : (pc : Int) + off = (tgt : Int)) (kt : y < x → gW X k n ws nL lv st tgt) (kf : ¬ y < x → gW X k n ws nL lv st (pc + 3)) : gW X k n ws nL lv (.int y :: .int x :: st) pc := by
  obtain ⟨p, l, e, R, s, m, args, below, meth, c, A, D, Q⟩ := X
  obtain ⟨hx, hb, hml, ho, ht, hK, hA, hR, hlk⟩ := C
  intro H locs ls hP hD hS hl
  exact lv_icmp_gt hx hb hd h0 (fun h => kt h H locs ls hP hD hS hl) (fun h => kf h H locs ls hP hD hS hl)
theorem g_if_gt (C : gC X tys cc nL own Ts rm) {x : Int32} {off : Int} {tgt : Nat} (hd : decode cc pc = .ok (.ifCond .gt off, 3)) (h0 : (pc : Int) + off = (tgt : Int)) (kt : 0 < x → gW X k n ws nL lv st tgt) (kf : ¬ 0 < x → gW X k n ws nL lv st (pc + 3)) : gW X k n ws nL lv (.int x :: st) pc := by
  obtain ⟨p, l, e, R, s, m, args, below, meth, c, A, D, Q⟩ := X
  obtain ⟨hx, hb, hml, ho, ht, hK, hA, hR, hlk⟩ := C
  intro H locs ls hP hD hS hl
  exact lv_if_gt hx hb hd h0 (fun h => kt h H locs ls hP hD hS hl) (fun h => kf h H locs ls hP hD hS hl)
theorem g_icmp_le (C : gC X tys cc nL own Ts rm) {x y : Int32} {off : Int} {tgt : Nat} (hd : decode cc pc = .ok (.if_icmp .le off, 3)) (h0 : (pc : Int) + off = (tgt : Int)) (kt : x ≤ y → gW X k n ws nL lv st tgt) (kf : ¬ x ≤ y → gW X k n ws nL lv st (pc + 3)) : gW X k n ws nL lv (.int y :: .int x :: st) pc := by
  obtain ⟨p, l, e, R, s, m, args, below, meth, c, A, D, Q⟩ := X
  obtain ⟨hx, hb, hml, ho, ht, hK, hA, hR, hlk⟩ := C
  intro H locs ls hP hD hS hl
  exact lv_icmp_le hx hb hd h0 (fun h => kt h H locs ls hP hD hS hl) (fun h => kf h H locs ls hP hD hS hl)
theorem g_if_le (C : gC X tys cc nL own Ts rm) {x : Int32} {off : Int} {tgt : Nat} (hd : decode cc pc = .ok (.ifCond .le off, 3)) (h0 : (pc : Int) + off = (tgt : Int)) (kt : x ≤ 0 → gW X k n ws nL lv st tgt) (kf : ¬ x ≤ 0 → gW X k n ws nL lv st (pc + 3)) : gW X k n ws nL lv (.int x :: st) pc := by
  obtain ⟨p, l, e, R, s, m, args, below, meth, c, A, D, Q⟩ := X
  obtain ⟨hx, hb, hml, ho, ht, hK, hA, hR, hlk⟩ := C
  intro H locs ls hP hD hS hl
  exact lv_if_le hx hb hd h0 (fun h => kt h H locs ls hP hD hS hl) (fun h => kf h H locs ls hP hD hS hl)
theorem lgc_tri (x y : Int64) : (y < x ∧ lg_cmp x y = 1) ∨ (x = y ∧ lg_cmp x y = 0) ∨ (x < y ∧ lg_cmp x y = -1) := by
  by_cases h1 : y < x
  · exact Or.inl ⟨h1, by simp [lg_cmp, h1]⟩
  · by_cases h2 : x = y
    · exact Or.inr (Or.inl ⟨h2, by subst h2; simp [lg_cmp]⟩)
    · refine Or.inr (Or.inr ⟨?_, by simp [lg_cmp, h1, h2]⟩)
      rw [Int64.lt_iff_toInt_lt] at h1 ⊢
      have h3 : ¬ x.toInt = y.toInt := fun q => h2 (Int64.toInt_inj.mp q)
      omega
theorem lgc_eq {x y : Int64} : lg_cmp x y = 0 ↔ x = y := by
  rcases lgc_tri x y with ⟨h, e⟩ | ⟨h, e⟩ | ⟨h, e⟩
  all_goals
    rw [e]
    have h' := h
    simp only [Int64.lt_iff_toInt_lt, Int64.le_iff_toInt_le, ← Int64.toInt_inj] at h' ⊢
    constructor
    · intro q; first | exact absurd q (by decide) | omega
    · intro q; first | decide | (exfalso; omega)
theorem lgc_ne {x y : Int64} : ¬ lg_cmp x y = 0 ↔ ¬ x = y := by
  rcases lgc_tri x y with ⟨h, e⟩ | ⟨h, e⟩ | ⟨h, e⟩
  all_goals
    rw [e]
    have h' := h
    simp only [Int64.lt_iff_toInt_lt, Int64.le_iff_toInt_le, ← Int64.toInt_inj] at h' ⊢
    constructor
    · intro q; first | exact absurd q (by decide) | omega
    · intro q; first | decide | (exfalso; omega)
theorem lgc_lt {x y : Int64} : lg_cmp x y < 0 ↔ x < y := by
  rcases lgc_tri x y with ⟨h, e⟩ | ⟨h, e⟩ | ⟨h, e⟩
  all_goals
    rw [e]
    have h' := h
    simp only [Int64.lt_iff_toInt_lt, Int64.le_iff_toInt_le, ← Int64.toInt_inj] at h' ⊢
    constructor
    · intro q; first | exact absurd q (by decide) | omega
    · intro q; first | decide | (exfalso; omega)
theorem lgc_ge {x y : Int64} : 0 ≤ lg_cmp x y ↔ y ≤ x := by
  rcases lgc_tri x y with ⟨h, e⟩ | ⟨h, e⟩ | ⟨h, e⟩
  all_goals
    rw [e]
    have h' := h
    simp only [Int64.lt_iff_toInt_lt, Int64.le_iff_toInt_le, ← Int64.toInt_inj] at h' ⊢
    constructor
    · intro q; first | exact absurd q (by decide) | omega
    · intro q; first | decide | (exfalso; omega)
theorem lgc_gt {x y : Int64} : 0 < lg_cmp x y ↔ y < x := by
  rcases lgc_tri x y with ⟨h, e⟩ | ⟨h, e⟩ | ⟨h, e⟩
  all_goals
    rw [e]
    have h' := h
    simp only [Int64.lt_iff_toInt_lt, Int64.le_iff_toInt_le, ← Int64.toInt_inj] at h' ⊢
    constructor
    · intro q; first | exact absurd q (by decide) | omega
    · intro q; first | decide | (exfalso; omega)
theorem lgc_le {x y : Int64} : lg_cmp x y ≤ 0 ↔ x ≤ y := by
  rcases lgc_tri x y with ⟨h, e⟩ | ⟨h, e⟩ | ⟨h, e⟩
  all_goals
    rw [e]
    have h' := h
    simp only [Int64.lt_iff_toInt_lt, Int64.le_iff_toInt_le, ← Int64.toInt_inj] at h' ⊢
    constructor
    · intro q; first | exact absurd q (by decide) | omega
    · intro q; first | decide | (exfalso; omega)
theorem g_lcmp_eq (C : gC X tys cc nL own Ts rm) {x y : Int64} {off : Int} {tgt pc2 : Nat} (hd1 : decode cc pc = .ok (.lcmp, 1)) (hd : decode cc pc2 = .ok (.ifCond .eq off, 3)) (hp : pc + 1 = pc2) (h0 : (pc2 : Int) + off = (tgt : Int)) (kt : x = y → gW X k n ws nL lv st tgt) (kf : ¬ x = y → gW X k n ws nL lv st (pc + 4)) : gW X k n ws nL lv (.long y :: .long x :: st) pc := by
  obtain ⟨p, l, e, R, s, m, args, below, meth, c, A, D, Q⟩ := X
  obtain ⟨hx, hb, hml, ho, ht, hK, hA, hR, hlk⟩ := C
  intro H locs ls hP hD hS hl
  subst hp
  exact W.lcmp hx hb hd1 (lv_if_eq hx hb hd h0 (fun h => kt (lgc_eq.mp h) H locs ls hP hD hS hl) (fun h => kf (fun q => h (lgc_eq.mpr q)) H locs ls hP hD hS hl))
theorem g_lcmp_ne (C : gC X tys cc nL own Ts rm) {x y : Int64} {off : Int} {tgt pc2 : Nat} (hd1 : decode cc pc = .ok (.lcmp, 1)) (hd : decode cc pc2 = .ok (.ifCond .ne off, 3)) (hp : pc + 1 = pc2) (h0 : (pc2 : Int) + off = (tgt : Int)) (kt : ¬ x = y → gW X k n ws nL lv st tgt) (kf : x = y → gW X k n ws nL lv st (pc + 4)) : gW X k n ws nL lv (.long y :: .long x :: st) pc := by
  obtain ⟨p, l, e, R, s, m, args, below, meth, c, A, D, Q⟩ := X
  obtain ⟨hx, hb, hml, ho, ht, hK, hA, hR, hlk⟩ := C
  intro H locs ls hP hD hS hl
  subst hp
  exact W.lcmp hx hb hd1 (lv_if_ne hx hb hd h0 (fun h => kt (lgc_ne.mp h) H locs ls hP hD hS hl) (fun h => kf (Classical.byContradiction (fun q => absurd (lgc_ne.mpr q) (by rw [h]; decide))) H locs ls hP hD hS hl))
theorem g_lcmp_lt (C : gC X tys cc nL own Ts rm) {x y : Int64} {off : Int} {tgt pc2 : Nat} (hd1 : decode cc pc = .ok (.lcmp, 1)) (hd : decode cc pc2 = .ok (.ifCond .lt off, 3)) (hp : pc + 1 = pc2) (h0 : (pc2 : Int) + off = (tgt : Int)) (kt : x < y → gW X k n ws nL lv st tgt) (kf : ¬ x < y → gW X k n ws nL lv st (pc + 4)) : gW X k n ws nL lv (.long y :: .long x :: st) pc := by
  obtain ⟨p, l, e, R, s, m, args, below, meth, c, A, D, Q⟩ := X
  obtain ⟨hx, hb, hml, ho, ht, hK, hA, hR, hlk⟩ := C
  intro H locs ls hP hD hS hl
  subst hp
  exact W.lcmp hx hb hd1 (lv_if_lt hx hb hd h0 (fun h => kt (lgc_lt.mp h) H locs ls hP hD hS hl) (fun h => kf (fun q => h (lgc_lt.mpr q)) H locs ls hP hD hS hl))
theorem g_lcmp_ge (C : gC X tys cc nL own Ts rm) {x y : Int64} {off : Int} {tgt pc2 : Nat} (hd1 : decode cc pc = .ok (.lcmp, 1)) (hd : decode cc pc2 = .ok (.ifCond .ge off, 3)) (hp : pc + 1 = pc2) (h0 : (pc2 : Int) + off = (tgt : Int)) (kt : y ≤ x → gW X k n ws nL lv st tgt) (kf : ¬ y ≤ x → gW X k n ws nL lv st (pc + 4)) : gW X k n ws nL lv (.long y :: .long x :: st) pc := by
  obtain ⟨p, l, e, R, s, m, args, below, meth, c, A, D, Q⟩ := X
  obtain ⟨hx, hb, hml, ho, ht, hK, hA, hR, hlk⟩ := C
  intro H locs ls hP hD hS hl
  subst hp
  exact W.lcmp hx hb hd1 (lv_if_ge hx hb hd h0 (fun h => kt (lgc_ge.mp h) H locs ls hP hD hS hl) (fun h => kf (fun q => h (lgc_ge.mpr q)) H locs ls hP hD hS hl))
theorem g_lcmp_gt (C : gC X tys cc nL own Ts rm) {x y : Int64} {off : Int} {tgt pc2 : Nat} (hd1 : decode cc pc = .ok (.lcmp, 1)) (hd : decode cc pc2 = .ok (.ifCond .gt off, 3)) (hp : pc + 1 = pc2) (h0 : (pc2 : Int) + off = (tgt : Int)) (kt : y < x → gW X k n ws nL lv st tgt) (kf : ¬ y < x → gW X k n ws nL lv st (pc + 4)) : gW X k n ws nL lv (.long y :: .long x :: st) pc := by
  obtain ⟨p, l, e, R, s, m, args, below, meth, c, A, D, Q⟩ := X
  obtain ⟨hx, hb, hml, ho, ht, hK, hA, hR, hlk⟩ := C
  intro H locs ls hP hD hS hl
  subst hp
  exact W.lcmp hx hb hd1 (lv_if_gt hx hb hd h0 (fun h => kt (lgc_gt.mp h) H locs ls hP hD hS hl) (fun h => kf (fun q => h (lgc_gt.mpr q)) H locs ls hP hD hS hl))
theorem g_lcmp_le (C : gC X tys cc nL own Ts rm) {x y : Int64} {off : Int} {tgt pc2 : Nat} (hd1 : decode cc pc = .ok (.lcmp, 1)) (hd : decode cc pc2 = .ok (.ifCond .le off, 3)) (hp : pc + 1 = pc2) (h0 : (pc2 : Int) + off = (tgt : Int)) (kt : x ≤ y → gW X k n ws nL lv st tgt) (kf : ¬ x ≤ y → gW X k n ws nL lv st (pc + 4)) : gW X k n ws nL lv (.long y :: .long x :: st) pc := by
  obtain ⟨p, l, e, R, s, m, args, below, meth, c, A, D, Q⟩ := X
  obtain ⟨hx, hb, hml, ho, ht, hK, hA, hR, hlk⟩ := C
  intro H locs ls hP hD hS hl
  subst hp
  exact W.lcmp hx hb hd1 (lv_if_le hx hb hd h0 (fun h => kt (lgc_le.mp h) H locs ls hP hD hS hl) (fun h => kf (fun q => h (lgc_le.mpr q)) H locs ls hP hD hS hl))
theorem g_ifeq_b (C : gC X tys cc nL own Ts rm) {b : Bool} {off : Int} {tgt : Nat} (hd : decode cc pc = .ok (.ifCond .eq off, 3)) (h0 : (pc : Int) + off = (tgt : Int)) (kt : b = false → gW X k n ws nL lv st tgt) (kf : b = true → gW X k n ws nL lv st (pc + 3)) : gW X k n ws nL lv (.int (bI b) :: st) pc := by
  obtain ⟨p, l, e, R, s, m, args, below, meth, c, A, D, Q⟩ := X
  obtain ⟨hx, hb, hml, ho, ht, hK, hA, hR, hlk⟩ := C
  intro H locs ls hP hD hS hl
  exact lv_if_eq hx hb hd h0 (fun h => kt (bI_0.mp h) H locs ls hP hD hS hl) (fun h => kf (by cases b; exact absurd (bI_f rfl) h; rfl) H locs ls hP hD hS hl)
theorem g_ifne_b (C : gC X tys cc nL own Ts rm) {b : Bool} {off : Int} {tgt : Nat} (hd : decode cc pc = .ok (.ifCond .ne off, 3)) (h0 : (pc : Int) + off = (tgt : Int)) (kt : b = true → gW X k n ws nL lv st tgt) (kf : b = false → gW X k n ws nL lv st (pc + 3)) : gW X k n ws nL lv (.int (bI b) :: st) pc := by
  obtain ⟨p, l, e, R, s, m, args, below, meth, c, A, D, Q⟩ := X
  obtain ⟨hx, hb, hml, ho, ht, hK, hA, hR, hlk⟩ := C
  intro H locs ls hP hD hS hl
  exact lv_if_ne hx hb hd h0 (fun h => kt (by cases b; exact absurd (bI_f rfl) h; rfl) H locs ls hP hD hS hl) (fun h => kf (bI_0.mp h) H locs ls hP hD hS hl)
theorem g_get (C : gC X tys cc nL own Ts rm) {index ci kf : Nat} {Cn : String} {T : u_T} {N : Nat} (F : gF Ts own index ci kf Cn T N) (q0 : Nat) {a : Nat} {fs : List Value} {v : Value} (he : ws[q0]? = some (a, .inr (ci, fs))) (hv : fs[kf]? = some v) (hd : decode cc pc = .ok (.getfield index, 3)) (kk : gW X k n ws nL lv (v :: st) (pc + 3)) : gW X k n ws nL lv (.ref a :: st) pc := by
  obtain ⟨p, l, e, R, s, m, args, below, meth, c, A, D, Q⟩ := X
  obtain ⟨hx, hb, hml, ho, ht, hK, hA, hR, hlk⟩ := C
  intro H locs ls hP hD hS hl
  exact va_get (D := D) (ref := (T kf).1) hx hb ht F.1 ho hK hP q0 he F.2.2.1 kf F.2.2.2 (ht _ F.2.1) (fun _ h => h) hv hd (kk H locs ls hP hD hS hl)
theorem g_put (C : gC X tys cc nL own Ts rm) {index ci kf : Nat} {Cn : String} {T : u_T} {N : Nat} (F : gF Ts own index ci kf Cn T N) (q0 : Nat) {a : Nat} {fs : List Value} {v : Value} {ty0 : Nat → FieldType} (hty : ∀ k, k < N → parseFieldDescriptor (T k).2.2.1 = some (ty0 k)) (hnm : ∀ a, a < N → ∀ b, b < N → a ≠ b → (T a).2.1 ≠ (T b).2.1) (he : ws[q0]? = some (a, .inr (ci, fs))) (hfin : (T kf).2.2.2 = false) (hna : narrow (ty0 kf) v = v) (hfit : fits (ty0 kf) v = true) (hle : kf < fs.length) {ws2 : va_W} (hw : ws.set q0 (a, .inr (ci, fs.set kf v)) = ws2) (hd : decode cc pc = .ok (.putfield index, 3)) (kk : gW X k n ws2 nL lv st (pc + 3)) : gW X k n ws nL lv (v :: .ref a :: st) pc := by
  obtain ⟨p, l, e, R, s, m, args, below, meth, c, A, D, Q⟩ := X
  obtain ⟨hx, hb, hml, ho, ht, hK, hA, hR, hlk⟩ := C
  intro H locs ls hP hD hS hl
  subst hw
  exact va_put (D := D) (ref := (T kf).1) hx hb ht F.1 ty0 hty hnm ho hK hP hD hS q0 he F.2.2.1 kf F.2.2.2 (ht _ F.2.1) (fun _ h => h) hfin (hty kf F.2.2.2) hna hfit hle hd (fun H1 locs1 hP hD hS => kk H1 locs1 ls hP hD hS hl)
theorem g_iald (C : gC X tys cc nL own Ts rm) (q0 t0 : Nat) {a : Nat} {cA : ClassId} {N : Nat} {f : Nat → Int32} {i : Int32} (ha : ws[q0]? = some (a, .inl (cA, N, .inl f))) (hty : tys[t0]? = some (cA, .int)) (hin : vp_in i N) (hd : decode cc pc = .ok (.iaload, 1)) (kk : gW X k n ws nL lv (.int (f i.toNatClampNeg) :: st) (pc + 1)) : gW X k n ws nL lv (.int i :: .ref a :: st) pc := by
  obtain ⟨p, l, e, R, s, m, args, below, meth, c, A, D, Q⟩ := X
  obtain ⟨hx, hb, hml, ho, ht, hK, hA, hR, hlk⟩ := C
  intro H locs ls hP hD hS hl
  exact va_iald hx hb hK hP q0 t0 ha hty hin hd (kk H locs ls hP hD hS hl)
theorem g_zald (C : gC X tys cc nL own Ts rm) (q0 t0 : Nat) {a : Nat} {cA : ClassId} {N : Nat} {f : Nat → Int32} {i : Int32} (ha : ws[q0]? = some (a, .inl (cA, N, .inl f))) (hty : tys[t0]? = some (cA, .boolean)) (hin : vp_in i N) (hd : decode cc pc = .ok (.baload, 1)) (kk : gW X k n ws nL lv (.int (f i.toNatClampNeg) :: st) (pc + 1)) : gW X k n ws nL lv (.int i :: .ref a :: st) pc := by
  obtain ⟨p, l, e, R, s, m, args, below, meth, c, A, D, Q⟩ := X
  obtain ⟨hx, hb, hml, ho, ht, hK, hA, hR, hlk⟩ := C
  intro H locs ls hP hD hS hl
  exact va_zald hx hb hK hP q0 t0 ha hty hin hd (kk H locs ls hP hD hS hl)
theorem g_lald (C : gC X tys cc nL own Ts rm) (q0 t0 : Nat) {a : Nat} {cA : ClassId} {N : Nat} {f : Nat → Int64} {i : Int32} (ha : ws[q0]? = some (a, .inl (cA, N, .inr (.inl f)))) (hty : tys[t0]? = some (cA, .long)) (hin : vp_in i N) (hd : decode cc pc = .ok (.laload, 1)) (kk : gW X k n ws nL lv (.long (f i.toNatClampNeg) :: st) (pc + 1)) : gW X k n ws nL lv (.int i :: .ref a :: st) pc := by
  obtain ⟨p, l, e, R, s, m, args, below, meth, c, A, D, Q⟩ := X
  obtain ⟨hx, hb, hml, ho, ht, hK, hA, hR, hlk⟩ := C
  intro H locs ls hP hD hS hl
  exact va_lald hx hb hK hP q0 t0 ha hty hin hd (kk H locs ls hP hD hS hl)
theorem g_iast (C : gC X tys cc nL own Ts rm) (q0 t0 : Nat) {a : Nat} {cA : ClassId} {N : Nat} {f : Nat → Int32} {i : Int32} {x : Int32} (ha : ws[q0]? = some (a, .inl (cA, N, .inl f))) (hty : tys[t0]? = some (cA, .int)) (hin : vp_in i N) {ws2 : va_W} (hw : ws.set q0 (a, .inl (cA, N, .inl (upd f i.toNatClampNeg x))) = ws2) (hd : decode cc pc = .ok (.iastore, 1)) (kk : gW X k n ws2 nL lv st (pc + 1)) : gW X k n ws nL lv (.int x :: .int i :: .ref a :: st) pc := by
  obtain ⟨p, l, e, R, s, m, args, below, meth, c, A, D, Q⟩ := X
  obtain ⟨hx, hb, hml, ho, ht, hK, hA, hR, hlk⟩ := C
  intro H locs ls hP hD hS hl
  subst hw
  exact va_iast hx hb hK hP hD hS q0 t0 ha hty hin hd (fun H1 locs1 hP hD hS => kk H1 locs1 ls hP hD hS hl)
theorem g_zast (C : gC X tys cc nL own Ts rm) (q0 t0 : Nat) {a : Nat} {cA : ClassId} {N : Nat} {f : Nat → Int32} {i : Int32} {x : Int32} (ha : ws[q0]? = some (a, .inl (cA, N, .inl f))) (hty : tys[t0]? = some (cA, .boolean)) (hin : vp_in i N) {ws2 : va_W} (hw : ws.set q0 (a, .inl (cA, N, .inl (upd f i.toNatClampNeg (vp_nar .boolean x)))) = ws2) (hd : decode cc pc = .ok (.bastore, 1)) (kk : gW X k n ws2 nL lv st (pc + 1)) : gW X k n ws nL lv (.int x :: .int i :: .ref a :: st) pc := by
  obtain ⟨p, l, e, R, s, m, args, below, meth, c, A, D, Q⟩ := X
  obtain ⟨hx, hb, hml, ho, ht, hK, hA, hR, hlk⟩ := C
  intro H locs ls hP hD hS hl
  subst hw
  exact va_zast hx hb hK hP hD hS q0 t0 ha hty hin hd (fun H1 locs1 hP hD hS => kk H1 locs1 ls hP hD hS hl)
theorem g_last (C : gC X tys cc nL own Ts rm) (q0 t0 : Nat) {a : Nat} {cA : ClassId} {N : Nat} {f : Nat → Int64} {i : Int32} {x : Int64} (ha : ws[q0]? = some (a, .inl (cA, N, .inr (.inl f)))) (hty : tys[t0]? = some (cA, .long)) (hin : vp_in i N) {ws2 : va_W} (hw : ws.set q0 (a, .inl (cA, N, .inr (.inl (vp_updL f i.toNatClampNeg x)))) = ws2) (hd : decode cc pc = .ok (.lastore, 1)) (kk : gW X k n ws2 nL lv st (pc + 1)) : gW X k n ws nL lv (.long x :: .int i :: .ref a :: st) pc := by
  obtain ⟨p, l, e, R, s, m, args, below, meth, c, A, D, Q⟩ := X
  obtain ⟨hx, hb, hml, ho, ht, hK, hA, hR, hlk⟩ := C
  intro H locs ls hP hD hS hl
  subst hw
  exact va_last hx hb hK hP hD hS q0 t0 ha hty hin hd (fun H1 locs1 hP hD hS => kk H1 locs1 ls hP hD hS hl)
theorem g_alen (C : gC X tys cc nL own Ts rm) (q0 t0 : Nat) {a : Nat} {cA : ClassId} {x : vp_A} {ty : FieldType} {v : Int32} (ha : ws[q0]? = some (a, .inl (cA, x))) (hty : tys[t0]? = some (cA, ty)) (hv : Int32.ofNat x.1 = v) (hd : decode cc pc = .ok (.arraylength, 1)) (kk : gW X k n ws nL lv (.int v :: st) (pc + 1)) : gW X k n ws nL lv (.ref a :: st) pc := by
  obtain ⟨p, l, e, R, s, m, args, below, meth, c, A, D, Q⟩ := X
  obtain ⟨hx, hb, hml, ho, ht, hK, hA, hR, hlk⟩ := C
  intro H locs ls hP hD hS hl
  exact va_alen hx hb hK hP q0 t0 ha hty hv hd (kk H locs ls hP hD hS hl)
theorem g_mmin (C : gC X tys cc nL own Ts rm) {x y : Int32} {index : Nat} (h1 : Cond.methodLink own index Lib.Math.min.name ∈ Ts) (h2 : Cond.static Lib.Math.min.name ∈ Ts) (h3 : Cond.initialized "java/lang/Math" ∈ Ts) (h4 : Cond.code Lib.Math.min.name Lib.Math.min.code 2 (some .int) ∈ Ts) (hf : 1 ≤ rm.frames) (hlo : (st.map fun v => v.category).sum + 13 ≤ rm.locals) (hc : k ≤ rm.cells) (hs : n ≤ rm.slots) (hd : decode cc pc = .ok (.invokestatic index, 3)) (kk : gW X k n ws nL lv (.int (if y < x then y else x) :: st) (pc + 3)) : gW X k n ws nL lv (.int y :: .int x :: st) pc := by
  obtain ⟨p, l, e, R, s, m, args, below, meth, c, A, D, Q⟩ := X
  obtain ⟨hx, hb, hml, ho, ht, hK, hA, hR, hlk⟩ := C
  intro H locs ls hP hD hS hl
  subst hR
  exact va_mmin hx hb (hml.trans hl.1.symm) ho (ht _ h1) (ht _ h2) (ht _ h3) (ht _ h4) hf (hlo) hc hs hd (kk H locs ls hP hD hS hl)
theorem g_mmax (C : gC X tys cc nL own Ts rm) {x y : Int32} {index : Nat} (h1 : Cond.methodLink own index Lib.Math.max.name ∈ Ts) (h2 : Cond.static Lib.Math.max.name ∈ Ts) (h3 : Cond.initialized "java/lang/Math" ∈ Ts) (h4 : Cond.code Lib.Math.max.name Lib.Math.max.code 2 (some .int) ∈ Ts) (hf : 1 ≤ rm.frames) (hlo : (st.map fun v => v.category).sum + 13 ≤ rm.locals) (hc : k ≤ rm.cells) (hs : n ≤ rm.slots) (hd : decode cc pc = .ok (.invokestatic index, 3)) (kk : gW X k n ws nL lv (.int (if x < y then y else x) :: st) (pc + 3)) : gW X k n ws nL lv (.int y :: .int x :: st) pc := by
  obtain ⟨p, l, e, R, s, m, args, below, meth, c, A, D, Q⟩ := X
  obtain ⟨hx, hb, hml, ho, ht, hK, hA, hR, hlk⟩ := C
  intro H locs ls hP hD hS hl
  subst hR
  exact va_mmax hx hb (hml.trans hl.1.symm) ho (ht _ h1) (ht _ h2) (ht _ h3) (ht _ h4) hf (hlo) hc hs hd (kk H locs ls hP hD hS hl)
theorem g_mabs (C : gC X tys cc nL own Ts rm) {x : Int32} {index : Nat} (h1 : Cond.methodLink own index Lib.Math.abs.name ∈ Ts) (h2 : Cond.static Lib.Math.abs.name ∈ Ts) (h3 : Cond.initialized "java/lang/Math" ∈ Ts) (h4 : Cond.code Lib.Math.abs.name Lib.Math.abs.code 1 (some .int) ∈ Ts) (hf : 1 ≤ rm.frames) (hlo : (st.map fun v => v.category).sum + 13 ≤ rm.locals) (hc : k ≤ rm.cells) (hs : n ≤ rm.slots) (hd : decode cc pc = .ok (.invokestatic index, 3)) (kk : gW X k n ws nL lv (.int (if 0 ≤ x then x else 0 - x) :: st) (pc + 3)) : gW X k n ws nL lv (.int x :: st) pc := by
  obtain ⟨p, l, e, R, s, m, args, below, meth, c, A, D, Q⟩ := X
  obtain ⟨hx, hb, hml, ho, ht, hK, hA, hR, hlk⟩ := C
  intro H locs ls hP hD hS hl
  subst hR
  exact va_mabs hx hb (hml.trans hl.1.symm) ho (ht _ h1) (ht _ h2) (ht _ h3) (ht _ h4) hf (by omega) hc hs hd (kk H locs ls hP hD hS hl)
theorem g_topi {x : Int32} (kk : ∀ y : Int32, y = x → gW X k n ws nL lv (.int y :: st) pc) : gW X k n ws nL lv (.int x :: st) pc := kk x rfl
theorem g_topl {x : Int64} (kk : ∀ y : Int64, y = x → gW X k n ws nL lv (.long y :: st) pc) : gW X k n ws nL lv (.long x :: st) pc := kk x rfl
theorem g_leaf {P : Prop} (h : P) : P := h
theorem g_tsw (C : gC X tys cc nL own Ts rm) {dflt hi : Int} {offs : Array Int} {len : Nat} {x : Int32} {tgd : Nat} (hd : decode cc pc = .ok (.tableswitch dflt 0 hi offs, len)) (h0 : (pc : Int) + dflt = (tgd : Int)) (kin : ∀ j : Nat, (j : Int) ≤ hi → x = nI j → ∃ (off : Int) (tgt : Nat), offs[j]? = some off ∧ (pc : Int) + off = (tgt : Int) ∧ gW X k n ws nL lv st tgt) (kout : (x.toInt < 0 ∨ hi < x.toInt) → gW X k n ws nL lv st tgd) : gW X k n ws nL lv (.int x :: st) pc := by
  obtain ⟨p, l, e, R, s, m, args, below, meth, c, A, D, Q⟩ := X
  obtain ⟨hx, hb, hml, ho, ht, hK, hA, hR, hlk⟩ := C
  intro H locs ls hP hD hS hl
  by_cases h1 : x.toInt < 0 ∨ hi < x.toInt
  · exact lv_tableOut hx hb hd h1 h0 (kout h1 H locs ls hP hD hS hl)
  · obtain ⟨off, tgt, h2, h3, h4⟩ := kin x.toInt.toNat (by omega) (by
      rw [← Int32.toInt_inj, nI_toInt (by have := Int32.toInt_lt x; omega)]; omega)
    exact lv_tableIn hx hb hd (by omega) (by omega) (by rw [Int.sub_zero]; exact h2) h3 (h4 H locs ls hP hD hS hl)
theorem g_lv {lv2 : List (Nat × Value)} (ks : List Nat) (hk : lv_pick lv ks = lv2) (kk : gW X k n ws nL lv2 st pc) : gW X k n ws nL lv st pc := by
  obtain ⟨p, l, e, R, s, m, args, below, meth, c, A, D, Q⟩ := X
  intro H locs ls hP hD hS hl
  exact kk H locs ls hP hD hS (lv_sub hl ks hk)
theorem g_ws {ws2 : va_W} (ks : List Nat) (hn : va_nd ks = true) (hk : ks.map (fun i => ws[i]?) = ws2.map some) (kk : gW X k n ws2 nL lv st pc) : gW X k n ws nL lv st pc := by
  obtain ⟨p, l, e, R, s, m, args, below, meth, c, A, D, Q⟩ := X
  intro H locs ls hP hD hS hl
  refine kk H locs ls (hP.sub ks ?_) (hD.sub ks hn hk) hS hl
  have h1 : ks.filterMap (fun i => ws[i]?) = (ks.map (fun i => ws[i]?)).filterMap id := by rw [List.filterMap_map]; rfl
  rw [h1, hk, List.filterMap_map]
  exact List.filterMap_some
theorem g_iret (C : gC X tys cc nL own Ts rm) {S : Type} {post : Int32 → S → Prop} {w1 : S → va_W} (E : gEi X (some .int) tys k n post w1) {v : Int32} (u : S) (hp : post v u) (hw : w1 u = ws) (hd : decode cc pc = .ok (.ireturn, 1)) : gW X k n ws nL lv [.int v] pc := by
  obtain ⟨p, l, e, R, s, m, args, below, meth, c, A, D, Q⟩ := X
  obtain ⟨hx, hb, hml, ho, ht, hK, hA, hR, hlk⟩ := C
  intro H locs ls hP hD hS hl
  obtain ⟨hr, hq⟩ := E
  subst hq; subst hw
  exact W.iret hx hb hr (fun t htt hW => ⟨⟨v, u, rfl, hp, by rw [htt]; exact hP, va_K.moved hW.alike hK, hD⟩, hS.F htt⟩) hS.2.2 hd
theorem g_lret (C : gC X tys cc nL own Ts rm) {S : Type} {post : Int64 → S → Prop} {w1 : S → va_W} (E : gEl X (some .long) tys k n post w1) {v : Int64} (u : S) (hp : post v u) (hw : w1 u = ws) (hd : decode cc pc = .ok (.lreturn, 1)) : gW X k n ws nL lv [.long v] pc := by
  obtain ⟨p, l, e, R, s, m, args, below, meth, c, A, D, Q⟩ := X
  obtain ⟨hx, hb, hml, ho, ht, hK, hA, hR, hlk⟩ := C
  intro H locs ls hP hD hS hl
  obtain ⟨hr, hq⟩ := E
  subst hq; subst hw
  exact W.lret hx hb hr (fun t htt hW => ⟨⟨v, u, rfl, hp, by rw [htt]; exact hP, va_K.moved hW.alike hK, hD⟩, hS.F htt⟩) hS.2.2 hd
theorem g_zret (C : gC X tys cc nL own Ts rm) {S : Type} {post : Int32 → S → Prop} {w1 : S → va_W} (E : gEi X (some .boolean) tys k n post w1) {v : Int32} (hn : narrow .boolean (.int v) = .int v) (u : S) (hp : post v u) (hw : w1 u = ws) (hd : decode cc pc = .ok (.ireturn, 1)) : gW X k n ws nL lv [.int v] pc := by
  obtain ⟨p, l, e, R, s, m, args, below, meth, c, A, D, Q⟩ := X
  obtain ⟨hx, hb, hml, ho, ht, hK, hA, hR, hlk⟩ := C
  intro H locs ls hP hD hS hl
  obtain ⟨hr, hq⟩ := E
  subst hq; subst hw
  exact W.zret hx hb hr hn (fun t htt hW => ⟨⟨v, u, rfl, hp, by rw [htt]; exact hP, va_K.moved hW.alike hK, hD⟩, hS.F htt⟩) hS.2.2 hd
theorem g_vret (C : gC X tys cc nL own Ts rm) {S : Type} {post : S → Prop} {w1 : S → va_W} (E : gEv X none tys k n post w1) (u : S) (hp : post u) (hw : w1 u = ws) (hd : decode cc pc = .ok (.return_, 1)) : gW X k n ws nL lv [] pc := by
  obtain ⟨p, l, e, R, s, m, args, below, meth, c, A, D, Q⟩ := X
  obtain ⟨hx, hb, hml, ho, ht, hK, hA, hR, hlk⟩ := C
  intro H locs ls hP hD hS hl
  obtain ⟨hr, hq⟩ := E
  subst hq; subst hw
  exact W.vret hx hb hr (fun t htt hW => ⟨⟨u, rfl, hp, by rw [htt]; exact hP, va_K.moved hW.alike hK, hD⟩, hS.F htt⟩) hS.2.2 hd
theorem g_callVi (C : gC X tys cc nL own Ts rm) {S : Type} {y : MethodName} {wsy : List Cond} {rmy : Room} {b : Nat} {As rest : List Value} {wc wr : va_W} {post : Int32 → S → Prop} {w1 : S → va_W} {mc ms : Nat} (hM : ∀ (l : Launch) (D : va_G), gMi l y wsy rmy D tys mc ms (.ref b :: As) wc post w1) {index : Nat} {bytes : ByteArray} {maxL : Nat} {ret : Option FieldType} {wst : List Cond} {Cn : String} (hG : GoodIn Ts (wsV own index Cn y wsy)) (hw : wsy = Cond.code y bytes maxL ret :: wst) (hde : y.cls = Cn ∧ y.cls ≠ "java/lang/invoke/MethodHandle" ∧ y.cls ≠ "java/lang/invoke/VarHandle" ∧ (parseMethodDescriptor y.desc).map (fun d => d.parameters.length) = some As.length) (hrm : rmy.cells = mc ∧ rmy.slots = ms) (hRo : rmy.frames + 1 ≤ rm.frames ∧ 8 + (maxL + 11) + rmy.locals ≤ rm.locals) (hcs : k + mc ≤ rm.cells ∧ n + ms ≤ rm.slots) (isC isR isP : List Nat) (hC : isC.map (fun i => ws[i]?) = wc.map some) (hRr : isR.map (fun i => ws[i]?) = wr.map some) (hnC : va_nd isC = true) (hnR : va_nd isR = true) (hdis : ∀ i ∈ isR, i ∉ isC) (hnP : va_nd isP = true) {ws2 : S → va_W} (hX : ∀ u, isP.map (fun i => (wr ++ w1 u)[i]?) = (ws2 u).map some) (ci qr : Nat) {fs : List Value} {q : vw_C} (hr1 : vwCl[ci]? = some q) (hq : q.1 = Cn) (hr2 : wc[qr]? = some (b, .inr (ci, fs))) (hst : st = As.reverse ++ .ref b :: rest) (hro : (rest.map fun v => v.category).sum ≤ 8) (hd : decode cc pc = .ok (.invokevirtual index, 3))  (kk : ∀ (r : Int32) (u : S), post r u → gW X (k + mc) (n + ms) (ws2 u) nL lv (.int r :: rest) (pc + 3)) : gW X k n ws nL lv (st) pc := by
  obtain ⟨p, l, e, R, s, m, args, below, meth, c, A, D, Q⟩ := X
  obtain ⟨hx, hb, hml, ho, ht, hK, hA, hR, hlk⟩ := C
  intro H locs ls hP hD hS hl
  subst hst; subst hR
  have hFm : ∀ {w2 : va_W} (ks : List Nat), ks.map (fun i => ws[i]?) = w2.map some → ks.filterMap (fun i => ws[i]?) = w2 := by
    intro w2 ks hk
    have h1 : ks.filterMap (fun i => ws[i]?) = (ks.map (fun i => ws[i]?)).filterMap id := by rw [List.filterMap_map]; rfl
    rw [h1, hk, List.filterMap_map]
    exact List.filterMap_some
  have hPc := hP.sub isC (hFm isC hC)
  have hDc := hD.sub isC hnC hC
  have hFc := va_free (wc := wc) hD hS hA isC hC
  refine va_calli (va_runV (As := As) (rest := rest) (cc := cc) (nL := nL) (Ts := Ts) ⟨hx, hb, hml, ho, ht⟩ (hM l D H.size) (cwV As.length ht hG hw hrm.1 hrm.2 hde hRo) ⟨fun a U g mk q => ?_, by obtain ⟨cl0, g1, g2, g3⟩ := va_recv hK hPc hr1 hr2; exact ⟨cl0, g1, g2, by rw [← hq]; exact g3⟩, fun U hU hW => ⟨rfl, by rw [hU], by rw [hU]; exact hPc, va_K.moved hW.alike hK, hDc.weaken (fun _ _ _ _ => trivial)⟩⟩ rfl rfl hl.1 rfl (show 2 * 0 + (rest.map fun v => v.category).sum ≤ 8 by omega) hd hcs) hS (fun q _ h => hFc q h) hFc (fun r u t H1 locs1 htt hvm hw1 hB hz1 hk1 hS1 => ?_)
  · obtain ⟨q0, q1, qP, qK, qD⟩ := q
    exact ⟨q0, q1, qP, va_K.moved (u := U) (U := U.calling g mk a) (Vm.Alike.refl U.vm) qK, qD⟩
  · obtain ⟨hP1, hK1, hD1⟩ := hB
    rw [htt] at hP1
    obtain ⟨hP2, hD2⟩ := va_join (wr := wr) (w1 := w1 u) hP hD isC isR hC hRr hnR hdis hk1 hFc hP1 hD1
    have hX2 := hX u
    have hP3 : va_P D vwCl (ws2 u) H1 := hP2.sub isP (by
      have h1 : isP.filterMap (fun i => (wr ++ w1 u)[i]?) = (isP.map (fun i => (wr ++ w1 u)[i]?)).filterMap id := by rw [List.filterMap_map]; rfl
      rw [h1, hX2, List.filterMap_map]
      exact List.filterMap_some)
    exact kk r u hw1 H1 locs1 ls hP3 (hD2.sub isP hnP hX2) hS1 hl
theorem g_callSi (C : gC X tys cc nL own Ts rm) {S : Type} {y : MethodName} {wsy : List Cond} {rmy : Room} {b : Nat} {As rest : List Value} {wc wr : va_W} {post : Int32 → S → Prop} {w1 : S → va_W} {mc ms : Nat} (hM : ∀ (l : Launch) (D : va_G), gMi l y wsy rmy D tys mc ms As wc post w1) {index : Nat} {bytes : ByteArray} {maxL : Nat} {ret : Option FieldType} {wst : List Cond} (hG : GoodIn Ts (va_wsS own index y wsy)) (hw : wsy = Cond.code y bytes maxL ret :: wst) (hde : y.cls ≠ "java/lang/invoke/MethodHandle" ∧ y.cls ≠ "java/lang/invoke/VarHandle" ∧ (parseMethodDescriptor y.desc).map (fun d => d.parameters.length) = some As.length) (hrm : rmy.cells = mc ∧ rmy.slots = ms) (hRo : rmy.frames + 1 ≤ rm.frames ∧ 8 + (maxL + 11) + rmy.locals ≤ rm.locals) (hcs : k + mc ≤ rm.cells ∧ n + ms ≤ rm.slots) (isC isR isP : List Nat) (hC : isC.map (fun i => ws[i]?) = wc.map some) (hRr : isR.map (fun i => ws[i]?) = wr.map some) (hnC : va_nd isC = true) (hnR : va_nd isR = true) (hdis : ∀ i ∈ isR, i ∉ isC) (hnP : va_nd isP = true) {ws2 : S → va_W} (hX : ∀ u, isP.map (fun i => (wr ++ w1 u)[i]?) = (ws2 u).map some) (hst : st = As.reverse ++ rest) (hro : (rest.map fun v => v.category).sum ≤ 8) (hd : decode cc pc = .ok (.invokestatic index, 3))  (kk : ∀ (r : Int32) (u : S), post r u → gW X (k + mc) (n + ms) (ws2 u) nL lv (.int r :: rest) (pc + 3)) : gW X k n ws nL lv (st) pc := by
  obtain ⟨p, l, e, R, s, m, args, below, meth, c, A, D, Q⟩ := X
  obtain ⟨hx, hb, hml, ho, ht, hK, hA, hR, hlk⟩ := C
  intro H locs ls hP hD hS hl
  subst hst; subst hR
  have hFm : ∀ {w2 : va_W} (ks : List Nat), ks.map (fun i => ws[i]?) = w2.map some → ks.filterMap (fun i => ws[i]?) = w2 := by
    intro w2 ks hk
    have h1 : ks.filterMap (fun i => ws[i]?) = (ks.map (fun i => ws[i]?)).filterMap id := by rw [List.filterMap_map]; rfl
    rw [h1, hk, List.filterMap_map]
    exact List.filterMap_some
  have hPc := hP.sub isC (hFm isC hC)
  have hDc := hD.sub isC hnC hC
  have hFc := va_free (wc := wc) hD hS hA isC hC
  refine va_calli (va_runS (As := As) (rest := rest) (cc := cc) (nL := nL) (Ts := Ts) ⟨hx, hb, hml, ho, ht⟩ (hM l D H.size) (va_cwS As.length ht hG hw hrm.1 hrm.2 hde hRo) ⟨fun a U g mk q => ?_, fun U hU hW => ⟨rfl, by rw [hU], by rw [hU]; exact hPc, va_K.moved hW.alike hK, hDc.weaken (fun _ _ _ _ => trivial)⟩⟩ rfl rfl hl.1 rfl (show 2 * 0 + (rest.map fun v => v.category).sum ≤ 8 by omega) hd hcs) hS (fun q _ h => hFc q h) hFc (fun r u t H1 locs1 htt hvm hw1 hB hz1 hk1 hS1 => ?_)
  · obtain ⟨q0, q1, qP, qK, qD⟩ := q
    exact ⟨q0, q1, qP, va_K.moved (u := U) (U := U.calling g mk a) (Vm.Alike.refl U.vm) qK, qD⟩
  · obtain ⟨hP1, hK1, hD1⟩ := hB
    rw [htt] at hP1
    obtain ⟨hP2, hD2⟩ := va_join (wr := wr) (w1 := w1 u) hP hD isC isR hC hRr hnR hdis hk1 hFc hP1 hD1
    have hX2 := hX u
    have hP3 : va_P D vwCl (ws2 u) H1 := hP2.sub isP (by
      have h1 : isP.filterMap (fun i => (wr ++ w1 u)[i]?) = (isP.map (fun i => (wr ++ w1 u)[i]?)).filterMap id := by rw [List.filterMap_map]; rfl
      rw [h1, hX2, List.filterMap_map]
      exact List.filterMap_some)
    exact kk r u hw1 H1 locs1 ls hP3 (hD2.sub isP hnP hX2) hS1 hl
theorem g_callVl (C : gC X tys cc nL own Ts rm) {S : Type} {y : MethodName} {wsy : List Cond} {rmy : Room} {b : Nat} {As rest : List Value} {wc wr : va_W} {post : Int64 → S → Prop} {w1 : S → va_W} {mc ms : Nat} (hM : ∀ (l : Launch) (D : va_G), gMl l y wsy rmy D tys mc ms (.ref b :: As) wc post w1) {index : Nat} {bytes : ByteArray} {maxL : Nat} {ret : Option FieldType} {wst : List Cond} {Cn : String} (hG : GoodIn Ts (wsV own index Cn y wsy)) (hw : wsy = Cond.code y bytes maxL ret :: wst) (hde : y.cls = Cn ∧ y.cls ≠ "java/lang/invoke/MethodHandle" ∧ y.cls ≠ "java/lang/invoke/VarHandle" ∧ (parseMethodDescriptor y.desc).map (fun d => d.parameters.length) = some As.length) (hrm : rmy.cells = mc ∧ rmy.slots = ms) (hRo : rmy.frames + 1 ≤ rm.frames ∧ 8 + (maxL + 11) + rmy.locals ≤ rm.locals) (hcs : k + mc ≤ rm.cells ∧ n + ms ≤ rm.slots) (isC isR isP : List Nat) (hC : isC.map (fun i => ws[i]?) = wc.map some) (hRr : isR.map (fun i => ws[i]?) = wr.map some) (hnC : va_nd isC = true) (hnR : va_nd isR = true) (hdis : ∀ i ∈ isR, i ∉ isC) (hnP : va_nd isP = true) {ws2 : S → va_W} (hX : ∀ u, isP.map (fun i => (wr ++ w1 u)[i]?) = (ws2 u).map some) (ci qr : Nat) {fs : List Value} {q : vw_C} (hr1 : vwCl[ci]? = some q) (hq : q.1 = Cn) (hr2 : wc[qr]? = some (b, .inr (ci, fs))) (hst : st = As.reverse ++ .ref b :: rest) (hro : (rest.map fun v => v.category).sum ≤ 8) (hd : decode cc pc = .ok (.invokevirtual index, 3))  (kk : ∀ (r : Int64) (u : S), post r u → gW X (k + mc) (n + ms) (ws2 u) nL lv (.long r :: rest) (pc + 3)) : gW X k n ws nL lv (st) pc := by
  obtain ⟨p, l, e, R, s, m, args, below, meth, c, A, D, Q⟩ := X
  obtain ⟨hx, hb, hml, ho, ht, hK, hA, hR, hlk⟩ := C
  intro H locs ls hP hD hS hl
  subst hst; subst hR
  have hFm : ∀ {w2 : va_W} (ks : List Nat), ks.map (fun i => ws[i]?) = w2.map some → ks.filterMap (fun i => ws[i]?) = w2 := by
    intro w2 ks hk
    have h1 : ks.filterMap (fun i => ws[i]?) = (ks.map (fun i => ws[i]?)).filterMap id := by rw [List.filterMap_map]; rfl
    rw [h1, hk, List.filterMap_map]
    exact List.filterMap_some
  have hPc := hP.sub isC (hFm isC hC)
  have hDc := hD.sub isC hnC hC
  have hFc := va_free (wc := wc) hD hS hA isC hC
  refine va_calll (va_runV (As := As) (rest := rest) (cc := cc) (nL := nL) (Ts := Ts) ⟨hx, hb, hml, ho, ht⟩ (hM l D H.size) (cwV As.length ht hG hw hrm.1 hrm.2 hde hRo) ⟨fun a U g mk q => ?_, by obtain ⟨cl0, g1, g2, g3⟩ := va_recv hK hPc hr1 hr2; exact ⟨cl0, g1, g2, by rw [← hq]; exact g3⟩, fun U hU hW => ⟨rfl, by rw [hU], by rw [hU]; exact hPc, va_K.moved hW.alike hK, hDc.weaken (fun _ _ _ _ => trivial)⟩⟩ rfl rfl hl.1 rfl (show 2 * 0 + (rest.map fun v => v.category).sum ≤ 8 by omega) hd hcs) hS (fun q _ h => hFc q h) hFc (fun r u t H1 locs1 htt hvm hw1 hB hz1 hk1 hS1 => ?_)
  · obtain ⟨q0, q1, qP, qK, qD⟩ := q
    exact ⟨q0, q1, qP, va_K.moved (u := U) (U := U.calling g mk a) (Vm.Alike.refl U.vm) qK, qD⟩
  · obtain ⟨hP1, hK1, hD1⟩ := hB
    rw [htt] at hP1
    obtain ⟨hP2, hD2⟩ := va_join (wr := wr) (w1 := w1 u) hP hD isC isR hC hRr hnR hdis hk1 hFc hP1 hD1
    have hX2 := hX u
    have hP3 : va_P D vwCl (ws2 u) H1 := hP2.sub isP (by
      have h1 : isP.filterMap (fun i => (wr ++ w1 u)[i]?) = (isP.map (fun i => (wr ++ w1 u)[i]?)).filterMap id := by rw [List.filterMap_map]; rfl
      rw [h1, hX2, List.filterMap_map]
      exact List.filterMap_some)
    exact kk r u hw1 H1 locs1 ls hP3 (hD2.sub isP hnP hX2) hS1 hl
theorem g_callSl (C : gC X tys cc nL own Ts rm) {S : Type} {y : MethodName} {wsy : List Cond} {rmy : Room} {b : Nat} {As rest : List Value} {wc wr : va_W} {post : Int64 → S → Prop} {w1 : S → va_W} {mc ms : Nat} (hM : ∀ (l : Launch) (D : va_G), gMl l y wsy rmy D tys mc ms As wc post w1) {index : Nat} {bytes : ByteArray} {maxL : Nat} {ret : Option FieldType} {wst : List Cond} (hG : GoodIn Ts (va_wsS own index y wsy)) (hw : wsy = Cond.code y bytes maxL ret :: wst) (hde : y.cls ≠ "java/lang/invoke/MethodHandle" ∧ y.cls ≠ "java/lang/invoke/VarHandle" ∧ (parseMethodDescriptor y.desc).map (fun d => d.parameters.length) = some As.length) (hrm : rmy.cells = mc ∧ rmy.slots = ms) (hRo : rmy.frames + 1 ≤ rm.frames ∧ 8 + (maxL + 11) + rmy.locals ≤ rm.locals) (hcs : k + mc ≤ rm.cells ∧ n + ms ≤ rm.slots) (isC isR isP : List Nat) (hC : isC.map (fun i => ws[i]?) = wc.map some) (hRr : isR.map (fun i => ws[i]?) = wr.map some) (hnC : va_nd isC = true) (hnR : va_nd isR = true) (hdis : ∀ i ∈ isR, i ∉ isC) (hnP : va_nd isP = true) {ws2 : S → va_W} (hX : ∀ u, isP.map (fun i => (wr ++ w1 u)[i]?) = (ws2 u).map some) (hst : st = As.reverse ++ rest) (hro : (rest.map fun v => v.category).sum ≤ 8) (hd : decode cc pc = .ok (.invokestatic index, 3))  (kk : ∀ (r : Int64) (u : S), post r u → gW X (k + mc) (n + ms) (ws2 u) nL lv (.long r :: rest) (pc + 3)) : gW X k n ws nL lv (st) pc := by
  obtain ⟨p, l, e, R, s, m, args, below, meth, c, A, D, Q⟩ := X
  obtain ⟨hx, hb, hml, ho, ht, hK, hA, hR, hlk⟩ := C
  intro H locs ls hP hD hS hl
  subst hst; subst hR
  have hFm : ∀ {w2 : va_W} (ks : List Nat), ks.map (fun i => ws[i]?) = w2.map some → ks.filterMap (fun i => ws[i]?) = w2 := by
    intro w2 ks hk
    have h1 : ks.filterMap (fun i => ws[i]?) = (ks.map (fun i => ws[i]?)).filterMap id := by rw [List.filterMap_map]; rfl
    rw [h1, hk, List.filterMap_map]
    exact List.filterMap_some
  have hPc := hP.sub isC (hFm isC hC)
  have hDc := hD.sub isC hnC hC
  have hFc := va_free (wc := wc) hD hS hA isC hC
  refine va_calll (va_runS (As := As) (rest := rest) (cc := cc) (nL := nL) (Ts := Ts) ⟨hx, hb, hml, ho, ht⟩ (hM l D H.size) (va_cwS As.length ht hG hw hrm.1 hrm.2 hde hRo) ⟨fun a U g mk q => ?_, fun U hU hW => ⟨rfl, by rw [hU], by rw [hU]; exact hPc, va_K.moved hW.alike hK, hDc.weaken (fun _ _ _ _ => trivial)⟩⟩ rfl rfl hl.1 rfl (show 2 * 0 + (rest.map fun v => v.category).sum ≤ 8 by omega) hd hcs) hS (fun q _ h => hFc q h) hFc (fun r u t H1 locs1 htt hvm hw1 hB hz1 hk1 hS1 => ?_)
  · obtain ⟨q0, q1, qP, qK, qD⟩ := q
    exact ⟨q0, q1, qP, va_K.moved (u := U) (U := U.calling g mk a) (Vm.Alike.refl U.vm) qK, qD⟩
  · obtain ⟨hP1, hK1, hD1⟩ := hB
    rw [htt] at hP1
    obtain ⟨hP2, hD2⟩ := va_join (wr := wr) (w1 := w1 u) hP hD isC isR hC hRr hnR hdis hk1 hFc hP1 hD1
    have hX2 := hX u
    have hP3 : va_P D vwCl (ws2 u) H1 := hP2.sub isP (by
      have h1 : isP.filterMap (fun i => (wr ++ w1 u)[i]?) = (isP.map (fun i => (wr ++ w1 u)[i]?)).filterMap id := by rw [List.filterMap_map]; rfl
      rw [h1, hX2, List.filterMap_map]
      exact List.filterMap_some)
    exact kk r u hw1 H1 locs1 ls hP3 (hD2.sub isP hnP hX2) hS1 hl
theorem g_callVv (C : gC X tys cc nL own Ts rm) {S : Type} {y : MethodName} {wsy : List Cond} {rmy : Room} {b : Nat} {As rest : List Value} {wc wr : va_W} {post : S → Prop} {w1 : S → va_W} {mc ms : Nat} (hM : ∀ (l : Launch) (D : va_G), gMv l y wsy rmy D tys mc ms (.ref b :: As) wc post w1) {index : Nat} {bytes : ByteArray} {maxL : Nat} {ret : Option FieldType} {wst : List Cond} {Cn : String} (hG : GoodIn Ts (wsV own index Cn y wsy)) (hw : wsy = Cond.code y bytes maxL ret :: wst) (hde : y.cls = Cn ∧ y.cls ≠ "java/lang/invoke/MethodHandle" ∧ y.cls ≠ "java/lang/invoke/VarHandle" ∧ (parseMethodDescriptor y.desc).map (fun d => d.parameters.length) = some As.length) (hrm : rmy.cells = mc ∧ rmy.slots = ms) (hRo : rmy.frames + 1 ≤ rm.frames ∧ 8 + (maxL + 11) + rmy.locals ≤ rm.locals) (hcs : k + mc ≤ rm.cells ∧ n + ms ≤ rm.slots) (isC isR isP : List Nat) (hC : isC.map (fun i => ws[i]?) = wc.map some) (hRr : isR.map (fun i => ws[i]?) = wr.map some) (hnC : va_nd isC = true) (hnR : va_nd isR = true) (hdis : ∀ i ∈ isR, i ∉ isC) (hnP : va_nd isP = true) {ws2 : S → va_W} (hX : ∀ u, isP.map (fun i => (wr ++ w1 u)[i]?) = (ws2 u).map some) (ci qr : Nat) {fs : List Value} {q : vw_C} (hr1 : vwCl[ci]? = some q) (hq : q.1 = Cn) (hr2 : wc[qr]? = some (b, .inr (ci, fs))) (hst : st = As.reverse ++ .ref b :: rest) (hro : (rest.map fun v => v.category).sum ≤ 8) (hd : decode cc pc = .ok (.invokevirtual index, 3))  (kk : ∀ (u : S), post u → gW X (k + mc) (n + ms) (ws2 u) nL lv rest (pc + 3)) : gW X k n ws nL lv (st) pc := by
  obtain ⟨p, l, e, R, s, m, args, below, meth, c, A, D, Q⟩ := X
  obtain ⟨hx, hb, hml, ho, ht, hK, hA, hR, hlk⟩ := C
  intro H locs ls hP hD hS hl
  subst hst; subst hR
  have hFm : ∀ {w2 : va_W} (ks : List Nat), ks.map (fun i => ws[i]?) = w2.map some → ks.filterMap (fun i => ws[i]?) = w2 := by
    intro w2 ks hk
    have h1 : ks.filterMap (fun i => ws[i]?) = (ks.map (fun i => ws[i]?)).filterMap id := by rw [List.filterMap_map]; rfl
    rw [h1, hk, List.filterMap_map]
    exact List.filterMap_some
  have hPc := hP.sub isC (hFm isC hC)
  have hDc := hD.sub isC hnC hC
  have hFc := va_free (wc := wc) hD hS hA isC hC
  refine va_callv (va_runV (As := As) (rest := rest) (cc := cc) (nL := nL) (Ts := Ts) ⟨hx, hb, hml, ho, ht⟩ (hM l D H.size) (cwV As.length ht hG hw hrm.1 hrm.2 hde hRo) ⟨fun a U g mk q => ?_, by obtain ⟨cl0, g1, g2, g3⟩ := va_recv hK hPc hr1 hr2; exact ⟨cl0, g1, g2, by rw [← hq]; exact g3⟩, fun U hU hW => ⟨rfl, by rw [hU], by rw [hU]; exact hPc, va_K.moved hW.alike hK, hDc.weaken (fun _ _ _ _ => trivial)⟩⟩ rfl rfl hl.1 rfl (show 2 * 0 + (rest.map fun v => v.category).sum ≤ 8 by omega) hd hcs) hS (fun q _ h => hFc q h) hFc (fun u t H1 locs1 htt hvm hw1 hB hz1 hk1 hS1 => ?_)
  · obtain ⟨q0, q1, qP, qK, qD⟩ := q
    exact ⟨q0, q1, qP, va_K.moved (u := U) (U := U.calling g mk a) (Vm.Alike.refl U.vm) qK, qD⟩
  · obtain ⟨hP1, hK1, hD1⟩ := hB
    rw [htt] at hP1
    obtain ⟨hP2, hD2⟩ := va_join (wr := wr) (w1 := w1 u) hP hD isC isR hC hRr hnR hdis hk1 hFc hP1 hD1
    have hX2 := hX u
    have hP3 : va_P D vwCl (ws2 u) H1 := hP2.sub isP (by
      have h1 : isP.filterMap (fun i => (wr ++ w1 u)[i]?) = (isP.map (fun i => (wr ++ w1 u)[i]?)).filterMap id := by rw [List.filterMap_map]; rfl
      rw [h1, hX2, List.filterMap_map]
      exact List.filterMap_some)
    exact kk u hw1 H1 locs1 ls hP3 (hD2.sub isP hnP hX2) hS1 hl
theorem g_callSv (C : gC X tys cc nL own Ts rm) {S : Type} {y : MethodName} {wsy : List Cond} {rmy : Room} {b : Nat} {As rest : List Value} {wc wr : va_W} {post : S → Prop} {w1 : S → va_W} {mc ms : Nat} (hM : ∀ (l : Launch) (D : va_G), gMv l y wsy rmy D tys mc ms As wc post w1) {index : Nat} {bytes : ByteArray} {maxL : Nat} {ret : Option FieldType} {wst : List Cond} (hG : GoodIn Ts (va_wsS own index y wsy)) (hw : wsy = Cond.code y bytes maxL ret :: wst) (hde : y.cls ≠ "java/lang/invoke/MethodHandle" ∧ y.cls ≠ "java/lang/invoke/VarHandle" ∧ (parseMethodDescriptor y.desc).map (fun d => d.parameters.length) = some As.length) (hrm : rmy.cells = mc ∧ rmy.slots = ms) (hRo : rmy.frames + 1 ≤ rm.frames ∧ 8 + (maxL + 11) + rmy.locals ≤ rm.locals) (hcs : k + mc ≤ rm.cells ∧ n + ms ≤ rm.slots) (isC isR isP : List Nat) (hC : isC.map (fun i => ws[i]?) = wc.map some) (hRr : isR.map (fun i => ws[i]?) = wr.map some) (hnC : va_nd isC = true) (hnR : va_nd isR = true) (hdis : ∀ i ∈ isR, i ∉ isC) (hnP : va_nd isP = true) {ws2 : S → va_W} (hX : ∀ u, isP.map (fun i => (wr ++ w1 u)[i]?) = (ws2 u).map some) (hst : st = As.reverse ++ rest) (hro : (rest.map fun v => v.category).sum ≤ 8) (hd : decode cc pc = .ok (.invokestatic index, 3))  (kk : ∀ (u : S), post u → gW X (k + mc) (n + ms) (ws2 u) nL lv rest (pc + 3)) : gW X k n ws nL lv (st) pc := by
  obtain ⟨p, l, e, R, s, m, args, below, meth, c, A, D, Q⟩ := X
  obtain ⟨hx, hb, hml, ho, ht, hK, hA, hR, hlk⟩ := C
  intro H locs ls hP hD hS hl
  subst hst; subst hR
  have hFm : ∀ {w2 : va_W} (ks : List Nat), ks.map (fun i => ws[i]?) = w2.map some → ks.filterMap (fun i => ws[i]?) = w2 := by
    intro w2 ks hk
    have h1 : ks.filterMap (fun i => ws[i]?) = (ks.map (fun i => ws[i]?)).filterMap id := by rw [List.filterMap_map]; rfl
    rw [h1, hk, List.filterMap_map]
    exact List.filterMap_some
  have hPc := hP.sub isC (hFm isC hC)
  have hDc := hD.sub isC hnC hC
  have hFc := va_free (wc := wc) hD hS hA isC hC
  refine va_callv (va_runS (As := As) (rest := rest) (cc := cc) (nL := nL) (Ts := Ts) ⟨hx, hb, hml, ho, ht⟩ (hM l D H.size) (va_cwS As.length ht hG hw hrm.1 hrm.2 hde hRo) ⟨fun a U g mk q => ?_, fun U hU hW => ⟨rfl, by rw [hU], by rw [hU]; exact hPc, va_K.moved hW.alike hK, hDc.weaken (fun _ _ _ _ => trivial)⟩⟩ rfl rfl hl.1 rfl (show 2 * 0 + (rest.map fun v => v.category).sum ≤ 8 by omega) hd hcs) hS (fun q _ h => hFc q h) hFc (fun u t H1 locs1 htt hvm hw1 hB hz1 hk1 hS1 => ?_)
  · obtain ⟨q0, q1, qP, qK, qD⟩ := q
    exact ⟨q0, q1, qP, va_K.moved (u := U) (U := U.calling g mk a) (Vm.Alike.refl U.vm) qK, qD⟩
  · obtain ⟨hP1, hK1, hD1⟩ := hB
    rw [htt] at hP1
    obtain ⟨hP2, hD2⟩ := va_join (wr := wr) (w1 := w1 u) hP hD isC isR hC hRr hnR hdis hk1 hFc hP1 hD1
    have hX2 := hX u
    have hP3 : va_P D vwCl (ws2 u) H1 := hP2.sub isP (by
      have h1 : isP.filterMap (fun i => (wr ++ w1 u)[i]?) = (isP.map (fun i => (wr ++ w1 u)[i]?)).filterMap id := by rw [List.filterMap_map]; rfl
      rw [h1, hX2, List.filterMap_map]
      exact List.filterMap_some)
    exact kk u hw1 H1 locs1 ls hP3 (hD2.sub isP hnP hX2) hS1 hl
end GW
theorem g_enteri {S : Type} {l : Launch} {y : MethodName} {wsy wst : List Cond} {rm : Room} {D : va_G} {tys : List (ClassId × FieldType)} {mc ms : Nat} {av : List Value} {wc : va_W} {post : Int32 → S → Prop} {w1 : S → va_W} {cc : ByteArray} {nL : Nat} {ret : Option FieldType} (hy : plainName y.cls = true) (hw : wsy = Cond.code y cc nL ret :: wst) (hn : (lg_sl av).length ≤ nL) {lv : List (Nat × Value)} (hlv : lv_args 0 av = lv)
    (h : ∀ X : gX, gC X tys cc nL y.cls wsy rm → gEi X ret tys mc ms post w1 → gW X 0 0 wc nL lv [] 0) : gMi l y wsy rm D tys mc ms av wc post w1 := by
  intro sz
  refine Met.ofW (cc := cc) (maxL := nL) (ret := ret) hy hw ?_
  intro p e s m args below meth c s₁ B hml hv
  obtain ⟨rfl, hsz, hP, hK, hD0⟩ := hv
  have hts := atoms_spec (ws := wsy) B.pre
  have hown : s.vm.findClass y.cls = some m.cls := findClass_of_methodNamed B.named
  subst hsz
  have hD := hD0.self (sz := s.heap.size)
  have hl := lv_entry av (n := nL) hn
  rw [hlv] at hl
  rw [lg_entry_eq]
  exact h (p, l, e, (headSpec wsy rm).room, s, m, av.toArray, below, meth, c, va_A wc s.heap.size, D, MQ below (va_Qi post (gB D tys (va_A wc s.heap.size) w1) (va_A wc s.heap.size)) av.toArray s mc ms (va_A wc s.heap.size)) ⟨B.exec, B.bytes, hml, hown, hts, hK, fun q h => Or.inr h, rfl, B.notSynchronized⟩ ⟨B.returns, rfl⟩ s.heap [] _ hP hD va_S.rf hl
theorem g_enterl {S : Type} {l : Launch} {y : MethodName} {wsy wst : List Cond} {rm : Room} {D : va_G} {tys : List (ClassId × FieldType)} {mc ms : Nat} {av : List Value} {wc : va_W} {post : Int64 → S → Prop} {w1 : S → va_W} {cc : ByteArray} {nL : Nat} {ret : Option FieldType} (hy : plainName y.cls = true) (hw : wsy = Cond.code y cc nL ret :: wst) (hn : (lg_sl av).length ≤ nL) {lv : List (Nat × Value)} (hlv : lv_args 0 av = lv)
    (h : ∀ X : gX, gC X tys cc nL y.cls wsy rm → gEl X ret tys mc ms post w1 → gW X 0 0 wc nL lv [] 0) : gMl l y wsy rm D tys mc ms av wc post w1 := by
  intro sz
  refine Met.ofW (cc := cc) (maxL := nL) (ret := ret) hy hw ?_
  intro p e s m args below meth c s₁ B hml hv
  obtain ⟨rfl, hsz, hP, hK, hD0⟩ := hv
  have hts := atoms_spec (ws := wsy) B.pre
  have hown : s.vm.findClass y.cls = some m.cls := findClass_of_methodNamed B.named
  subst hsz
  have hD := hD0.self (sz := s.heap.size)
  have hl := lv_entry av (n := nL) hn
  rw [hlv] at hl
  rw [lg_entry_eq]
  exact h (p, l, e, (headSpec wsy rm).room, s, m, av.toArray, below, meth, c, va_A wc s.heap.size, D, MQ below (va_Ql post (gB D tys (va_A wc s.heap.size) w1) (va_A wc s.heap.size)) av.toArray s mc ms (va_A wc s.heap.size)) ⟨B.exec, B.bytes, hml, hown, hts, hK, fun q h => Or.inr h, rfl, B.notSynchronized⟩ ⟨B.returns, rfl⟩ s.heap [] _ hP hD va_S.rf hl
theorem g_enterv {S : Type} {l : Launch} {y : MethodName} {wsy wst : List Cond} {rm : Room} {D : va_G} {tys : List (ClassId × FieldType)} {mc ms : Nat} {av : List Value} {wc : va_W} {post : S → Prop} {w1 : S → va_W} {cc : ByteArray} {nL : Nat} {ret : Option FieldType} (hy : plainName y.cls = true) (hw : wsy = Cond.code y cc nL ret :: wst) (hn : (lg_sl av).length ≤ nL) {lv : List (Nat × Value)} (hlv : lv_args 0 av = lv)
    (h : ∀ X : gX, gC X tys cc nL y.cls wsy rm → gEv X ret tys mc ms post w1 → gW X 0 0 wc nL lv [] 0) : gMv l y wsy rm D tys mc ms av wc post w1 := by
  intro sz
  refine Met.ofW (cc := cc) (maxL := nL) (ret := ret) hy hw ?_
  intro p e s m args below meth c s₁ B hml hv
  obtain ⟨rfl, hsz, hP, hK, hD0⟩ := hv
  have hts := atoms_spec (ws := wsy) B.pre
  have hown : s.vm.findClass y.cls = some m.cls := findClass_of_methodNamed B.named
  subst hsz
  have hD := hD0.self (sz := s.heap.size)
  have hl := lv_entry av (n := nL) hn
  rw [hlv] at hl
  rw [lg_entry_eq]
  exact h (p, l, e, (headSpec wsy rm).room, s, m, av.toArray, below, meth, c, va_A wc s.heap.size, D, MQ below (va_Qv post (gB D tys (va_A wc s.heap.size) w1) (va_A wc s.heap.size)) av.toArray s mc ms (va_A wc s.heap.size)) ⟨B.exec, B.bytes, hml, hown, hts, hK, fun q h => Or.inr h, rfl, B.notSynchronized⟩ ⟨B.returns, rfl⟩ s.heap [] _ hP hD va_S.rf hl
end
section
/-! loops that count up, sums, small numbers -/
theorem up_loop {P : Nat → Prop} (n : Nat) (hend : P n) (hstep : ∀ k, k < n → P (k + 1) → P k) (i : Nat) (hi : i ≤ n) : P i := by
  obtain ⟨d, hd⟩ : ∃ d, i + d = n := ⟨n - i, by omega⟩
  induction d generalizing i with
  | zero =>
    have e : i = n := by omega
    rw [e]; exact hend
  | succ d ih => exact hstep i (by omega) (ih (i + 1) (by omega) (by omega))
theorem g_monoi {S : Type} {l : Launch} {y : MethodName} {wsy : List Cond} {rm : Room} {D : va_G} {tys : List (ClassId × FieldType)} {mc ms : Nat} {av : List Value} {wc : va_W} {post post2 : Int32 → S → Prop} {w1 : S → va_W} (h : gMi l y wsy rm D tys mc ms av wc post w1) (hp : ∀ r u, post r u → post2 r u) : gMi l y wsy rm D tys mc ms av wc post2 w1 := by
  intro sz p e ha hc hk s m args below hf hS hP hT
  obtain ⟨n, o, h1, h2, h3, ⟨⟨r, u, e1, e2, e3⟩, e4⟩, h5⟩ := h sz p e ha hc hk s m args below hf hS hP hT
  exact ⟨n, o, h1, h2, h3, ⟨⟨r, u, e1, hp r u e2, e3⟩, e4⟩, h5⟩
theorem g_monol {S : Type} {l : Launch} {y : MethodName} {wsy : List Cond} {rm : Room} {D : va_G} {tys : List (ClassId × FieldType)} {mc ms : Nat} {av : List Value} {wc : va_W} {post post2 : Int64 → S → Prop} {w1 : S → va_W} (h : gMl l y wsy rm D tys mc ms av wc post w1) (hp : ∀ r u, post r u → post2 r u) : gMl l y wsy rm D tys mc ms av wc post2 w1 := by
  intro sz p e ha hc hk s m args below hf hS hP hT
  obtain ⟨n, o, h1, h2, h3, ⟨⟨r, u, e1, e2, e3⟩, e4⟩, h5⟩ := h sz p e ha hc hk s m args below hf hS hP hT
  exact ⟨n, o, h1, h2, h3, ⟨⟨r, u, e1, hp r u e2, e3⟩, e4⟩, h5⟩
theorem g_monov {S : Type} {l : Launch} {y : MethodName} {wsy : List Cond} {rm : Room} {D : va_G} {tys : List (ClassId × FieldType)} {mc ms : Nat} {av : List Value} {wc : va_W} {post post2 : S → Prop} {w1 : S → va_W} (h : gMv l y wsy rm D tys mc ms av wc post w1) (hp : ∀ u, post u → post2 u) : gMv l y wsy rm D tys mc ms av wc post2 w1 := by
  intro sz p e ha hc hk s m args below hf hS hP hT
  obtain ⟨n, o, h1, h2, h3, ⟨⟨u, e1, e2, e3⟩, e4⟩, h5⟩ := h sz p e ha hc hk s m args below hf hS hP hT
  exact ⟨n, o, h1, h2, h3, ⟨⟨u, e1, hp u e2, e3⟩, e4⟩, h5⟩
def iI (z : Int) : Int32 := Int32.ofInt z
def lI (z : Int) : Int64 := Int64.ofInt z
theorem iI_nI (n : Nat) : iI (n : Int) = nI n := Int32.ofInt_eq_ofNat
theorem iI_add (a b : Int) : iI a + iI b = iI (a + b) := (Int32.ofInt_add a b).symm
theorem iI_sub (a b : Int) : iI a - iI b = iI (a - b) := (Int32.ofInt_sub a b).symm
theorem iI_mul (a b : Int) : iI a * iI b = iI (a * b) := (Int32.ofInt_mul a b).symm
theorem iI_neg (a : Int) : -iI a = iI (-a) := (Int32.ofInt_neg a).symm
theorem iI_toInt (x : Int32) : iI x.toInt = x := Int32.ofInt_toInt x
theorem toInt_iI {z : Int} (h1 : -2147483648 ≤ z) (h2 : z < 2147483648) : (iI z).toInt = z := Int32.toInt_ofInt_of_le (by omega) (by omega)
theorem lI_add (a b : Int) : lI a + lI b = lI (a + b) := (Int64.ofInt_add a b).symm
theorem lI_sub (a b : Int) : lI a - lI b = lI (a - b) := (Int64.ofInt_sub a b).symm
theorem lI_mul (a b : Int) : lI a * lI b = lI (a * b) := (Int64.ofInt_mul a b).symm
theorem lI_neg (a : Int) : -lI a = lI (-a) := (Int64.ofInt_neg a).symm
theorem lI_toInt (x : Int64) : lI x.toInt = x := Int64.ofInt_toInt x
theorem toInt_lI {z : Int} (h1 : -9223372036854775808 ≤ z) (h2 : z < 9223372036854775808) : (lI z).toInt = z := Int64.toInt_ofInt_of_le (by omega) (by omega)
theorem iI_long {z : Int} (h1 : -2147483648 ≤ z) (h2 : z < 2147483648) : (iI z).toInt64 = lI z := by
  rw [← Int64.toInt_inj, Int32.toInt_toInt64, toInt_iI h1 h2, toInt_lI (by omega) (by omega)]
theorem i2l_lI (x : Int32) : x.toInt64 = lI x.toInt := by
  have h1 := Int32.le_toInt x
  have h2 := Int32.toInt_lt x
  rw [← Int64.toInt_inj, Int32.toInt_toInt64, toInt_lI (by omega) (by omega)]
theorem toInt_add {x y : Int32} (h1 : -2147483648 ≤ x.toInt + y.toInt) (h2 : x.toInt + y.toInt < 2147483648) : (x + y).toInt = x.toInt + y.toInt := by
  rw [← iI_toInt x, ← iI_toInt y, iI_add, toInt_iI h1 h2, iI_toInt, iI_toInt]
theorem toInt_sub {x y : Int32} (h1 : -2147483648 ≤ x.toInt - y.toInt) (h2 : x.toInt - y.toInt < 2147483648) : (x - y).toInt = x.toInt - y.toInt := by
  rw [← iI_toInt x, ← iI_toInt y, iI_sub, toInt_iI h1 h2, iI_toInt, iI_toInt]
theorem toInt_neg {x : Int32} (h1 : -2147483647 ≤ x.toInt) : (-x).toInt = -x.toInt := by
  have h2 := Int32.toInt_lt x
  rw [← iI_toInt x, iI_neg, toInt_iI (by omega) (by omega), iI_toInt]
theorem toInt_mul {x y : Int32} (h1 : -2147483648 ≤ x.toInt * y.toInt) (h2 : x.toInt * y.toInt < 2147483648) : (x * y).toInt = x.toInt * y.toInt := by
  rw [← iI_toInt x, ← iI_toInt y, iI_mul, toInt_iI h1 h2, iI_toInt, iI_toInt]
theorem vp_in_cl {x : Int32} {n : Nat} (h : vp_in x n) (hn : n < 2 ^ 31) : x.toNatClampNeg < n ∧ x = nI x.toNatClampNeg := by
  obtain ⟨j, hj, rfl⟩ := vp_in_of h hn
  rw [nI_clamp (by omega)]
  exact ⟨hj, rfl⟩
theorem upd_s (f : Nat → Int32) (k : Nat) (x : Int32) : upd f k x k = x := by simp [upd]
theorem upd_n (f : Nat → Int32) {k j : Nat} (x : Int32) (h : j ≠ k) : upd f k x j = f j := by simp [upd, h]
theorem updL_s (f : Nat → Int64) (k : Nat) (x : Int64) : vp_updL f k x k = x := by simp [vp_updL]
theorem updL_n (f : Nat → Int64) {k j : Nat} (x : Int64) (h : j ≠ k) : vp_updL f k x j = f j := by simp [vp_updL, h]
/-- sums of machine numbers -/
def sumI (f : Nat → Int32) : Nat → Int32
  | 0 => 0
  | n + 1 => sumI f n + f n
def sum2 (t : Nat → Nat → Int32) (w h : Nat) : Int32 := sumI (fun y => sumI (t y) w) h
theorem sumI_congr {f g : Nat → Int32} {n : Nat} (h : ∀ i, i < n → f i = g i) : sumI f n = sumI g n := by
  induction n with
  | zero => rfl
  | succ n ih => simp only [sumI]; rw [ih (fun i hi => h i (by omega)), h n (by omega)]
theorem sum2_congr {t u : Nat → Nat → Int32} {w h : Nat} (e : ∀ y, y < h → ∀ x, x < w → t y x = u y x) : sum2 t w h = sum2 u w h :=
  sumI_congr (fun y hy => sumI_congr (fun x hx => e y hy x hx))
end
section
/-! the net: what a STEP leaves, purely -/
def netOK (a b : Int32) : Prop := ∃ w h : Nat, 2 ≤ w ∧ w ≤ 8 ∧ 2 ≤ h ∧ h ≤ 8 ∧ a = nI w ∧ b = nI h
def fillA (n : Nat) (v : Int32) (f : Nat → Int32) : Nat → Int32 := fun j => if j < n then v else f j
def insA (f : Nat → Int32) : Nat → Int32 → (Nat → Int32)
  | 0, v => upd f 0 v
  | n + 1, v => if v < f n then insA (upd f (n + 1) (f n)) n v else upd f (n + 1) v
def srt (f : Nat → Int32) (n : Nat) : Prop := ∀ i j, i ≤ j → j < n → f i ≤ f j
theorem i32_le_refl (x : Int32) : x ≤ x := by rw [Int32.le_iff_toInt_le]; omega
theorem i32_le_trans {x y z : Int32} (h1 : x ≤ y) (h2 : y ≤ z) : x ≤ z := by rw [Int32.le_iff_toInt_le] at *; omega
theorem i32_le_of_lt {x y : Int32} (h : x < y) : x ≤ y := by rw [Int32.le_iff_toInt_le]; rw [Int32.lt_iff_toInt_lt] at h; omega
theorem i32_le_of_nlt {x y : Int32} (h : ¬ x < y) : y ≤ x := by rw [Int32.le_iff_toInt_le]; rw [Int32.lt_iff_toInt_lt] at h; omega
theorem insA_hi (v : Int32) : ∀ (n : Nat) (f : Nat → Int32) (j : Nat), n < j → insA f n v j = f j := by
  intro n
  induction n with
  | zero => intro f j hj; rw [insA]; exact upd_n _ _ (by omega)
  | succ n ih =>
    intro f j hj
    rw [insA]
    split
    · rw [ih _ j (by omega)]; exact upd_n _ _ (by omega)
    · exact upd_n _ _ (by omega)
theorem insA_ag (v : Int32) : ∀ (n : Nat) (f g : Nat → Int32), (∀ i, i < n → f i = g i) → ∀ i, i ≤ n → insA f n v i = insA g n v i := by
  intro n
  induction n with
  | zero =>
    intro f g _ i hi
    have e : i = 0 := by omega
    rw [insA, insA, e, upd_s, upd_s]
  | succ n ih =>
    intro f g hfg i hi
    rw [insA, insA, hfg n (by omega)]
    split
    · rcases Nat.lt_or_ge n i with h | h
      · have e : i = n + 1 := by omega
        rw [insA_hi v n _ i h, insA_hi v n _ i h, e, upd_s, upd_s]
      · refine ih _ _ (fun k hk => ?_) i h
        rw [upd_n _ _ (by omega), upd_n _ _ (by omega), hfg k (by omega)]
    · rcases Nat.lt_or_ge n i with h | h
      · have e : i = n + 1 := by omega
        rw [e, upd_s, upd_s]
      · rw [upd_n _ _ (by omega), upd_n _ _ (by omega), hfg i (by omega)]
theorem insA_mem (v : Int32) : ∀ (n : Nat) (f : Nat → Int32) (i : Nat), i ≤ n → insA f n v i = v ∨ ∃ j, j < n ∧ insA f n v i = f j := by
  intro n
  induction n with
  | zero =>
    intro f i hi
    have e : i = 0 := by omega
    rw [insA, e, upd_s]; exact Or.inl rfl
  | succ n ih =>
    intro f i hi
    rw [insA]
    split
    · rcases Nat.lt_or_ge n i with h | h
      · have e : i = n + 1 := by omega
        rw [insA_hi v n _ i h, e, upd_s]; exact Or.inr ⟨n, by omega, rfl⟩
      · rcases ih (upd f (n + 1) (f n)) i h with q | ⟨j, hj, q⟩
        · exact Or.inl q
        · rw [upd_n _ _ (by omega)] at q
          exact Or.inr ⟨j, by omega, q⟩
    · rcases Nat.lt_or_ge n i with h | h
      · have e : i = n + 1 := by omega
        rw [e, upd_s]; exact Or.inl rfl
      · rw [upd_n _ _ (by omega)]; exact Or.inr ⟨i, by omega, rfl⟩
theorem insA_srt (v : Int32) : ∀ (n : Nat) (f : Nat → Int32), srt f n → srt (insA f n v) (n + 1) := by
  intro n
  induction n with
  | zero =>
    intro f _ i j hij hj
    have e1 : i = 0 := by omega
    have e2 : j = 0 := by omega
    rw [e1, e2]; exact i32_le_refl _
  | succ n ih =>
    intro f hs i j hij hj
    rw [insA]
    split
    · rename_i hv
      have hg : srt (upd f (n + 1) (f n)) n := fun a b hab hb => by
        rw [upd_n _ _ (by omega), upd_n _ _ (by omega)]; exact hs a b hab (by omega)
      rcases Nat.lt_or_ge n j with h | h
      · have e : j = n + 1 := by omega
        rw [insA_hi v n _ j h, e, upd_s]
        rcases Nat.lt_or_ge n i with h2 | h2
        · have e2 : i = n + 1 := by omega
          rw [insA_hi v n _ i h2, e2, upd_s]; exact i32_le_refl _
        · rcases insA_mem v n (upd f (n + 1) (f n)) i h2 with q | ⟨k, hk, q⟩
          · rw [q]; exact i32_le_of_lt hv
          · rw [q, upd_n _ _ (by omega)]; exact hs k n (by omega) (by omega)
      · exact ih _ hg i j hij (by omega)
    · rename_i hv
      rcases Nat.lt_or_ge n j with h | h
      · have e : j = n + 1 := by omega
        rw [e, upd_s]
        rcases Nat.lt_or_ge n i with h2 | h2
        · have e2 : i = n + 1 := by omega
          rw [e2, upd_s]; exact i32_le_refl _
        · rw [upd_n _ _ (by omega)]
          exact i32_le_trans (hs i n (by omega) (by omega)) (i32_le_of_nlt hv)
      · rw [upd_n _ _ (by omega), upd_n _ _ (by omega)]; exact hs i j hij (by omega)
def pst (b : Bool) (v : Int32) (q : Nat × (Nat → Int32)) : Nat × (Nat → Int32) := if b = true then (q.1 + 1, insA q.2 q.1 v) else q
theorem pst_t (v : Int32) (q : Nat × (Nat → Int32)) : pst true v q = (q.1 + 1, insA q.2 q.1 v) := rfl
theorem pst_f (v : Int32) (q : Nat × (Nat → Int32)) : pst false v q = q := rfl
def agr (q q' : Nat × (Nat → Int32)) : Prop := q.1 = q'.1 ∧ ∀ i, i < q.1 → q.2 i = q'.2 i
theorem pst_agr {b : Bool} {v : Int32} {q q' : Nat × (Nat → Int32)} (h : agr q q') : agr (pst b v q) (pst b v q') := by
  cases b
  · exact h
  · refine ⟨by rw [pst_t, pst_t]; show q.1 + 1 = q'.1 + 1; rw [h.1], fun i hi => ?_⟩
    rw [pst_t] at hi ⊢
    rw [pst_t]
    show insA q.2 q.1 v i = insA q'.2 q'.1 v i
    rw [← h.1]
    exact insA_ag v q.1 _ _ h.2 i (by show i ≤ q.1; have : i < q.1 + 1 := hi; omega)
theorem pst_srt {b : Bool} {v : Int32} {q : Nat × (Nat → Int32)} (h : srt q.2 q.1) : srt (pst b v q).2 (pst b v q).1 := by
  cases b
  · exact h
  · exact insA_srt v q.1 q.2 h
theorem pst_all {P : Int32 → Prop} {b : Bool} {v : Int32} {q : Nat × (Nat → Int32)} (h : ∀ i, i < q.1 → P (q.2 i)) (hv : b = true → P v) : ∀ i, i < (pst b v q).1 → P ((pst b v q).2 i) := by
  cases b
  · exact h
  · intro i hi
    rcases insA_mem v q.1 q.2 i (by have : i < q.1 + 1 := hi; omega) with e | ⟨j, hj, e⟩
    · show P (insA q.2 q.1 v i); rw [e]; exact hv rfl
    · show P (insA q.2 q.1 v i); rw [e]; exact h j hj
theorem pst_1 (b : Bool) (v : Int32) (q : Nat × (Nat → Int32)) : (pst b v q).1 = q.1 + (if b = true then 1 else 0) := by cases b <;> rfl
def stq (w h : Nat) (H : Nat → Int32) (x y : Nat) (f : Nat → Int32) : Nat × (Nat → Int32) :=
  pst (decide (y + 1 < h)) (H (8 * (y + 1) + x)) (pst (decide (0 < y)) (H (8 * (y - 1) + x)) (pst (decide (x + 1 < w)) (H (8 * y + (x + 1))) (pst (decide (0 < x)) (H (8 * y + (x - 1))) (0, f))))
theorem stq_1 {w h : Nat} (hw : 2 ≤ w) (hh : 2 ≤ h) {x y : Nat} (hx : x < w) (hy : y < h) (H f : Nat → Int32) : 2 ≤ (stq w h H x y f).1 ∧ (stq w h H x y f).1 ≤ 4 := by
  unfold stq
  simp only [pst_1, decide_eq_true_eq]
  constructor <;> (repeat' split) <;> omega
theorem stq_agr (w h : Nat) (H : Nat → Int32) (x y : Nat) (f g : Nat → Int32) : agr (stq w h H x y f) (stq w h H x y g) :=
  pst_agr (pst_agr (pst_agr (pst_agr ⟨rfl, fun i hi => absurd hi (Nat.not_lt_zero i)⟩)))
theorem stq_srt (w h : Nat) (H : Nat → Int32) (x y : Nat) (f : Nat → Int32) : srt (stq w h H x y f).2 (stq w h H x y f).1 :=
  pst_srt (pst_srt (pst_srt (pst_srt (fun i j _ hj => absurd hj (Nat.not_lt_zero j)))))
def clp (o lo hi : Int32) : Int32 := if o < lo then lo else if hi < o then hi else o
def stp (w h : Nat) (pin H : Nat → Int32) (x y : Nat) : Int32 :=
  if pin (8 * y + x) = 0 then clp (H (8 * y + x)) ((stq w h H x y (fun _ => 0)).2 (((stq w h H x y (fun _ => 0)).1 - 1) / 2)) ((stq w h H x y (fun _ => 0)).2 ((stq w h H x y (fun _ => 0)).1 / 2)) else H (8 * y + x)
theorem clp_mm {o lo hi : Int32} (h : lo ≤ hi) : (if lo < (if o < hi then o else hi) then (if o < hi then o else hi) else lo) = clp o lo hi := by
  unfold clp
  rw [Int32.le_iff_toInt_le] at h
  by_cases h1 : o < lo
  · rw [if_pos h1]
    rw [Int32.lt_iff_toInt_lt] at h1
    have h2 : o < hi := by rw [Int32.lt_iff_toInt_lt]; omega
    rw [if_pos h2, if_neg (by rw [Int32.lt_iff_toInt_lt]; omega)]
  · rw [if_neg h1]
    rw [Int32.lt_iff_toInt_lt] at h1
    by_cases h2 : hi < o
    · rw [if_pos h2]
      rw [Int32.lt_iff_toInt_lt] at h2
      rw [if_neg (show ¬ o < hi by rw [Int32.lt_iff_toInt_lt]; omega)]
      by_cases h3 : lo < hi
      · rw [if_pos h3]
      · rw [if_neg h3]
        rw [Int32.lt_iff_toInt_lt] at h3
        rw [← Int32.toInt_inj]; omega
    · rw [if_neg h2]
      rw [Int32.lt_iff_toInt_lt] at h2
      have e : (if o < hi then o else hi) = o := by
        split
        · rfl
        · rename_i h3
          rw [Int32.lt_iff_toInt_lt] at h3
          rw [← Int32.toInt_inj]; omega
      rw [e]
      by_cases h3 : lo < o
      · rw [if_pos h3]
      · rw [if_neg h3]
        rw [Int32.lt_iff_toInt_lt] at h3
        rw [← Int32.toInt_inj]; omega
/-- the middle ones are the same whatever lay in the row before -/
theorem stp_any {w h : Nat} (hw : 2 ≤ w) (hh : 2 ≤ h) {x y : Nat} (hx : x < w) (hy : y < h) (pin H f : Nat → Int32) (h0 : pin (8 * y + x) = 0) : clp (H (8 * y + x)) ((stq w h H x y f).2 (((stq w h H x y f).1 - 1) / 2)) ((stq w h H x y f).2 ((stq w h H x y f).1 / 2)) = stp w h pin H x y := by
  unfold stp
  rw [if_pos h0]
  obtain ⟨a1, a2⟩ := stq_agr w h H x y f (fun _ => 0)
  have c := stq_1 hw hh hx hy H f
  rw [a2 _ (by omega), a2 _ (by omega), a1]
theorem stq_lohi {w h : Nat} (hw : 2 ≤ w) (hh : 2 ≤ h) {x y : Nat} (hx : x < w) (hy : y < h) (H f : Nat → Int32) : (stq w h H x y f).2 (((stq w h H x y f).1 - 1) / 2) ≤ (stq w h H x y f).2 ((stq w h H x y f).1 / 2) := by
  have c := stq_1 hw hh hx hy H f
  exact stq_srt w h H x y f _ _ (by omega) (by omega)
/-- a STEP leaves a height that was there -/
theorem stp_all {P : Int32 → Prop} {w h : Nat} (hw : 2 ≤ w) (hh : 2 ≤ h) (hw8 : w ≤ 8) (hh8 : h ≤ 8) {x y : Nat} (hx : x < w) (hy : y < h) (pin H : Nat → Int32) (hH : ∀ j, j < 64 → P (H j)) : P (stp w h pin H x y) := by
  have all : ∀ i, i < (stq w h H x y (fun _ => 0)).1 → P ((stq w h H x y (fun _ => 0)).2 i) := by
    refine pst_all (pst_all (pst_all (pst_all (fun i hi => absurd hi (Nat.not_lt_zero i)) ?_) ?_) ?_) ?_
    · intro c; exact hH _ (by omega)
    · intro c; have := of_decide_eq_true c; exact hH _ (by omega)
    · intro c; exact hH _ (by omega)
    · intro c; have := of_decide_eq_true c; exact hH _ (by omega)
  have c := stq_1 hw hh hx hy H (fun _ => 0)
  unfold stp clp
  split
  · split
    · exact all _ (by omega)
    · split
      · exact all _ (by omega)
      · exact hH _ (by omega)
  · exact hH _ (by omega)
/-- a ROUND: rows, then columns -/
def stX (w h : Nat) (pin : Nat → Int32) (y : Nat) : Nat → (Nat → Int32) → (Nat → Int32)
  | 0, H => H
  | x + 1, H => upd (stX w h pin y x H) (8 * y + x) (stp w h pin (stX w h pin y x H) x y)
def stY (w h : Nat) (pin : Nat → Int32) : Nat → (Nat → Int32) → (Nat → Int32)
  | 0, H => H
  | y + 1, H => stX w h pin y w (stY w h pin y H)
def stR (w h : Nat) (pin : Nat → Int32) (H : Nat → Int32) : Nat → Int32 := stY w h pin h H
/-- sizes of differences -/
def szI (x : Int32) : Int32 := if 0 ≤ x then x else 0 - x
def chg (w h : Nat) (pin H : Nat → Int32) : Int32 := sum2 (fun y x => szI (stp w h pin H x y - H (8 * y + x))) w h
def drw (w h : Nat) (H : Nat → Int32) : Int32 := sum2 (fun y x => (if x + 1 < w then szI (H (8 * y + x) - H (8 * y + (x + 1))) else 0) + (if y + 1 < h then szI (H (8 * y + x) - H (8 * (y + 1) + x)) else 0)) w h
def pns (w h : Nat) (pin : Nat → Int32) : Int32 := sum2 (fun y x => if pin (8 * y + x) = 0 then 0 else 1) w h
theorem stp_pin {w h : Nat} {p1 p2 H : Nat → Int32} {x y : Nat} (e : p1 (8 * y + x) = p2 (8 * y + x)) : stp w h p1 H x y = stp w h p2 H x y := by unfold stp; rw [e]
def pinEq (w h : Nat) (p1 p2 : Nat → Int32) : Prop := ∀ y, y < h → ∀ x, x < w → p1 (8 * y + x) = p2 (8 * y + x)
theorem stX_pin {w h : Nat} {p1 p2 : Nat → Int32} (e : pinEq w h p1 p2) {y : Nat} (hy : y < h) : ∀ (x : Nat), x ≤ w → ∀ H, stX w h p1 y x H = stX w h p2 y x H := by
  intro x
  induction x with
  | zero => intro _ H; rfl
  | succ x ih => intro hx H; rw [stX, stX, ih (by omega) H, stp_pin (e y hy x (by omega))]
theorem stY_pin {w h : Nat} {p1 p2 : Nat → Int32} (e : pinEq w h p1 p2) : ∀ (y : Nat), y ≤ h → ∀ H, stY w h p1 y H = stY w h p2 y H := by
  intro y
  induction y with
  | zero => intro _ H; rfl
  | succ y ih => intro hy H; rw [stY, stY, ih (by omega) H, stX_pin e (by omega) w (Nat.le_refl w)]
theorem stR_pin {w h : Nat} {p1 p2 : Nat → Int32} (e : pinEq w h p1 p2) (H : Nat → Int32) : stR w h p1 H = stR w h p2 H := stY_pin e h (Nat.le_refl h) H
theorem chg_pin {w h : Nat} {p1 p2 : Nat → Int32} (e : pinEq w h p1 p2) (H : Nat → Int32) : chg w h p1 H = chg w h p2 H :=
  sum2_congr (fun y hy x hx => by rw [stp_pin (e y hy x hx)])
theorem pns_pin {w h : Nat} {p1 p2 : Nat → Int32} (e : pinEq w h p1 p2) : pns w h p1 = pns w h p2 :=
  sum2_congr (fun y hy x hx => by rw [e y hy x hx])
/-- heights stay within what they were -/
theorem stX_all {P : Int32 → Prop} {w h : Nat} (hw : 2 ≤ w) (hh : 2 ≤ h) (hw8 : w ≤ 8) (hh8 : h ≤ 8) (pin : Nat → Int32) {y : Nat} (hy : y < h) : ∀ (x : Nat), x ≤ w → ∀ H, (∀ j, j < 64 → P (H j)) → ∀ j, j < 64 → P (stX w h pin y x H j) := by
  intro x
  induction x with
  | zero => intro _ H hH j hj; exact hH j hj
  | succ x ih =>
    intro hx H hH j hj
    rw [stX]
    by_cases e : j = 8 * y + x
    · rw [e, upd_s]; exact stp_all hw hh hw8 hh8 (by omega) hy pin _ (ih (by omega) H hH)
    · rw [upd_n _ _ e]; exact ih (by omega) H hH j hj
theorem stY_all {P : Int32 → Prop} {w h : Nat} (hw : 2 ≤ w) (hh : 2 ≤ h) (hw8 : w ≤ 8) (hh8 : h ≤ 8) (pin : Nat → Int32) : ∀ (y : Nat), y ≤ h → ∀ H, (∀ j, j < 64 → P (H j)) → ∀ j, j < 64 → P (stY w h pin y H j) := by
  intro y
  induction y with
  | zero => intro _ H hH j hj; exact hH j hj
  | succ y ih => intro hy H hH; exact stX_all hw hh hw8 hh8 pin (by omega) w (Nat.le_refl w) _ (ih (by omega) H hH)
end
section
set_option maxRecDepth 20000 in
theorem ggX2_init_X2_spread : GoodIn wsX2_init wsX2_spread := goodIn_r _ [15, 9, 10, 5, 7, 16, 17, 18, 19, 20, 21, 22, 14, 23, 24, 25, 26, 27, 28] (by decide +kernel) (by decide +kernel)
set_option maxRecDepth 20000 in
theorem gX2_init_X2_spread : GoodIn wsX2_init (wsV RX2 29 RX2 yX2_spread wsX2_spread) := goodIn_app (goodIn_of _ (by decide +kernel)) ggX2_init_X2_spread
theorem dX2_init_0 : decode cX2_init 0 = .ok (.aload_n 0, 1) := by decide +kernel
theorem dX2_init_1 : decode cX2_init 1 = .ok (.invokespecial 3, 3) := by decide +kernel
theorem dX2_init_4 : decode cX2_init 4 = .ok (.aload_n 0, 1) := by decide +kernel
theorem dX2_init_5 : decode cX2_init 5 = .ok (.bipush 64, 2) := by decide +kernel
theorem dX2_init_7 : decode cX2_init 7 = .ok (.newarray .int, 2) := by decide +kernel
theorem dX2_init_9 : decode cX2_init 9 = .ok (.putfield 9, 3) := by decide +kernel
theorem dX2_init_12 : decode cX2_init 12 = .ok (.aload_n 0, 1) := by decide +kernel
theorem dX2_init_13 : decode cX2_init 13 = .ok (.bipush 64, 2) := by decide +kernel
theorem dX2_init_15 : decode cX2_init 15 = .ok (.newarray .boolean, 2) := by decide +kernel
theorem dX2_init_17 : decode cX2_init 17 = .ok (.putfield 15, 3) := by decide +kernel
theorem dX2_init_20 : decode cX2_init 20 = .ok (.aload_n 0, 1) := by decide +kernel
theorem dX2_init_21 : decode cX2_init 21 = .ok (.iconst 4, 1) := by decide +kernel
theorem dX2_init_22 : decode cX2_init 22 = .ok (.newarray .int, 2) := by decide +kernel
theorem dX2_init_24 : decode cX2_init 24 = .ok (.putfield 19, 3) := by decide +kernel
theorem dX2_init_27 : decode cX2_init 27 = .ok (.aload_n 0, 1) := by decide +kernel
theorem dX2_init_28 : decode cX2_init 28 = .ok (.iconst 0, 1) := by decide +kernel
theorem dX2_init_29 : decode cX2_init 29 = .ok (.putfield 22, 3) := by decide +kernel
theorem dX2_init_32 : decode cX2_init 32 = .ok (.aload_n 0, 1) := by decide +kernel
theorem dX2_init_33 : decode cX2_init 33 = .ok (.iconst 0, 1) := by decide +kernel
theorem dX2_init_34 : decode cX2_init 34 = .ok (.putfield 26, 3) := by decide +kernel
theorem dX2_init_37 : decode cX2_init 37 = .ok (.aload_n 0, 1) := by decide +kernel
theorem dX2_init_38 : decode cX2_init 38 = .ok (.iconst 4, 1) := by decide +kernel
theorem dX2_init_39 : decode cX2_init 39 = .ok (.iconst 4, 1) := by decide +kernel
theorem dX2_init_40 : decode cX2_init 40 = .ok (.invokevirtual 29, 3) := by decide +kernel
theorem dX2_init_43 : decode cX2_init 43 = .ok (.return_, 1) := by decide +kernel
set_option maxRecDepth 20000 in
theorem ggX2_spread_J7_fill_53178 : GoodIn wsX2_spread wsJ7_fill_53178 := goodIn_r _ [8] (by decide +kernel) (by decide +kernel)
set_option maxRecDepth 20000 in
theorem gX2_spread_J7_fill_53178 : GoodIn wsX2_spread (va_wsS RX2 33 yJ7_fill_53178 wsJ7_fill_53178) := goodIn_app (goodIn_of _ (by decide +kernel)) ggX2_spread_J7_fill_53178
set_option maxRecDepth 20000 in
theorem ggX2_spread_X2_at : GoodIn wsX2_spread wsX2_at := goodIn_r _ [13] (by decide +kernel) (by decide +kernel)
set_option maxRecDepth 20000 in
theorem gX2_spread_X2_at : GoodIn wsX2_spread (wsV RX2 39 RX2 yX2_at wsX2_at) := goodIn_app (goodIn_of _ (by decide +kernel)) ggX2_spread_X2_at
theorem dX2_spread_0 : decode cX2_spread 0 = .ok (.aload_n 0, 1) := by decide +kernel
theorem dX2_spread_1 : decode cX2_spread 1 = .ok (.iload_n 1, 1) := by decide +kernel
theorem dX2_spread_2 : decode cX2_spread 2 = .ok (.putfield 22, 3) := by decide +kernel
theorem dX2_spread_5 : decode cX2_spread 5 = .ok (.aload_n 0, 1) := by decide +kernel
theorem dX2_spread_6 : decode cX2_spread 6 = .ok (.iload_n 2, 1) := by decide +kernel
theorem dX2_spread_7 : decode cX2_spread 7 = .ok (.putfield 26, 3) := by decide +kernel
theorem dX2_spread_10 : decode cX2_spread 10 = .ok (.aload_n 0, 1) := by decide +kernel
theorem dX2_spread_11 : decode cX2_spread 11 = .ok (.getfield 9, 3) := by decide +kernel
theorem dX2_spread_14 : decode cX2_spread 14 = .ok (.iconst 0, 1) := by decide +kernel
theorem dX2_spread_15 : decode cX2_spread 15 = .ok (.invokestatic 33, 3) := by decide +kernel
theorem dX2_spread_18 : decode cX2_spread 18 = .ok (.iconst 0, 1) := by decide +kernel
theorem dX2_spread_19 : decode cX2_spread 19 = .ok (.istore_n 3, 1) := by decide +kernel
theorem dX2_spread_20 : decode cX2_spread 20 = .ok (.iload_n 3, 1) := by decide +kernel
theorem dX2_spread_21 : decode cX2_spread 21 = .ok (.iload_n 2, 1) := by decide +kernel
theorem dX2_spread_22 : decode cX2_spread 22 = .ok (.if_icmp .ge 65, 3) := by decide +kernel
theorem dX2_spread_25 : decode cX2_spread 25 = .ok (.iconst 0, 1) := by decide +kernel
theorem dX2_spread_26 : decode cX2_spread 26 = .ok (.istore 4, 2) := by decide +kernel
theorem dX2_spread_28 : decode cX2_spread 28 = .ok (.iload 4, 2) := by decide +kernel
theorem dX2_spread_30 : decode cX2_spread 30 = .ok (.iload_n 1, 1) := by decide +kernel
theorem dX2_spread_31 : decode cX2_spread 31 = .ok (.if_icmp .ge 50, 3) := by decide +kernel
theorem dX2_spread_34 : decode cX2_spread 34 = .ok (.aload_n 0, 1) := by decide +kernel
theorem dX2_spread_35 : decode cX2_spread 35 = .ok (.getfield 15, 3) := by decide +kernel
theorem dX2_spread_38 : decode cX2_spread 38 = .ok (.aload_n 0, 1) := by decide +kernel
theorem dX2_spread_39 : decode cX2_spread 39 = .ok (.iload 4, 2) := by decide +kernel
theorem dX2_spread_41 : decode cX2_spread 41 = .ok (.iload_n 3, 1) := by decide +kernel
theorem dX2_spread_42 : decode cX2_spread 42 = .ok (.invokevirtual 39, 3) := by decide +kernel
theorem dX2_spread_45 : decode cX2_spread 45 = .ok (.iload 4, 2) := by decide +kernel
theorem dX2_spread_47 : decode cX2_spread 47 = .ok (.ifCond .eq 22, 3) := by decide +kernel
theorem dX2_spread_50 : decode cX2_spread 50 = .ok (.iload_n 3, 1) := by decide +kernel
theorem dX2_spread_51 : decode cX2_spread 51 = .ok (.ifCond .eq 18, 3) := by decide +kernel
theorem dX2_spread_54 : decode cX2_spread 54 = .ok (.iload 4, 2) := by decide +kernel
theorem dX2_spread_56 : decode cX2_spread 56 = .ok (.iload_n 1, 1) := by decide +kernel
theorem dX2_spread_57 : decode cX2_spread 57 = .ok (.iconst 1, 1) := by decide +kernel
theorem dX2_spread_58 : decode cX2_spread 58 = .ok (.isub, 1) := by decide +kernel
theorem dX2_spread_59 : decode cX2_spread 59 = .ok (.if_icmp .eq 10, 3) := by decide +kernel
theorem dX2_spread_62 : decode cX2_spread 62 = .ok (.iload_n 3, 1) := by decide +kernel
theorem dX2_spread_63 : decode cX2_spread 63 = .ok (.iload_n 2, 1) := by decide +kernel
theorem dX2_spread_64 : decode cX2_spread 64 = .ok (.iconst 1, 1) := by decide +kernel
theorem dX2_spread_65 : decode cX2_spread 65 = .ok (.isub, 1) := by decide +kernel
theorem dX2_spread_66 : decode cX2_spread 66 = .ok (.if_icmp .ne 7, 3) := by decide +kernel
theorem dX2_spread_69 : decode cX2_spread 69 = .ok (.iconst 1, 1) := by decide +kernel
theorem dX2_spread_70 : decode cX2_spread 70 = .ok (.goto 4, 3) := by decide +kernel
theorem dX2_spread_73 : decode cX2_spread 73 = .ok (.iconst 0, 1) := by decide +kernel
theorem dX2_spread_74 : decode cX2_spread 74 = .ok (.bastore, 1) := by decide +kernel
theorem dX2_spread_75 : decode cX2_spread 75 = .ok (.iinc 4 1, 3) := by decide +kernel
theorem dX2_spread_78 : decode cX2_spread 78 = .ok (.goto (-50), 3) := by decide +kernel
theorem dX2_spread_81 : decode cX2_spread 81 = .ok (.iinc 3 1, 3) := by decide +kernel
theorem dX2_spread_84 : decode cX2_spread 84 = .ok (.goto (-64), 3) := by decide +kernel
theorem dX2_spread_87 : decode cX2_spread 87 = .ok (.return_, 1) := by decide +kernel
theorem dX2_has_0 : decode cX2_has 0 = .ok (.iload_n 1, 1) := by decide +kernel
theorem dX2_has_1 : decode cX2_has 1 = .ok (.ifCond .lt 27, 3) := by decide +kernel
theorem dX2_has_4 : decode cX2_has 4 = .ok (.iload_n 1, 1) := by decide +kernel
theorem dX2_has_5 : decode cX2_has 5 = .ok (.aload_n 0, 1) := by decide +kernel
theorem dX2_has_6 : decode cX2_has 6 = .ok (.getfield 22, 3) := by decide +kernel
theorem dX2_has_9 : decode cX2_has 9 = .ok (.if_icmp .ge 19, 3) := by decide +kernel
theorem dX2_has_12 : decode cX2_has 12 = .ok (.iload_n 2, 1) := by decide +kernel
theorem dX2_has_13 : decode cX2_has 13 = .ok (.ifCond .lt 15, 3) := by decide +kernel
theorem dX2_has_16 : decode cX2_has 16 = .ok (.iload_n 2, 1) := by decide +kernel
theorem dX2_has_17 : decode cX2_has 17 = .ok (.aload_n 0, 1) := by decide +kernel
theorem dX2_has_18 : decode cX2_has 18 = .ok (.getfield 26, 3) := by decide +kernel
theorem dX2_has_21 : decode cX2_has 21 = .ok (.if_icmp .ge 7, 3) := by decide +kernel
theorem dX2_has_24 : decode cX2_has 24 = .ok (.iconst 1, 1) := by decide +kernel
theorem dX2_has_25 : decode cX2_has 25 = .ok (.goto 4, 3) := by decide +kernel
theorem dX2_has_28 : decode cX2_has 28 = .ok (.iconst 0, 1) := by decide +kernel
theorem dX2_has_29 : decode cX2_has 29 = .ok (.ireturn, 1) := by decide +kernel
theorem dX2_at_0 : decode cX2_at 0 = .ok (.iload_n 2, 1) := by decide +kernel
theorem dX2_at_1 : decode cX2_at 1 = .ok (.bipush 8, 2) := by decide +kernel
theorem dX2_at_3 : decode cX2_at 3 = .ok (.imul, 1) := by decide +kernel
theorem dX2_at_4 : decode cX2_at 4 = .ok (.iload_n 1, 1) := by decide +kernel
theorem dX2_at_5 : decode cX2_at 5 = .ok (.iadd, 1) := by decide +kernel
theorem dX2_at_6 : decode cX2_at 6 = .ok (.ireturn, 1) := by decide +kernel
set_option maxRecDepth 20000 in
theorem ggX2_pins_X2_at : GoodIn wsX2_pins wsX2_at := goodIn_r _ [8] (by decide +kernel) (by decide +kernel)
set_option maxRecDepth 20000 in
theorem gX2_pins_X2_at : GoodIn wsX2_pins (wsV RX2 39 RX2 yX2_at wsX2_at) := goodIn_app (goodIn_of _ (by decide +kernel)) ggX2_pins_X2_at
theorem dX2_pins_0 : decode cX2_pins 0 = .ok (.iconst 0, 1) := by decide +kernel
theorem dX2_pins_1 : decode cX2_pins 1 = .ok (.istore_n 1, 1) := by decide +kernel
theorem dX2_pins_2 : decode cX2_pins 2 = .ok (.iconst 0, 1) := by decide +kernel
theorem dX2_pins_3 : decode cX2_pins 3 = .ok (.istore_n 2, 1) := by decide +kernel
theorem dX2_pins_4 : decode cX2_pins 4 = .ok (.iload_n 2, 1) := by decide +kernel
theorem dX2_pins_5 : decode cX2_pins 5 = .ok (.aload_n 0, 1) := by decide +kernel
theorem dX2_pins_6 : decode cX2_pins 6 = .ok (.getfield 26, 3) := by decide +kernel
theorem dX2_pins_9 : decode cX2_pins 9 = .ok (.if_icmp .ge 42, 3) := by decide +kernel
theorem dX2_pins_12 : decode cX2_pins 12 = .ok (.iconst 0, 1) := by decide +kernel
theorem dX2_pins_13 : decode cX2_pins 13 = .ok (.istore_n 3, 1) := by decide +kernel
theorem dX2_pins_14 : decode cX2_pins 14 = .ok (.iload_n 3, 1) := by decide +kernel
theorem dX2_pins_15 : decode cX2_pins 15 = .ok (.aload_n 0, 1) := by decide +kernel
theorem dX2_pins_16 : decode cX2_pins 16 = .ok (.getfield 22, 3) := by decide +kernel
theorem dX2_pins_19 : decode cX2_pins 19 = .ok (.if_icmp .ge 26, 3) := by decide +kernel
theorem dX2_pins_22 : decode cX2_pins 22 = .ok (.aload_n 0, 1) := by decide +kernel
theorem dX2_pins_23 : decode cX2_pins 23 = .ok (.getfield 15, 3) := by decide +kernel
theorem dX2_pins_26 : decode cX2_pins 26 = .ok (.aload_n 0, 1) := by decide +kernel
theorem dX2_pins_27 : decode cX2_pins 27 = .ok (.iload_n 3, 1) := by decide +kernel
theorem dX2_pins_28 : decode cX2_pins 28 = .ok (.iload_n 2, 1) := by decide +kernel
theorem dX2_pins_29 : decode cX2_pins 29 = .ok (.invokevirtual 39, 3) := by decide +kernel
theorem dX2_pins_32 : decode cX2_pins 32 = .ok (.baload, 1) := by decide +kernel
theorem dX2_pins_33 : decode cX2_pins 33 = .ok (.ifCond .eq 6, 3) := by decide +kernel
theorem dX2_pins_36 : decode cX2_pins 36 = .ok (.iinc 1 1, 3) := by decide +kernel
theorem dX2_pins_39 : decode cX2_pins 39 = .ok (.iinc 3 1, 3) := by decide +kernel
theorem dX2_pins_42 : decode cX2_pins 42 = .ok (.goto (-28), 3) := by decide +kernel
theorem dX2_pins_45 : decode cX2_pins 45 = .ok (.iinc 2 1, 3) := by decide +kernel
theorem dX2_pins_48 : decode cX2_pins 48 = .ok (.goto (-44), 3) := by decide +kernel
theorem dX2_pins_51 : decode cX2_pins 51 = .ok (.iload_n 1, 1) := by decide +kernel
theorem dX2_pins_52 : decode cX2_pins 52 = .ok (.ireturn, 1) := by decide +kernel
set_option maxRecDepth 20000 in
theorem ggX2_sumOfDifferences_X2_difference : GoodIn wsX2_sumOfDifferences wsX2_difference := goodIn_r _ [7, 8, 9, 10, 11, 12, 13, 14, 15, 6, 16, 2, 1, 17, 18, 19, 20, 21, 22, 23, 24, 25] (by decide +kernel) (by decide +kernel)
set_option maxRecDepth 20000 in
theorem gX2_sumOfDifferences_X2_difference : GoodIn wsX2_sumOfDifferences (wsV RX2 43 RX2 yX2_difference wsX2_difference) := goodIn_app (goodIn_of _ (by decide +kernel)) ggX2_sumOfDifferences_X2_difference
theorem dX2_sumOfDifferences_0 : decode cX2_sumOfDifferences 0 = .ok (.iconst 0, 1) := by decide +kernel
theorem dX2_sumOfDifferences_1 : decode cX2_sumOfDifferences 1 = .ok (.istore_n 1, 1) := by decide +kernel
theorem dX2_sumOfDifferences_2 : decode cX2_sumOfDifferences 2 = .ok (.iconst 0, 1) := by decide +kernel
theorem dX2_sumOfDifferences_3 : decode cX2_sumOfDifferences 3 = .ok (.istore_n 2, 1) := by decide +kernel
theorem dX2_sumOfDifferences_4 : decode cX2_sumOfDifferences 4 = .ok (.iload_n 2, 1) := by decide +kernel
theorem dX2_sumOfDifferences_5 : decode cX2_sumOfDifferences 5 = .ok (.aload_n 0, 1) := by decide +kernel
theorem dX2_sumOfDifferences_6 : decode cX2_sumOfDifferences 6 = .ok (.getfield 26, 3) := by decide +kernel
theorem dX2_sumOfDifferences_9 : decode cX2_sumOfDifferences 9 = .ok (.if_icmp .ge 49, 3) := by decide +kernel
theorem dX2_sumOfDifferences_12 : decode cX2_sumOfDifferences 12 = .ok (.iconst 0, 1) := by decide +kernel
theorem dX2_sumOfDifferences_13 : decode cX2_sumOfDifferences 13 = .ok (.istore_n 3, 1) := by decide +kernel
theorem dX2_sumOfDifferences_14 : decode cX2_sumOfDifferences 14 = .ok (.iload_n 3, 1) := by decide +kernel
theorem dX2_sumOfDifferences_15 : decode cX2_sumOfDifferences 15 = .ok (.aload_n 0, 1) := by decide +kernel
theorem dX2_sumOfDifferences_16 : decode cX2_sumOfDifferences 16 = .ok (.getfield 22, 3) := by decide +kernel
theorem dX2_sumOfDifferences_19 : decode cX2_sumOfDifferences 19 = .ok (.if_icmp .ge 33, 3) := by decide +kernel
theorem dX2_sumOfDifferences_22 : decode cX2_sumOfDifferences 22 = .ok (.iload_n 1, 1) := by decide +kernel
theorem dX2_sumOfDifferences_23 : decode cX2_sumOfDifferences 23 = .ok (.aload_n 0, 1) := by decide +kernel
theorem dX2_sumOfDifferences_24 : decode cX2_sumOfDifferences 24 = .ok (.iload_n 3, 1) := by decide +kernel
theorem dX2_sumOfDifferences_25 : decode cX2_sumOfDifferences 25 = .ok (.iload_n 2, 1) := by decide +kernel
theorem dX2_sumOfDifferences_26 : decode cX2_sumOfDifferences 26 = .ok (.iload_n 3, 1) := by decide +kernel
theorem dX2_sumOfDifferences_27 : decode cX2_sumOfDifferences 27 = .ok (.iconst 1, 1) := by decide +kernel
theorem dX2_sumOfDifferences_28 : decode cX2_sumOfDifferences 28 = .ok (.iadd, 1) := by decide +kernel
theorem dX2_sumOfDifferences_29 : decode cX2_sumOfDifferences 29 = .ok (.iload_n 2, 1) := by decide +kernel
theorem dX2_sumOfDifferences_30 : decode cX2_sumOfDifferences 30 = .ok (.invokevirtual 43, 3) := by decide +kernel
theorem dX2_sumOfDifferences_33 : decode cX2_sumOfDifferences 33 = .ok (.aload_n 0, 1) := by decide +kernel
theorem dX2_sumOfDifferences_34 : decode cX2_sumOfDifferences 34 = .ok (.iload_n 3, 1) := by decide +kernel
theorem dX2_sumOfDifferences_35 : decode cX2_sumOfDifferences 35 = .ok (.iload_n 2, 1) := by decide +kernel
theorem dX2_sumOfDifferences_36 : decode cX2_sumOfDifferences 36 = .ok (.iload_n 3, 1) := by decide +kernel
theorem dX2_sumOfDifferences_37 : decode cX2_sumOfDifferences 37 = .ok (.iload_n 2, 1) := by decide +kernel
theorem dX2_sumOfDifferences_38 : decode cX2_sumOfDifferences 38 = .ok (.iconst 1, 1) := by decide +kernel
theorem dX2_sumOfDifferences_39 : decode cX2_sumOfDifferences 39 = .ok (.iadd, 1) := by decide +kernel
theorem dX2_sumOfDifferences_40 : decode cX2_sumOfDifferences 40 = .ok (.invokevirtual 43, 3) := by decide +kernel
theorem dX2_sumOfDifferences_43 : decode cX2_sumOfDifferences 43 = .ok (.iadd, 1) := by decide +kernel
theorem dX2_sumOfDifferences_44 : decode cX2_sumOfDifferences 44 = .ok (.iadd, 1) := by decide +kernel
theorem dX2_sumOfDifferences_45 : decode cX2_sumOfDifferences 45 = .ok (.istore_n 1, 1) := by decide +kernel
theorem dX2_sumOfDifferences_46 : decode cX2_sumOfDifferences 46 = .ok (.iinc 3 1, 3) := by decide +kernel
theorem dX2_sumOfDifferences_49 : decode cX2_sumOfDifferences 49 = .ok (.goto (-35), 3) := by decide +kernel
theorem dX2_sumOfDifferences_52 : decode cX2_sumOfDifferences 52 = .ok (.iinc 2 1, 3) := by decide +kernel
theorem dX2_sumOfDifferences_55 : decode cX2_sumOfDifferences 55 = .ok (.goto (-51), 3) := by decide +kernel
theorem dX2_sumOfDifferences_58 : decode cX2_sumOfDifferences 58 = .ok (.iload_n 1, 1) := by decide +kernel
theorem dX2_sumOfDifferences_59 : decode cX2_sumOfDifferences 59 = .ok (.ireturn, 1) := by decide +kernel
set_option maxRecDepth 20000 in
theorem ggX2_difference_X2_has : GoodIn wsX2_difference wsX2_has := goodIn_r _ [10, 11, 12, 17, 18, 19, 20, 21] (by decide +kernel) (by decide +kernel)
set_option maxRecDepth 20000 in
theorem gX2_difference_X2_has : GoodIn wsX2_difference (wsV RX2 47 RX2 yX2_has wsX2_has) := goodIn_app (goodIn_of _ (by decide +kernel)) ggX2_difference_X2_has
set_option maxRecDepth 20000 in
theorem ggX2_difference_X2_at : GoodIn wsX2_difference wsX2_at := goodIn_r _ [16] (by decide +kernel) (by decide +kernel)
set_option maxRecDepth 20000 in
theorem gX2_difference_X2_at : GoodIn wsX2_difference (wsV RX2 39 RX2 yX2_at wsX2_at) := goodIn_app (goodIn_of _ (by decide +kernel)) ggX2_difference_X2_at
theorem dX2_difference_0 : decode cX2_difference 0 = .ok (.aload_n 0, 1) := by decide +kernel
theorem dX2_difference_1 : decode cX2_difference 1 = .ok (.iload_n 3, 1) := by decide +kernel
theorem dX2_difference_2 : decode cX2_difference 2 = .ok (.iload 4, 2) := by decide +kernel
theorem dX2_difference_4 : decode cX2_difference 4 = .ok (.invokevirtual 47, 3) := by decide +kernel
theorem dX2_difference_7 : decode cX2_difference 7 = .ok (.ifCond .eq 33, 3) := by decide +kernel
theorem dX2_difference_10 : decode cX2_difference 10 = .ok (.aload_n 0, 1) := by decide +kernel
theorem dX2_difference_11 : decode cX2_difference 11 = .ok (.getfield 9, 3) := by decide +kernel
theorem dX2_difference_14 : decode cX2_difference 14 = .ok (.aload_n 0, 1) := by decide +kernel
theorem dX2_difference_15 : decode cX2_difference 15 = .ok (.iload_n 1, 1) := by decide +kernel
theorem dX2_difference_16 : decode cX2_difference 16 = .ok (.iload_n 2, 1) := by decide +kernel
theorem dX2_difference_17 : decode cX2_difference 17 = .ok (.invokevirtual 39, 3) := by decide +kernel
theorem dX2_difference_20 : decode cX2_difference 20 = .ok (.iaload, 1) := by decide +kernel
theorem dX2_difference_21 : decode cX2_difference 21 = .ok (.aload_n 0, 1) := by decide +kernel
theorem dX2_difference_22 : decode cX2_difference 22 = .ok (.getfield 9, 3) := by decide +kernel
theorem dX2_difference_25 : decode cX2_difference 25 = .ok (.aload_n 0, 1) := by decide +kernel
theorem dX2_difference_26 : decode cX2_difference 26 = .ok (.iload_n 3, 1) := by decide +kernel
theorem dX2_difference_27 : decode cX2_difference 27 = .ok (.iload 4, 2) := by decide +kernel
theorem dX2_difference_29 : decode cX2_difference 29 = .ok (.invokevirtual 39, 3) := by decide +kernel
theorem dX2_difference_32 : decode cX2_difference 32 = .ok (.iaload, 1) := by decide +kernel
theorem dX2_difference_33 : decode cX2_difference 33 = .ok (.isub, 1) := by decide +kernel
theorem dX2_difference_34 : decode cX2_difference 34 = .ok (.invokestatic 51, 3) := by decide +kernel
theorem dX2_difference_37 : decode cX2_difference 37 = .ok (.goto 4, 3) := by decide +kernel
theorem dX2_difference_40 : decode cX2_difference 40 = .ok (.iconst 0, 1) := by decide +kernel
theorem dX2_difference_41 : decode cX2_difference 41 = .ok (.ireturn, 1) := by decide +kernel
set_option maxRecDepth 20000 in
theorem ggX2_sumOfChanges_X2_stepped : GoodIn wsX2_sumOfChanges wsX2_stepped := goodIn_r _ [12, 3, 13, 14, 15, 16, 6, 17, 18, 19, 20, 21, 22, 23, 11, 24, 25, 26, 27, 28, 29, 30, 31, 32, 2, 1, 33, 34, 35, 36, 37] (by decide +kernel) (by decide +kernel)
set_option maxRecDepth 20000 in
theorem gX2_sumOfChanges_X2_stepped : GoodIn wsX2_sumOfChanges (wsV RX2 57 RX2 yX2_stepped wsX2_stepped) := goodIn_app (goodIn_of _ (by decide +kernel)) ggX2_sumOfChanges_X2_stepped
set_option maxRecDepth 20000 in
theorem ggX2_sumOfChanges_X2_at : GoodIn wsX2_sumOfChanges wsX2_at := goodIn_r _ [24] (by decide +kernel) (by decide +kernel)
set_option maxRecDepth 20000 in
theorem gX2_sumOfChanges_X2_at : GoodIn wsX2_sumOfChanges (wsV RX2 39 RX2 yX2_at wsX2_at) := goodIn_app (goodIn_of _ (by decide +kernel)) ggX2_sumOfChanges_X2_at
theorem dX2_sumOfChanges_0 : decode cX2_sumOfChanges 0 = .ok (.iconst 0, 1) := by decide +kernel
theorem dX2_sumOfChanges_1 : decode cX2_sumOfChanges 1 = .ok (.istore_n 1, 1) := by decide +kernel
theorem dX2_sumOfChanges_2 : decode cX2_sumOfChanges 2 = .ok (.iconst 0, 1) := by decide +kernel
theorem dX2_sumOfChanges_3 : decode cX2_sumOfChanges 3 = .ok (.istore_n 2, 1) := by decide +kernel
theorem dX2_sumOfChanges_4 : decode cX2_sumOfChanges 4 = .ok (.iload_n 2, 1) := by decide +kernel
theorem dX2_sumOfChanges_5 : decode cX2_sumOfChanges 5 = .ok (.aload_n 0, 1) := by decide +kernel
theorem dX2_sumOfChanges_6 : decode cX2_sumOfChanges 6 = .ok (.getfield 26, 3) := by decide +kernel
theorem dX2_sumOfChanges_9 : decode cX2_sumOfChanges 9 = .ok (.if_icmp .ge 49, 3) := by decide +kernel
theorem dX2_sumOfChanges_12 : decode cX2_sumOfChanges 12 = .ok (.iconst 0, 1) := by decide +kernel
theorem dX2_sumOfChanges_13 : decode cX2_sumOfChanges 13 = .ok (.istore_n 3, 1) := by decide +kernel
theorem dX2_sumOfChanges_14 : decode cX2_sumOfChanges 14 = .ok (.iload_n 3, 1) := by decide +kernel
theorem dX2_sumOfChanges_15 : decode cX2_sumOfChanges 15 = .ok (.aload_n 0, 1) := by decide +kernel
theorem dX2_sumOfChanges_16 : decode cX2_sumOfChanges 16 = .ok (.getfield 22, 3) := by decide +kernel
theorem dX2_sumOfChanges_19 : decode cX2_sumOfChanges 19 = .ok (.if_icmp .ge 33, 3) := by decide +kernel
theorem dX2_sumOfChanges_22 : decode cX2_sumOfChanges 22 = .ok (.iload_n 1, 1) := by decide +kernel
theorem dX2_sumOfChanges_23 : decode cX2_sumOfChanges 23 = .ok (.aload_n 0, 1) := by decide +kernel
theorem dX2_sumOfChanges_24 : decode cX2_sumOfChanges 24 = .ok (.iload_n 3, 1) := by decide +kernel
theorem dX2_sumOfChanges_25 : decode cX2_sumOfChanges 25 = .ok (.iload_n 2, 1) := by decide +kernel
theorem dX2_sumOfChanges_26 : decode cX2_sumOfChanges 26 = .ok (.invokevirtual 57, 3) := by decide +kernel
theorem dX2_sumOfChanges_29 : decode cX2_sumOfChanges 29 = .ok (.aload_n 0, 1) := by decide +kernel
theorem dX2_sumOfChanges_30 : decode cX2_sumOfChanges 30 = .ok (.getfield 9, 3) := by decide +kernel
theorem dX2_sumOfChanges_33 : decode cX2_sumOfChanges 33 = .ok (.aload_n 0, 1) := by decide +kernel
theorem dX2_sumOfChanges_34 : decode cX2_sumOfChanges 34 = .ok (.iload_n 3, 1) := by decide +kernel
theorem dX2_sumOfChanges_35 : decode cX2_sumOfChanges 35 = .ok (.iload_n 2, 1) := by decide +kernel
theorem dX2_sumOfChanges_36 : decode cX2_sumOfChanges 36 = .ok (.invokevirtual 39, 3) := by decide +kernel
theorem dX2_sumOfChanges_39 : decode cX2_sumOfChanges 39 = .ok (.iaload, 1) := by decide +kernel
theorem dX2_sumOfChanges_40 : decode cX2_sumOfChanges 40 = .ok (.isub, 1) := by decide +kernel
theorem dX2_sumOfChanges_41 : decode cX2_sumOfChanges 41 = .ok (.invokestatic 51, 3) := by decide +kernel
theorem dX2_sumOfChanges_44 : decode cX2_sumOfChanges 44 = .ok (.iadd, 1) := by decide +kernel
theorem dX2_sumOfChanges_45 : decode cX2_sumOfChanges 45 = .ok (.istore_n 1, 1) := by decide +kernel
theorem dX2_sumOfChanges_46 : decode cX2_sumOfChanges 46 = .ok (.iinc 3 1, 3) := by decide +kernel
theorem dX2_sumOfChanges_49 : decode cX2_sumOfChanges 49 = .ok (.goto (-35), 3) := by decide +kernel
theorem dX2_sumOfChanges_52 : decode cX2_sumOfChanges 52 = .ok (.iinc 2 1, 3) := by decide +kernel
theorem dX2_sumOfChanges_55 : decode cX2_sumOfChanges 55 = .ok (.goto (-51), 3) := by decide +kernel
theorem dX2_sumOfChanges_58 : decode cX2_sumOfChanges 58 = .ok (.iload_n 1, 1) := by decide +kernel
theorem dX2_sumOfChanges_59 : decode cX2_sumOfChanges 59 = .ok (.ireturn, 1) := by decide +kernel
set_option maxRecDepth 20000 in
theorem ggX2_isAtRest_X2_sumOfChanges : GoodIn wsX2_isAtRest wsX2_sumOfChanges := goodIn_r _ [5, 6, 7, 8, 9, 10, 11, 12, 13, 14, 15, 4, 16, 17, 18, 19, 20, 21, 22, 23, 24, 25, 26, 27, 28, 29, 30, 31, 32, 33, 34, 35, 36, 37, 38, 39, 40, 41] (by decide +kernel) (by decide +kernel)
set_option maxRecDepth 20000 in
theorem gX2_isAtRest_X2_sumOfChanges : GoodIn wsX2_isAtRest (wsV RX2 60 RX2 yX2_sumOfChanges wsX2_sumOfChanges) := goodIn_app (goodIn_of _ (by decide +kernel)) ggX2_isAtRest_X2_sumOfChanges
theorem dX2_isAtRest_0 : decode cX2_isAtRest 0 = .ok (.aload_n 0, 1) := by decide +kernel
theorem dX2_isAtRest_1 : decode cX2_isAtRest 1 = .ok (.invokevirtual 60, 3) := by decide +kernel
theorem dX2_isAtRest_4 : decode cX2_isAtRest 4 = .ok (.ifCond .ne 7, 3) := by decide +kernel
theorem dX2_isAtRest_7 : decode cX2_isAtRest 7 = .ok (.iconst 1, 1) := by decide +kernel
theorem dX2_isAtRest_8 : decode cX2_isAtRest 8 = .ok (.goto 4, 3) := by decide +kernel
theorem dX2_isAtRest_11 : decode cX2_isAtRest 11 = .ok (.iconst 0, 1) := by decide +kernel
theorem dX2_isAtRest_12 : decode cX2_isAtRest 12 = .ok (.ireturn, 1) := by decide +kernel
set_option maxRecDepth 20000 in
theorem ggX2_stepAtEach_X2_at : GoodIn wsX2_stepAtEach wsX2_at := goodIn_r _ [8] (by decide +kernel) (by decide +kernel)
set_option maxRecDepth 20000 in
theorem gX2_stepAtEach_X2_at : GoodIn wsX2_stepAtEach (wsV RX2 39 RX2 yX2_at wsX2_at) := goodIn_app (goodIn_of _ (by decide +kernel)) ggX2_stepAtEach_X2_at
set_option maxRecDepth 20000 in
theorem ggX2_stepAtEach_X2_stepped : GoodIn wsX2_stepAtEach wsX2_stepped := goodIn_r _ [12, 3, 13, 14, 15, 16, 17, 18, 19, 20, 21, 4, 5, 6, 7, 8, 22, 23, 24, 25, 26, 27, 28, 29, 2, 1, 30, 31, 32, 33, 34] (by decide +kernel) (by decide +kernel)
set_option maxRecDepth 20000 in
theorem gX2_stepAtEach_X2_stepped : GoodIn wsX2_stepAtEach (wsV RX2 57 RX2 yX2_stepped wsX2_stepped) := goodIn_app (goodIn_of _ (by decide +kernel)) ggX2_stepAtEach_X2_stepped
theorem dX2_stepAtEach_0 : decode cX2_stepAtEach 0 = .ok (.iconst 0, 1) := by decide +kernel
theorem dX2_stepAtEach_1 : decode cX2_stepAtEach 1 = .ok (.istore_n 1, 1) := by decide +kernel
theorem dX2_stepAtEach_2 : decode cX2_stepAtEach 2 = .ok (.iload_n 1, 1) := by decide +kernel
theorem dX2_stepAtEach_3 : decode cX2_stepAtEach 3 = .ok (.aload_n 0, 1) := by decide +kernel
theorem dX2_stepAtEach_4 : decode cX2_stepAtEach 4 = .ok (.getfield 26, 3) := by decide +kernel
theorem dX2_stepAtEach_7 : decode cX2_stepAtEach 7 = .ok (.if_icmp .ge 42, 3) := by decide +kernel
theorem dX2_stepAtEach_10 : decode cX2_stepAtEach 10 = .ok (.iconst 0, 1) := by decide +kernel
theorem dX2_stepAtEach_11 : decode cX2_stepAtEach 11 = .ok (.istore_n 2, 1) := by decide +kernel
theorem dX2_stepAtEach_12 : decode cX2_stepAtEach 12 = .ok (.iload_n 2, 1) := by decide +kernel
theorem dX2_stepAtEach_13 : decode cX2_stepAtEach 13 = .ok (.aload_n 0, 1) := by decide +kernel
theorem dX2_stepAtEach_14 : decode cX2_stepAtEach 14 = .ok (.getfield 22, 3) := by decide +kernel
theorem dX2_stepAtEach_17 : decode cX2_stepAtEach 17 = .ok (.if_icmp .ge 26, 3) := by decide +kernel
theorem dX2_stepAtEach_20 : decode cX2_stepAtEach 20 = .ok (.aload_n 0, 1) := by decide +kernel
theorem dX2_stepAtEach_21 : decode cX2_stepAtEach 21 = .ok (.getfield 9, 3) := by decide +kernel
theorem dX2_stepAtEach_24 : decode cX2_stepAtEach 24 = .ok (.aload_n 0, 1) := by decide +kernel
theorem dX2_stepAtEach_25 : decode cX2_stepAtEach 25 = .ok (.iload_n 2, 1) := by decide +kernel
theorem dX2_stepAtEach_26 : decode cX2_stepAtEach 26 = .ok (.iload_n 1, 1) := by decide +kernel
theorem dX2_stepAtEach_27 : decode cX2_stepAtEach 27 = .ok (.invokevirtual 39, 3) := by decide +kernel
theorem dX2_stepAtEach_30 : decode cX2_stepAtEach 30 = .ok (.aload_n 0, 1) := by decide +kernel
theorem dX2_stepAtEach_31 : decode cX2_stepAtEach 31 = .ok (.iload_n 2, 1) := by decide +kernel
theorem dX2_stepAtEach_32 : decode cX2_stepAtEach 32 = .ok (.iload_n 1, 1) := by decide +kernel
theorem dX2_stepAtEach_33 : decode cX2_stepAtEach 33 = .ok (.invokevirtual 57, 3) := by decide +kernel
theorem dX2_stepAtEach_36 : decode cX2_stepAtEach 36 = .ok (.iastore, 1) := by decide +kernel
theorem dX2_stepAtEach_37 : decode cX2_stepAtEach 37 = .ok (.iinc 2 1, 3) := by decide +kernel
theorem dX2_stepAtEach_40 : decode cX2_stepAtEach 40 = .ok (.goto (-28), 3) := by decide +kernel
theorem dX2_stepAtEach_43 : decode cX2_stepAtEach 43 = .ok (.iinc 1 1, 3) := by decide +kernel
theorem dX2_stepAtEach_46 : decode cX2_stepAtEach 46 = .ok (.goto (-44), 3) := by decide +kernel
theorem dX2_stepAtEach_49 : decode cX2_stepAtEach 49 = .ok (.return_, 1) := by decide +kernel
set_option maxRecDepth 20000 in
theorem ggX2_stepped_X2_at : GoodIn wsX2_stepped wsX2_at := goodIn_r _ [15] (by decide +kernel) (by decide +kernel)
set_option maxRecDepth 20000 in
theorem gX2_stepped_X2_at : GoodIn wsX2_stepped (wsV RX2 39 RX2 yX2_at wsX2_at) := goodIn_app (goodIn_of _ (by decide +kernel)) ggX2_stepped_X2_at
set_option maxRecDepth 20000 in
theorem ggX2_stepped_X2_putInOrder : GoodIn wsX2_stepped wsX2_putInOrder := goodIn_r _ [19, 1, 3, 20, 21, 22, 14, 23, 24, 25, 11, 12, 13, 15, 26, 27, 28, 29, 30] (by decide +kernel) (by decide +kernel)
set_option maxRecDepth 20000 in
theorem gX2_stepped_X2_putInOrder : GoodIn wsX2_stepped (wsV RX2 64 RX2 yX2_putInOrder wsX2_putInOrder) := goodIn_app (goodIn_of _ (by decide +kernel)) ggX2_stepped_X2_putInOrder
theorem dX2_stepped_0 : decode cX2_stepped 0 = .ok (.aload_n 0, 1) := by decide +kernel
theorem dX2_stepped_1 : decode cX2_stepped 1 = .ok (.getfield 9, 3) := by decide +kernel
theorem dX2_stepped_4 : decode cX2_stepped 4 = .ok (.aload_n 0, 1) := by decide +kernel
theorem dX2_stepped_5 : decode cX2_stepped 5 = .ok (.iload_n 1, 1) := by decide +kernel
theorem dX2_stepped_6 : decode cX2_stepped 6 = .ok (.iload_n 2, 1) := by decide +kernel
theorem dX2_stepped_7 : decode cX2_stepped 7 = .ok (.invokevirtual 39, 3) := by decide +kernel
theorem dX2_stepped_10 : decode cX2_stepped 10 = .ok (.iaload, 1) := by decide +kernel
theorem dX2_stepped_11 : decode cX2_stepped 11 = .ok (.istore_n 3, 1) := by decide +kernel
theorem dX2_stepped_12 : decode cX2_stepped 12 = .ok (.aload_n 0, 1) := by decide +kernel
theorem dX2_stepped_13 : decode cX2_stepped 13 = .ok (.getfield 15, 3) := by decide +kernel
theorem dX2_stepped_16 : decode cX2_stepped 16 = .ok (.aload_n 0, 1) := by decide +kernel
theorem dX2_stepped_17 : decode cX2_stepped 17 = .ok (.iload_n 1, 1) := by decide +kernel
theorem dX2_stepped_18 : decode cX2_stepped 18 = .ok (.iload_n 2, 1) := by decide +kernel
theorem dX2_stepped_19 : decode cX2_stepped 19 = .ok (.invokevirtual 39, 3) := by decide +kernel
theorem dX2_stepped_22 : decode cX2_stepped 22 = .ok (.baload, 1) := by decide +kernel
theorem dX2_stepped_23 : decode cX2_stepped 23 = .ok (.ifCond .eq 5, 3) := by decide +kernel
theorem dX2_stepped_26 : decode cX2_stepped 26 = .ok (.iload_n 3, 1) := by decide +kernel
theorem dX2_stepped_27 : decode cX2_stepped 27 = .ok (.ireturn, 1) := by decide +kernel
theorem dX2_stepped_28 : decode cX2_stepped 28 = .ok (.aload_n 0, 1) := by decide +kernel
theorem dX2_stepped_29 : decode cX2_stepped 29 = .ok (.iload_n 1, 1) := by decide +kernel
theorem dX2_stepped_30 : decode cX2_stepped 30 = .ok (.iconst 1, 1) := by decide +kernel
theorem dX2_stepped_31 : decode cX2_stepped 31 = .ok (.isub, 1) := by decide +kernel
theorem dX2_stepped_32 : decode cX2_stepped 32 = .ok (.iload_n 2, 1) := by decide +kernel
theorem dX2_stepped_33 : decode cX2_stepped 33 = .ok (.iconst 0, 1) := by decide +kernel
theorem dX2_stepped_34 : decode cX2_stepped 34 = .ok (.invokevirtual 64, 3) := by decide +kernel
theorem dX2_stepped_37 : decode cX2_stepped 37 = .ok (.istore 4, 2) := by decide +kernel
theorem dX2_stepped_39 : decode cX2_stepped 39 = .ok (.aload_n 0, 1) := by decide +kernel
theorem dX2_stepped_40 : decode cX2_stepped 40 = .ok (.iload_n 1, 1) := by decide +kernel
theorem dX2_stepped_41 : decode cX2_stepped 41 = .ok (.iconst 1, 1) := by decide +kernel
theorem dX2_stepped_42 : decode cX2_stepped 42 = .ok (.iadd, 1) := by decide +kernel
theorem dX2_stepped_43 : decode cX2_stepped 43 = .ok (.iload_n 2, 1) := by decide +kernel
theorem dX2_stepped_44 : decode cX2_stepped 44 = .ok (.iload 4, 2) := by decide +kernel
theorem dX2_stepped_46 : decode cX2_stepped 46 = .ok (.invokevirtual 64, 3) := by decide +kernel
theorem dX2_stepped_49 : decode cX2_stepped 49 = .ok (.istore 4, 2) := by decide +kernel
theorem dX2_stepped_51 : decode cX2_stepped 51 = .ok (.aload_n 0, 1) := by decide +kernel
theorem dX2_stepped_52 : decode cX2_stepped 52 = .ok (.iload_n 1, 1) := by decide +kernel
theorem dX2_stepped_53 : decode cX2_stepped 53 = .ok (.iload_n 2, 1) := by decide +kernel
theorem dX2_stepped_54 : decode cX2_stepped 54 = .ok (.iconst 1, 1) := by decide +kernel
theorem dX2_stepped_55 : decode cX2_stepped 55 = .ok (.isub, 1) := by decide +kernel
theorem dX2_stepped_56 : decode cX2_stepped 56 = .ok (.iload 4, 2) := by decide +kernel
theorem dX2_stepped_58 : decode cX2_stepped 58 = .ok (.invokevirtual 64, 3) := by decide +kernel
theorem dX2_stepped_61 : decode cX2_stepped 61 = .ok (.istore 4, 2) := by decide +kernel
theorem dX2_stepped_63 : decode cX2_stepped 63 = .ok (.aload_n 0, 1) := by decide +kernel
theorem dX2_stepped_64 : decode cX2_stepped 64 = .ok (.iload_n 1, 1) := by decide +kernel
theorem dX2_stepped_65 : decode cX2_stepped 65 = .ok (.iload_n 2, 1) := by decide +kernel
theorem dX2_stepped_66 : decode cX2_stepped 66 = .ok (.iconst 1, 1) := by decide +kernel
theorem dX2_stepped_67 : decode cX2_stepped 67 = .ok (.iadd, 1) := by decide +kernel
theorem dX2_stepped_68 : decode cX2_stepped 68 = .ok (.iload 4, 2) := by decide +kernel
theorem dX2_stepped_70 : decode cX2_stepped 70 = .ok (.invokevirtual 64, 3) := by decide +kernel
theorem dX2_stepped_73 : decode cX2_stepped 73 = .ok (.istore 4, 2) := by decide +kernel
theorem dX2_stepped_75 : decode cX2_stepped 75 = .ok (.aload_n 0, 1) := by decide +kernel
theorem dX2_stepped_76 : decode cX2_stepped 76 = .ok (.getfield 19, 3) := by decide +kernel
theorem dX2_stepped_79 : decode cX2_stepped 79 = .ok (.iload 4, 2) := by decide +kernel
theorem dX2_stepped_81 : decode cX2_stepped 81 = .ok (.iconst 1, 1) := by decide +kernel
theorem dX2_stepped_82 : decode cX2_stepped 82 = .ok (.isub, 1) := by decide +kernel
theorem dX2_stepped_83 : decode cX2_stepped 83 = .ok (.iconst 2, 1) := by decide +kernel
theorem dX2_stepped_84 : decode cX2_stepped 84 = .ok (.idiv, 1) := by decide +kernel
theorem dX2_stepped_85 : decode cX2_stepped 85 = .ok (.iaload, 1) := by decide +kernel
theorem dX2_stepped_86 : decode cX2_stepped 86 = .ok (.istore 5, 2) := by decide +kernel
theorem dX2_stepped_88 : decode cX2_stepped 88 = .ok (.aload_n 0, 1) := by decide +kernel
theorem dX2_stepped_89 : decode cX2_stepped 89 = .ok (.getfield 19, 3) := by decide +kernel
theorem dX2_stepped_92 : decode cX2_stepped 92 = .ok (.iload 4, 2) := by decide +kernel
theorem dX2_stepped_94 : decode cX2_stepped 94 = .ok (.iconst 2, 1) := by decide +kernel
theorem dX2_stepped_95 : decode cX2_stepped 95 = .ok (.idiv, 1) := by decide +kernel
theorem dX2_stepped_96 : decode cX2_stepped 96 = .ok (.iaload, 1) := by decide +kernel
theorem dX2_stepped_97 : decode cX2_stepped 97 = .ok (.istore 6, 2) := by decide +kernel
theorem dX2_stepped_99 : decode cX2_stepped 99 = .ok (.iload 5, 2) := by decide +kernel
theorem dX2_stepped_101 : decode cX2_stepped 101 = .ok (.iload 6, 2) := by decide +kernel
theorem dX2_stepped_103 : decode cX2_stepped 103 = .ok (.iload_n 3, 1) := by decide +kernel
theorem dX2_stepped_104 : decode cX2_stepped 104 = .ok (.invokestatic 68, 3) := by decide +kernel
theorem dX2_stepped_107 : decode cX2_stepped 107 = .ok (.invokestatic 71, 3) := by decide +kernel
theorem dX2_stepped_110 : decode cX2_stepped 110 = .ok (.ireturn, 1) := by decide +kernel
set_option maxRecDepth 20000 in
theorem ggX2_putInOrder_X2_has : GoodIn wsX2_putInOrder wsX2_has := goodIn_r _ [7, 8, 9, 14, 15, 16, 17, 18] (by decide +kernel) (by decide +kernel)
set_option maxRecDepth 20000 in
theorem gX2_putInOrder_X2_has : GoodIn wsX2_putInOrder (wsV RX2 47 RX2 yX2_has wsX2_has) := goodIn_app (goodIn_of _ (by decide +kernel)) ggX2_putInOrder_X2_has
set_option maxRecDepth 20000 in
theorem ggX2_putInOrder_X2_at : GoodIn wsX2_putInOrder wsX2_at := goodIn_r _ [13] (by decide +kernel) (by decide +kernel)
set_option maxRecDepth 20000 in
theorem gX2_putInOrder_X2_at : GoodIn wsX2_putInOrder (wsV RX2 39 RX2 yX2_at wsX2_at) := goodIn_app (goodIn_of _ (by decide +kernel)) ggX2_putInOrder_X2_at
theorem dX2_putInOrder_0 : decode cX2_putInOrder 0 = .ok (.aload_n 0, 1) := by decide +kernel
theorem dX2_putInOrder_1 : decode cX2_putInOrder 1 = .ok (.iload_n 1, 1) := by decide +kernel
theorem dX2_putInOrder_2 : decode cX2_putInOrder 2 = .ok (.iload_n 2, 1) := by decide +kernel
theorem dX2_putInOrder_3 : decode cX2_putInOrder 3 = .ok (.invokevirtual 47, 3) := by decide +kernel
theorem dX2_putInOrder_6 : decode cX2_putInOrder 6 = .ok (.ifCond .ne 5, 3) := by decide +kernel
theorem dX2_putInOrder_9 : decode cX2_putInOrder 9 = .ok (.iload_n 3, 1) := by decide +kernel
theorem dX2_putInOrder_10 : decode cX2_putInOrder 10 = .ok (.ireturn, 1) := by decide +kernel
theorem dX2_putInOrder_11 : decode cX2_putInOrder 11 = .ok (.aload_n 0, 1) := by decide +kernel
theorem dX2_putInOrder_12 : decode cX2_putInOrder 12 = .ok (.getfield 9, 3) := by decide +kernel
theorem dX2_putInOrder_15 : decode cX2_putInOrder 15 = .ok (.aload_n 0, 1) := by decide +kernel
theorem dX2_putInOrder_16 : decode cX2_putInOrder 16 = .ok (.iload_n 1, 1) := by decide +kernel
theorem dX2_putInOrder_17 : decode cX2_putInOrder 17 = .ok (.iload_n 2, 1) := by decide +kernel
theorem dX2_putInOrder_18 : decode cX2_putInOrder 18 = .ok (.invokevirtual 39, 3) := by decide +kernel
theorem dX2_putInOrder_21 : decode cX2_putInOrder 21 = .ok (.iaload, 1) := by decide +kernel
theorem dX2_putInOrder_22 : decode cX2_putInOrder 22 = .ok (.istore 4, 2) := by decide +kernel
theorem dX2_putInOrder_24 : decode cX2_putInOrder 24 = .ok (.iload_n 3, 1) := by decide +kernel
theorem dX2_putInOrder_25 : decode cX2_putInOrder 25 = .ok (.istore 5, 2) := by decide +kernel
theorem dX2_putInOrder_27 : decode cX2_putInOrder 27 = .ok (.iload 5, 2) := by decide +kernel
theorem dX2_putInOrder_29 : decode cX2_putInOrder 29 = .ok (.ifCond .le 39, 3) := by decide +kernel
theorem dX2_putInOrder_32 : decode cX2_putInOrder 32 = .ok (.aload_n 0, 1) := by decide +kernel
theorem dX2_putInOrder_33 : decode cX2_putInOrder 33 = .ok (.getfield 19, 3) := by decide +kernel
theorem dX2_putInOrder_36 : decode cX2_putInOrder 36 = .ok (.iload 5, 2) := by decide +kernel
theorem dX2_putInOrder_38 : decode cX2_putInOrder 38 = .ok (.iconst 1, 1) := by decide +kernel
theorem dX2_putInOrder_39 : decode cX2_putInOrder 39 = .ok (.isub, 1) := by decide +kernel
theorem dX2_putInOrder_40 : decode cX2_putInOrder 40 = .ok (.iaload, 1) := by decide +kernel
theorem dX2_putInOrder_41 : decode cX2_putInOrder 41 = .ok (.iload 4, 2) := by decide +kernel
theorem dX2_putInOrder_43 : decode cX2_putInOrder 43 = .ok (.if_icmp .le 25, 3) := by decide +kernel
theorem dX2_putInOrder_46 : decode cX2_putInOrder 46 = .ok (.aload_n 0, 1) := by decide +kernel
theorem dX2_putInOrder_47 : decode cX2_putInOrder 47 = .ok (.getfield 19, 3) := by decide +kernel
theorem dX2_putInOrder_50 : decode cX2_putInOrder 50 = .ok (.iload 5, 2) := by decide +kernel
theorem dX2_putInOrder_52 : decode cX2_putInOrder 52 = .ok (.aload_n 0, 1) := by decide +kernel
theorem dX2_putInOrder_53 : decode cX2_putInOrder 53 = .ok (.getfield 19, 3) := by decide +kernel
theorem dX2_putInOrder_56 : decode cX2_putInOrder 56 = .ok (.iload 5, 2) := by decide +kernel
theorem dX2_putInOrder_58 : decode cX2_putInOrder 58 = .ok (.iconst 1, 1) := by decide +kernel
theorem dX2_putInOrder_59 : decode cX2_putInOrder 59 = .ok (.isub, 1) := by decide +kernel
theorem dX2_putInOrder_60 : decode cX2_putInOrder 60 = .ok (.iaload, 1) := by decide +kernel
theorem dX2_putInOrder_61 : decode cX2_putInOrder 61 = .ok (.iastore, 1) := by decide +kernel
theorem dX2_putInOrder_62 : decode cX2_putInOrder 62 = .ok (.iinc 5 (-1), 3) := by decide +kernel
theorem dX2_putInOrder_65 : decode cX2_putInOrder 65 = .ok (.goto (-38), 3) := by decide +kernel
theorem dX2_putInOrder_68 : decode cX2_putInOrder 68 = .ok (.aload_n 0, 1) := by decide +kernel
theorem dX2_putInOrder_69 : decode cX2_putInOrder 69 = .ok (.getfield 19, 3) := by decide +kernel
theorem dX2_putInOrder_72 : decode cX2_putInOrder 72 = .ok (.iload 5, 2) := by decide +kernel
theorem dX2_putInOrder_74 : decode cX2_putInOrder 74 = .ok (.iload 4, 2) := by decide +kernel
theorem dX2_putInOrder_76 : decode cX2_putInOrder 76 = .ok (.iastore, 1) := by decide +kernel
theorem dX2_putInOrder_77 : decode cX2_putInOrder 77 = .ok (.iload_n 3, 1) := by decide +kernel
theorem dX2_putInOrder_78 : decode cX2_putInOrder 78 = .ok (.iconst 1, 1) := by decide +kernel
theorem dX2_putInOrder_79 : decode cX2_putInOrder 79 = .ok (.iadd, 1) := by decide +kernel
theorem dX2_putInOrder_80 : decode cX2_putInOrder 80 = .ok (.ireturn, 1) := by decide +kernel
theorem dJ7_fill_53178_0 : decode cJ7_fill_53178 0 = .ok (.iconst 0, 1) := by decide +kernel
theorem dJ7_fill_53178_1 : decode cJ7_fill_53178 1 = .ok (.istore_n 2, 1) := by decide +kernel
theorem dJ7_fill_53178_2 : decode cJ7_fill_53178 2 = .ok (.aload_n 0, 1) := by decide +kernel
theorem dJ7_fill_53178_3 : decode cJ7_fill_53178 3 = .ok (.arraylength, 1) := by decide +kernel
theorem dJ7_fill_53178_4 : decode cJ7_fill_53178 4 = .ok (.istore_n 3, 1) := by decide +kernel
theorem dJ7_fill_53178_5 : decode cJ7_fill_53178 5 = .ok (.iload_n 2, 1) := by decide +kernel
theorem dJ7_fill_53178_6 : decode cJ7_fill_53178 6 = .ok (.iload_n 3, 1) := by decide +kernel
theorem dJ7_fill_53178_7 : decode cJ7_fill_53178 7 = .ok (.if_icmp .ge 13, 3) := by decide +kernel
theorem dJ7_fill_53178_10 : decode cJ7_fill_53178 10 = .ok (.aload_n 0, 1) := by decide +kernel
theorem dJ7_fill_53178_11 : decode cJ7_fill_53178 11 = .ok (.iload_n 2, 1) := by decide +kernel
theorem dJ7_fill_53178_12 : decode cJ7_fill_53178 12 = .ok (.iload_n 1, 1) := by decide +kernel
theorem dJ7_fill_53178_13 : decode cJ7_fill_53178 13 = .ok (.iastore, 1) := by decide +kernel
theorem dJ7_fill_53178_14 : decode cJ7_fill_53178 14 = .ok (.iinc 2 1, 3) := by decide +kernel
theorem dJ7_fill_53178_17 : decode cJ7_fill_53178 17 = .ok (.goto (-12), 3) := by decide +kernel
theorem dJ7_fill_53178_20 : decode cJ7_fill_53178 20 = .ok (.return_, 1) := by decide +kernel
end
section
theorem bk_8 : (Int8.ofInt (8)).toInt32 = (8 : Int32) := by decide
theorem hde_X2_at : yX2_at.cls = RX2 ∧ yX2_at.cls ≠ "java/lang/invoke/MethodHandle" ∧ yX2_at.cls ≠ "java/lang/invoke/VarHandle" ∧ (parseMethodDescriptor yX2_at.desc).map (fun d => d.parameters.length) = some 2 := by decide +kernel
theorem hde_X2_difference : yX2_difference.cls = RX2 ∧ yX2_difference.cls ≠ "java/lang/invoke/MethodHandle" ∧ yX2_difference.cls ≠ "java/lang/invoke/VarHandle" ∧ (parseMethodDescriptor yX2_difference.desc).map (fun d => d.parameters.length) = some 4 := by decide +kernel
theorem hde_X2_has : yX2_has.cls = RX2 ∧ yX2_has.cls ≠ "java/lang/invoke/MethodHandle" ∧ yX2_has.cls ≠ "java/lang/invoke/VarHandle" ∧ (parseMethodDescriptor yX2_has.desc).map (fun d => d.parameters.length) = some 2 := by decide +kernel
theorem hde_X2_putInOrder : yX2_putInOrder.cls = RX2 ∧ yX2_putInOrder.cls ≠ "java/lang/invoke/MethodHandle" ∧ yX2_putInOrder.cls ≠ "java/lang/invoke/VarHandle" ∧ (parseMethodDescriptor yX2_putInOrder.desc).map (fun d => d.parameters.length) = some 3 := by decide +kernel
theorem hde_X2_stepped : yX2_stepped.cls = RX2 ∧ yX2_stepped.cls ≠ "java/lang/invoke/MethodHandle" ∧ yX2_stepped.cls ≠ "java/lang/invoke/VarHandle" ∧ (parseMethodDescriptor yX2_stepped.desc).map (fun d => d.parameters.length) = some 2 := by decide +kernel
theorem hde_X2_sumOfChanges : yX2_sumOfChanges.cls = RX2 ∧ yX2_sumOfChanges.cls ≠ "java/lang/invoke/MethodHandle" ∧ yX2_sumOfChanges.cls ≠ "java/lang/invoke/VarHandle" ∧ (parseMethodDescriptor yX2_sumOfChanges.desc).map (fun d => d.parameters.length) = some 0 := by decide +kernel
abbrev w1J7_fill_53178 (ad : Nat → Nat) (cA : Nat → ClassId) (ao no : Nat) (u : (Nat → Int32)) : va_W := [(ao, .inl (cA 0, no, .inl u))]
abbrev wcJ7_fill_53178 (ad : Nat → Nat) (cA : Nat → ClassId) (ao no : Nat) (Z_arr : Nat → Int32) : va_W := [(ao, .inl (cA 0, no, .inl Z_arr))]
def rmJ7_fill_53178 : Room := { frames := 0, cells := 0, slots := 0, locals := 0 }
abbrev atJ7_fill_53178_0 (X : gX) (ad : Nat → Nat) (cA : Nat → ClassId) (ao no : Nat) (p2 : Int32) (Z_arr : Nat → Int32) : Prop := gW X 0 0 [(ao, .inl (cA 0, no, .inl Z_arr))] 4 [(0, .ref ao), (1, .int p2)] [] 0
abbrev atJ7_fill_53178_5 (X : gX) (ad : Nat → Nat) (cA : Nat → ClassId) (ao no : Nat) (x1 : Int32) (x2 : Int32) (x3 : Int32) (Z_arr : Nat → Int32) : Prop := gW X 0 0 [(ao, .inl (cA 0, no, .inl Z_arr))] 4 [(0, .ref ao), (1, .int x1), (2, .int x2), (3, .int x3)] [] 5
set_option maxHeartbeats 4000000 in
set_option maxRecDepth 100000 in
theorem sgJ7_fill_53178_0 {X : gX} {ad : Nat → Nat} {cA : Nat → ClassId} {ao no : Nat} {post : ((Nat → Int32)) → Prop} (p2 : Int32) (Z_arr : Nat → Int32) (C : gC X (gT cA) cJ7_fill_53178 4 RJ7 wsJ7_fill_53178 rmJ7_fill_53178) (E : gEv X none (gT cA) 0 0 post (w1J7_fill_53178 ad cA ao no)) (h : atJ7_fill_53178_5 X ad cA ao no p2 (0 : Int32) (nI no) Z_arr) : atJ7_fill_53178_0 X ad cA ao no p2 Z_arr := by
  refine g_iconst C dJ7_fill_53178_0 ik_0 ?_
  refine g_istore_n (lv2 := [(0, .ref ao), (1, .int p2), (2, .int (0 : Int32))]) C dJ7_fill_53178_1 rfl (by decide) [1, 2, 0] rfl ?_
  refine g_aload_n C dJ7_fill_53178_2 rfl 0 rfl ?_
  refine g_alen C 0 0 rfl rfl rfl dJ7_fill_53178_3 ?_
  refine g_istore_n (lv2 := [(0, .ref ao), (1, .int p2), (2, .int (0 : Int32)), (3, .int (nI no))]) C dJ7_fill_53178_4 rfl (by decide) [1, 2, 3, 0] rfl ?_
  exact g_lv [0, 1, 2, 3] rfl h
set_option maxHeartbeats 4000000 in
set_option maxRecDepth 100000 in
theorem sgJ7_fill_53178_5 {X : gX} {ad : Nat → Nat} {cA : Nat → ClassId} {ao no : Nat} {post : ((Nat → Int32)) → Prop} (x1 : Int32) (x2 : Int32) (x3 : Int32) (Z_arr : Nat → Int32) (C : gC X (gT cA) cJ7_fill_53178 4 RJ7 wsJ7_fill_53178 rmJ7_fill_53178) (E : gEv X none (gT cA) 0 0 post (w1J7_fill_53178 ad cA ao no)) (h : (x3 ≤ x2 → post Z_arr) ∧ (¬ x3 ≤ x2 → vp_in x2 no ∧ atJ7_fill_53178_5 X ad cA ao no x1 (x2 + 1) x3 (upd Z_arr x2.toNatClampNeg x1))) : atJ7_fill_53178_5 X ad cA ao no x1 x2 x3 Z_arr := by
  refine g_iload_n C dJ7_fill_53178_5 rfl 2 rfl ?_
  refine g_iload_n C dJ7_fill_53178_6 rfl 3 rfl ?_
  refine g_icmp_ge (tgt := 20) C dJ7_fill_53178_7 (by decide) (fun c_1 => ?_) (fun c_1 => ?_)
  · replace h := h.1 c_1
    exact g_vret C E Z_arr h rfl dJ7_fill_53178_20
  · replace h := h.2 c_1
    refine g_aload_n C dJ7_fill_53178_10 rfl 0 rfl ?_
    refine g_iload_n C dJ7_fill_53178_11 rfl 2 rfl ?_
    refine g_iload_n C dJ7_fill_53178_12 rfl 1 rfl ?_
    obtain ⟨hi_2, h⟩ := h
    refine g_iast (ws2 := [(ao, .inl (cA 0, no, .inl (upd Z_arr x2.toNatClampNeg x1)))]) C 0 0 rfl rfl hi_2 rfl dJ7_fill_53178_13 ?_
    refine g_iinc (v := (x2 + 1)) (lv2 := [(0, .ref ao), (1, .int x1), (2, .int (x2 + 1)), (3, .int x3)]) C dJ7_fill_53178_14 2 rfl (by first | rfl | decide) (by decide) [1, 2, 0, 3] rfl ?_
    refine g_goto (tgt := 5) C dJ7_fill_53178_17 (by decide) ?_
    exact g_lv [0, 1, 2, 3] rfl h
def prJ7_fill_53178 (ao no : Nat) (p2 : Int32) (Z_arr : Nat → Int32) : Prop := no < 2147483648
set_option maxHeartbeats 4000000 in
set_option maxRecDepth 100000 in
theorem c_J7_fill_53178 (ad : Nat → Nat) (cA : Nat → ClassId) (ao no : Nat) (p2 : Int32) (Z_arr : Nat → Int32) (hq : prJ7_fill_53178 ao no p2 Z_arr) : ∀ (l : Launch) (D : va_G), gMv (S := (Nat → Int32)) l yJ7_fill_53178 wsJ7_fill_53178 rmJ7_fill_53178 D (gT cA) 0 0 [.ref ao, .int p2] (wcJ7_fill_53178 ad cA ao no Z_arr) (fun u => u = fillA no p2 Z_arr) (w1J7_fill_53178 ad cA ao no) := by
  intro l D
  unfold prJ7_fill_53178 at hq
  refine g_enterv (cc := cJ7_fill_53178) (nL := 4) (ret := none) (by decide) rfl (Nat.le_of_ble_eq_true rfl) rfl (fun X C E => ?_)
  refine sgJ7_fill_53178_0 _ _ C E ?_
  have loop : ∀ i, i ≤ no → atJ7_fill_53178_5 X ad cA ao no p2 (nI i) (nI no) (fillA i p2 Z_arr) := by
    intro i hi
    refine up_loop (P := fun i => atJ7_fill_53178_5 X ad cA ao no p2 (nI i) (nI no) (fillA i p2 Z_arr)) no ?_ (fun k hk ih => ?_) i hi
    · exact sgJ7_fill_53178_5 _ _ _ _ C E ⟨fun _ => rfl, fun c => absurd (i32_le_refl _) c⟩
    · refine sgJ7_fill_53178_5 _ _ _ _ C E ⟨fun c => absurd c (nI_ge hk (by omega)), fun _ => ⟨vp_in_nI hk (by omega), ?_⟩⟩
      rw [nI_1, nI_clamp (by omega)]
      have e : upd (fillA k p2 Z_arr) k p2 = fillA (k + 1) p2 Z_arr := by
        funext j
        unfold upd fillA
        by_cases h1 : j = k
        · rw [if_pos h1, if_pos (by omega)]
        · rw [if_neg h1]
          by_cases h2 : j < k
          · rw [if_pos h2, if_pos (by omega)]
          · rw [if_neg h2, if_neg (by omega)]
      rw [e]; exact ih
  have e0 : fillA 0 p2 Z_arr = Z_arr := by funext j; simp [fillA]
  have := loop 0 (Nat.zero_le _)
  rw [e0] at this
  exact this


abbrev w1X2_has (ad : Nat → Nat) (cA : Nat → ClassId) (P_wide : Int32) (P_high : Int32) (u : Unit) : va_W := [((ad 15), .inr (2, [.ref (ad 16), .ref (ad 17), .ref (ad 18), .int P_wide, .int P_high]))]
abbrev wcX2_has (ad : Nat → Nat) (cA : Nat → ClassId) (P_wide : Int32) (P_high : Int32) : va_W := [((ad 15), .inr (2, [.ref (ad 16), .ref (ad 17), .ref (ad 18), .int P_wide, .int P_high]))]
def rmX2_has : Room := { frames := 0, cells := 0, slots := 0, locals := 0 }
abbrev atX2_has_0 (X : gX) (ad : Nat → Nat) (cA : Nat → ClassId) (p1 : Int32) (p2 : Int32) (P_wide : Int32) (P_high : Int32) : Prop := gW X 0 0 [((ad 15), .inr (2, [.ref (ad 16), .ref (ad 17), .ref (ad 18), .int P_wide, .int P_high]))] 3 [(0, .ref (ad 15)), (1, .int p1), (2, .int p2)] [] 0
theorem giX2_has_X2 : ∀ w ∈ u_ws RX2 TX2 5, w ∈ wsX2_has := by decide +kernel
theorem gfX2_has_22 : gF wsX2_has RX2 22 2 3 RX2 TX2 5 := ⟨giX2_has_X2, by decide +kernel, rfl, by decide⟩
theorem gfX2_has_26 : gF wsX2_has RX2 26 2 4 RX2 TX2 5 := ⟨giX2_has_X2, by decide +kernel, rfl, by decide⟩
set_option maxHeartbeats 4000000 in
set_option maxRecDepth 100000 in
theorem sgX2_has_0 {X : gX} {ad : Nat → Nat} {cA : Nat → ClassId} {post : Int32 → (Unit) → Prop} (p1 : Int32) (p2 : Int32) (P_wide : Int32) (P_high : Int32) (C : gC X (gT cA) cX2_has 3 RX2 wsX2_has rmX2_has) (E : gEi X (some .boolean) (gT cA) 0 0 post (w1X2_has ad cA P_wide P_high)) (h : (p1 < 0 → post (0 : Int32) ()) ∧ (¬ p1 < 0 → (P_wide ≤ p1 → post (0 : Int32) ()) ∧ (¬ P_wide ≤ p1 → (p2 < 0 → post (0 : Int32) ()) ∧ (¬ p2 < 0 → (P_high ≤ p2 → post (0 : Int32) ()) ∧ (¬ P_high ≤ p2 → post (1 : Int32) ()))))) : atX2_has_0 X ad cA p1 p2 P_wide P_high := by
  refine g_iload_n C dX2_has_0 rfl 1 rfl ?_
  refine g_if_lt (tgt := 28) C dX2_has_1 (by decide) (fun c_1 => ?_) (fun c_1 => ?_)
  · replace h := h.1 c_1
    refine g_iconst C dX2_has_28 ik_0 ?_
    exact g_zret C E rfl () h rfl dX2_has_29
  · replace h := h.2 c_1
    refine g_iload_n C dX2_has_4 rfl 1 rfl ?_
    refine g_aload_n C dX2_has_5 rfl 0 rfl ?_
    refine g_get C gfX2_has_22 0 rfl rfl dX2_has_6 ?_
    refine g_icmp_ge (tgt := 28) C dX2_has_9 (by decide) (fun c_2 => ?_) (fun c_2 => ?_)
    · replace h := h.1 c_2
      refine g_iconst C dX2_has_28 ik_0 ?_
      exact g_zret C E rfl () h rfl dX2_has_29
    · replace h := h.2 c_2
      refine g_iload_n C dX2_has_12 rfl 2 rfl ?_
      refine g_if_lt (tgt := 28) C dX2_has_13 (by decide) (fun c_3 => ?_) (fun c_3 => ?_)
      · replace h := h.1 c_3
        refine g_iconst C dX2_has_28 ik_0 ?_
        exact g_zret C E rfl () h rfl dX2_has_29
      · replace h := h.2 c_3
        refine g_iload_n C dX2_has_16 rfl 2 rfl ?_
        refine g_aload_n C dX2_has_17 rfl 0 rfl ?_
        refine g_get C gfX2_has_26 0 rfl rfl dX2_has_18 ?_
        refine g_icmp_ge (tgt := 28) C dX2_has_21 (by decide) (fun c_4 => ?_) (fun c_4 => ?_)
        · replace h := h.1 c_4
          refine g_iconst C dX2_has_28 ik_0 ?_
          exact g_zret C E rfl () h rfl dX2_has_29
        · replace h := h.2 c_4
          refine g_iconst C dX2_has_24 ik_1 ?_
          refine g_goto (tgt := 29) C dX2_has_25 (by decide) ?_
          exact g_zret C E rfl () h rfl dX2_has_29
def fnX2_has (p1 : Int32) (p2 : Int32) (P_wide : Int32) (P_high : Int32) : Bool := (if p1 < 0 then false else (if P_wide ≤ p1 then false else (if p2 < 0 then false else (if P_high ≤ p2 then false else true))))
set_option maxHeartbeats 4000000 in
set_option maxRecDepth 100000 in
theorem c_X2_has (ad : Nat → Nat) (cA : Nat → ClassId) (p1 : Int32) (p2 : Int32) (P_wide : Int32) (P_high : Int32) : ∀ (l : Launch) (D : va_G), gMi (S := Unit) l yX2_has wsX2_has rmX2_has D (gT cA) 0 0 [.ref (ad 15), .int p1, .int p2] (wcX2_has ad cA P_wide P_high) (fun r _ => r = bI (fnX2_has p1 p2 P_wide P_high)) (w1X2_has ad cA P_wide P_high) := by
  intro l D
  refine g_enteri (cc := cX2_has) (nL := 3) (ret := (some .boolean)) (by decide) rfl (Nat.le_of_ble_eq_true rfl) rfl (fun X C E => sgX2_has_0 p1 p2 P_wide P_high C E ?_)
  refine ⟨fun c_5 => ?_, fun c_5 => ?_⟩
  · exact (by unfold fnX2_has; first | rfl | (simp only [if_pos c_5]; done) | (simp only [if_pos c_5]; rfl))
  · refine ⟨fun c_6 => ?_, fun c_6 => ?_⟩
    · exact (by unfold fnX2_has; first | rfl | (simp only [if_neg c_5, if_pos c_6]; done) | (simp only [if_neg c_5, if_pos c_6]; rfl))
    · refine ⟨fun c_7 => ?_, fun c_7 => ?_⟩
      · exact (by unfold fnX2_has; first | rfl | (simp only [if_neg c_5, if_neg c_6, if_pos c_7]; done) | (simp only [if_neg c_5, if_neg c_6, if_pos c_7]; rfl))
      · refine ⟨fun c_8 => ?_, fun c_8 => ?_⟩
        · exact (by unfold fnX2_has; first | rfl | (simp only [if_neg c_5, if_neg c_6, if_neg c_7, if_pos c_8]; done) | (simp only [if_neg c_5, if_neg c_6, if_neg c_7, if_pos c_8]; rfl))
        · exact (by unfold fnX2_has; first | rfl | (simp only [if_neg c_5, if_neg c_6, if_neg c_7, if_neg c_8]; done) | (simp only [if_neg c_5, if_neg c_6, if_neg c_7, if_neg c_8]; rfl))

abbrev w1X2_at (ad : Nat → Nat) (cA : Nat → ClassId) (P_wide : Int32) (P_high : Int32) (u : Unit) : va_W := [((ad 15), .inr (2, [.ref (ad 16), .ref (ad 17), .ref (ad 18), .int P_wide, .int P_high]))]
abbrev wcX2_at (ad : Nat → Nat) (cA : Nat → ClassId) (P_wide : Int32) (P_high : Int32) : va_W := [((ad 15), .inr (2, [.ref (ad 16), .ref (ad 17), .ref (ad 18), .int P_wide, .int P_high]))]
def rmX2_at : Room := { frames := 0, cells := 0, slots := 0, locals := 0 }
abbrev atX2_at_0 (X : gX) (ad : Nat → Nat) (cA : Nat → ClassId) (p1 : Int32) (p2 : Int32) (P_wide : Int32) (P_high : Int32) : Prop := gW X 0 0 [((ad 15), .inr (2, [.ref (ad 16), .ref (ad 17), .ref (ad 18), .int P_wide, .int P_high]))] 3 [(0, .ref (ad 15)), (1, .int p1), (2, .int p2)] [] 0
set_option maxHeartbeats 4000000 in
set_option maxRecDepth 100000 in
theorem sgX2_at_0 {X : gX} {ad : Nat → Nat} {cA : Nat → ClassId} {post : Int32 → (Unit) → Prop} (p1 : Int32) (p2 : Int32) (P_wide : Int32) (P_high : Int32) (C : gC X (gT cA) cX2_at 3 RX2 wsX2_at rmX2_at) (E : gEi X (some .int) (gT cA) 0 0 post (w1X2_at ad cA P_wide P_high)) (h : post ((p2 * (8 : Int32)) + p1) ()) : atX2_at_0 X ad cA p1 p2 P_wide P_high := by
  refine g_iload_n C dX2_at_0 rfl 2 rfl ?_
  refine g_bipush C dX2_at_1 bk_8 ?_
  refine g_imul C dX2_at_3 ?_
  refine g_iload_n C dX2_at_4 rfl 1 rfl ?_
  refine g_iadd C dX2_at_5 ?_
  exact g_iret C E () h rfl dX2_at_6
def fnX2_at (p1 : Int32) (p2 : Int32) (P_wide : Int32) (P_high : Int32) : Int32 := ((p2 * (8 : Int32)) + p1)
set_option maxHeartbeats 4000000 in
set_option maxRecDepth 100000 in
theorem c_X2_at (ad : Nat → Nat) (cA : Nat → ClassId) (p1 : Int32) (p2 : Int32) (P_wide : Int32) (P_high : Int32) : ∀ (l : Launch) (D : va_G), gMi (S := Unit) l yX2_at wsX2_at rmX2_at D (gT cA) 0 0 [.ref (ad 15), .int p1, .int p2] (wcX2_at ad cA P_wide P_high) (fun r _ => r = fnX2_at p1 p2 P_wide P_high) (w1X2_at ad cA P_wide P_high) := by
  intro l D
  refine g_enteri (cc := cX2_at) (nL := 3) (ret := (some .int)) (by decide) rfl (Nat.le_of_ble_eq_true rfl) rfl (fun X C E => sgX2_at_0 p1 p2 P_wide P_high C E ?_)
  exact (by unfold fnX2_at; first | rfl | (simp only []; done) | (simp only []; rfl))

theorem at_eq (x y : Nat) (a b : Int32) : fnX2_at (nI x) (nI y) a b = nI (8 * y + x) := by
  show nI y * nI 8 + nI x = _
  rw [pk_mul, nI_add, Nat.mul_comm]
theorem at_iI (x y : Int) (a b : Int32) : fnX2_at (iI x) (iI y) a b = iI (8 * y + x) := by
  show iI y * iI 8 + iI x = _
  rw [iI_mul, iI_add, Int.mul_comm]
theorem has_iI {a b : Int} {w h : Nat} (ha : -100 ≤ a ∧ a ≤ 100) (hb : -100 ≤ b ∧ b ≤ 100) (hw : w ≤ 8) (hh : h ≤ 8) : fnX2_has (iI a) (iI b) (nI w) (nI h) = decide (0 ≤ a ∧ a < w ∧ 0 ≤ b ∧ b < h) := by
  have e1 : (iI a).toInt = a := toInt_iI (by omega) (by omega)
  have e2 : (iI b).toInt = b := toInt_iI (by omega) (by omega)
  have e3 : (nI w).toInt = w := nI_toInt (by omega)
  have e4 : (nI h).toInt = h := nI_toInt (by omega)
  have e0 : (0 : Int32).toInt = 0 := rfl
  unfold fnX2_has
  simp only [Int32.lt_iff_toInt_lt, Int32.le_iff_toInt_le, e0, e1, e2, e3, e4]
  by_cases h1 : a < 0
  · rw [if_pos h1]; exact (decide_eq_false (by omega)).symm
  · rw [if_neg h1]
    by_cases h2 : (w : Int) ≤ a
    · rw [if_pos h2]; exact (decide_eq_false (by omega)).symm
    · rw [if_neg h2]
      by_cases h3 : b < 0
      · rw [if_pos h3]; exact (decide_eq_false (by omega)).symm
      · rw [if_neg h3]
        by_cases h4 : (h : Int) ≤ b
        · rw [if_pos h4]; exact (decide_eq_false (by omega)).symm
        · rw [if_neg h4]; exact (decide_eq_true (by omega)).symm
theorem at_in {a b : Int} (h : 0 ≤ a ∧ a < 8 ∧ 0 ≤ b ∧ b < 8) (p q : Int32) : vp_in (fnX2_at (iI a) (iI b) p q) 64 := by
  rw [at_iI, vp_in_iff, toInt_iI (by omega) (by omega)]
  omega

abbrev w1X2_putInOrder (ad : Nat → Nat) (cA : Nat → ClassId) (P_wide : Int32) (P_high : Int32) (P_heights : Nat → Int32) (u : (Nat → Int32)) : va_W := [((ad 15), .inr (2, [.ref (ad 16), .ref (ad 17), .ref (ad 18), .int P_wide, .int P_high])), ((ad 16), .inl (cA 0, 64, .inl P_heights)), ((ad 18), .inl (cA 0, 4, .inl u))]
abbrev wcX2_putInOrder (ad : Nat → Nat) (cA : Nat → ClassId) (P_wide : Int32) (P_high : Int32) (P_heights : Nat → Int32) (P_near : Nat → Int32) : va_W := [((ad 15), .inr (2, [.ref (ad 16), .ref (ad 17), .ref (ad 18), .int P_wide, .int P_high])), ((ad 16), .inl (cA 0, 64, .inl P_heights)), ((ad 18), .inl (cA 0, 4, .inl P_near))]
def rmX2_putInOrder : Room := { frames := 1, cells := 0, slots := 0, locals := 22 }
abbrev atX2_putInOrder_0 (X : gX) (ad : Nat → Nat) (cA : Nat → ClassId) (p1 : Int32) (p2 : Int32) (p3 : Int32) (P_wide : Int32) (P_high : Int32) (P_heights : Nat → Int32) (P_near : Nat → Int32) : Prop := gW X 0 0 [((ad 15), .inr (2, [.ref (ad 16), .ref (ad 17), .ref (ad 18), .int P_wide, .int P_high])), ((ad 16), .inl (cA 0, 64, .inl P_heights)), ((ad 18), .inl (cA 0, 4, .inl P_near))] 6 [(0, .ref (ad 15)), (1, .int p1), (2, .int p2), (3, .int p3)] [] 0
abbrev atX2_putInOrder_27 (X : gX) (ad : Nat → Nat) (cA : Nat → ClassId) (x3 : Int32) (x4 : Int32) (x5 : Int32) (P_wide : Int32) (P_high : Int32) (P_heights : Nat → Int32) (P_near : Nat → Int32) : Prop := gW X 0 0 [((ad 15), .inr (2, [.ref (ad 16), .ref (ad 17), .ref (ad 18), .int P_wide, .int P_high])), ((ad 16), .inl (cA 0, 64, .inl P_heights)), ((ad 18), .inl (cA 0, 4, .inl P_near))] 6 [(0, .ref (ad 15)), (3, .int x3), (4, .int x4), (5, .int x5)] [] 27
theorem giX2_putInOrder_X2 : ∀ w ∈ u_ws RX2 TX2 5, w ∈ wsX2_putInOrder := by decide +kernel
theorem gfX2_putInOrder_9 : gF wsX2_putInOrder RX2 9 2 0 RX2 TX2 5 := ⟨giX2_putInOrder_X2, by decide +kernel, rfl, by decide⟩
theorem gfX2_putInOrder_19 : gF wsX2_putInOrder RX2 19 2 2 RX2 TX2 5 := ⟨giX2_putInOrder_X2, by decide +kernel, rfl, by decide⟩
set_option maxHeartbeats 4000000 in
set_option maxRecDepth 100000 in
theorem sgX2_putInOrder_0 {X : gX} {ad : Nat → Nat} {cA : Nat → ClassId} {post : Int32 → ((Nat → Int32)) → Prop} (p1 : Int32) (p2 : Int32) (p3 : Int32) (P_wide : Int32) (P_high : Int32) (P_heights : Nat → Int32) (P_near : Nat → Int32) (C : gC X (gT cA) cX2_putInOrder 6 RX2 wsX2_putInOrder rmX2_putInOrder) (E : gEi X (some .int) (gT cA) 0 0 post (w1X2_putInOrder ad cA P_wide P_high P_heights)) (h : ((fnX2_has p1 p2 P_wide P_high) = true → vp_in (fnX2_at p1 p2 P_wide P_high) 64 ∧ ∀ x4_5 : Int32, x4_5 = (P_heights (fnX2_at p1 p2 P_wide P_high).toNatClampNeg) → atX2_putInOrder_27 X ad cA p3 x4_5 p3 P_wide P_high P_heights P_near) ∧ ((fnX2_has p1 p2 P_wide P_high) = false → post p3 P_near)) : atX2_putInOrder_0 X ad cA p1 p2 p3 P_wide P_high P_heights P_near := by
  refine g_aload_n C dX2_putInOrder_0 rfl 0 rfl ?_
  refine g_iload_n C dX2_putInOrder_1 rfl 1 rfl ?_
  refine g_iload_n C dX2_putInOrder_2 rfl 2 rfl ?_
  refine g_callVi (wr := [((ad 16), .inl (cA 0, 64, .inl P_heights)), ((ad 18), .inl (cA 0, 4, .inl P_near))]) C (c_X2_has ad cA p1 p2 P_wide P_high) gX2_putInOrder_X2_has rfl hde_X2_has ⟨rfl, rfl⟩ (by decide) (by decide) [0] [1, 2] [2, 0, 1] rfl rfl rfl rfl (by decide) rfl (ws2 := fun u => [((ad 15), .inr (2, [.ref (ad 16), .ref (ad 17), .ref (ad 18), .int P_wide, .int P_high])), ((ad 16), .inl (cA 0, 64, .inl P_heights)), ((ad 18), .inl (cA 0, 4, .inl P_near))]) (fun _ => rfl) 2 0 rfl rfl rfl (rest := []) rfl (Nat.le_of_ble_eq_true rfl) dX2_putInOrder_3 (fun r_1 u_1 hp_1 => ?_)
  subst hp_1
  change gW X 0 0 [((ad 15), .inr (2, [.ref (ad 16), .ref (ad 17), .ref (ad 18), .int P_wide, .int P_high])), ((ad 16), .inl (cA 0, 64, .inl P_heights)), ((ad 18), .inl (cA 0, 4, .inl P_near))] 6 [(0, .ref (ad 15)), (1, .int p1), (2, .int p2), (3, .int p3)] [.int (bI (fnX2_has p1 p2 P_wide P_high))] 6
  refine g_ifne_b (tgt := 11) C dX2_putInOrder_6 (by decide) (fun c_2 => ?_) (fun c_2 => ?_)
  · replace h := h.1 c_2
    refine g_aload_n C dX2_putInOrder_11 rfl 0 rfl ?_
    refine g_get C gfX2_putInOrder_9 0 rfl rfl dX2_putInOrder_12 ?_
    refine g_aload_n C dX2_putInOrder_15 rfl 0 rfl ?_
    refine g_iload_n C dX2_putInOrder_16 rfl 1 rfl ?_
    refine g_iload_n C dX2_putInOrder_17 rfl 2 rfl ?_
    refine g_callVi (wr := [((ad 16), .inl (cA 0, 64, .inl P_heights)), ((ad 18), .inl (cA 0, 4, .inl P_near))]) C (c_X2_at ad cA p1 p2 P_wide P_high) gX2_putInOrder_X2_at rfl hde_X2_at ⟨rfl, rfl⟩ (by decide) (by decide) [0] [1, 2] [2, 0, 1] rfl rfl rfl rfl (by decide) rfl (ws2 := fun u => [((ad 15), .inr (2, [.ref (ad 16), .ref (ad 17), .ref (ad 18), .int P_wide, .int P_high])), ((ad 16), .inl (cA 0, 64, .inl P_heights)), ((ad 18), .inl (cA 0, 4, .inl P_near))]) (fun _ => rfl) 2 0 rfl rfl rfl (rest := [.ref (ad 16)]) rfl (Nat.le_of_ble_eq_true rfl) dX2_putInOrder_18 (fun r_3 u_3 hp_3 => ?_)
    subst hp_3
    change gW X 0 0 [((ad 15), .inr (2, [.ref (ad 16), .ref (ad 17), .ref (ad 18), .int P_wide, .int P_high])), ((ad 16), .inl (cA 0, 64, .inl P_heights)), ((ad 18), .inl (cA 0, 4, .inl P_near))] 6 [(0, .ref (ad 15)), (1, .int p1), (2, .int p2), (3, .int p3)] [.int (fnX2_at p1 p2 P_wide P_high), .ref (ad 16)] 21
    obtain ⟨hi_4, h⟩ := h
    refine g_iald C 1 0 rfl rfl hi_4 dX2_putInOrder_21 ?_
    refine g_topi (fun x4_5 ex4_5 => ?_)
    replace h := h x4_5 ex4_5
    refine g_istore (lv2 := [(0, .ref (ad 15)), (1, .int p1), (2, .int p2), (3, .int p3), (4, .int x4_5)]) C dX2_putInOrder_22 (by decide) [1, 2, 3, 4, 0] rfl ?_
    refine g_iload_n C dX2_putInOrder_24 rfl 3 rfl ?_
    refine g_istore (lv2 := [(0, .ref (ad 15)), (1, .int p1), (2, .int p2), (3, .int p3), (4, .int x4_5), (5, .int p3)]) C dX2_putInOrder_25 (by decide) [1, 2, 3, 4, 5, 0] rfl ?_
    exact g_lv [0, 3, 4, 5] rfl h
  · replace h := h.2 c_2
    refine g_iload_n C dX2_putInOrder_9 rfl 3 rfl ?_
    exact g_iret C E P_near h rfl dX2_putInOrder_10
set_option maxHeartbeats 4000000 in
set_option maxRecDepth 100000 in
theorem sgX2_putInOrder_27 {X : gX} {ad : Nat → Nat} {cA : Nat → ClassId} {post : Int32 → ((Nat → Int32)) → Prop} (x3 : Int32) (x4 : Int32) (x5 : Int32) (P_wide : Int32) (P_high : Int32) (P_heights : Nat → Int32) (P_near : Nat → Int32) (C : gC X (gT cA) cX2_putInOrder 6 RX2 wsX2_putInOrder rmX2_putInOrder) (E : gEi X (some .int) (gT cA) 0 0 post (w1X2_putInOrder ad cA P_wide P_high P_heights)) (h : (x5 ≤ 0 → vp_in x5 4 ∧ post (x3 + (1 : Int32)) (upd P_near x5.toNatClampNeg x4)) ∧ (¬ x5 ≤ 0 → vp_in (x5 - (1 : Int32)) 4 ∧ ((P_near (x5 - (1 : Int32)).toNatClampNeg) ≤ x4 → vp_in x5 4 ∧ post (x3 + (1 : Int32)) (upd P_near x5.toNatClampNeg x4)) ∧ (¬ (P_near (x5 - (1 : Int32)).toNatClampNeg) ≤ x4 → vp_in (x5 - (1 : Int32)) 4 ∧ vp_in x5 4 ∧ atX2_putInOrder_27 X ad cA x3 x4 (x5 + (-1)) P_wide P_high P_heights (upd P_near x5.toNatClampNeg (P_near (x5 - (1 : Int32)).toNatClampNeg))))) : atX2_putInOrder_27 X ad cA x3 x4 x5 P_wide P_high P_heights P_near := by
  refine g_iload C dX2_putInOrder_27 3 rfl ?_
  refine g_if_le (tgt := 68) C dX2_putInOrder_29 (by decide) (fun c_6 => ?_) (fun c_6 => ?_)
  · replace h := h.1 c_6
    refine g_aload_n C dX2_putInOrder_68 rfl 0 rfl ?_
    refine g_get C gfX2_putInOrder_19 0 rfl rfl dX2_putInOrder_69 ?_
    refine g_iload C dX2_putInOrder_72 3 rfl ?_
    refine g_iload C dX2_putInOrder_74 2 rfl ?_
    obtain ⟨hi_7, h⟩ := h
    refine g_iast (ws2 := [((ad 15), .inr (2, [.ref (ad 16), .ref (ad 17), .ref (ad 18), .int P_wide, .int P_high])), ((ad 16), .inl (cA 0, 64, .inl P_heights)), ((ad 18), .inl (cA 0, 4, .inl (upd P_near x5.toNatClampNeg x4)))]) C 2 0 rfl rfl hi_7 rfl dX2_putInOrder_76 ?_
    refine g_iload_n C dX2_putInOrder_77 rfl 1 rfl ?_
    refine g_iconst C dX2_putInOrder_78 ik_1 ?_
    refine g_iadd C dX2_putInOrder_79 ?_
    exact g_iret C E (upd P_near x5.toNatClampNeg x4) h rfl dX2_putInOrder_80
  · replace h := h.2 c_6
    refine g_aload_n C dX2_putInOrder_32 rfl 0 rfl ?_
    refine g_get C gfX2_putInOrder_19 0 rfl rfl dX2_putInOrder_33 ?_
    refine g_iload C dX2_putInOrder_36 3 rfl ?_
    refine g_iconst C dX2_putInOrder_38 ik_1 ?_
    refine g_isub C dX2_putInOrder_39 ?_
    obtain ⟨hi_8, h⟩ := h
    refine g_iald C 2 0 rfl rfl hi_8 dX2_putInOrder_40 ?_
    refine g_iload C dX2_putInOrder_41 2 rfl ?_
    refine g_icmp_le (tgt := 68) C dX2_putInOrder_43 (by decide) (fun c_9 => ?_) (fun c_9 => ?_)
    · replace h := h.1 c_9
      refine g_aload_n C dX2_putInOrder_68 rfl 0 rfl ?_
      refine g_get C gfX2_putInOrder_19 0 rfl rfl dX2_putInOrder_69 ?_
      refine g_iload C dX2_putInOrder_72 3 rfl ?_
      refine g_iload C dX2_putInOrder_74 2 rfl ?_
      obtain ⟨hi_10, h⟩ := h
      refine g_iast (ws2 := [((ad 15), .inr (2, [.ref (ad 16), .ref (ad 17), .ref (ad 18), .int P_wide, .int P_high])), ((ad 16), .inl (cA 0, 64, .inl P_heights)), ((ad 18), .inl (cA 0, 4, .inl (upd P_near x5.toNatClampNeg x4)))]) C 2 0 rfl rfl hi_10 rfl dX2_putInOrder_76 ?_
      refine g_iload_n C dX2_putInOrder_77 rfl 1 rfl ?_
      refine g_iconst C dX2_putInOrder_78 ik_1 ?_
      refine g_iadd C dX2_putInOrder_79 ?_
      exact g_iret C E (upd P_near x5.toNatClampNeg x4) h rfl dX2_putInOrder_80
    · replace h := h.2 c_9
      refine g_aload_n C dX2_putInOrder_46 rfl 0 rfl ?_
      refine g_get C gfX2_putInOrder_19 0 rfl rfl dX2_putInOrder_47 ?_
      refine g_iload C dX2_putInOrder_50 3 rfl ?_
      refine g_aload_n C dX2_putInOrder_52 rfl 0 rfl ?_
      refine g_get C gfX2_putInOrder_19 0 rfl rfl dX2_putInOrder_53 ?_
      refine g_iload C dX2_putInOrder_56 3 rfl ?_
      refine g_iconst C dX2_putInOrder_58 ik_1 ?_
      refine g_isub C dX2_putInOrder_59 ?_
      obtain ⟨hi_11, h⟩ := h
      refine g_iald C 2 0 rfl rfl hi_11 dX2_putInOrder_60 ?_
      obtain ⟨hi_12, h⟩ := h
      refine g_iast (ws2 := [((ad 15), .inr (2, [.ref (ad 16), .ref (ad 17), .ref (ad 18), .int P_wide, .int P_high])), ((ad 16), .inl (cA 0, 64, .inl P_heights)), ((ad 18), .inl (cA 0, 4, .inl (upd P_near x5.toNatClampNeg (P_near (x5 - (1 : Int32)).toNatClampNeg))))]) C 2 0 rfl rfl hi_12 rfl dX2_putInOrder_61 ?_
      refine g_iinc (v := (x5 + (-1))) (lv2 := [(0, .ref (ad 15)), (3, .int x3), (4, .int x4), (5, .int (x5 + (-1)))]) C dX2_putInOrder_62 3 rfl (by first | rfl | decide) (by decide) [1, 2, 3, 0] rfl ?_
      refine g_goto (tgt := 27) C dX2_putInOrder_65 (by decide) ?_
      exact g_lv [0, 1, 2, 3] rfl h
def prX2_putInOrder (p1 : Int32) (p2 : Int32) (p3 : Int32) (P_wide : Int32) (P_high : Int32) (P_heights : Nat → Int32) (P_near : Nat → Int32) : Prop := vp_in p3 4 ∧ (fnX2_has p1 p2 P_wide P_high = true → vp_in (fnX2_at p1 p2 P_wide P_high) 64)
def po_X2_putInOrder (ad : Nat → Nat) (cA : Nat → ClassId) (p1 : Int32) (p2 : Int32) (p3 : Int32) (P_wide : Int32) (P_high : Int32) (P_heights : Nat → Int32) (P_near : Nat → Int32) (r : Int32) (u : (Nat → Int32)) : Prop := (fnX2_has p1 p2 P_wide P_high = true → r = p3 + 1 ∧ u = insA P_near p3.toNatClampNeg (P_heights (fnX2_at p1 p2 P_wide P_high).toNatClampNeg)) ∧ (fnX2_has p1 p2 P_wide P_high = false → r = p3 ∧ u = P_near)
set_option maxHeartbeats 4000000 in
set_option maxRecDepth 100000 in
theorem c_X2_putInOrder (ad : Nat → Nat) (cA : Nat → ClassId) (p1 : Int32) (p2 : Int32) (p3 : Int32) (P_wide : Int32) (P_high : Int32) (P_heights : Nat → Int32) (P_near : Nat → Int32) (hq : prX2_putInOrder p1 p2 p3 P_wide P_high P_heights P_near) : ∀ (l : Launch) (D : va_G), gMi (S := (Nat → Int32)) l yX2_putInOrder wsX2_putInOrder rmX2_putInOrder D (gT cA) 0 0 [.ref (ad 15), .int p1, .int p2, .int p3] (wcX2_putInOrder ad cA P_wide P_high P_heights P_near) (po_X2_putInOrder ad cA p1 p2 p3 P_wide P_high P_heights P_near) (w1X2_putInOrder ad cA P_wide P_high P_heights) := by
  intro l D
  unfold prX2_putInOrder at hq
  refine g_enteri (cc := cX2_putInOrder) (nL := 6) (ret := (some .int)) (by decide) rfl (Nat.le_of_ble_eq_true rfl) rfl (fun X C E => ?_)
  obtain ⟨h3, hat⟩ := hq
  obtain ⟨j, hj, rfl⟩ := vp_in_of h3 (by decide)
  refine sgX2_putInOrder_0 _ _ _ _ _ _ _ C E ⟨fun c1 => ⟨hat c1, fun v ev => ?_⟩, fun c1 => ⟨fun c2 => absurd (c1.symm.trans c2) (by decide), fun _ => ⟨rfl, rfl⟩⟩⟩
  have hpo : ∀ (r : Int32) (u : Nat → Int32), r = nI j + 1 → u = insA P_near j v → po_X2_putInOrder ad cA p1 p2 (nI j) P_wide P_high P_heights P_near r u := fun r u h1 h2 => ⟨fun _ => ⟨h1, by rw [nI_clamp (by omega), ← ev]; exact h2⟩, fun c2 => absurd (c1.symm.trans c2) (by decide)⟩
  have loop : ∀ (i : Nat) (g : Nat → Int32), i < 4 → insA g i v = insA P_near j v → atX2_putInOrder_27 X ad cA (nI j) v (nI i) P_wide P_high P_heights g := by
    intro i
    induction i with
    | zero =>
      intro g _ e
      refine sgX2_putInOrder_27 _ _ _ _ _ _ _ C E ⟨fun _ => ⟨vp_in_nI (by omega) (by decide), hpo _ _ rfl ?_⟩, fun c => absurd (nI_le (Nat.le_refl 0) (by decide)) c⟩
      rw [← e, nI_clamp (by decide)]; rfl
    | succ i ih =>
      intro g hi e
      have e1 : nI (i + 1) - 1 = nI i := nI_pred i
      have hc : vp_in (nI i) 4 := vp_in_nI (by omega) (by decide)
      refine sgX2_putInOrder_27 _ _ _ _ _ _ _ C E ⟨fun c => absurd c (nI_nle (by omega) (by omega)), fun _ => ?_⟩
      rw [e1, nI_clamp (by omega)]
      refine ⟨hc, fun c => ⟨vp_in_nI (by omega) (by decide), hpo _ _ rfl ?_⟩, fun c => ⟨hc, vp_in_nI (by omega) (by decide), ?_⟩⟩
      · rw [← e, nI_clamp (by omega)]
        show _ = insA g (i + 1) v
        rw [insA, if_neg (by rw [Int32.not_lt]; exact c)]
      · rw [show nI (i + 1) + (-1) = nI i from pk_m1 i, nI_clamp (by omega)]
        refine ih _ (by omega) ?_
        rw [← e]
        show _ = insA g (i + 1) v
        rw [insA, if_pos (by rw [← Int32.not_le]; exact c)]
  exact loop j P_near hj rfl


/-- one neighbour put in its place -/
theorem put_step {ad : Nat → Nat} {cA : Nat → ClassId} {a b : Int} {w h : Nat} (ha : -1 ≤ a ∧ a ≤ 8) (hb : -1 ≤ b ∧ b ≤ 8) (hw : w ≤ 8) (hh : h ≤ 8) {q : Nat × (Nat → Int32)} {r : Int32} {u H : Nat → Int32} {p1 p2 : Int32} (e1 : p1 = iI a) (e2 : p2 = iI b) (hp : po_X2_putInOrder ad cA p1 p2 (nI q.1) (nI w) (nI h) H q.2 r u) (hq4 : q.1 < 4) {c : Bool} {n : Nat} (hc : decide (0 ≤ a ∧ a < w ∧ 0 ≤ b ∧ b < h) = c) (hn : c = true → (n : Int) = 8 * b + a) : r = nI (pst c (H n) q).1 ∧ u = (pst c (H n) q).2 := by
  subst e1; subst e2
  obtain ⟨h1, h2⟩ := hp
  have hh := has_iI (a := a) (b := b) (w := w) (h := h) (by omega) (by omega) hw hh
  rw [hc] at hh
  cases hcc : c
  · rw [hcc] at hh; obtain ⟨g1, g2⟩ := h2 hh; exact ⟨g1, g2⟩
  · rw [hcc] at hh; obtain ⟨g1, g2⟩ := h1 hh
    have hn := hn hcc
    rw [nI_clamp (by omega), at_iI, ← hn, iI_nI, nI_clamp (by have := of_decide_eq_true (hc.trans hcc); omega)] at g2
    exact ⟨by rw [g1]; exact nI_1 _, g2⟩
theorem put_pre {a b : Int} {w h : Nat} (ha : -1 ≤ a ∧ a ≤ 8) (hb : -1 ≤ b ∧ b ≤ 8) (hw : w ≤ 8) (hh : h ≤ 8) {q : Nat × (Nat → Int32)} {H : Nat → Int32} {p1 p2 : Int32} (e1 : p1 = iI a) (e2 : p2 = iI b) (hq4 : q.1 < 4) : prX2_putInOrder p1 p2 (nI q.1) (nI w) (nI h) H q.2 := by
  subst e1; subst e2
  refine ⟨vp_in_nI hq4 (by decide), fun c => ?_⟩
  rw [has_iI (by omega) (by omega) hw hh] at c
  have := of_decide_eq_true c
  exact at_in (by omega) _ _

abbrev w1X2_stepped (ad : Nat → Nat) (cA : Nat → ClassId) (P_wide : Int32) (P_high : Int32) (P_heights : Nat → Int32) (P_pinned : Nat → Int32) (u : (Nat → Int32)) : va_W := [((ad 15), .inr (2, [.ref (ad 16), .ref (ad 17), .ref (ad 18), .int P_wide, .int P_high])), ((ad 16), .inl (cA 0, 64, .inl P_heights)), ((ad 17), .inl (cA 2, 64, .inl P_pinned)), ((ad 18), .inl (cA 0, 4, .inl u))]
abbrev wcX2_stepped (ad : Nat → Nat) (cA : Nat → ClassId) (P_wide : Int32) (P_high : Int32) (P_heights : Nat → Int32) (P_pinned : Nat → Int32) (P_near : Nat → Int32) : va_W := [((ad 15), .inr (2, [.ref (ad 16), .ref (ad 17), .ref (ad 18), .int P_wide, .int P_high])), ((ad 16), .inl (cA 0, 64, .inl P_heights)), ((ad 17), .inl (cA 2, 64, .inl P_pinned)), ((ad 18), .inl (cA 0, 4, .inl P_near))]
def rmX2_stepped : Room := { frames := 2, cells := 0, slots := 0, locals := 47 }
abbrev atX2_stepped_0 (X : gX) (ad : Nat → Nat) (cA : Nat → ClassId) (p1 : Int32) (p2 : Int32) (P_wide : Int32) (P_high : Int32) (P_heights : Nat → Int32) (P_pinned : Nat → Int32) (P_near : Nat → Int32) : Prop := gW X 0 0 [((ad 15), .inr (2, [.ref (ad 16), .ref (ad 17), .ref (ad 18), .int P_wide, .int P_high])), ((ad 16), .inl (cA 0, 64, .inl P_heights)), ((ad 17), .inl (cA 2, 64, .inl P_pinned)), ((ad 18), .inl (cA 0, 4, .inl P_near))] 7 [(0, .ref (ad 15)), (1, .int p1), (2, .int p2)] [] 0
theorem mmX2_stepped_68a : Cond.methodLink RX2 68 Lib.Math.min.name ∈ wsX2_stepped := by decide +kernel
theorem mmX2_stepped_68b : Cond.static Lib.Math.min.name ∈ wsX2_stepped := by decide +kernel
theorem mmX2_stepped_68c : Cond.initialized "java/lang/Math" ∈ wsX2_stepped := by decide +kernel
theorem mmX2_stepped_68d : Cond.code Lib.Math.min.name Lib.Math.min.code 2 (some .int) ∈ wsX2_stepped := by decide +kernel
theorem mmX2_stepped_71a : Cond.methodLink RX2 71 Lib.Math.max.name ∈ wsX2_stepped := by decide +kernel
theorem mmX2_stepped_71b : Cond.static Lib.Math.max.name ∈ wsX2_stepped := by decide +kernel
theorem mmX2_stepped_71c : Cond.initialized "java/lang/Math" ∈ wsX2_stepped := by decide +kernel
theorem mmX2_stepped_71d : Cond.code Lib.Math.max.name Lib.Math.max.code 2 (some .int) ∈ wsX2_stepped := by decide +kernel
theorem giX2_stepped_X2 : ∀ w ∈ u_ws RX2 TX2 5, w ∈ wsX2_stepped := by decide +kernel
theorem gfX2_stepped_9 : gF wsX2_stepped RX2 9 2 0 RX2 TX2 5 := ⟨giX2_stepped_X2, by decide +kernel, rfl, by decide⟩
theorem gfX2_stepped_15 : gF wsX2_stepped RX2 15 2 1 RX2 TX2 5 := ⟨giX2_stepped_X2, by decide +kernel, rfl, by decide⟩
theorem gfX2_stepped_19 : gF wsX2_stepped RX2 19 2 2 RX2 TX2 5 := ⟨giX2_stepped_X2, by decide +kernel, rfl, by decide⟩
set_option maxHeartbeats 4000000 in
set_option maxRecDepth 100000 in
theorem sgX2_stepped_0 {X : gX} {ad : Nat → Nat} {cA : Nat → ClassId} {post : Int32 → ((Nat → Int32)) → Prop} (p1 : Int32) (p2 : Int32) (P_wide : Int32) (P_high : Int32) (P_heights : Nat → Int32) (P_pinned : Nat → Int32) (P_near : Nat → Int32) (C : gC X (gT cA) cX2_stepped 7 RX2 wsX2_stepped rmX2_stepped) (E : gEi X (some .int) (gT cA) 0 0 post (w1X2_stepped ad cA P_wide P_high P_heights P_pinned)) (h : vp_in (fnX2_at p1 p2 P_wide P_high) 64 ∧ ∀ x3_3 : Int32, x3_3 = (P_heights (fnX2_at p1 p2 P_wide P_high).toNatClampNeg) → vp_in (fnX2_at p1 p2 P_wide P_high) 64 ∧ ((P_pinned (fnX2_at p1 p2 P_wide P_high).toNatClampNeg) = 0 → prX2_putInOrder (p1 - (1 : Int32)) p2 (0 : Int32) P_wide P_high P_heights P_near ∧ ∀ (r_8 : Int32) (u8_P_near : Nat → Int32), po_X2_putInOrder ad cA (p1 - (1 : Int32)) p2 (0 : Int32) P_wide P_high P_heights P_near r_8 u8_P_near → prX2_putInOrder (p1 + (1 : Int32)) p2 r_8 P_wide P_high P_heights u8_P_near ∧ ∀ (r_10 : Int32) (u10_P_near : Nat → Int32), po_X2_putInOrder ad cA (p1 + (1 : Int32)) p2 r_8 P_wide P_high P_heights u8_P_near r_10 u10_P_near → prX2_putInOrder p1 (p2 - (1 : Int32)) r_10 P_wide P_high P_heights u10_P_near ∧ ∀ (r_12 : Int32) (u12_P_near : Nat → Int32), po_X2_putInOrder ad cA p1 (p2 - (1 : Int32)) r_10 P_wide P_high P_heights u10_P_near r_12 u12_P_near → prX2_putInOrder p1 (p2 + (1 : Int32)) r_12 P_wide P_high P_heights u12_P_near ∧ ∀ (r_14 : Int32) (u14_P_near : Nat → Int32), po_X2_putInOrder ad cA p1 (p2 + (1 : Int32)) r_12 P_wide P_high P_heights u12_P_near r_14 u14_P_near → vp_in ((r_14 - (1 : Int32)) / (2 : Int32)) 4 ∧ ∀ x5_16 : Int32, x5_16 = (u14_P_near ((r_14 - (1 : Int32)) / (2 : Int32)).toNatClampNeg) → vp_in (r_14 / (2 : Int32)) 4 ∧ ∀ x6_18 : Int32, x6_18 = (u14_P_near (r_14 / (2 : Int32)).toNatClampNeg) → post (if x5_16 < (if x3_3 < x6_18 then x3_3 else x6_18) then (if x3_3 < x6_18 then x3_3 else x6_18) else x5_16) u14_P_near) ∧ (¬ (P_pinned (fnX2_at p1 p2 P_wide P_high).toNatClampNeg) = 0 → post x3_3 P_near)) : atX2_stepped_0 X ad cA p1 p2 P_wide P_high P_heights P_pinned P_near := by
  refine g_aload_n C dX2_stepped_0 rfl 0 rfl ?_
  refine g_get C gfX2_stepped_9 0 rfl rfl dX2_stepped_1 ?_
  refine g_aload_n C dX2_stepped_4 rfl 0 rfl ?_
  refine g_iload_n C dX2_stepped_5 rfl 1 rfl ?_
  refine g_iload_n C dX2_stepped_6 rfl 2 rfl ?_
  refine g_callVi (wr := [((ad 16), .inl (cA 0, 64, .inl P_heights)), ((ad 17), .inl (cA 2, 64, .inl P_pinned)), ((ad 18), .inl (cA 0, 4, .inl P_near))]) C (c_X2_at ad cA p1 p2 P_wide P_high) gX2_stepped_X2_at rfl hde_X2_at ⟨rfl, rfl⟩ (by decide) (by decide) [0] [1, 2, 3] [3, 0, 1, 2] rfl rfl rfl rfl (by decide) rfl (ws2 := fun u => [((ad 15), .inr (2, [.ref (ad 16), .ref (ad 17), .ref (ad 18), .int P_wide, .int P_high])), ((ad 16), .inl (cA 0, 64, .inl P_heights)), ((ad 17), .inl (cA 2, 64, .inl P_pinned)), ((ad 18), .inl (cA 0, 4, .inl P_near))]) (fun _ => rfl) 2 0 rfl rfl rfl (rest := [.ref (ad 16)]) rfl (Nat.le_of_ble_eq_true rfl) dX2_stepped_7 (fun r_1 u_1 hp_1 => ?_)
  subst hp_1
  change gW X 0 0 [((ad 15), .inr (2, [.ref (ad 16), .ref (ad 17), .ref (ad 18), .int P_wide, .int P_high])), ((ad 16), .inl (cA 0, 64, .inl P_heights)), ((ad 17), .inl (cA 2, 64, .inl P_pinned)), ((ad 18), .inl (cA 0, 4, .inl P_near))] 7 [(0, .ref (ad 15)), (1, .int p1), (2, .int p2)] [.int (fnX2_at p1 p2 P_wide P_high), .ref (ad 16)] 10
  obtain ⟨hi_2, h⟩ := h
  refine g_iald C 1 0 rfl rfl hi_2 dX2_stepped_10 ?_
  refine g_topi (fun x3_3 ex3_3 => ?_)
  replace h := h x3_3 ex3_3
  refine g_istore_n (lv2 := [(0, .ref (ad 15)), (1, .int p1), (2, .int p2), (3, .int x3_3)]) C dX2_stepped_11 rfl (by decide) [1, 2, 3, 0] rfl ?_
  refine g_aload_n C dX2_stepped_12 rfl 0 rfl ?_
  refine g_get C gfX2_stepped_15 0 rfl rfl dX2_stepped_13 ?_
  refine g_aload_n C dX2_stepped_16 rfl 0 rfl ?_
  refine g_iload_n C dX2_stepped_17 rfl 1 rfl ?_
  refine g_iload_n C dX2_stepped_18 rfl 2 rfl ?_
  refine g_callVi (wr := [((ad 16), .inl (cA 0, 64, .inl P_heights)), ((ad 17), .inl (cA 2, 64, .inl P_pinned)), ((ad 18), .inl (cA 0, 4, .inl P_near))]) C (c_X2_at ad cA p1 p2 P_wide P_high) gX2_stepped_X2_at rfl hde_X2_at ⟨rfl, rfl⟩ (by decide) (by decide) [0] [1, 2, 3] [3, 0, 1, 2] rfl rfl rfl rfl (by decide) rfl (ws2 := fun u => [((ad 15), .inr (2, [.ref (ad 16), .ref (ad 17), .ref (ad 18), .int P_wide, .int P_high])), ((ad 16), .inl (cA 0, 64, .inl P_heights)), ((ad 17), .inl (cA 2, 64, .inl P_pinned)), ((ad 18), .inl (cA 0, 4, .inl P_near))]) (fun _ => rfl) 2 0 rfl rfl rfl (rest := [.ref (ad 17)]) rfl (Nat.le_of_ble_eq_true rfl) dX2_stepped_19 (fun r_4 u_4 hp_4 => ?_)
  subst hp_4
  change gW X 0 0 [((ad 15), .inr (2, [.ref (ad 16), .ref (ad 17), .ref (ad 18), .int P_wide, .int P_high])), ((ad 16), .inl (cA 0, 64, .inl P_heights)), ((ad 17), .inl (cA 2, 64, .inl P_pinned)), ((ad 18), .inl (cA 0, 4, .inl P_near))] 7 [(0, .ref (ad 15)), (1, .int p1), (2, .int p2), (3, .int x3_3)] [.int (fnX2_at p1 p2 P_wide P_high), .ref (ad 17)] 22
  obtain ⟨hi_5, h⟩ := h
  refine g_zald C 2 2 rfl rfl hi_5 dX2_stepped_22 ?_
  refine g_if_eq (tgt := 28) C dX2_stepped_23 (by decide) (fun c_6 => ?_) (fun c_6 => ?_)
  · replace h := h.1 c_6
    refine g_aload_n C dX2_stepped_28 rfl 0 rfl ?_
    refine g_iload_n C dX2_stepped_29 rfl 1 rfl ?_
    refine g_iconst C dX2_stepped_30 ik_1 ?_
    refine g_isub C dX2_stepped_31 ?_
    refine g_iload_n C dX2_stepped_32 rfl 2 rfl ?_
    refine g_iconst C dX2_stepped_33 ik_0 ?_
    obtain ⟨hi_7, h⟩ := h
    refine g_callVi (wr := [((ad 17), .inl (cA 2, 64, .inl P_pinned))]) C (c_X2_putInOrder ad cA (p1 - (1 : Int32)) p2 (0 : Int32) P_wide P_high P_heights P_near hi_7) gX2_stepped_X2_putInOrder rfl hde_X2_putInOrder ⟨rfl, rfl⟩ (by decide) (by decide) [0, 1, 3] [2] [1, 2, 0, 3] rfl rfl rfl rfl (by decide) rfl (ws2 := fun u => [((ad 15), .inr (2, [.ref (ad 16), .ref (ad 17), .ref (ad 18), .int P_wide, .int P_high])), ((ad 16), .inl (cA 0, 64, .inl P_heights)), ((ad 17), .inl (cA 2, 64, .inl P_pinned)), ((ad 18), .inl (cA 0, 4, .inl u))]) (fun _ => rfl) 2 0 rfl rfl rfl (rest := []) rfl (Nat.le_of_ble_eq_true rfl) dX2_stepped_34 (fun r_8 u_8 hp_8 => ?_)
    obtain ⟨u8_P_near, rfl⟩ : ∃ z, z = u_8 := ⟨_, rfl⟩
    replace h := h r_8 u8_P_near hp_8
    change gW X 0 0 [((ad 15), .inr (2, [.ref (ad 16), .ref (ad 17), .ref (ad 18), .int P_wide, .int P_high])), ((ad 16), .inl (cA 0, 64, .inl P_heights)), ((ad 17), .inl (cA 2, 64, .inl P_pinned)), ((ad 18), .inl (cA 0, 4, .inl u8_P_near))] 7 [(0, .ref (ad 15)), (1, .int p1), (2, .int p2), (3, .int x3_3)] [.int r_8] 37
    refine g_istore (lv2 := [(0, .ref (ad 15)), (1, .int p1), (2, .int p2), (3, .int x3_3), (4, .int r_8)]) C dX2_stepped_37 (by decide) [1, 2, 3, 4, 0] rfl ?_
    refine g_aload_n C dX2_stepped_39 rfl 0 rfl ?_
    refine g_iload_n C dX2_stepped_40 rfl 1 rfl ?_
    refine g_iconst C dX2_stepped_41 ik_1 ?_
    refine g_iadd C dX2_stepped_42 ?_
    refine g_iload_n C dX2_stepped_43 rfl 2 rfl ?_
    refine g_iload C dX2_stepped_44 4 rfl ?_
    obtain ⟨hi_9, h⟩ := h
    refine g_callVi (wr := [((ad 17), .inl (cA 2, 64, .inl P_pinned))]) C (c_X2_putInOrder ad cA (p1 + (1 : Int32)) p2 r_8 P_wide P_high P_heights u8_P_near hi_9) gX2_stepped_X2_putInOrder rfl hde_X2_putInOrder ⟨rfl, rfl⟩ (by decide) (by decide) [0, 1, 3] [2] [1, 2, 0, 3] rfl rfl rfl rfl (by decide) rfl (ws2 := fun u => [((ad 15), .inr (2, [.ref (ad 16), .ref (ad 17), .ref (ad 18), .int P_wide, .int P_high])), ((ad 16), .inl (cA 0, 64, .inl P_heights)), ((ad 17), .inl (cA 2, 64, .inl P_pinned)), ((ad 18), .inl (cA 0, 4, .inl u))]) (fun _ => rfl) 2 0 rfl rfl rfl (rest := []) rfl (Nat.le_of_ble_eq_true rfl) dX2_stepped_46 (fun r_10 u_10 hp_10 => ?_)
    obtain ⟨u10_P_near, rfl⟩ : ∃ z, z = u_10 := ⟨_, rfl⟩
    replace h := h r_10 u10_P_near hp_10
    change gW X 0 0 [((ad 15), .inr (2, [.ref (ad 16), .ref (ad 17), .ref (ad 18), .int P_wide, .int P_high])), ((ad 16), .inl (cA 0, 64, .inl P_heights)), ((ad 17), .inl (cA 2, 64, .inl P_pinned)), ((ad 18), .inl (cA 0, 4, .inl u10_P_near))] 7 [(0, .ref (ad 15)), (1, .int p1), (2, .int p2), (3, .int x3_3), (4, .int r_8)] [.int r_10] 49
    refine g_istore (lv2 := [(0, .ref (ad 15)), (1, .int p1), (2, .int p2), (3, .int x3_3), (4, .int r_10)]) C dX2_stepped_49 (by decide) [1, 2, 3, 4, 0] rfl ?_
    refine g_aload_n C dX2_stepped_51 rfl 0 rfl ?_
    refine g_iload_n C dX2_stepped_52 rfl 1 rfl ?_
    refine g_iload_n C dX2_stepped_53 rfl 2 rfl ?_
    refine g_iconst C dX2_stepped_54 ik_1 ?_
    refine g_isub C dX2_stepped_55 ?_
    refine g_iload C dX2_stepped_56 4 rfl ?_
    obtain ⟨hi_11, h⟩ := h
    refine g_callVi (wr := [((ad 17), .inl (cA 2, 64, .inl P_pinned))]) C (c_X2_putInOrder ad cA p1 (p2 - (1 : Int32)) r_10 P_wide P_high P_heights u10_P_near hi_11) gX2_stepped_X2_putInOrder rfl hde_X2_putInOrder ⟨rfl, rfl⟩ (by decide) (by decide) [0, 1, 3] [2] [1, 2, 0, 3] rfl rfl rfl rfl (by decide) rfl (ws2 := fun u => [((ad 15), .inr (2, [.ref (ad 16), .ref (ad 17), .ref (ad 18), .int P_wide, .int P_high])), ((ad 16), .inl (cA 0, 64, .inl P_heights)), ((ad 17), .inl (cA 2, 64, .inl P_pinned)), ((ad 18), .inl (cA 0, 4, .inl u))]) (fun _ => rfl) 2 0 rfl rfl rfl (rest := []) rfl (Nat.le_of_ble_eq_true rfl) dX2_stepped_58 (fun r_12 u_12 hp_12 => ?_)
    obtain ⟨u12_P_near, rfl⟩ : ∃ z, z = u_12 := ⟨_, rfl⟩
    replace h := h r_12 u12_P_near hp_12
    change gW X 0 0 [((ad 15), .inr (2, [.ref (ad 16), .ref (ad 17), .ref (ad 18), .int P_wide, .int P_high])), ((ad 16), .inl (cA 0, 64, .inl P_heights)), ((ad 17), .inl (cA 2, 64, .inl P_pinned)), ((ad 18), .inl (cA 0, 4, .inl u12_P_near))] 7 [(0, .ref (ad 15)), (1, .int p1), (2, .int p2), (3, .int x3_3), (4, .int r_10)] [.int r_12] 61
    refine g_istore (lv2 := [(0, .ref (ad 15)), (1, .int p1), (2, .int p2), (3, .int x3_3), (4, .int r_12)]) C dX2_stepped_61 (by decide) [1, 2, 3, 4, 0] rfl ?_
    refine g_aload_n C dX2_stepped_63 rfl 0 rfl ?_
    refine g_iload_n C dX2_stepped_64 rfl 1 rfl ?_
    refine g_iload_n C dX2_stepped_65 rfl 2 rfl ?_
    refine g_iconst C dX2_stepped_66 ik_1 ?_
    refine g_iadd C dX2_stepped_67 ?_
    refine g_iload C dX2_stepped_68 4 rfl ?_
    obtain ⟨hi_13, h⟩ := h
    refine g_callVi (wr := [((ad 17), .inl (cA 2, 64, .inl P_pinned))]) C (c_X2_putInOrder ad cA p1 (p2 + (1 : Int32)) r_12 P_wide P_high P_heights u12_P_near hi_13) gX2_stepped_X2_putInOrder rfl hde_X2_putInOrder ⟨rfl, rfl⟩ (by decide) (by decide) [0, 1, 3] [2] [1, 2, 0, 3] rfl rfl rfl rfl (by decide) rfl (ws2 := fun u => [((ad 15), .inr (2, [.ref (ad 16), .ref (ad 17), .ref (ad 18), .int P_wide, .int P_high])), ((ad 16), .inl (cA 0, 64, .inl P_heights)), ((ad 17), .inl (cA 2, 64, .inl P_pinned)), ((ad 18), .inl (cA 0, 4, .inl u))]) (fun _ => rfl) 2 0 rfl rfl rfl (rest := []) rfl (Nat.le_of_ble_eq_true rfl) dX2_stepped_70 (fun r_14 u_14 hp_14 => ?_)
    obtain ⟨u14_P_near, rfl⟩ : ∃ z, z = u_14 := ⟨_, rfl⟩
    replace h := h r_14 u14_P_near hp_14
    change gW X 0 0 [((ad 15), .inr (2, [.ref (ad 16), .ref (ad 17), .ref (ad 18), .int P_wide, .int P_high])), ((ad 16), .inl (cA 0, 64, .inl P_heights)), ((ad 17), .inl (cA 2, 64, .inl P_pinned)), ((ad 18), .inl (cA 0, 4, .inl u14_P_near))] 7 [(0, .ref (ad 15)), (1, .int p1), (2, .int p2), (3, .int x3_3), (4, .int r_12)] [.int r_14] 73
    refine g_istore (lv2 := [(0, .ref (ad 15)), (1, .int p1), (2, .int p2), (3, .int x3_3), (4, .int r_14)]) C dX2_stepped_73 (by decide) [1, 2, 3, 4, 0] rfl ?_
    refine g_aload_n C dX2_stepped_75 rfl 0 rfl ?_
    refine g_get C gfX2_stepped_19 0 rfl rfl dX2_stepped_76 ?_
    refine g_iload C dX2_stepped_79 4 rfl ?_
    refine g_iconst C dX2_stepped_81 ik_1 ?_
    refine g_isub C dX2_stepped_82 ?_
    refine g_iconst C dX2_stepped_83 ik_2 ?_
    refine g_idiv C dX2_stepped_84 (by decide) ?_
    obtain ⟨hi_15, h⟩ := h
    refine g_iald C 3 0 rfl rfl hi_15 dX2_stepped_85 ?_
    refine g_topi (fun x5_16 ex5_16 => ?_)
    replace h := h x5_16 ex5_16
    refine g_istore (lv2 := [(0, .ref (ad 15)), (1, .int p1), (2, .int p2), (3, .int x3_3), (4, .int r_14), (5, .int x5_16)]) C dX2_stepped_86 (by decide) [1, 2, 3, 4, 5, 0] rfl ?_
    refine g_aload_n C dX2_stepped_88 rfl 0 rfl ?_
    refine g_get C gfX2_stepped_19 0 rfl rfl dX2_stepped_89 ?_
    refine g_iload C dX2_stepped_92 4 rfl ?_
    refine g_iconst C dX2_stepped_94 ik_2 ?_
    refine g_idiv C dX2_stepped_95 (by decide) ?_
    obtain ⟨hi_17, h⟩ := h
    refine g_iald C 3 0 rfl rfl hi_17 dX2_stepped_96 ?_
    refine g_topi (fun x6_18 ex6_18 => ?_)
    replace h := h x6_18 ex6_18
    refine g_istore (lv2 := [(0, .ref (ad 15)), (1, .int p1), (2, .int p2), (3, .int x3_3), (4, .int r_14), (5, .int x5_16), (6, .int x6_18)]) C dX2_stepped_97 (by decide) [1, 2, 3, 4, 5, 6, 0] rfl ?_
    refine g_iload C dX2_stepped_99 5 rfl ?_
    refine g_iload C dX2_stepped_101 6 rfl ?_
    refine g_iload_n C dX2_stepped_103 rfl 3 rfl ?_
    refine g_mmin C mmX2_stepped_68a mmX2_stepped_68b mmX2_stepped_68c mmX2_stepped_68d (by decide) (Nat.le_of_ble_eq_true rfl) (by decide) (by decide) dX2_stepped_104 ?_
    refine g_mmax C mmX2_stepped_71a mmX2_stepped_71b mmX2_stepped_71c mmX2_stepped_71d (by decide) (Nat.le_of_ble_eq_true rfl) (by decide) (by decide) dX2_stepped_107 ?_
    exact g_iret C E u14_P_near h rfl dX2_stepped_110
  · replace h := h.2 c_6
    refine g_iload_n C dX2_stepped_26 rfl 3 rfl ?_
    exact g_iret C E P_near h rfl dX2_stepped_27
def prX2_stepped (p1 : Int32) (p2 : Int32) (P_wide : Int32) (P_high : Int32) (P_heights : Nat → Int32) (P_pinned : Nat → Int32) (P_near : Nat → Int32) : Prop := ∃ (w h x y : Nat), 2 ≤ w ∧ w ≤ 8 ∧ 2 ≤ h ∧ h ≤ 8 ∧ P_wide = nI w ∧ P_high = nI h ∧ x < w ∧ y < h ∧ p1 = nI x ∧ p2 = nI y
def po_X2_stepped (ad : Nat → Nat) (cA : Nat → ClassId) (p1 : Int32) (p2 : Int32) (P_wide : Int32) (P_high : Int32) (P_heights : Nat → Int32) (P_pinned : Nat → Int32) (P_near : Nat → Int32) (r : Int32) (u : (Nat → Int32)) : Prop := r = stp P_wide.toNatClampNeg P_high.toNatClampNeg P_pinned P_heights p1.toNatClampNeg p2.toNatClampNeg
set_option maxHeartbeats 4000000 in
set_option maxRecDepth 100000 in
theorem c_X2_stepped (ad : Nat → Nat) (cA : Nat → ClassId) (p1 : Int32) (p2 : Int32) (P_wide : Int32) (P_high : Int32) (P_heights : Nat → Int32) (P_pinned : Nat → Int32) (P_near : Nat → Int32) (hq : prX2_stepped p1 p2 P_wide P_high P_heights P_pinned P_near) : ∀ (l : Launch) (D : va_G), gMi (S := (Nat → Int32)) l yX2_stepped wsX2_stepped rmX2_stepped D (gT cA) 0 0 [.ref (ad 15), .int p1, .int p2] (wcX2_stepped ad cA P_wide P_high P_heights P_pinned P_near) (po_X2_stepped ad cA p1 p2 P_wide P_high P_heights P_pinned P_near) (w1X2_stepped ad cA P_wide P_high P_heights P_pinned) := by
  intro l D
  unfold prX2_stepped at hq
  refine g_enteri (cc := cX2_stepped) (nL := 7) (ret := (some .int)) (by decide) rfl (Nat.le_of_ble_eq_true rfl) rfl (fun X C E => ?_)
  obtain ⟨w, h, x, y, hw2, hw, hh2, hh, rfl, rfl, hx, hy, rfl, rfl⟩ := hq
  have hpo : ∀ (r : Int32) (u : Nat → Int32), r = stp w h P_pinned P_heights x y → po_X2_stepped ad cA (nI x) (nI y) (nI w) (nI h) P_heights P_pinned P_near r u := fun r u e => by
    unfold po_X2_stepped
    rw [nI_clamp (by omega), nI_clamp (by omega), nI_clamp (by omega), nI_clamp (by omega)]; exact e
  have hin : vp_in (nI (8 * y + x)) 64 := vp_in_nI (by omega) (by decide)
  have m1 : nI x - 1 = iI ((x : Int) - 1) := by rw [← iI_nI, ← iI_sub]; rfl
  have p1 : nI x + 1 = iI ((x : Int) + 1) := by rw [← iI_nI, ← iI_add]; rfl
  have m2 : nI y - 1 = iI ((y : Int) - 1) := by rw [← iI_nI, ← iI_sub]; rfl
  have p2 : nI y + 1 = iI ((y : Int) + 1) := by rw [← iI_nI, ← iI_add]; rfl
  have x0 : nI x = iI (x : Int) := (iI_nI x).symm
  have y0 : nI y = iI (y : Int) := (iI_nI y).symm
  refine sgX2_stepped_0 _ _ _ _ _ _ _ C E ?_
  rw [at_eq, nI_clamp (by omega)]
  refine ⟨hin, fun o eo => ⟨hin, fun c => ⟨put_pre (a := (x : Int) - 1) (b := y) (by omega) (by omega) hw hh (q := (0, P_near)) m1 y0 (show 0 < 4 by decide), fun r1 u1 q1 => ?_⟩, fun c => ?_⟩⟩
  · obtain ⟨rfl, rfl⟩ := put_step (by omega) (by omega) hw hh (q := (0, P_near)) m1 y0 q1 (show 0 < 4 by decide) (c := decide (0 < x)) (n := 8 * y + (x - 1)) (by rw [decide_eq_decide]; omega) (fun c => by have := of_decide_eq_true c; omega)
    have k1 := pst_1 (decide (0 < x)) (P_heights (8 * y + (x - 1))) (0, P_near)
    generalize hQ1 : pst (decide (0 < x)) (P_heights (8 * y + (x - 1))) (0, P_near) = Q1 at *
    have c1 : Q1.1 ≤ 1 := by rw [k1]; show 0 + _ ≤ 1; split <;> omega
    refine ⟨put_pre (a := (x : Int) + 1) (b := y) (by omega) (by omega) hw hh p1 y0 (by omega), fun r2 u2 q2 => ?_⟩
    obtain ⟨rfl, rfl⟩ := put_step (by omega) (by omega) hw hh p1 y0 q2 (by omega) (c := decide (x + 1 < w)) (n := 8 * y + (x + 1)) (by rw [decide_eq_decide]; omega) (fun c => by omega)
    have k2 := pst_1 (decide (x + 1 < w)) (P_heights (8 * y + (x + 1))) Q1
    generalize hQ2 : pst (decide (x + 1 < w)) (P_heights (8 * y + (x + 1))) Q1 = Q2 at *
    have c2 : Q2.1 ≤ 2 := by rw [k2]; split <;> omega
    refine ⟨put_pre (a := (x : Int)) (b := (y : Int) - 1) (by omega) (by omega) hw hh x0 m2 (by omega), fun r3 u3 q3 => ?_⟩
    obtain ⟨rfl, rfl⟩ := put_step (by omega) (by omega) hw hh x0 m2 q3 (by omega) (c := decide (0 < y)) (n := 8 * (y - 1) + x) (by rw [decide_eq_decide]; omega) (fun c => by have := of_decide_eq_true c; omega)
    have k3 := pst_1 (decide (0 < y)) (P_heights (8 * (y - 1) + x)) Q2
    generalize hQ3 : pst (decide (0 < y)) (P_heights (8 * (y - 1) + x)) Q2 = Q3 at *
    have c3 : Q3.1 ≤ 3 := by rw [k3]; split <;> omega
    refine ⟨put_pre (a := (x : Int)) (b := (y : Int) + 1) (by omega) (by omega) hw hh x0 p2 (by omega), fun r4 u4 q4 => ?_⟩
    obtain ⟨rfl, rfl⟩ := put_step (by omega) (by omega) hw hh x0 p2 q4 (by omega) (c := decide (y + 1 < h)) (n := 8 * (y + 1) + x) (by rw [decide_eq_decide]; omega) (fun c => by omega)
    have hstq : pst (decide (y + 1 < h)) (P_heights (8 * (y + 1) + x)) Q3 = stq w h P_heights x y P_near := by
      unfold stq; rw [hQ1, hQ2, hQ3]
    rw [hstq]
    have cn := stq_1 hw2 hh2 hx hy P_heights P_near
    have a1 := stq_lohi hw2 hh2 hx hy P_heights P_near
    have a2 := stp_any hw2 hh2 hx hy P_pinned P_heights P_near c
    generalize stq w h P_heights x y P_near = Q4 at *
    have d1 : (nI Q4.1 - 1) / 2 = nI ((Q4.1 - 1) / 2) := by
      show (nI Q4.1 - nI 1) / nI 2 = _
      rw [pk_sub (by omega), pk_div (by omega) (by decide) (by decide)]
    have d2 : nI Q4.1 / 2 = nI (Q4.1 / 2) := pk_div (by omega) (by decide) (by decide)
    rw [d1, d2, nI_clamp (by omega), nI_clamp (by omega)]
    refine ⟨vp_in_nI (by omega) (by decide), fun lo elo => ⟨vp_in_nI (by omega) (by decide), fun hi ehi => hpo _ _ ?_⟩⟩
    rw [elo, ehi, eo, clp_mm a1, a2]
  · refine hpo _ _ ?_
    unfold stp
    rw [if_neg c, eo]


abbrev w1X2_pins (ad : Nat → Nat) (cA : Nat → ClassId) (P_wide : Int32) (P_high : Int32) (P_pinned : Nat → Int32) (u : Unit) : va_W := [((ad 15), .inr (2, [.ref (ad 16), .ref (ad 17), .ref (ad 18), .int P_wide, .int P_high])), ((ad 17), .inl (cA 2, 64, .inl P_pinned))]
abbrev wcX2_pins (ad : Nat → Nat) (cA : Nat → ClassId) (P_wide : Int32) (P_high : Int32) (P_pinned : Nat → Int32) : va_W := [((ad 15), .inr (2, [.ref (ad 16), .ref (ad 17), .ref (ad 18), .int P_wide, .int P_high])), ((ad 17), .inl (cA 2, 64, .inl P_pinned))]
def rmX2_pins : Room := { frames := 1, cells := 0, slots := 0, locals := 22 }
abbrev atX2_pins_0 (X : gX) (ad : Nat → Nat) (cA : Nat → ClassId) (P_wide : Int32) (P_high : Int32) (P_pinned : Nat → Int32) : Prop := gW X 0 0 [((ad 15), .inr (2, [.ref (ad 16), .ref (ad 17), .ref (ad 18), .int P_wide, .int P_high])), ((ad 17), .inl (cA 2, 64, .inl P_pinned))] 4 [(0, .ref (ad 15))] [] 0
abbrev atX2_pins_4 (X : gX) (ad : Nat → Nat) (cA : Nat → ClassId) (x1 : Int32) (x2 : Int32) (P_wide : Int32) (P_high : Int32) (P_pinned : Nat → Int32) : Prop := gW X 0 0 [((ad 15), .inr (2, [.ref (ad 16), .ref (ad 17), .ref (ad 18), .int P_wide, .int P_high])), ((ad 17), .inl (cA 2, 64, .inl P_pinned))] 4 [(0, .ref (ad 15)), (1, .int x1), (2, .int x2)] [] 4
abbrev atX2_pins_14 (X : gX) (ad : Nat → Nat) (cA : Nat → ClassId) (x1 : Int32) (x2 : Int32) (x3 : Int32) (P_wide : Int32) (P_high : Int32) (P_pinned : Nat → Int32) : Prop := gW X 0 0 [((ad 15), .inr (2, [.ref (ad 16), .ref (ad 17), .ref (ad 18), .int P_wide, .int P_high])), ((ad 17), .inl (cA 2, 64, .inl P_pinned))] 4 [(0, .ref (ad 15)), (1, .int x1), (2, .int x2), (3, .int x3)] [] 14
theorem giX2_pins_X2 : ∀ w ∈ u_ws RX2 TX2 5, w ∈ wsX2_pins := by decide +kernel
theorem gfX2_pins_26 : gF wsX2_pins RX2 26 2 4 RX2 TX2 5 := ⟨giX2_pins_X2, by decide +kernel, rfl, by decide⟩
theorem gfX2_pins_22 : gF wsX2_pins RX2 22 2 3 RX2 TX2 5 := ⟨giX2_pins_X2, by decide +kernel, rfl, by decide⟩
theorem gfX2_pins_15 : gF wsX2_pins RX2 15 2 1 RX2 TX2 5 := ⟨giX2_pins_X2, by decide +kernel, rfl, by decide⟩
set_option maxHeartbeats 4000000 in
set_option maxRecDepth 100000 in
theorem sgX2_pins_0 {X : gX} {ad : Nat → Nat} {cA : Nat → ClassId} {post : Int32 → (Unit) → Prop} (P_wide : Int32) (P_high : Int32) (P_pinned : Nat → Int32) (C : gC X (gT cA) cX2_pins 4 RX2 wsX2_pins rmX2_pins) (E : gEi X (some .int) (gT cA) 0 0 post (w1X2_pins ad cA P_wide P_high P_pinned)) (h : atX2_pins_4 X ad cA (0 : Int32) (0 : Int32) P_wide P_high P_pinned) : atX2_pins_0 X ad cA P_wide P_high P_pinned := by
  refine g_iconst C dX2_pins_0 ik_0 ?_
  refine g_istore_n (lv2 := [(0, .ref (ad 15)), (1, .int (0 : Int32))]) C dX2_pins_1 rfl (by decide) [1, 0] rfl ?_
  refine g_iconst C dX2_pins_2 ik_0 ?_
  refine g_istore_n (lv2 := [(0, .ref (ad 15)), (1, .int (0 : Int32)), (2, .int (0 : Int32))]) C dX2_pins_3 rfl (by decide) [1, 2, 0] rfl ?_
  exact g_lv [0, 1, 2] rfl h
set_option maxHeartbeats 4000000 in
set_option maxRecDepth 100000 in
theorem sgX2_pins_4 {X : gX} {ad : Nat → Nat} {cA : Nat → ClassId} {post : Int32 → (Unit) → Prop} (x1 : Int32) (x2 : Int32) (P_wide : Int32) (P_high : Int32) (P_pinned : Nat → Int32) (C : gC X (gT cA) cX2_pins 4 RX2 wsX2_pins rmX2_pins) (E : gEi X (some .int) (gT cA) 0 0 post (w1X2_pins ad cA P_wide P_high P_pinned)) (h : (P_high ≤ x2 → post x1 ()) ∧ (¬ P_high ≤ x2 → atX2_pins_14 X ad cA x1 x2 (0 : Int32) P_wide P_high P_pinned)) : atX2_pins_4 X ad cA x1 x2 P_wide P_high P_pinned := by
  refine g_iload_n C dX2_pins_4 rfl 2 rfl ?_
  refine g_aload_n C dX2_pins_5 rfl 0 rfl ?_
  refine g_get C gfX2_pins_26 0 rfl rfl dX2_pins_6 ?_
  refine g_icmp_ge (tgt := 51) C dX2_pins_9 (by decide) (fun c_1 => ?_) (fun c_1 => ?_)
  · replace h := h.1 c_1
    refine g_iload_n C dX2_pins_51 rfl 1 rfl ?_
    exact g_iret C E () h rfl dX2_pins_52
  · replace h := h.2 c_1
    refine g_iconst C dX2_pins_12 ik_0 ?_
    refine g_istore_n (lv2 := [(0, .ref (ad 15)), (1, .int x1), (2, .int x2), (3, .int (0 : Int32))]) C dX2_pins_13 rfl (by decide) [1, 2, 3, 0] rfl ?_
    exact g_lv [0, 1, 2, 3] rfl h
set_option maxHeartbeats 4000000 in
set_option maxRecDepth 100000 in
theorem sgX2_pins_14 {X : gX} {ad : Nat → Nat} {cA : Nat → ClassId} {post : Int32 → (Unit) → Prop} (x1 : Int32) (x2 : Int32) (x3 : Int32) (P_wide : Int32) (P_high : Int32) (P_pinned : Nat → Int32) (C : gC X (gT cA) cX2_pins 4 RX2 wsX2_pins rmX2_pins) (E : gEi X (some .int) (gT cA) 0 0 post (w1X2_pins ad cA P_wide P_high P_pinned)) (h : (P_wide ≤ x3 → atX2_pins_4 X ad cA x1 (x2 + 1) P_wide P_high P_pinned) ∧ (¬ P_wide ≤ x3 → vp_in (fnX2_at x3 x2 P_wide P_high) 64 ∧ atX2_pins_14 X ad cA (if (P_pinned (fnX2_at x3 x2 P_wide P_high).toNatClampNeg) = 0 then x1 else (x1 + 1)) x2 (x3 + 1) P_wide P_high P_pinned)) : atX2_pins_14 X ad cA x1 x2 x3 P_wide P_high P_pinned := by
  refine g_iload_n C dX2_pins_14 rfl 3 rfl ?_
  refine g_aload_n C dX2_pins_15 rfl 0 rfl ?_
  refine g_get C gfX2_pins_22 0 rfl rfl dX2_pins_16 ?_
  refine g_icmp_ge (tgt := 45) C dX2_pins_19 (by decide) (fun c_2 => ?_) (fun c_2 => ?_)
  · replace h := h.1 c_2
    refine g_iinc (v := (x2 + 1)) (lv2 := [(0, .ref (ad 15)), (1, .int x1), (2, .int (x2 + 1)), (3, .int x3)]) C dX2_pins_45 2 rfl (by first | rfl | decide) (by decide) [1, 2, 0, 3] rfl ?_
    refine g_goto (tgt := 4) C dX2_pins_48 (by decide) ?_
    exact g_lv [0, 1, 2] rfl h
  · replace h := h.2 c_2
    refine g_aload_n C dX2_pins_22 rfl 0 rfl ?_
    refine g_get C gfX2_pins_15 0 rfl rfl dX2_pins_23 ?_
    refine g_aload_n C dX2_pins_26 rfl 0 rfl ?_
    refine g_iload_n C dX2_pins_27 rfl 3 rfl ?_
    refine g_iload_n C dX2_pins_28 rfl 2 rfl ?_
    refine g_callVi (wr := [((ad 17), .inl (cA 2, 64, .inl P_pinned))]) C (c_X2_at ad cA x3 x2 P_wide P_high) gX2_pins_X2_at rfl hde_X2_at ⟨rfl, rfl⟩ (by decide) (by decide) [0] [1] [1, 0] rfl rfl rfl rfl (by decide) rfl (ws2 := fun u => [((ad 15), .inr (2, [.ref (ad 16), .ref (ad 17), .ref (ad 18), .int P_wide, .int P_high])), ((ad 17), .inl (cA 2, 64, .inl P_pinned))]) (fun _ => rfl) 2 0 rfl rfl rfl (rest := [.ref (ad 17)]) rfl (Nat.le_of_ble_eq_true rfl) dX2_pins_29 (fun r_3 u_3 hp_3 => ?_)
    subst hp_3
    change gW X 0 0 [((ad 15), .inr (2, [.ref (ad 16), .ref (ad 17), .ref (ad 18), .int P_wide, .int P_high])), ((ad 17), .inl (cA 2, 64, .inl P_pinned))] 4 [(0, .ref (ad 15)), (1, .int x1), (2, .int x2), (3, .int x3)] [.int (fnX2_at x3 x2 P_wide P_high), .ref (ad 17)] 32
    obtain ⟨hi_4, h⟩ := h
    refine g_zald C 1 2 rfl rfl hi_4 dX2_pins_32 ?_
    have key : gW X 0 0 [((ad 15), .inr (2, [.ref (ad 16), .ref (ad 17), .ref (ad 18), .int P_wide, .int P_high])), ((ad 17), .inl (cA 2, 64, .inl P_pinned))] 4 [(0, .ref (ad 15)), (1, .int (if (P_pinned (fnX2_at x3 x2 P_wide P_high).toNatClampNeg) = 0 then x1 else (x1 + 1))), (2, .int x2), (3, .int x3)] [] 39 := by
      refine g_iinc (v := (x3 + 1)) (lv2 := [(0, .ref (ad 15)), (1, .int (if (P_pinned (fnX2_at x3 x2 P_wide P_high).toNatClampNeg) = 0 then x1 else (x1 + 1))), (2, .int x2), (3, .int (x3 + 1))]) C dX2_pins_39 3 rfl (by first | rfl | decide) (by decide) [1, 2, 3, 0] rfl ?_
      refine g_goto (tgt := 14) C dX2_pins_42 (by decide) ?_
      exact g_lv [0, 1, 2, 3] rfl h
    refine g_if_eq (tgt := 39) C dX2_pins_33 (by decide) (fun c_5 => ?_) (fun c_5 => ?_)
    · exact g_leaf (by simp only [if_pos c_5] at key; exact key)
    · refine g_iinc (v := (x1 + 1)) (lv2 := [(0, .ref (ad 15)), (1, .int (x1 + 1)), (2, .int x2), (3, .int x3)]) C dX2_pins_36 1 rfl (by first | rfl | decide) (by decide) [1, 0, 2, 3] rfl ?_
      exact g_leaf (by simp only [if_neg c_5] at key; exact key)
def prX2_pins (P_wide : Int32) (P_high : Int32) (P_pinned : Nat → Int32) : Prop := netOK P_wide P_high
set_option maxHeartbeats 4000000 in
set_option maxRecDepth 100000 in
theorem c_X2_pins (ad : Nat → Nat) (cA : Nat → ClassId) (P_wide : Int32) (P_high : Int32) (P_pinned : Nat → Int32) (hq : prX2_pins P_wide P_high P_pinned) : ∀ (l : Launch) (D : va_G), gMi (S := Unit) l yX2_pins wsX2_pins rmX2_pins D (gT cA) 0 0 [.ref (ad 15)] (wcX2_pins ad cA P_wide P_high P_pinned) (fun r _ => r = pns P_wide.toNatClampNeg P_high.toNatClampNeg P_pinned) (w1X2_pins ad cA P_wide P_high P_pinned) := by
  intro l D
  unfold prX2_pins at hq
  refine g_enteri (cc := cX2_pins) (nL := 4) (ret := (some .int)) (by decide) rfl (Nat.le_of_ble_eq_true rfl) rfl (fun X C E => ?_)
  obtain ⟨w, h, hw2, hw, hh2, hh, rfl, rfl⟩ := hq
  rw [nI_clamp (by omega), nI_clamp (by omega)] at E
  refine sgX2_pins_0 _ _ _ C E ?_
  have outer : ∀ y, y ≤ h → atX2_pins_4 X ad cA (sumI (fun y => sumI (fun x => if P_pinned (8 * y + x) = 0 then 0 else 1) w) y) (nI y) (nI w) (nI h) P_pinned := by
    intro y hy
    refine up_loop (P := fun y => atX2_pins_4 X ad cA (sumI (fun y => sumI (fun x => if P_pinned (8 * y + x) = 0 then 0 else 1) w) y) (nI y) (nI w) (nI h) P_pinned) h ?_ (fun y hy ih => ?_) y hy
    · exact sgX2_pins_4 _ _ _ _ _ C E ⟨fun _ => rfl, fun c => absurd (i32_le_refl _) c⟩
    · refine sgX2_pins_4 _ _ _ _ _ C E ⟨fun c => absurd c (nI_ge hy (by omega)), fun _ => ?_⟩
      have inner : ∀ x, x ≤ w → atX2_pins_14 X ad cA (sumI (fun y => sumI (fun x => if P_pinned (8 * y + x) = 0 then 0 else 1) w) y + sumI (fun x => if P_pinned (8 * y + x) = 0 then 0 else 1) x) (nI y) (nI x) (nI w) (nI h) P_pinned := by
        intro x hx
        refine up_loop (P := fun x => atX2_pins_14 X ad cA (sumI (fun y => sumI (fun x => if P_pinned (8 * y + x) = 0 then 0 else 1) w) y + sumI (fun x => if P_pinned (8 * y + x) = 0 then 0 else 1) x) (nI y) (nI x) (nI w) (nI h) P_pinned) w ?_ (fun x hx ih2 => ?_) x hx
        · refine sgX2_pins_14 _ _ _ _ _ _ C E ⟨fun _ => ?_, fun c => absurd (i32_le_refl _) c⟩
          rw [nI_1]; exact ih
        · refine sgX2_pins_14 _ _ _ _ _ _ C E ⟨fun c => absurd c (nI_ge hx (by omega)), fun _ => ?_⟩
          rw [at_eq, nI_clamp (by omega), nI_1]
          refine ⟨vp_in_nI (by omega) (by decide), ?_⟩
          rw [show (if P_pinned (8 * y + x) = 0 then (sumI (fun y => sumI (fun x => if P_pinned (8 * y + x) = 0 then 0 else 1) w) y + sumI (fun x => if P_pinned (8 * y + x) = 0 then 0 else 1) x) else (sumI (fun y => sumI (fun x => if P_pinned (8 * y + x) = 0 then 0 else 1) w) y + sumI (fun x => if P_pinned (8 * y + x) = 0 then 0 else 1) x) + 1) = sumI (fun y => sumI (fun x => if P_pinned (8 * y + x) = 0 then 0 else 1) w) y + sumI (fun x => if P_pinned (8 * y + x) = 0 then 0 else 1) (x + 1) from by
            rw [sumI, ← Int32.add_assoc]
            split
            · rw [Int32.add_zero]
            · rfl]
          exact ih2
      have := inner 0 (Nat.zero_le _)
      rw [sumI, Int32.add_zero] at this
      exact this
  exact outer 0 (Nat.zero_le _)


abbrev w1X2_difference (ad : Nat → Nat) (cA : Nat → ClassId) (P_wide : Int32) (P_high : Int32) (P_heights : Nat → Int32) (u : Unit) : va_W := [((ad 15), .inr (2, [.ref (ad 16), .ref (ad 17), .ref (ad 18), .int P_wide, .int P_high])), ((ad 16), .inl (cA 0, 64, .inl P_heights))]
abbrev wcX2_difference (ad : Nat → Nat) (cA : Nat → ClassId) (P_wide : Int32) (P_high : Int32) (P_heights : Nat → Int32) : va_W := [((ad 15), .inr (2, [.ref (ad 16), .ref (ad 17), .ref (ad 18), .int P_wide, .int P_high])), ((ad 16), .inl (cA 0, 64, .inl P_heights))]
def rmX2_difference : Room := { frames := 1, cells := 0, slots := 0, locals := 22 }
abbrev atX2_difference_0 (X : gX) (ad : Nat → Nat) (cA : Nat → ClassId) (p1 : Int32) (p2 : Int32) (p3 : Int32) (p4 : Int32) (P_wide : Int32) (P_high : Int32) (P_heights : Nat → Int32) : Prop := gW X 0 0 [((ad 15), .inr (2, [.ref (ad 16), .ref (ad 17), .ref (ad 18), .int P_wide, .int P_high])), ((ad 16), .inl (cA 0, 64, .inl P_heights))] 5 [(0, .ref (ad 15)), (1, .int p1), (2, .int p2), (3, .int p3), (4, .int p4)] [] 0
theorem mmX2_difference_51a : Cond.methodLink RX2 51 Lib.Math.abs.name ∈ wsX2_difference := by decide +kernel
theorem mmX2_difference_51b : Cond.static Lib.Math.abs.name ∈ wsX2_difference := by decide +kernel
theorem mmX2_difference_51c : Cond.initialized "java/lang/Math" ∈ wsX2_difference := by decide +kernel
theorem mmX2_difference_51d : Cond.code Lib.Math.abs.name Lib.Math.abs.code 1 (some .int) ∈ wsX2_difference := by decide +kernel
theorem giX2_difference_X2 : ∀ w ∈ u_ws RX2 TX2 5, w ∈ wsX2_difference := by decide +kernel
theorem gfX2_difference_9 : gF wsX2_difference RX2 9 2 0 RX2 TX2 5 := ⟨giX2_difference_X2, by decide +kernel, rfl, by decide⟩
set_option maxHeartbeats 4000000 in
set_option maxRecDepth 100000 in
theorem sgX2_difference_0 {X : gX} {ad : Nat → Nat} {cA : Nat → ClassId} {post : Int32 → (Unit) → Prop} (p1 : Int32) (p2 : Int32) (p3 : Int32) (p4 : Int32) (P_wide : Int32) (P_high : Int32) (P_heights : Nat → Int32) (C : gC X (gT cA) cX2_difference 5 RX2 wsX2_difference rmX2_difference) (E : gEi X (some .int) (gT cA) 0 0 post (w1X2_difference ad cA P_wide P_high P_heights)) (h : ((fnX2_has p3 p4 P_wide P_high) = false → post (0 : Int32) ()) ∧ ((fnX2_has p3 p4 P_wide P_high) = true → vp_in (fnX2_at p1 p2 P_wide P_high) 64 ∧ vp_in (fnX2_at p3 p4 P_wide P_high) 64 ∧ post (if 0 ≤ ((P_heights (fnX2_at p1 p2 P_wide P_high).toNatClampNeg) - (P_heights (fnX2_at p3 p4 P_wide P_high).toNatClampNeg)) then ((P_heights (fnX2_at p1 p2 P_wide P_high).toNatClampNeg) - (P_heights (fnX2_at p3 p4 P_wide P_high).toNatClampNeg)) else 0 - ((P_heights (fnX2_at p1 p2 P_wide P_high).toNatClampNeg) - (P_heights (fnX2_at p3 p4 P_wide P_high).toNatClampNeg))) ())) : atX2_difference_0 X ad cA p1 p2 p3 p4 P_wide P_high P_heights := by
  refine g_aload_n C dX2_difference_0 rfl 0 rfl ?_
  refine g_iload_n C dX2_difference_1 rfl 3 rfl ?_
  refine g_iload C dX2_difference_2 4 rfl ?_
  refine g_callVi (wr := [((ad 16), .inl (cA 0, 64, .inl P_heights))]) C (c_X2_has ad cA p3 p4 P_wide P_high) gX2_difference_X2_has rfl hde_X2_has ⟨rfl, rfl⟩ (by decide) (by decide) [0] [1] [1, 0] rfl rfl rfl rfl (by decide) rfl (ws2 := fun u => [((ad 15), .inr (2, [.ref (ad 16), .ref (ad 17), .ref (ad 18), .int P_wide, .int P_high])), ((ad 16), .inl (cA 0, 64, .inl P_heights))]) (fun _ => rfl) 2 0 rfl rfl rfl (rest := []) rfl (Nat.le_of_ble_eq_true rfl) dX2_difference_4 (fun r_1 u_1 hp_1 => ?_)
  subst hp_1
  change gW X 0 0 [((ad 15), .inr (2, [.ref (ad 16), .ref (ad 17), .ref (ad 18), .int P_wide, .int P_high])), ((ad 16), .inl (cA 0, 64, .inl P_heights))] 5 [(0, .ref (ad 15)), (1, .int p1), (2, .int p2), (3, .int p3), (4, .int p4)] [.int (bI (fnX2_has p3 p4 P_wide P_high))] 7
  refine g_ifeq_b (tgt := 40) C dX2_difference_7 (by decide) (fun c_2 => ?_) (fun c_2 => ?_)
  · replace h := h.1 c_2
    refine g_iconst C dX2_difference_40 ik_0 ?_
    exact g_iret C E () h rfl dX2_difference_41
  · replace h := h.2 c_2
    refine g_aload_n C dX2_difference_10 rfl 0 rfl ?_
    refine g_get C gfX2_difference_9 0 rfl rfl dX2_difference_11 ?_
    refine g_aload_n C dX2_difference_14 rfl 0 rfl ?_
    refine g_iload_n C dX2_difference_15 rfl 1 rfl ?_
    refine g_iload_n C dX2_difference_16 rfl 2 rfl ?_
    refine g_callVi (wr := [((ad 16), .inl (cA 0, 64, .inl P_heights))]) C (c_X2_at ad cA p1 p2 P_wide P_high) gX2_difference_X2_at rfl hde_X2_at ⟨rfl, rfl⟩ (by decide) (by decide) [0] [1] [1, 0] rfl rfl rfl rfl (by decide) rfl (ws2 := fun u => [((ad 15), .inr (2, [.ref (ad 16), .ref (ad 17), .ref (ad 18), .int P_wide, .int P_high])), ((ad 16), .inl (cA 0, 64, .inl P_heights))]) (fun _ => rfl) 2 0 rfl rfl rfl (rest := [.ref (ad 16)]) rfl (Nat.le_of_ble_eq_true rfl) dX2_difference_17 (fun r_3 u_3 hp_3 => ?_)
    subst hp_3
    change gW X 0 0 [((ad 15), .inr (2, [.ref (ad 16), .ref (ad 17), .ref (ad 18), .int P_wide, .int P_high])), ((ad 16), .inl (cA 0, 64, .inl P_heights))] 5 [(0, .ref (ad 15)), (1, .int p1), (2, .int p2), (3, .int p3), (4, .int p4)] [.int (fnX2_at p1 p2 P_wide P_high), .ref (ad 16)] 20
    obtain ⟨hi_4, h⟩ := h
    refine g_iald C 1 0 rfl rfl hi_4 dX2_difference_20 ?_
    refine g_aload_n C dX2_difference_21 rfl 0 rfl ?_
    refine g_get C gfX2_difference_9 0 rfl rfl dX2_difference_22 ?_
    refine g_aload_n C dX2_difference_25 rfl 0 rfl ?_
    refine g_iload_n C dX2_difference_26 rfl 3 rfl ?_
    refine g_iload C dX2_difference_27 4 rfl ?_
    refine g_callVi (wr := [((ad 16), .inl (cA 0, 64, .inl P_heights))]) C (c_X2_at ad cA p3 p4 P_wide P_high) gX2_difference_X2_at rfl hde_X2_at ⟨rfl, rfl⟩ (by decide) (by decide) [0] [1] [1, 0] rfl rfl rfl rfl (by decide) rfl (ws2 := fun u => [((ad 15), .inr (2, [.ref (ad 16), .ref (ad 17), .ref (ad 18), .int P_wide, .int P_high])), ((ad 16), .inl (cA 0, 64, .inl P_heights))]) (fun _ => rfl) 2 0 rfl rfl rfl (rest := [.ref (ad 16), .int (P_heights (fnX2_at p1 p2 P_wide P_high).toNatClampNeg)]) rfl (Nat.le_of_ble_eq_true rfl) dX2_difference_29 (fun r_5 u_5 hp_5 => ?_)
    subst hp_5
    change gW X 0 0 [((ad 15), .inr (2, [.ref (ad 16), .ref (ad 17), .ref (ad 18), .int P_wide, .int P_high])), ((ad 16), .inl (cA 0, 64, .inl P_heights))] 5 [(0, .ref (ad 15)), (1, .int p1), (2, .int p2), (3, .int p3), (4, .int p4)] [.int (fnX2_at p3 p4 P_wide P_high), .ref (ad 16), .int (P_heights (fnX2_at p1 p2 P_wide P_high).toNatClampNeg)] 32
    obtain ⟨hi_6, h⟩ := h
    refine g_iald C 1 0 rfl rfl hi_6 dX2_difference_32 ?_
    refine g_isub C dX2_difference_33 ?_
    refine g_mabs C mmX2_difference_51a mmX2_difference_51b mmX2_difference_51c mmX2_difference_51d (by decide) (Nat.le_of_ble_eq_true rfl) (by decide) (by decide) dX2_difference_34 ?_
    refine g_goto (tgt := 41) C dX2_difference_37 (by decide) ?_
    exact g_iret C E () h rfl dX2_difference_41
def fnX2_difference (p1 : Int32) (p2 : Int32) (p3 : Int32) (p4 : Int32) (P_wide : Int32) (P_high : Int32) (P_heights : Nat → Int32) : Int32 := (if (fnX2_has p3 p4 P_wide P_high) = true then (if 0 ≤ ((P_heights (fnX2_at p1 p2 P_wide P_high).toNatClampNeg) - (P_heights (fnX2_at p3 p4 P_wide P_high).toNatClampNeg)) then ((P_heights (fnX2_at p1 p2 P_wide P_high).toNatClampNeg) - (P_heights (fnX2_at p3 p4 P_wide P_high).toNatClampNeg)) else 0 - ((P_heights (fnX2_at p1 p2 P_wide P_high).toNatClampNeg) - (P_heights (fnX2_at p3 p4 P_wide P_high).toNatClampNeg))) else (0 : Int32))
def prX2_difference (p1 : Int32) (p2 : Int32) (p3 : Int32) (p4 : Int32) (P_wide : Int32) (P_high : Int32) (P_heights : Nat → Int32) : Prop := ((fnX2_has p3 p4 P_wide P_high) = false → True) ∧ ((fnX2_has p3 p4 P_wide P_high) = true → vp_in (fnX2_at p1 p2 P_wide P_high) 64 ∧ vp_in (fnX2_at p3 p4 P_wide P_high) 64)
set_option maxHeartbeats 4000000 in
set_option maxRecDepth 100000 in
theorem c_X2_difference (ad : Nat → Nat) (cA : Nat → ClassId) (p1 : Int32) (p2 : Int32) (p3 : Int32) (p4 : Int32) (P_wide : Int32) (P_high : Int32) (P_heights : Nat → Int32) (hq : prX2_difference p1 p2 p3 p4 P_wide P_high P_heights) : ∀ (l : Launch) (D : va_G), gMi (S := Unit) l yX2_difference wsX2_difference rmX2_difference D (gT cA) 0 0 [.ref (ad 15), .int p1, .int p2, .int p3, .int p4] (wcX2_difference ad cA P_wide P_high P_heights) (fun r _ => r = fnX2_difference p1 p2 p3 p4 P_wide P_high P_heights) (w1X2_difference ad cA P_wide P_high P_heights) := by
  intro l D
  refine g_enteri (cc := cX2_difference) (nL := 5) (ret := (some .int)) (by decide) rfl (Nat.le_of_ble_eq_true rfl) rfl (fun X C E => sgX2_difference_0 p1 p2 p3 p4 P_wide P_high P_heights C E ?_)
  unfold prX2_difference at hq
  refine ⟨fun c_8 => ?_, fun c_8 => ?_⟩
  · replace hq := hq.1 c_8
    exact (by unfold fnX2_difference; first | rfl | (simp only [if_neg (show ¬ (fnX2_has p3 p4 P_wide P_high) = true from by rw [c_8]; decide)]; done) | (simp only [if_neg (show ¬ (fnX2_has p3 p4 P_wide P_high) = true from by rw [c_8]; decide)]; rfl))
  · replace hq := hq.2 c_8
    refine ⟨hq.1, ?_⟩
    replace hq := hq.2
    refine ⟨hq, ?_⟩
    exact (by unfold fnX2_difference; first | rfl | (simp only [if_pos c_8]; done) | (simp only [if_pos c_8]; rfl))

theorem dif_eq {w h x y : Nat} (hw : w ≤ 8) (hh : h ≤ 8) (hx : x < w) (hy : y < h) (H : Nat → Int32) : fnX2_difference (nI x) (nI y) (nI x + 1) (nI y) (nI w) (nI h) H = (if x + 1 < w then szI (H (8 * y + x) - H (8 * y + (x + 1))) else 0) ∧ prX2_difference (nI x) (nI y) (nI x + 1) (nI y) (nI w) (nI h) H := by
  have e : fnX2_has (nI (x + 1)) (nI y) (nI w) (nI h) = decide (x + 1 < w) := by
    rw [← iI_nI, ← iI_nI, has_iI (by omega) (by omega) hw hh, decide_eq_decide]; omega
  rw [nI_1]
  unfold fnX2_difference prX2_difference
  rw [e, at_eq, at_eq, nI_clamp (by omega)]
  by_cases hc : x + 1 < w
  · rw [decide_eq_true hc, if_pos rfl, if_pos hc, nI_clamp (by omega)]
    exact ⟨rfl, fun c => absurd c (by decide), fun _ => ⟨vp_in_nI (by omega) (by decide), vp_in_nI (by omega) (by decide)⟩⟩
  · rw [decide_eq_false hc, if_neg (by decide), if_neg hc]
    exact ⟨rfl, fun _ => trivial, fun c => absurd c (by decide)⟩
theorem dif_eq2 {w h x y : Nat} (hw : w ≤ 8) (hh : h ≤ 8) (hx : x < w) (hy : y < h) (H : Nat → Int32) : fnX2_difference (nI x) (nI y) (nI x) (nI y + 1) (nI w) (nI h) H = (if y + 1 < h then szI (H (8 * y + x) - H (8 * (y + 1) + x)) else 0) ∧ prX2_difference (nI x) (nI y) (nI x) (nI y + 1) (nI w) (nI h) H := by
  have e : fnX2_has (nI x) (nI (y + 1)) (nI w) (nI h) = decide (y + 1 < h) := by
    rw [← iI_nI, ← iI_nI, has_iI (by omega) (by omega) hw hh, decide_eq_decide]; omega
  rw [nI_1]
  unfold fnX2_difference prX2_difference
  rw [e, at_eq, at_eq, nI_clamp (by omega)]
  by_cases hc : y + 1 < h
  · rw [decide_eq_true hc, if_pos rfl, if_pos hc, nI_clamp (by omega)]
    exact ⟨rfl, fun c => absurd c (by decide), fun _ => ⟨vp_in_nI (by omega) (by decide), vp_in_nI (by omega) (by decide)⟩⟩
  · rw [decide_eq_false hc, if_neg (by decide), if_neg hc]
    exact ⟨rfl, fun _ => trivial, fun c => absurd c (by decide)⟩

abbrev w1X2_sumOfDifferences (ad : Nat → Nat) (cA : Nat → ClassId) (P_wide : Int32) (P_high : Int32) (P_heights : Nat → Int32) (u : Unit) : va_W := [((ad 15), .inr (2, [.ref (ad 16), .ref (ad 17), .ref (ad 18), .int P_wide, .int P_high])), ((ad 16), .inl (cA 0, 64, .inl P_heights))]
abbrev wcX2_sumOfDifferences (ad : Nat → Nat) (cA : Nat → ClassId) (P_wide : Int32) (P_high : Int32) (P_heights : Nat → Int32) : va_W := [((ad 15), .inr (2, [.ref (ad 16), .ref (ad 17), .ref (ad 18), .int P_wide, .int P_high])), ((ad 16), .inl (cA 0, 64, .inl P_heights))]
def rmX2_sumOfDifferences : Room := { frames := 2, cells := 0, slots := 0, locals := 46 }
abbrev atX2_sumOfDifferences_0 (X : gX) (ad : Nat → Nat) (cA : Nat → ClassId) (P_wide : Int32) (P_high : Int32) (P_heights : Nat → Int32) : Prop := gW X 0 0 [((ad 15), .inr (2, [.ref (ad 16), .ref (ad 17), .ref (ad 18), .int P_wide, .int P_high])), ((ad 16), .inl (cA 0, 64, .inl P_heights))] 4 [(0, .ref (ad 15))] [] 0
abbrev atX2_sumOfDifferences_4 (X : gX) (ad : Nat → Nat) (cA : Nat → ClassId) (x1 : Int32) (x2 : Int32) (P_wide : Int32) (P_high : Int32) (P_heights : Nat → Int32) : Prop := gW X 0 0 [((ad 15), .inr (2, [.ref (ad 16), .ref (ad 17), .ref (ad 18), .int P_wide, .int P_high])), ((ad 16), .inl (cA 0, 64, .inl P_heights))] 4 [(0, .ref (ad 15)), (1, .int x1), (2, .int x2)] [] 4
abbrev atX2_sumOfDifferences_14 (X : gX) (ad : Nat → Nat) (cA : Nat → ClassId) (x1 : Int32) (x2 : Int32) (x3 : Int32) (P_wide : Int32) (P_high : Int32) (P_heights : Nat → Int32) : Prop := gW X 0 0 [((ad 15), .inr (2, [.ref (ad 16), .ref (ad 17), .ref (ad 18), .int P_wide, .int P_high])), ((ad 16), .inl (cA 0, 64, .inl P_heights))] 4 [(0, .ref (ad 15)), (1, .int x1), (2, .int x2), (3, .int x3)] [] 14
theorem giX2_sumOfDifferences_X2 : ∀ w ∈ u_ws RX2 TX2 5, w ∈ wsX2_sumOfDifferences := by decide +kernel
theorem gfX2_sumOfDifferences_26 : gF wsX2_sumOfDifferences RX2 26 2 4 RX2 TX2 5 := ⟨giX2_sumOfDifferences_X2, by decide +kernel, rfl, by decide⟩
theorem gfX2_sumOfDifferences_22 : gF wsX2_sumOfDifferences RX2 22 2 3 RX2 TX2 5 := ⟨giX2_sumOfDifferences_X2, by decide +kernel, rfl, by decide⟩
set_option maxHeartbeats 4000000 in
set_option maxRecDepth 100000 in
theorem sgX2_sumOfDifferences_0 {X : gX} {ad : Nat → Nat} {cA : Nat → ClassId} {post : Int32 → (Unit) → Prop} (P_wide : Int32) (P_high : Int32) (P_heights : Nat → Int32) (C : gC X (gT cA) cX2_sumOfDifferences 4 RX2 wsX2_sumOfDifferences rmX2_sumOfDifferences) (E : gEi X (some .int) (gT cA) 0 0 post (w1X2_sumOfDifferences ad cA P_wide P_high P_heights)) (h : atX2_sumOfDifferences_4 X ad cA (0 : Int32) (0 : Int32) P_wide P_high P_heights) : atX2_sumOfDifferences_0 X ad cA P_wide P_high P_heights := by
  refine g_iconst C dX2_sumOfDifferences_0 ik_0 ?_
  refine g_istore_n (lv2 := [(0, .ref (ad 15)), (1, .int (0 : Int32))]) C dX2_sumOfDifferences_1 rfl (by decide) [1, 0] rfl ?_
  refine g_iconst C dX2_sumOfDifferences_2 ik_0 ?_
  refine g_istore_n (lv2 := [(0, .ref (ad 15)), (1, .int (0 : Int32)), (2, .int (0 : Int32))]) C dX2_sumOfDifferences_3 rfl (by decide) [1, 2, 0] rfl ?_
  exact g_lv [0, 1, 2] rfl h
set_option maxHeartbeats 4000000 in
set_option maxRecDepth 100000 in
theorem sgX2_sumOfDifferences_4 {X : gX} {ad : Nat → Nat} {cA : Nat → ClassId} {post : Int32 → (Unit) → Prop} (x1 : Int32) (x2 : Int32) (P_wide : Int32) (P_high : Int32) (P_heights : Nat → Int32) (C : gC X (gT cA) cX2_sumOfDifferences 4 RX2 wsX2_sumOfDifferences rmX2_sumOfDifferences) (E : gEi X (some .int) (gT cA) 0 0 post (w1X2_sumOfDifferences ad cA P_wide P_high P_heights)) (h : (P_high ≤ x2 → post x1 ()) ∧ (¬ P_high ≤ x2 → atX2_sumOfDifferences_14 X ad cA x1 x2 (0 : Int32) P_wide P_high P_heights)) : atX2_sumOfDifferences_4 X ad cA x1 x2 P_wide P_high P_heights := by
  refine g_iload_n C dX2_sumOfDifferences_4 rfl 2 rfl ?_
  refine g_aload_n C dX2_sumOfDifferences_5 rfl 0 rfl ?_
  refine g_get C gfX2_sumOfDifferences_26 0 rfl rfl dX2_sumOfDifferences_6 ?_
  refine g_icmp_ge (tgt := 58) C dX2_sumOfDifferences_9 (by decide) (fun c_1 => ?_) (fun c_1 => ?_)
  · replace h := h.1 c_1
    refine g_iload_n C dX2_sumOfDifferences_58 rfl 1 rfl ?_
    exact g_iret C E () h rfl dX2_sumOfDifferences_59
  · replace h := h.2 c_1
    refine g_iconst C dX2_sumOfDifferences_12 ik_0 ?_
    refine g_istore_n (lv2 := [(0, .ref (ad 15)), (1, .int x1), (2, .int x2), (3, .int (0 : Int32))]) C dX2_sumOfDifferences_13 rfl (by decide) [1, 2, 3, 0] rfl ?_
    exact g_lv [0, 1, 2, 3] rfl h
set_option maxHeartbeats 4000000 in
set_option maxRecDepth 100000 in
theorem sgX2_sumOfDifferences_14 {X : gX} {ad : Nat → Nat} {cA : Nat → ClassId} {post : Int32 → (Unit) → Prop} (x1 : Int32) (x2 : Int32) (x3 : Int32) (P_wide : Int32) (P_high : Int32) (P_heights : Nat → Int32) (C : gC X (gT cA) cX2_sumOfDifferences 4 RX2 wsX2_sumOfDifferences rmX2_sumOfDifferences) (E : gEi X (some .int) (gT cA) 0 0 post (w1X2_sumOfDifferences ad cA P_wide P_high P_heights)) (h : (P_wide ≤ x3 → atX2_sumOfDifferences_4 X ad cA x1 (x2 + 1) P_wide P_high P_heights) ∧ (¬ P_wide ≤ x3 → prX2_difference x3 x2 (x3 + (1 : Int32)) x2 P_wide P_high P_heights ∧ prX2_difference x3 x2 x3 (x2 + (1 : Int32)) P_wide P_high P_heights ∧ ∀ x1_7 : Int32, x1_7 = (x1 + ((fnX2_difference x3 x2 (x3 + (1 : Int32)) x2 P_wide P_high P_heights) + (fnX2_difference x3 x2 x3 (x2 + (1 : Int32)) P_wide P_high P_heights))) → atX2_sumOfDifferences_14 X ad cA x1_7 x2 (x3 + 1) P_wide P_high P_heights)) : atX2_sumOfDifferences_14 X ad cA x1 x2 x3 P_wide P_high P_heights := by
  refine g_iload_n C dX2_sumOfDifferences_14 rfl 3 rfl ?_
  refine g_aload_n C dX2_sumOfDifferences_15 rfl 0 rfl ?_
  refine g_get C gfX2_sumOfDifferences_22 0 rfl rfl dX2_sumOfDifferences_16 ?_
  refine g_icmp_ge (tgt := 52) C dX2_sumOfDifferences_19 (by decide) (fun c_2 => ?_) (fun c_2 => ?_)
  · replace h := h.1 c_2
    refine g_iinc (v := (x2 + 1)) (lv2 := [(0, .ref (ad 15)), (1, .int x1), (2, .int (x2 + 1)), (3, .int x3)]) C dX2_sumOfDifferences_52 2 rfl (by first | rfl | decide) (by decide) [1, 2, 0, 3] rfl ?_
    refine g_goto (tgt := 4) C dX2_sumOfDifferences_55 (by decide) ?_
    exact g_lv [0, 1, 2] rfl h
  · replace h := h.2 c_2
    refine g_iload_n C dX2_sumOfDifferences_22 rfl 1 rfl ?_
    refine g_aload_n C dX2_sumOfDifferences_23 rfl 0 rfl ?_
    refine g_iload_n C dX2_sumOfDifferences_24 rfl 3 rfl ?_
    refine g_iload_n C dX2_sumOfDifferences_25 rfl 2 rfl ?_
    refine g_iload_n C dX2_sumOfDifferences_26 rfl 3 rfl ?_
    refine g_iconst C dX2_sumOfDifferences_27 ik_1 ?_
    refine g_iadd C dX2_sumOfDifferences_28 ?_
    refine g_iload_n C dX2_sumOfDifferences_29 rfl 2 rfl ?_
    obtain ⟨hi_3, h⟩ := h
    refine g_callVi (wr := []) C (c_X2_difference ad cA x3 x2 (x3 + (1 : Int32)) x2 P_wide P_high P_heights hi_3) gX2_sumOfDifferences_X2_difference rfl hde_X2_difference ⟨rfl, rfl⟩ (by decide) (by decide) [0, 1] [] [0, 1] rfl rfl rfl rfl (by decide) rfl (ws2 := fun u => [((ad 15), .inr (2, [.ref (ad 16), .ref (ad 17), .ref (ad 18), .int P_wide, .int P_high])), ((ad 16), .inl (cA 0, 64, .inl P_heights))]) (fun _ => rfl) 2 0 rfl rfl rfl (rest := [.int x1]) rfl (Nat.le_of_ble_eq_true rfl) dX2_sumOfDifferences_30 (fun r_4 u_4 hp_4 => ?_)
    subst hp_4
    change gW X 0 0 [((ad 15), .inr (2, [.ref (ad 16), .ref (ad 17), .ref (ad 18), .int P_wide, .int P_high])), ((ad 16), .inl (cA 0, 64, .inl P_heights))] 4 [(0, .ref (ad 15)), (1, .int x1), (2, .int x2), (3, .int x3)] [.int (fnX2_difference x3 x2 (x3 + (1 : Int32)) x2 P_wide P_high P_heights), .int x1] 33
    refine g_aload_n C dX2_sumOfDifferences_33 rfl 0 rfl ?_
    refine g_iload_n C dX2_sumOfDifferences_34 rfl 3 rfl ?_
    refine g_iload_n C dX2_sumOfDifferences_35 rfl 2 rfl ?_
    refine g_iload_n C dX2_sumOfDifferences_36 rfl 3 rfl ?_
    refine g_iload_n C dX2_sumOfDifferences_37 rfl 2 rfl ?_
    refine g_iconst C dX2_sumOfDifferences_38 ik_1 ?_
    refine g_iadd C dX2_sumOfDifferences_39 ?_
    obtain ⟨hi_5, h⟩ := h
    refine g_callVi (wr := []) C (c_X2_difference ad cA x3 x2 x3 (x2 + (1 : Int32)) P_wide P_high P_heights hi_5) gX2_sumOfDifferences_X2_difference rfl hde_X2_difference ⟨rfl, rfl⟩ (by decide) (by decide) [0, 1] [] [0, 1] rfl rfl rfl rfl (by decide) rfl (ws2 := fun u => [((ad 15), .inr (2, [.ref (ad 16), .ref (ad 17), .ref (ad 18), .int P_wide, .int P_high])), ((ad 16), .inl (cA 0, 64, .inl P_heights))]) (fun _ => rfl) 2 0 rfl rfl rfl (rest := [.int (fnX2_difference x3 x2 (x3 + (1 : Int32)) x2 P_wide P_high P_heights), .int x1]) rfl (Nat.le_of_ble_eq_true rfl) dX2_sumOfDifferences_40 (fun r_6 u_6 hp_6 => ?_)
    subst hp_6
    change gW X 0 0 [((ad 15), .inr (2, [.ref (ad 16), .ref (ad 17), .ref (ad 18), .int P_wide, .int P_high])), ((ad 16), .inl (cA 0, 64, .inl P_heights))] 4 [(0, .ref (ad 15)), (1, .int x1), (2, .int x2), (3, .int x3)] [.int (fnX2_difference x3 x2 x3 (x2 + (1 : Int32)) P_wide P_high P_heights), .int (fnX2_difference x3 x2 (x3 + (1 : Int32)) x2 P_wide P_high P_heights), .int x1] 43
    refine g_iadd C dX2_sumOfDifferences_43 ?_
    refine g_iadd C dX2_sumOfDifferences_44 ?_
    refine g_topi (fun x1_7 ex1_7 => ?_)
    replace h := h x1_7 ex1_7
    refine g_istore_n (lv2 := [(0, .ref (ad 15)), (1, .int x1_7), (2, .int x2), (3, .int x3)]) C dX2_sumOfDifferences_45 rfl (by decide) [1, 0, 2, 3] rfl ?_
    refine g_iinc (v := (x3 + 1)) (lv2 := [(0, .ref (ad 15)), (1, .int x1_7), (2, .int x2), (3, .int (x3 + 1))]) C dX2_sumOfDifferences_46 3 rfl (by first | rfl | decide) (by decide) [1, 2, 3, 0] rfl ?_
    refine g_goto (tgt := 14) C dX2_sumOfDifferences_49 (by decide) ?_
    exact g_lv [0, 1, 2, 3] rfl h
def prX2_sumOfDifferences (P_wide : Int32) (P_high : Int32) (P_heights : Nat → Int32) : Prop := netOK P_wide P_high
set_option maxHeartbeats 4000000 in
set_option maxRecDepth 100000 in
theorem c_X2_sumOfDifferences (ad : Nat → Nat) (cA : Nat → ClassId) (P_wide : Int32) (P_high : Int32) (P_heights : Nat → Int32) (hq : prX2_sumOfDifferences P_wide P_high P_heights) : ∀ (l : Launch) (D : va_G), gMi (S := Unit) l yX2_sumOfDifferences wsX2_sumOfDifferences rmX2_sumOfDifferences D (gT cA) 0 0 [.ref (ad 15)] (wcX2_sumOfDifferences ad cA P_wide P_high P_heights) (fun r _ => r = drw P_wide.toNatClampNeg P_high.toNatClampNeg P_heights) (w1X2_sumOfDifferences ad cA P_wide P_high P_heights) := by
  intro l D
  unfold prX2_sumOfDifferences at hq
  refine g_enteri (cc := cX2_sumOfDifferences) (nL := 4) (ret := (some .int)) (by decide) rfl (Nat.le_of_ble_eq_true rfl) rfl (fun X C E => ?_)
  obtain ⟨w, h, hw2, hw, hh2, hh, rfl, rfl⟩ := hq
  rw [nI_clamp (by omega), nI_clamp (by omega)] at E
  refine sgX2_sumOfDifferences_0 _ _ _ C E ?_
  unfold drw sum2 at E
  generalize ht : (fun (y x : Nat) => (if x + 1 < w then szI (P_heights (8 * y + x) - P_heights (8 * y + (x + 1))) else 0) + (if y + 1 < h then szI (P_heights (8 * y + x) - P_heights (8 * (y + 1) + x)) else 0)) = t at E
  have outer : ∀ y, y ≤ h → atX2_sumOfDifferences_4 X ad cA (sumI (fun y => sumI (t y) w) y) (nI y) (nI w) (nI h) P_heights := by
    intro y hy
    refine up_loop (P := fun y => atX2_sumOfDifferences_4 X ad cA (sumI (fun y => sumI (t y) w) y) (nI y) (nI w) (nI h) P_heights) h ?_ (fun y hy ih => ?_) y hy
    · exact sgX2_sumOfDifferences_4 _ _ _ _ _ C E ⟨fun _ => by rw [← ht], fun c => absurd (i32_le_refl _) c⟩
    · refine sgX2_sumOfDifferences_4 _ _ _ _ _ C E ⟨fun c => absurd c (nI_ge hy (by omega)), fun _ => ?_⟩
      have inner : ∀ x, x ≤ w → atX2_sumOfDifferences_14 X ad cA (sumI (fun y => sumI (t y) w) y + sumI (t y) x) (nI y) (nI x) (nI w) (nI h) P_heights := by
        intro x hx
        refine up_loop (P := fun x => atX2_sumOfDifferences_14 X ad cA (sumI (fun y => sumI (t y) w) y + sumI (t y) x) (nI y) (nI x) (nI w) (nI h) P_heights) w ?_ (fun x hx ih2 => ?_) x hx
        · refine sgX2_sumOfDifferences_14 _ _ _ _ _ _ C E ⟨fun _ => ?_, fun c => absurd (i32_le_refl _) c⟩
          rw [nI_1]; exact ih
        · obtain ⟨d1, d2⟩ := dif_eq hw hh hx hy P_heights
          obtain ⟨d3, d4⟩ := dif_eq2 hw hh hx hy P_heights
          refine sgX2_sumOfDifferences_14 _ _ _ _ _ _ C E ⟨fun c => absurd c (nI_ge hx (by omega)), fun _ => ⟨d2, d4, fun v ev => ?_⟩⟩
          rw [d1, d3] at ev
          rw [nI_1, ev]
          have e2 : sumI (fun y => sumI (t y) w) y + sumI (t y) x + ((if x + 1 < w then szI (P_heights (8 * y + x) - P_heights (8 * y + (x + 1))) else 0) + (if y + 1 < h then szI (P_heights (8 * y + x) - P_heights (8 * (y + 1) + x)) else 0)) = sumI (fun y => sumI (t y) w) y + sumI (t y) (x + 1) := by
            rw [sumI, ← ht, Int32.add_assoc]
          rw [e2]; exact ih2
      have := inner 0 (Nat.zero_le _)
      rw [sumI, Int32.add_zero] at this
      exact this
  exact outer 0 (Nat.zero_le _)


abbrev w1X2_sumOfChanges (ad : Nat → Nat) (cA : Nat → ClassId) (P_wide : Int32) (P_high : Int32) (P_heights : Nat → Int32) (P_pinned : Nat → Int32) (u : (Nat → Int32)) : va_W := [((ad 15), .inr (2, [.ref (ad 16), .ref (ad 17), .ref (ad 18), .int P_wide, .int P_high])), ((ad 16), .inl (cA 0, 64, .inl P_heights)), ((ad 17), .inl (cA 2, 64, .inl P_pinned)), ((ad 18), .inl (cA 0, 4, .inl u))]
abbrev wcX2_sumOfChanges (ad : Nat → Nat) (cA : Nat → ClassId) (P_wide : Int32) (P_high : Int32) (P_heights : Nat → Int32) (P_pinned : Nat → Int32) (P_near : Nat → Int32) : va_W := [((ad 15), .inr (2, [.ref (ad 16), .ref (ad 17), .ref (ad 18), .int P_wide, .int P_high])), ((ad 16), .inl (cA 0, 64, .inl P_heights)), ((ad 17), .inl (cA 2, 64, .inl P_pinned)), ((ad 18), .inl (cA 0, 4, .inl P_near))]
def rmX2_sumOfChanges : Room := { frames := 3, cells := 0, slots := 0, locals := 73 }
abbrev atX2_sumOfChanges_0 (X : gX) (ad : Nat → Nat) (cA : Nat → ClassId) (P_wide : Int32) (P_high : Int32) (P_heights : Nat → Int32) (P_pinned : Nat → Int32) (P_near : Nat → Int32) : Prop := gW X 0 0 [((ad 15), .inr (2, [.ref (ad 16), .ref (ad 17), .ref (ad 18), .int P_wide, .int P_high])), ((ad 16), .inl (cA 0, 64, .inl P_heights)), ((ad 17), .inl (cA 2, 64, .inl P_pinned)), ((ad 18), .inl (cA 0, 4, .inl P_near))] 4 [(0, .ref (ad 15))] [] 0
abbrev atX2_sumOfChanges_4 (X : gX) (ad : Nat → Nat) (cA : Nat → ClassId) (x1 : Int32) (x2 : Int32) (P_wide : Int32) (P_high : Int32) (P_heights : Nat → Int32) (P_pinned : Nat → Int32) (P_near : Nat → Int32) : Prop := gW X 0 0 [((ad 15), .inr (2, [.ref (ad 16), .ref (ad 17), .ref (ad 18), .int P_wide, .int P_high])), ((ad 16), .inl (cA 0, 64, .inl P_heights)), ((ad 17), .inl (cA 2, 64, .inl P_pinned)), ((ad 18), .inl (cA 0, 4, .inl P_near))] 4 [(0, .ref (ad 15)), (1, .int x1), (2, .int x2)] [] 4
abbrev atX2_sumOfChanges_14 (X : gX) (ad : Nat → Nat) (cA : Nat → ClassId) (x1 : Int32) (x2 : Int32) (x3 : Int32) (P_wide : Int32) (P_high : Int32) (P_heights : Nat → Int32) (P_pinned : Nat → Int32) (P_near : Nat → Int32) : Prop := gW X 0 0 [((ad 15), .inr (2, [.ref (ad 16), .ref (ad 17), .ref (ad 18), .int P_wide, .int P_high])), ((ad 16), .inl (cA 0, 64, .inl P_heights)), ((ad 17), .inl (cA 2, 64, .inl P_pinned)), ((ad 18), .inl (cA 0, 4, .inl P_near))] 4 [(0, .ref (ad 15)), (1, .int x1), (2, .int x2), (3, .int x3)] [] 14
theorem mmX2_sumOfChanges_51a : Cond.methodLink RX2 51 Lib.Math.abs.name ∈ wsX2_sumOfChanges := by decide +kernel
theorem mmX2_sumOfChanges_51b : Cond.static Lib.Math.abs.name ∈ wsX2_sumOfChanges := by decide +kernel
theorem mmX2_sumOfChanges_51c : Cond.initialized "java/lang/Math" ∈ wsX2_sumOfChanges := by decide +kernel
theorem mmX2_sumOfChanges_51d : Cond.code Lib.Math.abs.name Lib.Math.abs.code 1 (some .int) ∈ wsX2_sumOfChanges := by decide +kernel
theorem giX2_sumOfChanges_X2 : ∀ w ∈ u_ws RX2 TX2 5, w ∈ wsX2_sumOfChanges := by decide +kernel
theorem gfX2_sumOfChanges_26 : gF wsX2_sumOfChanges RX2 26 2 4 RX2 TX2 5 := ⟨giX2_sumOfChanges_X2, by decide +kernel, rfl, by decide⟩
theorem gfX2_sumOfChanges_22 : gF wsX2_sumOfChanges RX2 22 2 3 RX2 TX2 5 := ⟨giX2_sumOfChanges_X2, by decide +kernel, rfl, by decide⟩
theorem gfX2_sumOfChanges_9 : gF wsX2_sumOfChanges RX2 9 2 0 RX2 TX2 5 := ⟨giX2_sumOfChanges_X2, by decide +kernel, rfl, by decide⟩
set_option maxHeartbeats 4000000 in
set_option maxRecDepth 100000 in
theorem sgX2_sumOfChanges_0 {X : gX} {ad : Nat → Nat} {cA : Nat → ClassId} {post : Int32 → ((Nat → Int32)) → Prop} (P_wide : Int32) (P_high : Int32) (P_heights : Nat → Int32) (P_pinned : Nat → Int32) (P_near : Nat → Int32) (C : gC X (gT cA) cX2_sumOfChanges 4 RX2 wsX2_sumOfChanges rmX2_sumOfChanges) (E : gEi X (some .int) (gT cA) 0 0 post (w1X2_sumOfChanges ad cA P_wide P_high P_heights P_pinned)) (h : atX2_sumOfChanges_4 X ad cA (0 : Int32) (0 : Int32) P_wide P_high P_heights P_pinned P_near) : atX2_sumOfChanges_0 X ad cA P_wide P_high P_heights P_pinned P_near := by
  refine g_iconst C dX2_sumOfChanges_0 ik_0 ?_
  refine g_istore_n (lv2 := [(0, .ref (ad 15)), (1, .int (0 : Int32))]) C dX2_sumOfChanges_1 rfl (by decide) [1, 0] rfl ?_
  refine g_iconst C dX2_sumOfChanges_2 ik_0 ?_
  refine g_istore_n (lv2 := [(0, .ref (ad 15)), (1, .int (0 : Int32)), (2, .int (0 : Int32))]) C dX2_sumOfChanges_3 rfl (by decide) [1, 2, 0] rfl ?_
  exact g_lv [0, 1, 2] rfl h
set_option maxHeartbeats 4000000 in
set_option maxRecDepth 100000 in
theorem sgX2_sumOfChanges_4 {X : gX} {ad : Nat → Nat} {cA : Nat → ClassId} {post : Int32 → ((Nat → Int32)) → Prop} (x1 : Int32) (x2 : Int32) (P_wide : Int32) (P_high : Int32) (P_heights : Nat → Int32) (P_pinned : Nat → Int32) (P_near : Nat → Int32) (C : gC X (gT cA) cX2_sumOfChanges 4 RX2 wsX2_sumOfChanges rmX2_sumOfChanges) (E : gEi X (some .int) (gT cA) 0 0 post (w1X2_sumOfChanges ad cA P_wide P_high P_heights P_pinned)) (h : (P_high ≤ x2 → post x1 P_near) ∧ (¬ P_high ≤ x2 → atX2_sumOfChanges_14 X ad cA x1 x2 (0 : Int32) P_wide P_high P_heights P_pinned P_near)) : atX2_sumOfChanges_4 X ad cA x1 x2 P_wide P_high P_heights P_pinned P_near := by
  refine g_iload_n C dX2_sumOfChanges_4 rfl 2 rfl ?_
  refine g_aload_n C dX2_sumOfChanges_5 rfl 0 rfl ?_
  refine g_get C gfX2_sumOfChanges_26 0 rfl rfl dX2_sumOfChanges_6 ?_
  refine g_icmp_ge (tgt := 58) C dX2_sumOfChanges_9 (by decide) (fun c_1 => ?_) (fun c_1 => ?_)
  · replace h := h.1 c_1
    refine g_iload_n C dX2_sumOfChanges_58 rfl 1 rfl ?_
    exact g_iret C E P_near h rfl dX2_sumOfChanges_59
  · replace h := h.2 c_1
    refine g_iconst C dX2_sumOfChanges_12 ik_0 ?_
    refine g_istore_n (lv2 := [(0, .ref (ad 15)), (1, .int x1), (2, .int x2), (3, .int (0 : Int32))]) C dX2_sumOfChanges_13 rfl (by decide) [1, 2, 3, 0] rfl ?_
    exact g_lv [0, 1, 2, 3] rfl h
set_option maxHeartbeats 4000000 in
set_option maxRecDepth 100000 in
theorem sgX2_sumOfChanges_14 {X : gX} {ad : Nat → Nat} {cA : Nat → ClassId} {post : Int32 → ((Nat → Int32)) → Prop} (x1 : Int32) (x2 : Int32) (x3 : Int32) (P_wide : Int32) (P_high : Int32) (P_heights : Nat → Int32) (P_pinned : Nat → Int32) (P_near : Nat → Int32) (C : gC X (gT cA) cX2_sumOfChanges 4 RX2 wsX2_sumOfChanges rmX2_sumOfChanges) (E : gEi X (some .int) (gT cA) 0 0 post (w1X2_sumOfChanges ad cA P_wide P_high P_heights P_pinned)) (h : (P_wide ≤ x3 → atX2_sumOfChanges_4 X ad cA x1 (x2 + 1) P_wide P_high P_heights P_pinned P_near) ∧ (¬ P_wide ≤ x3 → prX2_stepped x3 x2 P_wide P_high P_heights P_pinned P_near ∧ ∀ (r_4 : Int32) (u4_P_near : Nat → Int32), po_X2_stepped ad cA x3 x2 P_wide P_high P_heights P_pinned P_near r_4 u4_P_near → vp_in (fnX2_at x3 x2 P_wide P_high) 64 ∧ ∀ x1_7 : Int32, x1_7 = (x1 + (if 0 ≤ (r_4 - (P_heights (fnX2_at x3 x2 P_wide P_high).toNatClampNeg)) then (r_4 - (P_heights (fnX2_at x3 x2 P_wide P_high).toNatClampNeg)) else 0 - (r_4 - (P_heights (fnX2_at x3 x2 P_wide P_high).toNatClampNeg)))) → atX2_sumOfChanges_14 X ad cA x1_7 x2 (x3 + 1) P_wide P_high P_heights P_pinned u4_P_near)) : atX2_sumOfChanges_14 X ad cA x1 x2 x3 P_wide P_high P_heights P_pinned P_near := by
  refine g_iload_n C dX2_sumOfChanges_14 rfl 3 rfl ?_
  refine g_aload_n C dX2_sumOfChanges_15 rfl 0 rfl ?_
  refine g_get C gfX2_sumOfChanges_22 0 rfl rfl dX2_sumOfChanges_16 ?_
  refine g_icmp_ge (tgt := 52) C dX2_sumOfChanges_19 (by decide) (fun c_2 => ?_) (fun c_2 => ?_)
  · replace h := h.1 c_2
    refine g_iinc (v := (x2 + 1)) (lv2 := [(0, .ref (ad 15)), (1, .int x1), (2, .int (x2 + 1)), (3, .int x3)]) C dX2_sumOfChanges_52 2 rfl (by first | rfl | decide) (by decide) [1, 2, 0, 3] rfl ?_
    refine g_goto (tgt := 4) C dX2_sumOfChanges_55 (by decide) ?_
    exact g_lv [0, 1, 2] rfl h
  · replace h := h.2 c_2
    refine g_iload_n C dX2_sumOfChanges_22 rfl 1 rfl ?_
    refine g_aload_n C dX2_sumOfChanges_23 rfl 0 rfl ?_
    refine g_iload_n C dX2_sumOfChanges_24 rfl 3 rfl ?_
    refine g_iload_n C dX2_sumOfChanges_25 rfl 2 rfl ?_
    obtain ⟨hi_3, h⟩ := h
    refine g_callVi (wr := []) C (c_X2_stepped ad cA x3 x2 P_wide P_high P_heights P_pinned P_near hi_3) gX2_sumOfChanges_X2_stepped rfl hde_X2_stepped ⟨rfl, rfl⟩ (by decide) (by decide) [0, 1, 2, 3] [] [0, 1, 2, 3] rfl rfl rfl rfl (by decide) rfl (ws2 := fun u => [((ad 15), .inr (2, [.ref (ad 16), .ref (ad 17), .ref (ad 18), .int P_wide, .int P_high])), ((ad 16), .inl (cA 0, 64, .inl P_heights)), ((ad 17), .inl (cA 2, 64, .inl P_pinned)), ((ad 18), .inl (cA 0, 4, .inl u))]) (fun _ => rfl) 2 0 rfl rfl rfl (rest := [.int x1]) rfl (Nat.le_of_ble_eq_true rfl) dX2_sumOfChanges_26 (fun r_4 u_4 hp_4 => ?_)
    obtain ⟨u4_P_near, rfl⟩ : ∃ z, z = u_4 := ⟨_, rfl⟩
    replace h := h r_4 u4_P_near hp_4
    change gW X 0 0 [((ad 15), .inr (2, [.ref (ad 16), .ref (ad 17), .ref (ad 18), .int P_wide, .int P_high])), ((ad 16), .inl (cA 0, 64, .inl P_heights)), ((ad 17), .inl (cA 2, 64, .inl P_pinned)), ((ad 18), .inl (cA 0, 4, .inl u4_P_near))] 4 [(0, .ref (ad 15)), (1, .int x1), (2, .int x2), (3, .int x3)] [.int r_4, .int x1] 29
    refine g_aload_n C dX2_sumOfChanges_29 rfl 0 rfl ?_
    refine g_get C gfX2_sumOfChanges_9 0 rfl rfl dX2_sumOfChanges_30 ?_
    refine g_aload_n C dX2_sumOfChanges_33 rfl 0 rfl ?_
    refine g_iload_n C dX2_sumOfChanges_34 rfl 3 rfl ?_
    refine g_iload_n C dX2_sumOfChanges_35 rfl 2 rfl ?_
    refine g_callVi (wr := [((ad 16), .inl (cA 0, 64, .inl P_heights)), ((ad 17), .inl (cA 2, 64, .inl P_pinned)), ((ad 18), .inl (cA 0, 4, .inl u4_P_near))]) C (c_X2_at ad cA x3 x2 P_wide P_high) gX2_sumOfChanges_X2_at rfl hde_X2_at ⟨rfl, rfl⟩ (by decide) (by decide) [0] [1, 2, 3] [3, 0, 1, 2] rfl rfl rfl rfl (by decide) rfl (ws2 := fun u => [((ad 15), .inr (2, [.ref (ad 16), .ref (ad 17), .ref (ad 18), .int P_wide, .int P_high])), ((ad 16), .inl (cA 0, 64, .inl P_heights)), ((ad 17), .inl (cA 2, 64, .inl P_pinned)), ((ad 18), .inl (cA 0, 4, .inl u4_P_near))]) (fun _ => rfl) 2 0 rfl rfl rfl (rest := [.ref (ad 16), .int r_4, .int x1]) rfl (Nat.le_of_ble_eq_true rfl) dX2_sumOfChanges_36 (fun r_5 u_5 hp_5 => ?_)
    subst hp_5
    change gW X 0 0 [((ad 15), .inr (2, [.ref (ad 16), .ref (ad 17), .ref (ad 18), .int P_wide, .int P_high])), ((ad 16), .inl (cA 0, 64, .inl P_heights)), ((ad 17), .inl (cA 2, 64, .inl P_pinned)), ((ad 18), .inl (cA 0, 4, .inl u4_P_near))] 4 [(0, .ref (ad 15)), (1, .int x1), (2, .int x2), (3, .int x3)] [.int (fnX2_at x3 x2 P_wide P_high), .ref (ad 16), .int r_4, .int x1] 39
    obtain ⟨hi_6, h⟩ := h
    refine g_iald C 1 0 rfl rfl hi_6 dX2_sumOfChanges_39 ?_
    refine g_isub C dX2_sumOfChanges_40 ?_
    refine g_mabs C mmX2_sumOfChanges_51a mmX2_sumOfChanges_51b mmX2_sumOfChanges_51c mmX2_sumOfChanges_51d (by decide) (Nat.le_of_ble_eq_true rfl) (by decide) (by decide) dX2_sumOfChanges_41 ?_
    refine g_iadd C dX2_sumOfChanges_44 ?_
    refine g_topi (fun x1_7 ex1_7 => ?_)
    replace h := h x1_7 ex1_7
    refine g_istore_n (lv2 := [(0, .ref (ad 15)), (1, .int x1_7), (2, .int x2), (3, .int x3)]) C dX2_sumOfChanges_45 rfl (by decide) [1, 0, 2, 3] rfl ?_
    refine g_iinc (v := (x3 + 1)) (lv2 := [(0, .ref (ad 15)), (1, .int x1_7), (2, .int x2), (3, .int (x3 + 1))]) C dX2_sumOfChanges_46 3 rfl (by first | rfl | decide) (by decide) [1, 2, 3, 0] rfl ?_
    refine g_goto (tgt := 14) C dX2_sumOfChanges_49 (by decide) ?_
    exact g_lv [0, 1, 2, 3] rfl h
def prX2_sumOfChanges (P_wide : Int32) (P_high : Int32) (P_heights : Nat → Int32) (P_pinned : Nat → Int32) (P_near : Nat → Int32) : Prop := netOK P_wide P_high
def po_X2_sumOfChanges (ad : Nat → Nat) (cA : Nat → ClassId) (P_wide : Int32) (P_high : Int32) (P_heights : Nat → Int32) (P_pinned : Nat → Int32) (P_near : Nat → Int32) (r : Int32) (u : (Nat → Int32)) : Prop := r = chg P_wide.toNatClampNeg P_high.toNatClampNeg P_pinned P_heights
set_option maxHeartbeats 4000000 in
set_option maxRecDepth 100000 in
theorem c_X2_sumOfChanges (ad : Nat → Nat) (cA : Nat → ClassId) (P_wide : Int32) (P_high : Int32) (P_heights : Nat → Int32) (P_pinned : Nat → Int32) (P_near : Nat → Int32) (hq : prX2_sumOfChanges P_wide P_high P_heights P_pinned P_near) : ∀ (l : Launch) (D : va_G), gMi (S := (Nat → Int32)) l yX2_sumOfChanges wsX2_sumOfChanges rmX2_sumOfChanges D (gT cA) 0 0 [.ref (ad 15)] (wcX2_sumOfChanges ad cA P_wide P_high P_heights P_pinned P_near) (po_X2_sumOfChanges ad cA P_wide P_high P_heights P_pinned P_near) (w1X2_sumOfChanges ad cA P_wide P_high P_heights P_pinned) := by
  intro l D
  unfold prX2_sumOfChanges at hq
  refine g_enteri (cc := cX2_sumOfChanges) (nL := 4) (ret := (some .int)) (by decide) rfl (Nat.le_of_ble_eq_true rfl) rfl (fun X C E => ?_)
  obtain ⟨w, h, hw2, hw, hh2, hh, rfl, rfl⟩ := hq
  have hpo : ∀ (r : Int32) (u : Nat → Int32), r = chg w h P_pinned P_heights → po_X2_sumOfChanges ad cA (nI w) (nI h) P_heights P_pinned P_near r u := fun r u e => by
    unfold po_X2_sumOfChanges
    rw [nI_clamp (by omega), nI_clamp (by omega)]; exact e
  refine sgX2_sumOfChanges_0 _ _ _ _ _ C E ?_
  unfold chg sum2 at hpo
  generalize ht : (fun (y x : Nat) => szI (stp w h P_pinned P_heights x y - P_heights (8 * y + x))) = t at hpo
  have outer : ∀ y, y ≤ h → ∀ nr, atX2_sumOfChanges_4 X ad cA (sumI (fun y => sumI (t y) w) y) (nI y) (nI w) (nI h) P_heights P_pinned nr := by
    intro y hy
    refine up_loop (P := fun y => ∀ nr, atX2_sumOfChanges_4 X ad cA (sumI (fun y => sumI (t y) w) y) (nI y) (nI w) (nI h) P_heights P_pinned nr) h ?_ (fun y hy ih nr => ?_) y hy
    · exact fun nr => sgX2_sumOfChanges_4 _ _ _ _ _ _ _ C E ⟨fun _ => hpo _ _ (by rw [← ht]), fun c => absurd (i32_le_refl _) c⟩
    · refine sgX2_sumOfChanges_4 _ _ _ _ _ _ _ C E ⟨fun c => absurd c (nI_ge hy (by omega)), fun _ => ?_⟩
      have inner : ∀ x, x ≤ w → ∀ nr, atX2_sumOfChanges_14 X ad cA (sumI (fun y => sumI (t y) w) y + sumI (t y) x) (nI y) (nI x) (nI w) (nI h) P_heights P_pinned nr := by
        intro x hx
        refine up_loop (P := fun x => ∀ nr, atX2_sumOfChanges_14 X ad cA (sumI (fun y => sumI (t y) w) y + sumI (t y) x) (nI y) (nI x) (nI w) (nI h) P_heights P_pinned nr) w ?_ (fun x hx ih2 nr => ?_) x hx
        · refine fun nr => sgX2_sumOfChanges_14 _ _ _ _ _ _ _ _ C E ⟨fun _ => ?_, fun c => absurd (i32_le_refl _) c⟩
          rw [nI_1]; exact ih nr
        · refine sgX2_sumOfChanges_14 _ _ _ _ _ _ _ _ C E ⟨fun c => absurd c (nI_ge hx (by omega)), fun _ => ⟨⟨w, h, x, y, hw2, hw, hh2, hh, rfl, rfl, hx, hy, rfl, rfl⟩, fun r u hr => ?_⟩⟩
          unfold po_X2_stepped at hr
          rw [nI_clamp (by omega), nI_clamp (by omega), nI_clamp (by omega), nI_clamp (by omega)] at hr
          rw [at_eq, nI_clamp (by omega)]
          refine ⟨vp_in_nI (by omega) (by decide), fun v ev => ?_⟩
          rw [nI_1, ev, hr]
          have e2 : sumI (fun y => sumI (t y) w) y + sumI (t y) x + szI (stp w h P_pinned P_heights x y - P_heights (8 * y + x)) = sumI (fun y => sumI (t y) w) y + sumI (t y) (x + 1) := by
            rw [sumI, ← ht, Int32.add_assoc]
          have e3 := ih2 u
          rw [← e2] at e3
          exact e3
      have := inner 0 (Nat.zero_le _) nr
      rw [sumI, Int32.add_zero] at this
      exact this
  exact outer 0 (Nat.zero_le _) P_near


abbrev w1X2_isAtRest (ad : Nat → Nat) (cA : Nat → ClassId) (P_wide : Int32) (P_high : Int32) (P_heights : Nat → Int32) (P_pinned : Nat → Int32) (u : (Nat → Int32)) : va_W := [((ad 15), .inr (2, [.ref (ad 16), .ref (ad 17), .ref (ad 18), .int P_wide, .int P_high])), ((ad 16), .inl (cA 0, 64, .inl P_heights)), ((ad 17), .inl (cA 2, 64, .inl P_pinned)), ((ad 18), .inl (cA 0, 4, .inl u))]
abbrev wcX2_isAtRest (ad : Nat → Nat) (cA : Nat → ClassId) (P_wide : Int32) (P_high : Int32) (P_heights : Nat → Int32) (P_pinned : Nat → Int32) (P_near : Nat → Int32) : va_W := [((ad 15), .inr (2, [.ref (ad 16), .ref (ad 17), .ref (ad 18), .int P_wide, .int P_high])), ((ad 16), .inl (cA 0, 64, .inl P_heights)), ((ad 17), .inl (cA 2, 64, .inl P_pinned)), ((ad 18), .inl (cA 0, 4, .inl P_near))]
def rmX2_isAtRest : Room := { frames := 4, cells := 0, slots := 0, locals := 96 }
abbrev atX2_isAtRest_0 (X : gX) (ad : Nat → Nat) (cA : Nat → ClassId) (P_wide : Int32) (P_high : Int32) (P_heights : Nat → Int32) (P_pinned : Nat → Int32) (P_near : Nat → Int32) : Prop := gW X 0 0 [((ad 15), .inr (2, [.ref (ad 16), .ref (ad 17), .ref (ad 18), .int P_wide, .int P_high])), ((ad 16), .inl (cA 0, 64, .inl P_heights)), ((ad 17), .inl (cA 2, 64, .inl P_pinned)), ((ad 18), .inl (cA 0, 4, .inl P_near))] 1 [(0, .ref (ad 15))] [] 0
set_option maxHeartbeats 4000000 in
set_option maxRecDepth 100000 in
theorem sgX2_isAtRest_0 {X : gX} {ad : Nat → Nat} {cA : Nat → ClassId} {post : Int32 → ((Nat → Int32)) → Prop} (P_wide : Int32) (P_high : Int32) (P_heights : Nat → Int32) (P_pinned : Nat → Int32) (P_near : Nat → Int32) (C : gC X (gT cA) cX2_isAtRest 1 RX2 wsX2_isAtRest rmX2_isAtRest) (E : gEi X (some .boolean) (gT cA) 0 0 post (w1X2_isAtRest ad cA P_wide P_high P_heights P_pinned)) (h : prX2_sumOfChanges P_wide P_high P_heights P_pinned P_near ∧ ∀ (r_2 : Int32) (u2_P_near : Nat → Int32), po_X2_sumOfChanges ad cA P_wide P_high P_heights P_pinned P_near r_2 u2_P_near → (¬ r_2 = 0 → post (0 : Int32) u2_P_near) ∧ (r_2 = 0 → post (1 : Int32) u2_P_near)) : atX2_isAtRest_0 X ad cA P_wide P_high P_heights P_pinned P_near := by
  refine g_aload_n C dX2_isAtRest_0 rfl 0 rfl ?_
  obtain ⟨hi_1, h⟩ := h
  refine g_callVi (wr := []) C (c_X2_sumOfChanges ad cA P_wide P_high P_heights P_pinned P_near hi_1) gX2_isAtRest_X2_sumOfChanges rfl hde_X2_sumOfChanges ⟨rfl, rfl⟩ (by decide) (by decide) [0, 1, 2, 3] [] [0, 1, 2, 3] rfl rfl rfl rfl (by decide) rfl (ws2 := fun u => [((ad 15), .inr (2, [.ref (ad 16), .ref (ad 17), .ref (ad 18), .int P_wide, .int P_high])), ((ad 16), .inl (cA 0, 64, .inl P_heights)), ((ad 17), .inl (cA 2, 64, .inl P_pinned)), ((ad 18), .inl (cA 0, 4, .inl u))]) (fun _ => rfl) 2 0 rfl rfl rfl (rest := []) rfl (Nat.le_of_ble_eq_true rfl) dX2_isAtRest_1 (fun r_2 u_2 hp_2 => ?_)
  obtain ⟨u2_P_near, rfl⟩ : ∃ z, z = u_2 := ⟨_, rfl⟩
  replace h := h r_2 u2_P_near hp_2
  change gW X 0 0 [((ad 15), .inr (2, [.ref (ad 16), .ref (ad 17), .ref (ad 18), .int P_wide, .int P_high])), ((ad 16), .inl (cA 0, 64, .inl P_heights)), ((ad 17), .inl (cA 2, 64, .inl P_pinned)), ((ad 18), .inl (cA 0, 4, .inl u2_P_near))] 1 [(0, .ref (ad 15))] [.int r_2] 4
  refine g_if_ne (tgt := 11) C dX2_isAtRest_4 (by decide) (fun c_3 => ?_) (fun c_3 => ?_)
  · replace h := h.1 c_3
    refine g_iconst C dX2_isAtRest_11 ik_0 ?_
    exact g_zret C E rfl u2_P_near h rfl dX2_isAtRest_12
  · replace h := h.2 c_3
    refine g_iconst C dX2_isAtRest_7 ik_1 ?_
    refine g_goto (tgt := 12) C dX2_isAtRest_8 (by decide) ?_
    exact g_zret C E rfl u2_P_near h rfl dX2_isAtRest_12
def prX2_isAtRest (P_wide : Int32) (P_high : Int32) (P_heights : Nat → Int32) (P_pinned : Nat → Int32) (P_near : Nat → Int32) : Prop := netOK P_wide P_high
def po_X2_isAtRest (ad : Nat → Nat) (cA : Nat → ClassId) (P_wide : Int32) (P_high : Int32) (P_heights : Nat → Int32) (P_pinned : Nat → Int32) (P_near : Nat → Int32) (r : Int32) (u : (Nat → Int32)) : Prop := r = bI (decide (chg P_wide.toNatClampNeg P_high.toNatClampNeg P_pinned P_heights = 0))
set_option maxHeartbeats 4000000 in
set_option maxRecDepth 100000 in
theorem c_X2_isAtRest (ad : Nat → Nat) (cA : Nat → ClassId) (P_wide : Int32) (P_high : Int32) (P_heights : Nat → Int32) (P_pinned : Nat → Int32) (P_near : Nat → Int32) (hq : prX2_isAtRest P_wide P_high P_heights P_pinned P_near) : ∀ (l : Launch) (D : va_G), gMi (S := (Nat → Int32)) l yX2_isAtRest wsX2_isAtRest rmX2_isAtRest D (gT cA) 0 0 [.ref (ad 15)] (wcX2_isAtRest ad cA P_wide P_high P_heights P_pinned P_near) (po_X2_isAtRest ad cA P_wide P_high P_heights P_pinned P_near) (w1X2_isAtRest ad cA P_wide P_high P_heights P_pinned) := by
  intro l D
  unfold prX2_isAtRest at hq
  refine g_enteri (cc := cX2_isAtRest) (nL := 1) (ret := (some .boolean)) (by decide) rfl (Nat.le_of_ble_eq_true rfl) rfl (fun X C E => ?_)
  refine sgX2_isAtRest_0 _ _ _ _ _ C E ⟨hq, fun r u hr => ⟨fun c => ?_, fun c => ?_⟩⟩
  · unfold po_X2_sumOfChanges at hr
    show _ = bI _
    rw [decide_eq_false (by rw [← hr]; exact c)]; rfl
  · unfold po_X2_sumOfChanges at hr
    show _ = bI _
    rw [decide_eq_true (by rw [← hr]; exact c)]; rfl


abbrev w1X2_stepAtEach (ad : Nat → Nat) (cA : Nat → ClassId) (P_wide : Int32) (P_high : Int32) (P_pinned : Nat → Int32) (u : (Nat → Int32) × (Nat → Int32)) : va_W := [((ad 15), .inr (2, [.ref (ad 16), .ref (ad 17), .ref (ad 18), .int P_wide, .int P_high])), ((ad 16), .inl (cA 0, 64, .inl u.1)), ((ad 17), .inl (cA 2, 64, .inl P_pinned)), ((ad 18), .inl (cA 0, 4, .inl u.2))]
abbrev wcX2_stepAtEach (ad : Nat → Nat) (cA : Nat → ClassId) (P_wide : Int32) (P_high : Int32) (P_heights : Nat → Int32) (P_pinned : Nat → Int32) (P_near : Nat → Int32) : va_W := [((ad 15), .inr (2, [.ref (ad 16), .ref (ad 17), .ref (ad 18), .int P_wide, .int P_high])), ((ad 16), .inl (cA 0, 64, .inl P_heights)), ((ad 17), .inl (cA 2, 64, .inl P_pinned)), ((ad 18), .inl (cA 0, 4, .inl P_near))]
def rmX2_stepAtEach : Room := { frames := 3, cells := 0, slots := 0, locals := 73 }
abbrev atX2_stepAtEach_0 (X : gX) (ad : Nat → Nat) (cA : Nat → ClassId) (P_wide : Int32) (P_high : Int32) (P_heights : Nat → Int32) (P_pinned : Nat → Int32) (P_near : Nat → Int32) : Prop := gW X 0 0 [((ad 15), .inr (2, [.ref (ad 16), .ref (ad 17), .ref (ad 18), .int P_wide, .int P_high])), ((ad 16), .inl (cA 0, 64, .inl P_heights)), ((ad 17), .inl (cA 2, 64, .inl P_pinned)), ((ad 18), .inl (cA 0, 4, .inl P_near))] 3 [(0, .ref (ad 15))] [] 0
abbrev atX2_stepAtEach_2 (X : gX) (ad : Nat → Nat) (cA : Nat → ClassId) (x1 : Int32) (P_wide : Int32) (P_high : Int32) (P_heights : Nat → Int32) (P_pinned : Nat → Int32) (P_near : Nat → Int32) : Prop := gW X 0 0 [((ad 15), .inr (2, [.ref (ad 16), .ref (ad 17), .ref (ad 18), .int P_wide, .int P_high])), ((ad 16), .inl (cA 0, 64, .inl P_heights)), ((ad 17), .inl (cA 2, 64, .inl P_pinned)), ((ad 18), .inl (cA 0, 4, .inl P_near))] 3 [(0, .ref (ad 15)), (1, .int x1)] [] 2
abbrev atX2_stepAtEach_12 (X : gX) (ad : Nat → Nat) (cA : Nat → ClassId) (x1 : Int32) (x2 : Int32) (P_wide : Int32) (P_high : Int32) (P_heights : Nat → Int32) (P_pinned : Nat → Int32) (P_near : Nat → Int32) : Prop := gW X 0 0 [((ad 15), .inr (2, [.ref (ad 16), .ref (ad 17), .ref (ad 18), .int P_wide, .int P_high])), ((ad 16), .inl (cA 0, 64, .inl P_heights)), ((ad 17), .inl (cA 2, 64, .inl P_pinned)), ((ad 18), .inl (cA 0, 4, .inl P_near))] 3 [(0, .ref (ad 15)), (1, .int x1), (2, .int x2)] [] 12
theorem giX2_stepAtEach_X2 : ∀ w ∈ u_ws RX2 TX2 5, w ∈ wsX2_stepAtEach := by decide +kernel
theorem gfX2_stepAtEach_26 : gF wsX2_stepAtEach RX2 26 2 4 RX2 TX2 5 := ⟨giX2_stepAtEach_X2, by decide +kernel, rfl, by decide⟩
theorem gfX2_stepAtEach_22 : gF wsX2_stepAtEach RX2 22 2 3 RX2 TX2 5 := ⟨giX2_stepAtEach_X2, by decide +kernel, rfl, by decide⟩
theorem gfX2_stepAtEach_9 : gF wsX2_stepAtEach RX2 9 2 0 RX2 TX2 5 := ⟨giX2_stepAtEach_X2, by decide +kernel, rfl, by decide⟩
set_option maxHeartbeats 4000000 in
set_option maxRecDepth 100000 in
theorem sgX2_stepAtEach_0 {X : gX} {ad : Nat → Nat} {cA : Nat → ClassId} {post : ((Nat → Int32) × (Nat → Int32)) → Prop} (P_wide : Int32) (P_high : Int32) (P_heights : Nat → Int32) (P_pinned : Nat → Int32) (P_near : Nat → Int32) (C : gC X (gT cA) cX2_stepAtEach 3 RX2 wsX2_stepAtEach rmX2_stepAtEach) (E : gEv X none (gT cA) 0 0 post (w1X2_stepAtEach ad cA P_wide P_high P_pinned)) (h : atX2_stepAtEach_2 X ad cA (0 : Int32) P_wide P_high P_heights P_pinned P_near) : atX2_stepAtEach_0 X ad cA P_wide P_high P_heights P_pinned P_near := by
  refine g_iconst C dX2_stepAtEach_0 ik_0 ?_
  refine g_istore_n (lv2 := [(0, .ref (ad 15)), (1, .int (0 : Int32))]) C dX2_stepAtEach_1 rfl (by decide) [1, 0] rfl ?_
  exact g_lv [0, 1] rfl h
set_option maxHeartbeats 4000000 in
set_option maxRecDepth 100000 in
theorem sgX2_stepAtEach_2 {X : gX} {ad : Nat → Nat} {cA : Nat → ClassId} {post : ((Nat → Int32) × (Nat → Int32)) → Prop} (x1 : Int32) (P_wide : Int32) (P_high : Int32) (P_heights : Nat → Int32) (P_pinned : Nat → Int32) (P_near : Nat → Int32) (C : gC X (gT cA) cX2_stepAtEach 3 RX2 wsX2_stepAtEach rmX2_stepAtEach) (E : gEv X none (gT cA) 0 0 post (w1X2_stepAtEach ad cA P_wide P_high P_pinned)) (h : (P_high ≤ x1 → post (P_heights, P_near)) ∧ (¬ P_high ≤ x1 → atX2_stepAtEach_12 X ad cA x1 (0 : Int32) P_wide P_high P_heights P_pinned P_near)) : atX2_stepAtEach_2 X ad cA x1 P_wide P_high P_heights P_pinned P_near := by
  refine g_iload_n C dX2_stepAtEach_2 rfl 1 rfl ?_
  refine g_aload_n C dX2_stepAtEach_3 rfl 0 rfl ?_
  refine g_get C gfX2_stepAtEach_26 0 rfl rfl dX2_stepAtEach_4 ?_
  refine g_icmp_ge (tgt := 49) C dX2_stepAtEach_7 (by decide) (fun c_1 => ?_) (fun c_1 => ?_)
  · replace h := h.1 c_1
    exact g_vret C E (P_heights, P_near) h rfl dX2_stepAtEach_49
  · replace h := h.2 c_1
    refine g_iconst C dX2_stepAtEach_10 ik_0 ?_
    refine g_istore_n (lv2 := [(0, .ref (ad 15)), (1, .int x1), (2, .int (0 : Int32))]) C dX2_stepAtEach_11 rfl (by decide) [1, 2, 0] rfl ?_
    exact g_lv [0, 1, 2] rfl h
set_option maxHeartbeats 4000000 in
set_option maxRecDepth 100000 in
theorem sgX2_stepAtEach_12 {X : gX} {ad : Nat → Nat} {cA : Nat → ClassId} {post : ((Nat → Int32) × (Nat → Int32)) → Prop} (x1 : Int32) (x2 : Int32) (P_wide : Int32) (P_high : Int32) (P_heights : Nat → Int32) (P_pinned : Nat → Int32) (P_near : Nat → Int32) (C : gC X (gT cA) cX2_stepAtEach 3 RX2 wsX2_stepAtEach rmX2_stepAtEach) (E : gEv X none (gT cA) 0 0 post (w1X2_stepAtEach ad cA P_wide P_high P_pinned)) (h : (P_wide ≤ x2 → atX2_stepAtEach_2 X ad cA (x1 + 1) P_wide P_high P_heights P_pinned P_near) ∧ (¬ P_wide ≤ x2 → prX2_stepped x2 x1 P_wide P_high P_heights P_pinned P_near ∧ ∀ (r_5 : Int32) (u5_P_near : Nat → Int32), po_X2_stepped ad cA x2 x1 P_wide P_high P_heights P_pinned P_near r_5 u5_P_near → vp_in (fnX2_at x2 x1 P_wide P_high) 64 ∧ atX2_stepAtEach_12 X ad cA x1 (x2 + 1) P_wide P_high (upd P_heights (fnX2_at x2 x1 P_wide P_high).toNatClampNeg r_5) P_pinned u5_P_near)) : atX2_stepAtEach_12 X ad cA x1 x2 P_wide P_high P_heights P_pinned P_near := by
  refine g_iload_n C dX2_stepAtEach_12 rfl 2 rfl ?_
  refine g_aload_n C dX2_stepAtEach_13 rfl 0 rfl ?_
  refine g_get C gfX2_stepAtEach_22 0 rfl rfl dX2_stepAtEach_14 ?_
  refine g_icmp_ge (tgt := 43) C dX2_stepAtEach_17 (by decide) (fun c_2 => ?_) (fun c_2 => ?_)
  · replace h := h.1 c_2
    refine g_iinc (v := (x1 + 1)) (lv2 := [(0, .ref (ad 15)), (1, .int (x1 + 1)), (2, .int x2)]) C dX2_stepAtEach_43 1 rfl (by first | rfl | decide) (by decide) [1, 0, 2] rfl ?_
    refine g_goto (tgt := 2) C dX2_stepAtEach_46 (by decide) ?_
    exact g_lv [0, 1] rfl h
  · replace h := h.2 c_2
    refine g_aload_n C dX2_stepAtEach_20 rfl 0 rfl ?_
    refine g_get C gfX2_stepAtEach_9 0 rfl rfl dX2_stepAtEach_21 ?_
    refine g_aload_n C dX2_stepAtEach_24 rfl 0 rfl ?_
    refine g_iload_n C dX2_stepAtEach_25 rfl 2 rfl ?_
    refine g_iload_n C dX2_stepAtEach_26 rfl 1 rfl ?_
    refine g_callVi (wr := [((ad 16), .inl (cA 0, 64, .inl P_heights)), ((ad 17), .inl (cA 2, 64, .inl P_pinned)), ((ad 18), .inl (cA 0, 4, .inl P_near))]) C (c_X2_at ad cA x2 x1 P_wide P_high) gX2_stepAtEach_X2_at rfl hde_X2_at ⟨rfl, rfl⟩ (by decide) (by decide) [0] [1, 2, 3] [3, 0, 1, 2] rfl rfl rfl rfl (by decide) rfl (ws2 := fun u => [((ad 15), .inr (2, [.ref (ad 16), .ref (ad 17), .ref (ad 18), .int P_wide, .int P_high])), ((ad 16), .inl (cA 0, 64, .inl P_heights)), ((ad 17), .inl (cA 2, 64, .inl P_pinned)), ((ad 18), .inl (cA 0, 4, .inl P_near))]) (fun _ => rfl) 2 0 rfl rfl rfl (rest := [.ref (ad 16)]) rfl (Nat.le_of_ble_eq_true rfl) dX2_stepAtEach_27 (fun r_3 u_3 hp_3 => ?_)
    subst hp_3
    change gW X 0 0 [((ad 15), .inr (2, [.ref (ad 16), .ref (ad 17), .ref (ad 18), .int P_wide, .int P_high])), ((ad 16), .inl (cA 0, 64, .inl P_heights)), ((ad 17), .inl (cA 2, 64, .inl P_pinned)), ((ad 18), .inl (cA 0, 4, .inl P_near))] 3 [(0, .ref (ad 15)), (1, .int x1), (2, .int x2)] [.int (fnX2_at x2 x1 P_wide P_high), .ref (ad 16)] 30
    refine g_aload_n C dX2_stepAtEach_30 rfl 0 rfl ?_
    refine g_iload_n C dX2_stepAtEach_31 rfl 2 rfl ?_
    refine g_iload_n C dX2_stepAtEach_32 rfl 1 rfl ?_
    obtain ⟨hi_4, h⟩ := h
    refine g_callVi (wr := []) C (c_X2_stepped ad cA x2 x1 P_wide P_high P_heights P_pinned P_near hi_4) gX2_stepAtEach_X2_stepped rfl hde_X2_stepped ⟨rfl, rfl⟩ (by decide) (by decide) [0, 1, 2, 3] [] [0, 1, 2, 3] rfl rfl rfl rfl (by decide) rfl (ws2 := fun u => [((ad 15), .inr (2, [.ref (ad 16), .ref (ad 17), .ref (ad 18), .int P_wide, .int P_high])), ((ad 16), .inl (cA 0, 64, .inl P_heights)), ((ad 17), .inl (cA 2, 64, .inl P_pinned)), ((ad 18), .inl (cA 0, 4, .inl u))]) (fun _ => rfl) 2 0 rfl rfl rfl (rest := [.int (fnX2_at x2 x1 P_wide P_high), .ref (ad 16)]) rfl (Nat.le_of_ble_eq_true rfl) dX2_stepAtEach_33 (fun r_5 u_5 hp_5 => ?_)
    obtain ⟨u5_P_near, rfl⟩ : ∃ z, z = u_5 := ⟨_, rfl⟩
    replace h := h r_5 u5_P_near hp_5
    change gW X 0 0 [((ad 15), .inr (2, [.ref (ad 16), .ref (ad 17), .ref (ad 18), .int P_wide, .int P_high])), ((ad 16), .inl (cA 0, 64, .inl P_heights)), ((ad 17), .inl (cA 2, 64, .inl P_pinned)), ((ad 18), .inl (cA 0, 4, .inl u5_P_near))] 3 [(0, .ref (ad 15)), (1, .int x1), (2, .int x2)] [.int r_5, .int (fnX2_at x2 x1 P_wide P_high), .ref (ad 16)] 36
    obtain ⟨hi_6, h⟩ := h
    refine g_iast (ws2 := [((ad 15), .inr (2, [.ref (ad 16), .ref (ad 17), .ref (ad 18), .int P_wide, .int P_high])), ((ad 16), .inl (cA 0, 64, .inl (upd P_heights (fnX2_at x2 x1 P_wide P_high).toNatClampNeg r_5))), ((ad 17), .inl (cA 2, 64, .inl P_pinned)), ((ad 18), .inl (cA 0, 4, .inl u5_P_near))]) C 1 0 rfl rfl hi_6 rfl dX2_stepAtEach_36 ?_
    refine g_iinc (v := (x2 + 1)) (lv2 := [(0, .ref (ad 15)), (1, .int x1), (2, .int (x2 + 1))]) C dX2_stepAtEach_37 2 rfl (by first | rfl | decide) (by decide) [1, 2, 0] rfl ?_
    refine g_goto (tgt := 12) C dX2_stepAtEach_40 (by decide) ?_
    exact g_lv [0, 1, 2] rfl h
def prX2_stepAtEach (P_wide : Int32) (P_high : Int32) (P_heights : Nat → Int32) (P_pinned : Nat → Int32) (P_near : Nat → Int32) : Prop := netOK P_wide P_high
def po_X2_stepAtEach (ad : Nat → Nat) (cA : Nat → ClassId) (P_wide : Int32) (P_high : Int32) (P_heights : Nat → Int32) (P_pinned : Nat → Int32) (P_near : Nat → Int32) (u : (Nat → Int32) × (Nat → Int32)) : Prop := u.1 = stR P_wide.toNatClampNeg P_high.toNatClampNeg P_pinned P_heights
set_option maxHeartbeats 4000000 in
set_option maxRecDepth 100000 in
theorem c_X2_stepAtEach (ad : Nat → Nat) (cA : Nat → ClassId) (P_wide : Int32) (P_high : Int32) (P_heights : Nat → Int32) (P_pinned : Nat → Int32) (P_near : Nat → Int32) (hq : prX2_stepAtEach P_wide P_high P_heights P_pinned P_near) : ∀ (l : Launch) (D : va_G), gMv (S := (Nat → Int32) × (Nat → Int32)) l yX2_stepAtEach wsX2_stepAtEach rmX2_stepAtEach D (gT cA) 0 0 [.ref (ad 15)] (wcX2_stepAtEach ad cA P_wide P_high P_heights P_pinned P_near) (po_X2_stepAtEach ad cA P_wide P_high P_heights P_pinned P_near) (w1X2_stepAtEach ad cA P_wide P_high P_pinned) := by
  intro l D
  unfold prX2_stepAtEach at hq
  refine g_enterv (cc := cX2_stepAtEach) (nL := 3) (ret := none) (by decide) rfl (Nat.le_of_ble_eq_true rfl) rfl (fun X C E => ?_)
  obtain ⟨w, h, hw2, hw, hh2, hh, rfl, rfl⟩ := hq
  have hpo : ∀ (H u : Nat → Int32), H = stR w h P_pinned P_heights → po_X2_stepAtEach ad cA (nI w) (nI h) P_heights P_pinned P_near (H, u) := fun H u e => by
    unfold po_X2_stepAtEach
    rw [nI_clamp (by omega), nI_clamp (by omega)]; exact e
  refine sgX2_stepAtEach_0 _ _ _ _ _ C E ?_
  have outer : ∀ y, y ≤ h → ∀ nr, atX2_stepAtEach_2 X ad cA (nI y) (nI w) (nI h) (stY w h P_pinned y P_heights) P_pinned nr := by
    intro y hy
    refine up_loop (P := fun y => ∀ nr, atX2_stepAtEach_2 X ad cA (nI y) (nI w) (nI h) (stY w h P_pinned y P_heights) P_pinned nr) h ?_ (fun y hy ih nr => ?_) y hy
    · exact fun nr => sgX2_stepAtEach_2 _ _ _ _ _ _ C E ⟨fun _ => hpo _ _ rfl, fun c => absurd (i32_le_refl _) c⟩
    · refine sgX2_stepAtEach_2 _ _ _ _ _ _ C E ⟨fun c => absurd c (nI_ge hy (by omega)), fun _ => ?_⟩
      have inner : ∀ x, x ≤ w → ∀ nr, atX2_stepAtEach_12 X ad cA (nI y) (nI x) (nI w) (nI h) (stX w h P_pinned y x (stY w h P_pinned y P_heights)) P_pinned nr := by
        intro x hx
        refine up_loop (P := fun x => ∀ nr, atX2_stepAtEach_12 X ad cA (nI y) (nI x) (nI w) (nI h) (stX w h P_pinned y x (stY w h P_pinned y P_heights)) P_pinned nr) w ?_ (fun x hx ih2 nr => ?_) x hx
        · refine fun nr => sgX2_stepAtEach_12 _ _ _ _ _ _ _ C E ⟨fun _ => ?_, fun c => absurd (i32_le_refl _) c⟩
          rw [nI_1]; exact ih nr
        · refine sgX2_stepAtEach_12 _ _ _ _ _ _ _ C E ⟨fun c => absurd c (nI_ge hx (by omega)), fun _ => ⟨⟨w, h, x, y, hw2, hw, hh2, hh, rfl, rfl, hx, hy, rfl, rfl⟩, fun r u hr => ?_⟩⟩
          unfold po_X2_stepped at hr
          rw [nI_clamp (by omega), nI_clamp (by omega), nI_clamp (by omega), nI_clamp (by omega)] at hr
          rw [at_eq, nI_clamp (by omega)]
          refine ⟨vp_in_nI (by omega) (by decide), ?_⟩
          rw [nI_1, hr]
          exact ih2 u
      exact inner 0 (Nat.zero_le _) nr
  exact outer 0 (Nat.zero_le _) P_near
end
