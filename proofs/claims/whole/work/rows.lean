section
-- ===== PART A: goes FIRST, ahead of the names: the tables' words, and 'selects' of the private methods out of them =====
/-- a private method of a class that the tables say can be made, by its rows of tables_1 -/
def lw_okq (q : MethodName × Nat) : Prop := (q.1.cls ≠ "java/lang/invoke/MethodHandle" ∧ q.1.cls ≠ "java/lang/invoke/VarHandle") ∧ Cond.instantiable q.1.cls q.2 ∈ tables_1 ∧ Cond.privateMethod q.1 ∈ tables_1 ∧ Cond.instanceMethod q.1 ∈ tables_1
theorem lw_p0 : lw_okq (⟨"SkinBox$Cells", "layAlong", "(IIII)V"⟩, 7) := ⟨⟨by decide +kernel, by decide +kernel⟩, List.mem_of_getElem? (i := 19) (by decide +kernel), List.mem_of_getElem? (i := 32) (by decide +kernel), List.mem_of_getElem? (i := 33) (by decide +kernel)⟩
theorem lw_p1 : lw_okq (⟨"SkinBox$Cells", "skinOfCell", "(JI)I"⟩, 7) := ⟨⟨by decide +kernel, by decide +kernel⟩, List.mem_of_getElem? (i := 19) (by decide +kernel), List.mem_of_getElem? (i := 233) (by decide +kernel), List.mem_of_getElem? (i := 234) (by decide +kernel)⟩
theorem lw_p2 : lw_okq (⟨"SkinBox$Flow", "open", "(I)V"⟩, 12) := ⟨⟨by decide +kernel, by decide +kernel⟩, List.mem_of_getElem? (i := 68) (by decide +kernel), List.mem_of_getElem? (i := 264) (by decide +kernel), List.mem_of_getElem? (i := 265) (by decide +kernel)⟩
theorem lw_p3 : lw_okq (⟨"SkinBox$Flow", "openCell", "(II)V"⟩, 12) := ⟨⟨by decide +kernel, by decide +kernel⟩, List.mem_of_getElem? (i := 68) (by decide +kernel), List.mem_of_getElem? (i := 272) (by decide +kernel), List.mem_of_getElem? (i := 273) (by decide +kernel)⟩
theorem lw_p4 : lw_okq (⟨"SkinBox$Flow", "search", "()I"⟩, 12) := ⟨⟨by decide +kernel, by decide +kernel⟩, List.mem_of_getElem? (i := 68) (by decide +kernel), List.mem_of_getElem? (i := 278) (by decide +kernel), List.mem_of_getElem? (i := 279) (by decide +kernel)⟩
theorem lw_p5 : lw_okq (⟨"SkinBox$Flow", "startAt", "([I)I"⟩, 12) := ⟨⟨by decide +kernel, by decide +kernel⟩, List.mem_of_getElem? (i := 68) (by decide +kernel), List.mem_of_getElem? (i := 282) (by decide +kernel), List.mem_of_getElem? (i := 283) (by decide +kernel)⟩
theorem lw_p6 : lw_okq (⟨"SkinBox$Flow", "pushTo", "(I)V"⟩, 12) := ⟨⟨by decide +kernel, by decide +kernel⟩, List.mem_of_getElem? (i := 68) (by decide +kernel), List.mem_of_getElem? (i := 286) (by decide +kernel), List.mem_of_getElem? (i := 287) (by decide +kernel)⟩
theorem lw_p7 : lw_okq (⟨"SkinBox$Flow", "seen", "()J"⟩, 12) := ⟨⟨by decide +kernel, by decide +kernel⟩, List.mem_of_getElem? (i := 68) (by decide +kernel), List.mem_of_getElem? (i := 291) (by decide +kernel), List.mem_of_getElem? (i := 292) (by decide +kernel)⟩
theorem lw_p8 : lw_okq (⟨"SkinBox$Flow", "searchBack", "()V"⟩, 12) := ⟨⟨by decide +kernel, by decide +kernel⟩, List.mem_of_getElem? (i := 68) (by decide +kernel), List.mem_of_getElem? (i := 295) (by decide +kernel), List.mem_of_getElem? (i := 296) (by decide +kernel)⟩
theorem lw_p9 : lw_okq (⟨"SkinBox$Flow", "queueOpen", "()I"⟩, 12) := ⟨⟨by decide +kernel, by decide +kernel⟩, List.mem_of_getElem? (i := 68) (by decide +kernel), List.mem_of_getElem? (i := 327) (by decide +kernel), List.mem_of_getElem? (i := 328) (by decide +kernel)⟩
theorem lw_p10 : lw_okq (⟨"SkinBox$Points", "difference", "(IIII)I"⟩, 5) := ⟨⟨by decide +kernel, by decide +kernel⟩, List.mem_of_getElem? (i := 114) (by decide +kernel), List.mem_of_getElem? (i := 376) (by decide +kernel), List.mem_of_getElem? (i := 377) (by decide +kernel)⟩
theorem lw_p11 : lw_okq (⟨"SkinBox$Points", "stepped", "(II)I"⟩, 5) := ⟨⟨by decide +kernel, by decide +kernel⟩, List.mem_of_getElem? (i := 114) (by decide +kernel), List.mem_of_getElem? (i := 392) (by decide +kernel), List.mem_of_getElem? (i := 393) (by decide +kernel)⟩
theorem lw_p12 : lw_okq (⟨"SkinBox$Points", "putInOrder", "(III)I"⟩, 5) := ⟨⟨by decide +kernel, by decide +kernel⟩, List.mem_of_getElem? (i := 114) (by decide +kernel), List.mem_of_getElem? (i := 396) (by decide +kernel), List.mem_of_getElem? (i := 397) (by decide +kernel)⟩
theorem lw_p13 : lw_okq (⟨"SkinBoxModel", "pins", "()V"⟩, 22) := ⟨⟨by decide +kernel, by decide +kernel⟩, List.mem_of_getElem? (i := 425) (by decide +kernel), List.mem_of_getElem? (i := 431) (by decide +kernel), List.mem_of_getElem? (i := 432) (by decide +kernel)⟩
theorem lw_p14 : lw_okq (⟨"SkinBoxModel", "cells", "()I"⟩, 22) := ⟨⟨by decide +kernel, by decide +kernel⟩, List.mem_of_getElem? (i := 425) (by decide +kernel), List.mem_of_getElem? (i := 511) (by decide +kernel), List.mem_of_getElem? (i := 512) (by decide +kernel)⟩
theorem lw_p15 : lw_okq (⟨"SkinBoxModel", "isCell", "(I)Z"⟩, 22) := ⟨⟨by decide +kernel, by decide +kernel⟩, List.mem_of_getElem? (i := 425) (by decide +kernel), List.mem_of_getElem? (i := 519) (by decide +kernel), List.mem_of_getElem? (i := 520) (by decide +kernel)⟩
def lw_privs_1 : List (MethodName × Nat) := [(⟨"SkinBox$Cells", "layAlong", "(IIII)V"⟩, 7), (⟨"SkinBox$Cells", "skinOfCell", "(JI)I"⟩, 7), (⟨"SkinBox$Flow", "open", "(I)V"⟩, 12), (⟨"SkinBox$Flow", "openCell", "(II)V"⟩, 12), (⟨"SkinBox$Flow", "search", "()I"⟩, 12), (⟨"SkinBox$Flow", "startAt", "([I)I"⟩, 12), (⟨"SkinBox$Flow", "pushTo", "(I)V"⟩, 12), (⟨"SkinBox$Flow", "seen", "()J"⟩, 12), (⟨"SkinBox$Flow", "searchBack", "()V"⟩, 12), (⟨"SkinBox$Flow", "queueOpen", "()I"⟩, 12), (⟨"SkinBox$Points", "difference", "(IIII)I"⟩, 5), (⟨"SkinBox$Points", "stepped", "(II)I"⟩, 5), (⟨"SkinBox$Points", "putInOrder", "(III)I"⟩, 5), (⟨"SkinBoxModel", "pins", "()V"⟩, 22), (⟨"SkinBoxModel", "cells", "()I"⟩, 22), (⟨"SkinBoxModel", "isCell", "(I)Z"⟩, 22)]
theorem lw_r1 : ∀ q ∈ lw_privs_1, lw_okq q := List.forall_mem_cons.mpr ⟨lw_p0, List.forall_mem_cons.mpr ⟨lw_p1, List.forall_mem_cons.mpr ⟨lw_p2, List.forall_mem_cons.mpr ⟨lw_p3, List.forall_mem_cons.mpr ⟨lw_p4, List.forall_mem_cons.mpr ⟨lw_p5, List.forall_mem_cons.mpr ⟨lw_p6, List.forall_mem_cons.mpr ⟨lw_p7, List.forall_mem_cons.mpr ⟨lw_p8, List.forall_mem_cons.mpr ⟨lw_p9, List.forall_mem_cons.mpr ⟨lw_p10, List.forall_mem_cons.mpr ⟨lw_p11, List.forall_mem_cons.mpr ⟨lw_p12, List.forall_mem_cons.mpr ⟨lw_p13, List.forall_mem_cons.mpr ⟨lw_p14, List.forall_mem_cons.mpr ⟨lw_p15, fun _ h => absurd h List.not_mem_nil⟩⟩⟩⟩⟩⟩⟩⟩⟩⟩⟩⟩⟩⟩⟩⟩
theorem lw_p16 : lw_okq (⟨"SkinBoxModel", "stride", "(I)I"⟩, 22) := ⟨⟨by decide +kernel, by decide +kernel⟩, List.mem_of_getElem? (i := 425) (by decide +kernel), List.mem_of_getElem? (i := 541) (by decide +kernel), List.mem_of_getElem? (i := 542) (by decide +kernel)⟩
theorem lw_p17 : lw_okq (⟨"SkinBoxModel", "placeOf", "(II)I"⟩, 22) := ⟨⟨by decide +kernel, by decide +kernel⟩, List.mem_of_getElem? (i := 425) (by decide +kernel), List.mem_of_getElem? (i := 545) (by decide +kernel), List.mem_of_getElem? (i := 546) (by decide +kernel)⟩
theorem lw_p18 : lw_okq (⟨"SkinBoxModel", "faceCost", "(III)I"⟩, 22) := ⟨⟨by decide +kernel, by decide +kernel⟩, List.mem_of_getElem? (i := 425) (by decide +kernel), List.mem_of_getElem? (i := 551) (by decide +kernel), List.mem_of_getElem? (i := 552) (by decide +kernel)⟩
theorem lw_p19 : lw_okq (⟨"SkinBoxModel", "isSet", "(J)Z"⟩, 22) := ⟨⟨by decide +kernel, by decide +kernel⟩, List.mem_of_getElem? (i := 425) (by decide +kernel), List.mem_of_getElem? (i := 559) (by decide +kernel), List.mem_of_getElem? (i := 560) (by decide +kernel)⟩
theorem lw_p20 : lw_okq (⟨"SkinBoxModel", "skinOf", "(J)J"⟩, 22) := ⟨⟨by decide +kernel, by decide +kernel⟩, List.mem_of_getElem? (i := 425) (by decide +kernel), List.mem_of_getElem? (i := 563) (by decide +kernel), List.mem_of_getElem? (i := 564) (by decide +kernel)⟩
theorem lw_p21 : lw_okq (⟨"SkinBoxModel", "outsides", "(I)I"⟩, 22) := ⟨⟨by decide +kernel, by decide +kernel⟩, List.mem_of_getElem? (i := 425) (by decide +kernel), List.mem_of_getElem? (i := 567) (by decide +kernel), List.mem_of_getElem? (i := 568) (by decide +kernel)⟩
theorem lw_p22 : lw_okq (⟨"SkinBoxModel", "finds", "(II)V"⟩, 22) := ⟨⟨by decide +kernel, by decide +kernel⟩, List.mem_of_getElem? (i := 425) (by decide +kernel), List.mem_of_getElem? (i := 585) (by decide +kernel), List.mem_of_getElem? (i := 586) (by decide +kernel)⟩
theorem lw_p23 : lw_okq (⟨"SkinBoxModel", "orders", "()V"⟩, 22) := ⟨⟨by decide +kernel, by decide +kernel⟩, List.mem_of_getElem? (i := 425) (by decide +kernel), List.mem_of_getElem? (i := 589) (by decide +kernel), List.mem_of_getElem? (i := 590) (by decide +kernel)⟩
theorem lw_p24 : lw_okq (⟨"SkinBoxModel", "cellAt", "(I)I"⟩, 22) := ⟨⟨by decide +kernel, by decide +kernel⟩, List.mem_of_getElem? (i := 425) (by decide +kernel), List.mem_of_getElem? (i := 594) (by decide +kernel), List.mem_of_getElem? (i := 595) (by decide +kernel)⟩
theorem lw_p25 : lw_okq (⟨"SkinBoxModel", "adds", "(IIII)I"⟩, 22) := ⟨⟨by decide +kernel, by decide +kernel⟩, List.mem_of_getElem? (i := 425) (by decide +kernel), List.mem_of_getElem? (i := 599) (by decide +kernel), List.mem_of_getElem? (i := 600) (by decide +kernel)⟩
theorem lw_p26 : lw_okq (⟨"SkinBoxModel", "free", "()I"⟩, 22) := ⟨⟨by decide +kernel, by decide +kernel⟩, List.mem_of_getElem? (i := 425) (by decide +kernel), List.mem_of_getElem? (i := 617) (by decide +kernel), List.mem_of_getElem? (i := 618) (by decide +kernel)⟩
theorem lw_p27 : lw_okq (⟨"SkinBoxModel", "isPoint", "(II)Z"⟩, 22) := ⟨⟨by decide +kernel, by decide +kernel⟩, List.mem_of_getElem? (i := 425) (by decide +kernel), List.mem_of_getElem? (i := 630) (by decide +kernel), List.mem_of_getElem? (i := 631) (by decide +kernel)⟩
theorem lw_p28 : lw_okq (⟨"SkinBoxModel", "slackOf", "()I"⟩, 22) := ⟨⟨by decide +kernel, by decide +kernel⟩, List.mem_of_getElem? (i := 425) (by decide +kernel), List.mem_of_getElem? (i := 655) (by decide +kernel), List.mem_of_getElem? (i := 656) (by decide +kernel)⟩
theorem lw_p29 : lw_okq (⟨"SkinBoxModel", "stepOf", "(II)I"⟩, 22) := ⟨⟨by decide +kernel, by decide +kernel⟩, List.mem_of_getElem? (i := 425) (by decide +kernel), List.mem_of_getElem? (i := 659) (by decide +kernel), List.mem_of_getElem? (i := 660) (by decide +kernel)⟩
theorem lw_p30 : lw_okq (⟨"SkinBoxModel", "puts", "(II)I"⟩, 22) := ⟨⟨by decide +kernel, by decide +kernel⟩, List.mem_of_getElem? (i := 425) (by decide +kernel), List.mem_of_getElem? (i := 663) (by decide +kernel), List.mem_of_getElem? (i := 664) (by decide +kernel)⟩
def lw_privs_2 : List (MethodName × Nat) := [(⟨"SkinBoxModel", "stride", "(I)I"⟩, 22), (⟨"SkinBoxModel", "placeOf", "(II)I"⟩, 22), (⟨"SkinBoxModel", "faceCost", "(III)I"⟩, 22), (⟨"SkinBoxModel", "isSet", "(J)Z"⟩, 22), (⟨"SkinBoxModel", "skinOf", "(J)J"⟩, 22), (⟨"SkinBoxModel", "outsides", "(I)I"⟩, 22), (⟨"SkinBoxModel", "finds", "(II)V"⟩, 22), (⟨"SkinBoxModel", "orders", "()V"⟩, 22), (⟨"SkinBoxModel", "cellAt", "(I)I"⟩, 22), (⟨"SkinBoxModel", "adds", "(IIII)I"⟩, 22), (⟨"SkinBoxModel", "free", "()I"⟩, 22), (⟨"SkinBoxModel", "isPoint", "(II)Z"⟩, 22), (⟨"SkinBoxModel", "slackOf", "()I"⟩, 22), (⟨"SkinBoxModel", "stepOf", "(II)I"⟩, 22), (⟨"SkinBoxModel", "puts", "(II)I"⟩, 22)]
theorem lw_r2 : ∀ q ∈ lw_privs_2, lw_okq q := List.forall_mem_cons.mpr ⟨lw_p16, List.forall_mem_cons.mpr ⟨lw_p17, List.forall_mem_cons.mpr ⟨lw_p18, List.forall_mem_cons.mpr ⟨lw_p19, List.forall_mem_cons.mpr ⟨lw_p20, List.forall_mem_cons.mpr ⟨lw_p21, List.forall_mem_cons.mpr ⟨lw_p22, List.forall_mem_cons.mpr ⟨lw_p23, List.forall_mem_cons.mpr ⟨lw_p24, List.forall_mem_cons.mpr ⟨lw_p25, List.forall_mem_cons.mpr ⟨lw_p26, List.forall_mem_cons.mpr ⟨lw_p27, List.forall_mem_cons.mpr ⟨lw_p28, List.forall_mem_cons.mpr ⟨lw_p29, List.forall_mem_cons.mpr ⟨lw_p30, fun _ h => absurd h List.not_mem_nil⟩⟩⟩⟩⟩⟩⟩⟩⟩⟩⟩⟩⟩⟩⟩
def lw_privs : List (MethodName × Nat) := lw_privs_1 ++ (lw_privs_2)
def lw_tbl : List Cond := k2_sels lw_privs ++ tables_1
theorem lw_privs_ok : ∀ q ∈ lw_privs, lw_okq q := by
  show ∀ q ∈ lw_privs_1 ++ (lw_privs_2), lw_okq q
  exact List.forall_mem_append.mpr ⟨lw_r1, lw_r2⟩
end
section
/-! ===== BEGIN words of one list among another's, by their places ===== -/
theorem goodIn_r {big : List Cond} (ws : List Cond) (ps : List Nat) (hp : ws = ps.filterMap (fun i => big[i]?)) (h : ws.all goodWord = true) : GoodIn big ws := by
  intro w hw
  have h1 := List.all_eq_true.mp h w hw
  rw [hp] at hw
  obtain ⟨i, -, hi⟩ := List.mem_filterMap.mp hw
  have hm : w ∈ big := by first | exact List.mem_of_getElem? hi | exact List.getElem?_mem hi
  exact ⟨hm, good_of_word h1⟩
theorem goodIn_app {big a b : List Cond} (ha : GoodIn big a) (hb : GoodIn big b) : GoodIn big (a ++ b) := fun w h => (List.mem_append.mp h).elim (ha w) (hb w)
theorem goodIn_ca {big a b : List Cond} {c : Cond} (ha : GoodIn big (c :: a)) (hb : GoodIn big b) : GoodIn big (c :: (a ++ b)) := fun w h => (List.mem_cons.mp h).elim (fun e => ha w (List.mem_cons.mpr (Or.inl e))) (fun h => (List.mem_append.mp h).elim (fun h => ha w (List.mem_cons.mpr (Or.inr h))) (hb w))
theorem goodIn_sub {big ws : List Cond} (hm : ∀ w ∈ ws, w ∈ big) (h : ws.all goodWord = true) : GoodIn big ws := fun w hw => ⟨hm w hw, good_of_word (List.all_eq_true.mp h w hw)⟩
/-! ===== END ===== -/

/-! ===== BEGIN printed: names, fields, word lists, decode rows ===== -/
def RX0 : String := "SkinBox$Cells"
def TX0 : u_T := fun k => match k with
  | 0 => ("SkinBox$Cells", "sides", "[I", true)
  | 1 => ("SkinBox$Cells", "held", "[I", true)
  | 2 => ("SkinBox$Cells", "prices", "[I", true)
  | 3 => ("SkinBox$Cells", "rules", "[I", true)
  | 4 => ("SkinBox$Cells", "places", "[I", true)
  | 5 => ("SkinBox$Cells", "beyond", "[I", true)
  | _ => ("SkinBox$Cells", "size", "I", false)
def tyX0 : Nat → FieldType := fun k => match k with
  | 0 => .array .int
  | 1 => .array .int
  | 2 => .array .int
  | 3 => .array .int
  | 4 => .array .int
  | 5 => .array .int
  | _ => .int
abbrev wsX00 : List Cond := u_ws RX0 TX0 7
theorem nmX0 : ∀ a, a < 7 → ∀ b, b < 7 → a ≠ b → (TX0 a).2.1 ≠ (TX0 b).2.1 := by decide +kernel
theorem tyX0_ok : ∀ k, k < 7 → parseFieldDescriptor (TX0 k).2.2.1 = some (tyX0 k) := by decide +kernel
abbrev cX0_init : ByteArray := prog_2_method_1_code
def yX0_init : MethodName := ⟨RX0, "<init>", "()V"⟩
abbrev cX0_lay : ByteArray := prog_2_method_2_code
def yX0_lay : MethodName := ⟨RX0, "lay", "(III)V"⟩
abbrev cX0_layAlong : ByteArray := prog_2_method_3_code
def yX0_layAlong : MethodName := ⟨RX0, "layAlong", "(IIII)V"⟩
abbrev cX0_has : ByteArray := prog_2_method_4_code
def yX0_has : MethodName := ⟨RX0, "has", "(I)Z"⟩
abbrev cX0_every : ByteArray := prog_2_method_5_code
def yX0_every : MethodName := ⟨RX0, "every", "()J"⟩
abbrev cX0_isSet : ByteArray := prog_2_method_6_code
def yX0_isSet : MethodName := ⟨RX0, "isSet", "(J)Z"⟩
abbrev cX0_freeCells : ByteArray := prog_2_method_7_code
def yX0_freeCells : MethodName := ⟨RX0, "freeCells", "()I"⟩
abbrev cX0_sideTowards : ByteArray := prog_2_method_8_code
def yX0_sideTowards : MethodName := ⟨RX0, "sideTowards", "(II)I"⟩
abbrev cX0_seamCost : ByteArray := prog_2_method_9_code
def yX0_seamCost : MethodName := ⟨RX0, "seamCost", "(III)I"⟩
abbrev cX0_ownCost : ByteArray := prog_2_method_10_code
def yX0_ownCost : MethodName := ⟨RX0, "ownCost", "(I)I"⟩
abbrev cX0_seamsGrowth : ByteArray := prog_2_method_11_code
def yX0_seamsGrowth : MethodName := ⟨RX0, "seamsGrowth", "(JI)I"⟩
abbrev cX0_skinOf : ByteArray := prog_2_method_12_code
def yX0_skinOf : MethodName := ⟨RX0, "skinOf", "(J)J"⟩
abbrev cX0_skinOfCell : ByteArray := prog_2_method_13_code
def yX0_skinOfCell : MethodName := ⟨RX0, "skinOfCell", "(JI)I"⟩
abbrev cX0_pricesOf : ByteArray := prog_2_method_14_code
def yX0_pricesOf : MethodName := ⟨RX0, "pricesOf", "(J)J"⟩
abbrev cX0_isRight : ByteArray := prog_2_method_15_code
def yX0_isRight : MethodName := ⟨RX0, "isRight", "(J)Z"⟩
abbrev cX0_holds : ByteArray := prog_2_method_16_code
def yX0_holds : MethodName := ⟨RX0, "holds", "(JI)Z"⟩
def RX1 : String := "SkinBox$Flow"
def TX1 : u_T := fun k => match k with
  | 0 => ("SkinBox$Flow", "cells", "LSkinBox$Cells;", true)
  | 1 => ("SkinBox$Flow", "springs", "[I", true)
  | 2 => ("SkinBox$Flow", "drains", "[I", true)
  | 3 => ("SkinBox$Flow", "passes", "[I", true)
  | 4 => ("SkinBox$Flow", "cameFrom", "[I", true)
  | 5 => ("SkinBox$Flow", "cameBy", "[I", true)
  | 6 => ("SkinBox$Flow", "queue", "[I", true)
  | 7 => ("SkinBox$Flow", "settled", "Z", false)
  | 8 => ("SkinBox$Flow", "settledRise", "I", false)
  | 9 => ("SkinBox$Flow", "amount", "J", false)
  | 10 => ("SkinBox$Flow", "lowest", "J", false)
  | _ => ("SkinBox$Flow", "highest", "J", false)
def tyX1 : Nat → FieldType := fun k => match k with
  | 0 => .object "SkinBox$Cells"
  | 1 => .array .int
  | 2 => .array .int
  | 3 => .array .int
  | 4 => .array .int
  | 5 => .array .int
  | 6 => .array .int
  | 7 => .boolean
  | 8 => .int
  | 9 => .long
  | 10 => .long
  | _ => .long
abbrev wsX10 : List Cond := u_ws RX1 TX1 12
theorem nmX1 : ∀ a, a < 12 → ∀ b, b < 12 → a ≠ b → (TX1 a).2.1 ≠ (TX1 b).2.1 := by decide +kernel
theorem tyX1_ok : ∀ k, k < 12 → parseFieldDescriptor (TX1 k).2.2.1 = some (tyX1 k) := by decide +kernel
abbrev cX1_init : ByteArray := prog_3_method_1_code
def yX1_init : MethodName := ⟨RX1, "<init>", "(LSkinBox$Cells;)V"⟩
abbrev cX1_forget : ByteArray := prog_3_method_2_code
def yX1_forget : MethodName := ⟨RX1, "forget", "()V"⟩
abbrev cX1_settle : ByteArray := prog_3_method_3_code
def yX1_settle : MethodName := ⟨RX1, "settle", "(I)V"⟩
abbrev cX1_open : ByteArray := prog_3_method_4_code
def yX1_open : MethodName := ⟨RX1, "open", "(I)V"⟩
abbrev cX1_openCell : ByteArray := prog_3_method_5_code
def yX1_openCell : MethodName := ⟨RX1, "openCell", "(II)V"⟩
abbrev cX1_search : ByteArray := prog_3_method_6_code
def yX1_search : MethodName := ⟨RX1, "search", "()I"⟩
abbrev cX1_searchBack : ByteArray := prog_3_method_7_code
def yX1_searchBack : MethodName := ⟨RX1, "searchBack", "()V"⟩
abbrev cX1_startAt : ByteArray := prog_3_method_8_code
def yX1_startAt : MethodName := ⟨RX1, "startAt", "([I)I"⟩
abbrev cX1_seen : ByteArray := prog_3_method_9_code
def yX1_seen : MethodName := ⟨RX1, "seen", "()J"⟩
abbrev cX1_pushTo : ByteArray := prog_3_method_10_code
def yX1_pushTo : MethodName := ⟨RX1, "pushTo", "(I)V"⟩
abbrev cX1_leastSets : ByteArray := prog_3_method_11_code
def yX1_leastSets : MethodName := ⟨RX1, "leastSets", "()I"⟩
abbrev cX1_queueOpen : ByteArray := prog_3_method_12_code
def yX1_queueOpen : MethodName := ⟨RX1, "queueOpen", "()I"⟩
def RX2 : String := "SkinBox$Points"
def TX2 : u_T := fun k => match k with
  | 0 => ("SkinBox$Points", "heights", "[I", true)
  | 1 => ("SkinBox$Points", "pinned", "[Z", true)
  | 2 => ("SkinBox$Points", "near", "[I", true)
  | 3 => ("SkinBox$Points", "wide", "I", false)
  | _ => ("SkinBox$Points", "high", "I", false)
def tyX2 : Nat → FieldType := fun k => match k with
  | 0 => .array .int
  | 1 => .array .boolean
  | 2 => .array .int
  | 3 => .int
  | _ => .int
abbrev wsX20 : List Cond := u_ws RX2 TX2 5
theorem nmX2 : ∀ a, a < 5 → ∀ b, b < 5 → a ≠ b → (TX2 a).2.1 ≠ (TX2 b).2.1 := by decide +kernel
theorem tyX2_ok : ∀ k, k < 5 → parseFieldDescriptor (TX2 k).2.2.1 = some (tyX2 k) := by decide +kernel
abbrev cX2_init : ByteArray := prog_4_method_1_code
def yX2_init : MethodName := ⟨RX2, "<init>", "()V"⟩
abbrev cX2_spread : ByteArray := prog_4_method_2_code
def yX2_spread : MethodName := ⟨RX2, "spread", "(II)V"⟩
abbrev cX2_has : ByteArray := prog_4_method_3_code
def yX2_has : MethodName := ⟨RX2, "has", "(II)Z"⟩
abbrev cX2_at : ByteArray := prog_4_method_4_code
def yX2_at : MethodName := ⟨RX2, "at", "(II)I"⟩
abbrev cX2_pins : ByteArray := prog_4_method_5_code
def yX2_pins : MethodName := ⟨RX2, "pins", "()I"⟩
abbrev cX2_sumOfDifferences : ByteArray := prog_4_method_6_code
def yX2_sumOfDifferences : MethodName := ⟨RX2, "sumOfDifferences", "()I"⟩
abbrev cX2_difference : ByteArray := prog_4_method_7_code
def yX2_difference : MethodName := ⟨RX2, "difference", "(IIII)I"⟩
abbrev cX2_sumOfChanges : ByteArray := prog_4_method_8_code
def yX2_sumOfChanges : MethodName := ⟨RX2, "sumOfChanges", "()I"⟩
abbrev cX2_isAtRest : ByteArray := prog_4_method_9_code
def yX2_isAtRest : MethodName := ⟨RX2, "isAtRest", "()Z"⟩
abbrev cX2_stepAtEach : ByteArray := prog_4_method_10_code
def yX2_stepAtEach : MethodName := ⟨RX2, "stepAtEach", "()V"⟩
abbrev cX2_stepped : ByteArray := prog_4_method_11_code
def yX2_stepped : MethodName := ⟨RX2, "stepped", "(II)I"⟩
abbrev cX2_putInOrder : ByteArray := prog_4_method_12_code
def yX2_putInOrder : MethodName := ⟨RX2, "putInOrder", "(III)I"⟩
def RX3 : String := "SkinBox"
def TX3 : u_T := fun k => match k with
  | 0 => ("SkinBox", "cells", "LSkinBox$Cells;", true)
  | 1 => ("SkinBox", "flow", "LSkinBox$Flow;", true)
  | 2 => ("SkinBox", "points", "LSkinBox$Points;", true)
  | _ => ("SkinBox", "asked", "J", false)
def tyX3 : Nat → FieldType := fun k => match k with
  | 0 => .object "SkinBox$Cells"
  | 1 => .object "SkinBox$Flow"
  | 2 => .object "SkinBox$Points"
  | _ => .long
abbrev wsX30 : List Cond := u_ws RX3 TX3 4
theorem nmX3 : ∀ a, a < 4 → ∀ b, b < 4 → a ≠ b → (TX3 a).2.1 ≠ (TX3 b).2.1 := by decide +kernel
theorem tyX3_ok : ∀ k, k < 4 → parseFieldDescriptor (TX3 k).2.2.1 = some (tyX3 k) := by decide +kernel
abbrev cX3_init : ByteArray := prog_1_method_1_code
def yX3_init : MethodName := ⟨RX3, "<init>", "()V"⟩
abbrev cX3_box : ByteArray := prog_1_method_2_code
def yX3_box : MethodName := ⟨RX3, "box", "(III)I"⟩
abbrev cX3_hold : ByteArray := prog_1_method_3_code
def yX3_hold : MethodName := ⟨RX3, "hold", "(II)I"⟩
abbrev cX3_price : ByteArray := prog_1_method_4_code
def yX3_price : MethodName := ⟨RX3, "price", "(II)I"⟩
abbrev cX3_set : ByteArray := prog_1_method_5_code
def yX3_set : MethodName := ⟨RX3, "set", "(II)I"⟩
abbrev cX3_cost : ByteArray := prog_1_method_6_code
def yX3_cost : MethodName := ⟨RX3, "cost", "(III)I"⟩
abbrev cX3_skin : ByteArray := prog_1_method_7_code
def yX3_skin : MethodName := ⟨RX3, "skin", "(J)J"⟩
abbrev cX3_all : ByteArray := prog_1_method_8_code
def yX3_all : MethodName := ⟨RX3, "all", "(J)J"⟩
abbrev cX3_right : ByteArray := prog_1_method_9_code
def yX3_right : MethodName := ⟨RX3, "right", "(J)I"⟩
abbrev cX3_least : ByteArray := prog_1_method_10_code
def yX3_least : MethodName := ⟨RX3, "least", "()J"⟩
abbrev cX3_film : ByteArray := prog_1_method_11_code
def yX3_film : MethodName := ⟨RX3, "film", "(I)J"⟩
abbrev cX3_room : ByteArray := prog_1_method_12_code
def yX3_room : MethodName := ⟨RX3, "room", "(II)I"⟩
abbrev cX3_many : ByteArray := prog_1_method_13_code
def yX3_many : MethodName := ⟨RX3, "many", "()I"⟩
abbrev cX3_net : ByteArray := prog_1_method_14_code
def yX3_net : MethodName := ⟨RX3, "net", "(II)I"⟩
abbrev cX3_lift : ByteArray := prog_1_method_15_code
def yX3_lift : MethodName := ⟨RX3, "lift", "(III)I"⟩
abbrev cX3_pin : ByteArray := prog_1_method_16_code
def yX3_pin : MethodName := ⟨RX3, "pin", "(IIZ)I"⟩
abbrev cX3_height : ByteArray := prog_1_method_17_code
def yX3_height : MethodName := ⟨RX3, "height", "(II)I"⟩
abbrev cX3_drawn : ByteArray := prog_1_method_18_code
def yX3_drawn : MethodName := ⟨RX3, "drawn", "()I"⟩
abbrev cX3_slack : ByteArray := prog_1_method_19_code
def yX3_slack : MethodName := ⟨RX3, "slack", "()I"⟩
abbrev cX3_rounds : ByteArray := prog_1_method_20_code
def yX3_rounds : MethodName := ⟨RX3, "rounds", "(I)I"⟩
abbrev cX3_count : ByteArray := prog_1_method_21_code
def yX3_count : MethodName := ⟨RX3, "count", "(I)I"⟩
abbrev cX3_trace : ByteArray := prog_1_method_22_code
def yX3_trace : MethodName := ⟨RX3, "trace", "()J"⟩
abbrev cX3_within : ByteArray := prog_1_method_23_code
def yX3_within : MethodName := ⟨RX3, "within", "(III)Z"⟩
def RX4 : String := "SkinBoxModel"
def TX4 : u_T := fun k => match k with
  | 0 => ("SkinBoxModel", "thrown", "I", false)
  | 1 => ("SkinBoxModel", "trace", "J", false)
  | 2 => ("SkinBoxModel", "sides", "[I", true)
  | 3 => ("SkinBoxModel", "held", "[I", true)
  | 4 => ("SkinBoxModel", "price", "[I", true)
  | 5 => ("SkinBoxModel", "rules", "[I", true)
  | 6 => ("SkinBoxModel", "ways", "[I", true)
  | 7 => ("SkinBoxModel", "place", "[I", true)
  | 8 => ("SkinBoxModel", "value", "[J", true)
  | 9 => ("SkinBoxModel", "sets", "[J", true)
  | 10 => ("SkinBoxModel", "times", "[J", true)
  | 11 => ("SkinBoxModel", "nextValue", "[J", true)
  | 12 => ("SkinBoxModel", "nextSets", "[J", true)
  | 13 => ("SkinBoxModel", "nextTimes", "[J", true)
  | 14 => ("SkinBoxModel", "found", "J", false)
  | 15 => ("SkinBoxModel", "foundSet", "J", false)
  | 16 => ("SkinBoxModel", "foundTimes", "J", false)
  | 17 => ("SkinBoxModel", "w", "I", false)
  | 18 => ("SkinBoxModel", "h", "I", false)
  | 19 => ("SkinBoxModel", "height", "[I", true)
  | 20 => ("SkinBoxModel", "isPinned", "[Z", true)
  | _ => ("SkinBoxModel", "beside", "[I", true)
def tyX4 : Nat → FieldType := fun k => match k with
  | 0 => .int
  | 1 => .long
  | 2 => .array .int
  | 3 => .array .int
  | 4 => .array .int
  | 5 => .array .int
  | 6 => .array .int
  | 7 => .array .int
  | 8 => .array .long
  | 9 => .array .long
  | 10 => .array .long
  | 11 => .array .long
  | 12 => .array .long
  | 13 => .array .long
  | 14 => .long
  | 15 => .long
  | 16 => .long
  | 17 => .int
  | 18 => .int
  | 19 => .array .int
  | 20 => .array .boolean
  | _ => .array .int
abbrev wsX40 : List Cond := u_ws RX4 TX4 22
theorem nmX4 : ∀ a, a < 22 → ∀ b, b < 22 → a ≠ b → (TX4 a).2.1 ≠ (TX4 b).2.1 := by decide +kernel
theorem tyX4_ok : ∀ k, k < 22 → parseFieldDescriptor (TX4 k).2.2.1 = some (tyX4 k) := by decide +kernel
abbrev cX4_init : ByteArray := prog_6_method_1_code
def yX4_init : MethodName := ⟨RX4, "<init>", "()V"⟩
abbrev cX4_in : ByteArray := prog_6_method_3_code
def yX4_in : MethodName := ⟨RX4, "in", "(JJJ)Z"⟩
abbrev cX4_cells : ByteArray := prog_6_method_4_code
def yX4_cells : MethodName := ⟨RX4, "cells", "()I"⟩
abbrev cX4_isCell : ByteArray := prog_6_method_5_code
def yX4_isCell : MethodName := ⟨RX4, "isCell", "(I)Z"⟩
abbrev cX4_placeOf : ByteArray := prog_6_method_6_code
def yX4_placeOf : MethodName := ⟨RX4, "placeOf", "(II)I"⟩
abbrev cX4_stride : ByteArray := prog_6_method_7_code
def yX4_stride : MethodName := ⟨RX4, "stride", "(I)I"⟩
abbrev cX4_box : ByteArray := prog_6_method_8_code
def yX4_box : MethodName := ⟨RX4, "box", "(III)I"⟩
abbrev cX4_hold : ByteArray := prog_6_method_9_code
def yX4_hold : MethodName := ⟨RX4, "hold", "(II)I"⟩
abbrev cX4_price : ByteArray := prog_6_method_10_code
def yX4_price : MethodName := ⟨RX4, "price", "(II)I"⟩
abbrev cX4_set : ByteArray := prog_6_method_11_code
def yX4_set : MethodName := ⟨RX4, "set", "(II)I"⟩
abbrev cX4_faceCost : ByteArray := prog_6_method_12_code
def yX4_faceCost : MethodName := ⟨RX4, "faceCost", "(III)I"⟩
abbrev cX4_cost : ByteArray := prog_6_method_13_code
def yX4_cost : MethodName := ⟨RX4, "cost", "(III)I"⟩
abbrev cX4_isSet : ByteArray := prog_6_method_14_code
def yX4_isSet : MethodName := ⟨RX4, "isSet", "(J)Z"⟩
abbrev cX4_outsides : ByteArray := prog_6_method_15_code
def yX4_outsides : MethodName := ⟨RX4, "outsides", "(I)I"⟩
abbrev cX4_skinOf : ByteArray := prog_6_method_16_code
def yX4_skinOf : MethodName := ⟨RX4, "skinOf", "(J)J"⟩
abbrev cX4_skin : ByteArray := prog_6_method_17_code
def yX4_skin : MethodName := ⟨RX4, "skin", "(J)J"⟩
abbrev cX4_all : ByteArray := prog_6_method_18_code
def yX4_all : MethodName := ⟨RX4, "all", "(J)J"⟩
abbrev cX4_right : ByteArray := prog_6_method_19_code
def yX4_right : MethodName := ⟨RX4, "right", "(J)I"⟩
abbrev cX4_orders : ByteArray := prog_6_method_20_code
def yX4_orders : MethodName := ⟨RX4, "orders", "()V"⟩
abbrev cX4_cellAt : ByteArray := prog_6_method_21_code
def yX4_cellAt : MethodName := ⟨RX4, "cellAt", "(I)I"⟩
abbrev cX4_adds : ByteArray := prog_6_method_22_code
def yX4_adds : MethodName := ⟨RX4, "adds", "(IIII)I"⟩
abbrev cX4_finds : ByteArray := prog_6_method_23_code
def yX4_finds : MethodName := ⟨RX4, "finds", "(II)V"⟩
abbrev cX4_least : ByteArray := prog_6_method_24_code
def yX4_least : MethodName := ⟨RX4, "least", "()J"⟩
abbrev cX4_film : ByteArray := prog_6_method_25_code
def yX4_film : MethodName := ⟨RX4, "film", "(I)J"⟩
abbrev cX4_room : ByteArray := prog_6_method_26_code
def yX4_room : MethodName := ⟨RX4, "room", "(II)I"⟩
abbrev cX4_free : ByteArray := prog_6_method_27_code
def yX4_free : MethodName := ⟨RX4, "free", "()I"⟩
abbrev cX4_many : ByteArray := prog_6_method_28_code
def yX4_many : MethodName := ⟨RX4, "many", "()I"⟩
abbrev cX4_pins : ByteArray := prog_6_method_29_code
def yX4_pins : MethodName := ⟨RX4, "pins", "()V"⟩
abbrev cX4_isPoint : ByteArray := prog_6_method_30_code
def yX4_isPoint : MethodName := ⟨RX4, "isPoint", "(II)Z"⟩
abbrev cX4_net : ByteArray := prog_6_method_31_code
def yX4_net : MethodName := ⟨RX4, "net", "(II)I"⟩
abbrev cX4_lift : ByteArray := prog_6_method_32_code
def yX4_lift : MethodName := ⟨RX4, "lift", "(III)I"⟩
abbrev cX4_pin : ByteArray := prog_6_method_33_code
def yX4_pin : MethodName := ⟨RX4, "pin", "(IIZ)I"⟩
abbrev cX4_height : ByteArray := prog_6_method_34_code
def yX4_height : MethodName := ⟨RX4, "height", "(II)I"⟩
abbrev cX4_size : ByteArray := prog_6_method_35_code
def yX4_size : MethodName := ⟨RX4, "size", "(I)I"⟩
abbrev cX4_drawn : ByteArray := prog_6_method_36_code
def yX4_drawn : MethodName := ⟨RX4, "drawn", "()I"⟩
abbrev cX4_puts : ByteArray := prog_6_method_37_code
def yX4_puts : MethodName := ⟨RX4, "puts", "(II)I"⟩
abbrev cX4_stepOf : ByteArray := prog_6_method_38_code
def yX4_stepOf : MethodName := ⟨RX4, "stepOf", "(II)I"⟩
abbrev cX4_slackOf : ByteArray := prog_6_method_39_code
def yX4_slackOf : MethodName := ⟨RX4, "slackOf", "()I"⟩
abbrev cX4_slack : ByteArray := prog_6_method_40_code
def yX4_slack : MethodName := ⟨RX4, "slack", "()I"⟩
abbrev cX4_rounds : ByteArray := prog_6_method_41_code
def yX4_rounds : MethodName := ⟨RX4, "rounds", "(I)I"⟩
abbrev cX4_count : ByteArray := prog_6_method_42_code
def yX4_count : MethodName := ⟨RX4, "count", "(I)I"⟩
abbrev cX4_trace : ByteArray := prog_6_method_43_code
def yX4_trace : MethodName := ⟨RX4, "trace", "()J"⟩
def RJ6 : String := "java/lang/Integer"
def TJ6 : u_T := fun k => match k with
  | _ => ("", "", "", false)
def tyJ6 : Nat → FieldType := fun k => match k with
  | _ => .int
abbrev wsJ60 : List Cond := u_ws RJ6 TJ6 0
theorem nmJ6 : ∀ a, a < 0 → ∀ b, b < 0 → a ≠ b → (TJ6 a).2.1 ≠ (TJ6 b).2.1 := by decide +kernel
theorem tyJ6_ok : ∀ k, k < 0 → parseFieldDescriptor (TJ6 k).2.2.1 = some (tyJ6 k) := by decide +kernel
abbrev cJ6_bitCount_0f7a4 : ByteArray := prog_7_method_49_code
def yJ6_bitCount_0f7a4 : MethodName := ⟨RJ6, "bitCount", "(I)I"⟩
def RJ13 : String := "java/lang/Long"
def TJ13 : u_T := fun k => match k with
  | _ => ("", "", "", false)
def tyJ13 : Nat → FieldType := fun k => match k with
  | _ => .int
abbrev wsJ130 : List Cond := u_ws RJ13 TJ13 0
theorem nmJ13 : ∀ a, a < 0 → ∀ b, b < 0 → a ≠ b → (TJ13 a).2.1 ≠ (TJ13 b).2.1 := by decide +kernel
theorem tyJ13_ok : ∀ k, k < 0 → parseFieldDescriptor (TJ13 k).2.2.1 = some (tyJ13 k) := by decide +kernel
abbrev cJ13_bitCount_95d88 : ByteArray := prog_8_method_50_code
def yJ13_bitCount_95d88 : MethodName := ⟨RJ13, "bitCount", "(J)I"⟩
def RJ9 : String := "java/lang/Math"
def TJ9 : u_T := fun k => match k with
  | _ => ("", "", "", false)
def tyJ9 : Nat → FieldType := fun k => match k with
  | _ => .int
abbrev wsJ90 : List Cond := u_ws RJ9 TJ9 0
theorem nmJ9 : ∀ a, a < 0 → ∀ b, b < 0 → a ≠ b → (TJ9 a).2.1 ≠ (TJ9 b).2.1 := by decide +kernel
theorem tyJ9_ok : ∀ k, k < 0 → parseFieldDescriptor (TJ9 k).2.2.1 = some (tyJ9 k) := by decide +kernel
abbrev cJ9_abs_0f7a4 : ByteArray := prog_9_method_59_code
def yJ9_abs_0f7a4 : MethodName := ⟨RJ9, "abs", "(I)I"⟩
abbrev cJ9_max_7cf53 : ByteArray := prog_9_method_65_code
def yJ9_max_7cf53 : MethodName := ⟨RJ9, "max", "(II)I"⟩
abbrev cJ9_min_7cf53 : ByteArray := prog_9_method_69_code
def yJ9_min_7cf53 : MethodName := ⟨RJ9, "min", "(II)I"⟩
def RJ7 : String := "java/util/Arrays"
def TJ7 : u_T := fun k => match k with
  | _ => ("", "", "", false)
def tyJ7 : Nat → FieldType := fun k => match k with
  | _ => .int
abbrev wsJ70 : List Cond := u_ws RJ7 TJ7 0
theorem nmJ7 : ∀ a, a < 0 → ∀ b, b < 0 → a ≠ b → (TJ7 a).2.1 ≠ (TJ7 b).2.1 := by decide +kernel
theorem tyJ7_ok : ∀ k, k < 0 → parseFieldDescriptor (TJ7 k).2.2.1 = some (tyJ7 k) := by decide +kernel
abbrev cJ7_fill_53178 : ByteArray := prog_10_method_103_code
def yJ7_fill_53178 : MethodName := ⟨RJ7, "fill", "([II)V"⟩
def RL : String := "SkinBoxLaw"
abbrev cL_law : ByteArray := code
def yL_law : MethodName := ⟨RL, "law", "([I)Z"⟩
def wsJ7_fill_53178 : List Cond := .code yJ7_fill_53178 cJ7_fill_53178 4 none :: ([])
def wsX0_layAlong : List Cond := .code yX0_layAlong cX0_layAlong 6 none :: ([.fieldLink RX0 24 "SkinBox$Cells" "places" "[I", .fieldLink RX0 27 "SkinBox$Cells" "beyond" "[I", .fieldLink RX0 9 "SkinBox$Cells" "sides" "[I"] ++ wsX00)
def wsX0_lay : List Cond := .code yX0_lay cX0_lay 8 none :: ([.fieldLink RX0 9 "SkinBox$Cells" "sides" "[I", .fieldLink RX0 30 "SkinBox$Cells" "size" "I", .fieldLink RX0 15 "SkinBox$Cells" "held" "[I", .fieldLink RX0 18 "SkinBox$Cells" "prices" "[I", .methodLink RX0 38 yJ7_fill_53178, .static yJ7_fill_53178, .initialized RJ7, .code yJ7_fill_53178 cJ7_fill_53178 4 none, .methodLink RX0 44 yX0_layAlong, .instanceMethod yX0_layAlong, .selects RX0 yX0_layAlong yX0_layAlong, .initialized RX0, .code yX0_layAlong cX0_layAlong 6 none, .fieldLink RX0 24 "SkinBox$Cells" "places" "[I", .fieldLink RX0 27 "SkinBox$Cells" "beyond" "[I"] ++ wsX00)
def wsX0_init : List Cond := .code yX0_init cX0_init 1 none :: ([.methodLink RX0 3 objectInit, .instanceMethod objectInit, .code objectInit ⟨#[0xb1]⟩ 1 none, .arrayClass .int, .fieldLink RX0 9 "SkinBox$Cells" "sides" "[I", .fieldLink RX0 15 "SkinBox$Cells" "held" "[I", .fieldLink RX0 18 "SkinBox$Cells" "prices" "[I", .fieldLink RX0 21 "SkinBox$Cells" "rules" "[I", .fieldLink RX0 24 "SkinBox$Cells" "places" "[I", .fieldLink RX0 27 "SkinBox$Cells" "beyond" "[I", .fieldLink RX0 30 "SkinBox$Cells" "size" "I", .methodLink RX0 34 yX0_lay, .instanceMethod yX0_lay, .selects RX0 yX0_lay yX0_lay, .initialized RX0, .code yX0_lay cX0_lay 8 none, .methodLink RX0 38 yJ7_fill_53178, .static yJ7_fill_53178, .initialized RJ7, .code yJ7_fill_53178 cJ7_fill_53178 4 none, .methodLink RX0 44 yX0_layAlong, .instanceMethod yX0_layAlong, .selects RX0 yX0_layAlong yX0_layAlong, .code yX0_layAlong cX0_layAlong 6 none] ++ wsX00)
def wsX0_has : List Cond := .code yX0_has cX0_has 2 (some .boolean) :: ([.fieldLink RX0 30 "SkinBox$Cells" "size" "I"] ++ wsX00)
def wsX0_every : List Cond := .code yX0_every cX0_every 1 (some .long) :: ([.fieldLink RX0 30 "SkinBox$Cells" "size" "I"] ++ wsX00)
def wsX0_isSet : List Cond := .code yX0_isSet cX0_isSet 3 (some .boolean) :: ([.constantLong RX0 52 (-1), .methodLink RX0 48 yX0_every, .instanceMethod yX0_every, .selects RX0 yX0_every yX0_every, .initialized RX0, .code yX0_every cX0_every 1 (some .long), .fieldLink RX0 30 "SkinBox$Cells" "size" "I"] ++ wsX00)
def wsX0_freeCells : List Cond := .code yX0_freeCells cX0_freeCells 3 (some .int) :: ([.fieldLink RX0 30 "SkinBox$Cells" "size" "I", .fieldLink RX0 15 "SkinBox$Cells" "held" "[I"] ++ wsX00)
def wsX0_sideTowards : List Cond := .code yX0_sideTowards cX0_sideTowards 4 (some .int) :: ([.fieldLink RX0 27 "SkinBox$Cells" "beyond" "[I"] ++ wsX00)
def wsX0_seamCost : List Cond := .code yX0_seamCost cX0_seamCost 7 (some .int) :: ([.fieldLink RX0 24 "SkinBox$Cells" "places" "[I", .fieldLink RX0 21 "SkinBox$Cells" "rules" "[I", .methodLink RX0 54 Lib.Math.min.name, .static Lib.Math.min.name, .initialized "java/lang/Math", .code Lib.Math.min.name Lib.Math.min.code 2 (some .int)] ++ wsX00)
def wsX0_ownCost : List Cond := .code yX0_ownCost cX0_ownCost 4 (some .int) :: ([.fieldLink RX0 18 "SkinBox$Cells" "prices" "[I", .fieldLink RX0 27 "SkinBox$Cells" "beyond" "[I", .fieldLink RX0 21 "SkinBox$Cells" "rules" "[I"] ++ wsX00)
def wsX0_holds : List Cond := .code yX0_holds cX0_holds 3 (some .boolean) :: ([])
def wsX0_seamsGrowth : List Cond := .code yX0_seamsGrowth cX0_seamsGrowth 8 (some .int) :: ([.fieldLink RX0 27 "SkinBox$Cells" "beyond" "[I", .fieldLink RX0 21 "SkinBox$Cells" "rules" "[I", .methodLink RX0 60 yX0_seamCost, .instanceMethod yX0_seamCost, .selects RX0 yX0_seamCost yX0_seamCost, .initialized RX0, .code yX0_seamCost cX0_seamCost 7 (some .int), .fieldLink RX0 24 "SkinBox$Cells" "places" "[I", .methodLink RX0 54 Lib.Math.min.name, .static Lib.Math.min.name, .initialized "java/lang/Math", .code Lib.Math.min.name Lib.Math.min.code 2 (some .int), .methodLink RX0 64 yX0_holds, .static yX0_holds, .code yX0_holds cX0_holds 3 (some .boolean)] ++ wsX00)
def wsX0_skinOfCell : List Cond := .code yX0_skinOfCell cX0_skinOfCell 7 (some .int) :: ([.fieldLink RX0 27 "SkinBox$Cells" "beyond" "[I", .fieldLink RX0 21 "SkinBox$Cells" "rules" "[I", .methodLink RX0 64 yX0_holds, .static yX0_holds, .initialized RX0, .code yX0_holds cX0_holds 3 (some .boolean), .methodLink RX0 60 yX0_seamCost, .instanceMethod yX0_seamCost, .selects RX0 yX0_seamCost yX0_seamCost, .code yX0_seamCost cX0_seamCost 7 (some .int), .fieldLink RX0 24 "SkinBox$Cells" "places" "[I", .methodLink RX0 54 Lib.Math.min.name, .static Lib.Math.min.name, .initialized "java/lang/Math", .code Lib.Math.min.name Lib.Math.min.code 2 (some .int)] ++ wsX00)
def wsX0_skinOf : List Cond := .code yX0_skinOf cX0_skinOf 6 (some .long) :: ([.fieldLink RX0 30 "SkinBox$Cells" "size" "I", .methodLink RX0 64 yX0_holds, .static yX0_holds, .initialized RX0, .code yX0_holds cX0_holds 3 (some .boolean), .methodLink RX0 68 yX0_skinOfCell, .instanceMethod yX0_skinOfCell, .selects RX0 yX0_skinOfCell yX0_skinOfCell, .code yX0_skinOfCell cX0_skinOfCell 7 (some .int), .fieldLink RX0 27 "SkinBox$Cells" "beyond" "[I", .fieldLink RX0 21 "SkinBox$Cells" "rules" "[I", .methodLink RX0 60 yX0_seamCost, .instanceMethod yX0_seamCost, .selects RX0 yX0_seamCost yX0_seamCost, .code yX0_seamCost cX0_seamCost 7 (some .int), .fieldLink RX0 24 "SkinBox$Cells" "places" "[I", .methodLink RX0 54 Lib.Math.min.name, .static Lib.Math.min.name, .initialized "java/lang/Math", .code Lib.Math.min.name Lib.Math.min.code 2 (some .int)] ++ wsX00)
def wsX0_pricesOf : List Cond := .code yX0_pricesOf cX0_pricesOf 6 (some .long) :: ([.fieldLink RX0 30 "SkinBox$Cells" "size" "I", .fieldLink RX0 18 "SkinBox$Cells" "prices" "[I", .methodLink RX0 64 yX0_holds, .static yX0_holds, .initialized RX0, .code yX0_holds cX0_holds 3 (some .boolean)] ++ wsX00)
def wsX0_isRight : List Cond := .code yX0_isRight cX0_isRight 4 (some .boolean) :: ([.fieldLink RX0 30 "SkinBox$Cells" "size" "I", .fieldLink RX0 15 "SkinBox$Cells" "held" "[I", .methodLink RX0 64 yX0_holds, .static yX0_holds, .initialized RX0, .code yX0_holds cX0_holds 3 (some .boolean)] ++ wsX00)
def wsX1_init : List Cond := .code yX1_init cX1_init 2 none :: ([.methodLink RX1 3 objectInit, .instanceMethod objectInit, .code objectInit ⟨#[0xb1]⟩ 1 none, .arrayClass .int, .fieldLink RX1 9 "SkinBox$Flow" "springs" "[I", .fieldLink RX1 15 "SkinBox$Flow" "drains" "[I", .fieldLink RX1 18 "SkinBox$Flow" "passes" "[I", .fieldLink RX1 21 "SkinBox$Flow" "cameFrom" "[I", .fieldLink RX1 24 "SkinBox$Flow" "cameBy" "[I", .fieldLink RX1 27 "SkinBox$Flow" "queue" "[I", .fieldLink RX1 30 "SkinBox$Flow" "settled" "Z", .fieldLink RX1 34 "SkinBox$Flow" "settledRise" "I", .fieldLink RX1 38 "SkinBox$Flow" "amount" "J", .fieldLink RX1 42 "SkinBox$Flow" "lowest" "J", .fieldLink RX1 45 "SkinBox$Flow" "highest" "J", .fieldLink RX1 48 "SkinBox$Flow" "cells" "LSkinBox$Cells;"] ++ wsX10)
def wsX1_forget : List Cond := .code yX1_forget cX1_forget 1 none :: ([.fieldLink RX1 30 "SkinBox$Flow" "settled" "Z"] ++ wsX10)
def wsX1_openCell : List Cond := .code yX1_openCell cX1_openCell 3 none :: ([.fieldLink RX1 9 "SkinBox$Flow" "springs" "[I", .fieldLink RX1 15 "SkinBox$Flow" "drains" "[I", .fieldLink RX1 48 "SkinBox$Flow" "cells" "LSkinBox$Cells;", .fieldLink RX1 99 "SkinBox$Cells" "held" "[I", .constant RX1 60 (1000000), .fieldLink RX1 38 "SkinBox$Flow" "amount" "J"] ++ wsX10 ++ wsX00)
def wsX1_open_r1 : List Cond := [Cond.fieldLink RX1 38 "SkinBox$Flow" "amount" "J", Cond.fieldLink RX1 48 "SkinBox$Flow" "cells" "LSkinBox$Cells;", Cond.fieldLink RX1 78 "SkinBox$Cells" "size" "I", Cond.fieldLink RX1 18 "SkinBox$Flow" "passes" "[I", Cond.fieldLink RX1 89 "SkinBox$Cells" "beyond" "[I", Cond.fieldLink RX1 92 "SkinBox$Cells" "rules" "[I", Cond.methodLink RX1 81 yX0_ownCost, Cond.instanceMethod yX0_ownCost, Cond.selects RX0 yX0_ownCost yX0_ownCost, Cond.initialized RX0, Cond.code yX0_ownCost cX0_ownCost 4 (some .int), Cond.fieldLink RX0 18 "SkinBox$Cells" "prices" "[I", Cond.fieldLink RX0 27 "SkinBox$Cells" "beyond" "[I", Cond.fieldLink RX0 21 "SkinBox$Cells" "rules" "[I", Cond.methodLink RX1 85 yX1_openCell, Cond.instanceMethod yX1_openCell, Cond.selects RX1 yX1_openCell yX1_openCell, Cond.initialized RX1, Cond.code yX1_openCell cX1_openCell 3 none, Cond.fieldLink RX1 9 "SkinBox$Flow" "springs" "[I", Cond.fieldLink RX1 15 "SkinBox$Flow" "drains" "[I", Cond.fieldLink RX1 99 "SkinBox$Cells" "held" "[I", Cond.constant RX1 60 (1000000), Cond.methodLink RX1 95 yX0_seamCost]
def wsX1_open_r2 : List Cond := [Cond.instanceMethod yX0_seamCost, Cond.selects RX0 yX0_seamCost yX0_seamCost, Cond.code yX0_seamCost cX0_seamCost 7 (some .int), Cond.fieldLink RX0 24 "SkinBox$Cells" "places" "[I", Cond.methodLink RX0 54 Lib.Math.min.name, Cond.static Lib.Math.min.name, Cond.initialized "java/lang/Math", Cond.code Lib.Math.min.name Lib.Math.min.code 2 (some .int)]
def wsX1_open : List Cond := .code yX1_open cX1_open 4 none :: ((wsX1_open_r1 ++ wsX1_open_r2) ++ wsX10 ++ wsX00)
def wsX1_startAt : List Cond := .code yX1_startAt cX1_startAt 4 (some .int) :: ([.fieldLink RX1 48 "SkinBox$Flow" "cells" "LSkinBox$Cells;", .fieldLink RX1 78 "SkinBox$Cells" "size" "I", .fieldLink RX1 24 "SkinBox$Flow" "cameBy" "[I", .fieldLink RX1 27 "SkinBox$Flow" "queue" "[I"] ++ wsX10 ++ wsX00)
def wsX1_search : List Cond := .code yX1_search cX1_search 6 (some .int) :: ([.fieldLink RX1 9 "SkinBox$Flow" "springs" "[I", .fieldLink RX1 27 "SkinBox$Flow" "queue" "[I", .fieldLink RX1 15 "SkinBox$Flow" "drains" "[I", .fieldLink RX1 48 "SkinBox$Flow" "cells" "LSkinBox$Cells;", .fieldLink RX1 89 "SkinBox$Cells" "beyond" "[I", .fieldLink RX1 24 "SkinBox$Flow" "cameBy" "[I", .fieldLink RX1 18 "SkinBox$Flow" "passes" "[I", .fieldLink RX1 21 "SkinBox$Flow" "cameFrom" "[I", .methodLink RX1 102 yX1_startAt, .instanceMethod yX1_startAt, .selects RX1 yX1_startAt yX1_startAt, .initialized RX1, .code yX1_startAt cX1_startAt 4 (some .int), .fieldLink RX1 78 "SkinBox$Cells" "size" "I"] ++ wsX10 ++ wsX00)
def wsX1_pushTo : List Cond := .code yX1_pushTo cX1_pushTo 5 none :: ([.fieldLink RX1 15 "SkinBox$Flow" "drains" "[I", .fieldLink RX1 24 "SkinBox$Flow" "cameBy" "[I", .fieldLink RX1 18 "SkinBox$Flow" "passes" "[I", .fieldLink RX1 21 "SkinBox$Flow" "cameFrom" "[I", .methodLink RX1 106 Lib.Math.min.name, .static Lib.Math.min.name, .initialized "java/lang/Math", .code Lib.Math.min.name Lib.Math.min.code 2 (some .int), .fieldLink RX1 9 "SkinBox$Flow" "springs" "[I", .fieldLink RX1 38 "SkinBox$Flow" "amount" "J"] ++ wsX10)
def wsX1_seen : List Cond := .code yX1_seen cX1_seen 4 (some .long) :: ([.fieldLink RX1 48 "SkinBox$Flow" "cells" "LSkinBox$Cells;", .fieldLink RX1 78 "SkinBox$Cells" "size" "I", .fieldLink RX1 24 "SkinBox$Flow" "cameBy" "[I"] ++ wsX10 ++ wsX00)
def wsX1_searchBack : List Cond := .code yX1_searchBack cX1_searchBack 6 none :: ([.fieldLink RX1 15 "SkinBox$Flow" "drains" "[I", .fieldLink RX1 27 "SkinBox$Flow" "queue" "[I", .fieldLink RX1 48 "SkinBox$Flow" "cells" "LSkinBox$Cells;", .fieldLink RX1 89 "SkinBox$Cells" "beyond" "[I", .fieldLink RX1 24 "SkinBox$Flow" "cameBy" "[I", .fieldLink RX1 18 "SkinBox$Flow" "passes" "[I", .methodLink RX1 102 yX1_startAt, .instanceMethod yX1_startAt, .selects RX1 yX1_startAt yX1_startAt, .initialized RX1, .code yX1_startAt cX1_startAt 4 (some .int), .fieldLink RX1 78 "SkinBox$Cells" "size" "I"] ++ wsX10 ++ wsX00)
def wsX1_settle_r1 : List Cond := [Cond.fieldLink RX1 30 "SkinBox$Flow" "settled" "Z", Cond.fieldLink RX1 34 "SkinBox$Flow" "settledRise" "I", Cond.constant RX1 60 (1000000), Cond.fieldLink RX1 42 "SkinBox$Flow" "lowest" "J", Cond.fieldLink RX1 48 "SkinBox$Flow" "cells" "LSkinBox$Cells;", Cond.constantLong RX1 76 (-1), Cond.fieldLink RX1 45 "SkinBox$Flow" "highest" "J", Cond.methodLink RX1 52 yX1_open, Cond.instanceMethod yX1_open, Cond.selects RX1 yX1_open yX1_open, Cond.initialized RX1, Cond.code yX1_open cX1_open 4 none, Cond.fieldLink RX1 38 "SkinBox$Flow" "amount" "J", Cond.fieldLink RX1 78 "SkinBox$Cells" "size" "I", Cond.fieldLink RX1 18 "SkinBox$Flow" "passes" "[I", Cond.fieldLink RX1 89 "SkinBox$Cells" "beyond" "[I", Cond.fieldLink RX1 92 "SkinBox$Cells" "rules" "[I", Cond.methodLink RX1 81 yX0_ownCost, Cond.instanceMethod yX0_ownCost, Cond.selects RX0 yX0_ownCost yX0_ownCost, Cond.initialized RX0, Cond.code yX0_ownCost cX0_ownCost 4 (some .int), Cond.fieldLink RX0 18 "SkinBox$Cells" "prices" "[I", Cond.fieldLink RX0 27 "SkinBox$Cells" "beyond" "[I"]
def wsX1_settle_r2 : List Cond := [Cond.fieldLink RX0 21 "SkinBox$Cells" "rules" "[I", Cond.methodLink RX1 85 yX1_openCell, Cond.instanceMethod yX1_openCell, Cond.selects RX1 yX1_openCell yX1_openCell, Cond.code yX1_openCell cX1_openCell 3 none, Cond.fieldLink RX1 9 "SkinBox$Flow" "springs" "[I", Cond.fieldLink RX1 15 "SkinBox$Flow" "drains" "[I", Cond.fieldLink RX1 99 "SkinBox$Cells" "held" "[I", Cond.methodLink RX1 95 yX0_seamCost, Cond.instanceMethod yX0_seamCost, Cond.selects RX0 yX0_seamCost yX0_seamCost, Cond.code yX0_seamCost cX0_seamCost 7 (some .int), Cond.fieldLink RX0 24 "SkinBox$Cells" "places" "[I", Cond.methodLink RX0 54 Lib.Math.min.name, Cond.static Lib.Math.min.name, Cond.initialized "java/lang/Math", Cond.code Lib.Math.min.name Lib.Math.min.code 2 (some .int), Cond.methodLink RX1 56 yX1_search, Cond.instanceMethod yX1_search, Cond.selects RX1 yX1_search yX1_search, Cond.code yX1_search cX1_search 6 (some .int), Cond.fieldLink RX1 27 "SkinBox$Flow" "queue" "[I", Cond.fieldLink RX1 24 "SkinBox$Flow" "cameBy" "[I", Cond.fieldLink RX1 21 "SkinBox$Flow" "cameFrom" "[I"]
def wsX1_settle_r3 : List Cond := [Cond.methodLink RX1 102 yX1_startAt, Cond.instanceMethod yX1_startAt, Cond.selects RX1 yX1_startAt yX1_startAt, Cond.code yX1_startAt cX1_startAt 4 (some .int), Cond.methodLink RX1 61 yX1_pushTo, Cond.instanceMethod yX1_pushTo, Cond.selects RX1 yX1_pushTo yX1_pushTo, Cond.code yX1_pushTo cX1_pushTo 5 none, Cond.methodLink RX1 106 Lib.Math.min.name, Cond.methodLink RX1 64 yX1_seen, Cond.instanceMethod yX1_seen, Cond.selects RX1 yX1_seen yX1_seen, Cond.code yX1_seen cX1_seen 4 (some .long), Cond.methodLink RX1 68 yX1_searchBack, Cond.instanceMethod yX1_searchBack, Cond.selects RX1 yX1_searchBack yX1_searchBack, Cond.code yX1_searchBack cX1_searchBack 6 none, Cond.methodLink RX1 71 yX0_every, Cond.instanceMethod yX0_every, Cond.selects RX0 yX0_every yX0_every, Cond.code yX0_every cX0_every 1 (some .long), Cond.fieldLink RX0 30 "SkinBox$Cells" "size" "I"]
def wsX1_settle : List Cond := .code yX1_settle cX1_settle 4 none :: ((wsX1_settle_r1 ++ (wsX1_settle_r2 ++ wsX1_settle_r3)) ++ wsX10 ++ wsX00)
def wsX1_queueOpen : List Cond := .code yX1_queueOpen cX1_queueOpen 3 (some .int) :: ([.fieldLink RX1 48 "SkinBox$Flow" "cells" "LSkinBox$Cells;", .fieldLink RX1 78 "SkinBox$Cells" "size" "I", .fieldLink RX1 45 "SkinBox$Flow" "highest" "J", .fieldLink RX1 42 "SkinBox$Flow" "lowest" "J", .constantLong RX1 76 (-1), .fieldLink RX1 27 "SkinBox$Flow" "queue" "[I", .methodLink RX1 124 yX0_holds, .static yX0_holds, .initialized RX0, .code yX0_holds cX0_holds 3 (some .boolean)] ++ wsX10 ++ wsX00)
def wsJ6_bitCount_0f7a4 : List Cond := .code yJ6_bitCount_0f7a4 cJ6_bitCount_0f7a4 1 (some .int) :: ([.constant RJ6 265 (1431655765), .constant RJ6 266 (858993459), .constant RJ6 267 (252645135)])
def wsX1_leastSets_r1 : List Cond := [Cond.fieldLink RX1 42 "SkinBox$Flow" "lowest" "J", Cond.fieldLink RX1 27 "SkinBox$Flow" "queue" "[I", Cond.fieldLink RX1 48 "SkinBox$Flow" "cells" "LSkinBox$Cells;", Cond.methodLink RX1 112 yX1_queueOpen, Cond.instanceMethod yX1_queueOpen, Cond.selects RX1 yX1_queueOpen yX1_queueOpen, Cond.initialized RX1, Cond.code yX1_queueOpen cX1_queueOpen 3 (some .int), Cond.fieldLink RX1 78 "SkinBox$Cells" "size" "I", Cond.fieldLink RX1 45 "SkinBox$Flow" "highest" "J", Cond.constantLong RX1 76 (-1), Cond.methodLink RX1 124 yX0_holds, Cond.static yX0_holds, Cond.initialized RX0, Cond.code yX0_holds cX0_holds 3 (some .boolean), Cond.methodLink RX1 115 yJ6_bitCount_0f7a4, Cond.static yJ6_bitCount_0f7a4, Cond.initialized RJ6, Cond.code yJ6_bitCount_0f7a4 cJ6_bitCount_0f7a4 1 (some .int), Cond.constant RJ6 265 (1431655765), Cond.constant RJ6 266 (858993459), Cond.constant RJ6 267 (252645135), Cond.methodLink RX1 81 yX0_ownCost, Cond.instanceMethod yX0_ownCost]
def wsX1_leastSets_r2 : List Cond := [Cond.selects RX0 yX0_ownCost yX0_ownCost, Cond.code yX0_ownCost cX0_ownCost 4 (some .int), Cond.fieldLink RX0 18 "SkinBox$Cells" "prices" "[I", Cond.fieldLink RX0 27 "SkinBox$Cells" "beyond" "[I", Cond.fieldLink RX0 21 "SkinBox$Cells" "rules" "[I", Cond.methodLink RX1 120 yX0_seamsGrowth, Cond.instanceMethod yX0_seamsGrowth, Cond.selects RX0 yX0_seamsGrowth yX0_seamsGrowth, Cond.code yX0_seamsGrowth cX0_seamsGrowth 8 (some .int), Cond.methodLink RX0 60 yX0_seamCost, Cond.instanceMethod yX0_seamCost, Cond.selects RX0 yX0_seamCost yX0_seamCost, Cond.code yX0_seamCost cX0_seamCost 7 (some .int), Cond.fieldLink RX0 24 "SkinBox$Cells" "places" "[I", Cond.methodLink RX0 54 Lib.Math.min.name, Cond.static Lib.Math.min.name, Cond.initialized "java/lang/Math", Cond.code Lib.Math.min.name Lib.Math.min.code 2 (some .int), Cond.methodLink RX0 64 yX0_holds]
def wsX1_leastSets : List Cond := .code yX1_leastSets cX1_leastSets 9 (some .int) :: ((wsX1_leastSets_r1 ++ wsX1_leastSets_r2) ++ wsX10 ++ wsX00)
def wsX2_at : List Cond := .code yX2_at cX2_at 3 (some .int) :: ([])
def wsX2_spread : List Cond := .code yX2_spread cX2_spread 5 none :: ([.fieldLink RX2 22 "SkinBox$Points" "wide" "I", .fieldLink RX2 26 "SkinBox$Points" "high" "I", .fieldLink RX2 9 "SkinBox$Points" "heights" "[I", .fieldLink RX2 15 "SkinBox$Points" "pinned" "[Z", .methodLink RX2 33 yJ7_fill_53178, .static yJ7_fill_53178, .initialized RJ7, .code yJ7_fill_53178 cJ7_fill_53178 4 none, .methodLink RX2 39 yX2_at, .instanceMethod yX2_at, .selects RX2 yX2_at yX2_at, .initialized RX2, .code yX2_at cX2_at 3 (some .int)] ++ wsX20)
def wsX2_init : List Cond := .code yX2_init cX2_init 1 none :: ([.methodLink RX2 3 objectInit, .instanceMethod objectInit, .code objectInit ⟨#[0xb1]⟩ 1 none, .arrayClass .int, .fieldLink RX2 9 "SkinBox$Points" "heights" "[I", .arrayClass .boolean, .fieldLink RX2 15 "SkinBox$Points" "pinned" "[Z", .fieldLink RX2 19 "SkinBox$Points" "near" "[I", .fieldLink RX2 22 "SkinBox$Points" "wide" "I", .fieldLink RX2 26 "SkinBox$Points" "high" "I", .methodLink RX2 29 yX2_spread, .instanceMethod yX2_spread, .selects RX2 yX2_spread yX2_spread, .initialized RX2, .code yX2_spread cX2_spread 5 none, .methodLink RX2 33 yJ7_fill_53178, .static yJ7_fill_53178, .initialized RJ7, .code yJ7_fill_53178 cJ7_fill_53178 4 none, .methodLink RX2 39 yX2_at, .instanceMethod yX2_at, .selects RX2 yX2_at yX2_at, .code yX2_at cX2_at 3 (some .int)] ++ wsX20)
def wsX2_has : List Cond := .code yX2_has cX2_has 3 (some .boolean) :: ([.fieldLink RX2 22 "SkinBox$Points" "wide" "I", .fieldLink RX2 26 "SkinBox$Points" "high" "I"] ++ wsX20)
def wsX2_pins : List Cond := .code yX2_pins cX2_pins 4 (some .int) :: ([.fieldLink RX2 26 "SkinBox$Points" "high" "I", .fieldLink RX2 22 "SkinBox$Points" "wide" "I", .fieldLink RX2 15 "SkinBox$Points" "pinned" "[Z", .methodLink RX2 39 yX2_at, .instanceMethod yX2_at, .selects RX2 yX2_at yX2_at, .initialized RX2, .code yX2_at cX2_at 3 (some .int)] ++ wsX20)
def wsX2_difference : List Cond := .code yX2_difference cX2_difference 5 (some .int) :: ([.fieldLink RX2 9 "SkinBox$Points" "heights" "[I", .methodLink RX2 51 Lib.Math.abs.name, .static Lib.Math.abs.name, .initialized "java/lang/Math", .code Lib.Math.abs.name Lib.Math.abs.code 1 (some .int), .methodLink RX2 47 yX2_has, .instanceMethod yX2_has, .selects RX2 yX2_has yX2_has, .initialized RX2, .code yX2_has cX2_has 3 (some .boolean), .fieldLink RX2 22 "SkinBox$Points" "wide" "I", .fieldLink RX2 26 "SkinBox$Points" "high" "I", .methodLink RX2 39 yX2_at, .instanceMethod yX2_at, .selects RX2 yX2_at yX2_at, .code yX2_at cX2_at 3 (some .int)] ++ wsX20)
def wsX2_sumOfDifferences : List Cond := .code yX2_sumOfDifferences cX2_sumOfDifferences 4 (some .int) :: ([.fieldLink RX2 26 "SkinBox$Points" "high" "I", .fieldLink RX2 22 "SkinBox$Points" "wide" "I", .methodLink RX2 43 yX2_difference, .instanceMethod yX2_difference, .selects RX2 yX2_difference yX2_difference, .initialized RX2, .code yX2_difference cX2_difference 5 (some .int), .fieldLink RX2 9 "SkinBox$Points" "heights" "[I", .methodLink RX2 51 Lib.Math.abs.name, .static Lib.Math.abs.name, .initialized "java/lang/Math", .code Lib.Math.abs.name Lib.Math.abs.code 1 (some .int), .methodLink RX2 47 yX2_has, .instanceMethod yX2_has, .selects RX2 yX2_has yX2_has, .code yX2_has cX2_has 3 (some .boolean), .methodLink RX2 39 yX2_at, .instanceMethod yX2_at, .selects RX2 yX2_at yX2_at, .code yX2_at cX2_at 3 (some .int)] ++ wsX20)
def wsX2_putInOrder : List Cond := .code yX2_putInOrder cX2_putInOrder 6 (some .int) :: ([.fieldLink RX2 9 "SkinBox$Points" "heights" "[I", .fieldLink RX2 19 "SkinBox$Points" "near" "[I", .methodLink RX2 47 yX2_has, .instanceMethod yX2_has, .selects RX2 yX2_has yX2_has, .initialized RX2, .code yX2_has cX2_has 3 (some .boolean), .fieldLink RX2 22 "SkinBox$Points" "wide" "I", .fieldLink RX2 26 "SkinBox$Points" "high" "I", .methodLink RX2 39 yX2_at, .instanceMethod yX2_at, .selects RX2 yX2_at yX2_at, .code yX2_at cX2_at 3 (some .int)] ++ wsX20)
def wsX2_stepped_r1 : List Cond := [Cond.fieldLink RX2 9 "SkinBox$Points" "heights" "[I", Cond.fieldLink RX2 15 "SkinBox$Points" "pinned" "[Z", Cond.fieldLink RX2 19 "SkinBox$Points" "near" "[I", Cond.methodLink RX2 68 Lib.Math.min.name, Cond.static Lib.Math.min.name, Cond.initialized "java/lang/Math", Cond.code Lib.Math.min.name Lib.Math.min.code 2 (some .int), Cond.methodLink RX2 71 Lib.Math.max.name, Cond.static Lib.Math.max.name, Cond.code Lib.Math.max.name Lib.Math.max.code 2 (some .int), Cond.methodLink RX2 39 yX2_at, Cond.instanceMethod yX2_at, Cond.selects RX2 yX2_at yX2_at, Cond.initialized RX2, Cond.code yX2_at cX2_at 3 (some .int), Cond.methodLink RX2 64 yX2_putInOrder, Cond.instanceMethod yX2_putInOrder, Cond.selects RX2 yX2_putInOrder yX2_putInOrder, Cond.code yX2_putInOrder cX2_putInOrder 6 (some .int), Cond.methodLink RX2 47 yX2_has, Cond.instanceMethod yX2_has, Cond.selects RX2 yX2_has yX2_has, Cond.code yX2_has cX2_has 3 (some .boolean), Cond.fieldLink RX2 22 "SkinBox$Points" "wide" "I"]
def wsX2_stepped_r2 : List Cond := [Cond.fieldLink RX2 26 "SkinBox$Points" "high" "I"]
def wsX2_stepped : List Cond := .code yX2_stepped cX2_stepped 7 (some .int) :: ((wsX2_stepped_r1 ++ wsX2_stepped_r2) ++ wsX20)
def wsX2_sumOfChanges_r1 : List Cond := [Cond.fieldLink RX2 26 "SkinBox$Points" "high" "I", Cond.fieldLink RX2 22 "SkinBox$Points" "wide" "I", Cond.fieldLink RX2 9 "SkinBox$Points" "heights" "[I", Cond.methodLink RX2 51 Lib.Math.abs.name, Cond.static Lib.Math.abs.name, Cond.initialized "java/lang/Math", Cond.code Lib.Math.abs.name Lib.Math.abs.code 1 (some .int), Cond.methodLink RX2 57 yX2_stepped, Cond.instanceMethod yX2_stepped, Cond.selects RX2 yX2_stepped yX2_stepped, Cond.initialized RX2, Cond.code yX2_stepped cX2_stepped 7 (some .int), Cond.fieldLink RX2 15 "SkinBox$Points" "pinned" "[Z", Cond.fieldLink RX2 19 "SkinBox$Points" "near" "[I", Cond.methodLink RX2 68 Lib.Math.min.name, Cond.static Lib.Math.min.name, Cond.code Lib.Math.min.name Lib.Math.min.code 2 (some .int), Cond.methodLink RX2 71 Lib.Math.max.name, Cond.static Lib.Math.max.name, Cond.code Lib.Math.max.name Lib.Math.max.code 2 (some .int), Cond.methodLink RX2 39 yX2_at, Cond.instanceMethod yX2_at, Cond.selects RX2 yX2_at yX2_at, Cond.code yX2_at cX2_at 3 (some .int)]
def wsX2_sumOfChanges_r2 : List Cond := [Cond.methodLink RX2 64 yX2_putInOrder, Cond.instanceMethod yX2_putInOrder, Cond.selects RX2 yX2_putInOrder yX2_putInOrder, Cond.code yX2_putInOrder cX2_putInOrder 6 (some .int), Cond.methodLink RX2 47 yX2_has, Cond.instanceMethod yX2_has, Cond.selects RX2 yX2_has yX2_has, Cond.code yX2_has cX2_has 3 (some .boolean)]
def wsX2_sumOfChanges : List Cond := .code yX2_sumOfChanges cX2_sumOfChanges 4 (some .int) :: ((wsX2_sumOfChanges_r1 ++ wsX2_sumOfChanges_r2) ++ wsX20)
def wsX2_isAtRest_r1 : List Cond := [Cond.methodLink RX2 60 yX2_sumOfChanges, Cond.instanceMethod yX2_sumOfChanges, Cond.selects RX2 yX2_sumOfChanges yX2_sumOfChanges, Cond.initialized RX2, Cond.code yX2_sumOfChanges cX2_sumOfChanges 4 (some .int), Cond.fieldLink RX2 26 "SkinBox$Points" "high" "I", Cond.fieldLink RX2 22 "SkinBox$Points" "wide" "I", Cond.fieldLink RX2 9 "SkinBox$Points" "heights" "[I", Cond.methodLink RX2 51 Lib.Math.abs.name, Cond.static Lib.Math.abs.name, Cond.initialized "java/lang/Math", Cond.code Lib.Math.abs.name Lib.Math.abs.code 1 (some .int), Cond.methodLink RX2 57 yX2_stepped, Cond.instanceMethod yX2_stepped, Cond.selects RX2 yX2_stepped yX2_stepped, Cond.code yX2_stepped cX2_stepped 7 (some .int), Cond.fieldLink RX2 15 "SkinBox$Points" "pinned" "[Z", Cond.fieldLink RX2 19 "SkinBox$Points" "near" "[I", Cond.methodLink RX2 68 Lib.Math.min.name, Cond.static Lib.Math.min.name, Cond.code Lib.Math.min.name Lib.Math.min.code 2 (some .int), Cond.methodLink RX2 71 Lib.Math.max.name, Cond.static Lib.Math.max.name, Cond.code Lib.Math.max.name Lib.Math.max.code 2 (some .int)]
def wsX2_isAtRest_r2 : List Cond := [Cond.methodLink RX2 39 yX2_at, Cond.instanceMethod yX2_at, Cond.selects RX2 yX2_at yX2_at, Cond.code yX2_at cX2_at 3 (some .int), Cond.methodLink RX2 64 yX2_putInOrder, Cond.instanceMethod yX2_putInOrder, Cond.selects RX2 yX2_putInOrder yX2_putInOrder, Cond.code yX2_putInOrder cX2_putInOrder 6 (some .int), Cond.methodLink RX2 47 yX2_has, Cond.instanceMethod yX2_has, Cond.selects RX2 yX2_has yX2_has, Cond.code yX2_has cX2_has 3 (some .boolean)]
def wsX2_isAtRest : List Cond := .code yX2_isAtRest cX2_isAtRest 1 (some .boolean) :: ((wsX2_isAtRest_r1 ++ wsX2_isAtRest_r2) ++ wsX20)
def wsX2_stepAtEach_r1 : List Cond := [Cond.fieldLink RX2 26 "SkinBox$Points" "high" "I", Cond.fieldLink RX2 22 "SkinBox$Points" "wide" "I", Cond.fieldLink RX2 9 "SkinBox$Points" "heights" "[I", Cond.methodLink RX2 39 yX2_at, Cond.instanceMethod yX2_at, Cond.selects RX2 yX2_at yX2_at, Cond.initialized RX2, Cond.code yX2_at cX2_at 3 (some .int), Cond.methodLink RX2 57 yX2_stepped, Cond.instanceMethod yX2_stepped, Cond.selects RX2 yX2_stepped yX2_stepped, Cond.code yX2_stepped cX2_stepped 7 (some .int), Cond.fieldLink RX2 15 "SkinBox$Points" "pinned" "[Z", Cond.fieldLink RX2 19 "SkinBox$Points" "near" "[I", Cond.methodLink RX2 68 Lib.Math.min.name, Cond.static Lib.Math.min.name, Cond.initialized "java/lang/Math", Cond.code Lib.Math.min.name Lib.Math.min.code 2 (some .int), Cond.methodLink RX2 71 Lib.Math.max.name, Cond.static Lib.Math.max.name, Cond.code Lib.Math.max.name Lib.Math.max.code 2 (some .int), Cond.methodLink RX2 64 yX2_putInOrder, Cond.instanceMethod yX2_putInOrder, Cond.selects RX2 yX2_putInOrder yX2_putInOrder]
def wsX2_stepAtEach_r2 : List Cond := [Cond.code yX2_putInOrder cX2_putInOrder 6 (some .int), Cond.methodLink RX2 47 yX2_has, Cond.instanceMethod yX2_has, Cond.selects RX2 yX2_has yX2_has, Cond.code yX2_has cX2_has 3 (some .boolean)]
def wsX2_stepAtEach : List Cond := .code yX2_stepAtEach cX2_stepAtEach 3 none :: ((wsX2_stepAtEach_r1 ++ wsX2_stepAtEach_r2) ++ wsX20)
def wsX3_init_r1 : List Cond := [Cond.methodLink RX3 1 objectInit, Cond.instanceMethod objectInit, Cond.code objectInit ⟨#[0xb1]⟩ 1 none, Cond.classLink RX3 7 RX0, Cond.instantiable RX0 7, Cond.initialized RX0, Cond.fieldLink RX3 10 "SkinBox" "cells" "LSkinBox$Cells;", Cond.classLink RX3 16 RX1, Cond.instantiable RX1 12, Cond.initialized RX1, Cond.fieldLink RX3 21 "SkinBox" "flow" "LSkinBox$Flow;", Cond.classLink RX3 25 RX2, Cond.instantiable RX2 5, Cond.initialized RX2, Cond.fieldLink RX3 28 "SkinBox" "points" "LSkinBox$Points;", Cond.fieldLink RX3 32 "SkinBox" "asked" "J", Cond.methodLink RX3 9 yX0_init, Cond.instanceMethod yX0_init, Cond.code yX0_init cX0_init 1 none, Cond.methodLink RX0 3 objectInit, Cond.arrayClass .int, Cond.fieldLink RX0 9 "SkinBox$Cells" "sides" "[I", Cond.fieldLink RX0 15 "SkinBox$Cells" "held" "[I", Cond.fieldLink RX0 18 "SkinBox$Cells" "prices" "[I"]
def wsX3_init_r2 : List Cond := [Cond.fieldLink RX0 21 "SkinBox$Cells" "rules" "[I", Cond.fieldLink RX0 24 "SkinBox$Cells" "places" "[I", Cond.fieldLink RX0 27 "SkinBox$Cells" "beyond" "[I", Cond.fieldLink RX0 30 "SkinBox$Cells" "size" "I", Cond.methodLink RX0 34 yX0_lay, Cond.instanceMethod yX0_lay, Cond.selects RX0 yX0_lay yX0_lay, Cond.code yX0_lay cX0_lay 8 none, Cond.methodLink RX0 38 yJ7_fill_53178, Cond.static yJ7_fill_53178, Cond.initialized RJ7, Cond.code yJ7_fill_53178 cJ7_fill_53178 4 none, Cond.methodLink RX0 44 yX0_layAlong, Cond.instanceMethod yX0_layAlong, Cond.selects RX0 yX0_layAlong yX0_layAlong, Cond.code yX0_layAlong cX0_layAlong 6 none, Cond.methodLink RX3 18 yX1_init, Cond.instanceMethod yX1_init, Cond.code yX1_init cX1_init 2 none, Cond.methodLink RX1 3 objectInit, Cond.fieldLink RX1 9 "SkinBox$Flow" "springs" "[I", Cond.fieldLink RX1 15 "SkinBox$Flow" "drains" "[I", Cond.fieldLink RX1 18 "SkinBox$Flow" "passes" "[I", Cond.fieldLink RX1 21 "SkinBox$Flow" "cameFrom" "[I"]
def wsX3_init_r3 : List Cond := [Cond.fieldLink RX1 24 "SkinBox$Flow" "cameBy" "[I", Cond.fieldLink RX1 27 "SkinBox$Flow" "queue" "[I", Cond.fieldLink RX1 30 "SkinBox$Flow" "settled" "Z", Cond.fieldLink RX1 34 "SkinBox$Flow" "settledRise" "I", Cond.fieldLink RX1 38 "SkinBox$Flow" "amount" "J", Cond.fieldLink RX1 42 "SkinBox$Flow" "lowest" "J", Cond.fieldLink RX1 45 "SkinBox$Flow" "highest" "J", Cond.fieldLink RX1 48 "SkinBox$Flow" "cells" "LSkinBox$Cells;", Cond.methodLink RX3 27 yX2_init, Cond.instanceMethod yX2_init, Cond.code yX2_init cX2_init 1 none, Cond.methodLink RX2 3 objectInit, Cond.fieldLink RX2 9 "SkinBox$Points" "heights" "[I", Cond.arrayClass .boolean, Cond.fieldLink RX2 15 "SkinBox$Points" "pinned" "[Z", Cond.fieldLink RX2 19 "SkinBox$Points" "near" "[I", Cond.fieldLink RX2 22 "SkinBox$Points" "wide" "I", Cond.fieldLink RX2 26 "SkinBox$Points" "high" "I", Cond.methodLink RX2 29 yX2_spread, Cond.instanceMethod yX2_spread, Cond.selects RX2 yX2_spread yX2_spread, Cond.code yX2_spread cX2_spread 5 none, Cond.methodLink RX2 33 yJ7_fill_53178, Cond.methodLink RX2 39 yX2_at]
def wsX3_init_r4 : List Cond := [Cond.instanceMethod yX2_at, Cond.selects RX2 yX2_at yX2_at, Cond.code yX2_at cX2_at 3 (some .int)]
def wsX3_init : List Cond := .code yX3_init cX3_init 1 none :: ((wsX3_init_r1 ++ (wsX3_init_r2 ++ (wsX3_init_r3 ++ wsX3_init_r4))) ++ wsX00 ++ wsX30 ++ wsX10 ++ wsX20)
def wsX3_within : List Cond := .code yX3_within cX3_within 3 (some .boolean) :: ([])
def wsX3_box_r1 : List Cond := [Cond.fieldLink RX3 10 "SkinBox" "cells" "LSkinBox$Cells;", Cond.fieldLink RX3 21 "SkinBox" "flow" "LSkinBox$Flow;", Cond.fieldLink RX3 47 "SkinBox$Cells" "size" "I", Cond.methodLink RX3 36 yX3_within, Cond.static yX3_within, Cond.initialized RX3, Cond.code yX3_within cX3_within 3 (some .boolean), Cond.methodLink RX3 40 yX0_lay, Cond.instanceMethod yX0_lay, Cond.selects RX0 yX0_lay yX0_lay, Cond.initialized RX0, Cond.code yX0_lay cX0_lay 8 none, Cond.fieldLink RX0 9 "SkinBox$Cells" "sides" "[I", Cond.fieldLink RX0 30 "SkinBox$Cells" "size" "I", Cond.fieldLink RX0 15 "SkinBox$Cells" "held" "[I", Cond.fieldLink RX0 18 "SkinBox$Cells" "prices" "[I", Cond.methodLink RX0 38 yJ7_fill_53178, Cond.static yJ7_fill_53178, Cond.initialized RJ7, Cond.code yJ7_fill_53178 cJ7_fill_53178 4 none, Cond.methodLink RX0 44 yX0_layAlong, Cond.instanceMethod yX0_layAlong, Cond.selects RX0 yX0_layAlong yX0_layAlong, Cond.code yX0_layAlong cX0_layAlong 6 none]
def wsX3_box_r2 : List Cond := [Cond.fieldLink RX0 24 "SkinBox$Cells" "places" "[I", Cond.fieldLink RX0 27 "SkinBox$Cells" "beyond" "[I", Cond.methodLink RX3 44 yX1_forget, Cond.instanceMethod yX1_forget, Cond.selects RX1 yX1_forget yX1_forget, Cond.initialized RX1, Cond.code yX1_forget cX1_forget 1 none, Cond.fieldLink RX1 30 "SkinBox$Flow" "settled" "Z"]
def wsX3_box : List Cond := .code yX3_box cX3_box 4 (some .int) :: ((wsX3_box_r1 ++ wsX3_box_r2) ++ wsX30 ++ wsX00 ++ wsX10)
def wsX3_hold : List Cond := .code yX3_hold cX3_hold 4 (some .int) :: ([.fieldLink RX3 10 "SkinBox" "cells" "LSkinBox$Cells;", .fieldLink RX3 55 "SkinBox$Cells" "held" "[I", .fieldLink RX3 21 "SkinBox" "flow" "LSkinBox$Flow;", .methodLink RX3 51 yX0_has, .instanceMethod yX0_has, .selects RX0 yX0_has yX0_has, .initialized RX0, .code yX0_has cX0_has 2 (some .boolean), .fieldLink RX0 30 "SkinBox$Cells" "size" "I", .methodLink RX3 36 yX3_within, .static yX3_within, .initialized RX3, .code yX3_within cX3_within 3 (some .boolean), .methodLink RX3 44 yX1_forget, .instanceMethod yX1_forget, .selects RX1 yX1_forget yX1_forget, .initialized RX1, .code yX1_forget cX1_forget 1 none, .fieldLink RX1 30 "SkinBox$Flow" "settled" "Z"] ++ wsX30 ++ wsX00 ++ wsX10)
def wsX3_price : List Cond := .code yX3_price cX3_price 4 (some .int) :: ([.fieldLink RX3 10 "SkinBox" "cells" "LSkinBox$Cells;", .constant RX3 59 (-1000000), .fieldLink RX3 60 "SkinBox$Cells" "prices" "[I", .fieldLink RX3 21 "SkinBox" "flow" "LSkinBox$Flow;", .methodLink RX3 51 yX0_has, .instanceMethod yX0_has, .selects RX0 yX0_has yX0_has, .initialized RX0, .code yX0_has cX0_has 2 (some .boolean), .fieldLink RX0 30 "SkinBox$Cells" "size" "I", .methodLink RX3 36 yX3_within, .static yX3_within, .initialized RX3, .code yX3_within cX3_within 3 (some .boolean), .methodLink RX3 44 yX1_forget, .instanceMethod yX1_forget, .selects RX1 yX1_forget yX1_forget, .initialized RX1, .code yX1_forget cX1_forget 1 none, .fieldLink RX1 30 "SkinBox$Flow" "settled" "Z"] ++ wsX30 ++ wsX00 ++ wsX10)
def wsX3_set : List Cond := .code yX3_set cX3_set 4 (some .int) :: ([.fieldLink RX3 63 "SkinBox" "LOWEST_RULE" "[I", .fieldLink RX3 66 "SkinBox" "HIGHEST_RULE" "[I", .fieldLink RX3 10 "SkinBox" "cells" "LSkinBox$Cells;", .fieldLink RX3 69 "SkinBox$Cells" "rules" "[I", .fieldLink RX3 21 "SkinBox" "flow" "LSkinBox$Flow;", .methodLink RX3 36 yX3_within, .static yX3_within, .initialized RX3, .code yX3_within cX3_within 3 (some .boolean), .methodLink RX3 44 yX1_forget, .instanceMethod yX1_forget, .selects RX1 yX1_forget yX1_forget, .initialized RX1, .code yX1_forget cX1_forget 1 none, .fieldLink RX1 30 "SkinBox$Flow" "settled" "Z"] ++ wsX30 ++ wsX00 ++ wsX10)
def wsX3_cost_r1 : List Cond := [Cond.fieldLink RX3 10 "SkinBox" "cells" "LSkinBox$Cells;", Cond.fieldLink RX3 32 "SkinBox" "asked" "J", Cond.fieldLink RX3 76 "SkinBox" "MARKS" "[I", Cond.methodLink RX3 36 yX3_within, Cond.static yX3_within, Cond.initialized RX3, Cond.code yX3_within cX3_within 3 (some .boolean), Cond.methodLink RX3 51 yX0_has, Cond.instanceMethod yX0_has, Cond.selects RX0 yX0_has yX0_has, Cond.initialized RX0, Cond.code yX0_has cX0_has 2 (some .boolean), Cond.fieldLink RX0 30 "SkinBox$Cells" "size" "I", Cond.methodLink RX3 72 yX0_sideTowards, Cond.instanceMethod yX0_sideTowards, Cond.selects RX0 yX0_sideTowards yX0_sideTowards, Cond.code yX0_sideTowards cX0_sideTowards 4 (some .int), Cond.fieldLink RX0 27 "SkinBox$Cells" "beyond" "[I", Cond.methodLink RX3 79 yX0_seamCost, Cond.instanceMethod yX0_seamCost, Cond.selects RX0 yX0_seamCost yX0_seamCost, Cond.code yX0_seamCost cX0_seamCost 7 (some .int), Cond.fieldLink RX0 24 "SkinBox$Cells" "places" "[I", Cond.fieldLink RX0 21 "SkinBox$Cells" "rules" "[I"]
def wsX3_cost_r2 : List Cond := [Cond.methodLink RX0 54 Lib.Math.min.name, Cond.static Lib.Math.min.name, Cond.initialized "java/lang/Math", Cond.code Lib.Math.min.name Lib.Math.min.code 2 (some .int)]
def wsX3_cost : List Cond := .code yX3_cost cX3_cost 5 (some .int) :: ((wsX3_cost_r1 ++ wsX3_cost_r2) ++ wsX30 ++ wsX00)
def wsX3_skin_r1 : List Cond := [Cond.fieldLink RX3 10 "SkinBox" "cells" "LSkinBox$Cells;", Cond.constantLong RX3 91 (-1), Cond.methodLink RX3 83 yX0_isSet, Cond.instanceMethod yX0_isSet, Cond.selects RX0 yX0_isSet yX0_isSet, Cond.initialized RX0, Cond.code yX0_isSet cX0_isSet 3 (some .boolean), Cond.constantLong RX0 52 (-1), Cond.methodLink RX0 48 yX0_every, Cond.instanceMethod yX0_every, Cond.selects RX0 yX0_every yX0_every, Cond.code yX0_every cX0_every 1 (some .long), Cond.fieldLink RX0 30 "SkinBox$Cells" "size" "I", Cond.methodLink RX3 87 yX0_skinOf, Cond.instanceMethod yX0_skinOf, Cond.selects RX0 yX0_skinOf yX0_skinOf, Cond.code yX0_skinOf cX0_skinOf 6 (some .long), Cond.methodLink RX0 64 yX0_holds, Cond.static yX0_holds, Cond.code yX0_holds cX0_holds 3 (some .boolean), Cond.methodLink RX0 68 yX0_skinOfCell, Cond.instanceMethod yX0_skinOfCell, Cond.selects RX0 yX0_skinOfCell yX0_skinOfCell, Cond.code yX0_skinOfCell cX0_skinOfCell 7 (some .int)]
def wsX3_skin_r2 : List Cond := [Cond.fieldLink RX0 27 "SkinBox$Cells" "beyond" "[I", Cond.fieldLink RX0 21 "SkinBox$Cells" "rules" "[I", Cond.methodLink RX0 60 yX0_seamCost, Cond.instanceMethod yX0_seamCost, Cond.selects RX0 yX0_seamCost yX0_seamCost, Cond.code yX0_seamCost cX0_seamCost 7 (some .int), Cond.fieldLink RX0 24 "SkinBox$Cells" "places" "[I", Cond.methodLink RX0 54 Lib.Math.min.name, Cond.static Lib.Math.min.name, Cond.initialized "java/lang/Math", Cond.code Lib.Math.min.name Lib.Math.min.code 2 (some .int)]
def wsX3_skin : List Cond := .code yX3_skin cX3_skin 3 (some .long) :: ((wsX3_skin_r1 ++ wsX3_skin_r2) ++ wsX30 ++ wsX00)
def wsX3_all_r1 : List Cond := [Cond.fieldLink RX3 10 "SkinBox" "cells" "LSkinBox$Cells;", Cond.constantLong RX3 96 (-1000000), Cond.methodLink RX3 83 yX0_isSet, Cond.instanceMethod yX0_isSet, Cond.selects RX0 yX0_isSet yX0_isSet, Cond.initialized RX0, Cond.code yX0_isSet cX0_isSet 3 (some .boolean), Cond.constantLong RX0 52 (-1), Cond.methodLink RX0 48 yX0_every, Cond.instanceMethod yX0_every, Cond.selects RX0 yX0_every yX0_every, Cond.code yX0_every cX0_every 1 (some .long), Cond.fieldLink RX0 30 "SkinBox$Cells" "size" "I", Cond.methodLink RX3 87 yX0_skinOf, Cond.instanceMethod yX0_skinOf, Cond.selects RX0 yX0_skinOf yX0_skinOf, Cond.code yX0_skinOf cX0_skinOf 6 (some .long), Cond.methodLink RX0 64 yX0_holds, Cond.static yX0_holds, Cond.code yX0_holds cX0_holds 3 (some .boolean), Cond.methodLink RX0 68 yX0_skinOfCell, Cond.instanceMethod yX0_skinOfCell, Cond.selects RX0 yX0_skinOfCell yX0_skinOfCell, Cond.code yX0_skinOfCell cX0_skinOfCell 7 (some .int)]
def wsX3_all_r2 : List Cond := [Cond.fieldLink RX0 27 "SkinBox$Cells" "beyond" "[I", Cond.fieldLink RX0 21 "SkinBox$Cells" "rules" "[I", Cond.methodLink RX0 60 yX0_seamCost, Cond.instanceMethod yX0_seamCost, Cond.selects RX0 yX0_seamCost yX0_seamCost, Cond.code yX0_seamCost cX0_seamCost 7 (some .int), Cond.fieldLink RX0 24 "SkinBox$Cells" "places" "[I", Cond.methodLink RX0 54 Lib.Math.min.name, Cond.static Lib.Math.min.name, Cond.initialized "java/lang/Math", Cond.code Lib.Math.min.name Lib.Math.min.code 2 (some .int), Cond.methodLink RX3 93 yX0_pricesOf, Cond.instanceMethod yX0_pricesOf, Cond.selects RX0 yX0_pricesOf yX0_pricesOf, Cond.code yX0_pricesOf cX0_pricesOf 6 (some .long), Cond.fieldLink RX0 18 "SkinBox$Cells" "prices" "[I"]
def wsX3_all : List Cond := .code yX3_all cX3_all 3 (some .long) :: ((wsX3_all_r1 ++ wsX3_all_r2) ++ wsX30 ++ wsX00)
def wsX3_right : List Cond := .code yX3_right cX3_right 3 (some .int) :: ([.fieldLink RX3 10 "SkinBox" "cells" "LSkinBox$Cells;", .methodLink RX3 83 yX0_isSet, .instanceMethod yX0_isSet, .selects RX0 yX0_isSet yX0_isSet, .initialized RX0, .code yX0_isSet cX0_isSet 3 (some .boolean), .constantLong RX0 52 (-1), .methodLink RX0 48 yX0_every, .instanceMethod yX0_every, .selects RX0 yX0_every yX0_every, .code yX0_every cX0_every 1 (some .long), .fieldLink RX0 30 "SkinBox$Cells" "size" "I", .methodLink RX3 98 yX0_isRight, .instanceMethod yX0_isRight, .selects RX0 yX0_isRight yX0_isRight, .code yX0_isRight cX0_isRight 4 (some .boolean), .fieldLink RX0 15 "SkinBox$Cells" "held" "[I", .methodLink RX0 64 yX0_holds, .static yX0_holds, .code yX0_holds cX0_holds 3 (some .boolean)] ++ wsX30 ++ wsX00)
def wsX3_least_r1 : List Cond := [Cond.fieldLink RX3 21 "SkinBox" "flow" "LSkinBox$Flow;", Cond.fieldLink RX3 105 "SkinBox$Flow" "amount" "J", Cond.methodLink RX3 101 yX1_settle, Cond.instanceMethod yX1_settle, Cond.selects RX1 yX1_settle yX1_settle, Cond.initialized RX1, Cond.code yX1_settle cX1_settle 4 none, Cond.fieldLink RX1 30 "SkinBox$Flow" "settled" "Z", Cond.fieldLink RX1 34 "SkinBox$Flow" "settledRise" "I", Cond.constant RX1 60 (1000000), Cond.fieldLink RX1 42 "SkinBox$Flow" "lowest" "J", Cond.fieldLink RX1 48 "SkinBox$Flow" "cells" "LSkinBox$Cells;", Cond.constantLong RX1 76 (-1), Cond.fieldLink RX1 45 "SkinBox$Flow" "highest" "J", Cond.methodLink RX1 52 yX1_open, Cond.instanceMethod yX1_open, Cond.selects RX1 yX1_open yX1_open, Cond.code yX1_open cX1_open 4 none, Cond.fieldLink RX1 38 "SkinBox$Flow" "amount" "J", Cond.fieldLink RX1 78 "SkinBox$Cells" "size" "I", Cond.fieldLink RX1 18 "SkinBox$Flow" "passes" "[I", Cond.fieldLink RX1 89 "SkinBox$Cells" "beyond" "[I", Cond.fieldLink RX1 92 "SkinBox$Cells" "rules" "[I", Cond.methodLink RX1 81 yX0_ownCost]
def wsX3_least_r2 : List Cond := [Cond.instanceMethod yX0_ownCost, Cond.selects RX0 yX0_ownCost yX0_ownCost, Cond.initialized RX0, Cond.code yX0_ownCost cX0_ownCost 4 (some .int), Cond.fieldLink RX0 18 "SkinBox$Cells" "prices" "[I", Cond.fieldLink RX0 27 "SkinBox$Cells" "beyond" "[I", Cond.fieldLink RX0 21 "SkinBox$Cells" "rules" "[I", Cond.methodLink RX1 85 yX1_openCell, Cond.instanceMethod yX1_openCell, Cond.selects RX1 yX1_openCell yX1_openCell, Cond.code yX1_openCell cX1_openCell 3 none, Cond.fieldLink RX1 9 "SkinBox$Flow" "springs" "[I", Cond.fieldLink RX1 15 "SkinBox$Flow" "drains" "[I", Cond.fieldLink RX1 99 "SkinBox$Cells" "held" "[I", Cond.methodLink RX1 95 yX0_seamCost, Cond.instanceMethod yX0_seamCost, Cond.selects RX0 yX0_seamCost yX0_seamCost, Cond.code yX0_seamCost cX0_seamCost 7 (some .int), Cond.fieldLink RX0 24 "SkinBox$Cells" "places" "[I", Cond.methodLink RX0 54 Lib.Math.min.name, Cond.static Lib.Math.min.name, Cond.initialized "java/lang/Math", Cond.code Lib.Math.min.name Lib.Math.min.code 2 (some .int), Cond.methodLink RX1 56 yX1_search]
def wsX3_least_r3 : List Cond := [Cond.instanceMethod yX1_search, Cond.selects RX1 yX1_search yX1_search, Cond.code yX1_search cX1_search 6 (some .int), Cond.fieldLink RX1 27 "SkinBox$Flow" "queue" "[I", Cond.fieldLink RX1 24 "SkinBox$Flow" "cameBy" "[I", Cond.fieldLink RX1 21 "SkinBox$Flow" "cameFrom" "[I", Cond.methodLink RX1 102 yX1_startAt, Cond.instanceMethod yX1_startAt, Cond.selects RX1 yX1_startAt yX1_startAt, Cond.code yX1_startAt cX1_startAt 4 (some .int), Cond.methodLink RX1 61 yX1_pushTo, Cond.instanceMethod yX1_pushTo, Cond.selects RX1 yX1_pushTo yX1_pushTo, Cond.code yX1_pushTo cX1_pushTo 5 none, Cond.methodLink RX1 106 Lib.Math.min.name, Cond.methodLink RX1 64 yX1_seen, Cond.instanceMethod yX1_seen, Cond.selects RX1 yX1_seen yX1_seen, Cond.code yX1_seen cX1_seen 4 (some .long), Cond.methodLink RX1 68 yX1_searchBack, Cond.instanceMethod yX1_searchBack, Cond.selects RX1 yX1_searchBack yX1_searchBack, Cond.code yX1_searchBack cX1_searchBack 6 none, Cond.methodLink RX1 71 yX0_every]
def wsX3_least_r4 : List Cond := [Cond.instanceMethod yX0_every, Cond.selects RX0 yX0_every yX0_every, Cond.code yX0_every cX0_every 1 (some .long), Cond.fieldLink RX0 30 "SkinBox$Cells" "size" "I"]
def wsX3_least : List Cond := .code yX3_least cX3_least 1 (some .long) :: ((wsX3_least_r1 ++ (wsX3_least_r2 ++ (wsX3_least_r3 ++ wsX3_least_r4))) ++ wsX30 ++ wsX10 ++ wsX00)
def wsX3_film_r1 : List Cond := [Cond.constantLong RX3 91 (-1), Cond.fieldLink RX3 21 "SkinBox" "flow" "LSkinBox$Flow;", Cond.fieldLink RX3 108 "SkinBox$Flow" "lowest" "J", Cond.fieldLink RX3 111 "SkinBox$Flow" "highest" "J", Cond.methodLink RX3 36 yX3_within, Cond.static yX3_within, Cond.initialized RX3, Cond.code yX3_within cX3_within 3 (some .boolean), Cond.methodLink RX3 101 yX1_settle, Cond.instanceMethod yX1_settle, Cond.selects RX1 yX1_settle yX1_settle, Cond.initialized RX1, Cond.code yX1_settle cX1_settle 4 none, Cond.fieldLink RX1 30 "SkinBox$Flow" "settled" "Z", Cond.fieldLink RX1 34 "SkinBox$Flow" "settledRise" "I", Cond.constant RX1 60 (1000000), Cond.fieldLink RX1 42 "SkinBox$Flow" "lowest" "J", Cond.fieldLink RX1 48 "SkinBox$Flow" "cells" "LSkinBox$Cells;", Cond.constantLong RX1 76 (-1), Cond.fieldLink RX1 45 "SkinBox$Flow" "highest" "J", Cond.methodLink RX1 52 yX1_open, Cond.instanceMethod yX1_open, Cond.selects RX1 yX1_open yX1_open, Cond.code yX1_open cX1_open 4 none]
def wsX3_film_r2 : List Cond := [Cond.fieldLink RX1 38 "SkinBox$Flow" "amount" "J", Cond.fieldLink RX1 78 "SkinBox$Cells" "size" "I", Cond.fieldLink RX1 18 "SkinBox$Flow" "passes" "[I", Cond.fieldLink RX1 89 "SkinBox$Cells" "beyond" "[I", Cond.fieldLink RX1 92 "SkinBox$Cells" "rules" "[I", Cond.methodLink RX1 81 yX0_ownCost, Cond.instanceMethod yX0_ownCost, Cond.selects RX0 yX0_ownCost yX0_ownCost, Cond.initialized RX0, Cond.code yX0_ownCost cX0_ownCost 4 (some .int), Cond.fieldLink RX0 18 "SkinBox$Cells" "prices" "[I", Cond.fieldLink RX0 27 "SkinBox$Cells" "beyond" "[I", Cond.fieldLink RX0 21 "SkinBox$Cells" "rules" "[I", Cond.methodLink RX1 85 yX1_openCell, Cond.instanceMethod yX1_openCell, Cond.selects RX1 yX1_openCell yX1_openCell, Cond.code yX1_openCell cX1_openCell 3 none, Cond.fieldLink RX1 9 "SkinBox$Flow" "springs" "[I", Cond.fieldLink RX1 15 "SkinBox$Flow" "drains" "[I", Cond.fieldLink RX1 99 "SkinBox$Cells" "held" "[I", Cond.methodLink RX1 95 yX0_seamCost, Cond.instanceMethod yX0_seamCost, Cond.selects RX0 yX0_seamCost yX0_seamCost, Cond.code yX0_seamCost cX0_seamCost 7 (some .int)]
def wsX3_film_r3 : List Cond := [Cond.fieldLink RX0 24 "SkinBox$Cells" "places" "[I", Cond.methodLink RX0 54 Lib.Math.min.name, Cond.static Lib.Math.min.name, Cond.initialized "java/lang/Math", Cond.code Lib.Math.min.name Lib.Math.min.code 2 (some .int), Cond.methodLink RX1 56 yX1_search, Cond.instanceMethod yX1_search, Cond.selects RX1 yX1_search yX1_search, Cond.code yX1_search cX1_search 6 (some .int), Cond.fieldLink RX1 27 "SkinBox$Flow" "queue" "[I", Cond.fieldLink RX1 24 "SkinBox$Flow" "cameBy" "[I", Cond.fieldLink RX1 21 "SkinBox$Flow" "cameFrom" "[I", Cond.methodLink RX1 102 yX1_startAt, Cond.instanceMethod yX1_startAt, Cond.selects RX1 yX1_startAt yX1_startAt, Cond.code yX1_startAt cX1_startAt 4 (some .int), Cond.methodLink RX1 61 yX1_pushTo, Cond.instanceMethod yX1_pushTo, Cond.selects RX1 yX1_pushTo yX1_pushTo, Cond.code yX1_pushTo cX1_pushTo 5 none, Cond.methodLink RX1 106 Lib.Math.min.name, Cond.methodLink RX1 64 yX1_seen, Cond.instanceMethod yX1_seen, Cond.selects RX1 yX1_seen yX1_seen]
def wsX3_film_r4 : List Cond := [Cond.code yX1_seen cX1_seen 4 (some .long), Cond.methodLink RX1 68 yX1_searchBack, Cond.instanceMethod yX1_searchBack, Cond.selects RX1 yX1_searchBack yX1_searchBack, Cond.code yX1_searchBack cX1_searchBack 6 none, Cond.methodLink RX1 71 yX0_every, Cond.instanceMethod yX0_every, Cond.selects RX0 yX0_every yX0_every, Cond.code yX0_every cX0_every 1 (some .long), Cond.fieldLink RX0 30 "SkinBox$Cells" "size" "I"]
def wsX3_film : List Cond := .code yX3_film cX3_film 2 (some .long) :: ((wsX3_film_r1 ++ (wsX3_film_r2 ++ (wsX3_film_r3 ++ wsX3_film_r4))) ++ wsX30 ++ wsX10 ++ wsX00)
def wsJ13_bitCount_95d88 : List Cond := .code yJ13_bitCount_95d88 cJ13_bitCount_95d88 2 (some .int) :: ([.constantLong RJ13 314 (6148914691236517205), .constantLong RJ13 316 (3689348814741910323), .constantLong RJ13 318 (1085102592571150095)])
def wsX3_room_r1 : List Cond := [Cond.fieldLink RX3 21 "SkinBox" "flow" "LSkinBox$Flow;", Cond.fieldLink RX3 108 "SkinBox$Flow" "lowest" "J", Cond.fieldLink RX3 111 "SkinBox$Flow" "highest" "J", Cond.methodLink RX3 36 yX3_within, Cond.static yX3_within, Cond.initialized RX3, Cond.code yX3_within cX3_within 3 (some .boolean), Cond.methodLink RX3 101 yX1_settle, Cond.instanceMethod yX1_settle, Cond.selects RX1 yX1_settle yX1_settle, Cond.initialized RX1, Cond.code yX1_settle cX1_settle 4 none, Cond.fieldLink RX1 30 "SkinBox$Flow" "settled" "Z", Cond.fieldLink RX1 34 "SkinBox$Flow" "settledRise" "I", Cond.constant RX1 60 (1000000), Cond.fieldLink RX1 42 "SkinBox$Flow" "lowest" "J", Cond.fieldLink RX1 48 "SkinBox$Flow" "cells" "LSkinBox$Cells;", Cond.constantLong RX1 76 (-1), Cond.fieldLink RX1 45 "SkinBox$Flow" "highest" "J", Cond.methodLink RX1 52 yX1_open, Cond.instanceMethod yX1_open, Cond.selects RX1 yX1_open yX1_open, Cond.code yX1_open cX1_open 4 none, Cond.fieldLink RX1 38 "SkinBox$Flow" "amount" "J"]
def wsX3_room_r2 : List Cond := [Cond.fieldLink RX1 78 "SkinBox$Cells" "size" "I", Cond.fieldLink RX1 18 "SkinBox$Flow" "passes" "[I", Cond.fieldLink RX1 89 "SkinBox$Cells" "beyond" "[I", Cond.fieldLink RX1 92 "SkinBox$Cells" "rules" "[I", Cond.methodLink RX1 81 yX0_ownCost, Cond.instanceMethod yX0_ownCost, Cond.selects RX0 yX0_ownCost yX0_ownCost, Cond.initialized RX0, Cond.code yX0_ownCost cX0_ownCost 4 (some .int), Cond.fieldLink RX0 18 "SkinBox$Cells" "prices" "[I", Cond.fieldLink RX0 27 "SkinBox$Cells" "beyond" "[I", Cond.fieldLink RX0 21 "SkinBox$Cells" "rules" "[I", Cond.methodLink RX1 85 yX1_openCell, Cond.instanceMethod yX1_openCell, Cond.selects RX1 yX1_openCell yX1_openCell, Cond.code yX1_openCell cX1_openCell 3 none, Cond.fieldLink RX1 9 "SkinBox$Flow" "springs" "[I", Cond.fieldLink RX1 15 "SkinBox$Flow" "drains" "[I", Cond.fieldLink RX1 99 "SkinBox$Cells" "held" "[I", Cond.methodLink RX1 95 yX0_seamCost, Cond.instanceMethod yX0_seamCost, Cond.selects RX0 yX0_seamCost yX0_seamCost, Cond.code yX0_seamCost cX0_seamCost 7 (some .int), Cond.fieldLink RX0 24 "SkinBox$Cells" "places" "[I"]
def wsX3_room_r3 : List Cond := [Cond.methodLink RX0 54 Lib.Math.min.name, Cond.static Lib.Math.min.name, Cond.initialized "java/lang/Math", Cond.code Lib.Math.min.name Lib.Math.min.code 2 (some .int), Cond.methodLink RX1 56 yX1_search, Cond.instanceMethod yX1_search, Cond.selects RX1 yX1_search yX1_search, Cond.code yX1_search cX1_search 6 (some .int), Cond.fieldLink RX1 27 "SkinBox$Flow" "queue" "[I", Cond.fieldLink RX1 24 "SkinBox$Flow" "cameBy" "[I", Cond.fieldLink RX1 21 "SkinBox$Flow" "cameFrom" "[I", Cond.methodLink RX1 102 yX1_startAt, Cond.instanceMethod yX1_startAt, Cond.selects RX1 yX1_startAt yX1_startAt, Cond.code yX1_startAt cX1_startAt 4 (some .int), Cond.methodLink RX1 61 yX1_pushTo, Cond.instanceMethod yX1_pushTo, Cond.selects RX1 yX1_pushTo yX1_pushTo, Cond.code yX1_pushTo cX1_pushTo 5 none, Cond.methodLink RX1 106 Lib.Math.min.name, Cond.methodLink RX1 64 yX1_seen, Cond.instanceMethod yX1_seen, Cond.selects RX1 yX1_seen yX1_seen, Cond.code yX1_seen cX1_seen 4 (some .long)]
def wsX3_room_r4 : List Cond := [Cond.methodLink RX1 68 yX1_searchBack, Cond.instanceMethod yX1_searchBack, Cond.selects RX1 yX1_searchBack yX1_searchBack, Cond.code yX1_searchBack cX1_searchBack 6 none, Cond.methodLink RX1 71 yX0_every, Cond.instanceMethod yX0_every, Cond.selects RX0 yX0_every yX0_every, Cond.code yX0_every cX0_every 1 (some .long), Cond.fieldLink RX0 30 "SkinBox$Cells" "size" "I", Cond.methodLink RX3 114 yJ13_bitCount_95d88, Cond.static yJ13_bitCount_95d88, Cond.initialized RJ13, Cond.code yJ13_bitCount_95d88 cJ13_bitCount_95d88 2 (some .int), Cond.constantLong RJ13 314 (6148914691236517205), Cond.constantLong RJ13 316 (3689348814741910323), Cond.constantLong RJ13 318 (1085102592571150095)]
def wsX3_room : List Cond := .code yX3_room cX3_room 3 (some .int) :: ((wsX3_room_r1 ++ (wsX3_room_r2 ++ (wsX3_room_r3 ++ wsX3_room_r4))) ++ wsX30 ++ wsX10 ++ wsX00)
def wsX3_many_r1 : List Cond := [Cond.fieldLink RX3 10 "SkinBox" "cells" "LSkinBox$Cells;", Cond.fieldLink RX3 21 "SkinBox" "flow" "LSkinBox$Flow;", Cond.methodLink RX3 120 yX0_freeCells, Cond.instanceMethod yX0_freeCells, Cond.selects RX0 yX0_freeCells yX0_freeCells, Cond.initialized RX0, Cond.code yX0_freeCells cX0_freeCells 3 (some .int), Cond.fieldLink RX0 30 "SkinBox$Cells" "size" "I", Cond.fieldLink RX0 15 "SkinBox$Cells" "held" "[I", Cond.methodLink RX3 101 yX1_settle, Cond.instanceMethod yX1_settle, Cond.selects RX1 yX1_settle yX1_settle, Cond.initialized RX1, Cond.code yX1_settle cX1_settle 4 none, Cond.fieldLink RX1 30 "SkinBox$Flow" "settled" "Z", Cond.fieldLink RX1 34 "SkinBox$Flow" "settledRise" "I", Cond.constant RX1 60 (1000000), Cond.fieldLink RX1 42 "SkinBox$Flow" "lowest" "J", Cond.fieldLink RX1 48 "SkinBox$Flow" "cells" "LSkinBox$Cells;", Cond.constantLong RX1 76 (-1), Cond.fieldLink RX1 45 "SkinBox$Flow" "highest" "J", Cond.methodLink RX1 52 yX1_open, Cond.instanceMethod yX1_open, Cond.selects RX1 yX1_open yX1_open]
def wsX3_many_r2 : List Cond := [Cond.code yX1_open cX1_open 4 none, Cond.fieldLink RX1 38 "SkinBox$Flow" "amount" "J", Cond.fieldLink RX1 78 "SkinBox$Cells" "size" "I", Cond.fieldLink RX1 18 "SkinBox$Flow" "passes" "[I", Cond.fieldLink RX1 89 "SkinBox$Cells" "beyond" "[I", Cond.fieldLink RX1 92 "SkinBox$Cells" "rules" "[I", Cond.methodLink RX1 81 yX0_ownCost, Cond.instanceMethod yX0_ownCost, Cond.selects RX0 yX0_ownCost yX0_ownCost, Cond.code yX0_ownCost cX0_ownCost 4 (some .int), Cond.fieldLink RX0 18 "SkinBox$Cells" "prices" "[I", Cond.fieldLink RX0 27 "SkinBox$Cells" "beyond" "[I", Cond.fieldLink RX0 21 "SkinBox$Cells" "rules" "[I", Cond.methodLink RX1 85 yX1_openCell, Cond.instanceMethod yX1_openCell, Cond.selects RX1 yX1_openCell yX1_openCell, Cond.code yX1_openCell cX1_openCell 3 none, Cond.fieldLink RX1 9 "SkinBox$Flow" "springs" "[I", Cond.fieldLink RX1 15 "SkinBox$Flow" "drains" "[I", Cond.fieldLink RX1 99 "SkinBox$Cells" "held" "[I", Cond.methodLink RX1 95 yX0_seamCost, Cond.instanceMethod yX0_seamCost, Cond.selects RX0 yX0_seamCost yX0_seamCost, Cond.code yX0_seamCost cX0_seamCost 7 (some .int)]
def wsX3_many_r3 : List Cond := [Cond.fieldLink RX0 24 "SkinBox$Cells" "places" "[I", Cond.methodLink RX0 54 Lib.Math.min.name, Cond.static Lib.Math.min.name, Cond.initialized "java/lang/Math", Cond.code Lib.Math.min.name Lib.Math.min.code 2 (some .int), Cond.methodLink RX1 56 yX1_search, Cond.instanceMethod yX1_search, Cond.selects RX1 yX1_search yX1_search, Cond.code yX1_search cX1_search 6 (some .int), Cond.fieldLink RX1 27 "SkinBox$Flow" "queue" "[I", Cond.fieldLink RX1 24 "SkinBox$Flow" "cameBy" "[I", Cond.fieldLink RX1 21 "SkinBox$Flow" "cameFrom" "[I", Cond.methodLink RX1 102 yX1_startAt, Cond.instanceMethod yX1_startAt, Cond.selects RX1 yX1_startAt yX1_startAt, Cond.code yX1_startAt cX1_startAt 4 (some .int), Cond.methodLink RX1 61 yX1_pushTo, Cond.instanceMethod yX1_pushTo, Cond.selects RX1 yX1_pushTo yX1_pushTo, Cond.code yX1_pushTo cX1_pushTo 5 none, Cond.methodLink RX1 106 Lib.Math.min.name, Cond.methodLink RX1 64 yX1_seen, Cond.instanceMethod yX1_seen, Cond.selects RX1 yX1_seen yX1_seen]
def wsX3_many_r4 : List Cond := [Cond.code yX1_seen cX1_seen 4 (some .long), Cond.methodLink RX1 68 yX1_searchBack, Cond.instanceMethod yX1_searchBack, Cond.selects RX1 yX1_searchBack yX1_searchBack, Cond.code yX1_searchBack cX1_searchBack 6 none, Cond.methodLink RX1 71 yX0_every, Cond.instanceMethod yX0_every, Cond.selects RX0 yX0_every yX0_every, Cond.code yX0_every cX0_every 1 (some .long), Cond.methodLink RX3 124 yX1_leastSets, Cond.instanceMethod yX1_leastSets, Cond.selects RX1 yX1_leastSets yX1_leastSets, Cond.code yX1_leastSets cX1_leastSets 9 (some .int), Cond.methodLink RX1 112 yX1_queueOpen, Cond.instanceMethod yX1_queueOpen, Cond.selects RX1 yX1_queueOpen yX1_queueOpen, Cond.code yX1_queueOpen cX1_queueOpen 3 (some .int), Cond.methodLink RX1 124 yX0_holds, Cond.static yX0_holds, Cond.code yX0_holds cX0_holds 3 (some .boolean), Cond.methodLink RX1 115 yJ6_bitCount_0f7a4, Cond.static yJ6_bitCount_0f7a4, Cond.initialized RJ6, Cond.code yJ6_bitCount_0f7a4 cJ6_bitCount_0f7a4 1 (some .int)]
def wsX3_many_r5 : List Cond := [Cond.constant RJ6 265 (1431655765), Cond.constant RJ6 266 (858993459), Cond.constant RJ6 267 (252645135), Cond.methodLink RX1 120 yX0_seamsGrowth, Cond.instanceMethod yX0_seamsGrowth, Cond.selects RX0 yX0_seamsGrowth yX0_seamsGrowth, Cond.code yX0_seamsGrowth cX0_seamsGrowth 8 (some .int), Cond.methodLink RX0 60 yX0_seamCost, Cond.methodLink RX0 64 yX0_holds]
def wsX3_many : List Cond := .code yX3_many cX3_many 1 (some .int) :: ((wsX3_many_r1 ++ (wsX3_many_r2 ++ (wsX3_many_r3 ++ (wsX3_many_r4 ++ wsX3_many_r5)))) ++ wsX30 ++ wsX00 ++ wsX10)
def wsX3_net_r1 : List Cond := [Cond.fieldLink RX3 28 "SkinBox" "points" "LSkinBox$Points;", Cond.methodLink RX3 36 yX3_within, Cond.static yX3_within, Cond.initialized RX3, Cond.code yX3_within cX3_within 3 (some .boolean), Cond.methodLink RX3 127 yX2_spread, Cond.instanceMethod yX2_spread, Cond.selects RX2 yX2_spread yX2_spread, Cond.initialized RX2, Cond.code yX2_spread cX2_spread 5 none, Cond.fieldLink RX2 22 "SkinBox$Points" "wide" "I", Cond.fieldLink RX2 26 "SkinBox$Points" "high" "I", Cond.fieldLink RX2 9 "SkinBox$Points" "heights" "[I", Cond.fieldLink RX2 15 "SkinBox$Points" "pinned" "[Z", Cond.methodLink RX2 33 yJ7_fill_53178, Cond.static yJ7_fill_53178, Cond.initialized RJ7, Cond.code yJ7_fill_53178 cJ7_fill_53178 4 none, Cond.methodLink RX2 39 yX2_at, Cond.instanceMethod yX2_at, Cond.selects RX2 yX2_at yX2_at, Cond.code yX2_at cX2_at 3 (some .int), Cond.methodLink RX3 131 yX2_pins, Cond.instanceMethod yX2_pins]
def wsX3_net_r2 : List Cond := [Cond.selects RX2 yX2_pins yX2_pins, Cond.code yX2_pins cX2_pins 4 (some .int)]
def wsX3_net : List Cond := .code yX3_net cX3_net 3 (some .int) :: ((wsX3_net_r1 ++ wsX3_net_r2) ++ wsX30 ++ wsX20)
def wsX3_lift : List Cond := .code yX3_lift cX3_lift 6 (some .int) :: ([.fieldLink RX3 28 "SkinBox" "points" "LSkinBox$Points;", .constant RX3 59 (-1000000), .fieldLink RX3 140 "SkinBox$Points" "heights" "[I", .methodLink RX3 134 yX2_has, .instanceMethod yX2_has, .selects RX2 yX2_has yX2_has, .initialized RX2, .code yX2_has cX2_has 3 (some .boolean), .fieldLink RX2 22 "SkinBox$Points" "wide" "I", .fieldLink RX2 26 "SkinBox$Points" "high" "I", .methodLink RX3 36 yX3_within, .static yX3_within, .initialized RX3, .code yX3_within cX3_within 3 (some .boolean), .methodLink RX3 137 yX2_at, .instanceMethod yX2_at, .selects RX2 yX2_at yX2_at, .code yX2_at cX2_at 3 (some .int)] ++ wsX30 ++ wsX20)
def wsX3_pin : List Cond := .code yX3_pin cX3_pin 6 (some .int) :: ([.fieldLink RX3 28 "SkinBox" "points" "LSkinBox$Points;", .fieldLink RX3 143 "SkinBox$Points" "pinned" "[Z", .methodLink RX3 134 yX2_has, .instanceMethod yX2_has, .selects RX2 yX2_has yX2_has, .initialized RX2, .code yX2_has cX2_has 3 (some .boolean), .fieldLink RX2 22 "SkinBox$Points" "wide" "I", .fieldLink RX2 26 "SkinBox$Points" "high" "I", .methodLink RX3 137 yX2_at, .instanceMethod yX2_at, .selects RX2 yX2_at yX2_at, .code yX2_at cX2_at 3 (some .int)] ++ wsX30 ++ wsX20)
def wsX3_height : List Cond := .code yX3_height cX3_height 3 (some .int) :: ([.fieldLink RX3 28 "SkinBox" "points" "LSkinBox$Points;", .fieldLink RX3 140 "SkinBox$Points" "heights" "[I", .constant RX3 59 (-1000000), .methodLink RX3 134 yX2_has, .instanceMethod yX2_has, .selects RX2 yX2_has yX2_has, .initialized RX2, .code yX2_has cX2_has 3 (some .boolean), .fieldLink RX2 22 "SkinBox$Points" "wide" "I", .fieldLink RX2 26 "SkinBox$Points" "high" "I", .methodLink RX3 137 yX2_at, .instanceMethod yX2_at, .selects RX2 yX2_at yX2_at, .code yX2_at cX2_at 3 (some .int)] ++ wsX30 ++ wsX20)
def wsX3_drawn_r1 : List Cond := [Cond.fieldLink RX3 28 "SkinBox" "points" "LSkinBox$Points;", Cond.methodLink RX3 147 yX2_sumOfDifferences, Cond.instanceMethod yX2_sumOfDifferences, Cond.selects RX2 yX2_sumOfDifferences yX2_sumOfDifferences, Cond.initialized RX2, Cond.code yX2_sumOfDifferences cX2_sumOfDifferences 4 (some .int), Cond.fieldLink RX2 26 "SkinBox$Points" "high" "I", Cond.fieldLink RX2 22 "SkinBox$Points" "wide" "I", Cond.methodLink RX2 43 yX2_difference, Cond.instanceMethod yX2_difference, Cond.selects RX2 yX2_difference yX2_difference, Cond.code yX2_difference cX2_difference 5 (some .int), Cond.fieldLink RX2 9 "SkinBox$Points" "heights" "[I", Cond.methodLink RX2 51 Lib.Math.abs.name, Cond.static Lib.Math.abs.name, Cond.initialized "java/lang/Math", Cond.code Lib.Math.abs.name Lib.Math.abs.code 1 (some .int), Cond.methodLink RX2 47 yX2_has, Cond.instanceMethod yX2_has, Cond.selects RX2 yX2_has yX2_has, Cond.code yX2_has cX2_has 3 (some .boolean), Cond.methodLink RX2 39 yX2_at, Cond.instanceMethod yX2_at, Cond.selects RX2 yX2_at yX2_at]
def wsX3_drawn_r2 : List Cond := [Cond.code yX2_at cX2_at 3 (some .int)]
def wsX3_drawn : List Cond := .code yX3_drawn cX3_drawn 1 (some .int) :: ((wsX3_drawn_r1 ++ wsX3_drawn_r2) ++ wsX30 ++ wsX20)
def wsX3_slack_r1 : List Cond := [Cond.fieldLink RX3 28 "SkinBox" "points" "LSkinBox$Points;", Cond.methodLink RX3 150 yX2_sumOfChanges, Cond.instanceMethod yX2_sumOfChanges, Cond.selects RX2 yX2_sumOfChanges yX2_sumOfChanges, Cond.initialized RX2, Cond.code yX2_sumOfChanges cX2_sumOfChanges 4 (some .int), Cond.fieldLink RX2 26 "SkinBox$Points" "high" "I", Cond.fieldLink RX2 22 "SkinBox$Points" "wide" "I", Cond.fieldLink RX2 9 "SkinBox$Points" "heights" "[I", Cond.methodLink RX2 51 Lib.Math.abs.name, Cond.static Lib.Math.abs.name, Cond.initialized "java/lang/Math", Cond.code Lib.Math.abs.name Lib.Math.abs.code 1 (some .int), Cond.methodLink RX2 57 yX2_stepped, Cond.instanceMethod yX2_stepped, Cond.selects RX2 yX2_stepped yX2_stepped, Cond.code yX2_stepped cX2_stepped 7 (some .int), Cond.fieldLink RX2 15 "SkinBox$Points" "pinned" "[Z", Cond.fieldLink RX2 19 "SkinBox$Points" "near" "[I", Cond.methodLink RX2 68 Lib.Math.min.name, Cond.static Lib.Math.min.name, Cond.code Lib.Math.min.name Lib.Math.min.code 2 (some .int), Cond.methodLink RX2 71 Lib.Math.max.name, Cond.static Lib.Math.max.name]
def wsX3_slack_r2 : List Cond := [Cond.code Lib.Math.max.name Lib.Math.max.code 2 (some .int), Cond.methodLink RX2 39 yX2_at, Cond.instanceMethod yX2_at, Cond.selects RX2 yX2_at yX2_at, Cond.code yX2_at cX2_at 3 (some .int), Cond.methodLink RX2 64 yX2_putInOrder, Cond.instanceMethod yX2_putInOrder, Cond.selects RX2 yX2_putInOrder yX2_putInOrder, Cond.code yX2_putInOrder cX2_putInOrder 6 (some .int), Cond.methodLink RX2 47 yX2_has, Cond.instanceMethod yX2_has, Cond.selects RX2 yX2_has yX2_has, Cond.code yX2_has cX2_has 3 (some .boolean)]
def wsX3_slack : List Cond := .code yX3_slack cX3_slack 1 (some .int) :: ((wsX3_slack_r1 ++ wsX3_slack_r2) ++ wsX30 ++ wsX20)
def wsX3_rounds_r1 : List Cond := [Cond.fieldLink RX3 28 "SkinBox" "points" "LSkinBox$Points;", Cond.methodLink RX3 36 yX3_within, Cond.static yX3_within, Cond.initialized RX3, Cond.code yX3_within cX3_within 3 (some .boolean), Cond.methodLink RX3 153 yX2_isAtRest, Cond.instanceMethod yX2_isAtRest, Cond.selects RX2 yX2_isAtRest yX2_isAtRest, Cond.initialized RX2, Cond.code yX2_isAtRest cX2_isAtRest 1 (some .boolean), Cond.methodLink RX2 60 yX2_sumOfChanges, Cond.instanceMethod yX2_sumOfChanges, Cond.selects RX2 yX2_sumOfChanges yX2_sumOfChanges, Cond.code yX2_sumOfChanges cX2_sumOfChanges 4 (some .int), Cond.fieldLink RX2 26 "SkinBox$Points" "high" "I", Cond.fieldLink RX2 22 "SkinBox$Points" "wide" "I", Cond.fieldLink RX2 9 "SkinBox$Points" "heights" "[I", Cond.methodLink RX2 51 Lib.Math.abs.name, Cond.static Lib.Math.abs.name, Cond.initialized "java/lang/Math", Cond.code Lib.Math.abs.name Lib.Math.abs.code 1 (some .int), Cond.methodLink RX2 57 yX2_stepped, Cond.instanceMethod yX2_stepped, Cond.selects RX2 yX2_stepped yX2_stepped]
def wsX3_rounds_r2 : List Cond := [Cond.code yX2_stepped cX2_stepped 7 (some .int), Cond.fieldLink RX2 15 "SkinBox$Points" "pinned" "[Z", Cond.fieldLink RX2 19 "SkinBox$Points" "near" "[I", Cond.methodLink RX2 68 Lib.Math.min.name, Cond.static Lib.Math.min.name, Cond.code Lib.Math.min.name Lib.Math.min.code 2 (some .int), Cond.methodLink RX2 71 Lib.Math.max.name, Cond.static Lib.Math.max.name, Cond.code Lib.Math.max.name Lib.Math.max.code 2 (some .int), Cond.methodLink RX2 39 yX2_at, Cond.instanceMethod yX2_at, Cond.selects RX2 yX2_at yX2_at, Cond.code yX2_at cX2_at 3 (some .int), Cond.methodLink RX2 64 yX2_putInOrder, Cond.instanceMethod yX2_putInOrder, Cond.selects RX2 yX2_putInOrder yX2_putInOrder, Cond.code yX2_putInOrder cX2_putInOrder 6 (some .int), Cond.methodLink RX2 47 yX2_has, Cond.instanceMethod yX2_has, Cond.selects RX2 yX2_has yX2_has, Cond.code yX2_has cX2_has 3 (some .boolean), Cond.methodLink RX3 157 yX2_stepAtEach, Cond.instanceMethod yX2_stepAtEach, Cond.selects RX2 yX2_stepAtEach yX2_stepAtEach]
def wsX3_rounds_r3 : List Cond := [Cond.code yX2_stepAtEach cX2_stepAtEach 3 none]
def wsX3_rounds : List Cond := .code yX3_rounds cX3_rounds 3 (some .int) :: ((wsX3_rounds_r1 ++ (wsX3_rounds_r2 ++ wsX3_rounds_r3)) ++ wsX30 ++ wsX20)
def wsX3_count_r1 : List Cond := [Cond.fieldLink RX3 10 "SkinBox" "cells" "LSkinBox$Cells;", Cond.fieldLink RX3 160 "SkinBox$Cells" "sides" "[I", Cond.fieldLink RX3 28 "SkinBox" "points" "LSkinBox$Points;", Cond.fieldLink RX3 163 "SkinBox$Points" "wide" "I", Cond.fieldLink RX3 166 "SkinBox$Points" "high" "I", Cond.methodLink RX3 120 yX0_freeCells, Cond.instanceMethod yX0_freeCells, Cond.selects RX0 yX0_freeCells yX0_freeCells, Cond.initialized RX0, Cond.code yX0_freeCells cX0_freeCells 3 (some .int), Cond.fieldLink RX0 30 "SkinBox$Cells" "size" "I", Cond.fieldLink RX0 15 "SkinBox$Cells" "held" "[I", Cond.methodLink RX3 131 yX2_pins, Cond.instanceMethod yX2_pins, Cond.selects RX2 yX2_pins yX2_pins, Cond.initialized RX2, Cond.code yX2_pins cX2_pins 4 (some .int), Cond.fieldLink RX2 26 "SkinBox$Points" "high" "I", Cond.fieldLink RX2 22 "SkinBox$Points" "wide" "I", Cond.fieldLink RX2 15 "SkinBox$Points" "pinned" "[Z", Cond.methodLink RX2 39 yX2_at, Cond.instanceMethod yX2_at, Cond.selects RX2 yX2_at yX2_at, Cond.code yX2_at cX2_at 3 (some .int)]
def wsX3_count_r2 : List Cond := [Cond.methodLink RX3 153 yX2_isAtRest, Cond.instanceMethod yX2_isAtRest, Cond.selects RX2 yX2_isAtRest yX2_isAtRest, Cond.code yX2_isAtRest cX2_isAtRest 1 (some .boolean), Cond.methodLink RX2 60 yX2_sumOfChanges, Cond.instanceMethod yX2_sumOfChanges, Cond.selects RX2 yX2_sumOfChanges yX2_sumOfChanges, Cond.code yX2_sumOfChanges cX2_sumOfChanges 4 (some .int), Cond.fieldLink RX2 9 "SkinBox$Points" "heights" "[I", Cond.methodLink RX2 51 Lib.Math.abs.name, Cond.static Lib.Math.abs.name, Cond.initialized "java/lang/Math", Cond.code Lib.Math.abs.name Lib.Math.abs.code 1 (some .int), Cond.methodLink RX2 57 yX2_stepped, Cond.instanceMethod yX2_stepped, Cond.selects RX2 yX2_stepped yX2_stepped, Cond.code yX2_stepped cX2_stepped 7 (some .int), Cond.fieldLink RX2 19 "SkinBox$Points" "near" "[I", Cond.methodLink RX2 68 Lib.Math.min.name, Cond.static Lib.Math.min.name, Cond.code Lib.Math.min.name Lib.Math.min.code 2 (some .int), Cond.methodLink RX2 71 Lib.Math.max.name, Cond.static Lib.Math.max.name, Cond.code Lib.Math.max.name Lib.Math.max.code 2 (some .int)]
def wsX3_count_r3 : List Cond := [Cond.methodLink RX2 64 yX2_putInOrder, Cond.instanceMethod yX2_putInOrder, Cond.selects RX2 yX2_putInOrder yX2_putInOrder, Cond.code yX2_putInOrder cX2_putInOrder 6 (some .int), Cond.methodLink RX2 47 yX2_has, Cond.instanceMethod yX2_has, Cond.selects RX2 yX2_has yX2_has, Cond.code yX2_has cX2_has 3 (some .boolean)]
def wsX3_count : List Cond := .code yX3_count cX3_count 2 (some .int) :: ((wsX3_count_r1 ++ (wsX3_count_r2 ++ wsX3_count_r3)) ++ wsX30 ++ wsX00 ++ wsX20)
def wsX3_trace : List Cond := .code yX3_trace cX3_trace 1 (some .long) :: ([.fieldLink RX3 32 "SkinBox" "asked" "J"] ++ wsX30)
def wsX4_pins : List Cond := .code yX4_pins cX4_pins 4 none :: ([.fieldLink RX4 54 "SkinBoxModel" "height" "[I", .fieldLink RX4 57 "SkinBoxModel" "isPinned" "[Z", .fieldLink RX4 47 "SkinBoxModel" "w" "I", .fieldLink RX4 51 "SkinBoxModel" "h" "I"] ++ wsX40)
def wsX4_init_r1 : List Cond := [Cond.methodLink RX4 1 objectInit, Cond.instanceMethod objectInit, Cond.code objectInit ⟨#[0xb1]⟩ 1 none, Cond.arrayClass .int, Cond.fieldLink RX4 7 "SkinBoxModel" "sides" "[I", Cond.fieldLink RX4 13 "SkinBoxModel" "held" "[I", Cond.fieldLink RX4 16 "SkinBoxModel" "price" "[I", Cond.fieldLink RX4 19 "SkinBoxModel" "rules" "[I", Cond.fieldLink RX4 22 "SkinBoxModel" "ways" "[I", Cond.fieldLink RX4 25 "SkinBoxModel" "place" "[I", Cond.arrayClass .long, Cond.fieldLink RX4 28 "SkinBoxModel" "value" "[J", Cond.fieldLink RX4 32 "SkinBoxModel" "sets" "[J", Cond.fieldLink RX4 35 "SkinBoxModel" "times" "[J", Cond.fieldLink RX4 38 "SkinBoxModel" "nextValue" "[J", Cond.fieldLink RX4 41 "SkinBoxModel" "nextSets" "[J", Cond.fieldLink RX4 44 "SkinBoxModel" "nextTimes" "[J", Cond.fieldLink RX4 47 "SkinBoxModel" "w" "I", Cond.fieldLink RX4 51 "SkinBoxModel" "h" "I", Cond.fieldLink RX4 54 "SkinBoxModel" "height" "[I", Cond.arrayClass .boolean, Cond.fieldLink RX4 57 "SkinBoxModel" "isPinned" "[Z", Cond.fieldLink RX4 61 "SkinBoxModel" "beside" "[I", Cond.methodLink RX4 64 yX4_pins]
def wsX4_init_r2 : List Cond := [Cond.instanceMethod yX4_pins, Cond.selects RX4 yX4_pins yX4_pins, Cond.initialized RX4, Cond.code yX4_pins cX4_pins 4 none]
def wsX4_init : List Cond := .code yX4_init cX4_init 1 none :: ((wsX4_init_r1 ++ wsX4_init_r2) ++ wsX40)
def wsX4_in : List Cond := .code yX4_in cX4_in 6 (some .boolean) :: ([])
def wsX4_cells : List Cond := .code yX4_cells cX4_cells 1 (some .int) :: ([.fieldLink RX4 7 "SkinBoxModel" "sides" "[I"] ++ wsX40)
def wsX4_isCell : List Cond := .code yX4_isCell cX4_isCell 2 (some .boolean) :: ([.methodLink RX4 70 yX4_cells, .instanceMethod yX4_cells, .selects RX4 yX4_cells yX4_cells, .initialized RX4, .code yX4_cells cX4_cells 1 (some .int), .fieldLink RX4 7 "SkinBoxModel" "sides" "[I", .methodLink RX4 74 yX4_in, .static yX4_in, .code yX4_in cX4_in 6 (some .boolean)] ++ wsX40)
def wsX4_placeOf : List Cond := .code yX4_placeOf cX4_placeOf 3 (some .int) :: ([.fieldLink RX4 7 "SkinBoxModel" "sides" "[I"] ++ wsX40)
def wsX4_stride : List Cond := .code yX4_stride cX4_stride 2 (some .int) :: ([.fieldLink RX4 7 "SkinBoxModel" "sides" "[I"] ++ wsX40)
def wsX4_box : List Cond := .code yX4_box cX4_box 5 (some .int) :: ([.fieldLink RX4 67 "SkinBoxModel" "thrown" "I", .constantLong RX4 78 (4), .fieldLink RX4 7 "SkinBoxModel" "sides" "[I", .fieldLink RX4 13 "SkinBoxModel" "held" "[I", .fieldLink RX4 16 "SkinBoxModel" "price" "[I", .methodLink RX4 74 yX4_in, .static yX4_in, .initialized RX4, .code yX4_in cX4_in 6 (some .boolean), .methodLink RX4 70 yX4_cells, .instanceMethod yX4_cells, .selects RX4 yX4_cells yX4_cells, .code yX4_cells cX4_cells 1 (some .int)] ++ wsX40)
def wsX4_hold : List Cond := .code yX4_hold cX4_hold 4 (some .int) :: ([.fieldLink RX4 67 "SkinBoxModel" "thrown" "I", .constantLong RX4 84 (2), .fieldLink RX4 13 "SkinBoxModel" "held" "[I", .methodLink RX4 80 yX4_isCell, .instanceMethod yX4_isCell, .selects RX4 yX4_isCell yX4_isCell, .initialized RX4, .code yX4_isCell cX4_isCell 2 (some .boolean), .methodLink RX4 70 yX4_cells, .instanceMethod yX4_cells, .selects RX4 yX4_cells yX4_cells, .code yX4_cells cX4_cells 1 (some .int), .fieldLink RX4 7 "SkinBoxModel" "sides" "[I", .methodLink RX4 74 yX4_in, .static yX4_in, .code yX4_in cX4_in 6 (some .boolean)] ++ wsX40)
def wsX4_price : List Cond := .code yX4_price cX4_price 4 (some .int) :: ([.fieldLink RX4 67 "SkinBoxModel" "thrown" "I", .constantLong RX4 86 (-20), .constantLong RX4 88 (20), .constant RX4 90 (-1000000), .fieldLink RX4 16 "SkinBoxModel" "price" "[I", .methodLink RX4 80 yX4_isCell, .instanceMethod yX4_isCell, .selects RX4 yX4_isCell yX4_isCell, .initialized RX4, .code yX4_isCell cX4_isCell 2 (some .boolean), .methodLink RX4 70 yX4_cells, .instanceMethod yX4_cells, .selects RX4 yX4_cells yX4_cells, .code yX4_cells cX4_cells 1 (some .int), .fieldLink RX4 7 "SkinBoxModel" "sides" "[I", .methodLink RX4 74 yX4_in, .static yX4_in, .code yX4_in cX4_in 6 (some .boolean)] ++ wsX40)
def wsX4_set : List Cond := .code yX4_set cX4_set 4 (some .int) :: ([.fieldLink RX4 67 "SkinBoxModel" "thrown" "I", .constantLong RX4 91 (6), .constantLong RX4 84 (2), .constantLong RX4 93 (9), .fieldLink RX4 19 "SkinBoxModel" "rules" "[I", .methodLink RX4 74 yX4_in, .static yX4_in, .initialized RX4, .code yX4_in cX4_in 6 (some .boolean)] ++ wsX40)
def wsX4_faceCost : List Cond := .code yX4_faceCost cX4_faceCost 5 (some .int) :: ([.fieldLink RX4 19 "SkinBoxModel" "rules" "[I"] ++ wsX40)
def wsX4_cost_r1 : List Cond := [Cond.fieldLink RX4 67 "SkinBoxModel" "thrown" "I", Cond.constantLong RX4 84 (2), Cond.fieldLink RX4 103 "SkinBoxModel" "trace" "J", Cond.constantLong RX4 107 (11), Cond.constantLong RX4 109 (111), Cond.methodLink RX4 74 yX4_in, Cond.static yX4_in, Cond.initialized RX4, Cond.code yX4_in cX4_in 6 (some .boolean), Cond.methodLink RX4 80 yX4_isCell, Cond.instanceMethod yX4_isCell, Cond.selects RX4 yX4_isCell yX4_isCell, Cond.code yX4_isCell cX4_isCell 2 (some .boolean), Cond.methodLink RX4 70 yX4_cells, Cond.instanceMethod yX4_cells, Cond.selects RX4 yX4_cells yX4_cells, Cond.code yX4_cells cX4_cells 1 (some .int), Cond.fieldLink RX4 7 "SkinBoxModel" "sides" "[I", Cond.methodLink RX4 95 yX4_stride, Cond.instanceMethod yX4_stride, Cond.selects RX4 yX4_stride yX4_stride, Cond.code yX4_stride cX4_stride 2 (some .int), Cond.methodLink RX4 99 yX4_placeOf, Cond.instanceMethod yX4_placeOf]
def wsX4_cost_r2 : List Cond := [Cond.selects RX4 yX4_placeOf yX4_placeOf, Cond.code yX4_placeOf cX4_placeOf 3 (some .int), Cond.methodLink RX4 111 yX4_faceCost, Cond.instanceMethod yX4_faceCost, Cond.selects RX4 yX4_faceCost yX4_faceCost, Cond.code yX4_faceCost cX4_faceCost 5 (some .int), Cond.fieldLink RX4 19 "SkinBoxModel" "rules" "[I"]
def wsX4_cost : List Cond := .code yX4_cost cX4_cost 7 (some .int) :: ((wsX4_cost_r1 ++ wsX4_cost_r2) ++ wsX40)
def wsX4_isSet : List Cond := .code yX4_isSet cX4_isSet 3 (some .boolean) :: ([.methodLink RX4 70 yX4_cells, .instanceMethod yX4_cells, .selects RX4 yX4_cells yX4_cells, .initialized RX4, .code yX4_cells cX4_cells 1 (some .int), .fieldLink RX4 7 "SkinBoxModel" "sides" "[I"] ++ wsX40)
def wsX4_outsides : List Cond := .code yX4_outsides cX4_outsides 4 (some .int) :: ([.fieldLink RX4 7 "SkinBoxModel" "sides" "[I", .methodLink RX4 99 yX4_placeOf, .instanceMethod yX4_placeOf, .selects RX4 yX4_placeOf yX4_placeOf, .initialized RX4, .code yX4_placeOf cX4_placeOf 3 (some .int)] ++ wsX40)
def wsX4_skinOf : List Cond := .code yX4_skinOf cX4_skinOf 9 (some .long) :: ([.fieldLink RX4 19 "SkinBoxModel" "rules" "[I", .fieldLink RX4 7 "SkinBoxModel" "sides" "[I", .methodLink RX4 70 yX4_cells, .instanceMethod yX4_cells, .selects RX4 yX4_cells yX4_cells, .initialized RX4, .code yX4_cells cX4_cells 1 (some .int), .methodLink RX4 115 yX4_outsides, .instanceMethod yX4_outsides, .selects RX4 yX4_outsides yX4_outsides, .code yX4_outsides cX4_outsides 4 (some .int), .methodLink RX4 99 yX4_placeOf, .instanceMethod yX4_placeOf, .selects RX4 yX4_placeOf yX4_placeOf, .code yX4_placeOf cX4_placeOf 3 (some .int), .methodLink RX4 95 yX4_stride, .instanceMethod yX4_stride, .selects RX4 yX4_stride yX4_stride, .code yX4_stride cX4_stride 2 (some .int), .methodLink RX4 111 yX4_faceCost, .instanceMethod yX4_faceCost, .selects RX4 yX4_faceCost yX4_faceCost, .code yX4_faceCost cX4_faceCost 5 (some .int)] ++ wsX40)
def wsX4_skin_r1 : List Cond := [Cond.fieldLink RX4 67 "SkinBoxModel" "thrown" "I", Cond.constantLong RX4 126 (-1), Cond.methodLink RX4 118 yX4_isSet, Cond.instanceMethod yX4_isSet, Cond.selects RX4 yX4_isSet yX4_isSet, Cond.initialized RX4, Cond.code yX4_isSet cX4_isSet 3 (some .boolean), Cond.methodLink RX4 70 yX4_cells, Cond.instanceMethod yX4_cells, Cond.selects RX4 yX4_cells yX4_cells, Cond.code yX4_cells cX4_cells 1 (some .int), Cond.fieldLink RX4 7 "SkinBoxModel" "sides" "[I", Cond.methodLink RX4 122 yX4_skinOf, Cond.instanceMethod yX4_skinOf, Cond.selects RX4 yX4_skinOf yX4_skinOf, Cond.code yX4_skinOf cX4_skinOf 9 (some .long), Cond.fieldLink RX4 19 "SkinBoxModel" "rules" "[I", Cond.methodLink RX4 115 yX4_outsides, Cond.instanceMethod yX4_outsides, Cond.selects RX4 yX4_outsides yX4_outsides, Cond.code yX4_outsides cX4_outsides 4 (some .int), Cond.methodLink RX4 99 yX4_placeOf, Cond.instanceMethod yX4_placeOf, Cond.selects RX4 yX4_placeOf yX4_placeOf]
def wsX4_skin_r2 : List Cond := [Cond.code yX4_placeOf cX4_placeOf 3 (some .int), Cond.methodLink RX4 95 yX4_stride, Cond.instanceMethod yX4_stride, Cond.selects RX4 yX4_stride yX4_stride, Cond.code yX4_stride cX4_stride 2 (some .int), Cond.methodLink RX4 111 yX4_faceCost, Cond.instanceMethod yX4_faceCost, Cond.selects RX4 yX4_faceCost yX4_faceCost, Cond.code yX4_faceCost cX4_faceCost 5 (some .int)]
def wsX4_skin : List Cond := .code yX4_skin cX4_skin 3 (some .long) :: ((wsX4_skin_r1 ++ wsX4_skin_r2) ++ wsX40)
def wsX4_all_r1 : List Cond := [Cond.fieldLink RX4 67 "SkinBoxModel" "thrown" "I", Cond.constantLong RX4 128 (-1000000), Cond.fieldLink RX4 16 "SkinBoxModel" "price" "[I", Cond.methodLink RX4 118 yX4_isSet, Cond.instanceMethod yX4_isSet, Cond.selects RX4 yX4_isSet yX4_isSet, Cond.initialized RX4, Cond.code yX4_isSet cX4_isSet 3 (some .boolean), Cond.methodLink RX4 70 yX4_cells, Cond.instanceMethod yX4_cells, Cond.selects RX4 yX4_cells yX4_cells, Cond.code yX4_cells cX4_cells 1 (some .int), Cond.fieldLink RX4 7 "SkinBoxModel" "sides" "[I", Cond.methodLink RX4 122 yX4_skinOf, Cond.instanceMethod yX4_skinOf, Cond.selects RX4 yX4_skinOf yX4_skinOf, Cond.code yX4_skinOf cX4_skinOf 9 (some .long), Cond.fieldLink RX4 19 "SkinBoxModel" "rules" "[I", Cond.methodLink RX4 115 yX4_outsides, Cond.instanceMethod yX4_outsides, Cond.selects RX4 yX4_outsides yX4_outsides, Cond.code yX4_outsides cX4_outsides 4 (some .int), Cond.methodLink RX4 99 yX4_placeOf, Cond.instanceMethod yX4_placeOf]
def wsX4_all_r2 : List Cond := [Cond.selects RX4 yX4_placeOf yX4_placeOf, Cond.code yX4_placeOf cX4_placeOf 3 (some .int), Cond.methodLink RX4 95 yX4_stride, Cond.instanceMethod yX4_stride, Cond.selects RX4 yX4_stride yX4_stride, Cond.code yX4_stride cX4_stride 2 (some .int), Cond.methodLink RX4 111 yX4_faceCost, Cond.instanceMethod yX4_faceCost, Cond.selects RX4 yX4_faceCost yX4_faceCost, Cond.code yX4_faceCost cX4_faceCost 5 (some .int)]
def wsX4_all : List Cond := .code yX4_all cX4_all 6 (some .long) :: ((wsX4_all_r1 ++ wsX4_all_r2) ++ wsX40)
def wsX4_right : List Cond := .code yX4_right cX4_right 5 (some .int) :: ([.fieldLink RX4 67 "SkinBoxModel" "thrown" "I", .fieldLink RX4 13 "SkinBoxModel" "held" "[I", .methodLink RX4 118 yX4_isSet, .instanceMethod yX4_isSet, .selects RX4 yX4_isSet yX4_isSet, .initialized RX4, .code yX4_isSet cX4_isSet 3 (some .boolean), .methodLink RX4 70 yX4_cells, .instanceMethod yX4_cells, .selects RX4 yX4_cells yX4_cells, .code yX4_cells cX4_cells 1 (some .int), .fieldLink RX4 7 "SkinBoxModel" "sides" "[I"] ++ wsX40)
def wsX4_orders : List Cond := .code yX4_orders cX4_orders 3 none :: ([.fieldLink RX4 7 "SkinBoxModel" "sides" "[I", .fieldLink RX4 22 "SkinBoxModel" "ways" "[I"] ++ wsX40)
def wsX4_cellAt : List Cond := .code yX4_cellAt cX4_cellAt 4 (some .int) :: ([.fieldLink RX4 7 "SkinBoxModel" "sides" "[I", .fieldLink RX4 22 "SkinBoxModel" "ways" "[I", .fieldLink RX4 25 "SkinBoxModel" "place" "[I", .methodLink RX4 95 yX4_stride, .instanceMethod yX4_stride, .selects RX4 yX4_stride yX4_stride, .initialized RX4, .code yX4_stride cX4_stride 2 (some .int)] ++ wsX40)
def wsX4_adds : List Cond := .code yX4_adds cX4_adds 8 (some .int) :: ([.fieldLink RX4 16 "SkinBoxModel" "price" "[I", .fieldLink RX4 19 "SkinBoxModel" "rules" "[I", .fieldLink RX4 25 "SkinBoxModel" "place" "[I", .fieldLink RX4 22 "SkinBoxModel" "ways" "[I", .fieldLink RX4 7 "SkinBoxModel" "sides" "[I", .methodLink RX4 115 yX4_outsides, .instanceMethod yX4_outsides, .selects RX4 yX4_outsides yX4_outsides, .initialized RX4, .code yX4_outsides cX4_outsides 4 (some .int), .methodLink RX4 99 yX4_placeOf, .instanceMethod yX4_placeOf, .selects RX4 yX4_placeOf yX4_placeOf, .code yX4_placeOf cX4_placeOf 3 (some .int), .methodLink RX4 111 yX4_faceCost, .instanceMethod yX4_faceCost, .selects RX4 yX4_faceCost yX4_faceCost, .code yX4_faceCost cX4_faceCost 5 (some .int)] ++ wsX40)
def wsX4_finds_r1 : List Cond := [Cond.fieldLink RX4 7 "SkinBoxModel" "sides" "[I", Cond.fieldLink RX4 22 "SkinBoxModel" "ways" "[I", Cond.fieldLink RX4 28 "SkinBoxModel" "value" "[J", Cond.constantLong RX4 133 (4000000000000000), Cond.fieldLink RX4 32 "SkinBoxModel" "sets" "[J", Cond.fieldLink RX4 35 "SkinBoxModel" "times" "[J", Cond.fieldLink RX4 38 "SkinBoxModel" "nextValue" "[J", Cond.fieldLink RX4 44 "SkinBoxModel" "nextTimes" "[J", Cond.fieldLink RX4 13 "SkinBoxModel" "held" "[I", Cond.constantLong RX4 138 (64), Cond.fieldLink RX4 41 "SkinBoxModel" "nextSets" "[J", Cond.fieldLink RX4 144 "SkinBoxModel" "found" "J", Cond.fieldLink RX4 147 "SkinBoxModel" "foundTimes" "J", Cond.fieldLink RX4 150 "SkinBoxModel" "foundSet" "J", Cond.methodLink RX4 130 yX4_orders, Cond.instanceMethod yX4_orders, Cond.selects RX4 yX4_orders yX4_orders, Cond.initialized RX4, Cond.code yX4_orders cX4_orders 3 none, Cond.methodLink RX4 70 yX4_cells, Cond.instanceMethod yX4_cells, Cond.selects RX4 yX4_cells yX4_cells, Cond.code yX4_cells cX4_cells 1 (some .int), Cond.methodLink RX4 135 yX4_cellAt]
def wsX4_finds_r2 : List Cond := [Cond.instanceMethod yX4_cellAt, Cond.selects RX4 yX4_cellAt yX4_cellAt, Cond.code yX4_cellAt cX4_cellAt 4 (some .int), Cond.fieldLink RX4 25 "SkinBoxModel" "place" "[I", Cond.methodLink RX4 95 yX4_stride, Cond.instanceMethod yX4_stride, Cond.selects RX4 yX4_stride yX4_stride, Cond.code yX4_stride cX4_stride 2 (some .int), Cond.methodLink RX4 140 yX4_adds, Cond.instanceMethod yX4_adds, Cond.selects RX4 yX4_adds yX4_adds, Cond.code yX4_adds cX4_adds 8 (some .int), Cond.fieldLink RX4 16 "SkinBoxModel" "price" "[I", Cond.fieldLink RX4 19 "SkinBoxModel" "rules" "[I", Cond.methodLink RX4 115 yX4_outsides, Cond.instanceMethod yX4_outsides, Cond.selects RX4 yX4_outsides yX4_outsides, Cond.code yX4_outsides cX4_outsides 4 (some .int), Cond.methodLink RX4 99 yX4_placeOf, Cond.instanceMethod yX4_placeOf, Cond.selects RX4 yX4_placeOf yX4_placeOf, Cond.code yX4_placeOf cX4_placeOf 3 (some .int), Cond.methodLink RX4 111 yX4_faceCost, Cond.instanceMethod yX4_faceCost]
def wsX4_finds_r3 : List Cond := [Cond.selects RX4 yX4_faceCost yX4_faceCost, Cond.code yX4_faceCost cX4_faceCost 5 (some .int)]
def wsX4_finds : List Cond := .code yX4_finds cX4_finds 12 none :: ((wsX4_finds_r1 ++ (wsX4_finds_r2 ++ wsX4_finds_r3)) ++ wsX40)
def wsX4_least_r1 : List Cond := [Cond.fieldLink RX4 67 "SkinBoxModel" "thrown" "I", Cond.fieldLink RX4 144 "SkinBoxModel" "found" "J", Cond.constantLong RX4 138 (64), Cond.methodLink RX4 153 yX4_finds, Cond.instanceMethod yX4_finds, Cond.selects RX4 yX4_finds yX4_finds, Cond.initialized RX4, Cond.code yX4_finds cX4_finds 12 none, Cond.fieldLink RX4 7 "SkinBoxModel" "sides" "[I", Cond.fieldLink RX4 22 "SkinBoxModel" "ways" "[I", Cond.fieldLink RX4 28 "SkinBoxModel" "value" "[J", Cond.constantLong RX4 133 (4000000000000000), Cond.fieldLink RX4 32 "SkinBoxModel" "sets" "[J", Cond.fieldLink RX4 35 "SkinBoxModel" "times" "[J", Cond.fieldLink RX4 38 "SkinBoxModel" "nextValue" "[J", Cond.fieldLink RX4 44 "SkinBoxModel" "nextTimes" "[J", Cond.fieldLink RX4 13 "SkinBoxModel" "held" "[I", Cond.fieldLink RX4 41 "SkinBoxModel" "nextSets" "[J", Cond.fieldLink RX4 147 "SkinBoxModel" "foundTimes" "J", Cond.fieldLink RX4 150 "SkinBoxModel" "foundSet" "J", Cond.methodLink RX4 130 yX4_orders, Cond.instanceMethod yX4_orders, Cond.selects RX4 yX4_orders yX4_orders, Cond.code yX4_orders cX4_orders 3 none]
def wsX4_least_r2 : List Cond := [Cond.methodLink RX4 70 yX4_cells, Cond.instanceMethod yX4_cells, Cond.selects RX4 yX4_cells yX4_cells, Cond.code yX4_cells cX4_cells 1 (some .int), Cond.methodLink RX4 135 yX4_cellAt, Cond.instanceMethod yX4_cellAt, Cond.selects RX4 yX4_cellAt yX4_cellAt, Cond.code yX4_cellAt cX4_cellAt 4 (some .int), Cond.fieldLink RX4 25 "SkinBoxModel" "place" "[I", Cond.methodLink RX4 95 yX4_stride, Cond.instanceMethod yX4_stride, Cond.selects RX4 yX4_stride yX4_stride, Cond.code yX4_stride cX4_stride 2 (some .int), Cond.methodLink RX4 140 yX4_adds, Cond.instanceMethod yX4_adds, Cond.selects RX4 yX4_adds yX4_adds, Cond.code yX4_adds cX4_adds 8 (some .int), Cond.fieldLink RX4 16 "SkinBoxModel" "price" "[I", Cond.fieldLink RX4 19 "SkinBoxModel" "rules" "[I", Cond.methodLink RX4 115 yX4_outsides, Cond.instanceMethod yX4_outsides, Cond.selects RX4 yX4_outsides yX4_outsides, Cond.code yX4_outsides cX4_outsides 4 (some .int), Cond.methodLink RX4 99 yX4_placeOf]
def wsX4_least_r3 : List Cond := [Cond.instanceMethod yX4_placeOf, Cond.selects RX4 yX4_placeOf yX4_placeOf, Cond.code yX4_placeOf cX4_placeOf 3 (some .int), Cond.methodLink RX4 111 yX4_faceCost, Cond.instanceMethod yX4_faceCost, Cond.selects RX4 yX4_faceCost yX4_faceCost, Cond.code yX4_faceCost cX4_faceCost 5 (some .int)]
def wsX4_least : List Cond := .code yX4_least cX4_least 1 (some .long) :: ((wsX4_least_r1 ++ (wsX4_least_r2 ++ wsX4_least_r3)) ++ wsX40)
def wsX4_film_r1 : List Cond := [Cond.fieldLink RX4 67 "SkinBoxModel" "thrown" "I", Cond.constantLong RX4 126 (-1), Cond.fieldLink RX4 150 "SkinBoxModel" "foundSet" "J", Cond.methodLink RX4 74 yX4_in, Cond.static yX4_in, Cond.initialized RX4, Cond.code yX4_in cX4_in 6 (some .boolean), Cond.methodLink RX4 153 yX4_finds, Cond.instanceMethod yX4_finds, Cond.selects RX4 yX4_finds yX4_finds, Cond.code yX4_finds cX4_finds 12 none, Cond.fieldLink RX4 7 "SkinBoxModel" "sides" "[I", Cond.fieldLink RX4 22 "SkinBoxModel" "ways" "[I", Cond.fieldLink RX4 28 "SkinBoxModel" "value" "[J", Cond.constantLong RX4 133 (4000000000000000), Cond.fieldLink RX4 32 "SkinBoxModel" "sets" "[J", Cond.fieldLink RX4 35 "SkinBoxModel" "times" "[J", Cond.fieldLink RX4 38 "SkinBoxModel" "nextValue" "[J", Cond.fieldLink RX4 44 "SkinBoxModel" "nextTimes" "[J", Cond.fieldLink RX4 13 "SkinBoxModel" "held" "[I", Cond.constantLong RX4 138 (64), Cond.fieldLink RX4 41 "SkinBoxModel" "nextSets" "[J", Cond.fieldLink RX4 144 "SkinBoxModel" "found" "J", Cond.fieldLink RX4 147 "SkinBoxModel" "foundTimes" "J"]
def wsX4_film_r2 : List Cond := [Cond.methodLink RX4 130 yX4_orders, Cond.instanceMethod yX4_orders, Cond.selects RX4 yX4_orders yX4_orders, Cond.code yX4_orders cX4_orders 3 none, Cond.methodLink RX4 70 yX4_cells, Cond.instanceMethod yX4_cells, Cond.selects RX4 yX4_cells yX4_cells, Cond.code yX4_cells cX4_cells 1 (some .int), Cond.methodLink RX4 135 yX4_cellAt, Cond.instanceMethod yX4_cellAt, Cond.selects RX4 yX4_cellAt yX4_cellAt, Cond.code yX4_cellAt cX4_cellAt 4 (some .int), Cond.fieldLink RX4 25 "SkinBoxModel" "place" "[I", Cond.methodLink RX4 95 yX4_stride, Cond.instanceMethod yX4_stride, Cond.selects RX4 yX4_stride yX4_stride, Cond.code yX4_stride cX4_stride 2 (some .int), Cond.methodLink RX4 140 yX4_adds, Cond.instanceMethod yX4_adds, Cond.selects RX4 yX4_adds yX4_adds, Cond.code yX4_adds cX4_adds 8 (some .int), Cond.fieldLink RX4 16 "SkinBoxModel" "price" "[I", Cond.fieldLink RX4 19 "SkinBoxModel" "rules" "[I", Cond.methodLink RX4 115 yX4_outsides]
def wsX4_film_r3 : List Cond := [Cond.instanceMethod yX4_outsides, Cond.selects RX4 yX4_outsides yX4_outsides, Cond.code yX4_outsides cX4_outsides 4 (some .int), Cond.methodLink RX4 99 yX4_placeOf, Cond.instanceMethod yX4_placeOf, Cond.selects RX4 yX4_placeOf yX4_placeOf, Cond.code yX4_placeOf cX4_placeOf 3 (some .int), Cond.methodLink RX4 111 yX4_faceCost, Cond.instanceMethod yX4_faceCost, Cond.selects RX4 yX4_faceCost yX4_faceCost, Cond.code yX4_faceCost cX4_faceCost 5 (some .int)]
def wsX4_film : List Cond := .code yX4_film cX4_film 2 (some .long) :: ((wsX4_film_r1 ++ (wsX4_film_r2 ++ wsX4_film_r3)) ++ wsX40)
def wsX4_room_r1 : List Cond := [Cond.fieldLink RX4 67 "SkinBoxModel" "thrown" "I", Cond.constantLong RX4 157 (-60), Cond.constantLong RX4 159 (60), Cond.fieldLink RX4 150 "SkinBoxModel" "foundSet" "J", Cond.methodLink RX4 74 yX4_in, Cond.static yX4_in, Cond.initialized RX4, Cond.code yX4_in cX4_in 6 (some .boolean), Cond.methodLink RX4 153 yX4_finds, Cond.instanceMethod yX4_finds, Cond.selects RX4 yX4_finds yX4_finds, Cond.code yX4_finds cX4_finds 12 none, Cond.fieldLink RX4 7 "SkinBoxModel" "sides" "[I", Cond.fieldLink RX4 22 "SkinBoxModel" "ways" "[I", Cond.fieldLink RX4 28 "SkinBoxModel" "value" "[J", Cond.constantLong RX4 133 (4000000000000000), Cond.fieldLink RX4 32 "SkinBoxModel" "sets" "[J", Cond.fieldLink RX4 35 "SkinBoxModel" "times" "[J", Cond.fieldLink RX4 38 "SkinBoxModel" "nextValue" "[J", Cond.fieldLink RX4 44 "SkinBoxModel" "nextTimes" "[J", Cond.fieldLink RX4 13 "SkinBoxModel" "held" "[I", Cond.constantLong RX4 138 (64), Cond.fieldLink RX4 41 "SkinBoxModel" "nextSets" "[J", Cond.fieldLink RX4 144 "SkinBoxModel" "found" "J"]
def wsX4_room_r2 : List Cond := [Cond.fieldLink RX4 147 "SkinBoxModel" "foundTimes" "J", Cond.methodLink RX4 130 yX4_orders, Cond.instanceMethod yX4_orders, Cond.selects RX4 yX4_orders yX4_orders, Cond.code yX4_orders cX4_orders 3 none, Cond.methodLink RX4 70 yX4_cells, Cond.instanceMethod yX4_cells, Cond.selects RX4 yX4_cells yX4_cells, Cond.code yX4_cells cX4_cells 1 (some .int), Cond.methodLink RX4 135 yX4_cellAt, Cond.instanceMethod yX4_cellAt, Cond.selects RX4 yX4_cellAt yX4_cellAt, Cond.code yX4_cellAt cX4_cellAt 4 (some .int), Cond.fieldLink RX4 25 "SkinBoxModel" "place" "[I", Cond.methodLink RX4 95 yX4_stride, Cond.instanceMethod yX4_stride, Cond.selects RX4 yX4_stride yX4_stride, Cond.code yX4_stride cX4_stride 2 (some .int), Cond.methodLink RX4 140 yX4_adds, Cond.instanceMethod yX4_adds, Cond.selects RX4 yX4_adds yX4_adds, Cond.code yX4_adds cX4_adds 8 (some .int), Cond.fieldLink RX4 16 "SkinBoxModel" "price" "[I", Cond.fieldLink RX4 19 "SkinBoxModel" "rules" "[I"]
def wsX4_room_r3 : List Cond := [Cond.methodLink RX4 115 yX4_outsides, Cond.instanceMethod yX4_outsides, Cond.selects RX4 yX4_outsides yX4_outsides, Cond.code yX4_outsides cX4_outsides 4 (some .int), Cond.methodLink RX4 99 yX4_placeOf, Cond.instanceMethod yX4_placeOf, Cond.selects RX4 yX4_placeOf yX4_placeOf, Cond.code yX4_placeOf cX4_placeOf 3 (some .int), Cond.methodLink RX4 111 yX4_faceCost, Cond.instanceMethod yX4_faceCost, Cond.selects RX4 yX4_faceCost yX4_faceCost, Cond.code yX4_faceCost cX4_faceCost 5 (some .int)]
def wsX4_room : List Cond := .code yX4_room cX4_room 5 (some .int) :: ((wsX4_room_r1 ++ (wsX4_room_r2 ++ wsX4_room_r3)) ++ wsX40)
def wsX4_free : List Cond := .code yX4_free cX4_free 3 (some .int) :: ([.fieldLink RX4 13 "SkinBoxModel" "held" "[I", .methodLink RX4 70 yX4_cells, .instanceMethod yX4_cells, .selects RX4 yX4_cells yX4_cells, .initialized RX4, .code yX4_cells cX4_cells 1 (some .int), .fieldLink RX4 7 "SkinBoxModel" "sides" "[I"] ++ wsX40)
def wsX4_many_r1 : List Cond := [Cond.fieldLink RX4 67 "SkinBoxModel" "thrown" "I", Cond.fieldLink RX4 147 "SkinBoxModel" "foundTimes" "J", Cond.methodLink RX4 161 yX4_free, Cond.instanceMethod yX4_free, Cond.selects RX4 yX4_free yX4_free, Cond.initialized RX4, Cond.code yX4_free cX4_free 3 (some .int), Cond.fieldLink RX4 13 "SkinBoxModel" "held" "[I", Cond.methodLink RX4 70 yX4_cells, Cond.instanceMethod yX4_cells, Cond.selects RX4 yX4_cells yX4_cells, Cond.code yX4_cells cX4_cells 1 (some .int), Cond.fieldLink RX4 7 "SkinBoxModel" "sides" "[I", Cond.methodLink RX4 153 yX4_finds, Cond.instanceMethod yX4_finds, Cond.selects RX4 yX4_finds yX4_finds, Cond.code yX4_finds cX4_finds 12 none, Cond.fieldLink RX4 22 "SkinBoxModel" "ways" "[I", Cond.fieldLink RX4 28 "SkinBoxModel" "value" "[J", Cond.constantLong RX4 133 (4000000000000000), Cond.fieldLink RX4 32 "SkinBoxModel" "sets" "[J", Cond.fieldLink RX4 35 "SkinBoxModel" "times" "[J", Cond.fieldLink RX4 38 "SkinBoxModel" "nextValue" "[J", Cond.fieldLink RX4 44 "SkinBoxModel" "nextTimes" "[J"]
def wsX4_many_r2 : List Cond := [Cond.constantLong RX4 138 (64), Cond.fieldLink RX4 41 "SkinBoxModel" "nextSets" "[J", Cond.fieldLink RX4 144 "SkinBoxModel" "found" "J", Cond.fieldLink RX4 150 "SkinBoxModel" "foundSet" "J", Cond.methodLink RX4 130 yX4_orders, Cond.instanceMethod yX4_orders, Cond.selects RX4 yX4_orders yX4_orders, Cond.code yX4_orders cX4_orders 3 none, Cond.methodLink RX4 135 yX4_cellAt, Cond.instanceMethod yX4_cellAt, Cond.selects RX4 yX4_cellAt yX4_cellAt, Cond.code yX4_cellAt cX4_cellAt 4 (some .int), Cond.fieldLink RX4 25 "SkinBoxModel" "place" "[I", Cond.methodLink RX4 95 yX4_stride, Cond.instanceMethod yX4_stride, Cond.selects RX4 yX4_stride yX4_stride, Cond.code yX4_stride cX4_stride 2 (some .int), Cond.methodLink RX4 140 yX4_adds, Cond.instanceMethod yX4_adds, Cond.selects RX4 yX4_adds yX4_adds, Cond.code yX4_adds cX4_adds 8 (some .int), Cond.fieldLink RX4 16 "SkinBoxModel" "price" "[I", Cond.fieldLink RX4 19 "SkinBoxModel" "rules" "[I", Cond.methodLink RX4 115 yX4_outsides]
def wsX4_many_r3 : List Cond := [Cond.instanceMethod yX4_outsides, Cond.selects RX4 yX4_outsides yX4_outsides, Cond.code yX4_outsides cX4_outsides 4 (some .int), Cond.methodLink RX4 99 yX4_placeOf, Cond.instanceMethod yX4_placeOf, Cond.selects RX4 yX4_placeOf yX4_placeOf, Cond.code yX4_placeOf cX4_placeOf 3 (some .int), Cond.methodLink RX4 111 yX4_faceCost, Cond.instanceMethod yX4_faceCost, Cond.selects RX4 yX4_faceCost yX4_faceCost, Cond.code yX4_faceCost cX4_faceCost 5 (some .int)]
def wsX4_many : List Cond := .code yX4_many cX4_many 1 (some .int) :: ((wsX4_many_r1 ++ (wsX4_many_r2 ++ wsX4_many_r3)) ++ wsX40)
def wsX4_isPoint : List Cond := .code yX4_isPoint cX4_isPoint 3 (some .boolean) :: ([.fieldLink RX4 47 "SkinBoxModel" "w" "I", .fieldLink RX4 51 "SkinBoxModel" "h" "I", .methodLink RX4 74 yX4_in, .static yX4_in, .initialized RX4, .code yX4_in cX4_in 6 (some .boolean)] ++ wsX40)
def wsX4_net : List Cond := .code yX4_net cX4_net 3 (some .int) :: ([.fieldLink RX4 67 "SkinBoxModel" "thrown" "I", .constantLong RX4 84 (2), .constantLong RX4 164 (8), .fieldLink RX4 47 "SkinBoxModel" "w" "I", .fieldLink RX4 51 "SkinBoxModel" "h" "I", .methodLink RX4 74 yX4_in, .static yX4_in, .initialized RX4, .code yX4_in cX4_in 6 (some .boolean), .methodLink RX4 64 yX4_pins, .instanceMethod yX4_pins, .selects RX4 yX4_pins yX4_pins, .code yX4_pins cX4_pins 4 none, .fieldLink RX4 54 "SkinBoxModel" "height" "[I", .fieldLink RX4 57 "SkinBoxModel" "isPinned" "[Z"] ++ wsX40)
def wsX4_lift : List Cond := .code yX4_lift cX4_lift 5 (some .int) :: ([.fieldLink RX4 67 "SkinBoxModel" "thrown" "I", .constantLong RX4 170 (-100), .constantLong RX4 172 (100), .constant RX4 90 (-1000000), .fieldLink RX4 54 "SkinBoxModel" "height" "[I", .methodLink RX4 166 yX4_isPoint, .instanceMethod yX4_isPoint, .selects RX4 yX4_isPoint yX4_isPoint, .initialized RX4, .code yX4_isPoint cX4_isPoint 3 (some .boolean), .fieldLink RX4 47 "SkinBoxModel" "w" "I", .fieldLink RX4 51 "SkinBoxModel" "h" "I", .methodLink RX4 74 yX4_in, .static yX4_in, .code yX4_in cX4_in 6 (some .boolean)] ++ wsX40)
def wsX4_pin : List Cond := .code yX4_pin cX4_pin 5 (some .int) :: ([.fieldLink RX4 67 "SkinBoxModel" "thrown" "I", .fieldLink RX4 57 "SkinBoxModel" "isPinned" "[Z", .methodLink RX4 166 yX4_isPoint, .instanceMethod yX4_isPoint, .selects RX4 yX4_isPoint yX4_isPoint, .initialized RX4, .code yX4_isPoint cX4_isPoint 3 (some .boolean), .fieldLink RX4 47 "SkinBoxModel" "w" "I", .fieldLink RX4 51 "SkinBoxModel" "h" "I", .methodLink RX4 74 yX4_in, .static yX4_in, .code yX4_in cX4_in 6 (some .boolean)] ++ wsX40)
def wsX4_height : List Cond := .code yX4_height cX4_height 3 (some .int) :: ([.fieldLink RX4 67 "SkinBoxModel" "thrown" "I", .fieldLink RX4 54 "SkinBoxModel" "height" "[I", .constant RX4 90 (-1000000), .methodLink RX4 166 yX4_isPoint, .instanceMethod yX4_isPoint, .selects RX4 yX4_isPoint yX4_isPoint, .initialized RX4, .code yX4_isPoint cX4_isPoint 3 (some .boolean), .fieldLink RX4 47 "SkinBoxModel" "w" "I", .fieldLink RX4 51 "SkinBoxModel" "h" "I", .methodLink RX4 74 yX4_in, .static yX4_in, .code yX4_in cX4_in 6 (some .boolean)] ++ wsX40)
def wsX4_size : List Cond := .code yX4_size cX4_size 1 (some .int) :: ([])
def wsX4_drawn : List Cond := .code yX4_drawn cX4_drawn 4 (some .int) :: ([.fieldLink RX4 67 "SkinBoxModel" "thrown" "I", .fieldLink RX4 51 "SkinBoxModel" "h" "I", .fieldLink RX4 47 "SkinBoxModel" "w" "I", .fieldLink RX4 54 "SkinBoxModel" "height" "[I", .methodLink RX4 174 yX4_size, .static yX4_size, .initialized RX4, .code yX4_size cX4_size 1 (some .int)] ++ wsX40)
def wsX4_puts : List Cond := .code yX4_puts cX4_puts 4 (some .int) :: ([.fieldLink RX4 61 "SkinBoxModel" "beside" "[I"] ++ wsX40)
def wsX4_stepOf : List Cond := .code yX4_stepOf cX4_stepOf 7 (some .int) :: ([.fieldLink RX4 54 "SkinBoxModel" "height" "[I", .fieldLink RX4 47 "SkinBoxModel" "w" "I", .fieldLink RX4 51 "SkinBoxModel" "h" "I", .fieldLink RX4 61 "SkinBoxModel" "beside" "[I", .fieldLink RX4 57 "SkinBoxModel" "isPinned" "[Z", .methodLink RX4 177 yX4_puts, .instanceMethod yX4_puts, .selects RX4 yX4_puts yX4_puts, .initialized RX4, .code yX4_puts cX4_puts 4 (some .int)] ++ wsX40)
def wsX4_slackOf : List Cond := .code yX4_slackOf cX4_slackOf 4 (some .int) :: ([.fieldLink RX4 51 "SkinBoxModel" "h" "I", .fieldLink RX4 47 "SkinBoxModel" "w" "I", .fieldLink RX4 54 "SkinBoxModel" "height" "[I", .methodLink RX4 180 yX4_stepOf, .instanceMethod yX4_stepOf, .selects RX4 yX4_stepOf yX4_stepOf, .initialized RX4, .code yX4_stepOf cX4_stepOf 7 (some .int), .fieldLink RX4 61 "SkinBoxModel" "beside" "[I", .fieldLink RX4 57 "SkinBoxModel" "isPinned" "[Z", .methodLink RX4 177 yX4_puts, .instanceMethod yX4_puts, .selects RX4 yX4_puts yX4_puts, .code yX4_puts cX4_puts 4 (some .int), .methodLink RX4 174 yX4_size, .static yX4_size, .code yX4_size cX4_size 1 (some .int)] ++ wsX40)
def wsX4_slack : List Cond := .code yX4_slack cX4_slack 1 (some .int) :: ([.fieldLink RX4 67 "SkinBoxModel" "thrown" "I", .methodLink RX4 183 yX4_slackOf, .instanceMethod yX4_slackOf, .selects RX4 yX4_slackOf yX4_slackOf, .initialized RX4, .code yX4_slackOf cX4_slackOf 4 (some .int), .fieldLink RX4 51 "SkinBoxModel" "h" "I", .fieldLink RX4 47 "SkinBoxModel" "w" "I", .fieldLink RX4 54 "SkinBoxModel" "height" "[I", .methodLink RX4 180 yX4_stepOf, .instanceMethod yX4_stepOf, .selects RX4 yX4_stepOf yX4_stepOf, .code yX4_stepOf cX4_stepOf 7 (some .int), .fieldLink RX4 61 "SkinBoxModel" "beside" "[I", .fieldLink RX4 57 "SkinBoxModel" "isPinned" "[Z", .methodLink RX4 177 yX4_puts, .instanceMethod yX4_puts, .selects RX4 yX4_puts yX4_puts, .code yX4_puts cX4_puts 4 (some .int), .methodLink RX4 174 yX4_size, .static yX4_size, .code yX4_size cX4_size 1 (some .int)] ++ wsX40)
def wsX4_rounds_r1 : List Cond := [Cond.fieldLink RX4 67 "SkinBoxModel" "thrown" "I", Cond.constantLong RX4 186 (50), Cond.fieldLink RX4 51 "SkinBoxModel" "h" "I", Cond.fieldLink RX4 47 "SkinBoxModel" "w" "I", Cond.fieldLink RX4 54 "SkinBoxModel" "height" "[I", Cond.methodLink RX4 74 yX4_in, Cond.static yX4_in, Cond.initialized RX4, Cond.code yX4_in cX4_in 6 (some .boolean), Cond.methodLink RX4 183 yX4_slackOf, Cond.instanceMethod yX4_slackOf, Cond.selects RX4 yX4_slackOf yX4_slackOf, Cond.code yX4_slackOf cX4_slackOf 4 (some .int), Cond.methodLink RX4 180 yX4_stepOf, Cond.instanceMethod yX4_stepOf, Cond.selects RX4 yX4_stepOf yX4_stepOf, Cond.code yX4_stepOf cX4_stepOf 7 (some .int), Cond.fieldLink RX4 61 "SkinBoxModel" "beside" "[I", Cond.fieldLink RX4 57 "SkinBoxModel" "isPinned" "[Z", Cond.methodLink RX4 177 yX4_puts, Cond.instanceMethod yX4_puts, Cond.selects RX4 yX4_puts yX4_puts, Cond.code yX4_puts cX4_puts 4 (some .int), Cond.methodLink RX4 174 yX4_size]
def wsX4_rounds_r2 : List Cond := [Cond.static yX4_size, Cond.code yX4_size cX4_size 1 (some .int)]
def wsX4_rounds : List Cond := .code yX4_rounds cX4_rounds 5 (some .int) :: ((wsX4_rounds_r1 ++ wsX4_rounds_r2) ++ wsX40)
def wsX4_count_r1 : List Cond := [Cond.fieldLink RX4 67 "SkinBoxModel" "thrown" "I", Cond.fieldLink RX4 51 "SkinBoxModel" "h" "I", Cond.fieldLink RX4 47 "SkinBoxModel" "w" "I", Cond.fieldLink RX4 57 "SkinBoxModel" "isPinned" "[Z", Cond.fieldLink RX4 7 "SkinBoxModel" "sides" "[I", Cond.methodLink RX4 161 yX4_free, Cond.instanceMethod yX4_free, Cond.selects RX4 yX4_free yX4_free, Cond.initialized RX4, Cond.code yX4_free cX4_free 3 (some .int), Cond.fieldLink RX4 13 "SkinBoxModel" "held" "[I", Cond.methodLink RX4 70 yX4_cells, Cond.instanceMethod yX4_cells, Cond.selects RX4 yX4_cells yX4_cells, Cond.code yX4_cells cX4_cells 1 (some .int), Cond.methodLink RX4 183 yX4_slackOf, Cond.instanceMethod yX4_slackOf, Cond.selects RX4 yX4_slackOf yX4_slackOf, Cond.code yX4_slackOf cX4_slackOf 4 (some .int), Cond.fieldLink RX4 54 "SkinBoxModel" "height" "[I", Cond.methodLink RX4 180 yX4_stepOf, Cond.instanceMethod yX4_stepOf, Cond.selects RX4 yX4_stepOf yX4_stepOf, Cond.code yX4_stepOf cX4_stepOf 7 (some .int)]
def wsX4_count_r2 : List Cond := [Cond.fieldLink RX4 61 "SkinBoxModel" "beside" "[I", Cond.methodLink RX4 177 yX4_puts, Cond.instanceMethod yX4_puts, Cond.selects RX4 yX4_puts yX4_puts, Cond.code yX4_puts cX4_puts 4 (some .int), Cond.methodLink RX4 174 yX4_size, Cond.static yX4_size, Cond.code yX4_size cX4_size 1 (some .int)]
def wsX4_count : List Cond := .code yX4_count cX4_count 5 (some .int) :: ((wsX4_count_r1 ++ wsX4_count_r2) ++ wsX40)
def wsX4_trace : List Cond := .code yX4_trace cX4_trace 1 (some .long) :: ([.fieldLink RX4 67 "SkinBoxModel" "thrown" "I", .fieldLink RX4 103 "SkinBoxModel" "trace" "J"] ++ wsX40)
def wsJ9_abs_0f7a4 : List Cond := .code yJ9_abs_0f7a4 cJ9_abs_0f7a4 1 (some .int) :: ([])
def wsJ9_max_7cf53 : List Cond := .code yJ9_max_7cf53 cJ9_max_7cf53 2 (some .int) :: ([])
def wsJ9_min_7cf53 : List Cond := .code yJ9_min_7cf53 cJ9_min_7cf53 2 (some .int) :: ([])
abbrev vwCl : List vw_C := [(RX0, TX0, 7), (RX1, TX1, 12), (RX2, TX2, 5), (RX3, TX3, 4), (RX4, TX4, 22)]
end
section
/-- the surroundings of a walk -/
abbrev gX : Type := Program × Launch × Env × Room × State × MethodId × Array Value × List Frame × Method × Code × (Nat → Prop) × va_G × (State → Prop)
/-- from pc with these locals, this stack and this world the machine comes to Q -/
def gW (X : gX) (k n : Nat) (ws : va_W) (nL : Nat) (lv : List (Nat × Value)) (st : List Value) (pc : Nat) : Prop :=
  match X with
  | (p, l, e, R, s, m, args, below, meth, c, A, D, Q) => ∀ (H : Heap) (locs : List Loc) (ls : Array Slot), va_P D vwCl ws H → va_D A ws → va_S A s.heap H locs → lv_has ls nL lv → W p l e R s m args below meth c H locs k n Q (F0 m pc ls st)
/-- what stays the same while a method runs -/
def gC (X : gX) (tys : List (ClassId × FieldType)) (cc : ByteArray) (nL : Nat) (own : String) (Ts : List Cond) (rm : Room) : Prop :=
  match X with
  | (p, _, _, R, s, m, args, _, meth, c, A, D, _) => p.tables.exec = Jvm.exec ∧ c.code = cc ∧ c.maxLocals = nL ∧ s.vm.findClass own = some m.cls ∧ (∀ w ∈ Ts, w.before args s = true) ∧ va_K D vwCl tys s ∧ (∀ q : Nat, s.heap.size ≤ q → A q) ∧ R = rm ∧ meth.locks = false
/-- what the world is behind a method -/
def gB {S : Type} (D : va_G) (tys : List (ClassId × FieldType)) (A : Nat → Prop) (w1 : S → va_W) : S → State → Prop := fun u t => va_P D vwCl (w1 u) t.heap ∧ va_K D vwCl tys t ∧ va_D A (w1 u)
def gEi {S : Type} (X : gX) (rt : Option FieldType) (tys : List (ClassId × FieldType)) (mc ms : Nat) (post : Int32 → S → Prop) (w1 : S → va_W) : Prop :=
  match X with
  | (_, _, _, _, s, _, args, below, meth, _, A, D, Q) => meth.sig.returnType = rt ∧ Q = MQ below (va_Qi post (gB D tys A w1) A) args s mc ms A
def gEl {S : Type} (X : gX) (rt : Option FieldType) (tys : List (ClassId × FieldType)) (mc ms : Nat) (post : Int64 → S → Prop) (w1 : S → va_W) : Prop :=
  match X with
  | (_, _, _, _, s, _, args, below, meth, _, A, D, Q) => meth.sig.returnType = rt ∧ Q = MQ below (va_Ql post (gB D tys A w1) A) args s mc ms A
def gEv {S : Type} (X : gX) (rt : Option FieldType) (tys : List (ClassId × FieldType)) (mc ms : Nat) (post : S → Prop) (w1 : S → va_W) : Prop :=
  match X with
  | (_, _, _, _, s, _, args, below, meth, _, A, D, Q) => meth.sig.returnType = rt ∧ Q = MQ below (va_Qv post (gB D tys A w1) A) args s mc ms A
/-- a method's contract -/
def gPre (av : List Value) (D : va_G) (tys : List (ClassId × FieldType)) (wc : va_W) (sz : Nat) : Array Value → State → Prop := va_Pc av (fun U => U.heap.size = sz ∧ va_P D vwCl wc U.heap ∧ va_K D vwCl tys U ∧ va_D (fun _ => True) wc)
def gMi {S : Type} (l : Launch) (y : MethodName) (wsy : List Cond) (rm : Room) (D : va_G) (tys : List (ClassId × FieldType)) (mc ms : Nat) (av : List Value) (wc : va_W) (post : Int32 → S → Prop) (w1 : S → va_W) : Prop :=
  ∀ sz : Nat, Met l y wsy rm (gPre av D tys wc sz) (va_Qi post (gB D tys (va_A wc sz) w1) (va_A wc sz)) mc ms (va_A wc sz)
def gMl {S : Type} (l : Launch) (y : MethodName) (wsy : List Cond) (rm : Room) (D : va_G) (tys : List (ClassId × FieldType)) (mc ms : Nat) (av : List Value) (wc : va_W) (post : Int64 → S → Prop) (w1 : S → va_W) : Prop :=
  ∀ sz : Nat, Met l y wsy rm (gPre av D tys wc sz) (va_Ql post (gB D tys (va_A wc sz) w1) (va_A wc sz)) mc ms (va_A wc sz)
def gMv {S : Type} (l : Launch) (y : MethodName) (wsy : List Cond) (rm : Room) (D : va_G) (tys : List (ClassId × FieldType)) (mc ms : Nat) (av : List Value) (wc : va_W) (post : S → Prop) (w1 : S → va_W) : Prop :=
  ∀ sz : Nat, Met l y wsy rm (gPre av D tys wc sz) (va_Qv post (gB D tys (va_A wc sz) w1) (va_A wc sz)) mc ms (va_A wc sz)
/-- a field that a method may reach -/
def gF (Ts : List Cond) (own : String) (index ci k : Nat) (Cn : String) (T : u_T) (N : Nat) : Prop := (∀ w ∈ u_ws Cn T N, w ∈ Ts) ∧ Cond.fieldLink own index (T k).1 (T k).2.1 (T k).2.2.1 ∈ Ts ∧ vwCl[ci]? = some (Cn, T, N) ∧ k < N
/-- a boolean as the machine has it -/
def bI (b : Bool) : Int32 := if b = true then 1 else 0
theorem bI_t {b : Bool} (h : b = true) : bI b = 1 := by simp [bI, h]
theorem bI_f {b : Bool} (h : b = false) : bI b = 0 := by simp [bI, h]
theorem bI_0 {b : Bool} : bI b = 0 ↔ b = false := by cases b <;> simp [bI]
theorem bI_n {b : Bool} : narrow .boolean (.int (bI b)) = .int (bI b) := by cases b <;> rfl

abbrev gT (cA : Nat → ClassId) : List (ClassId × FieldType) := [(cA 0, .int), (cA 1, .long), (cA 2, .boolean)]
theorem ik_m1 : Int32.ofInt (-1) = (-1 : Int32) := by decide
theorem ik_0 : Int32.ofInt (0) = (0 : Int32) := by decide
theorem ik_1 : Int32.ofInt (1) = (1 : Int32) := by decide
theorem ik_2 : Int32.ofInt (2) = (2 : Int32) := by decide
theorem ik_3 : Int32.ofInt (3) = (3 : Int32) := by decide
theorem ik_4 : Int32.ofInt (4) = (4 : Int32) := by decide
theorem ik_5 : Int32.ofInt (5) = (5 : Int32) := by decide
theorem lk_0 : Int64.ofNat (((0 : Fin 2) : Nat)) = (0 : Int64) := by decide
theorem lk_1 : Int64.ofNat (((1 : Fin 2) : Nat)) = (1 : Int64) := by decide
section GW
variable {X : gX} {k n : Nat} {ws : va_W} {nL : Nat} {lv : List (Nat × Value)} {st : List Value} {pc : Nat} {tys : List (ClassId × FieldType)} {cc : ByteArray} {own : String} {Ts : List Cond} {rm : Room}
theorem g_iconst (C : gC X tys cc nL own Ts rm) {i : Int} {v : Int32} (hd : decode cc pc = .ok (.iconst i, 1)) (hv : Int32.ofInt i = v) (kk : gW X k n ws nL lv (.int v :: st) (pc + 1)) : gW X k n ws nL lv (st) pc := by
  obtain ⟨p, l, e, R, s, m, args, below, meth, c, A, D, Q⟩ := X
  obtain ⟨hx, hb, hml, ho, ht, hK, hA, hR, hlk⟩ := C
  intro H locs ls hP hD hS hl
  exact lv_iconst hx hb hd hv (kk H locs ls hP hD hS hl)
theorem g_bipush (C : gC X tys cc nL own Ts rm) {i : Int} {v : Int32} (hd : decode cc pc = .ok (.bipush i, 2)) (hv : (Int8.ofInt i).toInt32 = v) (kk : gW X k n ws nL lv (.int v :: st) (pc + 2)) : gW X k n ws nL lv (st) pc := by
  obtain ⟨p, l, e, R, s, m, args, below, meth, c, A, D, Q⟩ := X
  obtain ⟨hx, hb, hml, ho, ht, hK, hA, hR, hlk⟩ := C
  intro H locs ls hP hD hS hl
  exact lv_bipush hx hb hd hv (kk H locs ls hP hD hS hl)
theorem g_sipush (C : gC X tys cc nL own Ts rm) {i : Int} {v : Int32} (hd : decode cc pc = .ok (.sipush i, 3)) (hv : (Int16.ofInt i).toInt32 = v) (kk : gW X k n ws nL lv (.int v :: st) (pc + 3)) : gW X k n ws nL lv (st) pc := by
  obtain ⟨p, l, e, R, s, m, args, below, meth, c, A, D, Q⟩ := X
  obtain ⟨hx, hb, hml, ho, ht, hK, hA, hR, hlk⟩ := C
  intro H locs ls hP hD hS hl
  exact lv_sipush hx hb hd hv (kk H locs ls hP hD hS hl)
theorem g_lconst (C : gC X tys cc nL own Ts rm) {i : Fin 2} {v : Int64} (hd : decode cc pc = .ok (.lconst i, 1)) (hv : Int64.ofNat (i : Nat) = v) (kk : gW X k n ws nL lv (.long v :: st) (pc + 1)) : gW X k n ws nL lv (st) pc := by
  obtain ⟨p, l, e, R, s, m, args, below, meth, c, A, D, Q⟩ := X
  obtain ⟨hx, hb, hml, ho, ht, hK, hA, hR, hlk⟩ := C
  intro H locs ls hP hD hS hl
  exact lv_lconst hx hb hd hv (kk H locs ls hP hD hS hl)
theorem g_ldc (C : gC X tys cc nL own Ts rm) {i : Nat} {v : Int32} (hw : Cond.constant own i v ∈ Ts) (hd : decode cc pc = .ok (.ldc i, 2)) (kk : gW X k n ws nL lv (.int v :: st) (pc + 2)) : gW X k n ws nL lv (st) pc := by
  obtain ⟨p, l, e, R, s, m, args, below, meth, c, A, D, Q⟩ := X
  obtain ⟨hx, hb, hml, ho, ht, hK, hA, hR, hlk⟩ := C
  intro H locs ls hP hD hS hl
  exact lv_ldc hx hb ho (ht _ hw) hd (kk H locs ls hP hD hS hl)
theorem g_ldc_w (C : gC X tys cc nL own Ts rm) {i : Nat} {v : Int32} (hw : Cond.constant own i v ∈ Ts) (hd : decode cc pc = .ok (.ldc_w i, 3)) (kk : gW X k n ws nL lv (.int v :: st) (pc + 3)) : gW X k n ws nL lv (st) pc := by
  obtain ⟨p, l, e, R, s, m, args, below, meth, c, A, D, Q⟩ := X
  obtain ⟨hx, hb, hml, ho, ht, hK, hA, hR, hlk⟩ := C
  intro H locs ls hP hD hS hl
  exact lv_ldcw hx hb ho (ht _ hw) hd (kk H locs ls hP hD hS hl)
theorem g_ldc2_w (C : gC X tys cc nL own Ts rm) {i : Nat} {v : Int64} (hw : Cond.constantLong own i v ∈ Ts) (hd : decode cc pc = .ok (.ldc2_w i, 3)) (kk : gW X k n ws nL lv (.long v :: st) (pc + 3)) : gW X k n ws nL lv (st) pc := by
  obtain ⟨p, l, e, R, s, m, args, below, meth, c, A, D, Q⟩ := X
  obtain ⟨hx, hb, hml, ho, ht, hK, hA, hR, hlk⟩ := C
  intro H locs ls hP hD hS hl
  exact lv_ldc2 hx hb ho (ht _ hw) hd (kk H locs ls hP hD hS hl)
theorem g_iload_n (C : gC X tys cc nL own Ts rm) {j : Fin 4} {i : Nat} {x : Int32} (hd : decode cc pc = .ok (.iload_n j, 1)) (hi : (j : Nat) = i) (q : Nat) (hq : lv[q]? = some (i, .int x)) (kk : gW X k n ws nL lv (.int x :: st) (pc + 1)) : gW X k n ws nL lv (st) pc := by
  obtain ⟨p, l, e, R, s, m, args, below, meth, c, A, D, Q⟩ := X
  obtain ⟨hx, hb, hml, ho, ht, hK, hA, hR, hlk⟩ := C
  intro H locs ls hP hD hS hl
  exact lv_iload_n hx hb hd hi (lv_at hl q hq) (kk H locs ls hP hD hS hl)
theorem g_iload (C : gC X tys cc nL own Ts rm) {i : Nat} {x : Int32} (hd : decode cc pc = .ok (.iload i, 2)) (q : Nat) (hq : lv[q]? = some (i, .int x)) (kk : gW X k n ws nL lv (.int x :: st) (pc + 2)) : gW X k n ws nL lv (st) pc := by
  obtain ⟨p, l, e, R, s, m, args, below, meth, c, A, D, Q⟩ := X
  obtain ⟨hx, hb, hml, ho, ht, hK, hA, hR, hlk⟩ := C
  intro H locs ls hP hD hS hl
  exact lv_iload hx hb hd (lv_at hl q hq) (kk H locs ls hP hD hS hl)
theorem g_istore_n (C : gC X tys cc nL own Ts rm) {j : Fin 4} {i : Nat} {x : Int32} {lv2 : List (Nat × Value)} (hd : decode cc pc = .ok (.istore_n j, 1)) (hi : (j : Nat) = i) (hn : i < nL) (ks : List Nat) (hk : lv_pick ((i, Value.int x) :: lv.filter (fun q => !(q.1 == i) && !(q.1 + 1 == i && q.2.category == 2))) ks = lv2) (kk : gW X k n ws nL lv2 st (pc + 1)) : gW X k n ws nL lv (.int x :: st) pc := by
  obtain ⟨p, l, e, R, s, m, args, below, meth, c, A, D, Q⟩ := X
  obtain ⟨hx, hb, hml, ho, ht, hK, hA, hR, hlk⟩ := C
  intro H locs ls hP hD hS hl
  exact lv_istore_n hx hb hd hi hl hn rfl (fun ls2 h2 => kk H locs ls2 hP hD hS (lv_sub h2 ks hk))
theorem g_istore (C : gC X tys cc nL own Ts rm) {i : Nat} {x : Int32} {lv2 : List (Nat × Value)} (hd : decode cc pc = .ok (.istore i, 2)) (hn : i < nL) (ks : List Nat) (hk : lv_pick ((i, Value.int x) :: lv.filter (fun q => !(q.1 == i) && !(q.1 + 1 == i && q.2.category == 2))) ks = lv2) (kk : gW X k n ws nL lv2 st (pc + 2)) : gW X k n ws nL lv (.int x :: st) pc := by
  obtain ⟨p, l, e, R, s, m, args, below, meth, c, A, D, Q⟩ := X
  obtain ⟨hx, hb, hml, ho, ht, hK, hA, hR, hlk⟩ := C
  intro H locs ls hP hD hS hl
  exact lv_istore hx hb hd hl hn rfl (fun ls2 h2 => kk H locs ls2 hP hD hS (lv_sub h2 ks hk))
theorem g_lload_n (C : gC X tys cc nL own Ts rm) {j : Fin 4} {i : Nat} {x : Int64} (hd : decode cc pc = .ok (.lload_n j, 1)) (hi : (j : Nat) = i) (q : Nat) (hq : lv[q]? = some (i, .long x)) (kk : gW X k n ws nL lv (.long x :: st) (pc + 1)) : gW X k n ws nL lv (st) pc := by
  obtain ⟨p, l, e, R, s, m, args, below, meth, c, A, D, Q⟩ := X
  obtain ⟨hx, hb, hml, ho, ht, hK, hA, hR, hlk⟩ := C
  intro H locs ls hP hD hS hl
  exact lv_lload_n hx hb hd hi (lv_at hl q hq) (kk H locs ls hP hD hS hl)
theorem g_lload (C : gC X tys cc nL own Ts rm) {i : Nat} {x : Int64} (hd : decode cc pc = .ok (.lload i, 2)) (q : Nat) (hq : lv[q]? = some (i, .long x)) (kk : gW X k n ws nL lv (.long x :: st) (pc + 2)) : gW X k n ws nL lv (st) pc := by
  obtain ⟨p, l, e, R, s, m, args, below, meth, c, A, D, Q⟩ := X
  obtain ⟨hx, hb, hml, ho, ht, hK, hA, hR, hlk⟩ := C
  intro H locs ls hP hD hS hl
  exact lv_lload hx hb hd (lv_at hl q hq) (kk H locs ls hP hD hS hl)
theorem g_lstore_n (C : gC X tys cc nL own Ts rm) {j : Fin 4} {i : Nat} {x : Int64} {lv2 : List (Nat × Value)} (hd : decode cc pc = .ok (.lstore_n j, 1)) (hi : (j : Nat) = i) (hn : i + 1 < nL) (ks : List Nat) (hk : lv_pick ((i, Value.long x) :: lv.filter (fun q => !(q.1 == i) && (!(q.1 == i + 1) && !(q.1 + 1 == i && q.2.category == 2)))) ks = lv2) (kk : gW X k n ws nL lv2 st (pc + 1)) : gW X k n ws nL lv (.long x :: st) pc := by
  obtain ⟨p, l, e, R, s, m, args, below, meth, c, A, D, Q⟩ := X
  obtain ⟨hx, hb, hml, ho, ht, hK, hA, hR, hlk⟩ := C
  intro H locs ls hP hD hS hl
  exact lv_lstore_n hx hb hd hi hl hn rfl (fun ls2 h2 => kk H locs ls2 hP hD hS (lv_sub h2 ks hk))
theorem g_lstore (C : gC X tys cc nL own Ts rm) {i : Nat} {x : Int64} {lv2 : List (Nat × Value)} (hd : decode cc pc = .ok (.lstore i, 2)) (hn : i + 1 < nL) (ks : List Nat) (hk : lv_pick ((i, Value.long x) :: lv.filter (fun q => !(q.1 == i) && (!(q.1 == i + 1) && !(q.1 + 1 == i && q.2.category == 2)))) ks = lv2) (kk : gW X k n ws nL lv2 st (pc + 2)) : gW X k n ws nL lv (.long x :: st) pc := by
  obtain ⟨p, l, e, R, s, m, args, below, meth, c, A, D, Q⟩ := X
  obtain ⟨hx, hb, hml, ho, ht, hK, hA, hR, hlk⟩ := C
  intro H locs ls hP hD hS hl
  exact lv_lstore hx hb hd hl hn rfl (fun ls2 h2 => kk H locs ls2 hP hD hS (lv_sub h2 ks hk))
theorem g_aload_n (C : gC X tys cc nL own Ts rm) {j : Fin 4} {i : Nat} {x : Nat} (hd : decode cc pc = .ok (.aload_n j, 1)) (hi : (j : Nat) = i) (q : Nat) (hq : lv[q]? = some (i, .ref x)) (kk : gW X k n ws nL lv (.ref x :: st) (pc + 1)) : gW X k n ws nL lv (st) pc := by
  obtain ⟨p, l, e, R, s, m, args, below, meth, c, A, D, Q⟩ := X
  obtain ⟨hx, hb, hml, ho, ht, hK, hA, hR, hlk⟩ := C
  intro H locs ls hP hD hS hl
  exact lv_aload_n hx hb hd hi (lv_at hl q hq) (kk H locs ls hP hD hS hl)
theorem g_aload (C : gC X tys cc nL own Ts rm) {i : Nat} {x : Nat} (hd : decode cc pc = .ok (.aload i, 2)) (q : Nat) (hq : lv[q]? = some (i, .ref x)) (kk : gW X k n ws nL lv (.ref x :: st) (pc + 2)) : gW X k n ws nL lv (st) pc := by
  obtain ⟨p, l, e, R, s, m, args, below, meth, c, A, D, Q⟩ := X
  obtain ⟨hx, hb, hml, ho, ht, hK, hA, hR, hlk⟩ := C
  intro H locs ls hP hD hS hl
  exact lv_aload hx hb hd (lv_at hl q hq) (kk H locs ls hP hD hS hl)
theorem g_astore_n (C : gC X tys cc nL own Ts rm) {j : Fin 4} {i : Nat} {x : Nat} {lv2 : List (Nat × Value)} (hd : decode cc pc = .ok (.astore_n j, 1)) (hi : (j : Nat) = i) (hn : i < nL) (ks : List Nat) (hk : lv_pick ((i, Value.ref x) :: lv.filter (fun q => !(q.1 == i) && !(q.1 + 1 == i && q.2.category == 2))) ks = lv2) (kk : gW X k n ws nL lv2 st (pc + 1)) : gW X k n ws nL lv (.ref x :: st) pc := by
  obtain ⟨p, l, e, R, s, m, args, below, meth, c, A, D, Q⟩ := X
  obtain ⟨hx, hb, hml, ho, ht, hK, hA, hR, hlk⟩ := C
  intro H locs ls hP hD hS hl
  exact lv_astore_n hx hb hd hi hl hn rfl (fun ls2 h2 => kk H locs ls2 hP hD hS (lv_sub h2 ks hk))
theorem g_astore (C : gC X tys cc nL own Ts rm) {i : Nat} {x : Nat} {lv2 : List (Nat × Value)} (hd : decode cc pc = .ok (.astore i, 2)) (hn : i < nL) (ks : List Nat) (hk : lv_pick ((i, Value.ref x) :: lv.filter (fun q => !(q.1 == i) && !(q.1 + 1 == i && q.2.category == 2))) ks = lv2) (kk : gW X k n ws nL lv2 st (pc + 2)) : gW X k n ws nL lv (.ref x :: st) pc := by
  obtain ⟨p, l, e, R, s, m, args, below, meth, c, A, D, Q⟩ := X
  obtain ⟨hx, hb, hml, ho, ht, hK, hA, hR, hlk⟩ := C
  intro H locs ls hP hD hS hl
  exact lv_astore hx hb hd hl hn rfl (fun ls2 h2 => kk H locs ls2 hP hD hS (lv_sub h2 ks hk))
theorem g_iinc (C : gC X tys cc nL own Ts rm) {i : Nat} {d : Int} {x v : Int32} {lv2 : List (Nat × Value)} (hd : decode cc pc = .ok (.iinc i d, 3)) (q : Nat) (hq : lv[q]? = some (i, .int x)) (hv : x + Int32.ofInt d = v) (hn : i < nL) (ks : List Nat) (hk : lv_pick ((i, Value.int v) :: lv.filter (fun q => !(q.1 == i) && !(q.1 + 1 == i && q.2.category == 2))) ks = lv2) (kk : gW X k n ws nL lv2 st (pc + 3)) : gW X k n ws nL lv (st) pc := by
  obtain ⟨p, l, e, R, s, m, args, below, meth, c, A, D, Q⟩ := X
  obtain ⟨hx, hb, hml, ho, ht, hK, hA, hR, hlk⟩ := C
  intro H locs ls hP hD hS hl
  exact lv_iinc hx hb hd hl hq hv hn rfl (fun ls2 h2 => kk H locs ls2 hP hD hS (lv_sub h2 ks hk))
theorem g_iadd (C : gC X tys cc nL own Ts rm) {x y : Int32} (hd : decode cc pc = .ok (.iadd, 1)) (kk : gW X k n ws nL lv (.int (x + y) :: st) (pc + 1)) : gW X k n ws nL lv (.int y :: .int x :: st) pc := by
  obtain ⟨p, l, e, R, s, m, args, below, meth, c, A, D, Q⟩ := X
  obtain ⟨hx, hb, hml, ho, ht, hK, hA, hR, hlk⟩ := C
  intro H locs ls hP hD hS hl
  exact lv_iadd hx hb hd (kk H locs ls hP hD hS hl)
theorem g_isub (C : gC X tys cc nL own Ts rm) {x y : Int32} (hd : decode cc pc = .ok (.isub, 1)) (kk : gW X k n ws nL lv (.int (x - y) :: st) (pc + 1)) : gW X k n ws nL lv (.int y :: .int x :: st) pc := by
  obtain ⟨p, l, e, R, s, m, args, below, meth, c, A, D, Q⟩ := X
  obtain ⟨hx, hb, hml, ho, ht, hK, hA, hR, hlk⟩ := C
  intro H locs ls hP hD hS hl
  exact lv_isub hx hb hd (kk H locs ls hP hD hS hl)
theorem g_imul (C : gC X tys cc nL own Ts rm) {x y : Int32} (hd : decode cc pc = .ok (.imul, 1)) (kk : gW X k n ws nL lv (.int (x * y) :: st) (pc + 1)) : gW X k n ws nL lv (.int y :: .int x :: st) pc := by
  obtain ⟨p, l, e, R, s, m, args, below, meth, c, A, D, Q⟩ := X
  obtain ⟨hx, hb, hml, ho, ht, hK, hA, hR, hlk⟩ := C
  intro H locs ls hP hD hS hl
  exact lv_imul hx hb hd (kk H locs ls hP hD hS hl)
theorem g_iand (C : gC X tys cc nL own Ts rm) {x y : Int32} (hd : decode cc pc = .ok (.iand, 1)) (kk : gW X k n ws nL lv (.int (x &&& y) :: st) (pc + 1)) : gW X k n ws nL lv (.int y :: .int x :: st) pc := by
  obtain ⟨p, l, e, R, s, m, args, below, meth, c, A, D, Q⟩ := X
  obtain ⟨hx, hb, hml, ho, ht, hK, hA, hR, hlk⟩ := C
  intro H locs ls hP hD hS hl
  exact lv_iand hx hb hd (kk H locs ls hP hD hS hl)
theorem g_ior (C : gC X tys cc nL own Ts rm) {x y : Int32} (hd : decode cc pc = .ok (.ior, 1)) (kk : gW X k n ws nL lv (.int (x ||| y) :: st) (pc + 1)) : gW X k n ws nL lv (.int y :: .int x :: st) pc := by
  obtain ⟨p, l, e, R, s, m, args, below, meth, c, A, D, Q⟩ := X
  obtain ⟨hx, hb, hml, ho, ht, hK, hA, hR, hlk⟩ := C
  intro H locs ls hP hD hS hl
  exact lv_ior hx hb hd (kk H locs ls hP hD hS hl)
theorem g_ixor (C : gC X tys cc nL own Ts rm) {x y : Int32} (hd : decode cc pc = .ok (.ixor, 1)) (kk : gW X k n ws nL lv (.int (x ^^^ y) :: st) (pc + 1)) : gW X k n ws nL lv (.int y :: .int x :: st) pc := by
  obtain ⟨p, l, e, R, s, m, args, below, meth, c, A, D, Q⟩ := X
  obtain ⟨hx, hb, hml, ho, ht, hK, hA, hR, hlk⟩ := C
  intro H locs ls hP hD hS hl
  exact lv_ixor hx hb hd (kk H locs ls hP hD hS hl)
theorem g_ineg (C : gC X tys cc nL own Ts rm) {x : Int32} (hd : decode cc pc = .ok (.ineg, 1)) (kk : gW X k n ws nL lv (.int (-x) :: st) (pc + 1)) : gW X k n ws nL lv (.int x :: st) pc := by
  obtain ⟨p, l, e, R, s, m, args, below, meth, c, A, D, Q⟩ := X
  obtain ⟨hx, hb, hml, ho, ht, hK, hA, hR, hlk⟩ := C
  intro H locs ls hP hD hS hl
  exact lv_ineg hx hb hd (kk H locs ls hP hD hS hl)
theorem g_idiv (C : gC X tys cc nL own Ts rm) {x y : Int32} (hd : decode cc pc = .ok (.idiv, 1)) (hne : ¬ y = 0) (kk : gW X k n ws nL lv (.int (x / y) :: st) (pc + 1)) : gW X k n ws nL lv (.int y :: .int x :: st) pc := by
  obtain ⟨p, l, e, R, s, m, args, below, meth, c, A, D, Q⟩ := X
  obtain ⟨hx, hb, hml, ho, ht, hK, hA, hR, hlk⟩ := C
  intro H locs ls hP hD hS hl
  exact lv_idiv hx hb hd hne (kk H locs ls hP hD hS hl)
theorem g_irem (C : gC X tys cc nL own Ts rm) {x y : Int32} (hd : decode cc pc = .ok (.irem, 1)) (hne : ¬ y = 0) (kk : gW X k n ws nL lv (.int (x - x / y * y) :: st) (pc + 1)) : gW X k n ws nL lv (.int y :: .int x :: st) pc := by
  obtain ⟨p, l, e, R, s, m, args, below, meth, c, A, D, Q⟩ := X
  obtain ⟨hx, hb, hml, ho, ht, hK, hA, hR, hlk⟩ := C
  intro H locs ls hP hD hS hl
  exact lv_irem hx hb hd hne (kk H locs ls hP hD hS hl)
theorem g_ladd (C : gC X tys cc nL own Ts rm) {x y : Int64} (hd : decode cc pc = .ok (.ladd, 1)) (kk : gW X k n ws nL lv (.long (x + y) :: st) (pc + 1)) : gW X k n ws nL lv (.long y :: .long x :: st) pc := by
  obtain ⟨p, l, e, R, s, m, args, below, meth, c, A, D, Q⟩ := X
  obtain ⟨hx, hb, hml, ho, ht, hK, hA, hR, hlk⟩ := C
  intro H locs ls hP hD hS hl
  exact lv_ladd hx hb hd (kk H locs ls hP hD hS hl)
theorem g_lsub (C : gC X tys cc nL own Ts rm) {x y : Int64} (hd : decode cc pc = .ok (.lsub, 1)) (kk : gW X k n ws nL lv (.long (x - y) :: st) (pc + 1)) : gW X k n ws nL lv (.long y :: .long x :: st) pc := by
  obtain ⟨p, l, e, R, s, m, args, below, meth, c, A, D, Q⟩ := X
  obtain ⟨hx, hb, hml, ho, ht, hK, hA, hR, hlk⟩ := C
  intro H locs ls hP hD hS hl
  exact lv_lsub hx hb hd (kk H locs ls hP hD hS hl)
theorem g_lmul (C : gC X tys cc nL own Ts rm) {x y : Int64} (hd : decode cc pc = .ok (.lmul, 1)) (kk : gW X k n ws nL lv (.long (x * y) :: st) (pc + 1)) : gW X k n ws nL lv (.long y :: .long x :: st) pc := by
  obtain ⟨p, l, e, R, s, m, args, below, meth, c, A, D, Q⟩ := X
  obtain ⟨hx, hb, hml, ho, ht, hK, hA, hR, hlk⟩ := C
  intro H locs ls hP hD hS hl
  exact lv_lmul hx hb hd (kk H locs ls hP hD hS hl)
theorem g_land (C : gC X tys cc nL own Ts rm) {x y : Int64} (hd : decode cc pc = .ok (.land, 1)) (kk : gW X k n ws nL lv (.long (x &&& y) :: st) (pc + 1)) : gW X k n ws nL lv (.long y :: .long x :: st) pc := by
  obtain ⟨p, l, e, R, s, m, args, below, meth, c, A, D, Q⟩ := X
  obtain ⟨hx, hb, hml, ho, ht, hK, hA, hR, hlk⟩ := C
  intro H locs ls hP hD hS hl
  exact lv_land hx hb hd (kk H locs ls hP hD hS hl)
theorem g_lor (C : gC X tys cc nL own Ts rm) {x y : Int64} (hd : decode cc pc = .ok (.lor, 1)) (kk : gW X k n ws nL lv (.long (x ||| y) :: st) (pc + 1)) : gW X k n ws nL lv (.long y :: .long x :: st) pc := by
  obtain ⟨p, l, e, R, s, m, args, below, meth, c, A, D, Q⟩ := X
  obtain ⟨hx, hb, hml, ho, ht, hK, hA, hR, hlk⟩ := C
  intro H locs ls hP hD hS hl
  exact lv_lor hx hb hd (kk H locs ls hP hD hS hl)
theorem g_lxor (C : gC X tys cc nL own Ts rm) {x y : Int64} (hd : decode cc pc = .ok (.lxor, 1)) (kk : gW X k n ws nL lv (.long (x ^^^ y) :: st) (pc + 1)) : gW X k n ws nL lv (.long y :: .long x :: st) pc := by
  obtain ⟨p, l, e, R, s, m, args, below, meth, c, A, D, Q⟩ := X
  obtain ⟨hx, hb, hml, ho, ht, hK, hA, hR, hlk⟩ := C
  intro H locs ls hP hD hS hl
  exact lv_lxor hx hb hd (kk H locs ls hP hD hS hl)
theorem g_lneg (C : gC X tys cc nL own Ts rm) {x : Int64} (hd : decode cc pc = .ok (.lneg, 1)) (kk : gW X k n ws nL lv (.long (-x) :: st) (pc + 1)) : gW X k n ws nL lv (.long x :: st) pc := by
  obtain ⟨p, l, e, R, s, m, args, below, meth, c, A, D, Q⟩ := X
  obtain ⟨hx, hb, hml, ho, ht, hK, hA, hR, hlk⟩ := C
  intro H locs ls hP hD hS hl
  exact lv_lneg hx hb hd (kk H locs ls hP hD hS hl)
theorem g_ldiv (C : gC X tys cc nL own Ts rm) {x y : Int64} (hd : decode cc pc = .ok (.ldiv, 1)) (hne : ¬ y = 0) (kk : gW X k n ws nL lv (.long (x / y) :: st) (pc + 1)) : gW X k n ws nL lv (.long y :: .long x :: st) pc := by
  obtain ⟨p, l, e, R, s, m, args, below, meth, c, A, D, Q⟩ := X
  obtain ⟨hx, hb, hml, ho, ht, hK, hA, hR, hlk⟩ := C
  intro H locs ls hP hD hS hl
  exact lv_ldiv hx hb hd hne (kk H locs ls hP hD hS hl)
theorem g_lrem (C : gC X tys cc nL own Ts rm) {x y : Int64} (hd : decode cc pc = .ok (.lrem, 1)) (hne : ¬ y = 0) (kk : gW X k n ws nL lv (.long (x - x / y * y) :: st) (pc + 1)) : gW X k n ws nL lv (.long y :: .long x :: st) pc := by
  obtain ⟨p, l, e, R, s, m, args, below, meth, c, A, D, Q⟩ := X
  obtain ⟨hx, hb, hml, ho, ht, hK, hA, hR, hlk⟩ := C
  intro H locs ls hP hD hS hl
  exact lv_lrem hx hb hd hne (kk H locs ls hP hD hS hl)
theorem g_ishl (C : gC X tys cc nL own Ts rm) {x y : Int32} (hd : decode cc pc = .ok (.ishl, 1)) (kk : gW X k n ws nL lv (.int (x <<< (y &&& 31)) :: st) (pc + 1)) : gW X k n ws nL lv (.int y :: .int x :: st) pc := by
  obtain ⟨p, l, e, R, s, m, args, below, meth, c, A, D, Q⟩ := X
  obtain ⟨hx, hb, hml, ho, ht, hK, hA, hR, hlk⟩ := C
  intro H locs ls hP hD hS hl
  exact lv_ishl hx hb hd (kk H locs ls hP hD hS hl)
theorem g_ishr (C : gC X tys cc nL own Ts rm) {x y : Int32} (hd : decode cc pc = .ok (.ishr, 1)) (kk : gW X k n ws nL lv (.int (x >>> (y &&& 31)) :: st) (pc + 1)) : gW X k n ws nL lv (.int y :: .int x :: st) pc := by
  obtain ⟨p, l, e, R, s, m, args, below, meth, c, A, D, Q⟩ := X
  obtain ⟨hx, hb, hml, ho, ht, hK, hA, hR, hlk⟩ := C
  intro H locs ls hP hD hS hl
  exact lv_ishr hx hb hd (kk H locs ls hP hD hS hl)
theorem g_iushr (C : gC X tys cc nL own Ts rm) {x y : Int32} (hd : decode cc pc = .ok (.iushr, 1)) (kk : gW X k n ws nL lv (.int ((x.toUInt32 >>> (y.toUInt32 &&& Int32.toUInt32 31)).toInt32) :: st) (pc + 1)) : gW X k n ws nL lv (.int y :: .int x :: st) pc := by
  obtain ⟨p, l, e, R, s, m, args, below, meth, c, A, D, Q⟩ := X
  obtain ⟨hx, hb, hml, ho, ht, hK, hA, hR, hlk⟩ := C
  intro H locs ls hP hD hS hl
  exact lv_iushr hx hb hd rfl (kk H locs ls hP hD hS hl)
theorem g_lshl (C : gC X tys cc nL own Ts rm) {x : Int64} {y : Int32} (hd : decode cc pc = .ok (.lshl, 1)) (kk : gW X k n ws nL lv (.long (x <<< (y.toInt64 &&& 63)) :: st) (pc + 1)) : gW X k n ws nL lv (.int y :: .long x :: st) pc := by
  obtain ⟨p, l, e, R, s, m, args, below, meth, c, A, D, Q⟩ := X
  obtain ⟨hx, hb, hml, ho, ht, hK, hA, hR, hlk⟩ := C
  intro H locs ls hP hD hS hl
  exact lv_lshl hx hb hd rfl (kk H locs ls hP hD hS hl)
theorem g_lshr (C : gC X tys cc nL own Ts rm) {x : Int64} {y : Int32} (hd : decode cc pc = .ok (.lshr, 1)) (kk : gW X k n ws nL lv (.long (x >>> (y.toInt64 &&& 63)) :: st) (pc + 1)) : gW X k n ws nL lv (.int y :: .long x :: st) pc := by
  obtain ⟨p, l, e, R, s, m, args, below, meth, c, A, D, Q⟩ := X
  obtain ⟨hx, hb, hml, ho, ht, hK, hA, hR, hlk⟩ := C
  intro H locs ls hP hD hS hl
  exact lv_lshr hx hb hd rfl (kk H locs ls hP hD hS hl)
theorem g_lushr (C : gC X tys cc nL own Ts rm) {x : Int64} {y : Int32} (hd : decode cc pc = .ok (.lushr, 1)) (kk : gW X k n ws nL lv (.long ((x.toUInt64 >>> (y.toInt64.toUInt64 &&& Int64.toUInt64 63)).toInt64) :: st) (pc + 1)) : gW X k n ws nL lv (.int y :: .long x :: st) pc := by
  obtain ⟨p, l, e, R, s, m, args, below, meth, c, A, D, Q⟩ := X
  obtain ⟨hx, hb, hml, ho, ht, hK, hA, hR, hlk⟩ := C
  intro H locs ls hP hD hS hl
  exact lv_lushr hx hb hd rfl (kk H locs ls hP hD hS hl)
theorem g_i2l (C : gC X tys cc nL own Ts rm) {x : Int32} (hd : decode cc pc = .ok (.i2l, 1)) (kk : gW X k n ws nL lv (.long x.toInt64 :: st) (pc + 1)) : gW X k n ws nL lv (.int x :: st) pc := by
  obtain ⟨p, l, e, R, s, m, args, below, meth, c, A, D, Q⟩ := X
  obtain ⟨hx, hb, hml, ho, ht, hK, hA, hR, hlk⟩ := C
  intro H locs ls hP hD hS hl
  exact lv_i2l hx hb hd rfl (kk H locs ls hP hD hS hl)
theorem g_l2i (C : gC X tys cc nL own Ts rm) {x : Int64} (hd : decode cc pc = .ok (.l2i, 1)) (kk : gW X k n ws nL lv (.int x.toInt32 :: st) (pc + 1)) : gW X k n ws nL lv (.long x :: st) pc := by
  obtain ⟨p, l, e, R, s, m, args, below, meth, c, A, D, Q⟩ := X
  obtain ⟨hx, hb, hml, ho, ht, hK, hA, hR, hlk⟩ := C
  intro H locs ls hP hD hS hl
  exact lv_l2i hx hb hd rfl (kk H locs ls hP hD hS hl)
theorem g_lcmp (C : gC X tys cc nL own Ts rm) {x y : Int64} (hd : decode cc pc = .ok (.lcmp, 1)) (kk : gW X k n ws nL lv (.int (lg_cmp x y) :: st) (pc + 1)) : gW X k n ws nL lv (.long y :: .long x :: st) pc := by
  obtain ⟨p, l, e, R, s, m, args, below, meth, c, A, D, Q⟩ := X
  obtain ⟨hx, hb, hml, ho, ht, hK, hA, hR, hlk⟩ := C
  intro H locs ls hP hD hS hl
  exact W.lcmp hx hb hd (kk H locs ls hP hD hS hl)
theorem g_dup (C : gC X tys cc nL own Ts rm) {va : Value} (hd : decode cc pc = .ok (.dup, 1)) (hva : va.category = 1) (kk : gW X k n ws nL lv (va :: va :: st) (pc + 1)) : gW X k n ws nL lv (va :: st) pc := by
  obtain ⟨p, l, e, R, s, m, args, below, meth, c, A, D, Q⟩ := X
  obtain ⟨hx, hb, hml, ho, ht, hK, hA, hR, hlk⟩ := C
  intro H locs ls hP hD hS hl
  exact lv_dup hx hb hd hva (kk H locs ls hP hD hS hl)
theorem g_dup2_2 (C : gC X tys cc nL own Ts rm) {va : Value} (hd : decode cc pc = .ok (.dup2, 1)) (hva : va.category = 2) (kk : gW X k n ws nL lv (va :: va :: st) (pc + 1)) : gW X k n ws nL lv (va :: st) pc := by
  obtain ⟨p, l, e, R, s, m, args, below, meth, c, A, D, Q⟩ := X
  obtain ⟨hx, hb, hml, ho, ht, hK, hA, hR, hlk⟩ := C
  intro H locs ls hP hD hS hl
  exact lv_dup2_2 hx hb hd hva (kk H locs ls hP hD hS hl)
theorem g_dup2_11 (C : gC X tys cc nL own Ts rm) {va vb : Value} (hd : decode cc pc = .ok (.dup2, 1)) (hva : va.category = 1) (hvb : vb.category = 1) (kk : gW X k n ws nL lv (va :: vb :: va :: vb :: st) (pc + 1)) : gW X k n ws nL lv (va :: vb :: st) pc := by
  obtain ⟨p, l, e, R, s, m, args, below, meth, c, A, D, Q⟩ := X
  obtain ⟨hx, hb, hml, ho, ht, hK, hA, hR, hlk⟩ := C
  intro H locs ls hP hD hS hl
  exact lv_dup2_11 hx hb hd hva hvb (kk H locs ls hP hD hS hl)
theorem g_goto (C : gC X tys cc nL own Ts rm) {off : Int} {tgt : Nat} (hd : decode cc pc = .ok (.goto off, 3)) (h0 : (pc : Int) + off = (tgt : Int)) (kk : gW X k n ws nL lv st tgt) : gW X k n ws nL lv (st) pc := by
  obtain ⟨p, l, e, R, s, m, args, below, meth, c, A, D, Q⟩ := X
  obtain ⟨hx, hb, hml, ho, ht, hK, hA, hR, hlk⟩ := C
  intro H locs ls hP hD hS hl
  exact lv_goto hx hb hd h0 (kk H locs ls hP hD hS hl)
theorem g_icmp_eq (C : gC X tys cc nL own Ts rm) {x y : Int32} {off : Int} {tgt : Nat} (hd : decode cc pc = .ok (.if_icmp .eq off, 3)) (h0 : (pc : Int) + off = (tgt : Int)) (kt : x = y → gW X k n ws nL lv st tgt) (kf : ¬ x = y → gW X k n ws nL lv st (pc + 3)) : gW X k n ws nL lv (.int y :: .int x :: st) pc := by
  obtain ⟨p, l, e, R, s, m, args, below, meth, c, A, D, Q⟩ := X
  obtain ⟨hx, hb, hml, ho, ht, hK, hA, hR, hlk⟩ := C
  intro H locs ls hP hD hS hl
  exact lv_icmp_eq hx hb hd h0 (fun h => kt h H locs ls hP hD hS hl) (fun h => kf h H locs ls hP hD hS hl)
theorem g_if_eq (C : gC X tys cc nL own Ts rm) {x : Int32} {off : Int} {tgt : Nat} (hd : decode cc pc = .ok (.ifCond .eq off, 3)) (h0 : (pc : Int) + off = (tgt : Int)) (kt : x = 0 → gW X k n ws nL lv st tgt) (kf : ¬ x = 0 → gW X k n ws nL lv st (pc + 3)) : gW X k n ws nL lv (.int x :: st) pc := by
  obtain ⟨p, l, e, R, s, m, args, below, meth, c, A, D, Q⟩ := X
  obtain ⟨hx, hb, hml, ho, ht, hK, hA, hR, hlk⟩ := C
  intro H locs ls hP hD hS hl
  exact lv_if_eq hx hb hd h0 (fun h => kt h H locs ls hP hD hS hl) (fun h => kf h H locs ls hP hD hS hl)
theorem g_icmp_ne (C : gC X tys cc nL own Ts rm) {x y : Int32} {off : Int} {tgt : Nat} (hd : decode cc pc = .ok (.if_icmp .ne off, 3)) (h0 : (pc : Int) + off = (tgt : Int)) (kt : ¬ x = y → gW X k n ws nL lv st tgt) (kf : x = y → gW X k n ws nL lv st (pc + 3)) : gW X k n ws nL lv (.int y :: .int x :: st) pc := by
  obtain ⟨p, l, e, R, s, m, args, below, meth, c, A, D, Q⟩ := X
  obtain ⟨hx, hb, hml, ho, ht, hK, hA, hR, hlk⟩ := C
  intro H locs ls hP hD hS hl
  exact lv_icmp_ne hx hb hd h0 (fun h => kt h H locs ls hP hD hS hl) (fun h => kf h H locs ls hP hD hS hl)
theorem g_if_ne (C : gC X tys cc nL own Ts rm) {x : Int32} {off : Int} {tgt : Nat} (hd : decode cc pc = .ok (.ifCond .ne off, 3)) (h0 : (pc : Int) + off = (tgt : Int)) (kt : ¬ x = 0 → gW X k n ws nL lv st tgt) (kf : x = 0 → gW X k n ws nL lv st (pc + 3)) : gW X k n ws nL lv (.int x :: st) pc := by
  obtain ⟨p, l, e, R, s, m, args, below, meth, c, A, D, Q⟩ := X
  obtain ⟨hx, hb, hml, ho, ht, hK, hA, hR, hlk⟩ := C
  intro H locs ls hP hD hS hl
  exact lv_if_ne hx hb hd h0 (fun h => kt h H locs ls hP hD hS hl) (fun h => kf h H locs ls hP hD hS hl)
theorem g_icmp_lt (C : gC X tys cc nL own Ts rm) {x y : Int32} {off : Int} {tgt : Nat} (hd : decode cc pc = .ok (.if_icmp .lt off, 3)) (h0 : (pc : Int) + off = (tgt : Int)) (kt : x < y → gW X k n ws nL lv st tgt) (kf : ¬ x < y → gW X k n ws nL lv st (pc + 3)) : gW X k n ws nL lv (.int y :: .int x :: st) pc := by
  obtain ⟨p, l, e, R, s, m, args, below, meth, c, A, D, Q⟩ := X
  obtain ⟨hx, hb, hml, ho, ht, hK, hA, hR, hlk⟩ := C
  intro H locs ls hP hD hS hl
  exact lv_icmp_lt hx hb hd h0 (fun h => kt h H locs ls hP hD hS hl) (fun h => kf h H locs ls hP hD hS hl)
theorem g_if_lt (C : gC X tys cc nL own Ts rm) {x : Int32} {off : Int} {tgt : Nat} (hd : decode cc pc = .ok (.ifCond .lt off, 3)) (h0 : (pc : Int) + off = (tgt : Int)) (kt : x < 0 → gW X k n ws nL lv st tgt) (kf : ¬ x < 0 → gW X k n ws nL lv st (pc + 3)) : gW X k n ws nL lv (.int x :: st) pc := by
  obtain ⟨p, l, e, R, s, m, args, below, meth, c, A, D, Q⟩ := X
  obtain ⟨hx, hb, hml, ho, ht, hK, hA, hR, hlk⟩ := C
  intro H locs ls hP hD hS hl
  exact lv_if_lt hx hb hd h0 (fun h => kt h H locs ls hP hD hS hl) (fun h => kf h H locs ls hP hD hS hl)
theorem g_icmp_ge (C : gC X tys cc nL own Ts rm) {x y : Int32} {off : Int} {tgt : Nat} (hd : decode cc pc = .ok (.if_icmp .ge off, 3)) (h0 : (pc : Int) + off = (tgt : Int)) (kt : y ≤ x → gW X k n ws nL lv st tgt) (kf : ¬ y ≤ x → gW X k n ws nL lv st (pc + 3)) : gW X k n ws nL lv (.int y :: .int x :: st) pc := by
  obtain ⟨p, l, e, R, s, m, args, below, meth, c, A, D, Q⟩ := X
  obtain ⟨hx, hb, hml, ho, ht, hK, hA, hR, hlk⟩ := C
  intro H locs ls hP hD hS hl
  exact lv_icmp_ge hx hb hd h0 (fun h => kt h H locs ls hP hD hS hl) (fun h => kf h H locs ls hP hD hS hl)
theorem g_if_ge (C : gC X tys cc nL own Ts rm) {x : Int32} {off : Int} {tgt : Nat} (hd : decode cc pc = .ok (.ifCond .ge off, 3)) (h0 : (pc : Int) + off = (tgt : Int)) (kt : 0 ≤ x → gW X k n ws nL lv st tgt) (kf : ¬ 0 ≤ x → gW X k n ws nL lv st (pc + 3)) : gW X k n ws nL lv (.int x :: st) pc := by
  obtain ⟨p, l, e, R, s, m, args, below, meth, c, A, D, Q⟩ := X
  obtain ⟨hx, hb, hml, ho, ht, hK, hA, hR, hlk⟩ := C
  intro H locs ls hP hD hS hl
  exact lv_if_ge hx hb hd h0 (fun h => kt h H locs ls hP hD hS hl) (fun h => kf h H locs ls hP hD hS hl)
theorem g_icmp_gt (C : gC X tys cc nL own Ts rm) {x y : Int32} {off : Int} {tgt : Nat} (hd : decode cc pc = .ok (.if_icmp .gt off, 3)) (h0 : (pc : Int) + off = (tgt : Int)) (kt : y < x → gW X k n ws nL lv st tgt) (kf : ¬ y < x → gW X k n ws nL lv st (pc + 3)) : gW X k n ws nL lv (.int y :: .int x :: st) pc := by
  obtain ⟨p, l, e, R, s, m, args, below, meth, c, A, D, Q⟩ := X
  obtain ⟨hx, hb, hml, ho, ht, hK, hA, hR, hlk⟩ := C
  intro H locs ls hP hD hS hl
  exact lv_icmp_gt hx hb hd h0 (fun h => kt h H locs ls hP hD hS hl) (fun h => kf h H locs ls hP hD hS hl)
theorem g_if_gt (C : gC X tys cc nL own Ts rm) {x : Int32} {off : Int} {tgt : Nat} (hd : decode cc pc = .ok (.ifCond .gt off, 3)) (h0 : (pc : Int) + off = (tgt : Int)) (kt : 0 < x → gW X k n ws nL lv st tgt) (kf : ¬ 0 < x → gW X k n ws nL lv st (pc + 3)) : gW X k n ws nL lv (.int x :: st) pc := by
  obtain ⟨p, l, e, R, s, m, args, below, meth, c, A, D, Q⟩ := X
  obtain ⟨hx, hb, hml, ho, ht, hK, hA, hR, hlk⟩ := C
  intro H locs ls hP hD hS hl
  exact lv_if_gt hx hb hd h0 (fun h => kt h H locs ls hP hD hS hl) (fun h => kf h H locs ls hP hD hS hl)
theorem g_icmp_le (C : gC X tys cc nL own Ts rm) {x y : Int32} {off : Int} {tgt : Nat} (hd : decode cc pc = .ok (.if_icmp .le off, 3)) (h0 : (pc : Int) + off = (tgt : Int)) (kt : x ≤ y → gW X k n ws nL lv st tgt) (kf : ¬ x ≤ y → gW X k n ws nL lv st (pc + 3)) : gW X k n ws nL lv (.int y :: .int x :: st) pc := by
  obtain ⟨p, l, e, R, s, m, args, below, meth, c, A, D, Q⟩ := X
  obtain ⟨hx, hb, hml, ho, ht, hK, hA, hR, hlk⟩ := C
  intro H locs ls hP hD hS hl
  exact lv_icmp_le hx hb hd h0 (fun h => kt h H locs ls hP hD hS hl) (fun h => kf h H locs ls hP hD hS hl)
theorem g_if_le (C : gC X tys cc nL own Ts rm) {x : Int32} {off : Int} {tgt : Nat} (hd : decode cc pc = .ok (.ifCond .le off, 3)) (h0 : (pc : Int) + off = (tgt : Int)) (kt : x ≤ 0 → gW X k n ws nL lv st tgt) (kf : ¬ x ≤ 0 → gW X k n ws nL lv st (pc + 3)) : gW X k n ws nL lv (.int x :: st) pc := by
  obtain ⟨p, l, e, R, s, m, args, below, meth, c, A, D, Q⟩ := X
  obtain ⟨hx, hb, hml, ho, ht, hK, hA, hR, hlk⟩ := C
  intro H locs ls hP hD hS hl
  exact lv_if_le hx hb hd h0 (fun h => kt h H locs ls hP hD hS hl) (fun h => kf h H locs ls hP hD hS hl)
theorem lgc_tri (x y : Int64) : (y < x ∧ lg_cmp x y = 1) ∨ (x = y ∧ lg_cmp x y = 0) ∨ (x < y ∧ lg_cmp x y = -1) := by
  by_cases h1 : y < x
  · exact Or.inl ⟨h1, by simp [lg_cmp, h1]⟩
  · by_cases h2 : x = y
    · exact Or.inr (Or.inl ⟨h2, by subst h2; simp [lg_cmp]⟩)
    · refine Or.inr (Or.inr ⟨?_, by simp [lg_cmp, h1, h2]⟩)
      rw [Int64.lt_iff_toInt_lt] at h1 ⊢
      have h3 : ¬ x.toInt = y.toInt := fun q => h2 (Int64.toInt_inj.mp q)
      omega
theorem lgc_eq {x y : Int64} : lg_cmp x y = 0 ↔ x = y := by
  rcases lgc_tri x y with ⟨h, e⟩ | ⟨h, e⟩ | ⟨h, e⟩
  all_goals
    rw [e]
    have h' := h
    simp only [Int64.lt_iff_toInt_lt, Int64.le_iff_toInt_le, ← Int64.toInt_inj] at h' ⊢
    constructor
    · intro q; first | exact absurd q (by decide) | omega
    · intro q; first | decide | (exfalso; omega)
theorem lgc_ne {x y : Int64} : ¬ lg_cmp x y = 0 ↔ ¬ x = y := by
  rcases lgc_tri x y with ⟨h, e⟩ | ⟨h, e⟩ | ⟨h, e⟩
  all_goals
    rw [e]
    have h' := h
    simp only [Int64.lt_iff_toInt_lt, Int64.le_iff_toInt_le, ← Int64.toInt_inj] at h' ⊢
    constructor
    · intro q; first | exact absurd q (by decide) | omega
    · intro q; first | decide | (exfalso; omega)
theorem lgc_lt {x y : Int64} : lg_cmp x y < 0 ↔ x < y := by
  rcases lgc_tri x y with ⟨h, e⟩ | ⟨h, e⟩ | ⟨h, e⟩
  all_goals
    rw [e]
    have h' := h
    simp only [Int64.lt_iff_toInt_lt, Int64.le_iff_toInt_le, ← Int64.toInt_inj] at h' ⊢
    constructor
    · intro q; first | exact absurd q (by decide) | omega
    · intro q; first | decide | (exfalso; omega)
theorem lgc_ge {x y : Int64} : 0 ≤ lg_cmp x y ↔ y ≤ x := by
  rcases lgc_tri x y with ⟨h, e⟩ | ⟨h, e⟩ | ⟨h, e⟩
  all_goals
    rw [e]
    have h' := h
    simp only [Int64.lt_iff_toInt_lt, Int64.le_iff_toInt_le, ← Int64.toInt_inj] at h' ⊢
    constructor
    · intro q; first | exact absurd q (by decide) | omega
    · intro q; first | decide | (exfalso; omega)
theorem lgc_gt {x y : Int64} : 0 < lg_cmp x y ↔ y < x := by
  rcases lgc_tri x y with ⟨h, e⟩ | ⟨h, e⟩ | ⟨h, e⟩
  all_goals
    rw [e]
    have h' := h
    simp only [Int64.lt_iff_toInt_lt, Int64.le_iff_toInt_le, ← Int64.toInt_inj] at h' ⊢
    constructor
    · intro q; first | exact absurd q (by decide) | omega
    · intro q; first | decide | (exfalso; omega)
theorem lgc_le {x y : Int64} : lg_cmp x y ≤ 0 ↔ x ≤ y := by
  rcases lgc_tri x y with ⟨h, e⟩ | ⟨h, e⟩ | ⟨h, e⟩
  all_goals
    rw [e]
    have h' := h
    simp only [Int64.lt_iff_toInt_lt, Int64.le_iff_toInt_le, ← Int64.toInt_inj] at h' ⊢
    constructor
    · intro q; first | exact absurd q (by decide) | omega
    · intro q; first | decide | (exfalso; omega)
theorem g_lcmp_eq (C : gC X tys cc nL own Ts rm) {x y : Int64} {off : Int} {tgt pc2 : Nat} (hd1 : decode cc pc = .ok (.lcmp, 1)) (hd : decode cc pc2 = .ok (.ifCond .eq off, 3)) (hp : pc + 1 = pc2) (h0 : (pc2 : Int) + off = (tgt : Int)) (kt : x = y → gW X k n ws nL lv st tgt) (kf : ¬ x = y → gW X k n ws nL lv st (pc + 4)) : gW X k n ws nL lv (.long y :: .long x :: st) pc := by
  obtain ⟨p, l, e, R, s, m, args, below, meth, c, A, D, Q⟩ := X
  obtain ⟨hx, hb, hml, ho, ht, hK, hA, hR, hlk⟩ := C
  intro H locs ls hP hD hS hl
  subst hp
  exact W.lcmp hx hb hd1 (lv_if_eq hx hb hd h0 (fun h => kt (lgc_eq.mp h) H locs ls hP hD hS hl) (fun h => kf (fun q => h (lgc_eq.mpr q)) H locs ls hP hD hS hl))
theorem g_lcmp_ne (C : gC X tys cc nL own Ts rm) {x y : Int64} {off : Int} {tgt pc2 : Nat} (hd1 : decode cc pc = .ok (.lcmp, 1)) (hd : decode cc pc2 = .ok (.ifCond .ne off, 3)) (hp : pc + 1 = pc2) (h0 : (pc2 : Int) + off = (tgt : Int)) (kt : ¬ x = y → gW X k n ws nL lv st tgt) (kf : x = y → gW X k n ws nL lv st (pc + 4)) : gW X k n ws nL lv (.long y :: .long x :: st) pc := by
  obtain ⟨p, l, e, R, s, m, args, below, meth, c, A, D, Q⟩ := X
  obtain ⟨hx, hb, hml, ho, ht, hK, hA, hR, hlk⟩ := C
  intro H locs ls hP hD hS hl
  subst hp
  exact W.lcmp hx hb hd1 (lv_if_ne hx hb hd h0 (fun h => kt (lgc_ne.mp h) H locs ls hP hD hS hl) (fun h => kf (Classical.byContradiction (fun q => absurd (lgc_ne.mpr q) (by rw [h]; decide))) H locs ls hP hD hS hl))
theorem g_lcmp_lt (C : gC X tys cc nL own Ts rm) {x y : Int64} {off : Int} {tgt pc2 : Nat} (hd1 : decode cc pc = .ok (.lcmp, 1)) (hd : decode cc pc2 = .ok (.ifCond .lt off, 3)) (hp : pc + 1 = pc2) (h0 : (pc2 : Int) + off = (tgt : Int)) (kt : x < y → gW X k n ws nL lv st tgt) (kf : ¬ x < y → gW X k n ws nL lv st (pc + 4)) : gW X k n ws nL lv (.long y :: .long x :: st) pc := by
  obtain ⟨p, l, e, R, s, m, args, below, meth, c, A, D, Q⟩ := X
  obtain ⟨hx, hb, hml, ho, ht, hK, hA, hR, hlk⟩ := C
  intro H locs ls hP hD hS hl
  subst hp
  exact W.lcmp hx hb hd1 (lv_if_lt hx hb hd h0 (fun h => kt (lgc_lt.mp h) H locs ls hP hD hS hl) (fun h => kf (fun q => h (lgc_lt.mpr q)) H locs ls hP hD hS hl))
theorem g_lcmp_ge (C : gC X tys cc nL own Ts rm) {x y : Int64} {off : Int} {tgt pc2 : Nat} (hd1 : decode cc pc = .ok (.lcmp, 1)) (hd : decode cc pc2 = .ok (.ifCond .ge off, 3)) (hp : pc + 1 = pc2) (h0 : (pc2 : Int) + off = (tgt : Int)) (kt : y ≤ x → gW X k n ws nL lv st tgt) (kf : ¬ y ≤ x → gW X k n ws nL lv st (pc + 4)) : gW X k n ws nL lv (.long y :: .long x :: st) pc := by
  obtain ⟨p, l, e, R, s, m, args, below, meth, c, A, D, Q⟩ := X
  obtain ⟨hx, hb, hml, ho, ht, hK, hA, hR, hlk⟩ := C
  intro H locs ls hP hD hS hl
  subst hp
  exact W.lcmp hx hb hd1 (lv_if_ge hx hb hd h0 (fun h => kt (lgc_ge.mp h) H locs ls hP hD hS hl) (fun h => kf (fun q => h (lgc_ge.mpr q)) H locs ls hP hD hS hl))
theorem g_lcmp_gt (C : gC X tys cc nL own Ts rm) {x y : Int64} {off : Int} {tgt pc2 : Nat} (hd1 : decode cc pc = .ok (.lcmp, 1)) (hd : decode cc pc2 = .ok (.ifCond .gt off, 3)) (hp : pc + 1 = pc2) (h0 : (pc2 : Int) + off = (tgt : Int)) (kt : y < x → gW X k n ws nL lv st tgt) (kf : ¬ y < x → gW X k n ws nL lv st (pc + 4)) : gW X k n ws nL lv (.long y :: .long x :: st) pc := by
  obtain ⟨p, l, e, R, s, m, args, below, meth, c, A, D, Q⟩ := X
  obtain ⟨hx, hb, hml, ho, ht, hK, hA, hR, hlk⟩ := C
  intro H locs ls hP hD hS hl
  subst hp
  exact W.lcmp hx hb hd1 (lv_if_gt hx hb hd h0 (fun h => kt (lgc_gt.mp h) H locs ls hP hD hS hl) (fun h => kf (fun q => h (lgc_gt.mpr q)) H locs ls hP hD hS hl))
theorem g_lcmp_le (C : gC X tys cc nL own Ts rm) {x y : Int64} {off : Int} {tgt pc2 : Nat} (hd1 : decode cc pc = .ok (.lcmp, 1)) (hd : decode cc pc2 = .ok (.ifCond .le off, 3)) (hp : pc + 1 = pc2) (h0 : (pc2 : Int) + off = (tgt : Int)) (kt : x ≤ y → gW X k n ws nL lv st tgt) (kf : ¬ x ≤ y → gW X k n ws nL lv st (pc + 4)) : gW X k n ws nL lv (.long y :: .long x :: st) pc := by
  obtain ⟨p, l, e, R, s, m, args, below, meth, c, A, D, Q⟩ := X
  obtain ⟨hx, hb, hml, ho, ht, hK, hA, hR, hlk⟩ := C
  intro H locs ls hP hD hS hl
  subst hp
  exact W.lcmp hx hb hd1 (lv_if_le hx hb hd h0 (fun h => kt (lgc_le.mp h) H locs ls hP hD hS hl) (fun h => kf (fun q => h (lgc_le.mpr q)) H locs ls hP hD hS hl))
theorem g_ifeq_b (C : gC X tys cc nL own Ts rm) {b : Bool} {off : Int} {tgt : Nat} (hd : decode cc pc = .ok (.ifCond .eq off, 3)) (h0 : (pc : Int) + off = (tgt : Int)) (kt : b = false → gW X k n ws nL lv st tgt) (kf : b = true → gW X k n ws nL lv st (pc + 3)) : gW X k n ws nL lv (.int (bI b) :: st) pc := by
  obtain ⟨p, l, e, R, s, m, args, below, meth, c, A, D, Q⟩ := X
  obtain ⟨hx, hb, hml, ho, ht, hK, hA, hR, hlk⟩ := C
  intro H locs ls hP hD hS hl
  exact lv_if_eq hx hb hd h0 (fun h => kt (bI_0.mp h) H locs ls hP hD hS hl) (fun h => kf (by cases b; exact absurd (bI_f rfl) h; rfl) H locs ls hP hD hS hl)
theorem g_ifne_b (C : gC X tys cc nL own Ts rm) {b : Bool} {off : Int} {tgt : Nat} (hd : decode cc pc = .ok (.ifCond .ne off, 3)) (h0 : (pc : Int) + off = (tgt : Int)) (kt : b = true → gW X k n ws nL lv st tgt) (kf : b = false → gW X k n ws nL lv st (pc + 3)) : gW X k n ws nL lv (.int (bI b) :: st) pc := by
  obtain ⟨p, l, e, R, s, m, args, below, meth, c, A, D, Q⟩ := X
  obtain ⟨hx, hb, hml, ho, ht, hK, hA, hR, hlk⟩ := C
  intro H locs ls hP hD hS hl
  exact lv_if_ne hx hb hd h0 (fun h => kt (by cases b; exact absurd (bI_f rfl) h; rfl) H locs ls hP hD hS hl) (fun h => kf (bI_0.mp h) H locs ls hP hD hS hl)
theorem g_get (C : gC X tys cc nL own Ts rm) {index ci kf : Nat} {Cn : String} {T : u_T} {N : Nat} (F : gF Ts own index ci kf Cn T N) (q0 : Nat) {a : Nat} {fs : List Value} {v : Value} (he : ws[q0]? = some (a, .inr (ci, fs))) (hv : fs[kf]? = some v) (hd : decode cc pc = .ok (.getfield index, 3)) (kk : gW X k n ws nL lv (v :: st) (pc + 3)) : gW X k n ws nL lv (.ref a :: st) pc := by
  obtain ⟨p, l, e, R, s, m, args, below, meth, c, A, D, Q⟩ := X
  obtain ⟨hx, hb, hml, ho, ht, hK, hA, hR, hlk⟩ := C
  intro H locs ls hP hD hS hl
  exact va_get (D := D) (ref := (T kf).1) hx hb ht F.1 ho hK hP q0 he F.2.2.1 kf F.2.2.2 (ht _ F.2.1) (fun _ h => h) hv hd (kk H locs ls hP hD hS hl)
theorem g_put (C : gC X tys cc nL own Ts rm) {index ci kf : Nat} {Cn : String} {T : u_T} {N : Nat} (F : gF Ts own index ci kf Cn T N) (q0 : Nat) {a : Nat} {fs : List Value} {v : Value} {ty0 : Nat → FieldType} (hty : ∀ k, k < N → parseFieldDescriptor (T k).2.2.1 = some (ty0 k)) (hnm : ∀ a, a < N → ∀ b, b < N → a ≠ b → (T a).2.1 ≠ (T b).2.1) (he : ws[q0]? = some (a, .inr (ci, fs))) (hfin : (T kf).2.2.2 = false) (hna : narrow (ty0 kf) v = v) (hfit : fits (ty0 kf) v = true) (hle : kf < fs.length) {ws2 : va_W} (hw : ws.set q0 (a, .inr (ci, fs.set kf v)) = ws2) (hd : decode cc pc = .ok (.putfield index, 3)) (kk : gW X k n ws2 nL lv st (pc + 3)) : gW X k n ws nL lv (v :: .ref a :: st) pc := by
  obtain ⟨p, l, e, R, s, m, args, below, meth, c, A, D, Q⟩ := X
  obtain ⟨hx, hb, hml, ho, ht, hK, hA, hR, hlk⟩ := C
  intro H locs ls hP hD hS hl
  subst hw
  exact va_put (D := D) (ref := (T kf).1) hx hb ht F.1 ty0 hty hnm ho hK hP hD hS q0 he F.2.2.1 kf F.2.2.2 (ht _ F.2.1) (fun _ h => h) hfin (hty kf F.2.2.2) hna hfit hle hd (fun H1 locs1 hP hD hS => kk H1 locs1 ls hP hD hS hl)
theorem g_iald (C : gC X tys cc nL own Ts rm) (q0 t0 : Nat) {a : Nat} {cA : ClassId} {N : Nat} {f : Nat → Int32} {i : Int32} (ha : ws[q0]? = some (a, .inl (cA, N, .inl f))) (hty : tys[t0]? = some (cA, .int)) (hin : vp_in i N) (hd : decode cc pc = .ok (.iaload, 1)) (kk : gW X k n ws nL lv (.int (f i.toNatClampNeg) :: st) (pc + 1)) : gW X k n ws nL lv (.int i :: .ref a :: st) pc := by
  obtain ⟨p, l, e, R, s, m, args, below, meth, c, A, D, Q⟩ := X
  obtain ⟨hx, hb, hml, ho, ht, hK, hA, hR, hlk⟩ := C
  intro H locs ls hP hD hS hl
  exact va_iald hx hb hK hP q0 t0 ha hty hin hd (kk H locs ls hP hD hS hl)
theorem g_zald (C : gC X tys cc nL own Ts rm) (q0 t0 : Nat) {a : Nat} {cA : ClassId} {N : Nat} {f : Nat → Int32} {i : Int32} (ha : ws[q0]? = some (a, .inl (cA, N, .inl f))) (hty : tys[t0]? = some (cA, .boolean)) (hin : vp_in i N) (hd : decode cc pc = .ok (.baload, 1)) (kk : gW X k n ws nL lv (.int (f i.toNatClampNeg) :: st) (pc + 1)) : gW X k n ws nL lv (.int i :: .ref a :: st) pc := by
  obtain ⟨p, l, e, R, s, m, args, below, meth, c, A, D, Q⟩ := X
  obtain ⟨hx, hb, hml, ho, ht, hK, hA, hR, hlk⟩ := C
  intro H locs ls hP hD hS hl
  exact va_zald hx hb hK hP q0 t0 ha hty hin hd (kk H locs ls hP hD hS hl)
theorem g_lald (C : gC X tys cc nL own Ts rm) (q0 t0 : Nat) {a : Nat} {cA : ClassId} {N : Nat} {f : Nat → Int64} {i : Int32} (ha : ws[q0]? = some (a, .inl (cA, N, .inr (.inl f)))) (hty : tys[t0]? = some (cA, .long)) (hin : vp_in i N) (hd : decode cc pc = .ok (.laload, 1)) (kk : gW X k n ws nL lv (.long (f i.toNatClampNeg) :: st) (pc + 1)) : gW X k n ws nL lv (.int i :: .ref a :: st) pc := by
  obtain ⟨p, l, e, R, s, m, args, below, meth, c, A, D, Q⟩ := X
  obtain ⟨hx, hb, hml, ho, ht, hK, hA, hR, hlk⟩ := C
  intro H locs ls hP hD hS hl
  exact va_lald hx hb hK hP q0 t0 ha hty hin hd (kk H locs ls hP hD hS hl)
theorem g_iast (C : gC X tys cc nL own Ts rm) (q0 t0 : Nat) {a : Nat} {cA : ClassId} {N : Nat} {f : Nat → Int32} {i : Int32} {x : Int32} (ha : ws[q0]? = some (a, .inl (cA, N, .inl f))) (hty : tys[t0]? = some (cA, .int)) (hin : vp_in i N) {ws2 : va_W} (hw : ws.set q0 (a, .inl (cA, N, .inl (upd f i.toNatClampNeg x))) = ws2) (hd : decode cc pc = .ok (.iastore, 1)) (kk : gW X k n ws2 nL lv st (pc + 1)) : gW X k n ws nL lv (.int x :: .int i :: .ref a :: st) pc := by
  obtain ⟨p, l, e, R, s, m, args, below, meth, c, A, D, Q⟩ := X
  obtain ⟨hx, hb, hml, ho, ht, hK, hA, hR, hlk⟩ := C
  intro H locs ls hP hD hS hl
  subst hw
  exact va_iast hx hb hK hP hD hS q0 t0 ha hty hin hd (fun H1 locs1 hP hD hS => kk H1 locs1 ls hP hD hS hl)
theorem g_zast (C : gC X tys cc nL own Ts rm) (q0 t0 : Nat) {a : Nat} {cA : ClassId} {N : Nat} {f : Nat → Int32} {i : Int32} {x : Int32} (ha : ws[q0]? = some (a, .inl (cA, N, .inl f))) (hty : tys[t0]? = some (cA, .boolean)) (hin : vp_in i N) {ws2 : va_W} (hw : ws.set q0 (a, .inl (cA, N, .inl (upd f i.toNatClampNeg (vp_nar .boolean x)))) = ws2) (hd : decode cc pc = .ok (.bastore, 1)) (kk : gW X k n ws2 nL lv st (pc + 1)) : gW X k n ws nL lv (.int x :: .int i :: .ref a :: st) pc := by
  obtain ⟨p, l, e, R, s, m, args, below, meth, c, A, D, Q⟩ := X
  obtain ⟨hx, hb, hml, ho, ht, hK, hA, hR, hlk⟩ := C
  intro H locs ls hP hD hS hl
  subst hw
  exact va_zast hx hb hK hP hD hS q0 t0 ha hty hin hd (fun H1 locs1 hP hD hS => kk H1 locs1 ls hP hD hS hl)
theorem g_last (C : gC X tys cc nL own Ts rm) (q0 t0 : Nat) {a : Nat} {cA : ClassId} {N : Nat} {f : Nat → Int64} {i : Int32} {x : Int64} (ha : ws[q0]? = some (a, .inl (cA, N, .inr (.inl f)))) (hty : tys[t0]? = some (cA, .long)) (hin : vp_in i N) {ws2 : va_W} (hw : ws.set q0 (a, .inl (cA, N, .inr (.inl (vp_updL f i.toNatClampNeg x)))) = ws2) (hd : decode cc pc = .ok (.lastore, 1)) (kk : gW X k n ws2 nL lv st (pc + 1)) : gW X k n ws nL lv (.long x :: .int i :: .ref a :: st) pc := by
  obtain ⟨p, l, e, R, s, m, args, below, meth, c, A, D, Q⟩ := X
  obtain ⟨hx, hb, hml, ho, ht, hK, hA, hR, hlk⟩ := C
  intro H locs ls hP hD hS hl
  subst hw
  exact va_last hx hb hK hP hD hS q0 t0 ha hty hin hd (fun H1 locs1 hP hD hS => kk H1 locs1 ls hP hD hS hl)
theorem g_alen (C : gC X tys cc nL own Ts rm) (q0 t0 : Nat) {a : Nat} {cA : ClassId} {x : vp_A} {ty : FieldType} {v : Int32} (ha : ws[q0]? = some (a, .inl (cA, x))) (hty : tys[t0]? = some (cA, ty)) (hv : Int32.ofNat x.1 = v) (hd : decode cc pc = .ok (.arraylength, 1)) (kk : gW X k n ws nL lv (.int v :: st) (pc + 1)) : gW X k n ws nL lv (.ref a :: st) pc := by
  obtain ⟨p, l, e, R, s, m, args, below, meth, c, A, D, Q⟩ := X
  obtain ⟨hx, hb, hml, ho, ht, hK, hA, hR, hlk⟩ := C
  intro H locs ls hP hD hS hl
  exact va_alen hx hb hK hP q0 t0 ha hty hv hd (kk H locs ls hP hD hS hl)
theorem g_mmin (C : gC X tys cc nL own Ts rm) {x y : Int32} {index : Nat} (h1 : Cond.methodLink own index Lib.Math.min.name ∈ Ts) (h2 : Cond.static Lib.Math.min.name ∈ Ts) (h3 : Cond.initialized "java/lang/Math" ∈ Ts) (h4 : Cond.code Lib.Math.min.name Lib.Math.min.code 2 (some .int) ∈ Ts) (hf : 1 ≤ rm.frames) (hlo : (st.map fun v => v.category).sum + 13 ≤ rm.locals) (hc : k ≤ rm.cells) (hs : n ≤ rm.slots) (hd : decode cc pc = .ok (.invokestatic index, 3)) (kk : gW X k n ws nL lv (.int (if y < x then y else x) :: st) (pc + 3)) : gW X k n ws nL lv (.int y :: .int x :: st) pc := by
  obtain ⟨p, l, e, R, s, m, args, below, meth, c, A, D, Q⟩ := X
  obtain ⟨hx, hb, hml, ho, ht, hK, hA, hR, hlk⟩ := C
  intro H locs ls hP hD hS hl
  subst hR
  exact va_mmin hx hb (hml.trans hl.1.symm) ho (ht _ h1) (ht _ h2) (ht _ h3) (ht _ h4) hf (hlo) hc hs hd (kk H locs ls hP hD hS hl)
theorem g_mmax (C : gC X tys cc nL own Ts rm) {x y : Int32} {index : Nat} (h1 : Cond.methodLink own index Lib.Math.max.name ∈ Ts) (h2 : Cond.static Lib.Math.max.name ∈ Ts) (h3 : Cond.initialized "java/lang/Math" ∈ Ts) (h4 : Cond.code Lib.Math.max.name Lib.Math.max.code 2 (some .int) ∈ Ts) (hf : 1 ≤ rm.frames) (hlo : (st.map fun v => v.category).sum + 13 ≤ rm.locals) (hc : k ≤ rm.cells) (hs : n ≤ rm.slots) (hd : decode cc pc = .ok (.invokestatic index, 3)) (kk : gW X k n ws nL lv (.int (if x < y then y else x) :: st) (pc + 3)) : gW X k n ws nL lv (.int y :: .int x :: st) pc := by
  obtain ⟨p, l, e, R, s, m, args, below, meth, c, A, D, Q⟩ := X
  obtain ⟨hx, hb, hml, ho, ht, hK, hA, hR, hlk⟩ := C
  intro H locs ls hP hD hS hl
  subst hR
  exact va_mmax hx hb (hml.trans hl.1.symm) ho (ht _ h1) (ht _ h2) (ht _ h3) (ht _ h4) hf (hlo) hc hs hd (kk H locs ls hP hD hS hl)
theorem g_mabs (C : gC X tys cc nL own Ts rm) {x : Int32} {index : Nat} (h1 : Cond.methodLink own index Lib.Math.abs.name ∈ Ts) (h2 : Cond.static Lib.Math.abs.name ∈ Ts) (h3 : Cond.initialized "java/lang/Math" ∈ Ts) (h4 : Cond.code Lib.Math.abs.name Lib.Math.abs.code 1 (some .int) ∈ Ts) (hf : 1 ≤ rm.frames) (hlo : (st.map fun v => v.category).sum + 13 ≤ rm.locals) (hc : k ≤ rm.cells) (hs : n ≤ rm.slots) (hd : decode cc pc = .ok (.invokestatic index, 3)) (kk : gW X k n ws nL lv (.int (if 0 ≤ x then x else 0 - x) :: st) (pc + 3)) : gW X k n ws nL lv (.int x :: st) pc := by
  obtain ⟨p, l, e, R, s, m, args, below, meth, c, A, D, Q⟩ := X
  obtain ⟨hx, hb, hml, ho, ht, hK, hA, hR, hlk⟩ := C
  intro H locs ls hP hD hS hl
  subst hR
  exact va_mabs hx hb (hml.trans hl.1.symm) ho (ht _ h1) (ht _ h2) (ht _ h3) (ht _ h4) hf (by omega) hc hs hd (kk H locs ls hP hD hS hl)
theorem g_topi {x : Int32} (kk : ∀ y : Int32, y = x → gW X k n ws nL lv (.int y :: st) pc) : gW X k n ws nL lv (.int x :: st) pc := kk x rfl
theorem g_topl {x : Int64} (kk : ∀ y : Int64, y = x → gW X k n ws nL lv (.long y :: st) pc) : gW X k n ws nL lv (.long x :: st) pc := kk x rfl
theorem g_leaf {P : Prop} (h : P) : P := h
theorem g_tsw (C : gC X tys cc nL own Ts rm) {dflt hi : Int} {offs : Array Int} {len : Nat} {x : Int32} {tgd : Nat} (hd : decode cc pc = .ok (.tableswitch dflt 0 hi offs, len)) (h0 : (pc : Int) + dflt = (tgd : Int)) (kin : ∀ j : Nat, (j : Int) ≤ hi → x = nI j → ∃ (off : Int) (tgt : Nat), offs[j]? = some off ∧ (pc : Int) + off = (tgt : Int) ∧ gW X k n ws nL lv st tgt) (kout : (x.toInt < 0 ∨ hi < x.toInt) → gW X k n ws nL lv st tgd) : gW X k n ws nL lv (.int x :: st) pc := by
  obtain ⟨p, l, e, R, s, m, args, below, meth, c, A, D, Q⟩ := X
  obtain ⟨hx, hb, hml, ho, ht, hK, hA, hR, hlk⟩ := C
  intro H locs ls hP hD hS hl
  by_cases h1 : x.toInt < 0 ∨ hi < x.toInt
  · exact lv_tableOut hx hb hd h1 h0 (kout h1 H locs ls hP hD hS hl)
  · obtain ⟨off, tgt, h2, h3, h4⟩ := kin x.toInt.toNat (by omega) (by
      rw [← Int32.toInt_inj, nI_toInt (by have := Int32.toInt_lt x; omega)]; omega)
    exact lv_tableIn hx hb hd (by omega) (by omega) (by rw [Int.sub_zero]; exact h2) h3 (h4 H locs ls hP hD hS hl)
theorem g_lv {lv2 : List (Nat × Value)} (ks : List Nat) (hk : lv_pick lv ks = lv2) (kk : gW X k n ws nL lv2 st pc) : gW X k n ws nL lv st pc := by
  obtain ⟨p, l, e, R, s, m, args, below, meth, c, A, D, Q⟩ := X
  intro H locs ls hP hD hS hl
  exact kk H locs ls hP hD hS (lv_sub hl ks hk)
theorem g_ws {ws2 : va_W} (ks : List Nat) (hn : va_nd ks = true) (hk : ks.map (fun i => ws[i]?) = ws2.map some) (kk : gW X k n ws2 nL lv st pc) : gW X k n ws nL lv st pc := by
  obtain ⟨p, l, e, R, s, m, args, below, meth, c, A, D, Q⟩ := X
  intro H locs ls hP hD hS hl
  refine kk H locs ls (hP.sub ks ?_) (hD.sub ks hn hk) hS hl
  have h1 : ks.filterMap (fun i => ws[i]?) = (ks.map (fun i => ws[i]?)).filterMap id := by rw [List.filterMap_map]; rfl
  rw [h1, hk, List.filterMap_map]
  exact List.filterMap_some
theorem g_iret (C : gC X tys cc nL own Ts rm) {S : Type} {post : Int32 → S → Prop} {w1 : S → va_W} (E : gEi X (some .int) tys k n post w1) {v : Int32} (u : S) (hp : post v u) (hw : w1 u = ws) (hd : decode cc pc = .ok (.ireturn, 1)) : gW X k n ws nL lv [.int v] pc := by
  obtain ⟨p, l, e, R, s, m, args, below, meth, c, A, D, Q⟩ := X
  obtain ⟨hx, hb, hml, ho, ht, hK, hA, hR, hlk⟩ := C
  intro H locs ls hP hD hS hl
  obtain ⟨hr, hq⟩ := E
  subst hq; subst hw
  exact W.iret hx hb hr (fun t htt hW => ⟨⟨v, u, rfl, hp, by rw [htt]; exact hP, va_K.moved hW.alike hK, hD⟩, hS.F htt⟩) hS.2.2 hd
theorem g_lret (C : gC X tys cc nL own Ts rm) {S : Type} {post : Int64 → S → Prop} {w1 : S → va_W} (E : gEl X (some .long) tys k n post w1) {v : Int64} (u : S) (hp : post v u) (hw : w1 u = ws) (hd : decode cc pc = .ok (.lreturn, 1)) : gW X k n ws nL lv [.long v] pc := by
  obtain ⟨p, l, e, R, s, m, args, below, meth, c, A, D, Q⟩ := X
  obtain ⟨hx, hb, hml, ho, ht, hK, hA, hR, hlk⟩ := C
  intro H locs ls hP hD hS hl
  obtain ⟨hr, hq⟩ := E
  subst hq; subst hw
  exact W.lret hx hb hr (fun t htt hW => ⟨⟨v, u, rfl, hp, by rw [htt]; exact hP, va_K.moved hW.alike hK, hD⟩, hS.F htt⟩) hS.2.2 hd
theorem g_zret (C : gC X tys cc nL own Ts rm) {S : Type} {post : Int32 → S → Prop} {w1 : S → va_W} (E : gEi X (some .boolean) tys k n post w1) {v : Int32} (hn : narrow .boolean (.int v) = .int v) (u : S) (hp : post v u) (hw : w1 u = ws) (hd : decode cc pc = .ok (.ireturn, 1)) : gW X k n ws nL lv [.int v] pc := by
  obtain ⟨p, l, e, R, s, m, args, below, meth, c, A, D, Q⟩ := X
  obtain ⟨hx, hb, hml, ho, ht, hK, hA, hR, hlk⟩ := C
  intro H locs ls hP hD hS hl
  obtain ⟨hr, hq⟩ := E
  subst hq; subst hw
  exact W.zret hx hb hr hn (fun t htt hW => ⟨⟨v, u, rfl, hp, by rw [htt]; exact hP, va_K.moved hW.alike hK, hD⟩, hS.F htt⟩) hS.2.2 hd
theorem g_vret (C : gC X tys cc nL own Ts rm) {S : Type} {post : S → Prop} {w1 : S → va_W} (E : gEv X none tys k n post w1) (u : S) (hp : post u) (hw : w1 u = ws) (hd : decode cc pc = .ok (.return_, 1)) : gW X k n ws nL lv [] pc := by
  obtain ⟨p, l, e, R, s, m, args, below, meth, c, A, D, Q⟩ := X
  obtain ⟨hx, hb, hml, ho, ht, hK, hA, hR, hlk⟩ := C
  intro H locs ls hP hD hS hl
  obtain ⟨hr, hq⟩ := E
  subst hq; subst hw
  exact W.vret hx hb hr (fun t htt hW => ⟨⟨u, rfl, hp, by rw [htt]; exact hP, va_K.moved hW.alike hK, hD⟩, hS.F htt⟩) hS.2.2 hd
theorem g_callVi (C : gC X tys cc nL own Ts rm) {S : Type} {y : MethodName} {wsy : List Cond} {rmy : Room} {b : Nat} {As rest : List Value} {wc wr : va_W} {post : Int32 → S → Prop} {w1 : S → va_W} {mc ms : Nat} (hM : ∀ (l : Launch) (D : va_G), gMi l y wsy rmy D tys mc ms (.ref b :: As) wc post w1) {index : Nat} {bytes : ByteArray} {maxL : Nat} {ret : Option FieldType} {wst : List Cond} {Cn : String} (hG : GoodIn Ts (wsV own index Cn y wsy)) (hw : wsy = Cond.code y bytes maxL ret :: wst) (hde : y.cls = Cn ∧ y.cls ≠ "java/lang/invoke/MethodHandle" ∧ y.cls ≠ "java/lang/invoke/VarHandle" ∧ (parseMethodDescriptor y.desc).map (fun d => d.parameters.length) = some As.length) (hrm : rmy.cells = mc ∧ rmy.slots = ms) (hRo : rmy.frames + 1 ≤ rm.frames ∧ 8 + (maxL + 11) + rmy.locals ≤ rm.locals) (hcs : k + mc ≤ rm.cells ∧ n + ms ≤ rm.slots) (isC isR isP : List Nat) (hC : isC.map (fun i => ws[i]?) = wc.map some) (hRr : isR.map (fun i => ws[i]?) = wr.map some) (hnC : va_nd isC = true) (hnR : va_nd isR = true) (hdis : ∀ i ∈ isR, i ∉ isC) (hnP : va_nd isP = true) {ws2 : S → va_W} (hX : ∀ u, isP.map (fun i => (wr ++ w1 u)[i]?) = (ws2 u).map some) (ci qr : Nat) {fs : List Value} {q : vw_C} (hr1 : vwCl[ci]? = some q) (hq : q.1 = Cn) (hr2 : wc[qr]? = some (b, .inr (ci, fs))) (hst : st = As.reverse ++ .ref b :: rest) (hro : (rest.map fun v => v.category).sum ≤ 8) (hd : decode cc pc = .ok (.invokevirtual index, 3))  (kk : ∀ (r : Int32) (u : S), post r u → gW X (k + mc) (n + ms) (ws2 u) nL lv (.int r :: rest) (pc + 3)) : gW X k n ws nL lv (st) pc := by
  obtain ⟨p, l, e, R, s, m, args, below, meth, c, A, D, Q⟩ := X
  obtain ⟨hx, hb, hml, ho, ht, hK, hA, hR, hlk⟩ := C
  intro H locs ls hP hD hS hl
  subst hst; subst hR
  have hFm : ∀ {w2 : va_W} (ks : List Nat), ks.map (fun i => ws[i]?) = w2.map some → ks.filterMap (fun i => ws[i]?) = w2 := by
    intro w2 ks hk
    have h1 : ks.filterMap (fun i => ws[i]?) = (ks.map (fun i => ws[i]?)).filterMap id := by rw [List.filterMap_map]; rfl
    rw [h1, hk, List.filterMap_map]
    exact List.filterMap_some
  have hPc := hP.sub isC (hFm isC hC)
  have hDc := hD.sub isC hnC hC
  have hFc := va_free (wc := wc) hD hS hA isC hC
  refine va_calli (va_runV (As := As) (rest := rest) (cc := cc) (nL := nL) (Ts := Ts) ⟨hx, hb, hml, ho, ht⟩ (hM l D H.size) (cwV As.length ht hG hw hrm.1 hrm.2 hde hRo) ⟨fun a U g mk q => ?_, by obtain ⟨cl0, g1, g2, g3⟩ := va_recv hK hPc hr1 hr2; exact ⟨cl0, g1, g2, by rw [← hq]; exact g3⟩, fun U hU hW => ⟨rfl, by rw [hU], by rw [hU]; exact hPc, va_K.moved hW.alike hK, hDc.weaken (fun _ _ _ _ => trivial)⟩⟩ rfl rfl hl.1 rfl (show 2 * 0 + (rest.map fun v => v.category).sum ≤ 8 by omega) hd hcs) hS (fun q _ h => hFc q h) hFc (fun r u t H1 locs1 htt hvm hw1 hB hz1 hk1 hS1 => ?_)
  · obtain ⟨q0, q1, qP, qK, qD⟩ := q
    exact ⟨q0, q1, qP, va_K.moved (u := U) (U := U.calling g mk a) (Vm.Alike.refl U.vm) qK, qD⟩
  · obtain ⟨hP1, hK1, hD1⟩ := hB
    rw [htt] at hP1
    obtain ⟨hP2, hD2⟩ := va_join (wr := wr) (w1 := w1 u) hP hD isC isR hC hRr hnR hdis hk1 hFc hP1 hD1
    have hX2 := hX u
    have hP3 : va_P D vwCl (ws2 u) H1 := hP2.sub isP (by
      have h1 : isP.filterMap (fun i => (wr ++ w1 u)[i]?) = (isP.map (fun i => (wr ++ w1 u)[i]?)).filterMap id := by rw [List.filterMap_map]; rfl
      rw [h1, hX2, List.filterMap_map]
      exact List.filterMap_some)
    exact kk r u hw1 H1 locs1 ls hP3 (hD2.sub isP hnP hX2) hS1 hl
theorem g_callSi (C : gC X tys cc nL own Ts rm) {S : Type} {y : MethodName} {wsy : List Cond} {rmy : Room} {b : Nat} {As rest : List Value} {wc wr : va_W} {post : Int32 → S → Prop} {w1 : S → va_W} {mc ms : Nat} (hM : ∀ (l : Launch) (D : va_G), gMi l y wsy rmy D tys mc ms As wc post w1) {index : Nat} {bytes : ByteArray} {maxL : Nat} {ret : Option FieldType} {wst : List Cond} (hG : GoodIn Ts (va_wsS own index y wsy)) (hw : wsy = Cond.code y bytes maxL ret :: wst) (hde : y.cls ≠ "java/lang/invoke/MethodHandle" ∧ y.cls ≠ "java/lang/invoke/VarHandle" ∧ (parseMethodDescriptor y.desc).map (fun d => d.parameters.length) = some As.length) (hrm : rmy.cells = mc ∧ rmy.slots = ms) (hRo : rmy.frames + 1 ≤ rm.frames ∧ 8 + (maxL + 11) + rmy.locals ≤ rm.locals) (hcs : k + mc ≤ rm.cells ∧ n + ms ≤ rm.slots) (isC isR isP : List Nat) (hC : isC.map (fun i => ws[i]?) = wc.map some) (hRr : isR.map (fun i => ws[i]?) = wr.map some) (hnC : va_nd isC = true) (hnR : va_nd isR = true) (hdis : ∀ i ∈ isR, i ∉ isC) (hnP : va_nd isP = true) {ws2 : S → va_W} (hX : ∀ u, isP.map (fun i => (wr ++ w1 u)[i]?) = (ws2 u).map some) (hst : st = As.reverse ++ rest) (hro : (rest.map fun v => v.category).sum ≤ 8) (hd : decode cc pc = .ok (.invokestatic index, 3))  (kk : ∀ (r : Int32) (u : S), post r u → gW X (k + mc) (n + ms) (ws2 u) nL lv (.int r :: rest) (pc + 3)) : gW X k n ws nL lv (st) pc := by
  obtain ⟨p, l, e, R, s, m, args, below, meth, c, A, D, Q⟩ := X
  obtain ⟨hx, hb, hml, ho, ht, hK, hA, hR, hlk⟩ := C
  intro H locs ls hP hD hS hl
  subst hst; subst hR
  have hFm : ∀ {w2 : va_W} (ks : List Nat), ks.map (fun i => ws[i]?) = w2.map some → ks.filterMap (fun i => ws[i]?) = w2 := by
    intro w2 ks hk
    have h1 : ks.filterMap (fun i => ws[i]?) = (ks.map (fun i => ws[i]?)).filterMap id := by rw [List.filterMap_map]; rfl
    rw [h1, hk, List.filterMap_map]
    exact List.filterMap_some
  have hPc := hP.sub isC (hFm isC hC)
  have hDc := hD.sub isC hnC hC
  have hFc := va_free (wc := wc) hD hS hA isC hC
  refine va_calli (va_runS (As := As) (rest := rest) (cc := cc) (nL := nL) (Ts := Ts) ⟨hx, hb, hml, ho, ht⟩ (hM l D H.size) (va_cwS As.length ht hG hw hrm.1 hrm.2 hde hRo) ⟨fun a U g mk q => ?_, fun U hU hW => ⟨rfl, by rw [hU], by rw [hU]; exact hPc, va_K.moved hW.alike hK, hDc.weaken (fun _ _ _ _ => trivial)⟩⟩ rfl rfl hl.1 rfl (show 2 * 0 + (rest.map fun v => v.category).sum ≤ 8 by omega) hd hcs) hS (fun q _ h => hFc q h) hFc (fun r u t H1 locs1 htt hvm hw1 hB hz1 hk1 hS1 => ?_)
  · obtain ⟨q0, q1, qP, qK, qD⟩ := q
    exact ⟨q0, q1, qP, va_K.moved (u := U) (U := U.calling g mk a) (Vm.Alike.refl U.vm) qK, qD⟩
  · obtain ⟨hP1, hK1, hD1⟩ := hB
    rw [htt] at hP1
    obtain ⟨hP2, hD2⟩ := va_join (wr := wr) (w1 := w1 u) hP hD isC isR hC hRr hnR hdis hk1 hFc hP1 hD1
    have hX2 := hX u
    have hP3 : va_P D vwCl (ws2 u) H1 := hP2.sub isP (by
      have h1 : isP.filterMap (fun i => (wr ++ w1 u)[i]?) = (isP.map (fun i => (wr ++ w1 u)[i]?)).filterMap id := by rw [List.filterMap_map]; rfl
      rw [h1, hX2, List.filterMap_map]
      exact List.filterMap_some)
    exact kk r u hw1 H1 locs1 ls hP3 (hD2.sub isP hnP hX2) hS1 hl
theorem g_callVl (C : gC X tys cc nL own Ts rm) {S : Type} {y : MethodName} {wsy : List Cond} {rmy : Room} {b : Nat} {As rest : List Value} {wc wr : va_W} {post : Int64 → S → Prop} {w1 : S → va_W} {mc ms : Nat} (hM : ∀ (l : Launch) (D : va_G), gMl l y wsy rmy D tys mc ms (.ref b :: As) wc post w1) {index : Nat} {bytes : ByteArray} {maxL : Nat} {ret : Option FieldType} {wst : List Cond} {Cn : String} (hG : GoodIn Ts (wsV own index Cn y wsy)) (hw : wsy = Cond.code y bytes maxL ret :: wst) (hde : y.cls = Cn ∧ y.cls ≠ "java/lang/invoke/MethodHandle" ∧ y.cls ≠ "java/lang/invoke/VarHandle" ∧ (parseMethodDescriptor y.desc).map (fun d => d.parameters.length) = some As.length) (hrm : rmy.cells = mc ∧ rmy.slots = ms) (hRo : rmy.frames + 1 ≤ rm.frames ∧ 8 + (maxL + 11) + rmy.locals ≤ rm.locals) (hcs : k + mc ≤ rm.cells ∧ n + ms ≤ rm.slots) (isC isR isP : List Nat) (hC : isC.map (fun i => ws[i]?) = wc.map some) (hRr : isR.map (fun i => ws[i]?) = wr.map some) (hnC : va_nd isC = true) (hnR : va_nd isR = true) (hdis : ∀ i ∈ isR, i ∉ isC) (hnP : va_nd isP = true) {ws2 : S → va_W} (hX : ∀ u, isP.map (fun i => (wr ++ w1 u)[i]?) = (ws2 u).map some) (ci qr : Nat) {fs : List Value} {q : vw_C} (hr1 : vwCl[ci]? = some q) (hq : q.1 = Cn) (hr2 : wc[qr]? = some (b, .inr (ci, fs))) (hst : st = As.reverse ++ .ref b :: rest) (hro : (rest.map fun v => v.category).sum ≤ 8) (hd : decode cc pc = .ok (.invokevirtual index, 3))  (kk : ∀ (r : Int64) (u : S), post r u → gW X (k + mc) (n + ms) (ws2 u) nL lv (.long r :: rest) (pc + 3)) : gW X k n ws nL lv (st) pc := by
  obtain ⟨p, l, e, R, s, m, args, below, meth, c, A, D, Q⟩ := X
  obtain ⟨hx, hb, hml, ho, ht, hK, hA, hR, hlk⟩ := C
  intro H locs ls hP hD hS hl
  subst hst; subst hR
  have hFm : ∀ {w2 : va_W} (ks : List Nat), ks.map (fun i => ws[i]?) = w2.map some → ks.filterMap (fun i => ws[i]?) = w2 := by
    intro w2 ks hk
    have h1 : ks.filterMap (fun i => ws[i]?) = (ks.map (fun i => ws[i]?)).filterMap id := by rw [List.filterMap_map]; rfl
    rw [h1, hk, List.filterMap_map]
    exact List.filterMap_some
  have hPc := hP.sub isC (hFm isC hC)
  have hDc := hD.sub isC hnC hC
  have hFc := va_free (wc := wc) hD hS hA isC hC
  refine va_calll (va_runV (As := As) (rest := rest) (cc := cc) (nL := nL) (Ts := Ts) ⟨hx, hb, hml, ho, ht⟩ (hM l D H.size) (cwV As.length ht hG hw hrm.1 hrm.2 hde hRo) ⟨fun a U g mk q => ?_, by obtain ⟨cl0, g1, g2, g3⟩ := va_recv hK hPc hr1 hr2; exact ⟨cl0, g1, g2, by rw [← hq]; exact g3⟩, fun U hU hW => ⟨rfl, by rw [hU], by rw [hU]; exact hPc, va_K.moved hW.alike hK, hDc.weaken (fun _ _ _ _ => trivial)⟩⟩ rfl rfl hl.1 rfl (show 2 * 0 + (rest.map fun v => v.category).sum ≤ 8 by omega) hd hcs) hS (fun q _ h => hFc q h) hFc (fun r u t H1 locs1 htt hvm hw1 hB hz1 hk1 hS1 => ?_)
  · obtain ⟨q0, q1, qP, qK, qD⟩ := q
    exact ⟨q0, q1, qP, va_K.moved (u := U) (U := U.calling g mk a) (Vm.Alike.refl U.vm) qK, qD⟩
  · obtain ⟨hP1, hK1, hD1⟩ := hB
    rw [htt] at hP1
    obtain ⟨hP2, hD2⟩ := va_join (wr := wr) (w1 := w1 u) hP hD isC isR hC hRr hnR hdis hk1 hFc hP1 hD1
    have hX2 := hX u
    have hP3 : va_P D vwCl (ws2 u) H1 := hP2.sub isP (by
      have h1 : isP.filterMap (fun i => (wr ++ w1 u)[i]?) = (isP.map (fun i => (wr ++ w1 u)[i]?)).filterMap id := by rw [List.filterMap_map]; rfl
      rw [h1, hX2, List.filterMap_map]
      exact List.filterMap_some)
    exact kk r u hw1 H1 locs1 ls hP3 (hD2.sub isP hnP hX2) hS1 hl
theorem g_callSl (C : gC X tys cc nL own Ts rm) {S : Type} {y : MethodName} {wsy : List Cond} {rmy : Room} {b : Nat} {As rest : List Value} {wc wr : va_W} {post : Int64 → S → Prop} {w1 : S → va_W} {mc ms : Nat} (hM : ∀ (l : Launch) (D : va_G), gMl l y wsy rmy D tys mc ms As wc post w1) {index : Nat} {bytes : ByteArray} {maxL : Nat} {ret : Option FieldType} {wst : List Cond} (hG : GoodIn Ts (va_wsS own index y wsy)) (hw : wsy = Cond.code y bytes maxL ret :: wst) (hde : y.cls ≠ "java/lang/invoke/MethodHandle" ∧ y.cls ≠ "java/lang/invoke/VarHandle" ∧ (parseMethodDescriptor y.desc).map (fun d => d.parameters.length) = some As.length) (hrm : rmy.cells = mc ∧ rmy.slots = ms) (hRo : rmy.frames + 1 ≤ rm.frames ∧ 8 + (maxL + 11) + rmy.locals ≤ rm.locals) (hcs : k + mc ≤ rm.cells ∧ n + ms ≤ rm.slots) (isC isR isP : List Nat) (hC : isC.map (fun i => ws[i]?) = wc.map some) (hRr : isR.map (fun i => ws[i]?) = wr.map some) (hnC : va_nd isC = true) (hnR : va_nd isR = true) (hdis : ∀ i ∈ isR, i ∉ isC) (hnP : va_nd isP = true) {ws2 : S → va_W} (hX : ∀ u, isP.map (fun i => (wr ++ w1 u)[i]?) = (ws2 u).map some) (hst : st = As.reverse ++ rest) (hro : (rest.map fun v => v.category).sum ≤ 8) (hd : decode cc pc = .ok (.invokestatic index, 3))  (kk : ∀ (r : Int64) (u : S), post r u → gW X (k + mc) (n + ms) (ws2 u) nL lv (.long r :: rest) (pc + 3)) : gW X k n ws nL lv (st) pc := by
  obtain ⟨p, l, e, R, s, m, args, below, meth, c, A, D, Q⟩ := X
  obtain ⟨hx, hb, hml, ho, ht, hK, hA, hR, hlk⟩ := C
  intro H locs ls hP hD hS hl
  subst hst; subst hR
  have hFm : ∀ {w2 : va_W} (ks : List Nat), ks.map (fun i => ws[i]?) = w2.map some → ks.filterMap (fun i => ws[i]?) = w2 := by
    intro w2 ks hk
    have h1 : ks.filterMap (fun i => ws[i]?) = (ks.map (fun i => ws[i]?)).filterMap id := by rw [List.filterMap_map]; rfl
    rw [h1, hk, List.filterMap_map]
    exact List.filterMap_some
  have hPc := hP.sub isC (hFm isC hC)
  have hDc := hD.sub isC hnC hC
  have hFc := va_free (wc := wc) hD hS hA isC hC
  refine va_calll (va_runS (As := As) (rest := rest) (cc := cc) (nL := nL) (Ts := Ts) ⟨hx, hb, hml, ho, ht⟩ (hM l D H.size) (va_cwS As.length ht hG hw hrm.1 hrm.2 hde hRo) ⟨fun a U g mk q => ?_, fun U hU hW => ⟨rfl, by rw [hU], by rw [hU]; exact hPc, va_K.moved hW.alike hK, hDc.weaken (fun _ _ _ _ => trivial)⟩⟩ rfl rfl hl.1 rfl (show 2 * 0 + (rest.map fun v => v.category).sum ≤ 8 by omega) hd hcs) hS (fun q _ h => hFc q h) hFc (fun r u t H1 locs1 htt hvm hw1 hB hz1 hk1 hS1 => ?_)
  · obtain ⟨q0, q1, qP, qK, qD⟩ := q
    exact ⟨q0, q1, qP, va_K.moved (u := U) (U := U.calling g mk a) (Vm.Alike.refl U.vm) qK, qD⟩
  · obtain ⟨hP1, hK1, hD1⟩ := hB
    rw [htt] at hP1
    obtain ⟨hP2, hD2⟩ := va_join (wr := wr) (w1 := w1 u) hP hD isC isR hC hRr hnR hdis hk1 hFc hP1 hD1
    have hX2 := hX u
    have hP3 : va_P D vwCl (ws2 u) H1 := hP2.sub isP (by
      have h1 : isP.filterMap (fun i => (wr ++ w1 u)[i]?) = (isP.map (fun i => (wr ++ w1 u)[i]?)).filterMap id := by rw [List.filterMap_map]; rfl
      rw [h1, hX2, List.filterMap_map]
      exact List.filterMap_some)
    exact kk r u hw1 H1 locs1 ls hP3 (hD2.sub isP hnP hX2) hS1 hl
theorem g_callVv (C : gC X tys cc nL own Ts rm) {S : Type} {y : MethodName} {wsy : List Cond} {rmy : Room} {b : Nat} {As rest : List Value} {wc wr : va_W} {post : S → Prop} {w1 : S → va_W} {mc ms : Nat} (hM : ∀ (l : Launch) (D : va_G), gMv l y wsy rmy D tys mc ms (.ref b :: As) wc post w1) {index : Nat} {bytes : ByteArray} {maxL : Nat} {ret : Option FieldType} {wst : List Cond} {Cn : String} (hG : GoodIn Ts (wsV own index Cn y wsy)) (hw : wsy = Cond.code y bytes maxL ret :: wst) (hde : y.cls = Cn ∧ y.cls ≠ "java/lang/invoke/MethodHandle" ∧ y.cls ≠ "java/lang/invoke/VarHandle" ∧ (parseMethodDescriptor y.desc).map (fun d => d.parameters.length) = some As.length) (hrm : rmy.cells = mc ∧ rmy.slots = ms) (hRo : rmy.frames + 1 ≤ rm.frames ∧ 8 + (maxL + 11) + rmy.locals ≤ rm.locals) (hcs : k + mc ≤ rm.cells ∧ n + ms ≤ rm.slots) (isC isR isP : List Nat) (hC : isC.map (fun i => ws[i]?) = wc.map some) (hRr : isR.map (fun i => ws[i]?) = wr.map some) (hnC : va_nd isC = true) (hnR : va_nd isR = true) (hdis : ∀ i ∈ isR, i ∉ isC) (hnP : va_nd isP = true) {ws2 : S → va_W} (hX : ∀ u, isP.map (fun i => (wr ++ w1 u)[i]?) = (ws2 u).map some) (ci qr : Nat) {fs : List Value} {q : vw_C} (hr1 : vwCl[ci]? = some q) (hq : q.1 = Cn) (hr2 : wc[qr]? = some (b, .inr (ci, fs))) (hst : st = As.reverse ++ .ref b :: rest) (hro : (rest.map fun v => v.category).sum ≤ 8) (hd : decode cc pc = .ok (.invokevirtual index, 3))  (kk : ∀ (u : S), post u → gW X (k + mc) (n + ms) (ws2 u) nL lv rest (pc + 3)) : gW X k n ws nL lv (st) pc := by
  obtain ⟨p, l, e, R, s, m, args, below, meth, c, A, D, Q⟩ := X
  obtain ⟨hx, hb, hml, ho, ht, hK, hA, hR, hlk⟩ := C
  intro H locs ls hP hD hS hl
  subst hst; subst hR
  have hFm : ∀ {w2 : va_W} (ks : List Nat), ks.map (fun i => ws[i]?) = w2.map some → ks.filterMap (fun i => ws[i]?) = w2 := by
    intro w2 ks hk
    have h1 : ks.filterMap (fun i => ws[i]?) = (ks.map (fun i => ws[i]?)).filterMap id := by rw [List.filterMap_map]; rfl
    rw [h1, hk, List.filterMap_map]
    exact List.filterMap_some
  have hPc := hP.sub isC (hFm isC hC)
  have hDc := hD.sub isC hnC hC
  have hFc := va_free (wc := wc) hD hS hA isC hC
  refine va_callv (va_runV (As := As) (rest := rest) (cc := cc) (nL := nL) (Ts := Ts) ⟨hx, hb, hml, ho, ht⟩ (hM l D H.size) (cwV As.length ht hG hw hrm.1 hrm.2 hde hRo) ⟨fun a U g mk q => ?_, by obtain ⟨cl0, g1, g2, g3⟩ := va_recv hK hPc hr1 hr2; exact ⟨cl0, g1, g2, by rw [← hq]; exact g3⟩, fun U hU hW => ⟨rfl, by rw [hU], by rw [hU]; exact hPc, va_K.moved hW.alike hK, hDc.weaken (fun _ _ _ _ => trivial)⟩⟩ rfl rfl hl.1 rfl (show 2 * 0 + (rest.map fun v => v.category).sum ≤ 8 by omega) hd hcs) hS (fun q _ h => hFc q h) hFc (fun u t H1 locs1 htt hvm hw1 hB hz1 hk1 hS1 => ?_)
  · obtain ⟨q0, q1, qP, qK, qD⟩ := q
    exact ⟨q0, q1, qP, va_K.moved (u := U) (U := U.calling g mk a) (Vm.Alike.refl U.vm) qK, qD⟩
  · obtain ⟨hP1, hK1, hD1⟩ := hB
    rw [htt] at hP1
    obtain ⟨hP2, hD2⟩ := va_join (wr := wr) (w1 := w1 u) hP hD isC isR hC hRr hnR hdis hk1 hFc hP1 hD1
    have hX2 := hX u
    have hP3 : va_P D vwCl (ws2 u) H1 := hP2.sub isP (by
      have h1 : isP.filterMap (fun i => (wr ++ w1 u)[i]?) = (isP.map (fun i => (wr ++ w1 u)[i]?)).filterMap id := by rw [List.filterMap_map]; rfl
      rw [h1, hX2, List.filterMap_map]
      exact List.filterMap_some)
    exact kk u hw1 H1 locs1 ls hP3 (hD2.sub isP hnP hX2) hS1 hl
theorem g_callSv (C : gC X tys cc nL own Ts rm) {S : Type} {y : MethodName} {wsy : List Cond} {rmy : Room} {b : Nat} {As rest : List Value} {wc wr : va_W} {post : S → Prop} {w1 : S → va_W} {mc ms : Nat} (hM : ∀ (l : Launch) (D : va_G), gMv l y wsy rmy D tys mc ms As wc post w1) {index : Nat} {bytes : ByteArray} {maxL : Nat} {ret : Option FieldType} {wst : List Cond} (hG : GoodIn Ts (va_wsS own index y wsy)) (hw : wsy = Cond.code y bytes maxL ret :: wst) (hde : y.cls ≠ "java/lang/invoke/MethodHandle" ∧ y.cls ≠ "java/lang/invoke/VarHandle" ∧ (parseMethodDescriptor y.desc).map (fun d => d.parameters.length) = some As.length) (hrm : rmy.cells = mc ∧ rmy.slots = ms) (hRo : rmy.frames + 1 ≤ rm.frames ∧ 8 + (maxL + 11) + rmy.locals ≤ rm.locals) (hcs : k + mc ≤ rm.cells ∧ n + ms ≤ rm.slots) (isC isR isP : List Nat) (hC : isC.map (fun i => ws[i]?) = wc.map some) (hRr : isR.map (fun i => ws[i]?) = wr.map some) (hnC : va_nd isC = true) (hnR : va_nd isR = true) (hdis : ∀ i ∈ isR, i ∉ isC) (hnP : va_nd isP = true) {ws2 : S → va_W} (hX : ∀ u, isP.map (fun i => (wr ++ w1 u)[i]?) = (ws2 u).map some) (hst : st = As.reverse ++ rest) (hro : (rest.map fun v => v.category).sum ≤ 8) (hd : decode cc pc = .ok (.invokestatic index, 3))  (kk : ∀ (u : S), post u → gW X (k + mc) (n + ms) (ws2 u) nL lv rest (pc + 3)) : gW X k n ws nL lv (st) pc := by
  obtain ⟨p, l, e, R, s, m, args, below, meth, c, A, D, Q⟩ := X
  obtain ⟨hx, hb, hml, ho, ht, hK, hA, hR, hlk⟩ := C
  intro H locs ls hP hD hS hl
  subst hst; subst hR
  have hFm : ∀ {w2 : va_W} (ks : List Nat), ks.map (fun i => ws[i]?) = w2.map some → ks.filterMap (fun i => ws[i]?) = w2 := by
    intro w2 ks hk
    have h1 : ks.filterMap (fun i => ws[i]?) = (ks.map (fun i => ws[i]?)).filterMap id := by rw [List.filterMap_map]; rfl
    rw [h1, hk, List.filterMap_map]
    exact List.filterMap_some
  have hPc := hP.sub isC (hFm isC hC)
  have hDc := hD.sub isC hnC hC
  have hFc := va_free (wc := wc) hD hS hA isC hC
  refine va_callv (va_runS (As := As) (rest := rest) (cc := cc) (nL := nL) (Ts := Ts) ⟨hx, hb, hml, ho, ht⟩ (hM l D H.size) (va_cwS As.length ht hG hw hrm.1 hrm.2 hde hRo) ⟨fun a U g mk q => ?_, fun U hU hW => ⟨rfl, by rw [hU], by rw [hU]; exact hPc, va_K.moved hW.alike hK, hDc.weaken (fun _ _ _ _ => trivial)⟩⟩ rfl rfl hl.1 rfl (show 2 * 0 + (rest.map fun v => v.category).sum ≤ 8 by omega) hd hcs) hS (fun q _ h => hFc q h) hFc (fun u t H1 locs1 htt hvm hw1 hB hz1 hk1 hS1 => ?_)
  · obtain ⟨q0, q1, qP, qK, qD⟩ := q
    exact ⟨q0, q1, qP, va_K.moved (u := U) (U := U.calling g mk a) (Vm.Alike.refl U.vm) qK, qD⟩
  · obtain ⟨hP1, hK1, hD1⟩ := hB
    rw [htt] at hP1
    obtain ⟨hP2, hD2⟩ := va_join (wr := wr) (w1 := w1 u) hP hD isC isR hC hRr hnR hdis hk1 hFc hP1 hD1
    have hX2 := hX u
    have hP3 : va_P D vwCl (ws2 u) H1 := hP2.sub isP (by
      have h1 : isP.filterMap (fun i => (wr ++ w1 u)[i]?) = (isP.map (fun i => (wr ++ w1 u)[i]?)).filterMap id := by rw [List.filterMap_map]; rfl
      rw [h1, hX2, List.filterMap_map]
      exact List.filterMap_some)
    exact kk u hw1 H1 locs1 ls hP3 (hD2.sub isP hnP hX2) hS1 hl
end GW
theorem g_enteri {S : Type} {l : Launch} {y : MethodName} {wsy wst : List Cond} {rm : Room} {D : va_G} {tys : List (ClassId × FieldType)} {mc ms : Nat} {av : List Value} {wc : va_W} {post : Int32 → S → Prop} {w1 : S → va_W} {cc : ByteArray} {nL : Nat} {ret : Option FieldType} (hy : plainName y.cls = true) (hw : wsy = Cond.code y cc nL ret :: wst) (hn : (lg_sl av).length ≤ nL) {lv : List (Nat × Value)} (hlv : lv_args 0 av = lv)
    (h : ∀ X : gX, gC X tys cc nL y.cls wsy rm → gEi X ret tys mc ms post w1 → gW X 0 0 wc nL lv [] 0) : gMi l y wsy rm D tys mc ms av wc post w1 := by
  intro sz
  refine Met.ofW (cc := cc) (maxL := nL) (ret := ret) hy hw ?_
  intro p e s m args below meth c s₁ B hml hv
  obtain ⟨rfl, hsz, hP, hK, hD0⟩ := hv
  have hts := atoms_spec (ws := wsy) B.pre
  have hown : s.vm.findClass y.cls = some m.cls := findClass_of_methodNamed B.named
  subst hsz
  have hD := hD0.self (sz := s.heap.size)
  have hl := lv_entry av (n := nL) hn
  rw [hlv] at hl
  rw [lg_entry_eq]
  exact h (p, l, e, (headSpec wsy rm).room, s, m, av.toArray, below, meth, c, va_A wc s.heap.size, D, MQ below (va_Qi post (gB D tys (va_A wc s.heap.size) w1) (va_A wc s.heap.size)) av.toArray s mc ms (va_A wc s.heap.size)) ⟨B.exec, B.bytes, hml, hown, hts, hK, fun q h => Or.inr h, rfl, B.notSynchronized⟩ ⟨B.returns, rfl⟩ s.heap [] _ hP hD va_S.rf hl
theorem g_enterl {S : Type} {l : Launch} {y : MethodName} {wsy wst : List Cond} {rm : Room} {D : va_G} {tys : List (ClassId × FieldType)} {mc ms : Nat} {av : List Value} {wc : va_W} {post : Int64 → S → Prop} {w1 : S → va_W} {cc : ByteArray} {nL : Nat} {ret : Option FieldType} (hy : plainName y.cls = true) (hw : wsy = Cond.code y cc nL ret :: wst) (hn : (lg_sl av).length ≤ nL) {lv : List (Nat × Value)} (hlv : lv_args 0 av = lv)
    (h : ∀ X : gX, gC X tys cc nL y.cls wsy rm → gEl X ret tys mc ms post w1 → gW X 0 0 wc nL lv [] 0) : gMl l y wsy rm D tys mc ms av wc post w1 := by
  intro sz
  refine Met.ofW (cc := cc) (maxL := nL) (ret := ret) hy hw ?_
  intro p e s m args below meth c s₁ B hml hv
  obtain ⟨rfl, hsz, hP, hK, hD0⟩ := hv
  have hts := atoms_spec (ws := wsy) B.pre
  have hown : s.vm.findClass y.cls = some m.cls := findClass_of_methodNamed B.named
  subst hsz
  have hD := hD0.self (sz := s.heap.size)
  have hl := lv_entry av (n := nL) hn
  rw [hlv] at hl
  rw [lg_entry_eq]
  exact h (p, l, e, (headSpec wsy rm).room, s, m, av.toArray, below, meth, c, va_A wc s.heap.size, D, MQ below (va_Ql post (gB D tys (va_A wc s.heap.size) w1) (va_A wc s.heap.size)) av.toArray s mc ms (va_A wc s.heap.size)) ⟨B.exec, B.bytes, hml, hown, hts, hK, fun q h => Or.inr h, rfl, B.notSynchronized⟩ ⟨B.returns, rfl⟩ s.heap [] _ hP hD va_S.rf hl
theorem g_enterv {S : Type} {l : Launch} {y : MethodName} {wsy wst : List Cond} {rm : Room} {D : va_G} {tys : List (ClassId × FieldType)} {mc ms : Nat} {av : List Value} {wc : va_W} {post : S → Prop} {w1 : S → va_W} {cc : ByteArray} {nL : Nat} {ret : Option FieldType} (hy : plainName y.cls = true) (hw : wsy = Cond.code y cc nL ret :: wst) (hn : (lg_sl av).length ≤ nL) {lv : List (Nat × Value)} (hlv : lv_args 0 av = lv)
    (h : ∀ X : gX, gC X tys cc nL y.cls wsy rm → gEv X ret tys mc ms post w1 → gW X 0 0 wc nL lv [] 0) : gMv l y wsy rm D tys mc ms av wc post w1 := by
  intro sz
  refine Met.ofW (cc := cc) (maxL := nL) (ret := ret) hy hw ?_
  intro p e s m args below meth c s₁ B hml hv
  obtain ⟨rfl, hsz, hP, hK, hD0⟩ := hv
  have hts := atoms_spec (ws := wsy) B.pre
  have hown : s.vm.findClass y.cls = some m.cls := findClass_of_methodNamed B.named
  subst hsz
  have hD := hD0.self (sz := s.heap.size)
  have hl := lv_entry av (n := nL) hn
  rw [hlv] at hl
  rw [lg_entry_eq]
  exact h (p, l, e, (headSpec wsy rm).room, s, m, av.toArray, below, meth, c, va_A wc s.heap.size, D, MQ below (va_Qv post (gB D tys (va_A wc s.heap.size) w1) (va_A wc s.heap.size)) av.toArray s mc ms (va_A wc s.heap.size)) ⟨B.exec, B.bytes, hml, hown, hts, hK, fun q h => Or.inr h, rfl, B.notSynchronized⟩ ⟨B.returns, rfl⟩ s.heap [] _ hP hD va_S.rf hl
end
section
set_option maxRecDepth 20000 in
theorem ggX0_init_X0_lay : GoodIn wsX0_init wsX0_lay := goodIn_r _ [16, 5, 11, 6, 7, 17, 18, 19, 20, 21, 22, 23, 15, 24, 9, 10, 25, 26, 27, 28, 29, 30, 31] (by decide +kernel) (by decide +kernel)
set_option maxRecDepth 20000 in
theorem gX0_init_X0_lay : GoodIn wsX0_init (wsV RX0 34 RX0 yX0_lay wsX0_lay) := goodIn_app (goodIn_of _ (by decide +kernel)) ggX0_init_X0_lay
theorem dX0_init_0 : decode cX0_init 0 = .ok (.aload_n 0, 1) := by decide +kernel
theorem dX0_init_1 : decode cX0_init 1 = .ok (.invokespecial 3, 3) := by decide +kernel
theorem dX0_init_4 : decode cX0_init 4 = .ok (.aload_n 0, 1) := by decide +kernel
theorem dX0_init_5 : decode cX0_init 5 = .ok (.iconst 3, 1) := by decide +kernel
theorem dX0_init_6 : decode cX0_init 6 = .ok (.newarray .int, 2) := by decide +kernel
theorem dX0_init_8 : decode cX0_init 8 = .ok (.putfield 9, 3) := by decide +kernel
theorem dX0_init_11 : decode cX0_init 11 = .ok (.aload_n 0, 1) := by decide +kernel
theorem dX0_init_12 : decode cX0_init 12 = .ok (.bipush 36, 2) := by decide +kernel
theorem dX0_init_14 : decode cX0_init 14 = .ok (.newarray .int, 2) := by decide +kernel
theorem dX0_init_16 : decode cX0_init 16 = .ok (.putfield 15, 3) := by decide +kernel
theorem dX0_init_19 : decode cX0_init 19 = .ok (.aload_n 0, 1) := by decide +kernel
theorem dX0_init_20 : decode cX0_init 20 = .ok (.bipush 36, 2) := by decide +kernel
theorem dX0_init_22 : decode cX0_init 22 = .ok (.newarray .int, 2) := by decide +kernel
theorem dX0_init_24 : decode cX0_init 24 = .ok (.putfield 18, 3) := by decide +kernel
theorem dX0_init_27 : decode cX0_init 27 = .ok (.aload_n 0, 1) := by decide +kernel
theorem dX0_init_28 : decode cX0_init 28 = .ok (.bipush 7, 2) := by decide +kernel
theorem dX0_init_30 : decode cX0_init 30 = .ok (.newarray .int, 2) := by decide +kernel
theorem dX0_init_32 : decode cX0_init 32 = .ok (.dup, 1) := by decide +kernel
theorem dX0_init_33 : decode cX0_init 33 = .ok (.iconst 0, 1) := by decide +kernel
theorem dX0_init_34 : decode cX0_init 34 = .ok (.iconst 1, 1) := by decide +kernel
theorem dX0_init_35 : decode cX0_init 35 = .ok (.iastore, 1) := by decide +kernel
theorem dX0_init_36 : decode cX0_init 36 = .ok (.dup, 1) := by decide +kernel
theorem dX0_init_37 : decode cX0_init 37 = .ok (.iconst 1, 1) := by decide +kernel
theorem dX0_init_38 : decode cX0_init 38 = .ok (.iconst 1, 1) := by decide +kernel
theorem dX0_init_39 : decode cX0_init 39 = .ok (.iastore, 1) := by decide +kernel
theorem dX0_init_40 : decode cX0_init 40 = .ok (.dup, 1) := by decide +kernel
theorem dX0_init_41 : decode cX0_init 41 = .ok (.iconst 2, 1) := by decide +kernel
theorem dX0_init_42 : decode cX0_init 42 = .ok (.iconst 1, 1) := by decide +kernel
theorem dX0_init_43 : decode cX0_init 43 = .ok (.iastore, 1) := by decide +kernel
theorem dX0_init_44 : decode cX0_init 44 = .ok (.dup, 1) := by decide +kernel
theorem dX0_init_45 : decode cX0_init 45 = .ok (.iconst 3, 1) := by decide +kernel
theorem dX0_init_46 : decode cX0_init 46 = .ok (.iconst 0, 1) := by decide +kernel
theorem dX0_init_47 : decode cX0_init 47 = .ok (.iastore, 1) := by decide +kernel
theorem dX0_init_48 : decode cX0_init 48 = .ok (.dup, 1) := by decide +kernel
theorem dX0_init_49 : decode cX0_init 49 = .ok (.iconst 4, 1) := by decide +kernel
theorem dX0_init_50 : decode cX0_init 50 = .ok (.iconst 0, 1) := by decide +kernel
theorem dX0_init_51 : decode cX0_init 51 = .ok (.iastore, 1) := by decide +kernel
theorem dX0_init_52 : decode cX0_init 52 = .ok (.dup, 1) := by decide +kernel
theorem dX0_init_53 : decode cX0_init 53 = .ok (.iconst 5, 1) := by decide +kernel
theorem dX0_init_54 : decode cX0_init 54 = .ok (.bipush 9, 2) := by decide +kernel
theorem dX0_init_56 : decode cX0_init 56 = .ok (.iastore, 1) := by decide +kernel
theorem dX0_init_57 : decode cX0_init 57 = .ok (.dup, 1) := by decide +kernel
theorem dX0_init_58 : decode cX0_init 58 = .ok (.bipush 6, 2) := by decide +kernel
theorem dX0_init_60 : decode cX0_init 60 = .ok (.iconst 0, 1) := by decide +kernel
theorem dX0_init_61 : decode cX0_init 61 = .ok (.iastore, 1) := by decide +kernel
theorem dX0_init_62 : decode cX0_init 62 = .ok (.putfield 21, 3) := by decide +kernel
theorem dX0_init_65 : decode cX0_init 65 = .ok (.aload_n 0, 1) := by decide +kernel
theorem dX0_init_66 : decode cX0_init 66 = .ok (.bipush 108, 2) := by decide +kernel
theorem dX0_init_68 : decode cX0_init 68 = .ok (.newarray .int, 2) := by decide +kernel
theorem dX0_init_70 : decode cX0_init 70 = .ok (.putfield 24, 3) := by decide +kernel
theorem dX0_init_73 : decode cX0_init 73 = .ok (.aload_n 0, 1) := by decide +kernel
theorem dX0_init_74 : decode cX0_init 74 = .ok (.sipush 216, 3) := by decide +kernel
theorem dX0_init_77 : decode cX0_init 77 = .ok (.newarray .int, 2) := by decide +kernel
theorem dX0_init_79 : decode cX0_init 79 = .ok (.putfield 27, 3) := by decide +kernel
theorem dX0_init_82 : decode cX0_init 82 = .ok (.aload_n 0, 1) := by decide +kernel
theorem dX0_init_83 : decode cX0_init 83 = .ok (.iconst 0, 1) := by decide +kernel
theorem dX0_init_84 : decode cX0_init 84 = .ok (.putfield 30, 3) := by decide +kernel
theorem dX0_init_87 : decode cX0_init 87 = .ok (.aload_n 0, 1) := by decide +kernel
theorem dX0_init_88 : decode cX0_init 88 = .ok (.iconst 3, 1) := by decide +kernel
theorem dX0_init_89 : decode cX0_init 89 = .ok (.iconst 3, 1) := by decide +kernel
theorem dX0_init_90 : decode cX0_init 90 = .ok (.iconst 1, 1) := by decide +kernel
theorem dX0_init_91 : decode cX0_init 91 = .ok (.invokevirtual 34, 3) := by decide +kernel
theorem dX0_init_94 : decode cX0_init 94 = .ok (.return_, 1) := by decide +kernel
set_option maxRecDepth 20000 in
theorem ggX0_lay_J7_fill_53178 : GoodIn wsX0_lay wsJ7_fill_53178 := goodIn_r _ [8] (by decide +kernel) (by decide +kernel)
set_option maxRecDepth 20000 in
theorem gX0_lay_J7_fill_53178 : GoodIn wsX0_lay (va_wsS RX0 38 yJ7_fill_53178 wsJ7_fill_53178) := goodIn_app (goodIn_of _ (by decide +kernel)) ggX0_lay_J7_fill_53178
set_option maxRecDepth 20000 in
theorem ggX0_lay_X0_layAlong : GoodIn wsX0_lay wsX0_layAlong := goodIn_r _ [13, 14, 15, 1, 16, 17, 18, 19, 20, 21, 22] (by decide +kernel) (by decide +kernel)
set_option maxRecDepth 20000 in
theorem gX0_lay_X0_layAlong : GoodIn wsX0_lay (wsV RX0 44 RX0 yX0_layAlong wsX0_layAlong) := goodIn_app (goodIn_of _ (by decide +kernel)) ggX0_lay_X0_layAlong
theorem dX0_lay_0 : decode cX0_lay 0 = .ok (.aload_n 0, 1) := by decide +kernel
theorem dX0_lay_1 : decode cX0_lay 1 = .ok (.getfield 9, 3) := by decide +kernel
theorem dX0_lay_4 : decode cX0_lay 4 = .ok (.iconst 0, 1) := by decide +kernel
theorem dX0_lay_5 : decode cX0_lay 5 = .ok (.iload_n 1, 1) := by decide +kernel
theorem dX0_lay_6 : decode cX0_lay 6 = .ok (.iastore, 1) := by decide +kernel
theorem dX0_lay_7 : decode cX0_lay 7 = .ok (.aload_n 0, 1) := by decide +kernel
theorem dX0_lay_8 : decode cX0_lay 8 = .ok (.getfield 9, 3) := by decide +kernel
theorem dX0_lay_11 : decode cX0_lay 11 = .ok (.iconst 1, 1) := by decide +kernel
theorem dX0_lay_12 : decode cX0_lay 12 = .ok (.iload_n 2, 1) := by decide +kernel
theorem dX0_lay_13 : decode cX0_lay 13 = .ok (.iastore, 1) := by decide +kernel
theorem dX0_lay_14 : decode cX0_lay 14 = .ok (.aload_n 0, 1) := by decide +kernel
theorem dX0_lay_15 : decode cX0_lay 15 = .ok (.getfield 9, 3) := by decide +kernel
theorem dX0_lay_18 : decode cX0_lay 18 = .ok (.iconst 2, 1) := by decide +kernel
theorem dX0_lay_19 : decode cX0_lay 19 = .ok (.iload_n 3, 1) := by decide +kernel
theorem dX0_lay_20 : decode cX0_lay 20 = .ok (.iastore, 1) := by decide +kernel
theorem dX0_lay_21 : decode cX0_lay 21 = .ok (.aload_n 0, 1) := by decide +kernel
theorem dX0_lay_22 : decode cX0_lay 22 = .ok (.iload_n 1, 1) := by decide +kernel
theorem dX0_lay_23 : decode cX0_lay 23 = .ok (.iload_n 2, 1) := by decide +kernel
theorem dX0_lay_24 : decode cX0_lay 24 = .ok (.imul, 1) := by decide +kernel
theorem dX0_lay_25 : decode cX0_lay 25 = .ok (.iload_n 3, 1) := by decide +kernel
theorem dX0_lay_26 : decode cX0_lay 26 = .ok (.imul, 1) := by decide +kernel
theorem dX0_lay_27 : decode cX0_lay 27 = .ok (.putfield 30, 3) := by decide +kernel
theorem dX0_lay_30 : decode cX0_lay 30 = .ok (.aload_n 0, 1) := by decide +kernel
theorem dX0_lay_31 : decode cX0_lay 31 = .ok (.getfield 15, 3) := by decide +kernel
theorem dX0_lay_34 : decode cX0_lay 34 = .ok (.iconst 0, 1) := by decide +kernel
theorem dX0_lay_35 : decode cX0_lay 35 = .ok (.invokestatic 38, 3) := by decide +kernel
theorem dX0_lay_38 : decode cX0_lay 38 = .ok (.aload_n 0, 1) := by decide +kernel
theorem dX0_lay_39 : decode cX0_lay 39 = .ok (.getfield 18, 3) := by decide +kernel
theorem dX0_lay_42 : decode cX0_lay 42 = .ok (.iconst 0, 1) := by decide +kernel
theorem dX0_lay_43 : decode cX0_lay 43 = .ok (.invokestatic 38, 3) := by decide +kernel
theorem dX0_lay_46 : decode cX0_lay 46 = .ok (.iconst 0, 1) := by decide +kernel
theorem dX0_lay_47 : decode cX0_lay 47 = .ok (.istore 4, 2) := by decide +kernel
theorem dX0_lay_49 : decode cX0_lay 49 = .ok (.iconst 0, 1) := by decide +kernel
theorem dX0_lay_50 : decode cX0_lay 50 = .ok (.istore 5, 2) := by decide +kernel
theorem dX0_lay_52 : decode cX0_lay 52 = .ok (.iload 5, 2) := by decide +kernel
theorem dX0_lay_54 : decode cX0_lay 54 = .ok (.iload_n 3, 1) := by decide +kernel
theorem dX0_lay_55 : decode cX0_lay 55 = .ok (.if_icmp .ge 74, 3) := by decide +kernel
theorem dX0_lay_58 : decode cX0_lay 58 = .ok (.iconst 0, 1) := by decide +kernel
theorem dX0_lay_59 : decode cX0_lay 59 = .ok (.istore 6, 2) := by decide +kernel
theorem dX0_lay_61 : decode cX0_lay 61 = .ok (.iload 6, 2) := by decide +kernel
theorem dX0_lay_63 : decode cX0_lay 63 = .ok (.iload_n 2, 1) := by decide +kernel
theorem dX0_lay_64 : decode cX0_lay 64 = .ok (.if_icmp .ge 59, 3) := by decide +kernel
theorem dX0_lay_67 : decode cX0_lay 67 = .ok (.iconst 0, 1) := by decide +kernel
theorem dX0_lay_68 : decode cX0_lay 68 = .ok (.istore 7, 2) := by decide +kernel
theorem dX0_lay_70 : decode cX0_lay 70 = .ok (.iload 7, 2) := by decide +kernel
theorem dX0_lay_72 : decode cX0_lay 72 = .ok (.iload_n 1, 1) := by decide +kernel
theorem dX0_lay_73 : decode cX0_lay 73 = .ok (.if_icmp .ge 44, 3) := by decide +kernel
theorem dX0_lay_76 : decode cX0_lay 76 = .ok (.aload_n 0, 1) := by decide +kernel
theorem dX0_lay_77 : decode cX0_lay 77 = .ok (.iconst 0, 1) := by decide +kernel
theorem dX0_lay_78 : decode cX0_lay 78 = .ok (.iload 4, 2) := by decide +kernel
theorem dX0_lay_80 : decode cX0_lay 80 = .ok (.iload 7, 2) := by decide +kernel
theorem dX0_lay_82 : decode cX0_lay 82 = .ok (.iconst 1, 1) := by decide +kernel
theorem dX0_lay_83 : decode cX0_lay 83 = .ok (.invokevirtual 44, 3) := by decide +kernel
theorem dX0_lay_86 : decode cX0_lay 86 = .ok (.aload_n 0, 1) := by decide +kernel
theorem dX0_lay_87 : decode cX0_lay 87 = .ok (.iconst 1, 1) := by decide +kernel
theorem dX0_lay_88 : decode cX0_lay 88 = .ok (.iload 4, 2) := by decide +kernel
theorem dX0_lay_90 : decode cX0_lay 90 = .ok (.iload 6, 2) := by decide +kernel
theorem dX0_lay_92 : decode cX0_lay 92 = .ok (.iload_n 1, 1) := by decide +kernel
theorem dX0_lay_93 : decode cX0_lay 93 = .ok (.invokevirtual 44, 3) := by decide +kernel
theorem dX0_lay_96 : decode cX0_lay 96 = .ok (.aload_n 0, 1) := by decide +kernel
theorem dX0_lay_97 : decode cX0_lay 97 = .ok (.iconst 2, 1) := by decide +kernel
theorem dX0_lay_98 : decode cX0_lay 98 = .ok (.iload 4, 2) := by decide +kernel
theorem dX0_lay_100 : decode cX0_lay 100 = .ok (.iload 5, 2) := by decide +kernel
theorem dX0_lay_102 : decode cX0_lay 102 = .ok (.iload_n 1, 1) := by decide +kernel
theorem dX0_lay_103 : decode cX0_lay 103 = .ok (.iload_n 2, 1) := by decide +kernel
theorem dX0_lay_104 : decode cX0_lay 104 = .ok (.imul, 1) := by decide +kernel
theorem dX0_lay_105 : decode cX0_lay 105 = .ok (.invokevirtual 44, 3) := by decide +kernel
theorem dX0_lay_108 : decode cX0_lay 108 = .ok (.iinc 4 1, 3) := by decide +kernel
theorem dX0_lay_111 : decode cX0_lay 111 = .ok (.iinc 7 1, 3) := by decide +kernel
theorem dX0_lay_114 : decode cX0_lay 114 = .ok (.goto (-44), 3) := by decide +kernel
theorem dX0_lay_117 : decode cX0_lay 117 = .ok (.iinc 6 1, 3) := by decide +kernel
theorem dX0_lay_120 : decode cX0_lay 120 = .ok (.goto (-59), 3) := by decide +kernel
theorem dX0_lay_123 : decode cX0_lay 123 = .ok (.iinc 5 1, 3) := by decide +kernel
theorem dX0_lay_126 : decode cX0_lay 126 = .ok (.goto (-74), 3) := by decide +kernel
theorem dX0_lay_129 : decode cX0_lay 129 = .ok (.return_, 1) := by decide +kernel
theorem dX0_layAlong_0 : decode cX0_layAlong 0 = .ok (.iload_n 2, 1) := by decide +kernel
theorem dX0_layAlong_1 : decode cX0_layAlong 1 = .ok (.bipush 6, 2) := by decide +kernel
theorem dX0_layAlong_3 : decode cX0_layAlong 3 = .ok (.imul, 1) := by decide +kernel
theorem dX0_layAlong_4 : decode cX0_layAlong 4 = .ok (.iconst 2, 1) := by decide +kernel
theorem dX0_layAlong_5 : decode cX0_layAlong 5 = .ok (.iload_n 1, 1) := by decide +kernel
theorem dX0_layAlong_6 : decode cX0_layAlong 6 = .ok (.imul, 1) := by decide +kernel
theorem dX0_layAlong_7 : decode cX0_layAlong 7 = .ok (.iadd, 1) := by decide +kernel
theorem dX0_layAlong_8 : decode cX0_layAlong 8 = .ok (.istore 5, 2) := by decide +kernel
theorem dX0_layAlong_10 : decode cX0_layAlong 10 = .ok (.aload_n 0, 1) := by decide +kernel
theorem dX0_layAlong_11 : decode cX0_layAlong 11 = .ok (.getfield 24, 3) := by decide +kernel
theorem dX0_layAlong_14 : decode cX0_layAlong 14 = .ok (.iload_n 2, 1) := by decide +kernel
theorem dX0_layAlong_15 : decode cX0_layAlong 15 = .ok (.iconst 3, 1) := by decide +kernel
theorem dX0_layAlong_16 : decode cX0_layAlong 16 = .ok (.imul, 1) := by decide +kernel
theorem dX0_layAlong_17 : decode cX0_layAlong 17 = .ok (.iload_n 1, 1) := by decide +kernel
theorem dX0_layAlong_18 : decode cX0_layAlong 18 = .ok (.iadd, 1) := by decide +kernel
theorem dX0_layAlong_19 : decode cX0_layAlong 19 = .ok (.iload_n 3, 1) := by decide +kernel
theorem dX0_layAlong_20 : decode cX0_layAlong 20 = .ok (.iastore, 1) := by decide +kernel
theorem dX0_layAlong_21 : decode cX0_layAlong 21 = .ok (.aload_n 0, 1) := by decide +kernel
theorem dX0_layAlong_22 : decode cX0_layAlong 22 = .ok (.getfield 27, 3) := by decide +kernel
theorem dX0_layAlong_25 : decode cX0_layAlong 25 = .ok (.iload 5, 2) := by decide +kernel
theorem dX0_layAlong_27 : decode cX0_layAlong 27 = .ok (.iload_n 3, 1) := by decide +kernel
theorem dX0_layAlong_28 : decode cX0_layAlong 28 = .ok (.iconst 1, 1) := by decide +kernel
theorem dX0_layAlong_29 : decode cX0_layAlong 29 = .ok (.iadd, 1) := by decide +kernel
theorem dX0_layAlong_30 : decode cX0_layAlong 30 = .ok (.aload_n 0, 1) := by decide +kernel
theorem dX0_layAlong_31 : decode cX0_layAlong 31 = .ok (.getfield 9, 3) := by decide +kernel
theorem dX0_layAlong_34 : decode cX0_layAlong 34 = .ok (.iload_n 1, 1) := by decide +kernel
theorem dX0_layAlong_35 : decode cX0_layAlong 35 = .ok (.iaload, 1) := by decide +kernel
theorem dX0_layAlong_36 : decode cX0_layAlong 36 = .ok (.if_icmp .ge 10, 3) := by decide +kernel
theorem dX0_layAlong_39 : decode cX0_layAlong 39 = .ok (.iload_n 2, 1) := by decide +kernel
theorem dX0_layAlong_40 : decode cX0_layAlong 40 = .ok (.iload 4, 2) := by decide +kernel
theorem dX0_layAlong_42 : decode cX0_layAlong 42 = .ok (.iadd, 1) := by decide +kernel
theorem dX0_layAlong_43 : decode cX0_layAlong 43 = .ok (.goto 4, 3) := by decide +kernel
theorem dX0_layAlong_46 : decode cX0_layAlong 46 = .ok (.iconst (-1), 1) := by decide +kernel
theorem dX0_layAlong_47 : decode cX0_layAlong 47 = .ok (.iastore, 1) := by decide +kernel
theorem dX0_layAlong_48 : decode cX0_layAlong 48 = .ok (.aload_n 0, 1) := by decide +kernel
theorem dX0_layAlong_49 : decode cX0_layAlong 49 = .ok (.getfield 27, 3) := by decide +kernel
theorem dX0_layAlong_52 : decode cX0_layAlong 52 = .ok (.iload 5, 2) := by decide +kernel
theorem dX0_layAlong_54 : decode cX0_layAlong 54 = .ok (.iconst 1, 1) := by decide +kernel
theorem dX0_layAlong_55 : decode cX0_layAlong 55 = .ok (.iadd, 1) := by decide +kernel
theorem dX0_layAlong_56 : decode cX0_layAlong 56 = .ok (.iload_n 3, 1) := by decide +kernel
theorem dX0_layAlong_57 : decode cX0_layAlong 57 = .ok (.ifCond .le 10, 3) := by decide +kernel
theorem dX0_layAlong_60 : decode cX0_layAlong 60 = .ok (.iload_n 2, 1) := by decide +kernel
theorem dX0_layAlong_61 : decode cX0_layAlong 61 = .ok (.iload 4, 2) := by decide +kernel
theorem dX0_layAlong_63 : decode cX0_layAlong 63 = .ok (.isub, 1) := by decide +kernel
theorem dX0_layAlong_64 : decode cX0_layAlong 64 = .ok (.goto 4, 3) := by decide +kernel
theorem dX0_layAlong_67 : decode cX0_layAlong 67 = .ok (.iconst (-1), 1) := by decide +kernel
theorem dX0_layAlong_68 : decode cX0_layAlong 68 = .ok (.iastore, 1) := by decide +kernel
theorem dX0_layAlong_69 : decode cX0_layAlong 69 = .ok (.return_, 1) := by decide +kernel
theorem dX0_has_0 : decode cX0_has 0 = .ok (.iload_n 1, 1) := by decide +kernel
theorem dX0_has_1 : decode cX0_has 1 = .ok (.ifCond .lt 15, 3) := by decide +kernel
theorem dX0_has_4 : decode cX0_has 4 = .ok (.iload_n 1, 1) := by decide +kernel
theorem dX0_has_5 : decode cX0_has 5 = .ok (.aload_n 0, 1) := by decide +kernel
theorem dX0_has_6 : decode cX0_has 6 = .ok (.getfield 30, 3) := by decide +kernel
theorem dX0_has_9 : decode cX0_has 9 = .ok (.if_icmp .ge 7, 3) := by decide +kernel
theorem dX0_has_12 : decode cX0_has 12 = .ok (.iconst 1, 1) := by decide +kernel
theorem dX0_has_13 : decode cX0_has 13 = .ok (.goto 4, 3) := by decide +kernel
theorem dX0_has_16 : decode cX0_has 16 = .ok (.iconst 0, 1) := by decide +kernel
theorem dX0_has_17 : decode cX0_has 17 = .ok (.ireturn, 1) := by decide +kernel
theorem dX0_every_0 : decode cX0_every 0 = .ok (.lconst 1, 1) := by decide +kernel
theorem dX0_every_1 : decode cX0_every 1 = .ok (.aload_n 0, 1) := by decide +kernel
theorem dX0_every_2 : decode cX0_every 2 = .ok (.getfield 30, 3) := by decide +kernel
theorem dX0_every_5 : decode cX0_every 5 = .ok (.lshl, 1) := by decide +kernel
theorem dX0_every_6 : decode cX0_every 6 = .ok (.lconst 1, 1) := by decide +kernel
theorem dX0_every_7 : decode cX0_every 7 = .ok (.lsub, 1) := by decide +kernel
theorem dX0_every_8 : decode cX0_every 8 = .ok (.lreturn, 1) := by decide +kernel
set_option maxRecDepth 20000 in
theorem ggX0_isSet_X0_every : GoodIn wsX0_isSet wsX0_every := goodIn_r _ [6, 7, 8, 9, 10, 11, 12, 13, 14] (by decide +kernel) (by decide +kernel)
set_option maxRecDepth 20000 in
theorem gX0_isSet_X0_every : GoodIn wsX0_isSet (wsV RX0 48 RX0 yX0_every wsX0_every) := goodIn_app (goodIn_of _ (by decide +kernel)) ggX0_isSet_X0_every
theorem dX0_isSet_0 : decode cX0_isSet 0 = .ok (.lload_n 1, 1) := by decide +kernel
theorem dX0_isSet_1 : decode cX0_isSet 1 = .ok (.aload_n 0, 1) := by decide +kernel
theorem dX0_isSet_2 : decode cX0_isSet 2 = .ok (.invokevirtual 48, 3) := by decide +kernel
theorem dX0_isSet_5 : decode cX0_isSet 5 = .ok (.ldc2_w 52, 3) := by decide +kernel
theorem dX0_isSet_8 : decode cX0_isSet 8 = .ok (.lxor, 1) := by decide +kernel
theorem dX0_isSet_9 : decode cX0_isSet 9 = .ok (.land, 1) := by decide +kernel
theorem dX0_isSet_10 : decode cX0_isSet 10 = .ok (.lconst 0, 1) := by decide +kernel
theorem dX0_isSet_11 : decode cX0_isSet 11 = .ok (.lcmp, 1) := by decide +kernel
theorem dX0_isSet_12 : decode cX0_isSet 12 = .ok (.ifCond .ne 7, 3) := by decide +kernel
theorem dX0_isSet_15 : decode cX0_isSet 15 = .ok (.iconst 1, 1) := by decide +kernel
theorem dX0_isSet_16 : decode cX0_isSet 16 = .ok (.goto 4, 3) := by decide +kernel
theorem dX0_isSet_19 : decode cX0_isSet 19 = .ok (.iconst 0, 1) := by decide +kernel
theorem dX0_isSet_20 : decode cX0_isSet 20 = .ok (.ireturn, 1) := by decide +kernel
theorem dX0_freeCells_0 : decode cX0_freeCells 0 = .ok (.iconst 0, 1) := by decide +kernel
theorem dX0_freeCells_1 : decode cX0_freeCells 1 = .ok (.istore_n 1, 1) := by decide +kernel
theorem dX0_freeCells_2 : decode cX0_freeCells 2 = .ok (.iconst 0, 1) := by decide +kernel
theorem dX0_freeCells_3 : decode cX0_freeCells 3 = .ok (.istore_n 2, 1) := by decide +kernel
theorem dX0_freeCells_4 : decode cX0_freeCells 4 = .ok (.iload_n 2, 1) := by decide +kernel
theorem dX0_freeCells_5 : decode cX0_freeCells 5 = .ok (.aload_n 0, 1) := by decide +kernel
theorem dX0_freeCells_6 : decode cX0_freeCells 6 = .ok (.getfield 30, 3) := by decide +kernel
theorem dX0_freeCells_9 : decode cX0_freeCells 9 = .ok (.if_icmp .ge 21, 3) := by decide +kernel
theorem dX0_freeCells_12 : decode cX0_freeCells 12 = .ok (.aload_n 0, 1) := by decide +kernel
theorem dX0_freeCells_13 : decode cX0_freeCells 13 = .ok (.getfield 15, 3) := by decide +kernel
theorem dX0_freeCells_16 : decode cX0_freeCells 16 = .ok (.iload_n 2, 1) := by decide +kernel
theorem dX0_freeCells_17 : decode cX0_freeCells 17 = .ok (.iaload, 1) := by decide +kernel
theorem dX0_freeCells_18 : decode cX0_freeCells 18 = .ok (.ifCond .ne 6, 3) := by decide +kernel
theorem dX0_freeCells_21 : decode cX0_freeCells 21 = .ok (.iinc 1 1, 3) := by decide +kernel
theorem dX0_freeCells_24 : decode cX0_freeCells 24 = .ok (.iinc 2 1, 3) := by decide +kernel
theorem dX0_freeCells_27 : decode cX0_freeCells 27 = .ok (.goto (-23), 3) := by decide +kernel
theorem dX0_freeCells_30 : decode cX0_freeCells 30 = .ok (.iload_n 1, 1) := by decide +kernel
theorem dX0_freeCells_31 : decode cX0_freeCells 31 = .ok (.ireturn, 1) := by decide +kernel
theorem dX0_sideTowards_0 : decode cX0_sideTowards 0 = .ok (.iconst 0, 1) := by decide +kernel
theorem dX0_sideTowards_1 : decode cX0_sideTowards 1 = .ok (.istore_n 3, 1) := by decide +kernel
theorem dX0_sideTowards_2 : decode cX0_sideTowards 2 = .ok (.iload_n 3, 1) := by decide +kernel
theorem dX0_sideTowards_3 : decode cX0_sideTowards 3 = .ok (.bipush 6, 2) := by decide +kernel
theorem dX0_sideTowards_5 : decode cX0_sideTowards 5 = .ok (.if_icmp .ge 26, 3) := by decide +kernel
theorem dX0_sideTowards_8 : decode cX0_sideTowards 8 = .ok (.aload_n 0, 1) := by decide +kernel
theorem dX0_sideTowards_9 : decode cX0_sideTowards 9 = .ok (.getfield 27, 3) := by decide +kernel
theorem dX0_sideTowards_12 : decode cX0_sideTowards 12 = .ok (.iload_n 1, 1) := by decide +kernel
theorem dX0_sideTowards_13 : decode cX0_sideTowards 13 = .ok (.bipush 6, 2) := by decide +kernel
theorem dX0_sideTowards_15 : decode cX0_sideTowards 15 = .ok (.imul, 1) := by decide +kernel
theorem dX0_sideTowards_16 : decode cX0_sideTowards 16 = .ok (.iload_n 3, 1) := by decide +kernel
theorem dX0_sideTowards_17 : decode cX0_sideTowards 17 = .ok (.iadd, 1) := by decide +kernel
theorem dX0_sideTowards_18 : decode cX0_sideTowards 18 = .ok (.iaload, 1) := by decide +kernel
theorem dX0_sideTowards_19 : decode cX0_sideTowards 19 = .ok (.iload_n 2, 1) := by decide +kernel
theorem dX0_sideTowards_20 : decode cX0_sideTowards 20 = .ok (.if_icmp .ne 5, 3) := by decide +kernel
theorem dX0_sideTowards_23 : decode cX0_sideTowards 23 = .ok (.iload_n 3, 1) := by decide +kernel
theorem dX0_sideTowards_24 : decode cX0_sideTowards 24 = .ok (.ireturn, 1) := by decide +kernel
theorem dX0_sideTowards_25 : decode cX0_sideTowards 25 = .ok (.iinc 3 1, 3) := by decide +kernel
theorem dX0_sideTowards_28 : decode cX0_sideTowards 28 = .ok (.goto (-26), 3) := by decide +kernel
theorem dX0_sideTowards_31 : decode cX0_sideTowards 31 = .ok (.iconst (-1), 1) := by decide +kernel
theorem dX0_sideTowards_32 : decode cX0_sideTowards 32 = .ok (.ireturn, 1) := by decide +kernel
theorem dX0_seamCost_0 : decode cX0_seamCost 0 = .ok (.iload_n 3, 1) := by decide +kernel
theorem dX0_seamCost_1 : decode cX0_seamCost 1 = .ok (.iconst 1, 1) := by decide +kernel
theorem dX0_seamCost_2 : decode cX0_seamCost 2 = .ok (.ishr, 1) := by decide +kernel
theorem dX0_seamCost_3 : decode cX0_seamCost 3 = .ok (.istore 4, 2) := by decide +kernel
theorem dX0_seamCost_5 : decode cX0_seamCost 5 = .ok (.aload_n 0, 1) := by decide +kernel
theorem dX0_seamCost_6 : decode cX0_seamCost 6 = .ok (.getfield 24, 3) := by decide +kernel
theorem dX0_seamCost_9 : decode cX0_seamCost 9 = .ok (.iload_n 2, 1) := by decide +kernel
theorem dX0_seamCost_10 : decode cX0_seamCost 10 = .ok (.iconst 3, 1) := by decide +kernel
theorem dX0_seamCost_11 : decode cX0_seamCost 11 = .ok (.imul, 1) := by decide +kernel
theorem dX0_seamCost_12 : decode cX0_seamCost 12 = .ok (.iload 4, 2) := by decide +kernel
theorem dX0_seamCost_14 : decode cX0_seamCost 14 = .ok (.iadd, 1) := by decide +kernel
theorem dX0_seamCost_15 : decode cX0_seamCost 15 = .ok (.iaload, 1) := by decide +kernel
theorem dX0_seamCost_16 : decode cX0_seamCost 16 = .ok (.iload_n 3, 1) := by decide +kernel
theorem dX0_seamCost_17 : decode cX0_seamCost 17 = .ok (.iconst 1, 1) := by decide +kernel
theorem dX0_seamCost_18 : decode cX0_seamCost 18 = .ok (.iand, 1) := by decide +kernel
theorem dX0_seamCost_19 : decode cX0_seamCost 19 = .ok (.isub, 1) := by decide +kernel
theorem dX0_seamCost_20 : decode cX0_seamCost 20 = .ok (.istore 5, 2) := by decide +kernel
theorem dX0_seamCost_22 : decode cX0_seamCost 22 = .ok (.aload_n 0, 1) := by decide +kernel
theorem dX0_seamCost_23 : decode cX0_seamCost 23 = .ok (.getfield 21, 3) := by decide +kernel
theorem dX0_seamCost_26 : decode cX0_seamCost 26 = .ok (.iload 4, 2) := by decide +kernel
theorem dX0_seamCost_28 : decode cX0_seamCost 28 = .ok (.iaload, 1) := by decide +kernel
theorem dX0_seamCost_29 : decode cX0_seamCost 29 = .ok (.istore 6, 2) := by decide +kernel
theorem dX0_seamCost_31 : decode cX0_seamCost 31 = .ok (.iload_n 1, 1) := by decide +kernel
theorem dX0_seamCost_32 : decode cX0_seamCost 32 = .ok (.iconst 1, 1) := by decide +kernel
theorem dX0_seamCost_33 : decode cX0_seamCost 33 = .ok (.if_icmp .lt 22, 3) := by decide +kernel
theorem dX0_seamCost_36 : decode cX0_seamCost 36 = .ok (.iload 5, 2) := by decide +kernel
theorem dX0_seamCost_38 : decode cX0_seamCost 38 = .ok (.iconst 1, 1) := by decide +kernel
theorem dX0_seamCost_39 : decode cX0_seamCost 39 = .ok (.iand, 1) := by decide +kernel
theorem dX0_seamCost_40 : decode cX0_seamCost 40 = .ok (.iconst 1, 1) := by decide +kernel
theorem dX0_seamCost_41 : decode cX0_seamCost 41 = .ok (.if_icmp .ne 14, 3) := by decide +kernel
theorem dX0_seamCost_44 : decode cX0_seamCost 44 = .ok (.iload 6, 2) := by decide +kernel
theorem dX0_seamCost_46 : decode cX0_seamCost 46 = .ok (.aload_n 0, 1) := by decide +kernel
theorem dX0_seamCost_47 : decode cX0_seamCost 47 = .ok (.getfield 21, 3) := by decide +kernel
theorem dX0_seamCost_50 : decode cX0_seamCost 50 = .ok (.iconst 4, 1) := by decide +kernel
theorem dX0_seamCost_51 : decode cX0_seamCost 51 = .ok (.iaload, 1) := by decide +kernel
theorem dX0_seamCost_52 : decode cX0_seamCost 52 = .ok (.iadd, 1) := by decide +kernel
theorem dX0_seamCost_53 : decode cX0_seamCost 53 = .ok (.istore 6, 2) := by decide +kernel
theorem dX0_seamCost_55 : decode cX0_seamCost 55 = .ok (.iload_n 1, 1) := by decide +kernel
theorem dX0_seamCost_56 : decode cX0_seamCost 56 = .ok (.iconst 2, 1) := by decide +kernel
theorem dX0_seamCost_57 : decode cX0_seamCost 57 = .ok (.if_icmp .lt 17, 3) := by decide +kernel
theorem dX0_seamCost_60 : decode cX0_seamCost 60 = .ok (.iload 6, 2) := by decide +kernel
theorem dX0_seamCost_62 : decode cX0_seamCost 62 = .ok (.aload_n 0, 1) := by decide +kernel
theorem dX0_seamCost_63 : decode cX0_seamCost 63 = .ok (.getfield 21, 3) := by decide +kernel
theorem dX0_seamCost_66 : decode cX0_seamCost 66 = .ok (.iconst 5, 1) := by decide +kernel
theorem dX0_seamCost_67 : decode cX0_seamCost 67 = .ok (.iaload, 1) := by decide +kernel
theorem dX0_seamCost_68 : decode cX0_seamCost 68 = .ok (.invokestatic 54, 3) := by decide +kernel
theorem dX0_seamCost_71 : decode cX0_seamCost 71 = .ok (.goto 5, 3) := by decide +kernel
theorem dX0_seamCost_74 : decode cX0_seamCost 74 = .ok (.iload 6, 2) := by decide +kernel
theorem dX0_seamCost_76 : decode cX0_seamCost 76 = .ok (.ireturn, 1) := by decide +kernel
theorem dX0_ownCost_0 : decode cX0_ownCost 0 = .ok (.aload_n 0, 1) := by decide +kernel
theorem dX0_ownCost_1 : decode cX0_ownCost 1 = .ok (.getfield 18, 3) := by decide +kernel
theorem dX0_ownCost_4 : decode cX0_ownCost 4 = .ok (.iload_n 1, 1) := by decide +kernel
theorem dX0_ownCost_5 : decode cX0_ownCost 5 = .ok (.iaload, 1) := by decide +kernel
theorem dX0_ownCost_6 : decode cX0_ownCost 6 = .ok (.istore_n 2, 1) := by decide +kernel
theorem dX0_ownCost_7 : decode cX0_ownCost 7 = .ok (.iconst 0, 1) := by decide +kernel
theorem dX0_ownCost_8 : decode cX0_ownCost 8 = .ok (.istore_n 3, 1) := by decide +kernel
theorem dX0_ownCost_9 : decode cX0_ownCost 9 = .ok (.iload_n 3, 1) := by decide +kernel
theorem dX0_ownCost_10 : decode cX0_ownCost 10 = .ok (.bipush 6, 2) := by decide +kernel
theorem dX0_ownCost_12 : decode cX0_ownCost 12 = .ok (.if_icmp .ge 33, 3) := by decide +kernel
theorem dX0_ownCost_15 : decode cX0_ownCost 15 = .ok (.aload_n 0, 1) := by decide +kernel
theorem dX0_ownCost_16 : decode cX0_ownCost 16 = .ok (.getfield 27, 3) := by decide +kernel
theorem dX0_ownCost_19 : decode cX0_ownCost 19 = .ok (.iload_n 1, 1) := by decide +kernel
theorem dX0_ownCost_20 : decode cX0_ownCost 20 = .ok (.bipush 6, 2) := by decide +kernel
theorem dX0_ownCost_22 : decode cX0_ownCost 22 = .ok (.imul, 1) := by decide +kernel
theorem dX0_ownCost_23 : decode cX0_ownCost 23 = .ok (.iload_n 3, 1) := by decide +kernel
theorem dX0_ownCost_24 : decode cX0_ownCost 24 = .ok (.iadd, 1) := by decide +kernel
theorem dX0_ownCost_25 : decode cX0_ownCost 25 = .ok (.iaload, 1) := by decide +kernel
theorem dX0_ownCost_26 : decode cX0_ownCost 26 = .ok (.iconst (-1), 1) := by decide +kernel
theorem dX0_ownCost_27 : decode cX0_ownCost 27 = .ok (.if_icmp .ne 12, 3) := by decide +kernel
theorem dX0_ownCost_30 : decode cX0_ownCost 30 = .ok (.iload_n 2, 1) := by decide +kernel
theorem dX0_ownCost_31 : decode cX0_ownCost 31 = .ok (.aload_n 0, 1) := by decide +kernel
theorem dX0_ownCost_32 : decode cX0_ownCost 32 = .ok (.getfield 21, 3) := by decide +kernel
theorem dX0_ownCost_35 : decode cX0_ownCost 35 = .ok (.iconst 3, 1) := by decide +kernel
theorem dX0_ownCost_36 : decode cX0_ownCost 36 = .ok (.iaload, 1) := by decide +kernel
theorem dX0_ownCost_37 : decode cX0_ownCost 37 = .ok (.iadd, 1) := by decide +kernel
theorem dX0_ownCost_38 : decode cX0_ownCost 38 = .ok (.istore_n 2, 1) := by decide +kernel
theorem dX0_ownCost_39 : decode cX0_ownCost 39 = .ok (.iinc 3 1, 3) := by decide +kernel
theorem dX0_ownCost_42 : decode cX0_ownCost 42 = .ok (.goto (-33), 3) := by decide +kernel
theorem dX0_ownCost_45 : decode cX0_ownCost 45 = .ok (.iload_n 2, 1) := by decide +kernel
theorem dX0_ownCost_46 : decode cX0_ownCost 46 = .ok (.ireturn, 1) := by decide +kernel
set_option maxRecDepth 20000 in
theorem ggX0_seamsGrowth_X0_seamCost : GoodIn wsX0_seamsGrowth wsX0_seamCost := goodIn_r _ [7, 8, 2, 9, 10, 11, 12, 16, 17, 18, 19, 20, 21, 22] (by decide +kernel) (by decide +kernel)
set_option maxRecDepth 20000 in
theorem gX0_seamsGrowth_X0_seamCost : GoodIn wsX0_seamsGrowth (wsV RX0 60 RX0 yX0_seamCost wsX0_seamCost) := goodIn_app (goodIn_of _ (by decide +kernel)) ggX0_seamsGrowth_X0_seamCost
set_option maxRecDepth 20000 in
theorem ggX0_seamsGrowth_X0_holds : GoodIn wsX0_seamsGrowth wsX0_holds := goodIn_r _ [15] (by decide +kernel) (by decide +kernel)
set_option maxRecDepth 20000 in
theorem gX0_seamsGrowth_X0_holds : GoodIn wsX0_seamsGrowth (va_wsS RX0 64 yX0_holds wsX0_holds) := goodIn_app (goodIn_of _ (by decide +kernel)) ggX0_seamsGrowth_X0_holds
theorem dX0_seamsGrowth_0 : decode cX0_seamsGrowth 0 = .ok (.iconst 0, 1) := by decide +kernel
theorem dX0_seamsGrowth_1 : decode cX0_seamsGrowth 1 = .ok (.istore 4, 2) := by decide +kernel
theorem dX0_seamsGrowth_3 : decode cX0_seamsGrowth 3 = .ok (.iconst 0, 1) := by decide +kernel
theorem dX0_seamsGrowth_4 : decode cX0_seamsGrowth 4 = .ok (.istore 5, 2) := by decide +kernel
theorem dX0_seamsGrowth_6 : decode cX0_seamsGrowth 6 = .ok (.iload 5, 2) := by decide +kernel
theorem dX0_seamsGrowth_8 : decode cX0_seamsGrowth 8 = .ok (.bipush 6, 2) := by decide +kernel
theorem dX0_seamsGrowth_10 : decode cX0_seamsGrowth 10 = .ok (.if_icmp .ge 67, 3) := by decide +kernel
theorem dX0_seamsGrowth_13 : decode cX0_seamsGrowth 13 = .ok (.aload_n 0, 1) := by decide +kernel
theorem dX0_seamsGrowth_14 : decode cX0_seamsGrowth 14 = .ok (.getfield 27, 3) := by decide +kernel
theorem dX0_seamsGrowth_17 : decode cX0_seamsGrowth 17 = .ok (.iload_n 3, 1) := by decide +kernel
theorem dX0_seamsGrowth_18 : decode cX0_seamsGrowth 18 = .ok (.bipush 6, 2) := by decide +kernel
theorem dX0_seamsGrowth_20 : decode cX0_seamsGrowth 20 = .ok (.imul, 1) := by decide +kernel
theorem dX0_seamsGrowth_21 : decode cX0_seamsGrowth 21 = .ok (.iload 5, 2) := by decide +kernel
theorem dX0_seamsGrowth_23 : decode cX0_seamsGrowth 23 = .ok (.iadd, 1) := by decide +kernel
theorem dX0_seamsGrowth_24 : decode cX0_seamsGrowth 24 = .ok (.iaload, 1) := by decide +kernel
theorem dX0_seamsGrowth_25 : decode cX0_seamsGrowth 25 = .ok (.istore 6, 2) := by decide +kernel
theorem dX0_seamsGrowth_27 : decode cX0_seamsGrowth 27 = .ok (.iload 6, 2) := by decide +kernel
theorem dX0_seamsGrowth_29 : decode cX0_seamsGrowth 29 = .ok (.iconst (-1), 1) := by decide +kernel
theorem dX0_seamsGrowth_30 : decode cX0_seamsGrowth 30 = .ok (.if_icmp .eq 41, 3) := by decide +kernel
theorem dX0_seamsGrowth_33 : decode cX0_seamsGrowth 33 = .ok (.aload_n 0, 1) := by decide +kernel
theorem dX0_seamsGrowth_34 : decode cX0_seamsGrowth 34 = .ok (.aload_n 0, 1) := by decide +kernel
theorem dX0_seamsGrowth_35 : decode cX0_seamsGrowth 35 = .ok (.getfield 21, 3) := by decide +kernel
theorem dX0_seamsGrowth_38 : decode cX0_seamsGrowth 38 = .ok (.bipush 6, 2) := by decide +kernel
theorem dX0_seamsGrowth_40 : decode cX0_seamsGrowth 40 = .ok (.iaload, 1) := by decide +kernel
theorem dX0_seamsGrowth_41 : decode cX0_seamsGrowth 41 = .ok (.iload_n 3, 1) := by decide +kernel
theorem dX0_seamsGrowth_42 : decode cX0_seamsGrowth 42 = .ok (.iload 5, 2) := by decide +kernel
theorem dX0_seamsGrowth_44 : decode cX0_seamsGrowth 44 = .ok (.invokevirtual 60, 3) := by decide +kernel
theorem dX0_seamsGrowth_47 : decode cX0_seamsGrowth 47 = .ok (.istore 7, 2) := by decide +kernel
theorem dX0_seamsGrowth_49 : decode cX0_seamsGrowth 49 = .ok (.iload 4, 2) := by decide +kernel
theorem dX0_seamsGrowth_51 : decode cX0_seamsGrowth 51 = .ok (.lload_n 1, 1) := by decide +kernel
theorem dX0_seamsGrowth_52 : decode cX0_seamsGrowth 52 = .ok (.iload 6, 2) := by decide +kernel
theorem dX0_seamsGrowth_54 : decode cX0_seamsGrowth 54 = .ok (.invokestatic 64, 3) := by decide +kernel
theorem dX0_seamsGrowth_57 : decode cX0_seamsGrowth 57 = .ok (.ifCond .eq 9, 3) := by decide +kernel
theorem dX0_seamsGrowth_60 : decode cX0_seamsGrowth 60 = .ok (.iload 7, 2) := by decide +kernel
theorem dX0_seamsGrowth_62 : decode cX0_seamsGrowth 62 = .ok (.ineg, 1) := by decide +kernel
theorem dX0_seamsGrowth_63 : decode cX0_seamsGrowth 63 = .ok (.goto 5, 3) := by decide +kernel
theorem dX0_seamsGrowth_66 : decode cX0_seamsGrowth 66 = .ok (.iload 7, 2) := by decide +kernel
theorem dX0_seamsGrowth_68 : decode cX0_seamsGrowth 68 = .ok (.iadd, 1) := by decide +kernel
theorem dX0_seamsGrowth_69 : decode cX0_seamsGrowth 69 = .ok (.istore 4, 2) := by decide +kernel
theorem dX0_seamsGrowth_71 : decode cX0_seamsGrowth 71 = .ok (.iinc 5 1, 3) := by decide +kernel
theorem dX0_seamsGrowth_74 : decode cX0_seamsGrowth 74 = .ok (.goto (-68), 3) := by decide +kernel
theorem dX0_seamsGrowth_77 : decode cX0_seamsGrowth 77 = .ok (.iload 4, 2) := by decide +kernel
theorem dX0_seamsGrowth_79 : decode cX0_seamsGrowth 79 = .ok (.ireturn, 1) := by decide +kernel
set_option maxRecDepth 20000 in
theorem ggX0_skinOf_X0_holds : GoodIn wsX0_skinOf wsX0_holds := goodIn_r _ [5] (by decide +kernel) (by decide +kernel)
set_option maxRecDepth 20000 in
theorem gX0_skinOf_X0_holds : GoodIn wsX0_skinOf (va_wsS RX0 64 yX0_holds wsX0_holds) := goodIn_app (goodIn_of _ (by decide +kernel)) ggX0_skinOf_X0_holds
set_option maxRecDepth 20000 in
theorem ggX0_skinOf_X0_skinOfCell : GoodIn wsX0_skinOf wsX0_skinOfCell := goodIn_r _ [9, 10, 11, 2, 3, 4, 5, 12, 13, 14, 15, 16, 17, 18, 19, 20, 21, 22, 23, 24, 25, 26, 27] (by decide +kernel) (by decide +kernel)
set_option maxRecDepth 20000 in
theorem gX0_skinOf_X0_skinOfCell : GoodIn wsX0_skinOf (wsV RX0 68 RX0 yX0_skinOfCell wsX0_skinOfCell) := goodIn_app (goodIn_of _ (by decide +kernel)) ggX0_skinOf_X0_skinOfCell
theorem dX0_skinOf_0 : decode cX0_skinOf 0 = .ok (.lconst 0, 1) := by decide +kernel
theorem dX0_skinOf_1 : decode cX0_skinOf 1 = .ok (.lstore_n 3, 1) := by decide +kernel
theorem dX0_skinOf_2 : decode cX0_skinOf 2 = .ok (.iconst 0, 1) := by decide +kernel
theorem dX0_skinOf_3 : decode cX0_skinOf 3 = .ok (.istore 5, 2) := by decide +kernel
theorem dX0_skinOf_5 : decode cX0_skinOf 5 = .ok (.iload 5, 2) := by decide +kernel
theorem dX0_skinOf_7 : decode cX0_skinOf 7 = .ok (.aload_n 0, 1) := by decide +kernel
theorem dX0_skinOf_8 : decode cX0_skinOf 8 = .ok (.getfield 30, 3) := by decide +kernel
theorem dX0_skinOf_11 : decode cX0_skinOf 11 = .ok (.if_icmp .ge 29, 3) := by decide +kernel
theorem dX0_skinOf_14 : decode cX0_skinOf 14 = .ok (.lload_n 1, 1) := by decide +kernel
theorem dX0_skinOf_15 : decode cX0_skinOf 15 = .ok (.iload 5, 2) := by decide +kernel
theorem dX0_skinOf_17 : decode cX0_skinOf 17 = .ok (.invokestatic 64, 3) := by decide +kernel
theorem dX0_skinOf_20 : decode cX0_skinOf 20 = .ok (.ifCond .eq 14, 3) := by decide +kernel
theorem dX0_skinOf_23 : decode cX0_skinOf 23 = .ok (.lload_n 3, 1) := by decide +kernel
theorem dX0_skinOf_24 : decode cX0_skinOf 24 = .ok (.aload_n 0, 1) := by decide +kernel
theorem dX0_skinOf_25 : decode cX0_skinOf 25 = .ok (.lload_n 1, 1) := by decide +kernel
theorem dX0_skinOf_26 : decode cX0_skinOf 26 = .ok (.iload 5, 2) := by decide +kernel
theorem dX0_skinOf_28 : decode cX0_skinOf 28 = .ok (.invokevirtual 68, 3) := by decide +kernel
theorem dX0_skinOf_31 : decode cX0_skinOf 31 = .ok (.i2l, 1) := by decide +kernel
theorem dX0_skinOf_32 : decode cX0_skinOf 32 = .ok (.ladd, 1) := by decide +kernel
theorem dX0_skinOf_33 : decode cX0_skinOf 33 = .ok (.lstore_n 3, 1) := by decide +kernel
theorem dX0_skinOf_34 : decode cX0_skinOf 34 = .ok (.iinc 5 1, 3) := by decide +kernel
theorem dX0_skinOf_37 : decode cX0_skinOf 37 = .ok (.goto (-32), 3) := by decide +kernel
theorem dX0_skinOf_40 : decode cX0_skinOf 40 = .ok (.lload_n 3, 1) := by decide +kernel
theorem dX0_skinOf_41 : decode cX0_skinOf 41 = .ok (.lreturn, 1) := by decide +kernel
set_option maxRecDepth 20000 in
theorem ggX0_skinOfCell_X0_holds : GoodIn wsX0_skinOfCell wsX0_holds := goodIn_r _ [6] (by decide +kernel) (by decide +kernel)
set_option maxRecDepth 20000 in
theorem gX0_skinOfCell_X0_holds : GoodIn wsX0_skinOfCell (va_wsS RX0 64 yX0_holds wsX0_holds) := goodIn_app (goodIn_of _ (by decide +kernel)) ggX0_skinOfCell_X0_holds
set_option maxRecDepth 20000 in
theorem ggX0_skinOfCell_X0_seamCost : GoodIn wsX0_skinOfCell wsX0_seamCost := goodIn_r _ [10, 11, 2, 12, 13, 14, 15, 16, 17, 18, 19, 20, 21, 22] (by decide +kernel) (by decide +kernel)
set_option maxRecDepth 20000 in
theorem gX0_skinOfCell_X0_seamCost : GoodIn wsX0_skinOfCell (wsV RX0 60 RX0 yX0_seamCost wsX0_seamCost) := goodIn_app (goodIn_of _ (by decide +kernel)) ggX0_skinOfCell_X0_seamCost
theorem dX0_skinOfCell_0 : decode cX0_skinOfCell 0 = .ok (.iconst 0, 1) := by decide +kernel
theorem dX0_skinOfCell_1 : decode cX0_skinOfCell 1 = .ok (.istore 4, 2) := by decide +kernel
theorem dX0_skinOfCell_3 : decode cX0_skinOfCell 3 = .ok (.iconst 0, 1) := by decide +kernel
theorem dX0_skinOfCell_4 : decode cX0_skinOfCell 4 = .ok (.istore 5, 2) := by decide +kernel
theorem dX0_skinOfCell_6 : decode cX0_skinOfCell 6 = .ok (.iload 5, 2) := by decide +kernel
theorem dX0_skinOfCell_8 : decode cX0_skinOfCell 8 = .ok (.bipush 6, 2) := by decide +kernel
theorem dX0_skinOfCell_10 : decode cX0_skinOfCell 10 = .ok (.if_icmp .ge 71, 3) := by decide +kernel
theorem dX0_skinOfCell_13 : decode cX0_skinOfCell 13 = .ok (.aload_n 0, 1) := by decide +kernel
theorem dX0_skinOfCell_14 : decode cX0_skinOfCell 14 = .ok (.getfield 27, 3) := by decide +kernel
theorem dX0_skinOfCell_17 : decode cX0_skinOfCell 17 = .ok (.iload_n 3, 1) := by decide +kernel
theorem dX0_skinOfCell_18 : decode cX0_skinOfCell 18 = .ok (.bipush 6, 2) := by decide +kernel
theorem dX0_skinOfCell_20 : decode cX0_skinOfCell 20 = .ok (.imul, 1) := by decide +kernel
theorem dX0_skinOfCell_21 : decode cX0_skinOfCell 21 = .ok (.iload 5, 2) := by decide +kernel
theorem dX0_skinOfCell_23 : decode cX0_skinOfCell 23 = .ok (.iadd, 1) := by decide +kernel
theorem dX0_skinOfCell_24 : decode cX0_skinOfCell 24 = .ok (.iaload, 1) := by decide +kernel
theorem dX0_skinOfCell_25 : decode cX0_skinOfCell 25 = .ok (.istore 6, 2) := by decide +kernel
theorem dX0_skinOfCell_27 : decode cX0_skinOfCell 27 = .ok (.iload 6, 2) := by decide +kernel
theorem dX0_skinOfCell_29 : decode cX0_skinOfCell 29 = .ok (.iconst (-1), 1) := by decide +kernel
theorem dX0_skinOfCell_30 : decode cX0_skinOfCell 30 = .ok (.if_icmp .ne 17, 3) := by decide +kernel
theorem dX0_skinOfCell_33 : decode cX0_skinOfCell 33 = .ok (.iload 4, 2) := by decide +kernel
theorem dX0_skinOfCell_35 : decode cX0_skinOfCell 35 = .ok (.aload_n 0, 1) := by decide +kernel
theorem dX0_skinOfCell_36 : decode cX0_skinOfCell 36 = .ok (.getfield 21, 3) := by decide +kernel
theorem dX0_skinOfCell_39 : decode cX0_skinOfCell 39 = .ok (.iconst 3, 1) := by decide +kernel
theorem dX0_skinOfCell_40 : decode cX0_skinOfCell 40 = .ok (.iaload, 1) := by decide +kernel
theorem dX0_skinOfCell_41 : decode cX0_skinOfCell 41 = .ok (.iadd, 1) := by decide +kernel
theorem dX0_skinOfCell_42 : decode cX0_skinOfCell 42 = .ok (.istore 4, 2) := by decide +kernel
theorem dX0_skinOfCell_44 : decode cX0_skinOfCell 44 = .ok (.goto 31, 3) := by decide +kernel
theorem dX0_skinOfCell_47 : decode cX0_skinOfCell 47 = .ok (.lload_n 1, 1) := by decide +kernel
theorem dX0_skinOfCell_48 : decode cX0_skinOfCell 48 = .ok (.iload 6, 2) := by decide +kernel
theorem dX0_skinOfCell_50 : decode cX0_skinOfCell 50 = .ok (.invokestatic 64, 3) := by decide +kernel
theorem dX0_skinOfCell_53 : decode cX0_skinOfCell 53 = .ok (.ifCond .ne 22, 3) := by decide +kernel
theorem dX0_skinOfCell_56 : decode cX0_skinOfCell 56 = .ok (.iload 4, 2) := by decide +kernel
theorem dX0_skinOfCell_58 : decode cX0_skinOfCell 58 = .ok (.aload_n 0, 1) := by decide +kernel
theorem dX0_skinOfCell_59 : decode cX0_skinOfCell 59 = .ok (.aload_n 0, 1) := by decide +kernel
theorem dX0_skinOfCell_60 : decode cX0_skinOfCell 60 = .ok (.getfield 21, 3) := by decide +kernel
theorem dX0_skinOfCell_63 : decode cX0_skinOfCell 63 = .ok (.bipush 6, 2) := by decide +kernel
theorem dX0_skinOfCell_65 : decode cX0_skinOfCell 65 = .ok (.iaload, 1) := by decide +kernel
theorem dX0_skinOfCell_66 : decode cX0_skinOfCell 66 = .ok (.iload_n 3, 1) := by decide +kernel
theorem dX0_skinOfCell_67 : decode cX0_skinOfCell 67 = .ok (.iload 5, 2) := by decide +kernel
theorem dX0_skinOfCell_69 : decode cX0_skinOfCell 69 = .ok (.invokevirtual 60, 3) := by decide +kernel
theorem dX0_skinOfCell_72 : decode cX0_skinOfCell 72 = .ok (.iadd, 1) := by decide +kernel
theorem dX0_skinOfCell_73 : decode cX0_skinOfCell 73 = .ok (.istore 4, 2) := by decide +kernel
theorem dX0_skinOfCell_75 : decode cX0_skinOfCell 75 = .ok (.iinc 5 1, 3) := by decide +kernel
theorem dX0_skinOfCell_78 : decode cX0_skinOfCell 78 = .ok (.goto (-72), 3) := by decide +kernel
theorem dX0_skinOfCell_81 : decode cX0_skinOfCell 81 = .ok (.iload 4, 2) := by decide +kernel
theorem dX0_skinOfCell_83 : decode cX0_skinOfCell 83 = .ok (.ireturn, 1) := by decide +kernel
set_option maxRecDepth 20000 in
theorem ggX0_pricesOf_X0_holds : GoodIn wsX0_pricesOf wsX0_holds := goodIn_r _ [6] (by decide +kernel) (by decide +kernel)
set_option maxRecDepth 20000 in
theorem gX0_pricesOf_X0_holds : GoodIn wsX0_pricesOf (va_wsS RX0 64 yX0_holds wsX0_holds) := goodIn_app (goodIn_of _ (by decide +kernel)) ggX0_pricesOf_X0_holds
theorem dX0_pricesOf_0 : decode cX0_pricesOf 0 = .ok (.lconst 0, 1) := by decide +kernel
theorem dX0_pricesOf_1 : decode cX0_pricesOf 1 = .ok (.lstore_n 3, 1) := by decide +kernel
theorem dX0_pricesOf_2 : decode cX0_pricesOf 2 = .ok (.iconst 0, 1) := by decide +kernel
theorem dX0_pricesOf_3 : decode cX0_pricesOf 3 = .ok (.istore 5, 2) := by decide +kernel
theorem dX0_pricesOf_5 : decode cX0_pricesOf 5 = .ok (.iload 5, 2) := by decide +kernel
theorem dX0_pricesOf_7 : decode cX0_pricesOf 7 = .ok (.aload_n 0, 1) := by decide +kernel
theorem dX0_pricesOf_8 : decode cX0_pricesOf 8 = .ok (.getfield 30, 3) := by decide +kernel
theorem dX0_pricesOf_11 : decode cX0_pricesOf 11 = .ok (.if_icmp .ge 29, 3) := by decide +kernel
theorem dX0_pricesOf_14 : decode cX0_pricesOf 14 = .ok (.lload_n 1, 1) := by decide +kernel
theorem dX0_pricesOf_15 : decode cX0_pricesOf 15 = .ok (.iload 5, 2) := by decide +kernel
theorem dX0_pricesOf_17 : decode cX0_pricesOf 17 = .ok (.invokestatic 64, 3) := by decide +kernel
theorem dX0_pricesOf_20 : decode cX0_pricesOf 20 = .ok (.ifCond .eq 14, 3) := by decide +kernel
theorem dX0_pricesOf_23 : decode cX0_pricesOf 23 = .ok (.lload_n 3, 1) := by decide +kernel
theorem dX0_pricesOf_24 : decode cX0_pricesOf 24 = .ok (.aload_n 0, 1) := by decide +kernel
theorem dX0_pricesOf_25 : decode cX0_pricesOf 25 = .ok (.getfield 18, 3) := by decide +kernel
theorem dX0_pricesOf_28 : decode cX0_pricesOf 28 = .ok (.iload 5, 2) := by decide +kernel
theorem dX0_pricesOf_30 : decode cX0_pricesOf 30 = .ok (.iaload, 1) := by decide +kernel
theorem dX0_pricesOf_31 : decode cX0_pricesOf 31 = .ok (.i2l, 1) := by decide +kernel
theorem dX0_pricesOf_32 : decode cX0_pricesOf 32 = .ok (.ladd, 1) := by decide +kernel
theorem dX0_pricesOf_33 : decode cX0_pricesOf 33 = .ok (.lstore_n 3, 1) := by decide +kernel
theorem dX0_pricesOf_34 : decode cX0_pricesOf 34 = .ok (.iinc 5 1, 3) := by decide +kernel
theorem dX0_pricesOf_37 : decode cX0_pricesOf 37 = .ok (.goto (-32), 3) := by decide +kernel
theorem dX0_pricesOf_40 : decode cX0_pricesOf 40 = .ok (.lload_n 3, 1) := by decide +kernel
theorem dX0_pricesOf_41 : decode cX0_pricesOf 41 = .ok (.lreturn, 1) := by decide +kernel
set_option maxRecDepth 20000 in
theorem ggX0_isRight_X0_holds : GoodIn wsX0_isRight wsX0_holds := goodIn_r _ [6] (by decide +kernel) (by decide +kernel)
set_option maxRecDepth 20000 in
theorem gX0_isRight_X0_holds : GoodIn wsX0_isRight (va_wsS RX0 64 yX0_holds wsX0_holds) := goodIn_app (goodIn_of _ (by decide +kernel)) ggX0_isRight_X0_holds
theorem dX0_isRight_0 : decode cX0_isRight 0 = .ok (.iconst 0, 1) := by decide +kernel
theorem dX0_isRight_1 : decode cX0_isRight 1 = .ok (.istore_n 3, 1) := by decide +kernel
theorem dX0_isRight_2 : decode cX0_isRight 2 = .ok (.iload_n 3, 1) := by decide +kernel
theorem dX0_isRight_3 : decode cX0_isRight 3 = .ok (.aload_n 0, 1) := by decide +kernel
theorem dX0_isRight_4 : decode cX0_isRight 4 = .ok (.getfield 30, 3) := by decide +kernel
theorem dX0_isRight_7 : decode cX0_isRight 7 = .ok (.if_icmp .ge 33, 3) := by decide +kernel
theorem dX0_isRight_10 : decode cX0_isRight 10 = .ok (.aload_n 0, 1) := by decide +kernel
theorem dX0_isRight_11 : decode cX0_isRight 11 = .ok (.getfield 15, 3) := by decide +kernel
theorem dX0_isRight_14 : decode cX0_isRight 14 = .ok (.iload_n 3, 1) := by decide +kernel
theorem dX0_isRight_15 : decode cX0_isRight 15 = .ok (.iaload, 1) := by decide +kernel
theorem dX0_isRight_16 : decode cX0_isRight 16 = .ok (.lload_n 1, 1) := by decide +kernel
theorem dX0_isRight_17 : decode cX0_isRight 17 = .ok (.iload_n 3, 1) := by decide +kernel
theorem dX0_isRight_18 : decode cX0_isRight 18 = .ok (.invokestatic 64, 3) := by decide +kernel
theorem dX0_isRight_21 : decode cX0_isRight 21 = .ok (.ifCond .eq 7, 3) := by decide +kernel
theorem dX0_isRight_24 : decode cX0_isRight 24 = .ok (.iconst 2, 1) := by decide +kernel
theorem dX0_isRight_25 : decode cX0_isRight 25 = .ok (.goto 4, 3) := by decide +kernel
theorem dX0_isRight_28 : decode cX0_isRight 28 = .ok (.iconst 1, 1) := by decide +kernel
theorem dX0_isRight_29 : decode cX0_isRight 29 = .ok (.if_icmp .ne 5, 3) := by decide +kernel
theorem dX0_isRight_32 : decode cX0_isRight 32 = .ok (.iconst 0, 1) := by decide +kernel
theorem dX0_isRight_33 : decode cX0_isRight 33 = .ok (.ireturn, 1) := by decide +kernel
theorem dX0_isRight_34 : decode cX0_isRight 34 = .ok (.iinc 3 1, 3) := by decide +kernel
theorem dX0_isRight_37 : decode cX0_isRight 37 = .ok (.goto (-35), 3) := by decide +kernel
theorem dX0_isRight_40 : decode cX0_isRight 40 = .ok (.iconst 1, 1) := by decide +kernel
theorem dX0_isRight_41 : decode cX0_isRight 41 = .ok (.ireturn, 1) := by decide +kernel
theorem dX0_holds_0 : decode cX0_holds 0 = .ok (.lload_n 0, 1) := by decide +kernel
theorem dX0_holds_1 : decode cX0_holds 1 = .ok (.iload_n 2, 1) := by decide +kernel
theorem dX0_holds_2 : decode cX0_holds 2 = .ok (.lshr, 1) := by decide +kernel
theorem dX0_holds_3 : decode cX0_holds 3 = .ok (.lconst 1, 1) := by decide +kernel
theorem dX0_holds_4 : decode cX0_holds 4 = .ok (.land, 1) := by decide +kernel
theorem dX0_holds_5 : decode cX0_holds 5 = .ok (.lconst 1, 1) := by decide +kernel
theorem dX0_holds_6 : decode cX0_holds 6 = .ok (.lcmp, 1) := by decide +kernel
theorem dX0_holds_7 : decode cX0_holds 7 = .ok (.ifCond .ne 7, 3) := by decide +kernel
theorem dX0_holds_10 : decode cX0_holds 10 = .ok (.iconst 1, 1) := by decide +kernel
theorem dX0_holds_11 : decode cX0_holds 11 = .ok (.goto 4, 3) := by decide +kernel
theorem dX0_holds_14 : decode cX0_holds 14 = .ok (.iconst 0, 1) := by decide +kernel
theorem dX0_holds_15 : decode cX0_holds 15 = .ok (.ireturn, 1) := by decide +kernel
theorem dJ7_fill_53178_0 : decode cJ7_fill_53178 0 = .ok (.iconst 0, 1) := by decide +kernel
theorem dJ7_fill_53178_1 : decode cJ7_fill_53178 1 = .ok (.istore_n 2, 1) := by decide +kernel
theorem dJ7_fill_53178_2 : decode cJ7_fill_53178 2 = .ok (.aload_n 0, 1) := by decide +kernel
theorem dJ7_fill_53178_3 : decode cJ7_fill_53178 3 = .ok (.arraylength, 1) := by decide +kernel
theorem dJ7_fill_53178_4 : decode cJ7_fill_53178 4 = .ok (.istore_n 3, 1) := by decide +kernel
theorem dJ7_fill_53178_5 : decode cJ7_fill_53178 5 = .ok (.iload_n 2, 1) := by decide +kernel
theorem dJ7_fill_53178_6 : decode cJ7_fill_53178 6 = .ok (.iload_n 3, 1) := by decide +kernel
theorem dJ7_fill_53178_7 : decode cJ7_fill_53178 7 = .ok (.if_icmp .ge 13, 3) := by decide +kernel
theorem dJ7_fill_53178_10 : decode cJ7_fill_53178 10 = .ok (.aload_n 0, 1) := by decide +kernel
theorem dJ7_fill_53178_11 : decode cJ7_fill_53178 11 = .ok (.iload_n 2, 1) := by decide +kernel
theorem dJ7_fill_53178_12 : decode cJ7_fill_53178 12 = .ok (.iload_n 1, 1) := by decide +kernel
theorem dJ7_fill_53178_13 : decode cJ7_fill_53178 13 = .ok (.iastore, 1) := by decide +kernel
theorem dJ7_fill_53178_14 : decode cJ7_fill_53178 14 = .ok (.iinc 2 1, 3) := by decide +kernel
theorem dJ7_fill_53178_17 : decode cJ7_fill_53178 17 = .ok (.goto (-12), 3) := by decide +kernel
theorem dJ7_fill_53178_20 : decode cJ7_fill_53178 20 = .ok (.return_, 1) := by decide +kernel
end
section
theorem bk_6 : (Int8.ofInt (6)).toInt32 = (6 : Int32) := by decide
theorem hde_X0_every : yX0_every.cls = RX0 ∧ yX0_every.cls ≠ "java/lang/invoke/MethodHandle" ∧ yX0_every.cls ≠ "java/lang/invoke/VarHandle" ∧ (parseMethodDescriptor yX0_every.desc).map (fun d => d.parameters.length) = some 0 := by decide +kernel
abbrev w1X0_has (ad : Nat → Nat) (cA : Nat → ClassId) (C_size : Int32) (u : Unit) : va_W := [((ad 1), .inr (0, [.ref (ad 2), .ref (ad 3), .ref (ad 4), .ref (ad 5), .ref (ad 6), .ref (ad 7), .int C_size]))]
abbrev wcX0_has (ad : Nat → Nat) (cA : Nat → ClassId) (C_size : Int32) : va_W := [((ad 1), .inr (0, [.ref (ad 2), .ref (ad 3), .ref (ad 4), .ref (ad 5), .ref (ad 6), .ref (ad 7), .int C_size]))]
def rmX0_has : Room := { frames := 0, cells := 0, slots := 0, locals := 0 }
abbrev atX0_has_0 (X : gX) (ad : Nat → Nat) (cA : Nat → ClassId) (p1 : Int32) (C_size : Int32) : Prop := gW X 0 0 [((ad 1), .inr (0, [.ref (ad 2), .ref (ad 3), .ref (ad 4), .ref (ad 5), .ref (ad 6), .ref (ad 7), .int C_size]))] 2 [(0, .ref (ad 1)), (1, .int p1)] [] 0
theorem giX0_has_X0 : ∀ w ∈ u_ws RX0 TX0 7, w ∈ wsX0_has := by decide +kernel
theorem gfX0_has_30 : gF wsX0_has RX0 30 0 6 RX0 TX0 7 := ⟨giX0_has_X0, by decide +kernel, rfl, by decide⟩
set_option maxHeartbeats 4000000 in
set_option maxRecDepth 100000 in
theorem sgX0_has_0 {X : gX} {ad : Nat → Nat} {cA : Nat → ClassId} {post : Int32 → (Unit) → Prop} (p1 : Int32) (C_size : Int32) (C : gC X (gT cA) cX0_has 2 RX0 wsX0_has rmX0_has) (E : gEi X (some .boolean) (gT cA) 0 0 post (w1X0_has ad cA C_size)) (h : (p1 < 0 → post (0 : Int32) ()) ∧ (¬ p1 < 0 → (C_size ≤ p1 → post (0 : Int32) ()) ∧ (¬ C_size ≤ p1 → post (1 : Int32) ()))) : atX0_has_0 X ad cA p1 C_size := by
  refine g_iload_n C dX0_has_0 rfl 1 rfl ?_
  refine g_if_lt (tgt := 16) C dX0_has_1 (by decide) (fun c_1 => ?_) (fun c_1 => ?_)
  · replace h := h.1 c_1
    refine g_iconst C dX0_has_16 ik_0 ?_
    exact g_zret C E rfl () h rfl dX0_has_17
  · replace h := h.2 c_1
    refine g_iload_n C dX0_has_4 rfl 1 rfl ?_
    refine g_aload_n C dX0_has_5 rfl 0 rfl ?_
    refine g_get C gfX0_has_30 0 rfl rfl dX0_has_6 ?_
    refine g_icmp_ge (tgt := 16) C dX0_has_9 (by decide) (fun c_2 => ?_) (fun c_2 => ?_)
    · replace h := h.1 c_2
      refine g_iconst C dX0_has_16 ik_0 ?_
      exact g_zret C E rfl () h rfl dX0_has_17
    · replace h := h.2 c_2
      refine g_iconst C dX0_has_12 ik_1 ?_
      refine g_goto (tgt := 17) C dX0_has_13 (by decide) ?_
      exact g_zret C E rfl () h rfl dX0_has_17
def fnX0_has (p1 : Int32) (C_size : Int32) : Bool := (if p1 < 0 then false else (if C_size ≤ p1 then false else true))
set_option maxHeartbeats 4000000 in
set_option maxRecDepth 100000 in
theorem c_X0_has (ad : Nat → Nat) (cA : Nat → ClassId) (p1 : Int32) (C_size : Int32) : ∀ (l : Launch) (D : va_G), gMi (S := Unit) l yX0_has wsX0_has rmX0_has D (gT cA) 0 0 [.ref (ad 1), .int p1] (wcX0_has ad cA C_size) (fun r _ => r = bI (fnX0_has p1 C_size)) (w1X0_has ad cA C_size) := by
  intro l D
  refine g_enteri (cc := cX0_has) (nL := 2) (ret := (some .boolean)) (by decide) rfl (Nat.le_of_ble_eq_true rfl) rfl (fun X C E => sgX0_has_0 p1 C_size C E ?_)
  refine ⟨fun c_3 => ?_, fun c_3 => ?_⟩
  · exact (by unfold fnX0_has; first | rfl | (simp only [if_pos c_3]; done) | (simp only [if_pos c_3]; rfl))
  · refine ⟨fun c_4 => ?_, fun c_4 => ?_⟩
    · exact (by unfold fnX0_has; first | rfl | (simp only [if_neg c_3, if_pos c_4]; done) | (simp only [if_neg c_3, if_pos c_4]; rfl))
    · exact (by unfold fnX0_has; first | rfl | (simp only [if_neg c_3, if_neg c_4]; done) | (simp only [if_neg c_3, if_neg c_4]; rfl))

abbrev w1X0_every (ad : Nat → Nat) (cA : Nat → ClassId) (C_size : Int32) (u : Unit) : va_W := [((ad 1), .inr (0, [.ref (ad 2), .ref (ad 3), .ref (ad 4), .ref (ad 5), .ref (ad 6), .ref (ad 7), .int C_size]))]
abbrev wcX0_every (ad : Nat → Nat) (cA : Nat → ClassId) (C_size : Int32) : va_W := [((ad 1), .inr (0, [.ref (ad 2), .ref (ad 3), .ref (ad 4), .ref (ad 5), .ref (ad 6), .ref (ad 7), .int C_size]))]
def rmX0_every : Room := { frames := 0, cells := 0, slots := 0, locals := 0 }
abbrev atX0_every_0 (X : gX) (ad : Nat → Nat) (cA : Nat → ClassId) (C_size : Int32) : Prop := gW X 0 0 [((ad 1), .inr (0, [.ref (ad 2), .ref (ad 3), .ref (ad 4), .ref (ad 5), .ref (ad 6), .ref (ad 7), .int C_size]))] 1 [(0, .ref (ad 1))] [] 0
theorem giX0_every_X0 : ∀ w ∈ u_ws RX0 TX0 7, w ∈ wsX0_every := by decide +kernel
theorem gfX0_every_30 : gF wsX0_every RX0 30 0 6 RX0 TX0 7 := ⟨giX0_every_X0, by decide +kernel, rfl, by decide⟩
set_option maxHeartbeats 4000000 in
set_option maxRecDepth 100000 in
theorem sgX0_every_0 {X : gX} {ad : Nat → Nat} {cA : Nat → ClassId} {post : Int64 → (Unit) → Prop} (C_size : Int32) (C : gC X (gT cA) cX0_every 1 RX0 wsX0_every rmX0_every) (E : gEl X (some .long) (gT cA) 0 0 post (w1X0_every ad cA C_size)) (h : post (((1 : Int64) <<< (C_size.toInt64 &&& 63)) - (1 : Int64)) ()) : atX0_every_0 X ad cA C_size := by
  refine g_lconst C dX0_every_0 lk_1 ?_
  refine g_aload_n C dX0_every_1 rfl 0 rfl ?_
  refine g_get C gfX0_every_30 0 rfl rfl dX0_every_2 ?_
  refine g_lshl C dX0_every_5 ?_
  refine g_lconst C dX0_every_6 lk_1 ?_
  refine g_lsub C dX0_every_7 ?_
  exact g_lret C E () h rfl dX0_every_8
def fnX0_every (C_size : Int32) : Int64 := (((1 : Int64) <<< (C_size.toInt64 &&& 63)) - (1 : Int64))
set_option maxHeartbeats 4000000 in
set_option maxRecDepth 100000 in
theorem c_X0_every (ad : Nat → Nat) (cA : Nat → ClassId) (C_size : Int32) : ∀ (l : Launch) (D : va_G), gMl (S := Unit) l yX0_every wsX0_every rmX0_every D (gT cA) 0 0 [.ref (ad 1)] (wcX0_every ad cA C_size) (fun r _ => r = fnX0_every C_size) (w1X0_every ad cA C_size) := by
  intro l D
  refine g_enterl (cc := cX0_every) (nL := 1) (ret := (some .long)) (by decide) rfl (Nat.le_of_ble_eq_true rfl) rfl (fun X C E => sgX0_every_0 C_size C E ?_)
  exact (by unfold fnX0_every; first | rfl | (simp only []; done) | (simp only []; rfl))

abbrev w1X0_holds (ad : Nat → Nat) (cA : Nat → ClassId) (u : Unit) : va_W := []
abbrev wcX0_holds (ad : Nat → Nat) (cA : Nat → ClassId) : va_W := []
def rmX0_holds : Room := { frames := 0, cells := 0, slots := 0, locals := 0 }
abbrev atX0_holds_0 (X : gX) (ad : Nat → Nat) (cA : Nat → ClassId) (p1 : Int64) (p2 : Int32) : Prop := gW X 0 0 [] 3 [(0, .long p1), (2, .int p2)] [] 0
set_option maxHeartbeats 4000000 in
set_option maxRecDepth 100000 in
theorem sgX0_holds_0 {X : gX} {ad : Nat → Nat} {cA : Nat → ClassId} {post : Int32 → (Unit) → Prop} (p1 : Int64) (p2 : Int32) (C : gC X (gT cA) cX0_holds 3 RX0 wsX0_holds rmX0_holds) (E : gEi X (some .boolean) (gT cA) 0 0 post (w1X0_holds ad cA)) (h : (¬ ((p1 >>> (p2.toInt64 &&& 63)) &&& (1 : Int64)) = (1 : Int64) → post (0 : Int32) ()) ∧ (((p1 >>> (p2.toInt64 &&& 63)) &&& (1 : Int64)) = (1 : Int64) → post (1 : Int32) ())) : atX0_holds_0 X ad cA p1 p2 := by
  refine g_lload_n C dX0_holds_0 rfl 0 rfl ?_
  refine g_iload_n C dX0_holds_1 rfl 1 rfl ?_
  refine g_lshr C dX0_holds_2 ?_
  refine g_lconst C dX0_holds_3 lk_1 ?_
  refine g_land C dX0_holds_4 ?_
  refine g_lconst C dX0_holds_5 lk_1 ?_
  refine g_lcmp_ne (tgt := 14) C dX0_holds_6 dX0_holds_7 rfl (by decide) (fun c_1 => ?_) (fun c_1 => ?_)
  · replace h := h.1 c_1
    refine g_iconst C dX0_holds_14 ik_0 ?_
    exact g_zret C E rfl () h rfl dX0_holds_15
  · replace h := h.2 c_1
    refine g_iconst C dX0_holds_10 ik_1 ?_
    refine g_goto (tgt := 15) C dX0_holds_11 (by decide) ?_
    exact g_zret C E rfl () h rfl dX0_holds_15
def fnX0_holds (p1 : Int64) (p2 : Int32) : Bool := (if ((p1 >>> (p2.toInt64 &&& 63)) &&& (1 : Int64)) = (1 : Int64) then true else false)
set_option maxHeartbeats 4000000 in
set_option maxRecDepth 100000 in
theorem c_X0_holds (ad : Nat → Nat) (cA : Nat → ClassId) (p1 : Int64) (p2 : Int32) : ∀ (l : Launch) (D : va_G), gMi (S := Unit) l yX0_holds wsX0_holds rmX0_holds D (gT cA) 0 0 [.long p1, .int p2] (wcX0_holds ad cA) (fun r _ => r = bI (fnX0_holds p1 p2)) (w1X0_holds ad cA) := by
  intro l D
  refine g_enteri (cc := cX0_holds) (nL := 3) (ret := (some .boolean)) (by decide) rfl (Nat.le_of_ble_eq_true rfl) rfl (fun X C E => sgX0_holds_0 p1 p2 C E ?_)
  refine ⟨fun c_2 => ?_, fun c_2 => ?_⟩
  · exact (by unfold fnX0_holds; first | rfl | (simp only [if_neg c_2]; done) | (simp only [if_neg c_2]; rfl))
  · exact (by unfold fnX0_holds; first | rfl | (simp only [if_pos c_2]; done) | (simp only [if_pos c_2]; rfl))

abbrev w1X0_isSet (ad : Nat → Nat) (cA : Nat → ClassId) (C_size : Int32) (u : Unit) : va_W := [((ad 1), .inr (0, [.ref (ad 2), .ref (ad 3), .ref (ad 4), .ref (ad 5), .ref (ad 6), .ref (ad 7), .int C_size]))]
abbrev wcX0_isSet (ad : Nat → Nat) (cA : Nat → ClassId) (C_size : Int32) : va_W := [((ad 1), .inr (0, [.ref (ad 2), .ref (ad 3), .ref (ad 4), .ref (ad 5), .ref (ad 6), .ref (ad 7), .int C_size]))]
def rmX0_isSet : Room := { frames := 1, cells := 0, slots := 0, locals := 20 }
abbrev atX0_isSet_0 (X : gX) (ad : Nat → Nat) (cA : Nat → ClassId) (p1 : Int64) (C_size : Int32) : Prop := gW X 0 0 [((ad 1), .inr (0, [.ref (ad 2), .ref (ad 3), .ref (ad 4), .ref (ad 5), .ref (ad 6), .ref (ad 7), .int C_size]))] 3 [(0, .ref (ad 1)), (1, .long p1)] [] 0
theorem cnX0_isSet_52 : Cond.constantLong RX0 52 (-1) ∈ wsX0_isSet := by decide +kernel
set_option maxHeartbeats 4000000 in
set_option maxRecDepth 100000 in
theorem sgX0_isSet_0 {X : gX} {ad : Nat → Nat} {cA : Nat → ClassId} {post : Int32 → (Unit) → Prop} (p1 : Int64) (C_size : Int32) (C : gC X (gT cA) cX0_isSet 3 RX0 wsX0_isSet rmX0_isSet) (E : gEi X (some .boolean) (gT cA) 0 0 post (w1X0_isSet ad cA C_size)) (h : (¬ (p1 &&& ((fnX0_every C_size) ^^^ (-1 : Int64))) = (0 : Int64) → post (0 : Int32) ()) ∧ ((p1 &&& ((fnX0_every C_size) ^^^ (-1 : Int64))) = (0 : Int64) → post (1 : Int32) ())) : atX0_isSet_0 X ad cA p1 C_size := by
  refine g_lload_n C dX0_isSet_0 rfl 1 rfl ?_
  refine g_aload_n C dX0_isSet_1 rfl 0 rfl ?_
  refine g_callVl (wr := []) C (c_X0_every ad cA C_size) gX0_isSet_X0_every rfl hde_X0_every ⟨rfl, rfl⟩ (by decide) (by decide) [0] [] [0] rfl rfl rfl rfl (by decide) rfl (ws2 := fun u => [((ad 1), .inr (0, [.ref (ad 2), .ref (ad 3), .ref (ad 4), .ref (ad 5), .ref (ad 6), .ref (ad 7), .int C_size]))]) (fun _ => rfl) 0 0 rfl rfl rfl (rest := [.long p1]) rfl (Nat.le_of_ble_eq_true rfl) dX0_isSet_2 (fun r_1 u_1 hp_1 => ?_)
  subst hp_1
  change gW X 0 0 [((ad 1), .inr (0, [.ref (ad 2), .ref (ad 3), .ref (ad 4), .ref (ad 5), .ref (ad 6), .ref (ad 7), .int C_size]))] 3 [(0, .ref (ad 1)), (1, .long p1)] [.long (fnX0_every C_size), .long p1] 5
  refine g_ldc2_w C cnX0_isSet_52 dX0_isSet_5 ?_
  refine g_lxor C dX0_isSet_8 ?_
  refine g_land C dX0_isSet_9 ?_
  refine g_lconst C dX0_isSet_10 lk_0 ?_
  refine g_lcmp_ne (tgt := 19) C dX0_isSet_11 dX0_isSet_12 rfl (by decide) (fun c_2 => ?_) (fun c_2 => ?_)
  · replace h := h.1 c_2
    refine g_iconst C dX0_isSet_19 ik_0 ?_
    exact g_zret C E rfl () h rfl dX0_isSet_20
  · replace h := h.2 c_2
    refine g_iconst C dX0_isSet_15 ik_1 ?_
    refine g_goto (tgt := 20) C dX0_isSet_16 (by decide) ?_
    exact g_zret C E rfl () h rfl dX0_isSet_20
def fnX0_isSet (p1 : Int64) (C_size : Int32) : Bool := (if (p1 &&& ((fnX0_every C_size) ^^^ (-1 : Int64))) = (0 : Int64) then true else false)
set_option maxHeartbeats 4000000 in
set_option maxRecDepth 100000 in
theorem c_X0_isSet (ad : Nat → Nat) (cA : Nat → ClassId) (p1 : Int64) (C_size : Int32) : ∀ (l : Launch) (D : va_G), gMi (S := Unit) l yX0_isSet wsX0_isSet rmX0_isSet D (gT cA) 0 0 [.ref (ad 1), .long p1] (wcX0_isSet ad cA C_size) (fun r _ => r = bI (fnX0_isSet p1 C_size)) (w1X0_isSet ad cA C_size) := by
  intro l D
  refine g_enteri (cc := cX0_isSet) (nL := 3) (ret := (some .boolean)) (by decide) rfl (Nat.le_of_ble_eq_true rfl) rfl (fun X C E => sgX0_isSet_0 p1 C_size C E ?_)
  refine ⟨fun c_4 => ?_, fun c_4 => ?_⟩
  · exact (by unfold fnX0_isSet; first | rfl | (simp only [if_neg c_4]; done) | (simp only [if_neg c_4]; rfl))
  · exact (by unfold fnX0_isSet; first | rfl | (simp only [if_pos c_4]; done) | (simp only [if_pos c_4]; rfl))

abbrev w1X0_seamCost (ad : Nat → Nat) (cA : Nat → ClassId) (C_size : Int32) (C_rules : Nat → Int32) (C_places : Nat → Int32) (u : Unit) : va_W := [((ad 1), .inr (0, [.ref (ad 2), .ref (ad 3), .ref (ad 4), .ref (ad 5), .ref (ad 6), .ref (ad 7), .int C_size])), ((ad 5), .inl (cA 0, 7, .inl C_rules)), ((ad 6), .inl (cA 0, 108, .inl C_places))]
abbrev wcX0_seamCost (ad : Nat → Nat) (cA : Nat → ClassId) (C_size : Int32) (C_rules : Nat → Int32) (C_places : Nat → Int32) : va_W := [((ad 1), .inr (0, [.ref (ad 2), .ref (ad 3), .ref (ad 4), .ref (ad 5), .ref (ad 6), .ref (ad 7), .int C_size])), ((ad 5), .inl (cA 0, 7, .inl C_rules)), ((ad 6), .inl (cA 0, 108, .inl C_places))]
def rmX0_seamCost : Room := { frames := 1, cells := 0, slots := 0, locals := 13 }
abbrev atX0_seamCost_0 (X : gX) (ad : Nat → Nat) (cA : Nat → ClassId) (p1 : Int32) (p2 : Int32) (p3 : Int32) (C_size : Int32) (C_rules : Nat → Int32) (C_places : Nat → Int32) : Prop := gW X 0 0 [((ad 1), .inr (0, [.ref (ad 2), .ref (ad 3), .ref (ad 4), .ref (ad 5), .ref (ad 6), .ref (ad 7), .int C_size])), ((ad 5), .inl (cA 0, 7, .inl C_rules)), ((ad 6), .inl (cA 0, 108, .inl C_places))] 7 [(0, .ref (ad 1)), (1, .int p1), (2, .int p2), (3, .int p3)] [] 0
theorem mmX0_seamCost_54a : Cond.methodLink RX0 54 Lib.Math.min.name ∈ wsX0_seamCost := by decide +kernel
theorem mmX0_seamCost_54b : Cond.static Lib.Math.min.name ∈ wsX0_seamCost := by decide +kernel
theorem mmX0_seamCost_54c : Cond.initialized "java/lang/Math" ∈ wsX0_seamCost := by decide +kernel
theorem mmX0_seamCost_54d : Cond.code Lib.Math.min.name Lib.Math.min.code 2 (some .int) ∈ wsX0_seamCost := by decide +kernel
theorem giX0_seamCost_X0 : ∀ w ∈ u_ws RX0 TX0 7, w ∈ wsX0_seamCost := by decide +kernel
theorem gfX0_seamCost_24 : gF wsX0_seamCost RX0 24 0 4 RX0 TX0 7 := ⟨giX0_seamCost_X0, by decide +kernel, rfl, by decide⟩
theorem gfX0_seamCost_21 : gF wsX0_seamCost RX0 21 0 3 RX0 TX0 7 := ⟨giX0_seamCost_X0, by decide +kernel, rfl, by decide⟩
set_option maxHeartbeats 4000000 in
set_option maxRecDepth 100000 in
theorem sgX0_seamCost_0 {X : gX} {ad : Nat → Nat} {cA : Nat → ClassId} {post : Int32 → (Unit) → Prop} (p1 : Int32) (p2 : Int32) (p3 : Int32) (C_size : Int32) (C_rules : Nat → Int32) (C_places : Nat → Int32) (C : gC X (gT cA) cX0_seamCost 7 RX0 wsX0_seamCost rmX0_seamCost) (E : gEi X (some .int) (gT cA) 0 0 post (w1X0_seamCost ad cA C_size C_rules C_places)) (h : vp_in ((p2 * (3 : Int32)) + (p3 >>> ((1 : Int32) &&& 31))) 108 ∧ vp_in (p3 >>> ((1 : Int32) &&& 31)) 7 ∧ ((p1 < (1 : Int32) → True) ∧ (¬ p1 < (1 : Int32) → (¬ (((C_places ((p2 * (3 : Int32)) + (p3 >>> ((1 : Int32) &&& 31))).toNatClampNeg) - (p3 &&& (1 : Int32))) &&& (1 : Int32)) = (1 : Int32) → True) ∧ ((((C_places ((p2 * (3 : Int32)) + (p3 >>> ((1 : Int32) &&& 31))).toNatClampNeg) - (p3 &&& (1 : Int32))) &&& (1 : Int32)) = (1 : Int32) → vp_in (4 : Int32) 7))) ∧ (p1 < (2 : Int32) → post (if p1 < (1 : Int32) then (C_rules (p3 >>> ((1 : Int32) &&& 31)).toNatClampNeg) else (if (((C_places ((p2 * (3 : Int32)) + (p3 >>> ((1 : Int32) &&& 31))).toNatClampNeg) - (p3 &&& (1 : Int32))) &&& (1 : Int32)) = (1 : Int32) then ((C_rules (p3 >>> ((1 : Int32) &&& 31)).toNatClampNeg) + (C_rules (4 : Int32).toNatClampNeg)) else (C_rules (p3 >>> ((1 : Int32) &&& 31)).toNatClampNeg))) ()) ∧ (¬ p1 < (2 : Int32) → vp_in (5 : Int32) 7 ∧ post (if (C_rules (5 : Int32).toNatClampNeg) < (if p1 < (1 : Int32) then (C_rules (p3 >>> ((1 : Int32) &&& 31)).toNatClampNeg) else (if (((C_places ((p2 * (3 : Int32)) + (p3 >>> ((1 : Int32) &&& 31))).toNatClampNeg) - (p3 &&& (1 : Int32))) &&& (1 : Int32)) = (1 : Int32) then ((C_rules (p3 >>> ((1 : Int32) &&& 31)).toNatClampNeg) + (C_rules (4 : Int32).toNatClampNeg)) else (C_rules (p3 >>> ((1 : Int32) &&& 31)).toNatClampNeg))) then (C_rules (5 : Int32).toNatClampNeg) else (if p1 < (1 : Int32) then (C_rules (p3 >>> ((1 : Int32) &&& 31)).toNatClampNeg) else (if (((C_places ((p2 * (3 : Int32)) + (p3 >>> ((1 : Int32) &&& 31))).toNatClampNeg) - (p3 &&& (1 : Int32))) &&& (1 : Int32)) = (1 : Int32) then ((C_rules (p3 >>> ((1 : Int32) &&& 31)).toNatClampNeg) + (C_rules (4 : Int32).toNatClampNeg)) else (C_rules (p3 >>> ((1 : Int32) &&& 31)).toNatClampNeg)))) ())) : atX0_seamCost_0 X ad cA p1 p2 p3 C_size C_rules C_places := by
  refine g_iload_n C dX0_seamCost_0 rfl 3 rfl ?_
  refine g_iconst C dX0_seamCost_1 ik_1 ?_
  refine g_ishr C dX0_seamCost_2 ?_
  refine g_istore (lv2 := [(0, .ref (ad 1)), (1, .int p1), (2, .int p2), (3, .int p3), (4, .int (p3 >>> ((1 : Int32) &&& 31)))]) C dX0_seamCost_3 (by decide) [1, 2, 3, 4, 0] rfl ?_
  refine g_aload_n C dX0_seamCost_5 rfl 0 rfl ?_
  refine g_get C gfX0_seamCost_24 0 rfl rfl dX0_seamCost_6 ?_
  refine g_iload_n C dX0_seamCost_9 rfl 2 rfl ?_
  refine g_iconst C dX0_seamCost_10 ik_3 ?_
  refine g_imul C dX0_seamCost_11 ?_
  refine g_iload C dX0_seamCost_12 4 rfl ?_
  refine g_iadd C dX0_seamCost_14 ?_
  obtain ⟨hi_1, h⟩ := h
  refine g_iald C 2 0 rfl rfl hi_1 dX0_seamCost_15 ?_
  refine g_iload_n C dX0_seamCost_16 rfl 3 rfl ?_
  refine g_iconst C dX0_seamCost_17 ik_1 ?_
  refine g_iand C dX0_seamCost_18 ?_
  refine g_isub C dX0_seamCost_19 ?_
  refine g_istore (lv2 := [(0, .ref (ad 1)), (1, .int p1), (2, .int p2), (3, .int p3), (4, .int (p3 >>> ((1 : Int32) &&& 31))), (5, .int ((C_places ((p2 * (3 : Int32)) + (p3 >>> ((1 : Int32) &&& 31))).toNatClampNeg) - (p3 &&& (1 : Int32))))]) C dX0_seamCost_20 (by decide) [1, 2, 3, 4, 5, 0] rfl ?_
  refine g_aload_n C dX0_seamCost_22 rfl 0 rfl ?_
  refine g_get C gfX0_seamCost_21 0 rfl rfl dX0_seamCost_23 ?_
  refine g_iload C dX0_seamCost_26 4 rfl ?_
  obtain ⟨hi_2, h⟩ := h
  refine g_iald C 1 0 rfl rfl hi_2 dX0_seamCost_28 ?_
  refine g_istore (lv2 := [(0, .ref (ad 1)), (1, .int p1), (2, .int p2), (3, .int p3), (4, .int (p3 >>> ((1 : Int32) &&& 31))), (5, .int ((C_places ((p2 * (3 : Int32)) + (p3 >>> ((1 : Int32) &&& 31))).toNatClampNeg) - (p3 &&& (1 : Int32)))), (6, .int (C_rules (p3 >>> ((1 : Int32) &&& 31)).toNatClampNeg))]) C dX0_seamCost_29 (by decide) [1, 2, 3, 4, 5, 6, 0] rfl ?_
  refine g_iload_n C dX0_seamCost_31 rfl 1 rfl ?_
  refine g_iconst C dX0_seamCost_32 ik_1 ?_
  obtain ⟨hr_55, h⟩ := h
  have key : gW X 0 0 [((ad 1), .inr (0, [.ref (ad 2), .ref (ad 3), .ref (ad 4), .ref (ad 5), .ref (ad 6), .ref (ad 7), .int C_size])), ((ad 5), .inl (cA 0, 7, .inl C_rules)), ((ad 6), .inl (cA 0, 108, .inl C_places))] 7 [(0, .ref (ad 1)), (1, .int p1), (2, .int p2), (3, .int p3), (4, .int (p3 >>> ((1 : Int32) &&& 31))), (5, .int ((C_places ((p2 * (3 : Int32)) + (p3 >>> ((1 : Int32) &&& 31))).toNatClampNeg) - (p3 &&& (1 : Int32)))), (6, .int (if p1 < (1 : Int32) then (C_rules (p3 >>> ((1 : Int32) &&& 31)).toNatClampNeg) else (if (((C_places ((p2 * (3 : Int32)) + (p3 >>> ((1 : Int32) &&& 31))).toNatClampNeg) - (p3 &&& (1 : Int32))) &&& (1 : Int32)) = (1 : Int32) then ((C_rules (p3 >>> ((1 : Int32) &&& 31)).toNatClampNeg) + (C_rules (4 : Int32).toNatClampNeg)) else (C_rules (p3 >>> ((1 : Int32) &&& 31)).toNatClampNeg))))] [] 55 := by
    refine g_iload_n C dX0_seamCost_55 rfl 1 rfl ?_
    refine g_iconst C dX0_seamCost_56 ik_2 ?_
    refine g_icmp_lt (tgt := 74) C dX0_seamCost_57 (by decide) (fun c_6 => ?_) (fun c_6 => ?_)
    · replace h := h.1 c_6
      refine g_iload C dX0_seamCost_74 6 rfl ?_
      exact g_iret C E () h rfl dX0_seamCost_76
    · replace h := h.2 c_6
      refine g_iload C dX0_seamCost_60 6 rfl ?_
      refine g_aload_n C dX0_seamCost_62 rfl 0 rfl ?_
      refine g_get C gfX0_seamCost_21 0 rfl rfl dX0_seamCost_63 ?_
      refine g_iconst C dX0_seamCost_66 ik_5 ?_
      obtain ⟨hi_7, h⟩ := h
      refine g_iald C 1 0 rfl rfl hi_7 dX0_seamCost_67 ?_
      refine g_mmin C mmX0_seamCost_54a mmX0_seamCost_54b mmX0_seamCost_54c mmX0_seamCost_54d (by decide) (by decide) (by decide) (by decide) dX0_seamCost_68 ?_
      refine g_goto (tgt := 76) C dX0_seamCost_71 (by decide) ?_
      exact g_iret C E () h rfl dX0_seamCost_76
  replace h := hr_55
  refine g_icmp_lt (tgt := 55) C dX0_seamCost_33 (by decide) (fun c_3 => ?_) (fun c_3 => ?_)
  · replace h := h.1 c_3
    exact g_leaf (by simp only [if_pos c_3] at key; exact key)
  · replace h := h.2 c_3
    refine g_iload C dX0_seamCost_36 5 rfl ?_
    refine g_iconst C dX0_seamCost_38 ik_1 ?_
    refine g_iand C dX0_seamCost_39 ?_
    refine g_iconst C dX0_seamCost_40 ik_1 ?_
    have hr_55 := h
    have key : gW X 0 0 [((ad 1), .inr (0, [.ref (ad 2), .ref (ad 3), .ref (ad 4), .ref (ad 5), .ref (ad 6), .ref (ad 7), .int C_size])), ((ad 5), .inl (cA 0, 7, .inl C_rules)), ((ad 6), .inl (cA 0, 108, .inl C_places))] 7 [(0, .ref (ad 1)), (1, .int p1), (2, .int p2), (3, .int p3), (4, .int (p3 >>> ((1 : Int32) &&& 31))), (5, .int ((C_places ((p2 * (3 : Int32)) + (p3 >>> ((1 : Int32) &&& 31))).toNatClampNeg) - (p3 &&& (1 : Int32)))), (6, .int (if (((C_places ((p2 * (3 : Int32)) + (p3 >>> ((1 : Int32) &&& 31))).toNatClampNeg) - (p3 &&& (1 : Int32))) &&& (1 : Int32)) = (1 : Int32) then ((C_rules (p3 >>> ((1 : Int32) &&& 31)).toNatClampNeg) + (C_rules (4 : Int32).toNatClampNeg)) else (C_rules (p3 >>> ((1 : Int32) &&& 31)).toNatClampNeg)))] [] 55 := by
      exact g_leaf (by simp only [if_neg c_3] at key; exact key)
    replace h := hr_55
    refine g_icmp_ne (tgt := 55) C dX0_seamCost_41 (by decide) (fun c_4 => ?_) (fun c_4 => ?_)
    · replace h := h.1 c_4
      exact g_leaf (by simp only [if_neg c_4] at key; exact key)
    · replace h := h.2 c_4
      refine g_iload C dX0_seamCost_44 6 rfl ?_
      refine g_aload_n C dX0_seamCost_46 rfl 0 rfl ?_
      refine g_get C gfX0_seamCost_21 0 rfl rfl dX0_seamCost_47 ?_
      refine g_iconst C dX0_seamCost_50 ik_4 ?_
      have hi_5 := h
      refine g_iald C 1 0 rfl rfl hi_5 dX0_seamCost_51 ?_
      refine g_iadd C dX0_seamCost_52 ?_
      refine g_istore (lv2 := [(0, .ref (ad 1)), (1, .int p1), (2, .int p2), (3, .int p3), (4, .int (p3 >>> ((1 : Int32) &&& 31))), (5, .int ((C_places ((p2 * (3 : Int32)) + (p3 >>> ((1 : Int32) &&& 31))).toNatClampNeg) - (p3 &&& (1 : Int32)))), (6, .int ((C_rules (p3 >>> ((1 : Int32) &&& 31)).toNatClampNeg) + (C_rules (4 : Int32).toNatClampNeg)))]) C dX0_seamCost_53 (by decide) [1, 2, 3, 4, 5, 6, 0] rfl ?_
      exact g_leaf (by simp only [if_pos c_4] at key; exact key)
def fnX0_seamCost (p1 : Int32) (p2 : Int32) (p3 : Int32) (C_size : Int32) (C_rules : Nat → Int32) (C_places : Nat → Int32) : Int32 := (if p1 < (2 : Int32) then (if p1 < (1 : Int32) then (C_rules (p3 >>> ((1 : Int32) &&& 31)).toNatClampNeg) else (if (((C_places ((p2 * (3 : Int32)) + (p3 >>> ((1 : Int32) &&& 31))).toNatClampNeg) - (p3 &&& (1 : Int32))) &&& (1 : Int32)) = (1 : Int32) then ((C_rules (p3 >>> ((1 : Int32) &&& 31)).toNatClampNeg) + (C_rules (4 : Int32).toNatClampNeg)) else (C_rules (p3 >>> ((1 : Int32) &&& 31)).toNatClampNeg))) else (if (C_rules (5 : Int32).toNatClampNeg) < (if p1 < (1 : Int32) then (C_rules (p3 >>> ((1 : Int32) &&& 31)).toNatClampNeg) else (if (((C_places ((p2 * (3 : Int32)) + (p3 >>> ((1 : Int32) &&& 31))).toNatClampNeg) - (p3 &&& (1 : Int32))) &&& (1 : Int32)) = (1 : Int32) then ((C_rules (p3 >>> ((1 : Int32) &&& 31)).toNatClampNeg) + (C_rules (4 : Int32).toNatClampNeg)) else (C_rules (p3 >>> ((1 : Int32) &&& 31)).toNatClampNeg))) then (C_rules (5 : Int32).toNatClampNeg) else (if p1 < (1 : Int32) then (C_rules (p3 >>> ((1 : Int32) &&& 31)).toNatClampNeg) else (if (((C_places ((p2 * (3 : Int32)) + (p3 >>> ((1 : Int32) &&& 31))).toNatClampNeg) - (p3 &&& (1 : Int32))) &&& (1 : Int32)) = (1 : Int32) then ((C_rules (p3 >>> ((1 : Int32) &&& 31)).toNatClampNeg) + (C_rules (4 : Int32).toNatClampNeg)) else (C_rules (p3 >>> ((1 : Int32) &&& 31)).toNatClampNeg)))))
def prX0_seamCost (p1 : Int32) (p2 : Int32) (p3 : Int32) (C_size : Int32) (C_rules : Nat → Int32) (C_places : Nat → Int32) : Prop := vp_in ((p2 * (3 : Int32)) + (p3 >>> ((1 : Int32) &&& 31))) 108 ∧ vp_in (p3 >>> ((1 : Int32) &&& 31)) 7 ∧ ((p1 < (1 : Int32) → True) ∧ (¬ p1 < (1 : Int32) → (¬ (((C_places ((p2 * (3 : Int32)) + (p3 >>> ((1 : Int32) &&& 31))).toNatClampNeg) - (p3 &&& (1 : Int32))) &&& (1 : Int32)) = (1 : Int32) → True) ∧ ((((C_places ((p2 * (3 : Int32)) + (p3 >>> ((1 : Int32) &&& 31))).toNatClampNeg) - (p3 &&& (1 : Int32))) &&& (1 : Int32)) = (1 : Int32) → vp_in (4 : Int32) 7))) ∧ (p1 < (2 : Int32) → True) ∧ (¬ p1 < (2 : Int32) → vp_in (5 : Int32) 7)
set_option maxHeartbeats 4000000 in
set_option maxRecDepth 100000 in
theorem c_X0_seamCost (ad : Nat → Nat) (cA : Nat → ClassId) (p1 : Int32) (p2 : Int32) (p3 : Int32) (C_size : Int32) (C_rules : Nat → Int32) (C_places : Nat → Int32) (hq : prX0_seamCost p1 p2 p3 C_size C_rules C_places) : ∀ (l : Launch) (D : va_G), gMi (S := Unit) l yX0_seamCost wsX0_seamCost rmX0_seamCost D (gT cA) 0 0 [.ref (ad 1), .int p1, .int p2, .int p3] (wcX0_seamCost ad cA C_size C_rules C_places) (fun r _ => r = fnX0_seamCost p1 p2 p3 C_size C_rules C_places) (w1X0_seamCost ad cA C_size C_rules C_places) := by
  intro l D
  refine g_enteri (cc := cX0_seamCost) (nL := 7) (ret := (some .int)) (by decide) rfl (Nat.le_of_ble_eq_true rfl) rfl (fun X C E => sgX0_seamCost_0 p1 p2 p3 C_size C_rules C_places C E ?_)
  unfold prX0_seamCost at hq
  refine ⟨hq.1, ?_⟩
  replace hq := hq.2
  refine ⟨hq.1, ?_⟩
  replace hq := hq.2
  refine ⟨hq.1, ?_⟩
  replace hq := hq.2
  refine ⟨fun c_13 => ?_, fun c_13 => ?_⟩
  · replace hq := hq.1 c_13
    exact (by unfold fnX0_seamCost; first | rfl | (simp only [if_pos c_13]; done) | (simp only [if_pos c_13]; rfl))
  · replace hq := hq.2 c_13
    refine ⟨hq, ?_⟩
    exact (by unfold fnX0_seamCost; first | rfl | (simp only [if_neg c_13]; done) | (simp only [if_neg c_13]; rfl))

abbrev w1X0_freeCells (ad : Nat → Nat) (cA : Nat → ClassId) (C_size : Int32) (C_held : Nat → Int32) (u : Unit) : va_W := [((ad 1), .inr (0, [.ref (ad 2), .ref (ad 3), .ref (ad 4), .ref (ad 5), .ref (ad 6), .ref (ad 7), .int C_size])), ((ad 3), .inl (cA 0, 36, .inl C_held))]
abbrev wcX0_freeCells (ad : Nat → Nat) (cA : Nat → ClassId) (C_size : Int32) (C_held : Nat → Int32) : va_W := [((ad 1), .inr (0, [.ref (ad 2), .ref (ad 3), .ref (ad 4), .ref (ad 5), .ref (ad 6), .ref (ad 7), .int C_size])), ((ad 3), .inl (cA 0, 36, .inl C_held))]
def rmX0_freeCells : Room := { frames := 0, cells := 0, slots := 0, locals := 0 }
abbrev atX0_freeCells_0 (X : gX) (ad : Nat → Nat) (cA : Nat → ClassId) (C_size : Int32) (C_held : Nat → Int32) : Prop := gW X 0 0 [((ad 1), .inr (0, [.ref (ad 2), .ref (ad 3), .ref (ad 4), .ref (ad 5), .ref (ad 6), .ref (ad 7), .int C_size])), ((ad 3), .inl (cA 0, 36, .inl C_held))] 3 [(0, .ref (ad 1))] [] 0
abbrev atX0_freeCells_4 (X : gX) (ad : Nat → Nat) (cA : Nat → ClassId) (x1 : Int32) (x2 : Int32) (C_size : Int32) (C_held : Nat → Int32) : Prop := gW X 0 0 [((ad 1), .inr (0, [.ref (ad 2), .ref (ad 3), .ref (ad 4), .ref (ad 5), .ref (ad 6), .ref (ad 7), .int C_size])), ((ad 3), .inl (cA 0, 36, .inl C_held))] 3 [(0, .ref (ad 1)), (1, .int x1), (2, .int x2)] [] 4
theorem giX0_freeCells_X0 : ∀ w ∈ u_ws RX0 TX0 7, w ∈ wsX0_freeCells := by decide +kernel
theorem gfX0_freeCells_30 : gF wsX0_freeCells RX0 30 0 6 RX0 TX0 7 := ⟨giX0_freeCells_X0, by decide +kernel, rfl, by decide⟩
theorem gfX0_freeCells_15 : gF wsX0_freeCells RX0 15 0 1 RX0 TX0 7 := ⟨giX0_freeCells_X0, by decide +kernel, rfl, by decide⟩
set_option maxHeartbeats 4000000 in
set_option maxRecDepth 100000 in
theorem sgX0_freeCells_0 {X : gX} {ad : Nat → Nat} {cA : Nat → ClassId} {post : Int32 → (Unit) → Prop} (C_size : Int32) (C_held : Nat → Int32) (C : gC X (gT cA) cX0_freeCells 3 RX0 wsX0_freeCells rmX0_freeCells) (E : gEi X (some .int) (gT cA) 0 0 post (w1X0_freeCells ad cA C_size C_held)) (h : atX0_freeCells_4 X ad cA (0 : Int32) (0 : Int32) C_size C_held) : atX0_freeCells_0 X ad cA C_size C_held := by
  refine g_iconst C dX0_freeCells_0 ik_0 ?_
  refine g_istore_n (lv2 := [(0, .ref (ad 1)), (1, .int (0 : Int32))]) C dX0_freeCells_1 rfl (by decide) [1, 0] rfl ?_
  refine g_iconst C dX0_freeCells_2 ik_0 ?_
  refine g_istore_n (lv2 := [(0, .ref (ad 1)), (1, .int (0 : Int32)), (2, .int (0 : Int32))]) C dX0_freeCells_3 rfl (by decide) [1, 2, 0] rfl ?_
  exact g_lv [0, 1, 2] rfl h
set_option maxHeartbeats 4000000 in
set_option maxRecDepth 100000 in
theorem sgX0_freeCells_4 {X : gX} {ad : Nat → Nat} {cA : Nat → ClassId} {post : Int32 → (Unit) → Prop} (x1 : Int32) (x2 : Int32) (C_size : Int32) (C_held : Nat → Int32) (C : gC X (gT cA) cX0_freeCells 3 RX0 wsX0_freeCells rmX0_freeCells) (E : gEi X (some .int) (gT cA) 0 0 post (w1X0_freeCells ad cA C_size C_held)) (h : (C_size ≤ x2 → post x1 ()) ∧ (¬ C_size ≤ x2 → vp_in x2 36 ∧ atX0_freeCells_4 X ad cA (if (C_held x2.toNatClampNeg) = 0 then (x1 + 1) else x1) (x2 + 1) C_size C_held)) : atX0_freeCells_4 X ad cA x1 x2 C_size C_held := by
  refine g_iload_n C dX0_freeCells_4 rfl 2 rfl ?_
  refine g_aload_n C dX0_freeCells_5 rfl 0 rfl ?_
  refine g_get C gfX0_freeCells_30 0 rfl rfl dX0_freeCells_6 ?_
  refine g_icmp_ge (tgt := 30) C dX0_freeCells_9 (by decide) (fun c_1 => ?_) (fun c_1 => ?_)
  · replace h := h.1 c_1
    refine g_iload_n C dX0_freeCells_30 rfl 1 rfl ?_
    exact g_iret C E () h rfl dX0_freeCells_31
  · replace h := h.2 c_1
    refine g_aload_n C dX0_freeCells_12 rfl 0 rfl ?_
    refine g_get C gfX0_freeCells_15 0 rfl rfl dX0_freeCells_13 ?_
    refine g_iload_n C dX0_freeCells_16 rfl 2 rfl ?_
    obtain ⟨hi_2, h⟩ := h
    refine g_iald C 1 0 rfl rfl hi_2 dX0_freeCells_17 ?_
    have key : gW X 0 0 [((ad 1), .inr (0, [.ref (ad 2), .ref (ad 3), .ref (ad 4), .ref (ad 5), .ref (ad 6), .ref (ad 7), .int C_size])), ((ad 3), .inl (cA 0, 36, .inl C_held))] 3 [(0, .ref (ad 1)), (1, .int (if (C_held x2.toNatClampNeg) = 0 then (x1 + 1) else x1)), (2, .int x2)] [] 24 := by
      refine g_iinc (v := (x2 + 1)) (lv2 := [(0, .ref (ad 1)), (1, .int (if (C_held x2.toNatClampNeg) = 0 then (x1 + 1) else x1)), (2, .int (x2 + 1))]) C dX0_freeCells_24 2 rfl (by first | rfl | decide) (by decide) [1, 2, 0] rfl ?_
      refine g_goto (tgt := 4) C dX0_freeCells_27 (by decide) ?_
      exact g_lv [0, 1, 2] rfl h
    refine g_if_ne (tgt := 24) C dX0_freeCells_18 (by decide) (fun c_3 => ?_) (fun c_3 => ?_)
    · exact g_leaf (by simp only [if_neg c_3] at key; exact key)
    · refine g_iinc (v := (x1 + 1)) (lv2 := [(0, .ref (ad 1)), (1, .int (x1 + 1)), (2, .int x2)]) C dX0_freeCells_21 1 rfl (by first | rfl | decide) (by decide) [1, 0, 2] rfl ?_
      exact g_leaf (by simp only [if_pos c_3] at key; exact key)

abbrev w1X0_sideTowards (ad : Nat → Nat) (cA : Nat → ClassId) (C_size : Int32) (C_beyond : Nat → Int32) (u : Unit) : va_W := [((ad 1), .inr (0, [.ref (ad 2), .ref (ad 3), .ref (ad 4), .ref (ad 5), .ref (ad 6), .ref (ad 7), .int C_size])), ((ad 7), .inl (cA 0, 216, .inl C_beyond))]
abbrev wcX0_sideTowards (ad : Nat → Nat) (cA : Nat → ClassId) (C_size : Int32) (C_beyond : Nat → Int32) : va_W := [((ad 1), .inr (0, [.ref (ad 2), .ref (ad 3), .ref (ad 4), .ref (ad 5), .ref (ad 6), .ref (ad 7), .int C_size])), ((ad 7), .inl (cA 0, 216, .inl C_beyond))]
def rmX0_sideTowards : Room := { frames := 0, cells := 0, slots := 0, locals := 0 }
abbrev atX0_sideTowards_0 (X : gX) (ad : Nat → Nat) (cA : Nat → ClassId) (p1 : Int32) (p2 : Int32) (C_size : Int32) (C_beyond : Nat → Int32) : Prop := gW X 0 0 [((ad 1), .inr (0, [.ref (ad 2), .ref (ad 3), .ref (ad 4), .ref (ad 5), .ref (ad 6), .ref (ad 7), .int C_size])), ((ad 7), .inl (cA 0, 216, .inl C_beyond))] 4 [(0, .ref (ad 1)), (1, .int p1), (2, .int p2)] [] 0
abbrev atX0_sideTowards_2 (X : gX) (ad : Nat → Nat) (cA : Nat → ClassId) (x1 : Int32) (x2 : Int32) (x3 : Int32) (C_size : Int32) (C_beyond : Nat → Int32) : Prop := gW X 0 0 [((ad 1), .inr (0, [.ref (ad 2), .ref (ad 3), .ref (ad 4), .ref (ad 5), .ref (ad 6), .ref (ad 7), .int C_size])), ((ad 7), .inl (cA 0, 216, .inl C_beyond))] 4 [(0, .ref (ad 1)), (1, .int x1), (2, .int x2), (3, .int x3)] [] 2
theorem giX0_sideTowards_X0 : ∀ w ∈ u_ws RX0 TX0 7, w ∈ wsX0_sideTowards := by decide +kernel
theorem gfX0_sideTowards_27 : gF wsX0_sideTowards RX0 27 0 5 RX0 TX0 7 := ⟨giX0_sideTowards_X0, by decide +kernel, rfl, by decide⟩
set_option maxHeartbeats 4000000 in
set_option maxRecDepth 100000 in
theorem sgX0_sideTowards_0 {X : gX} {ad : Nat → Nat} {cA : Nat → ClassId} {post : Int32 → (Unit) → Prop} (p1 : Int32) (p2 : Int32) (C_size : Int32) (C_beyond : Nat → Int32) (C : gC X (gT cA) cX0_sideTowards 4 RX0 wsX0_sideTowards rmX0_sideTowards) (E : gEi X (some .int) (gT cA) 0 0 post (w1X0_sideTowards ad cA C_size C_beyond)) (h : atX0_sideTowards_2 X ad cA p1 p2 (0 : Int32) C_size C_beyond) : atX0_sideTowards_0 X ad cA p1 p2 C_size C_beyond := by
  refine g_iconst C dX0_sideTowards_0 ik_0 ?_
  refine g_istore_n (lv2 := [(0, .ref (ad 1)), (1, .int p1), (2, .int p2), (3, .int (0 : Int32))]) C dX0_sideTowards_1 rfl (by decide) [1, 2, 3, 0] rfl ?_
  exact g_lv [0, 1, 2, 3] rfl h
set_option maxHeartbeats 4000000 in
set_option maxRecDepth 100000 in
theorem sgX0_sideTowards_2 {X : gX} {ad : Nat → Nat} {cA : Nat → ClassId} {post : Int32 → (Unit) → Prop} (x1 : Int32) (x2 : Int32) (x3 : Int32) (C_size : Int32) (C_beyond : Nat → Int32) (C : gC X (gT cA) cX0_sideTowards 4 RX0 wsX0_sideTowards rmX0_sideTowards) (E : gEi X (some .int) (gT cA) 0 0 post (w1X0_sideTowards ad cA C_size C_beyond)) (h : ((6 : Int32) ≤ x3 → post (-1 : Int32) ()) ∧ (¬ (6 : Int32) ≤ x3 → vp_in ((x1 * (6 : Int32)) + x3) 216 ∧ (¬ (C_beyond ((x1 * (6 : Int32)) + x3).toNatClampNeg) = x2 → atX0_sideTowards_2 X ad cA x1 x2 (x3 + 1) C_size C_beyond) ∧ ((C_beyond ((x1 * (6 : Int32)) + x3).toNatClampNeg) = x2 → post x3 ()))) : atX0_sideTowards_2 X ad cA x1 x2 x3 C_size C_beyond := by
  refine g_iload_n C dX0_sideTowards_2 rfl 3 rfl ?_
  refine g_bipush C dX0_sideTowards_3 bk_6 ?_
  refine g_icmp_ge (tgt := 31) C dX0_sideTowards_5 (by decide) (fun c_1 => ?_) (fun c_1 => ?_)
  · replace h := h.1 c_1
    refine g_iconst C dX0_sideTowards_31 ik_m1 ?_
    exact g_iret C E () h rfl dX0_sideTowards_32
  · replace h := h.2 c_1
    refine g_aload_n C dX0_sideTowards_8 rfl 0 rfl ?_
    refine g_get C gfX0_sideTowards_27 0 rfl rfl dX0_sideTowards_9 ?_
    refine g_iload_n C dX0_sideTowards_12 rfl 1 rfl ?_
    refine g_bipush C dX0_sideTowards_13 bk_6 ?_
    refine g_imul C dX0_sideTowards_15 ?_
    refine g_iload_n C dX0_sideTowards_16 rfl 3 rfl ?_
    refine g_iadd C dX0_sideTowards_17 ?_
    obtain ⟨hi_2, h⟩ := h
    refine g_iald C 1 0 rfl rfl hi_2 dX0_sideTowards_18 ?_
    refine g_iload_n C dX0_sideTowards_19 rfl 2 rfl ?_
    refine g_icmp_ne (tgt := 25) C dX0_sideTowards_20 (by decide) (fun c_3 => ?_) (fun c_3 => ?_)
    · replace h := h.1 c_3
      refine g_iinc (v := (x3 + 1)) (lv2 := [(0, .ref (ad 1)), (1, .int x1), (2, .int x2), (3, .int (x3 + 1))]) C dX0_sideTowards_25 3 rfl (by first | rfl | decide) (by decide) [1, 2, 3, 0] rfl ?_
      refine g_goto (tgt := 2) C dX0_sideTowards_28 (by decide) ?_
      exact g_lv [0, 1, 2, 3] rfl h
    · replace h := h.2 c_3
      refine g_iload_n C dX0_sideTowards_23 rfl 3 rfl ?_
      exact g_iret C E () h rfl dX0_sideTowards_24

abbrev w1X0_ownCost (ad : Nat → Nat) (cA : Nat → ClassId) (C_size : Int32) (C_prices : Nat → Int32) (C_rules : Nat → Int32) (C_beyond : Nat → Int32) (u : Unit) : va_W := [((ad 1), .inr (0, [.ref (ad 2), .ref (ad 3), .ref (ad 4), .ref (ad 5), .ref (ad 6), .ref (ad 7), .int C_size])), ((ad 4), .inl (cA 0, 36, .inl C_prices)), ((ad 5), .inl (cA 0, 7, .inl C_rules)), ((ad 7), .inl (cA 0, 216, .inl C_beyond))]
abbrev wcX0_ownCost (ad : Nat → Nat) (cA : Nat → ClassId) (C_size : Int32) (C_prices : Nat → Int32) (C_rules : Nat → Int32) (C_beyond : Nat → Int32) : va_W := [((ad 1), .inr (0, [.ref (ad 2), .ref (ad 3), .ref (ad 4), .ref (ad 5), .ref (ad 6), .ref (ad 7), .int C_size])), ((ad 4), .inl (cA 0, 36, .inl C_prices)), ((ad 5), .inl (cA 0, 7, .inl C_rules)), ((ad 7), .inl (cA 0, 216, .inl C_beyond))]
def rmX0_ownCost : Room := { frames := 0, cells := 0, slots := 0, locals := 0 }
abbrev atX0_ownCost_0 (X : gX) (ad : Nat → Nat) (cA : Nat → ClassId) (p1 : Int32) (C_size : Int32) (C_prices : Nat → Int32) (C_rules : Nat → Int32) (C_beyond : Nat → Int32) : Prop := gW X 0 0 [((ad 1), .inr (0, [.ref (ad 2), .ref (ad 3), .ref (ad 4), .ref (ad 5), .ref (ad 6), .ref (ad 7), .int C_size])), ((ad 4), .inl (cA 0, 36, .inl C_prices)), ((ad 5), .inl (cA 0, 7, .inl C_rules)), ((ad 7), .inl (cA 0, 216, .inl C_beyond))] 4 [(0, .ref (ad 1)), (1, .int p1)] [] 0
abbrev atX0_ownCost_9 (X : gX) (ad : Nat → Nat) (cA : Nat → ClassId) (x1 : Int32) (x2 : Int32) (x3 : Int32) (C_size : Int32) (C_prices : Nat → Int32) (C_rules : Nat → Int32) (C_beyond : Nat → Int32) : Prop := gW X 0 0 [((ad 1), .inr (0, [.ref (ad 2), .ref (ad 3), .ref (ad 4), .ref (ad 5), .ref (ad 6), .ref (ad 7), .int C_size])), ((ad 4), .inl (cA 0, 36, .inl C_prices)), ((ad 5), .inl (cA 0, 7, .inl C_rules)), ((ad 7), .inl (cA 0, 216, .inl C_beyond))] 4 [(0, .ref (ad 1)), (1, .int x1), (2, .int x2), (3, .int x3)] [] 9
theorem giX0_ownCost_X0 : ∀ w ∈ u_ws RX0 TX0 7, w ∈ wsX0_ownCost := by decide +kernel
theorem gfX0_ownCost_18 : gF wsX0_ownCost RX0 18 0 2 RX0 TX0 7 := ⟨giX0_ownCost_X0, by decide +kernel, rfl, by decide⟩
theorem gfX0_ownCost_27 : gF wsX0_ownCost RX0 27 0 5 RX0 TX0 7 := ⟨giX0_ownCost_X0, by decide +kernel, rfl, by decide⟩
theorem gfX0_ownCost_21 : gF wsX0_ownCost RX0 21 0 3 RX0 TX0 7 := ⟨giX0_ownCost_X0, by decide +kernel, rfl, by decide⟩
set_option maxHeartbeats 4000000 in
set_option maxRecDepth 100000 in
theorem sgX0_ownCost_0 {X : gX} {ad : Nat → Nat} {cA : Nat → ClassId} {post : Int32 → (Unit) → Prop} (p1 : Int32) (C_size : Int32) (C_prices : Nat → Int32) (C_rules : Nat → Int32) (C_beyond : Nat → Int32) (C : gC X (gT cA) cX0_ownCost 4 RX0 wsX0_ownCost rmX0_ownCost) (E : gEi X (some .int) (gT cA) 0 0 post (w1X0_ownCost ad cA C_size C_prices C_rules C_beyond)) (h : vp_in p1 36 ∧ atX0_ownCost_9 X ad cA p1 (C_prices p1.toNatClampNeg) (0 : Int32) C_size C_prices C_rules C_beyond) : atX0_ownCost_0 X ad cA p1 C_size C_prices C_rules C_beyond := by
  refine g_aload_n C dX0_ownCost_0 rfl 0 rfl ?_
  refine g_get C gfX0_ownCost_18 0 rfl rfl dX0_ownCost_1 ?_
  refine g_iload_n C dX0_ownCost_4 rfl 1 rfl ?_
  obtain ⟨hi_1, h⟩ := h
  refine g_iald C 1 0 rfl rfl hi_1 dX0_ownCost_5 ?_
  refine g_istore_n (lv2 := [(0, .ref (ad 1)), (1, .int p1), (2, .int (C_prices p1.toNatClampNeg))]) C dX0_ownCost_6 rfl (by decide) [1, 2, 0] rfl ?_
  refine g_iconst C dX0_ownCost_7 ik_0 ?_
  refine g_istore_n (lv2 := [(0, .ref (ad 1)), (1, .int p1), (2, .int (C_prices p1.toNatClampNeg)), (3, .int (0 : Int32))]) C dX0_ownCost_8 rfl (by decide) [1, 2, 3, 0] rfl ?_
  exact g_lv [0, 1, 2, 3] rfl h
set_option maxHeartbeats 4000000 in
set_option maxRecDepth 100000 in
theorem sgX0_ownCost_9 {X : gX} {ad : Nat → Nat} {cA : Nat → ClassId} {post : Int32 → (Unit) → Prop} (x1 : Int32) (x2 : Int32) (x3 : Int32) (C_size : Int32) (C_prices : Nat → Int32) (C_rules : Nat → Int32) (C_beyond : Nat → Int32) (C : gC X (gT cA) cX0_ownCost 4 RX0 wsX0_ownCost rmX0_ownCost) (E : gEi X (some .int) (gT cA) 0 0 post (w1X0_ownCost ad cA C_size C_prices C_rules C_beyond)) (h : ((6 : Int32) ≤ x3 → post x2 ()) ∧ (¬ (6 : Int32) ≤ x3 → vp_in ((x1 * (6 : Int32)) + x3) 216 ∧ ((¬ (C_beyond ((x1 * (6 : Int32)) + x3).toNatClampNeg) = (-1 : Int32) → True) ∧ ((C_beyond ((x1 * (6 : Int32)) + x3).toNatClampNeg) = (-1 : Int32) → vp_in (3 : Int32) 7)) ∧ atX0_ownCost_9 X ad cA x1 (if (C_beyond ((x1 * (6 : Int32)) + x3).toNatClampNeg) = (-1 : Int32) then (x2 + (C_rules (3 : Int32).toNatClampNeg)) else x2) (x3 + 1) C_size C_prices C_rules C_beyond)) : atX0_ownCost_9 X ad cA x1 x2 x3 C_size C_prices C_rules C_beyond := by
  refine g_iload_n C dX0_ownCost_9 rfl 3 rfl ?_
  refine g_bipush C dX0_ownCost_10 bk_6 ?_
  refine g_icmp_ge (tgt := 45) C dX0_ownCost_12 (by decide) (fun c_2 => ?_) (fun c_2 => ?_)
  · replace h := h.1 c_2
    refine g_iload_n C dX0_ownCost_45 rfl 2 rfl ?_
    exact g_iret C E () h rfl dX0_ownCost_46
  · replace h := h.2 c_2
    refine g_aload_n C dX0_ownCost_15 rfl 0 rfl ?_
    refine g_get C gfX0_ownCost_27 0 rfl rfl dX0_ownCost_16 ?_
    refine g_iload_n C dX0_ownCost_19 rfl 1 rfl ?_
    refine g_bipush C dX0_ownCost_20 bk_6 ?_
    refine g_imul C dX0_ownCost_22 ?_
    refine g_iload_n C dX0_ownCost_23 rfl 3 rfl ?_
    refine g_iadd C dX0_ownCost_24 ?_
    obtain ⟨hi_3, h⟩ := h
    refine g_iald C 3 0 rfl rfl hi_3 dX0_ownCost_25 ?_
    refine g_iconst C dX0_ownCost_26 ik_m1 ?_
    obtain ⟨hr_39, h⟩ := h
    have key : gW X 0 0 [((ad 1), .inr (0, [.ref (ad 2), .ref (ad 3), .ref (ad 4), .ref (ad 5), .ref (ad 6), .ref (ad 7), .int C_size])), ((ad 4), .inl (cA 0, 36, .inl C_prices)), ((ad 5), .inl (cA 0, 7, .inl C_rules)), ((ad 7), .inl (cA 0, 216, .inl C_beyond))] 4 [(0, .ref (ad 1)), (1, .int x1), (2, .int (if (C_beyond ((x1 * (6 : Int32)) + x3).toNatClampNeg) = (-1 : Int32) then (x2 + (C_rules (3 : Int32).toNatClampNeg)) else x2)), (3, .int x3)] [] 39 := by
      refine g_iinc (v := (x3 + 1)) (lv2 := [(0, .ref (ad 1)), (1, .int x1), (2, .int (if (C_beyond ((x1 * (6 : Int32)) + x3).toNatClampNeg) = (-1 : Int32) then (x2 + (C_rules (3 : Int32).toNatClampNeg)) else x2)), (3, .int (x3 + 1))]) C dX0_ownCost_39 3 rfl (by first | rfl | decide) (by decide) [1, 2, 3, 0] rfl ?_
      refine g_goto (tgt := 9) C dX0_ownCost_42 (by decide) ?_
      exact g_lv [0, 1, 2, 3] rfl h
    replace h := hr_39
    refine g_icmp_ne (tgt := 39) C dX0_ownCost_27 (by decide) (fun c_4 => ?_) (fun c_4 => ?_)
    · replace h := h.1 c_4
      exact g_leaf (by simp only [if_neg c_4] at key; exact key)
    · replace h := h.2 c_4
      refine g_iload_n C dX0_ownCost_30 rfl 2 rfl ?_
      refine g_aload_n C dX0_ownCost_31 rfl 0 rfl ?_
      refine g_get C gfX0_ownCost_21 0 rfl rfl dX0_ownCost_32 ?_
      refine g_iconst C dX0_ownCost_35 ik_3 ?_
      have hi_5 := h
      refine g_iald C 2 0 rfl rfl hi_5 dX0_ownCost_36 ?_
      refine g_iadd C dX0_ownCost_37 ?_
      refine g_istore_n (lv2 := [(0, .ref (ad 1)), (1, .int x1), (2, .int (x2 + (C_rules (3 : Int32).toNatClampNeg))), (3, .int x3)]) C dX0_ownCost_38 rfl (by decide) [1, 2, 0, 3] rfl ?_
      exact g_leaf (by simp only [if_pos c_4] at key; exact key)
end
