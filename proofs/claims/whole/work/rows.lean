section
-- ===== PART A: goes FIRST, ahead of the names: the tables' words, and 'selects' of the private methods out of them =====
/-- a private method of a class that the tables say can be made, by its rows of tables_1 -/
def lw_okq (q : MethodName × Nat) : Prop := (q.1.cls ≠ "java/lang/invoke/MethodHandle" ∧ q.1.cls ≠ "java/lang/invoke/VarHandle") ∧ Cond.instantiable q.1.cls q.2 ∈ tables_1 ∧ Cond.privateMethod q.1 ∈ tables_1 ∧ Cond.instanceMethod q.1 ∈ tables_1
theorem lw_p0 : lw_okq (⟨"SkinBox$Cells", "layAlong", "(IIII)V"⟩, 7) := ⟨⟨by decide +kernel, by decide +kernel⟩, List.mem_of_getElem? (i := 25) (by decide +kernel), List.mem_of_getElem? (i := 38) (by decide +kernel), List.mem_of_getElem? (i := 39) (by decide +kernel)⟩
theorem lw_p1 : lw_okq (⟨"SkinBox$Cells", "skinOfCell", "(JI)I"⟩, 7) := ⟨⟨by decide +kernel, by decide +kernel⟩, List.mem_of_getElem? (i := 25) (by decide +kernel), List.mem_of_getElem? (i := 237) (by decide +kernel), List.mem_of_getElem? (i := 238) (by decide +kernel)⟩
theorem lw_p2 : lw_okq (⟨"SkinBox$Flow", "open", "(I)V"⟩, 13) := ⟨⟨by decide +kernel, by decide +kernel⟩, List.mem_of_getElem? (i := 19) (by decide +kernel), List.mem_of_getElem? (i := 268) (by decide +kernel), List.mem_of_getElem? (i := 269) (by decide +kernel)⟩
theorem lw_p3 : lw_okq (⟨"SkinBox$Flow", "openCell", "(II)V"⟩, 13) := ⟨⟨by decide +kernel, by decide +kernel⟩, List.mem_of_getElem? (i := 19) (by decide +kernel), List.mem_of_getElem? (i := 276) (by decide +kernel), List.mem_of_getElem? (i := 277) (by decide +kernel)⟩
theorem lw_p4 : lw_okq (⟨"SkinBox$Flow", "search", "()I"⟩, 13) := ⟨⟨by decide +kernel, by decide +kernel⟩, List.mem_of_getElem? (i := 19) (by decide +kernel), List.mem_of_getElem? (i := 282) (by decide +kernel), List.mem_of_getElem? (i := 283) (by decide +kernel)⟩
theorem lw_p5 : lw_okq (⟨"SkinBox$Flow", "startAt", "([I)V"⟩, 13) := ⟨⟨by decide +kernel, by decide +kernel⟩, List.mem_of_getElem? (i := 19) (by decide +kernel), List.mem_of_getElem? (i := 286) (by decide +kernel), List.mem_of_getElem? (i := 287) (by decide +kernel)⟩
theorem lw_p6 : lw_okq (⟨"SkinBox$Flow", "see", "(II)V"⟩, 13) := ⟨⟨by decide +kernel, by decide +kernel⟩, List.mem_of_getElem? (i := 19) (by decide +kernel), List.mem_of_getElem? (i := 290) (by decide +kernel), List.mem_of_getElem? (i := 291) (by decide +kernel)⟩
theorem lw_p7 : lw_okq (⟨"SkinBox$Flow", "pushTo", "(I)V"⟩, 13) := ⟨⟨by decide +kernel, by decide +kernel⟩, List.mem_of_getElem? (i := 19) (by decide +kernel), List.mem_of_getElem? (i := 294) (by decide +kernel), List.mem_of_getElem? (i := 295) (by decide +kernel)⟩
theorem lw_p8 : lw_okq (⟨"SkinBox$Flow", "seen", "()J"⟩, 13) := ⟨⟨by decide +kernel, by decide +kernel⟩, List.mem_of_getElem? (i := 19) (by decide +kernel), List.mem_of_getElem? (i := 299) (by decide +kernel), List.mem_of_getElem? (i := 300) (by decide +kernel)⟩
theorem lw_p9 : lw_okq (⟨"SkinBox$Flow", "searchBack", "()V"⟩, 13) := ⟨⟨by decide +kernel, by decide +kernel⟩, List.mem_of_getElem? (i := 19) (by decide +kernel), List.mem_of_getElem? (i := 303) (by decide +kernel), List.mem_of_getElem? (i := 304) (by decide +kernel)⟩
theorem lw_p10 : lw_okq (⟨"SkinBox$Flow", "queueOpen", "()I"⟩, 13) := ⟨⟨by decide +kernel, by decide +kernel⟩, List.mem_of_getElem? (i := 19) (by decide +kernel), List.mem_of_getElem? (i := 335) (by decide +kernel), List.mem_of_getElem? (i := 336) (by decide +kernel)⟩
theorem lw_p11 : lw_okq (⟨"SkinBox$Points", "difference", "(IIII)I"⟩, 5) := ⟨⟨by decide +kernel, by decide +kernel⟩, List.mem_of_getElem? (i := 118) (by decide +kernel), List.mem_of_getElem? (i := 384) (by decide +kernel), List.mem_of_getElem? (i := 385) (by decide +kernel)⟩
theorem lw_p12 : lw_okq (⟨"SkinBox$Points", "stepped", "(II)I"⟩, 5) := ⟨⟨by decide +kernel, by decide +kernel⟩, List.mem_of_getElem? (i := 118) (by decide +kernel), List.mem_of_getElem? (i := 400) (by decide +kernel), List.mem_of_getElem? (i := 401) (by decide +kernel)⟩
theorem lw_p13 : lw_okq (⟨"SkinBox$Points", "putInOrder", "(III)I"⟩, 5) := ⟨⟨by decide +kernel, by decide +kernel⟩, List.mem_of_getElem? (i := 118) (by decide +kernel), List.mem_of_getElem? (i := 404) (by decide +kernel), List.mem_of_getElem? (i := 405) (by decide +kernel)⟩
theorem lw_p14 : lw_okq (⟨"SkinBoxModel", "pins", "()V"⟩, 22) := ⟨⟨by decide +kernel, by decide +kernel⟩, List.mem_of_getElem? (i := 433) (by decide +kernel), List.mem_of_getElem? (i := 439) (by decide +kernel), List.mem_of_getElem? (i := 440) (by decide +kernel)⟩
theorem lw_p15 : lw_okq (⟨"SkinBoxModel", "cells", "()I"⟩, 22) := ⟨⟨by decide +kernel, by decide +kernel⟩, List.mem_of_getElem? (i := 433) (by decide +kernel), List.mem_of_getElem? (i := 519) (by decide +kernel), List.mem_of_getElem? (i := 520) (by decide +kernel)⟩
def lw_privs_1 : List (MethodName × Nat) := [(⟨"SkinBox$Cells", "layAlong", "(IIII)V"⟩, 7), (⟨"SkinBox$Cells", "skinOfCell", "(JI)I"⟩, 7), (⟨"SkinBox$Flow", "open", "(I)V"⟩, 13), (⟨"SkinBox$Flow", "openCell", "(II)V"⟩, 13), (⟨"SkinBox$Flow", "search", "()I"⟩, 13), (⟨"SkinBox$Flow", "startAt", "([I)V"⟩, 13), (⟨"SkinBox$Flow", "see", "(II)V"⟩, 13), (⟨"SkinBox$Flow", "pushTo", "(I)V"⟩, 13), (⟨"SkinBox$Flow", "seen", "()J"⟩, 13), (⟨"SkinBox$Flow", "searchBack", "()V"⟩, 13), (⟨"SkinBox$Flow", "queueOpen", "()I"⟩, 13), (⟨"SkinBox$Points", "difference", "(IIII)I"⟩, 5), (⟨"SkinBox$Points", "stepped", "(II)I"⟩, 5), (⟨"SkinBox$Points", "putInOrder", "(III)I"⟩, 5), (⟨"SkinBoxModel", "pins", "()V"⟩, 22), (⟨"SkinBoxModel", "cells", "()I"⟩, 22)]
theorem lw_r1 : ∀ q ∈ lw_privs_1, lw_okq q := List.forall_mem_cons.mpr ⟨lw_p0, List.forall_mem_cons.mpr ⟨lw_p1, List.forall_mem_cons.mpr ⟨lw_p2, List.forall_mem_cons.mpr ⟨lw_p3, List.forall_mem_cons.mpr ⟨lw_p4, List.forall_mem_cons.mpr ⟨lw_p5, List.forall_mem_cons.mpr ⟨lw_p6, List.forall_mem_cons.mpr ⟨lw_p7, List.forall_mem_cons.mpr ⟨lw_p8, List.forall_mem_cons.mpr ⟨lw_p9, List.forall_mem_cons.mpr ⟨lw_p10, List.forall_mem_cons.mpr ⟨lw_p11, List.forall_mem_cons.mpr ⟨lw_p12, List.forall_mem_cons.mpr ⟨lw_p13, List.forall_mem_cons.mpr ⟨lw_p14, List.forall_mem_cons.mpr ⟨lw_p15, fun _ h => absurd h List.not_mem_nil⟩⟩⟩⟩⟩⟩⟩⟩⟩⟩⟩⟩⟩⟩⟩⟩
theorem lw_p16 : lw_okq (⟨"SkinBoxModel", "isCell", "(I)Z"⟩, 22) := ⟨⟨by decide +kernel, by decide +kernel⟩, List.mem_of_getElem? (i := 433) (by decide +kernel), List.mem_of_getElem? (i := 527) (by decide +kernel), List.mem_of_getElem? (i := 528) (by decide +kernel)⟩
theorem lw_p17 : lw_okq (⟨"SkinBoxModel", "stride", "(I)I"⟩, 22) := ⟨⟨by decide +kernel, by decide +kernel⟩, List.mem_of_getElem? (i := 433) (by decide +kernel), List.mem_of_getElem? (i := 549) (by decide +kernel), List.mem_of_getElem? (i := 550) (by decide +kernel)⟩
theorem lw_p18 : lw_okq (⟨"SkinBoxModel", "placeOf", "(II)I"⟩, 22) := ⟨⟨by decide +kernel, by decide +kernel⟩, List.mem_of_getElem? (i := 433) (by decide +kernel), List.mem_of_getElem? (i := 553) (by decide +kernel), List.mem_of_getElem? (i := 554) (by decide +kernel)⟩
theorem lw_p19 : lw_okq (⟨"SkinBoxModel", "faceCost", "(III)I"⟩, 22) := ⟨⟨by decide +kernel, by decide +kernel⟩, List.mem_of_getElem? (i := 433) (by decide +kernel), List.mem_of_getElem? (i := 559) (by decide +kernel), List.mem_of_getElem? (i := 560) (by decide +kernel)⟩
theorem lw_p20 : lw_okq (⟨"SkinBoxModel", "isSet", "(J)Z"⟩, 22) := ⟨⟨by decide +kernel, by decide +kernel⟩, List.mem_of_getElem? (i := 433) (by decide +kernel), List.mem_of_getElem? (i := 567) (by decide +kernel), List.mem_of_getElem? (i := 568) (by decide +kernel)⟩
theorem lw_p21 : lw_okq (⟨"SkinBoxModel", "skinOf", "(J)J"⟩, 22) := ⟨⟨by decide +kernel, by decide +kernel⟩, List.mem_of_getElem? (i := 433) (by decide +kernel), List.mem_of_getElem? (i := 571) (by decide +kernel), List.mem_of_getElem? (i := 572) (by decide +kernel)⟩
theorem lw_p22 : lw_okq (⟨"SkinBoxModel", "outsides", "(I)I"⟩, 22) := ⟨⟨by decide +kernel, by decide +kernel⟩, List.mem_of_getElem? (i := 433) (by decide +kernel), List.mem_of_getElem? (i := 575) (by decide +kernel), List.mem_of_getElem? (i := 576) (by decide +kernel)⟩
theorem lw_p23 : lw_okq (⟨"SkinBoxModel", "finds", "(II)V"⟩, 22) := ⟨⟨by decide +kernel, by decide +kernel⟩, List.mem_of_getElem? (i := 433) (by decide +kernel), List.mem_of_getElem? (i := 593) (by decide +kernel), List.mem_of_getElem? (i := 594) (by decide +kernel)⟩
theorem lw_p24 : lw_okq (⟨"SkinBoxModel", "orders", "()V"⟩, 22) := ⟨⟨by decide +kernel, by decide +kernel⟩, List.mem_of_getElem? (i := 433) (by decide +kernel), List.mem_of_getElem? (i := 597) (by decide +kernel), List.mem_of_getElem? (i := 598) (by decide +kernel)⟩
theorem lw_p25 : lw_okq (⟨"SkinBoxModel", "cellAt", "(I)I"⟩, 22) := ⟨⟨by decide +kernel, by decide +kernel⟩, List.mem_of_getElem? (i := 433) (by decide +kernel), List.mem_of_getElem? (i := 602) (by decide +kernel), List.mem_of_getElem? (i := 603) (by decide +kernel)⟩
theorem lw_p26 : lw_okq (⟨"SkinBoxModel", "adds", "(IIII)I"⟩, 22) := ⟨⟨by decide +kernel, by decide +kernel⟩, List.mem_of_getElem? (i := 433) (by decide +kernel), List.mem_of_getElem? (i := 607) (by decide +kernel), List.mem_of_getElem? (i := 608) (by decide +kernel)⟩
theorem lw_p27 : lw_okq (⟨"SkinBoxModel", "free", "()I"⟩, 22) := ⟨⟨by decide +kernel, by decide +kernel⟩, List.mem_of_getElem? (i := 433) (by decide +kernel), List.mem_of_getElem? (i := 625) (by decide +kernel), List.mem_of_getElem? (i := 626) (by decide +kernel)⟩
theorem lw_p28 : lw_okq (⟨"SkinBoxModel", "isPoint", "(II)Z"⟩, 22) := ⟨⟨by decide +kernel, by decide +kernel⟩, List.mem_of_getElem? (i := 433) (by decide +kernel), List.mem_of_getElem? (i := 638) (by decide +kernel), List.mem_of_getElem? (i := 639) (by decide +kernel)⟩
theorem lw_p29 : lw_okq (⟨"SkinBoxModel", "slackOf", "()I"⟩, 22) := ⟨⟨by decide +kernel, by decide +kernel⟩, List.mem_of_getElem? (i := 433) (by decide +kernel), List.mem_of_getElem? (i := 663) (by decide +kernel), List.mem_of_getElem? (i := 664) (by decide +kernel)⟩
theorem lw_p30 : lw_okq (⟨"SkinBoxModel", "stepOf", "(II)I"⟩, 22) := ⟨⟨by decide +kernel, by decide +kernel⟩, List.mem_of_getElem? (i := 433) (by decide +kernel), List.mem_of_getElem? (i := 667) (by decide +kernel), List.mem_of_getElem? (i := 668) (by decide +kernel)⟩
theorem lw_p31 : lw_okq (⟨"SkinBoxModel", "puts", "(II)I"⟩, 22) := ⟨⟨by decide +kernel, by decide +kernel⟩, List.mem_of_getElem? (i := 433) (by decide +kernel), List.mem_of_getElem? (i := 671) (by decide +kernel), List.mem_of_getElem? (i := 672) (by decide +kernel)⟩
def lw_privs_2 : List (MethodName × Nat) := [(⟨"SkinBoxModel", "isCell", "(I)Z"⟩, 22), (⟨"SkinBoxModel", "stride", "(I)I"⟩, 22), (⟨"SkinBoxModel", "placeOf", "(II)I"⟩, 22), (⟨"SkinBoxModel", "faceCost", "(III)I"⟩, 22), (⟨"SkinBoxModel", "isSet", "(J)Z"⟩, 22), (⟨"SkinBoxModel", "skinOf", "(J)J"⟩, 22), (⟨"SkinBoxModel", "outsides", "(I)I"⟩, 22), (⟨"SkinBoxModel", "finds", "(II)V"⟩, 22), (⟨"SkinBoxModel", "orders", "()V"⟩, 22), (⟨"SkinBoxModel", "cellAt", "(I)I"⟩, 22), (⟨"SkinBoxModel", "adds", "(IIII)I"⟩, 22), (⟨"SkinBoxModel", "free", "()I"⟩, 22), (⟨"SkinBoxModel", "isPoint", "(II)Z"⟩, 22), (⟨"SkinBoxModel", "slackOf", "()I"⟩, 22), (⟨"SkinBoxModel", "stepOf", "(II)I"⟩, 22), (⟨"SkinBoxModel", "puts", "(II)I"⟩, 22)]
theorem lw_r2 : ∀ q ∈ lw_privs_2, lw_okq q := List.forall_mem_cons.mpr ⟨lw_p16, List.forall_mem_cons.mpr ⟨lw_p17, List.forall_mem_cons.mpr ⟨lw_p18, List.forall_mem_cons.mpr ⟨lw_p19, List.forall_mem_cons.mpr ⟨lw_p20, List.forall_mem_cons.mpr ⟨lw_p21, List.forall_mem_cons.mpr ⟨lw_p22, List.forall_mem_cons.mpr ⟨lw_p23, List.forall_mem_cons.mpr ⟨lw_p24, List.forall_mem_cons.mpr ⟨lw_p25, List.forall_mem_cons.mpr ⟨lw_p26, List.forall_mem_cons.mpr ⟨lw_p27, List.forall_mem_cons.mpr ⟨lw_p28, List.forall_mem_cons.mpr ⟨lw_p29, List.forall_mem_cons.mpr ⟨lw_p30, List.forall_mem_cons.mpr ⟨lw_p31, fun _ h => absurd h List.not_mem_nil⟩⟩⟩⟩⟩⟩⟩⟩⟩⟩⟩⟩⟩⟩⟩⟩
def lw_privs : List (MethodName × Nat) := lw_privs_1 ++ (lw_privs_2)
def lw_tbl : List Cond := k2_sels lw_privs ++ tables_1
theorem lw_privs_ok : ∀ q ∈ lw_privs, lw_okq q := by
  show ∀ q ∈ lw_privs_1 ++ (lw_privs_2), lw_okq q
  exact List.forall_mem_append.mpr ⟨lw_r1, lw_r2⟩
end
section
/-! ===== BEGIN words of one list among another's, by their places ===== -/
theorem goodIn_r {big : List Cond} (ws : List Cond) (ps : List Nat) (hp : ws = ps.filterMap (fun i => big[i]?)) (h : ws.all goodWord = true) : GoodIn big ws := by
  intro w hw
  have h1 := List.all_eq_true.mp h w hw
  rw [hp] at hw
  obtain ⟨i, -, hi⟩ := List.mem_filterMap.mp hw
  have hm : w ∈ big := by first | exact List.mem_of_getElem? hi | exact List.getElem?_mem hi
  exact ⟨hm, good_of_word h1⟩
theorem goodIn_app {big a b : List Cond} (ha : GoodIn big a) (hb : GoodIn big b) : GoodIn big (a ++ b) := fun w h => (List.mem_append.mp h).elim (ha w) (hb w)
theorem goodIn_ca {big a b : List Cond} {c : Cond} (ha : GoodIn big (c :: a)) (hb : GoodIn big b) : GoodIn big (c :: (a ++ b)) := fun w h => (List.mem_cons.mp h).elim (fun e => ha w (List.mem_cons.mpr (Or.inl e))) (fun h => (List.mem_append.mp h).elim (fun h => ha w (List.mem_cons.mpr (Or.inr h))) (hb w))
theorem goodIn_sub {big ws : List Cond} (hm : ∀ w ∈ ws, w ∈ big) (h : ws.all goodWord = true) : GoodIn big ws := fun w hw => ⟨hm w hw, good_of_word (List.all_eq_true.mp h w hw)⟩
/-! ===== END ===== -/

/-! ===== BEGIN printed: names, fields, word lists, decode rows ===== -/
def RX0 : String := "SkinBox$Cells"
def TX0 : u_T := fun k => match k with
  | 0 => ("SkinBox$Cells", "sides", "[I", true)
  | 1 => ("SkinBox$Cells", "held", "[I", true)
  | 2 => ("SkinBox$Cells", "prices", "[I", true)
  | 3 => ("SkinBox$Cells", "rules", "[I", true)
  | 4 => ("SkinBox$Cells", "places", "[I", true)
  | 5 => ("SkinBox$Cells", "beyond", "[I", true)
  | _ => ("SkinBox$Cells", "size", "I", false)
def tyX0 : Nat → FieldType := fun k => match k with
  | 0 => .array .int
  | 1 => .array .int
  | 2 => .array .int
  | 3 => .array .int
  | 4 => .array .int
  | 5 => .array .int
  | _ => .int
abbrev wsX00 : List Cond := u_ws RX0 TX0 7
theorem nmX0 : ∀ a, a < 7 → ∀ b, b < 7 → a ≠ b → (TX0 a).2.1 ≠ (TX0 b).2.1 := by decide +kernel
theorem tyX0_ok : ∀ k, k < 7 → parseFieldDescriptor (TX0 k).2.2.1 = some (tyX0 k) := by decide +kernel
abbrev cX0_init : ByteArray := prog_2_method_1_code
def yX0_init : MethodName := ⟨RX0, "<init>", "()V"⟩
abbrev cX0_lay : ByteArray := prog_2_method_2_code
def yX0_lay : MethodName := ⟨RX0, "lay", "(III)V"⟩
abbrev cX0_layAlong : ByteArray := prog_2_method_3_code
def yX0_layAlong : MethodName := ⟨RX0, "layAlong", "(IIII)V"⟩
abbrev cX0_has : ByteArray := prog_2_method_4_code
def yX0_has : MethodName := ⟨RX0, "has", "(I)Z"⟩
abbrev cX0_every : ByteArray := prog_2_method_5_code
def yX0_every : MethodName := ⟨RX0, "every", "()J"⟩
abbrev cX0_isSet : ByteArray := prog_2_method_6_code
def yX0_isSet : MethodName := ⟨RX0, "isSet", "(J)Z"⟩
abbrev cX0_freeCells : ByteArray := prog_2_method_7_code
def yX0_freeCells : MethodName := ⟨RX0, "freeCells", "()I"⟩
abbrev cX0_sideTowards : ByteArray := prog_2_method_8_code
def yX0_sideTowards : MethodName := ⟨RX0, "sideTowards", "(II)I"⟩
abbrev cX0_seamCost : ByteArray := prog_2_method_9_code
def yX0_seamCost : MethodName := ⟨RX0, "seamCost", "(III)I"⟩
abbrev cX0_ownCost : ByteArray := prog_2_method_10_code
def yX0_ownCost : MethodName := ⟨RX0, "ownCost", "(I)I"⟩
abbrev cX0_seamsGrowth : ByteArray := prog_2_method_11_code
def yX0_seamsGrowth : MethodName := ⟨RX0, "seamsGrowth", "(JI)I"⟩
abbrev cX0_skinOf : ByteArray := prog_2_method_12_code
def yX0_skinOf : MethodName := ⟨RX0, "skinOf", "(J)J"⟩
abbrev cX0_skinOfCell : ByteArray := prog_2_method_13_code
def yX0_skinOfCell : MethodName := ⟨RX0, "skinOfCell", "(JI)I"⟩
abbrev cX0_pricesOf : ByteArray := prog_2_method_14_code
def yX0_pricesOf : MethodName := ⟨RX0, "pricesOf", "(J)J"⟩
abbrev cX0_isRight : ByteArray := prog_2_method_15_code
def yX0_isRight : MethodName := ⟨RX0, "isRight", "(J)Z"⟩
abbrev cX0_holds : ByteArray := prog_2_method_16_code
def yX0_holds : MethodName := ⟨RX0, "holds", "(JI)Z"⟩
def RX1 : String := "SkinBox$Flow"
def TX1 : u_T := fun k => match k with
  | 0 => ("SkinBox$Flow", "cells", "LSkinBox$Cells;", true)
  | 1 => ("SkinBox$Flow", "springs", "[I", true)
  | 2 => ("SkinBox$Flow", "drains", "[I", true)
  | 3 => ("SkinBox$Flow", "passes", "[I", true)
  | 4 => ("SkinBox$Flow", "cameFrom", "[I", true)
  | 5 => ("SkinBox$Flow", "cameBy", "[I", true)
  | 6 => ("SkinBox$Flow", "queue", "[I", true)
  | 7 => ("SkinBox$Flow", "queued", "I", false)
  | 8 => ("SkinBox$Flow", "settled", "Z", false)
  | 9 => ("SkinBox$Flow", "settledRise", "I", false)
  | 10 => ("SkinBox$Flow", "amount", "J", false)
  | 11 => ("SkinBox$Flow", "lowest", "J", false)
  | _ => ("SkinBox$Flow", "highest", "J", false)
def tyX1 : Nat → FieldType := fun k => match k with
  | 0 => .object "SkinBox$Cells"
  | 1 => .array .int
  | 2 => .array .int
  | 3 => .array .int
  | 4 => .array .int
  | 5 => .array .int
  | 6 => .array .int
  | 7 => .int
  | 8 => .boolean
  | 9 => .int
  | 10 => .long
  | 11 => .long
  | _ => .long
abbrev wsX10 : List Cond := u_ws RX1 TX1 13
theorem nmX1 : ∀ a, a < 13 → ∀ b, b < 13 → a ≠ b → (TX1 a).2.1 ≠ (TX1 b).2.1 := by decide +kernel
theorem tyX1_ok : ∀ k, k < 13 → parseFieldDescriptor (TX1 k).2.2.1 = some (tyX1 k) := by decide +kernel
abbrev cX1_init : ByteArray := prog_3_method_1_code
def yX1_init : MethodName := ⟨RX1, "<init>", "()V"⟩
abbrev cX1_forget : ByteArray := prog_3_method_2_code
def yX1_forget : MethodName := ⟨RX1, "forget", "()V"⟩
abbrev cX1_settle : ByteArray := prog_3_method_3_code
def yX1_settle : MethodName := ⟨RX1, "settle", "(I)V"⟩
abbrev cX1_open : ByteArray := prog_3_method_4_code
def yX1_open : MethodName := ⟨RX1, "open", "(I)V"⟩
abbrev cX1_openCell : ByteArray := prog_3_method_5_code
def yX1_openCell : MethodName := ⟨RX1, "openCell", "(II)V"⟩
abbrev cX1_search : ByteArray := prog_3_method_6_code
def yX1_search : MethodName := ⟨RX1, "search", "()I"⟩
abbrev cX1_searchBack : ByteArray := prog_3_method_7_code
def yX1_searchBack : MethodName := ⟨RX1, "searchBack", "()V"⟩
abbrev cX1_startAt : ByteArray := prog_3_method_8_code
def yX1_startAt : MethodName := ⟨RX1, "startAt", "([I)V"⟩
abbrev cX1_see : ByteArray := prog_3_method_9_code
def yX1_see : MethodName := ⟨RX1, "see", "(II)V"⟩
abbrev cX1_seen : ByteArray := prog_3_method_10_code
def yX1_seen : MethodName := ⟨RX1, "seen", "()J"⟩
abbrev cX1_pushTo : ByteArray := prog_3_method_11_code
def yX1_pushTo : MethodName := ⟨RX1, "pushTo", "(I)V"⟩
abbrev cX1_leastSets : ByteArray := prog_3_method_12_code
def yX1_leastSets : MethodName := ⟨RX1, "leastSets", "()I"⟩
abbrev cX1_queueOpen : ByteArray := prog_3_method_13_code
def yX1_queueOpen : MethodName := ⟨RX1, "queueOpen", "()I"⟩
def RX2 : String := "SkinBox$Points"
def TX2 : u_T := fun k => match k with
  | 0 => ("SkinBox$Points", "heights", "[I", true)
  | 1 => ("SkinBox$Points", "pinned", "[Z", true)
  | 2 => ("SkinBox$Points", "near", "[I", true)
  | 3 => ("SkinBox$Points", "wide", "I", false)
  | _ => ("SkinBox$Points", "high", "I", false)
def tyX2 : Nat → FieldType := fun k => match k with
  | 0 => .array .int
  | 1 => .array .boolean
  | 2 => .array .int
  | 3 => .int
  | _ => .int
abbrev wsX20 : List Cond := u_ws RX2 TX2 5
theorem nmX2 : ∀ a, a < 5 → ∀ b, b < 5 → a ≠ b → (TX2 a).2.1 ≠ (TX2 b).2.1 := by decide +kernel
theorem tyX2_ok : ∀ k, k < 5 → parseFieldDescriptor (TX2 k).2.2.1 = some (tyX2 k) := by decide +kernel
abbrev cX2_init : ByteArray := prog_4_method_1_code
def yX2_init : MethodName := ⟨RX2, "<init>", "()V"⟩
abbrev cX2_spread : ByteArray := prog_4_method_2_code
def yX2_spread : MethodName := ⟨RX2, "spread", "(II)V"⟩
abbrev cX2_has : ByteArray := prog_4_method_3_code
def yX2_has : MethodName := ⟨RX2, "has", "(II)Z"⟩
abbrev cX2_at : ByteArray := prog_4_method_4_code
def yX2_at : MethodName := ⟨RX2, "at", "(II)I"⟩
abbrev cX2_pins : ByteArray := prog_4_method_5_code
def yX2_pins : MethodName := ⟨RX2, "pins", "()I"⟩
abbrev cX2_sumOfDifferences : ByteArray := prog_4_method_6_code
def yX2_sumOfDifferences : MethodName := ⟨RX2, "sumOfDifferences", "()I"⟩
abbrev cX2_difference : ByteArray := prog_4_method_7_code
def yX2_difference : MethodName := ⟨RX2, "difference", "(IIII)I"⟩
abbrev cX2_sumOfChanges : ByteArray := prog_4_method_8_code
def yX2_sumOfChanges : MethodName := ⟨RX2, "sumOfChanges", "()I"⟩
abbrev cX2_isAtRest : ByteArray := prog_4_method_9_code
def yX2_isAtRest : MethodName := ⟨RX2, "isAtRest", "()Z"⟩
abbrev cX2_stepAtEach : ByteArray := prog_4_method_10_code
def yX2_stepAtEach : MethodName := ⟨RX2, "stepAtEach", "()V"⟩
abbrev cX2_stepped : ByteArray := prog_4_method_11_code
def yX2_stepped : MethodName := ⟨RX2, "stepped", "(II)I"⟩
abbrev cX2_putInOrder : ByteArray := prog_4_method_12_code
def yX2_putInOrder : MethodName := ⟨RX2, "putInOrder", "(III)I"⟩
def RX3 : String := "SkinBox"
def TX3 : u_T := fun k => match k with
  | 0 => ("SkinBox", "flow", "LSkinBox$Flow;", true)
  | 1 => ("SkinBox", "cells", "LSkinBox$Cells;", true)
  | 2 => ("SkinBox", "points", "LSkinBox$Points;", true)
  | _ => ("SkinBox", "asked", "J", false)
def tyX3 : Nat → FieldType := fun k => match k with
  | 0 => .object "SkinBox$Flow"
  | 1 => .object "SkinBox$Cells"
  | 2 => .object "SkinBox$Points"
  | _ => .long
abbrev wsX30 : List Cond := u_ws RX3 TX3 4
theorem nmX3 : ∀ a, a < 4 → ∀ b, b < 4 → a ≠ b → (TX3 a).2.1 ≠ (TX3 b).2.1 := by decide +kernel
theorem tyX3_ok : ∀ k, k < 4 → parseFieldDescriptor (TX3 k).2.2.1 = some (tyX3 k) := by decide +kernel
abbrev cX3_init : ByteArray := prog_1_method_1_code
def yX3_init : MethodName := ⟨RX3, "<init>", "()V"⟩
abbrev cX3_box : ByteArray := prog_1_method_2_code
def yX3_box : MethodName := ⟨RX3, "box", "(III)I"⟩
abbrev cX3_hold : ByteArray := prog_1_method_3_code
def yX3_hold : MethodName := ⟨RX3, "hold", "(II)I"⟩
abbrev cX3_price : ByteArray := prog_1_method_4_code
def yX3_price : MethodName := ⟨RX3, "price", "(II)I"⟩
abbrev cX3_set : ByteArray := prog_1_method_5_code
def yX3_set : MethodName := ⟨RX3, "set", "(II)I"⟩
abbrev cX3_cost : ByteArray := prog_1_method_6_code
def yX3_cost : MethodName := ⟨RX3, "cost", "(III)I"⟩
abbrev cX3_skin : ByteArray := prog_1_method_7_code
def yX3_skin : MethodName := ⟨RX3, "skin", "(J)J"⟩
abbrev cX3_all : ByteArray := prog_1_method_8_code
def yX3_all : MethodName := ⟨RX3, "all", "(J)J"⟩
abbrev cX3_right : ByteArray := prog_1_method_9_code
def yX3_right : MethodName := ⟨RX3, "right", "(J)I"⟩
abbrev cX3_least : ByteArray := prog_1_method_10_code
def yX3_least : MethodName := ⟨RX3, "least", "()J"⟩
abbrev cX3_film : ByteArray := prog_1_method_11_code
def yX3_film : MethodName := ⟨RX3, "film", "(I)J"⟩
abbrev cX3_room : ByteArray := prog_1_method_12_code
def yX3_room : MethodName := ⟨RX3, "room", "(II)I"⟩
abbrev cX3_many : ByteArray := prog_1_method_13_code
def yX3_many : MethodName := ⟨RX3, "many", "()I"⟩
abbrev cX3_net : ByteArray := prog_1_method_14_code
def yX3_net : MethodName := ⟨RX3, "net", "(II)I"⟩
abbrev cX3_lift : ByteArray := prog_1_method_15_code
def yX3_lift : MethodName := ⟨RX3, "lift", "(III)I"⟩
abbrev cX3_pin : ByteArray := prog_1_method_16_code
def yX3_pin : MethodName := ⟨RX3, "pin", "(IIZ)I"⟩
abbrev cX3_height : ByteArray := prog_1_method_17_code
def yX3_height : MethodName := ⟨RX3, "height", "(II)I"⟩
abbrev cX3_drawn : ByteArray := prog_1_method_18_code
def yX3_drawn : MethodName := ⟨RX3, "drawn", "()I"⟩
abbrev cX3_slack : ByteArray := prog_1_method_19_code
def yX3_slack : MethodName := ⟨RX3, "slack", "()I"⟩
abbrev cX3_rounds : ByteArray := prog_1_method_20_code
def yX3_rounds : MethodName := ⟨RX3, "rounds", "(I)I"⟩
abbrev cX3_count : ByteArray := prog_1_method_21_code
def yX3_count : MethodName := ⟨RX3, "count", "(I)I"⟩
abbrev cX3_trace : ByteArray := prog_1_method_22_code
def yX3_trace : MethodName := ⟨RX3, "trace", "()J"⟩
abbrev cX3_within : ByteArray := prog_1_method_23_code
def yX3_within : MethodName := ⟨RX3, "within", "(III)Z"⟩
def RX4 : String := "SkinBoxModel"
def TX4 : u_T := fun k => match k with
  | 0 => ("SkinBoxModel", "thrown", "I", false)
  | 1 => ("SkinBoxModel", "trace", "J", false)
  | 2 => ("SkinBoxModel", "sides", "[I", true)
  | 3 => ("SkinBoxModel", "held", "[I", true)
  | 4 => ("SkinBoxModel", "price", "[I", true)
  | 5 => ("SkinBoxModel", "rules", "[I", true)
  | 6 => ("SkinBoxModel", "ways", "[I", true)
  | 7 => ("SkinBoxModel", "place", "[I", true)
  | 8 => ("SkinBoxModel", "value", "[J", true)
  | 9 => ("SkinBoxModel", "sets", "[J", true)
  | 10 => ("SkinBoxModel", "times", "[J", true)
  | 11 => ("SkinBoxModel", "nextValue", "[J", true)
  | 12 => ("SkinBoxModel", "nextSets", "[J", true)
  | 13 => ("SkinBoxModel", "nextTimes", "[J", true)
  | 14 => ("SkinBoxModel", "found", "J", false)
  | 15 => ("SkinBoxModel", "foundSet", "J", false)
  | 16 => ("SkinBoxModel", "foundTimes", "J", false)
  | 17 => ("SkinBoxModel", "w", "I", false)
  | 18 => ("SkinBoxModel", "h", "I", false)
  | 19 => ("SkinBoxModel", "height", "[I", true)
  | 20 => ("SkinBoxModel", "isPinned", "[Z", true)
  | _ => ("SkinBoxModel", "beside", "[I", true)
def tyX4 : Nat → FieldType := fun k => match k with
  | 0 => .int
  | 1 => .long
  | 2 => .array .int
  | 3 => .array .int
  | 4 => .array .int
  | 5 => .array .int
  | 6 => .array .int
  | 7 => .array .int
  | 8 => .array .long
  | 9 => .array .long
  | 10 => .array .long
  | 11 => .array .long
  | 12 => .array .long
  | 13 => .array .long
  | 14 => .long
  | 15 => .long
  | 16 => .long
  | 17 => .int
  | 18 => .int
  | 19 => .array .int
  | 20 => .array .boolean
  | _ => .array .int
abbrev wsX40 : List Cond := u_ws RX4 TX4 22
theorem nmX4 : ∀ a, a < 22 → ∀ b, b < 22 → a ≠ b → (TX4 a).2.1 ≠ (TX4 b).2.1 := by decide +kernel
theorem tyX4_ok : ∀ k, k < 22 → parseFieldDescriptor (TX4 k).2.2.1 = some (tyX4 k) := by decide +kernel
abbrev cX4_init : ByteArray := prog_6_method_1_code
def yX4_init : MethodName := ⟨RX4, "<init>", "()V"⟩
abbrev cX4_in : ByteArray := prog_6_method_3_code
def yX4_in : MethodName := ⟨RX4, "in", "(JJJ)Z"⟩
abbrev cX4_cells : ByteArray := prog_6_method_4_code
def yX4_cells : MethodName := ⟨RX4, "cells", "()I"⟩
abbrev cX4_isCell : ByteArray := prog_6_method_5_code
def yX4_isCell : MethodName := ⟨RX4, "isCell", "(I)Z"⟩
abbrev cX4_placeOf : ByteArray := prog_6_method_6_code
def yX4_placeOf : MethodName := ⟨RX4, "placeOf", "(II)I"⟩
abbrev cX4_stride : ByteArray := prog_6_method_7_code
def yX4_stride : MethodName := ⟨RX4, "stride", "(I)I"⟩
abbrev cX4_box : ByteArray := prog_6_method_8_code
def yX4_box : MethodName := ⟨RX4, "box", "(III)I"⟩
abbrev cX4_hold : ByteArray := prog_6_method_9_code
def yX4_hold : MethodName := ⟨RX4, "hold", "(II)I"⟩
abbrev cX4_price : ByteArray := prog_6_method_10_code
def yX4_price : MethodName := ⟨RX4, "price", "(II)I"⟩
abbrev cX4_set : ByteArray := prog_6_method_11_code
def yX4_set : MethodName := ⟨RX4, "set", "(II)I"⟩
abbrev cX4_faceCost : ByteArray := prog_6_method_12_code
def yX4_faceCost : MethodName := ⟨RX4, "faceCost", "(III)I"⟩
abbrev cX4_cost : ByteArray := prog_6_method_13_code
def yX4_cost : MethodName := ⟨RX4, "cost", "(III)I"⟩
abbrev cX4_isSet : ByteArray := prog_6_method_14_code
def yX4_isSet : MethodName := ⟨RX4, "isSet", "(J)Z"⟩
abbrev cX4_outsides : ByteArray := prog_6_method_15_code
def yX4_outsides : MethodName := ⟨RX4, "outsides", "(I)I"⟩
abbrev cX4_skinOf : ByteArray := prog_6_method_16_code
def yX4_skinOf : MethodName := ⟨RX4, "skinOf", "(J)J"⟩
abbrev cX4_skin : ByteArray := prog_6_method_17_code
def yX4_skin : MethodName := ⟨RX4, "skin", "(J)J"⟩
abbrev cX4_all : ByteArray := prog_6_method_18_code
def yX4_all : MethodName := ⟨RX4, "all", "(J)J"⟩
abbrev cX4_right : ByteArray := prog_6_method_19_code
def yX4_right : MethodName := ⟨RX4, "right", "(J)I"⟩
abbrev cX4_orders : ByteArray := prog_6_method_20_code
def yX4_orders : MethodName := ⟨RX4, "orders", "()V"⟩
abbrev cX4_cellAt : ByteArray := prog_6_method_21_code
def yX4_cellAt : MethodName := ⟨RX4, "cellAt", "(I)I"⟩
abbrev cX4_adds : ByteArray := prog_6_method_22_code
def yX4_adds : MethodName := ⟨RX4, "adds", "(IIII)I"⟩
abbrev cX4_finds : ByteArray := prog_6_method_23_code
def yX4_finds : MethodName := ⟨RX4, "finds", "(II)V"⟩
abbrev cX4_least : ByteArray := prog_6_method_24_code
def yX4_least : MethodName := ⟨RX4, "least", "()J"⟩
abbrev cX4_film : ByteArray := prog_6_method_25_code
def yX4_film : MethodName := ⟨RX4, "film", "(I)J"⟩
abbrev cX4_room : ByteArray := prog_6_method_26_code
def yX4_room : MethodName := ⟨RX4, "room", "(II)I"⟩
abbrev cX4_free : ByteArray := prog_6_method_27_code
def yX4_free : MethodName := ⟨RX4, "free", "()I"⟩
abbrev cX4_many : ByteArray := prog_6_method_28_code
def yX4_many : MethodName := ⟨RX4, "many", "()I"⟩
abbrev cX4_pins : ByteArray := prog_6_method_29_code
def yX4_pins : MethodName := ⟨RX4, "pins", "()V"⟩
abbrev cX4_isPoint : ByteArray := prog_6_method_30_code
def yX4_isPoint : MethodName := ⟨RX4, "isPoint", "(II)Z"⟩
abbrev cX4_net : ByteArray := prog_6_method_31_code
def yX4_net : MethodName := ⟨RX4, "net", "(II)I"⟩
abbrev cX4_lift : ByteArray := prog_6_method_32_code
def yX4_lift : MethodName := ⟨RX4, "lift", "(III)I"⟩
abbrev cX4_pin : ByteArray := prog_6_method_33_code
def yX4_pin : MethodName := ⟨RX4, "pin", "(IIZ)I"⟩
abbrev cX4_height : ByteArray := prog_6_method_34_code
def yX4_height : MethodName := ⟨RX4, "height", "(II)I"⟩
abbrev cX4_size : ByteArray := prog_6_method_35_code
def yX4_size : MethodName := ⟨RX4, "size", "(I)I"⟩
abbrev cX4_drawn : ByteArray := prog_6_method_36_code
def yX4_drawn : MethodName := ⟨RX4, "drawn", "()I"⟩
abbrev cX4_puts : ByteArray := prog_6_method_37_code
def yX4_puts : MethodName := ⟨RX4, "puts", "(II)I"⟩
abbrev cX4_stepOf : ByteArray := prog_6_method_38_code
def yX4_stepOf : MethodName := ⟨RX4, "stepOf", "(II)I"⟩
abbrev cX4_slackOf : ByteArray := prog_6_method_39_code
def yX4_slackOf : MethodName := ⟨RX4, "slackOf", "()I"⟩
abbrev cX4_slack : ByteArray := prog_6_method_40_code
def yX4_slack : MethodName := ⟨RX4, "slack", "()I"⟩
abbrev cX4_rounds : ByteArray := prog_6_method_41_code
def yX4_rounds : MethodName := ⟨RX4, "rounds", "(I)I"⟩
abbrev cX4_count : ByteArray := prog_6_method_42_code
def yX4_count : MethodName := ⟨RX4, "count", "(I)I"⟩
abbrev cX4_trace : ByteArray := prog_6_method_43_code
def yX4_trace : MethodName := ⟨RX4, "trace", "()J"⟩
def RJ6 : String := "java/lang/Integer"
def TJ6 : u_T := fun k => match k with
  | _ => ("", "", "", false)
def tyJ6 : Nat → FieldType := fun k => match k with
  | _ => .int
abbrev wsJ60 : List Cond := u_ws RJ6 TJ6 0
theorem nmJ6 : ∀ a, a < 0 → ∀ b, b < 0 → a ≠ b → (TJ6 a).2.1 ≠ (TJ6 b).2.1 := by decide +kernel
theorem tyJ6_ok : ∀ k, k < 0 → parseFieldDescriptor (TJ6 k).2.2.1 = some (tyJ6 k) := by decide +kernel
abbrev cJ6_bitCount_0f7a4 : ByteArray := prog_7_method_49_code
def yJ6_bitCount_0f7a4 : MethodName := ⟨RJ6, "bitCount", "(I)I"⟩
def RJ13 : String := "java/lang/Long"
def TJ13 : u_T := fun k => match k with
  | _ => ("", "", "", false)
def tyJ13 : Nat → FieldType := fun k => match k with
  | _ => .int
abbrev wsJ130 : List Cond := u_ws RJ13 TJ13 0
theorem nmJ13 : ∀ a, a < 0 → ∀ b, b < 0 → a ≠ b → (TJ13 a).2.1 ≠ (TJ13 b).2.1 := by decide +kernel
theorem tyJ13_ok : ∀ k, k < 0 → parseFieldDescriptor (TJ13 k).2.2.1 = some (tyJ13 k) := by decide +kernel
abbrev cJ13_bitCount_95d88 : ByteArray := prog_8_method_50_code
def yJ13_bitCount_95d88 : MethodName := ⟨RJ13, "bitCount", "(J)I"⟩
def RJ9 : String := "java/lang/Math"
def TJ9 : u_T := fun k => match k with
  | _ => ("", "", "", false)
def tyJ9 : Nat → FieldType := fun k => match k with
  | _ => .int
abbrev wsJ90 : List Cond := u_ws RJ9 TJ9 0
theorem nmJ9 : ∀ a, a < 0 → ∀ b, b < 0 → a ≠ b → (TJ9 a).2.1 ≠ (TJ9 b).2.1 := by decide +kernel
theorem tyJ9_ok : ∀ k, k < 0 → parseFieldDescriptor (TJ9 k).2.2.1 = some (tyJ9 k) := by decide +kernel
abbrev cJ9_abs_0f7a4 : ByteArray := prog_9_method_59_code
def yJ9_abs_0f7a4 : MethodName := ⟨RJ9, "abs", "(I)I"⟩
abbrev cJ9_max_7cf53 : ByteArray := prog_9_method_65_code
def yJ9_max_7cf53 : MethodName := ⟨RJ9, "max", "(II)I"⟩
abbrev cJ9_min_7cf53 : ByteArray := prog_9_method_69_code
def yJ9_min_7cf53 : MethodName := ⟨RJ9, "min", "(II)I"⟩
def RJ7 : String := "java/util/Arrays"
def TJ7 : u_T := fun k => match k with
  | _ => ("", "", "", false)
def tyJ7 : Nat → FieldType := fun k => match k with
  | _ => .int
abbrev wsJ70 : List Cond := u_ws RJ7 TJ7 0
theorem nmJ7 : ∀ a, a < 0 → ∀ b, b < 0 → a ≠ b → (TJ7 a).2.1 ≠ (TJ7 b).2.1 := by decide +kernel
theorem tyJ7_ok : ∀ k, k < 0 → parseFieldDescriptor (TJ7 k).2.2.1 = some (tyJ7 k) := by decide +kernel
abbrev cJ7_fill_53178 : ByteArray := prog_10_method_103_code
def yJ7_fill_53178 : MethodName := ⟨RJ7, "fill", "([II)V"⟩
def RL : String := "SkinBoxLaw"
abbrev cL_law : ByteArray := code
def yL_law : MethodName := ⟨RL, "law", "([I)Z"⟩
def wsJ7_fill_53178 : List Cond := .code yJ7_fill_53178 cJ7_fill_53178 4 none :: ([])
def wsX0_layAlong : List Cond := .code yX0_layAlong cX0_layAlong 6 none :: ([.fieldLink RX0 24 "SkinBox$Cells" "places" "[I", .fieldLink RX0 27 "SkinBox$Cells" "beyond" "[I", .fieldLink RX0 9 "SkinBox$Cells" "sides" "[I"] ++ wsX00)
def wsX0_lay : List Cond := .code yX0_lay cX0_lay 8 none :: ([.fieldLink RX0 9 "SkinBox$Cells" "sides" "[I", .fieldLink RX0 30 "SkinBox$Cells" "size" "I", .fieldLink RX0 15 "SkinBox$Cells" "held" "[I", .fieldLink RX0 18 "SkinBox$Cells" "prices" "[I", .methodLink RX0 38 yJ7_fill_53178, .static yJ7_fill_53178, .initialized RJ7, .code yJ7_fill_53178 cJ7_fill_53178 4 none, .methodLink RX0 44 yX0_layAlong, .instanceMethod yX0_layAlong, .selects RX0 yX0_layAlong yX0_layAlong, .initialized RX0, .code yX0_layAlong cX0_layAlong 6 none, .fieldLink RX0 24 "SkinBox$Cells" "places" "[I", .fieldLink RX0 27 "SkinBox$Cells" "beyond" "[I"] ++ wsX00)
def wsX0_init : List Cond := .code yX0_init cX0_init 1 none :: ([.methodLink RX0 3 objectInit, .instanceMethod objectInit, .code objectInit ⟨#[0xb1]⟩ 1 none, .arrayClass .int, .fieldLink RX0 9 "SkinBox$Cells" "sides" "[I", .fieldLink RX0 15 "SkinBox$Cells" "held" "[I", .fieldLink RX0 18 "SkinBox$Cells" "prices" "[I", .fieldLink RX0 21 "SkinBox$Cells" "rules" "[I", .fieldLink RX0 24 "SkinBox$Cells" "places" "[I", .fieldLink RX0 27 "SkinBox$Cells" "beyond" "[I", .fieldLink RX0 30 "SkinBox$Cells" "size" "I", .methodLink RX0 34 yX0_lay, .instanceMethod yX0_lay, .selects RX0 yX0_lay yX0_lay, .initialized RX0, .code yX0_lay cX0_lay 8 none, .methodLink RX0 38 yJ7_fill_53178, .static yJ7_fill_53178, .initialized RJ7, .code yJ7_fill_53178 cJ7_fill_53178 4 none, .methodLink RX0 44 yX0_layAlong, .instanceMethod yX0_layAlong, .selects RX0 yX0_layAlong yX0_layAlong, .code yX0_layAlong cX0_layAlong 6 none] ++ wsX00)
def wsX0_has : List Cond := .code yX0_has cX0_has 2 (some .boolean) :: ([.fieldLink RX0 30 "SkinBox$Cells" "size" "I"] ++ wsX00)
def wsX0_every : List Cond := .code yX0_every cX0_every 1 (some .long) :: ([.fieldLink RX0 30 "SkinBox$Cells" "size" "I"] ++ wsX00)
def wsX0_isSet : List Cond := .code yX0_isSet cX0_isSet 3 (some .boolean) :: ([.constantLong RX0 52 (-1), .methodLink RX0 48 yX0_every, .instanceMethod yX0_every, .selects RX0 yX0_every yX0_every, .initialized RX0, .code yX0_every cX0_every 1 (some .long), .fieldLink RX0 30 "SkinBox$Cells" "size" "I"] ++ wsX00)
def wsX0_freeCells : List Cond := .code yX0_freeCells cX0_freeCells 3 (some .int) :: ([.fieldLink RX0 30 "SkinBox$Cells" "size" "I", .fieldLink RX0 15 "SkinBox$Cells" "held" "[I"] ++ wsX00)
def wsX0_sideTowards : List Cond := .code yX0_sideTowards cX0_sideTowards 4 (some .int) :: ([.fieldLink RX0 27 "SkinBox$Cells" "beyond" "[I"] ++ wsX00)
def wsX0_seamCost : List Cond := .code yX0_seamCost cX0_seamCost 7 (some .int) :: ([.fieldLink RX0 24 "SkinBox$Cells" "places" "[I", .fieldLink RX0 21 "SkinBox$Cells" "rules" "[I", .methodLink RX0 54 Lib.Math.min.name, .static Lib.Math.min.name, .initialized "java/lang/Math", .code Lib.Math.min.name Lib.Math.min.code 2 (some .int)] ++ wsX00)
def wsX0_ownCost : List Cond := .code yX0_ownCost cX0_ownCost 4 (some .int) :: ([.fieldLink RX0 18 "SkinBox$Cells" "prices" "[I", .fieldLink RX0 27 "SkinBox$Cells" "beyond" "[I", .fieldLink RX0 21 "SkinBox$Cells" "rules" "[I"] ++ wsX00)
def wsX0_holds : List Cond := .code yX0_holds cX0_holds 3 (some .boolean) :: ([])
def wsX0_seamsGrowth : List Cond := .code yX0_seamsGrowth cX0_seamsGrowth 8 (some .int) :: ([.fieldLink RX0 27 "SkinBox$Cells" "beyond" "[I", .fieldLink RX0 21 "SkinBox$Cells" "rules" "[I", .methodLink RX0 60 yX0_seamCost, .instanceMethod yX0_seamCost, .selects RX0 yX0_seamCost yX0_seamCost, .initialized RX0, .code yX0_seamCost cX0_seamCost 7 (some .int), .fieldLink RX0 24 "SkinBox$Cells" "places" "[I", .methodLink RX0 54 Lib.Math.min.name, .static Lib.Math.min.name, .initialized "java/lang/Math", .code Lib.Math.min.name Lib.Math.min.code 2 (some .int), .methodLink RX0 64 yX0_holds, .static yX0_holds, .code yX0_holds cX0_holds 3 (some .boolean)] ++ wsX00)
def wsX0_skinOfCell : List Cond := .code yX0_skinOfCell cX0_skinOfCell 7 (some .int) :: ([.fieldLink RX0 27 "SkinBox$Cells" "beyond" "[I", .fieldLink RX0 21 "SkinBox$Cells" "rules" "[I", .methodLink RX0 64 yX0_holds, .static yX0_holds, .initialized RX0, .code yX0_holds cX0_holds 3 (some .boolean), .methodLink RX0 60 yX0_seamCost, .instanceMethod yX0_seamCost, .selects RX0 yX0_seamCost yX0_seamCost, .code yX0_seamCost cX0_seamCost 7 (some .int), .fieldLink RX0 24 "SkinBox$Cells" "places" "[I", .methodLink RX0 54 Lib.Math.min.name, .static Lib.Math.min.name, .initialized "java/lang/Math", .code Lib.Math.min.name Lib.Math.min.code 2 (some .int)] ++ wsX00)
def wsX0_skinOf : List Cond := .code yX0_skinOf cX0_skinOf 6 (some .long) :: ([.fieldLink RX0 30 "SkinBox$Cells" "size" "I", .methodLink RX0 64 yX0_holds, .static yX0_holds, .initialized RX0, .code yX0_holds cX0_holds 3 (some .boolean), .methodLink RX0 68 yX0_skinOfCell, .instanceMethod yX0_skinOfCell, .selects RX0 yX0_skinOfCell yX0_skinOfCell, .code yX0_skinOfCell cX0_skinOfCell 7 (some .int), .fieldLink RX0 27 "SkinBox$Cells" "beyond" "[I", .fieldLink RX0 21 "SkinBox$Cells" "rules" "[I", .methodLink RX0 60 yX0_seamCost, .instanceMethod yX0_seamCost, .selects RX0 yX0_seamCost yX0_seamCost, .code yX0_seamCost cX0_seamCost 7 (some .int), .fieldLink RX0 24 "SkinBox$Cells" "places" "[I", .methodLink RX0 54 Lib.Math.min.name, .static Lib.Math.min.name, .initialized "java/lang/Math", .code Lib.Math.min.name Lib.Math.min.code 2 (some .int)] ++ wsX00)
def wsX0_pricesOf : List Cond := .code yX0_pricesOf cX0_pricesOf 6 (some .long) :: ([.fieldLink RX0 30 "SkinBox$Cells" "size" "I", .fieldLink RX0 18 "SkinBox$Cells" "prices" "[I", .methodLink RX0 64 yX0_holds, .static yX0_holds, .initialized RX0, .code yX0_holds cX0_holds 3 (some .boolean)] ++ wsX00)
def wsX0_isRight : List Cond := .code yX0_isRight cX0_isRight 4 (some .boolean) :: ([.fieldLink RX0 30 "SkinBox$Cells" "size" "I", .fieldLink RX0 15 "SkinBox$Cells" "held" "[I", .methodLink RX0 64 yX0_holds, .static yX0_holds, .initialized RX0, .code yX0_holds cX0_holds 3 (some .boolean)] ++ wsX00)
def wsX1_init_r1 : List Cond := [Cond.methodLink RX1 3 objectInit, Cond.instanceMethod objectInit, Cond.code objectInit ⟨#[0xb1]⟩ 1 none, Cond.classLink RX1 9 RX0, Cond.instantiable RX0 7, Cond.initialized RX0, Cond.fieldLink RX1 12 "SkinBox$Flow" "cells" "LSkinBox$Cells;", Cond.arrayClass .int, Cond.fieldLink RX1 18 "SkinBox$Flow" "springs" "[I", Cond.fieldLink RX1 22 "SkinBox$Flow" "drains" "[I", Cond.fieldLink RX1 25 "SkinBox$Flow" "passes" "[I", Cond.fieldLink RX1 28 "SkinBox$Flow" "cameFrom" "[I", Cond.fieldLink RX1 31 "SkinBox$Flow" "cameBy" "[I", Cond.fieldLink RX1 34 "SkinBox$Flow" "queue" "[I", Cond.fieldLink RX1 37 "SkinBox$Flow" "queued" "I", Cond.fieldLink RX1 41 "SkinBox$Flow" "settled" "Z", Cond.fieldLink RX1 45 "SkinBox$Flow" "settledRise" "I", Cond.fieldLink RX1 48 "SkinBox$Flow" "amount" "J", Cond.fieldLink RX1 52 "SkinBox$Flow" "lowest" "J", Cond.fieldLink RX1 55 "SkinBox$Flow" "highest" "J", Cond.methodLink RX1 11 yX0_init, Cond.instanceMethod yX0_init, Cond.code yX0_init cX0_init 1 none, Cond.methodLink RX0 3 objectInit]
def wsX1_init_r2 : List Cond := [Cond.fieldLink RX0 9 "SkinBox$Cells" "sides" "[I", Cond.fieldLink RX0 15 "SkinBox$Cells" "held" "[I", Cond.fieldLink RX0 18 "SkinBox$Cells" "prices" "[I", Cond.fieldLink RX0 21 "SkinBox$Cells" "rules" "[I", Cond.fieldLink RX0 24 "SkinBox$Cells" "places" "[I", Cond.fieldLink RX0 27 "SkinBox$Cells" "beyond" "[I", Cond.fieldLink RX0 30 "SkinBox$Cells" "size" "I", Cond.methodLink RX0 34 yX0_lay, Cond.instanceMethod yX0_lay, Cond.selects RX0 yX0_lay yX0_lay, Cond.code yX0_lay cX0_lay 8 none, Cond.methodLink RX0 38 yJ7_fill_53178, Cond.static yJ7_fill_53178, Cond.initialized RJ7, Cond.code yJ7_fill_53178 cJ7_fill_53178 4 none, Cond.methodLink RX0 44 yX0_layAlong, Cond.instanceMethod yX0_layAlong, Cond.selects RX0 yX0_layAlong yX0_layAlong, Cond.code yX0_layAlong cX0_layAlong 6 none]
def wsX1_init : List Cond := .code yX1_init cX1_init 1 none :: ((wsX1_init_r1 ++ wsX1_init_r2) ++ wsX00 ++ wsX10)
def wsX1_forget : List Cond := .code yX1_forget cX1_forget 1 none :: ([.fieldLink RX1 41 "SkinBox$Flow" "settled" "Z"] ++ wsX10)
def wsX1_openCell : List Cond := .code yX1_openCell cX1_openCell 3 none :: ([.fieldLink RX1 18 "SkinBox$Flow" "springs" "[I", .fieldLink RX1 22 "SkinBox$Flow" "drains" "[I", .fieldLink RX1 12 "SkinBox$Flow" "cells" "LSkinBox$Cells;", .fieldLink RX1 103 "SkinBox$Cells" "held" "[I", .constant RX1 66 (1000000), .fieldLink RX1 48 "SkinBox$Flow" "amount" "J"] ++ wsX10 ++ wsX00)
def wsX1_open_r1 : List Cond := [Cond.fieldLink RX1 48 "SkinBox$Flow" "amount" "J", Cond.fieldLink RX1 12 "SkinBox$Flow" "cells" "LSkinBox$Cells;", Cond.fieldLink RX1 82 "SkinBox$Cells" "size" "I", Cond.fieldLink RX1 25 "SkinBox$Flow" "passes" "[I", Cond.fieldLink RX1 93 "SkinBox$Cells" "beyond" "[I", Cond.fieldLink RX1 96 "SkinBox$Cells" "rules" "[I", Cond.methodLink RX1 85 yX0_ownCost, Cond.instanceMethod yX0_ownCost, Cond.selects RX0 yX0_ownCost yX0_ownCost, Cond.initialized RX0, Cond.code yX0_ownCost cX0_ownCost 4 (some .int), Cond.fieldLink RX0 18 "SkinBox$Cells" "prices" "[I", Cond.fieldLink RX0 27 "SkinBox$Cells" "beyond" "[I", Cond.fieldLink RX0 21 "SkinBox$Cells" "rules" "[I", Cond.methodLink RX1 89 yX1_openCell, Cond.instanceMethod yX1_openCell, Cond.selects RX1 yX1_openCell yX1_openCell, Cond.initialized RX1, Cond.code yX1_openCell cX1_openCell 3 none, Cond.fieldLink RX1 18 "SkinBox$Flow" "springs" "[I", Cond.fieldLink RX1 22 "SkinBox$Flow" "drains" "[I", Cond.fieldLink RX1 103 "SkinBox$Cells" "held" "[I", Cond.constant RX1 66 (1000000), Cond.methodLink RX1 99 yX0_seamCost]
def wsX1_open_r2 : List Cond := [Cond.instanceMethod yX0_seamCost, Cond.selects RX0 yX0_seamCost yX0_seamCost, Cond.code yX0_seamCost cX0_seamCost 7 (some .int), Cond.fieldLink RX0 24 "SkinBox$Cells" "places" "[I", Cond.methodLink RX0 54 Lib.Math.min.name, Cond.static Lib.Math.min.name, Cond.initialized "java/lang/Math", Cond.code Lib.Math.min.name Lib.Math.min.code 2 (some .int)]
def wsX1_open : List Cond := .code yX1_open cX1_open 4 none :: ((wsX1_open_r1 ++ wsX1_open_r2) ++ wsX10 ++ wsX00)
def wsX1_see : List Cond := .code yX1_see cX1_see 3 none :: ([.fieldLink RX1 31 "SkinBox$Flow" "cameBy" "[I", .fieldLink RX1 37 "SkinBox$Flow" "queued" "I", .fieldLink RX1 34 "SkinBox$Flow" "queue" "[I"] ++ wsX10)
def wsX1_startAt : List Cond := .code yX1_startAt cX1_startAt 3 none :: ([.fieldLink RX1 37 "SkinBox$Flow" "queued" "I", .fieldLink RX1 12 "SkinBox$Flow" "cells" "LSkinBox$Cells;", .fieldLink RX1 82 "SkinBox$Cells" "size" "I", .fieldLink RX1 31 "SkinBox$Flow" "cameBy" "[I", .methodLink RX1 110 yX1_see, .instanceMethod yX1_see, .selects RX1 yX1_see yX1_see, .initialized RX1, .code yX1_see cX1_see 3 none, .fieldLink RX1 34 "SkinBox$Flow" "queue" "[I"] ++ wsX10 ++ wsX00)
def wsX1_search : List Cond := .code yX1_search cX1_search 5 (some .int) :: ([.fieldLink RX1 18 "SkinBox$Flow" "springs" "[I", .fieldLink RX1 37 "SkinBox$Flow" "queued" "I", .fieldLink RX1 34 "SkinBox$Flow" "queue" "[I", .fieldLink RX1 22 "SkinBox$Flow" "drains" "[I", .fieldLink RX1 12 "SkinBox$Flow" "cells" "LSkinBox$Cells;", .fieldLink RX1 93 "SkinBox$Cells" "beyond" "[I", .fieldLink RX1 31 "SkinBox$Flow" "cameBy" "[I", .fieldLink RX1 25 "SkinBox$Flow" "passes" "[I", .fieldLink RX1 28 "SkinBox$Flow" "cameFrom" "[I", .methodLink RX1 106 yX1_startAt, .instanceMethod yX1_startAt, .selects RX1 yX1_startAt yX1_startAt, .initialized RX1, .code yX1_startAt cX1_startAt 3 none, .fieldLink RX1 82 "SkinBox$Cells" "size" "I", .methodLink RX1 110 yX1_see, .instanceMethod yX1_see, .selects RX1 yX1_see yX1_see, .code yX1_see cX1_see 3 none] ++ wsX10 ++ wsX00)
def wsX1_pushTo : List Cond := .code yX1_pushTo cX1_pushTo 5 none :: ([.fieldLink RX1 22 "SkinBox$Flow" "drains" "[I", .fieldLink RX1 31 "SkinBox$Flow" "cameBy" "[I", .fieldLink RX1 25 "SkinBox$Flow" "passes" "[I", .fieldLink RX1 28 "SkinBox$Flow" "cameFrom" "[I", .methodLink RX1 113 Lib.Math.min.name, .static Lib.Math.min.name, .initialized "java/lang/Math", .code Lib.Math.min.name Lib.Math.min.code 2 (some .int), .fieldLink RX1 18 "SkinBox$Flow" "springs" "[I", .fieldLink RX1 48 "SkinBox$Flow" "amount" "J"] ++ wsX10)
def wsX1_seen : List Cond := .code yX1_seen cX1_seen 4 (some .long) :: ([.fieldLink RX1 12 "SkinBox$Flow" "cells" "LSkinBox$Cells;", .fieldLink RX1 82 "SkinBox$Cells" "size" "I", .fieldLink RX1 31 "SkinBox$Flow" "cameBy" "[I"] ++ wsX10 ++ wsX00)
def wsX1_searchBack : List Cond := .code yX1_searchBack cX1_searchBack 5 none :: ([.fieldLink RX1 22 "SkinBox$Flow" "drains" "[I", .fieldLink RX1 37 "SkinBox$Flow" "queued" "I", .fieldLink RX1 34 "SkinBox$Flow" "queue" "[I", .fieldLink RX1 12 "SkinBox$Flow" "cells" "LSkinBox$Cells;", .fieldLink RX1 93 "SkinBox$Cells" "beyond" "[I", .fieldLink RX1 31 "SkinBox$Flow" "cameBy" "[I", .fieldLink RX1 25 "SkinBox$Flow" "passes" "[I", .methodLink RX1 106 yX1_startAt, .instanceMethod yX1_startAt, .selects RX1 yX1_startAt yX1_startAt, .initialized RX1, .code yX1_startAt cX1_startAt 3 none, .fieldLink RX1 82 "SkinBox$Cells" "size" "I", .methodLink RX1 110 yX1_see, .instanceMethod yX1_see, .selects RX1 yX1_see yX1_see, .code yX1_see cX1_see 3 none] ++ wsX10 ++ wsX00)
def wsX1_settle_r1 : List Cond := [Cond.fieldLink RX1 41 "SkinBox$Flow" "settled" "Z", Cond.fieldLink RX1 45 "SkinBox$Flow" "settledRise" "I", Cond.constant RX1 66 (1000000), Cond.fieldLink RX1 52 "SkinBox$Flow" "lowest" "J", Cond.fieldLink RX1 12 "SkinBox$Flow" "cells" "LSkinBox$Cells;", Cond.constantLong RX1 80 (-1), Cond.fieldLink RX1 55 "SkinBox$Flow" "highest" "J", Cond.methodLink RX1 58 yX1_open, Cond.instanceMethod yX1_open, Cond.selects RX1 yX1_open yX1_open, Cond.initialized RX1, Cond.code yX1_open cX1_open 4 none, Cond.fieldLink RX1 48 "SkinBox$Flow" "amount" "J", Cond.fieldLink RX1 82 "SkinBox$Cells" "size" "I", Cond.fieldLink RX1 25 "SkinBox$Flow" "passes" "[I", Cond.fieldLink RX1 93 "SkinBox$Cells" "beyond" "[I", Cond.fieldLink RX1 96 "SkinBox$Cells" "rules" "[I", Cond.methodLink RX1 85 yX0_ownCost, Cond.instanceMethod yX0_ownCost, Cond.selects RX0 yX0_ownCost yX0_ownCost, Cond.initialized RX0, Cond.code yX0_ownCost cX0_ownCost 4 (some .int), Cond.fieldLink RX0 18 "SkinBox$Cells" "prices" "[I", Cond.fieldLink RX0 27 "SkinBox$Cells" "beyond" "[I"]
def wsX1_settle_r2 : List Cond := [Cond.fieldLink RX0 21 "SkinBox$Cells" "rules" "[I", Cond.methodLink RX1 89 yX1_openCell, Cond.instanceMethod yX1_openCell, Cond.selects RX1 yX1_openCell yX1_openCell, Cond.code yX1_openCell cX1_openCell 3 none, Cond.fieldLink RX1 18 "SkinBox$Flow" "springs" "[I", Cond.fieldLink RX1 22 "SkinBox$Flow" "drains" "[I", Cond.fieldLink RX1 103 "SkinBox$Cells" "held" "[I", Cond.methodLink RX1 99 yX0_seamCost, Cond.instanceMethod yX0_seamCost, Cond.selects RX0 yX0_seamCost yX0_seamCost, Cond.code yX0_seamCost cX0_seamCost 7 (some .int), Cond.fieldLink RX0 24 "SkinBox$Cells" "places" "[I", Cond.methodLink RX0 54 Lib.Math.min.name, Cond.static Lib.Math.min.name, Cond.initialized "java/lang/Math", Cond.code Lib.Math.min.name Lib.Math.min.code 2 (some .int), Cond.methodLink RX1 62 yX1_search, Cond.instanceMethod yX1_search, Cond.selects RX1 yX1_search yX1_search, Cond.code yX1_search cX1_search 5 (some .int), Cond.fieldLink RX1 37 "SkinBox$Flow" "queued" "I", Cond.fieldLink RX1 34 "SkinBox$Flow" "queue" "[I", Cond.fieldLink RX1 31 "SkinBox$Flow" "cameBy" "[I"]
def wsX1_settle_r3 : List Cond := [Cond.fieldLink RX1 28 "SkinBox$Flow" "cameFrom" "[I", Cond.methodLink RX1 106 yX1_startAt, Cond.instanceMethod yX1_startAt, Cond.selects RX1 yX1_startAt yX1_startAt, Cond.code yX1_startAt cX1_startAt 3 none, Cond.methodLink RX1 110 yX1_see, Cond.instanceMethod yX1_see, Cond.selects RX1 yX1_see yX1_see, Cond.code yX1_see cX1_see 3 none, Cond.methodLink RX1 67 yX1_pushTo, Cond.instanceMethod yX1_pushTo, Cond.selects RX1 yX1_pushTo yX1_pushTo, Cond.code yX1_pushTo cX1_pushTo 5 none, Cond.methodLink RX1 113 Lib.Math.min.name, Cond.methodLink RX1 70 yX1_seen, Cond.instanceMethod yX1_seen, Cond.selects RX1 yX1_seen yX1_seen, Cond.code yX1_seen cX1_seen 4 (some .long), Cond.methodLink RX1 74 yX1_searchBack, Cond.instanceMethod yX1_searchBack, Cond.selects RX1 yX1_searchBack yX1_searchBack, Cond.code yX1_searchBack cX1_searchBack 5 none, Cond.methodLink RX1 77 yX0_every, Cond.instanceMethod yX0_every]
def wsX1_settle_r4 : List Cond := [Cond.selects RX0 yX0_every yX0_every, Cond.code yX0_every cX0_every 1 (some .long), Cond.fieldLink RX0 30 "SkinBox$Cells" "size" "I"]
def wsX1_settle : List Cond := .code yX1_settle cX1_settle 4 none :: ((wsX1_settle_r1 ++ (wsX1_settle_r2 ++ (wsX1_settle_r3 ++ wsX1_settle_r4))) ++ wsX10 ++ wsX00)
def wsX1_queueOpen : List Cond := .code yX1_queueOpen cX1_queueOpen 3 (some .int) :: ([.fieldLink RX1 12 "SkinBox$Flow" "cells" "LSkinBox$Cells;", .fieldLink RX1 82 "SkinBox$Cells" "size" "I", .fieldLink RX1 55 "SkinBox$Flow" "highest" "J", .fieldLink RX1 52 "SkinBox$Flow" "lowest" "J", .constantLong RX1 80 (-1), .fieldLink RX1 34 "SkinBox$Flow" "queue" "[I", .methodLink RX1 131 yX0_holds, .static yX0_holds, .initialized RX0, .code yX0_holds cX0_holds 3 (some .boolean)] ++ wsX10 ++ wsX00)
def wsJ6_bitCount_0f7a4 : List Cond := .code yJ6_bitCount_0f7a4 cJ6_bitCount_0f7a4 1 (some .int) :: ([.constant RJ6 265 (1431655765), .constant RJ6 266 (858993459), .constant RJ6 267 (252645135)])
def wsX1_leastSets_r1 : List Cond := [Cond.fieldLink RX1 52 "SkinBox$Flow" "lowest" "J", Cond.fieldLink RX1 34 "SkinBox$Flow" "queue" "[I", Cond.fieldLink RX1 12 "SkinBox$Flow" "cells" "LSkinBox$Cells;", Cond.methodLink RX1 119 yX1_queueOpen, Cond.instanceMethod yX1_queueOpen, Cond.selects RX1 yX1_queueOpen yX1_queueOpen, Cond.initialized RX1, Cond.code yX1_queueOpen cX1_queueOpen 3 (some .int), Cond.fieldLink RX1 82 "SkinBox$Cells" "size" "I", Cond.fieldLink RX1 55 "SkinBox$Flow" "highest" "J", Cond.constantLong RX1 80 (-1), Cond.methodLink RX1 131 yX0_holds, Cond.static yX0_holds, Cond.initialized RX0, Cond.code yX0_holds cX0_holds 3 (some .boolean), Cond.methodLink RX1 122 yJ6_bitCount_0f7a4, Cond.static yJ6_bitCount_0f7a4, Cond.initialized RJ6, Cond.code yJ6_bitCount_0f7a4 cJ6_bitCount_0f7a4 1 (some .int), Cond.constant RJ6 265 (1431655765), Cond.constant RJ6 266 (858993459), Cond.constant RJ6 267 (252645135), Cond.methodLink RX1 85 yX0_ownCost, Cond.instanceMethod yX0_ownCost]
def wsX1_leastSets_r2 : List Cond := [Cond.selects RX0 yX0_ownCost yX0_ownCost, Cond.code yX0_ownCost cX0_ownCost 4 (some .int), Cond.fieldLink RX0 18 "SkinBox$Cells" "prices" "[I", Cond.fieldLink RX0 27 "SkinBox$Cells" "beyond" "[I", Cond.fieldLink RX0 21 "SkinBox$Cells" "rules" "[I", Cond.methodLink RX1 127 yX0_seamsGrowth, Cond.instanceMethod yX0_seamsGrowth, Cond.selects RX0 yX0_seamsGrowth yX0_seamsGrowth, Cond.code yX0_seamsGrowth cX0_seamsGrowth 8 (some .int), Cond.methodLink RX0 60 yX0_seamCost, Cond.instanceMethod yX0_seamCost, Cond.selects RX0 yX0_seamCost yX0_seamCost, Cond.code yX0_seamCost cX0_seamCost 7 (some .int), Cond.fieldLink RX0 24 "SkinBox$Cells" "places" "[I", Cond.methodLink RX0 54 Lib.Math.min.name, Cond.static Lib.Math.min.name, Cond.initialized "java/lang/Math", Cond.code Lib.Math.min.name Lib.Math.min.code 2 (some .int), Cond.methodLink RX0 64 yX0_holds]
def wsX1_leastSets : List Cond := .code yX1_leastSets cX1_leastSets 9 (some .int) :: ((wsX1_leastSets_r1 ++ wsX1_leastSets_r2) ++ wsX10 ++ wsX00)
def wsX2_at : List Cond := .code yX2_at cX2_at 3 (some .int) :: ([])
def wsX2_spread : List Cond := .code yX2_spread cX2_spread 5 none :: ([.fieldLink RX2 22 "SkinBox$Points" "wide" "I", .fieldLink RX2 26 "SkinBox$Points" "high" "I", .fieldLink RX2 9 "SkinBox$Points" "heights" "[I", .fieldLink RX2 15 "SkinBox$Points" "pinned" "[Z", .methodLink RX2 33 yJ7_fill_53178, .static yJ7_fill_53178, .initialized RJ7, .code yJ7_fill_53178 cJ7_fill_53178 4 none, .methodLink RX2 39 yX2_at, .instanceMethod yX2_at, .selects RX2 yX2_at yX2_at, .initialized RX2, .code yX2_at cX2_at 3 (some .int)] ++ wsX20)
def wsX2_init : List Cond := .code yX2_init cX2_init 1 none :: ([.methodLink RX2 3 objectInit, .instanceMethod objectInit, .code objectInit ⟨#[0xb1]⟩ 1 none, .arrayClass .int, .fieldLink RX2 9 "SkinBox$Points" "heights" "[I", .arrayClass .boolean, .fieldLink RX2 15 "SkinBox$Points" "pinned" "[Z", .fieldLink RX2 19 "SkinBox$Points" "near" "[I", .fieldLink RX2 22 "SkinBox$Points" "wide" "I", .fieldLink RX2 26 "SkinBox$Points" "high" "I", .methodLink RX2 29 yX2_spread, .instanceMethod yX2_spread, .selects RX2 yX2_spread yX2_spread, .initialized RX2, .code yX2_spread cX2_spread 5 none, .methodLink RX2 33 yJ7_fill_53178, .static yJ7_fill_53178, .initialized RJ7, .code yJ7_fill_53178 cJ7_fill_53178 4 none, .methodLink RX2 39 yX2_at, .instanceMethod yX2_at, .selects RX2 yX2_at yX2_at, .code yX2_at cX2_at 3 (some .int)] ++ wsX20)
def wsX2_has : List Cond := .code yX2_has cX2_has 3 (some .boolean) :: ([.fieldLink RX2 22 "SkinBox$Points" "wide" "I", .fieldLink RX2 26 "SkinBox$Points" "high" "I"] ++ wsX20)
def wsX2_pins : List Cond := .code yX2_pins cX2_pins 4 (some .int) :: ([.fieldLink RX2 26 "SkinBox$Points" "high" "I", .fieldLink RX2 22 "SkinBox$Points" "wide" "I", .fieldLink RX2 15 "SkinBox$Points" "pinned" "[Z", .methodLink RX2 39 yX2_at, .instanceMethod yX2_at, .selects RX2 yX2_at yX2_at, .initialized RX2, .code yX2_at cX2_at 3 (some .int)] ++ wsX20)
def wsX2_difference : List Cond := .code yX2_difference cX2_difference 5 (some .int) :: ([.fieldLink RX2 9 "SkinBox$Points" "heights" "[I", .methodLink RX2 51 Lib.Math.abs.name, .static Lib.Math.abs.name, .initialized "java/lang/Math", .code Lib.Math.abs.name Lib.Math.abs.code 1 (some .int), .methodLink RX2 47 yX2_has, .instanceMethod yX2_has, .selects RX2 yX2_has yX2_has, .initialized RX2, .code yX2_has cX2_has 3 (some .boolean), .fieldLink RX2 22 "SkinBox$Points" "wide" "I", .fieldLink RX2 26 "SkinBox$Points" "high" "I", .methodLink RX2 39 yX2_at, .instanceMethod yX2_at, .selects RX2 yX2_at yX2_at, .code yX2_at cX2_at 3 (some .int)] ++ wsX20)
def wsX2_sumOfDifferences : List Cond := .code yX2_sumOfDifferences cX2_sumOfDifferences 4 (some .int) :: ([.fieldLink RX2 26 "SkinBox$Points" "high" "I", .fieldLink RX2 22 "SkinBox$Points" "wide" "I", .methodLink RX2 43 yX2_difference, .instanceMethod yX2_difference, .selects RX2 yX2_difference yX2_difference, .initialized RX2, .code yX2_difference cX2_difference 5 (some .int), .fieldLink RX2 9 "SkinBox$Points" "heights" "[I", .methodLink RX2 51 Lib.Math.abs.name, .static Lib.Math.abs.name, .initialized "java/lang/Math", .code Lib.Math.abs.name Lib.Math.abs.code 1 (some .int), .methodLink RX2 47 yX2_has, .instanceMethod yX2_has, .selects RX2 yX2_has yX2_has, .code yX2_has cX2_has 3 (some .boolean), .methodLink RX2 39 yX2_at, .instanceMethod yX2_at, .selects RX2 yX2_at yX2_at, .code yX2_at cX2_at 3 (some .int)] ++ wsX20)
def wsX2_putInOrder : List Cond := .code yX2_putInOrder cX2_putInOrder 6 (some .int) :: ([.fieldLink RX2 9 "SkinBox$Points" "heights" "[I", .fieldLink RX2 19 "SkinBox$Points" "near" "[I", .methodLink RX2 47 yX2_has, .instanceMethod yX2_has, .selects RX2 yX2_has yX2_has, .initialized RX2, .code yX2_has cX2_has 3 (some .boolean), .fieldLink RX2 22 "SkinBox$Points" "wide" "I", .fieldLink RX2 26 "SkinBox$Points" "high" "I", .methodLink RX2 39 yX2_at, .instanceMethod yX2_at, .selects RX2 yX2_at yX2_at, .code yX2_at cX2_at 3 (some .int)] ++ wsX20)
def wsX2_stepped_r1 : List Cond := [Cond.fieldLink RX2 9 "SkinBox$Points" "heights" "[I", Cond.fieldLink RX2 15 "SkinBox$Points" "pinned" "[Z", Cond.fieldLink RX2 19 "SkinBox$Points" "near" "[I", Cond.methodLink RX2 68 Lib.Math.min.name, Cond.static Lib.Math.min.name, Cond.initialized "java/lang/Math", Cond.code Lib.Math.min.name Lib.Math.min.code 2 (some .int), Cond.methodLink RX2 71 Lib.Math.max.name, Cond.static Lib.Math.max.name, Cond.code Lib.Math.max.name Lib.Math.max.code 2 (some .int), Cond.methodLink RX2 39 yX2_at, Cond.instanceMethod yX2_at, Cond.selects RX2 yX2_at yX2_at, Cond.initialized RX2, Cond.code yX2_at cX2_at 3 (some .int), Cond.methodLink RX2 64 yX2_putInOrder, Cond.instanceMethod yX2_putInOrder, Cond.selects RX2 yX2_putInOrder yX2_putInOrder, Cond.code yX2_putInOrder cX2_putInOrder 6 (some .int), Cond.methodLink RX2 47 yX2_has, Cond.instanceMethod yX2_has, Cond.selects RX2 yX2_has yX2_has, Cond.code yX2_has cX2_has 3 (some .boolean), Cond.fieldLink RX2 22 "SkinBox$Points" "wide" "I"]
def wsX2_stepped_r2 : List Cond := [Cond.fieldLink RX2 26 "SkinBox$Points" "high" "I"]
def wsX2_stepped : List Cond := .code yX2_stepped cX2_stepped 7 (some .int) :: ((wsX2_stepped_r1 ++ wsX2_stepped_r2) ++ wsX20)
def wsX2_sumOfChanges_r1 : List Cond := [Cond.fieldLink RX2 26 "SkinBox$Points" "high" "I", Cond.fieldLink RX2 22 "SkinBox$Points" "wide" "I", Cond.fieldLink RX2 9 "SkinBox$Points" "heights" "[I", Cond.methodLink RX2 51 Lib.Math.abs.name, Cond.static Lib.Math.abs.name, Cond.initialized "java/lang/Math", Cond.code Lib.Math.abs.name Lib.Math.abs.code 1 (some .int), Cond.methodLink RX2 57 yX2_stepped, Cond.instanceMethod yX2_stepped, Cond.selects RX2 yX2_stepped yX2_stepped, Cond.initialized RX2, Cond.code yX2_stepped cX2_stepped 7 (some .int), Cond.fieldLink RX2 15 "SkinBox$Points" "pinned" "[Z", Cond.fieldLink RX2 19 "SkinBox$Points" "near" "[I", Cond.methodLink RX2 68 Lib.Math.min.name, Cond.static Lib.Math.min.name, Cond.code Lib.Math.min.name Lib.Math.min.code 2 (some .int), Cond.methodLink RX2 71 Lib.Math.max.name, Cond.static Lib.Math.max.name, Cond.code Lib.Math.max.name Lib.Math.max.code 2 (some .int), Cond.methodLink RX2 39 yX2_at, Cond.instanceMethod yX2_at, Cond.selects RX2 yX2_at yX2_at, Cond.code yX2_at cX2_at 3 (some .int)]
def wsX2_sumOfChanges_r2 : List Cond := [Cond.methodLink RX2 64 yX2_putInOrder, Cond.instanceMethod yX2_putInOrder, Cond.selects RX2 yX2_putInOrder yX2_putInOrder, Cond.code yX2_putInOrder cX2_putInOrder 6 (some .int), Cond.methodLink RX2 47 yX2_has, Cond.instanceMethod yX2_has, Cond.selects RX2 yX2_has yX2_has, Cond.code yX2_has cX2_has 3 (some .boolean)]
def wsX2_sumOfChanges : List Cond := .code yX2_sumOfChanges cX2_sumOfChanges 4 (some .int) :: ((wsX2_sumOfChanges_r1 ++ wsX2_sumOfChanges_r2) ++ wsX20)
def wsX2_isAtRest_r1 : List Cond := [Cond.methodLink RX2 60 yX2_sumOfChanges, Cond.instanceMethod yX2_sumOfChanges, Cond.selects RX2 yX2_sumOfChanges yX2_sumOfChanges, Cond.initialized RX2, Cond.code yX2_sumOfChanges cX2_sumOfChanges 4 (some .int), Cond.fieldLink RX2 26 "SkinBox$Points" "high" "I", Cond.fieldLink RX2 22 "SkinBox$Points" "wide" "I", Cond.fieldLink RX2 9 "SkinBox$Points" "heights" "[I", Cond.methodLink RX2 51 Lib.Math.abs.name, Cond.static Lib.Math.abs.name, Cond.initialized "java/lang/Math", Cond.code Lib.Math.abs.name Lib.Math.abs.code 1 (some .int), Cond.methodLink RX2 57 yX2_stepped, Cond.instanceMethod yX2_stepped, Cond.selects RX2 yX2_stepped yX2_stepped, Cond.code yX2_stepped cX2_stepped 7 (some .int), Cond.fieldLink RX2 15 "SkinBox$Points" "pinned" "[Z", Cond.fieldLink RX2 19 "SkinBox$Points" "near" "[I", Cond.methodLink RX2 68 Lib.Math.min.name, Cond.static Lib.Math.min.name, Cond.code Lib.Math.min.name Lib.Math.min.code 2 (some .int), Cond.methodLink RX2 71 Lib.Math.max.name, Cond.static Lib.Math.max.name, Cond.code Lib.Math.max.name Lib.Math.max.code 2 (some .int)]
def wsX2_isAtRest_r2 : List Cond := [Cond.methodLink RX2 39 yX2_at, Cond.instanceMethod yX2_at, Cond.selects RX2 yX2_at yX2_at, Cond.code yX2_at cX2_at 3 (some .int), Cond.methodLink RX2 64 yX2_putInOrder, Cond.instanceMethod yX2_putInOrder, Cond.selects RX2 yX2_putInOrder yX2_putInOrder, Cond.code yX2_putInOrder cX2_putInOrder 6 (some .int), Cond.methodLink RX2 47 yX2_has, Cond.instanceMethod yX2_has, Cond.selects RX2 yX2_has yX2_has, Cond.code yX2_has cX2_has 3 (some .boolean)]
def wsX2_isAtRest : List Cond := .code yX2_isAtRest cX2_isAtRest 1 (some .boolean) :: ((wsX2_isAtRest_r1 ++ wsX2_isAtRest_r2) ++ wsX20)
def wsX2_stepAtEach_r1 : List Cond := [Cond.fieldLink RX2 26 "SkinBox$Points" "high" "I", Cond.fieldLink RX2 22 "SkinBox$Points" "wide" "I", Cond.fieldLink RX2 9 "SkinBox$Points" "heights" "[I", Cond.methodLink RX2 39 yX2_at, Cond.instanceMethod yX2_at, Cond.selects RX2 yX2_at yX2_at, Cond.initialized RX2, Cond.code yX2_at cX2_at 3 (some .int), Cond.methodLink RX2 57 yX2_stepped, Cond.instanceMethod yX2_stepped, Cond.selects RX2 yX2_stepped yX2_stepped, Cond.code yX2_stepped cX2_stepped 7 (some .int), Cond.fieldLink RX2 15 "SkinBox$Points" "pinned" "[Z", Cond.fieldLink RX2 19 "SkinBox$Points" "near" "[I", Cond.methodLink RX2 68 Lib.Math.min.name, Cond.static Lib.Math.min.name, Cond.initialized "java/lang/Math", Cond.code Lib.Math.min.name Lib.Math.min.code 2 (some .int), Cond.methodLink RX2 71 Lib.Math.max.name, Cond.static Lib.Math.max.name, Cond.code Lib.Math.max.name Lib.Math.max.code 2 (some .int), Cond.methodLink RX2 64 yX2_putInOrder, Cond.instanceMethod yX2_putInOrder, Cond.selects RX2 yX2_putInOrder yX2_putInOrder]
def wsX2_stepAtEach_r2 : List Cond := [Cond.code yX2_putInOrder cX2_putInOrder 6 (some .int), Cond.methodLink RX2 47 yX2_has, Cond.instanceMethod yX2_has, Cond.selects RX2 yX2_has yX2_has, Cond.code yX2_has cX2_has 3 (some .boolean)]
def wsX2_stepAtEach : List Cond := .code yX2_stepAtEach cX2_stepAtEach 3 none :: ((wsX2_stepAtEach_r1 ++ wsX2_stepAtEach_r2) ++ wsX20)
def wsX3_init_r1 : List Cond := [Cond.methodLink RX3 1 objectInit, Cond.instanceMethod objectInit, Cond.code objectInit ⟨#[0xb1]⟩ 1 none, Cond.classLink RX3 7 RX1, Cond.instantiable RX1 13, Cond.initialized RX1, Cond.fieldLink RX3 10 "SkinBox" "flow" "LSkinBox$Flow;", Cond.fieldLink RX3 16 "SkinBox$Flow" "cells" "LSkinBox$Cells;", Cond.fieldLink RX3 20 "SkinBox" "cells" "LSkinBox$Cells;", Cond.classLink RX3 21 RX2, Cond.instantiable RX2 5, Cond.initialized RX2, Cond.fieldLink RX3 24 "SkinBox" "points" "LSkinBox$Points;", Cond.fieldLink RX3 28 "SkinBox" "asked" "J", Cond.instanceMethod yX1_init, Cond.code yX1_init cX1_init 1 none, Cond.methodLink RX1 3 objectInit, Cond.classLink RX1 9 RX0, Cond.instantiable RX0 7, Cond.initialized RX0, Cond.fieldLink RX1 12 "SkinBox$Flow" "cells" "LSkinBox$Cells;", Cond.arrayClass .int, Cond.fieldLink RX1 18 "SkinBox$Flow" "springs" "[I", Cond.fieldLink RX1 22 "SkinBox$Flow" "drains" "[I"]
def wsX3_init_r2 : List Cond := [Cond.fieldLink RX1 25 "SkinBox$Flow" "passes" "[I", Cond.fieldLink RX1 28 "SkinBox$Flow" "cameFrom" "[I", Cond.fieldLink RX1 31 "SkinBox$Flow" "cameBy" "[I", Cond.fieldLink RX1 34 "SkinBox$Flow" "queue" "[I", Cond.fieldLink RX1 37 "SkinBox$Flow" "queued" "I", Cond.fieldLink RX1 41 "SkinBox$Flow" "settled" "Z", Cond.fieldLink RX1 45 "SkinBox$Flow" "settledRise" "I", Cond.fieldLink RX1 48 "SkinBox$Flow" "amount" "J", Cond.fieldLink RX1 52 "SkinBox$Flow" "lowest" "J", Cond.fieldLink RX1 55 "SkinBox$Flow" "highest" "J", Cond.methodLink RX1 11 yX0_init, Cond.instanceMethod yX0_init, Cond.code yX0_init cX0_init 1 none, Cond.methodLink RX0 3 objectInit, Cond.fieldLink RX0 9 "SkinBox$Cells" "sides" "[I", Cond.fieldLink RX0 15 "SkinBox$Cells" "held" "[I", Cond.fieldLink RX0 18 "SkinBox$Cells" "prices" "[I", Cond.fieldLink RX0 21 "SkinBox$Cells" "rules" "[I", Cond.fieldLink RX0 24 "SkinBox$Cells" "places" "[I", Cond.fieldLink RX0 27 "SkinBox$Cells" "beyond" "[I", Cond.fieldLink RX0 30 "SkinBox$Cells" "size" "I", Cond.methodLink RX0 34 yX0_lay, Cond.instanceMethod yX0_lay, Cond.selects RX0 yX0_lay yX0_lay]
def wsX3_init_r3 : List Cond := [Cond.code yX0_lay cX0_lay 8 none, Cond.methodLink RX0 38 yJ7_fill_53178, Cond.static yJ7_fill_53178, Cond.initialized RJ7, Cond.code yJ7_fill_53178 cJ7_fill_53178 4 none, Cond.methodLink RX0 44 yX0_layAlong, Cond.instanceMethod yX0_layAlong, Cond.selects RX0 yX0_layAlong yX0_layAlong, Cond.code yX0_layAlong cX0_layAlong 6 none, Cond.methodLink RX3 23 yX2_init, Cond.instanceMethod yX2_init, Cond.code yX2_init cX2_init 1 none, Cond.methodLink RX2 3 objectInit, Cond.fieldLink RX2 9 "SkinBox$Points" "heights" "[I", Cond.arrayClass .boolean, Cond.fieldLink RX2 15 "SkinBox$Points" "pinned" "[Z", Cond.fieldLink RX2 19 "SkinBox$Points" "near" "[I", Cond.fieldLink RX2 22 "SkinBox$Points" "wide" "I", Cond.fieldLink RX2 26 "SkinBox$Points" "high" "I", Cond.methodLink RX2 29 yX2_spread, Cond.instanceMethod yX2_spread, Cond.selects RX2 yX2_spread yX2_spread, Cond.code yX2_spread cX2_spread 5 none, Cond.methodLink RX2 33 yJ7_fill_53178]
def wsX3_init_r4 : List Cond := [Cond.methodLink RX2 39 yX2_at, Cond.instanceMethod yX2_at, Cond.selects RX2 yX2_at yX2_at, Cond.code yX2_at cX2_at 3 (some .int)]
def wsX3_init : List Cond := .code yX3_init cX3_init 1 none :: ((wsX3_init_r1 ++ (wsX3_init_r2 ++ (wsX3_init_r3 ++ wsX3_init_r4))) ++ wsX10 ++ wsX30 ++ wsX20 ++ wsX00)
def wsX3_within : List Cond := .code yX3_within cX3_within 3 (some .boolean) :: ([])
def wsX3_box_r1 : List Cond := [Cond.fieldLink RX3 20 "SkinBox" "cells" "LSkinBox$Cells;", Cond.fieldLink RX3 10 "SkinBox" "flow" "LSkinBox$Flow;", Cond.fieldLink RX3 45 "SkinBox$Cells" "size" "I", Cond.methodLink RX3 32 yX3_within, Cond.static yX3_within, Cond.initialized RX3, Cond.code yX3_within cX3_within 3 (some .boolean), Cond.methodLink RX3 36 yX0_lay, Cond.instanceMethod yX0_lay, Cond.selects RX0 yX0_lay yX0_lay, Cond.initialized RX0, Cond.code yX0_lay cX0_lay 8 none, Cond.fieldLink RX0 9 "SkinBox$Cells" "sides" "[I", Cond.fieldLink RX0 30 "SkinBox$Cells" "size" "I", Cond.fieldLink RX0 15 "SkinBox$Cells" "held" "[I", Cond.fieldLink RX0 18 "SkinBox$Cells" "prices" "[I", Cond.methodLink RX0 38 yJ7_fill_53178, Cond.static yJ7_fill_53178, Cond.initialized RJ7, Cond.code yJ7_fill_53178 cJ7_fill_53178 4 none, Cond.methodLink RX0 44 yX0_layAlong, Cond.instanceMethod yX0_layAlong, Cond.selects RX0 yX0_layAlong yX0_layAlong, Cond.code yX0_layAlong cX0_layAlong 6 none]
def wsX3_box_r2 : List Cond := [Cond.fieldLink RX0 24 "SkinBox$Cells" "places" "[I", Cond.fieldLink RX0 27 "SkinBox$Cells" "beyond" "[I", Cond.methodLink RX3 42 yX1_forget, Cond.instanceMethod yX1_forget, Cond.selects RX1 yX1_forget yX1_forget, Cond.initialized RX1, Cond.code yX1_forget cX1_forget 1 none, Cond.fieldLink RX1 41 "SkinBox$Flow" "settled" "Z"]
def wsX3_box : List Cond := .code yX3_box cX3_box 4 (some .int) :: ((wsX3_box_r1 ++ wsX3_box_r2) ++ wsX30 ++ wsX00 ++ wsX10)
def wsX3_hold : List Cond := .code yX3_hold cX3_hold 4 (some .int) :: ([.fieldLink RX3 20 "SkinBox" "cells" "LSkinBox$Cells;", .fieldLink RX3 53 "SkinBox$Cells" "held" "[I", .fieldLink RX3 10 "SkinBox" "flow" "LSkinBox$Flow;", .methodLink RX3 49 yX0_has, .instanceMethod yX0_has, .selects RX0 yX0_has yX0_has, .initialized RX0, .code yX0_has cX0_has 2 (some .boolean), .fieldLink RX0 30 "SkinBox$Cells" "size" "I", .methodLink RX3 32 yX3_within, .static yX3_within, .initialized RX3, .code yX3_within cX3_within 3 (some .boolean), .methodLink RX3 42 yX1_forget, .instanceMethod yX1_forget, .selects RX1 yX1_forget yX1_forget, .initialized RX1, .code yX1_forget cX1_forget 1 none, .fieldLink RX1 41 "SkinBox$Flow" "settled" "Z"] ++ wsX30 ++ wsX00 ++ wsX10)
def wsX3_price : List Cond := .code yX3_price cX3_price 4 (some .int) :: ([.fieldLink RX3 20 "SkinBox" "cells" "LSkinBox$Cells;", .constant RX3 57 (-1000000), .fieldLink RX3 58 "SkinBox$Cells" "prices" "[I", .fieldLink RX3 10 "SkinBox" "flow" "LSkinBox$Flow;", .methodLink RX3 49 yX0_has, .instanceMethod yX0_has, .selects RX0 yX0_has yX0_has, .initialized RX0, .code yX0_has cX0_has 2 (some .boolean), .fieldLink RX0 30 "SkinBox$Cells" "size" "I", .methodLink RX3 32 yX3_within, .static yX3_within, .initialized RX3, .code yX3_within cX3_within 3 (some .boolean), .methodLink RX3 42 yX1_forget, .instanceMethod yX1_forget, .selects RX1 yX1_forget yX1_forget, .initialized RX1, .code yX1_forget cX1_forget 1 none, .fieldLink RX1 41 "SkinBox$Flow" "settled" "Z"] ++ wsX30 ++ wsX00 ++ wsX10)
def wsX3_set : List Cond := .code yX3_set cX3_set 4 (some .int) :: ([.fieldLink RX3 61 "SkinBox" "LOWEST_RULE" "[I", .fieldLink RX3 64 "SkinBox" "HIGHEST_RULE" "[I", .fieldLink RX3 20 "SkinBox" "cells" "LSkinBox$Cells;", .fieldLink RX3 67 "SkinBox$Cells" "rules" "[I", .fieldLink RX3 10 "SkinBox" "flow" "LSkinBox$Flow;", .methodLink RX3 32 yX3_within, .static yX3_within, .initialized RX3, .code yX3_within cX3_within 3 (some .boolean), .methodLink RX3 42 yX1_forget, .instanceMethod yX1_forget, .selects RX1 yX1_forget yX1_forget, .initialized RX1, .code yX1_forget cX1_forget 1 none, .fieldLink RX1 41 "SkinBox$Flow" "settled" "Z"] ++ wsX30 ++ wsX00 ++ wsX10)
def wsX3_cost_r1 : List Cond := [Cond.fieldLink RX3 20 "SkinBox" "cells" "LSkinBox$Cells;", Cond.fieldLink RX3 28 "SkinBox" "asked" "J", Cond.fieldLink RX3 74 "SkinBox" "MARKS" "[I", Cond.methodLink RX3 32 yX3_within, Cond.static yX3_within, Cond.initialized RX3, Cond.code yX3_within cX3_within 3 (some .boolean), Cond.methodLink RX3 49 yX0_has, Cond.instanceMethod yX0_has, Cond.selects RX0 yX0_has yX0_has, Cond.initialized RX0, Cond.code yX0_has cX0_has 2 (some .boolean), Cond.fieldLink RX0 30 "SkinBox$Cells" "size" "I", Cond.methodLink RX3 70 yX0_sideTowards, Cond.instanceMethod yX0_sideTowards, Cond.selects RX0 yX0_sideTowards yX0_sideTowards, Cond.code yX0_sideTowards cX0_sideTowards 4 (some .int), Cond.fieldLink RX0 27 "SkinBox$Cells" "beyond" "[I", Cond.methodLink RX3 77 yX0_seamCost, Cond.instanceMethod yX0_seamCost, Cond.selects RX0 yX0_seamCost yX0_seamCost, Cond.code yX0_seamCost cX0_seamCost 7 (some .int), Cond.fieldLink RX0 24 "SkinBox$Cells" "places" "[I", Cond.fieldLink RX0 21 "SkinBox$Cells" "rules" "[I"]
def wsX3_cost_r2 : List Cond := [Cond.methodLink RX0 54 Lib.Math.min.name, Cond.static Lib.Math.min.name, Cond.initialized "java/lang/Math", Cond.code Lib.Math.min.name Lib.Math.min.code 2 (some .int)]
def wsX3_cost : List Cond := .code yX3_cost cX3_cost 5 (some .int) :: ((wsX3_cost_r1 ++ wsX3_cost_r2) ++ wsX30 ++ wsX00)
def wsX3_skin_r1 : List Cond := [Cond.fieldLink RX3 20 "SkinBox" "cells" "LSkinBox$Cells;", Cond.constantLong RX3 89 (-1), Cond.methodLink RX3 81 yX0_isSet, Cond.instanceMethod yX0_isSet, Cond.selects RX0 yX0_isSet yX0_isSet, Cond.initialized RX0, Cond.code yX0_isSet cX0_isSet 3 (some .boolean), Cond.constantLong RX0 52 (-1), Cond.methodLink RX0 48 yX0_every, Cond.instanceMethod yX0_every, Cond.selects RX0 yX0_every yX0_every, Cond.code yX0_every cX0_every 1 (some .long), Cond.fieldLink RX0 30 "SkinBox$Cells" "size" "I", Cond.methodLink RX3 85 yX0_skinOf, Cond.instanceMethod yX0_skinOf, Cond.selects RX0 yX0_skinOf yX0_skinOf, Cond.code yX0_skinOf cX0_skinOf 6 (some .long), Cond.methodLink RX0 64 yX0_holds, Cond.static yX0_holds, Cond.code yX0_holds cX0_holds 3 (some .boolean), Cond.methodLink RX0 68 yX0_skinOfCell, Cond.instanceMethod yX0_skinOfCell, Cond.selects RX0 yX0_skinOfCell yX0_skinOfCell, Cond.code yX0_skinOfCell cX0_skinOfCell 7 (some .int)]
def wsX3_skin_r2 : List Cond := [Cond.fieldLink RX0 27 "SkinBox$Cells" "beyond" "[I", Cond.fieldLink RX0 21 "SkinBox$Cells" "rules" "[I", Cond.methodLink RX0 60 yX0_seamCost, Cond.instanceMethod yX0_seamCost, Cond.selects RX0 yX0_seamCost yX0_seamCost, Cond.code yX0_seamCost cX0_seamCost 7 (some .int), Cond.fieldLink RX0 24 "SkinBox$Cells" "places" "[I", Cond.methodLink RX0 54 Lib.Math.min.name, Cond.static Lib.Math.min.name, Cond.initialized "java/lang/Math", Cond.code Lib.Math.min.name Lib.Math.min.code 2 (some .int)]
def wsX3_skin : List Cond := .code yX3_skin cX3_skin 3 (some .long) :: ((wsX3_skin_r1 ++ wsX3_skin_r2) ++ wsX30 ++ wsX00)
def wsX3_all_r1 : List Cond := [Cond.fieldLink RX3 20 "SkinBox" "cells" "LSkinBox$Cells;", Cond.constantLong RX3 94 (-1000000), Cond.methodLink RX3 81 yX0_isSet, Cond.instanceMethod yX0_isSet, Cond.selects RX0 yX0_isSet yX0_isSet, Cond.initialized RX0, Cond.code yX0_isSet cX0_isSet 3 (some .boolean), Cond.constantLong RX0 52 (-1), Cond.methodLink RX0 48 yX0_every, Cond.instanceMethod yX0_every, Cond.selects RX0 yX0_every yX0_every, Cond.code yX0_every cX0_every 1 (some .long), Cond.fieldLink RX0 30 "SkinBox$Cells" "size" "I", Cond.methodLink RX3 85 yX0_skinOf, Cond.instanceMethod yX0_skinOf, Cond.selects RX0 yX0_skinOf yX0_skinOf, Cond.code yX0_skinOf cX0_skinOf 6 (some .long), Cond.methodLink RX0 64 yX0_holds, Cond.static yX0_holds, Cond.code yX0_holds cX0_holds 3 (some .boolean), Cond.methodLink RX0 68 yX0_skinOfCell, Cond.instanceMethod yX0_skinOfCell, Cond.selects RX0 yX0_skinOfCell yX0_skinOfCell, Cond.code yX0_skinOfCell cX0_skinOfCell 7 (some .int)]
def wsX3_all_r2 : List Cond := [Cond.fieldLink RX0 27 "SkinBox$Cells" "beyond" "[I", Cond.fieldLink RX0 21 "SkinBox$Cells" "rules" "[I", Cond.methodLink RX0 60 yX0_seamCost, Cond.instanceMethod yX0_seamCost, Cond.selects RX0 yX0_seamCost yX0_seamCost, Cond.code yX0_seamCost cX0_seamCost 7 (some .int), Cond.fieldLink RX0 24 "SkinBox$Cells" "places" "[I", Cond.methodLink RX0 54 Lib.Math.min.name, Cond.static Lib.Math.min.name, Cond.initialized "java/lang/Math", Cond.code Lib.Math.min.name Lib.Math.min.code 2 (some .int), Cond.methodLink RX3 91 yX0_pricesOf, Cond.instanceMethod yX0_pricesOf, Cond.selects RX0 yX0_pricesOf yX0_pricesOf, Cond.code yX0_pricesOf cX0_pricesOf 6 (some .long), Cond.fieldLink RX0 18 "SkinBox$Cells" "prices" "[I"]
def wsX3_all : List Cond := .code yX3_all cX3_all 3 (some .long) :: ((wsX3_all_r1 ++ wsX3_all_r2) ++ wsX30 ++ wsX00)
def wsX3_right : List Cond := .code yX3_right cX3_right 3 (some .int) :: ([.fieldLink RX3 20 "SkinBox" "cells" "LSkinBox$Cells;", .methodLink RX3 81 yX0_isSet, .instanceMethod yX0_isSet, .selects RX0 yX0_isSet yX0_isSet, .initialized RX0, .code yX0_isSet cX0_isSet 3 (some .boolean), .constantLong RX0 52 (-1), .methodLink RX0 48 yX0_every, .instanceMethod yX0_every, .selects RX0 yX0_every yX0_every, .code yX0_every cX0_every 1 (some .long), .fieldLink RX0 30 "SkinBox$Cells" "size" "I", .methodLink RX3 96 yX0_isRight, .instanceMethod yX0_isRight, .selects RX0 yX0_isRight yX0_isRight, .code yX0_isRight cX0_isRight 4 (some .boolean), .fieldLink RX0 15 "SkinBox$Cells" "held" "[I", .methodLink RX0 64 yX0_holds, .static yX0_holds, .code yX0_holds cX0_holds 3 (some .boolean)] ++ wsX30 ++ wsX00)
def wsX3_least_r1 : List Cond := [Cond.fieldLink RX3 10 "SkinBox" "flow" "LSkinBox$Flow;", Cond.fieldLink RX3 103 "SkinBox$Flow" "amount" "J", Cond.methodLink RX3 99 yX1_settle, Cond.instanceMethod yX1_settle, Cond.selects RX1 yX1_settle yX1_settle, Cond.initialized RX1, Cond.code yX1_settle cX1_settle 4 none, Cond.fieldLink RX1 41 "SkinBox$Flow" "settled" "Z", Cond.fieldLink RX1 45 "SkinBox$Flow" "settledRise" "I", Cond.constant RX1 66 (1000000), Cond.fieldLink RX1 52 "SkinBox$Flow" "lowest" "J", Cond.fieldLink RX1 12 "SkinBox$Flow" "cells" "LSkinBox$Cells;", Cond.constantLong RX1 80 (-1), Cond.fieldLink RX1 55 "SkinBox$Flow" "highest" "J", Cond.methodLink RX1 58 yX1_open, Cond.instanceMethod yX1_open, Cond.selects RX1 yX1_open yX1_open, Cond.code yX1_open cX1_open 4 none, Cond.fieldLink RX1 48 "SkinBox$Flow" "amount" "J", Cond.fieldLink RX1 82 "SkinBox$Cells" "size" "I", Cond.fieldLink RX1 25 "SkinBox$Flow" "passes" "[I", Cond.fieldLink RX1 93 "SkinBox$Cells" "beyond" "[I", Cond.fieldLink RX1 96 "SkinBox$Cells" "rules" "[I", Cond.methodLink RX1 85 yX0_ownCost]
def wsX3_least_r2 : List Cond := [Cond.instanceMethod yX0_ownCost, Cond.selects RX0 yX0_ownCost yX0_ownCost, Cond.initialized RX0, Cond.code yX0_ownCost cX0_ownCost 4 (some .int), Cond.fieldLink RX0 18 "SkinBox$Cells" "prices" "[I", Cond.fieldLink RX0 27 "SkinBox$Cells" "beyond" "[I", Cond.fieldLink RX0 21 "SkinBox$Cells" "rules" "[I", Cond.methodLink RX1 89 yX1_openCell, Cond.instanceMethod yX1_openCell, Cond.selects RX1 yX1_openCell yX1_openCell, Cond.code yX1_openCell cX1_openCell 3 none, Cond.fieldLink RX1 18 "SkinBox$Flow" "springs" "[I", Cond.fieldLink RX1 22 "SkinBox$Flow" "drains" "[I", Cond.fieldLink RX1 103 "SkinBox$Cells" "held" "[I", Cond.methodLink RX1 99 yX0_seamCost, Cond.instanceMethod yX0_seamCost, Cond.selects RX0 yX0_seamCost yX0_seamCost, Cond.code yX0_seamCost cX0_seamCost 7 (some .int), Cond.fieldLink RX0 24 "SkinBox$Cells" "places" "[I", Cond.methodLink RX0 54 Lib.Math.min.name, Cond.static Lib.Math.min.name, Cond.initialized "java/lang/Math", Cond.code Lib.Math.min.name Lib.Math.min.code 2 (some .int), Cond.methodLink RX1 62 yX1_search]
def wsX3_least_r3 : List Cond := [Cond.instanceMethod yX1_search, Cond.selects RX1 yX1_search yX1_search, Cond.code yX1_search cX1_search 5 (some .int), Cond.fieldLink RX1 37 "SkinBox$Flow" "queued" "I", Cond.fieldLink RX1 34 "SkinBox$Flow" "queue" "[I", Cond.fieldLink RX1 31 "SkinBox$Flow" "cameBy" "[I", Cond.fieldLink RX1 28 "SkinBox$Flow" "cameFrom" "[I", Cond.methodLink RX1 106 yX1_startAt, Cond.instanceMethod yX1_startAt, Cond.selects RX1 yX1_startAt yX1_startAt, Cond.code yX1_startAt cX1_startAt 3 none, Cond.methodLink RX1 110 yX1_see, Cond.instanceMethod yX1_see, Cond.selects RX1 yX1_see yX1_see, Cond.code yX1_see cX1_see 3 none, Cond.methodLink RX1 67 yX1_pushTo, Cond.instanceMethod yX1_pushTo, Cond.selects RX1 yX1_pushTo yX1_pushTo, Cond.code yX1_pushTo cX1_pushTo 5 none, Cond.methodLink RX1 113 Lib.Math.min.name, Cond.methodLink RX1 70 yX1_seen, Cond.instanceMethod yX1_seen, Cond.selects RX1 yX1_seen yX1_seen, Cond.code yX1_seen cX1_seen 4 (some .long)]
def wsX3_least_r4 : List Cond := [Cond.methodLink RX1 74 yX1_searchBack, Cond.instanceMethod yX1_searchBack, Cond.selects RX1 yX1_searchBack yX1_searchBack, Cond.code yX1_searchBack cX1_searchBack 5 none, Cond.methodLink RX1 77 yX0_every, Cond.instanceMethod yX0_every, Cond.selects RX0 yX0_every yX0_every, Cond.code yX0_every cX0_every 1 (some .long), Cond.fieldLink RX0 30 "SkinBox$Cells" "size" "I"]
def wsX3_least : List Cond := .code yX3_least cX3_least 1 (some .long) :: ((wsX3_least_r1 ++ (wsX3_least_r2 ++ (wsX3_least_r3 ++ wsX3_least_r4))) ++ wsX30 ++ wsX10 ++ wsX00)
def wsX3_film_r1 : List Cond := [Cond.constantLong RX3 89 (-1), Cond.fieldLink RX3 10 "SkinBox" "flow" "LSkinBox$Flow;", Cond.fieldLink RX3 106 "SkinBox$Flow" "lowest" "J", Cond.fieldLink RX3 109 "SkinBox$Flow" "highest" "J", Cond.methodLink RX3 32 yX3_within, Cond.static yX3_within, Cond.initialized RX3, Cond.code yX3_within cX3_within 3 (some .boolean), Cond.methodLink RX3 99 yX1_settle, Cond.instanceMethod yX1_settle, Cond.selects RX1 yX1_settle yX1_settle, Cond.initialized RX1, Cond.code yX1_settle cX1_settle 4 none, Cond.fieldLink RX1 41 "SkinBox$Flow" "settled" "Z", Cond.fieldLink RX1 45 "SkinBox$Flow" "settledRise" "I", Cond.constant RX1 66 (1000000), Cond.fieldLink RX1 52 "SkinBox$Flow" "lowest" "J", Cond.fieldLink RX1 12 "SkinBox$Flow" "cells" "LSkinBox$Cells;", Cond.constantLong RX1 80 (-1), Cond.fieldLink RX1 55 "SkinBox$Flow" "highest" "J", Cond.methodLink RX1 58 yX1_open, Cond.instanceMethod yX1_open, Cond.selects RX1 yX1_open yX1_open, Cond.code yX1_open cX1_open 4 none]
def wsX3_film_r2 : List Cond := [Cond.fieldLink RX1 48 "SkinBox$Flow" "amount" "J", Cond.fieldLink RX1 82 "SkinBox$Cells" "size" "I", Cond.fieldLink RX1 25 "SkinBox$Flow" "passes" "[I", Cond.fieldLink RX1 93 "SkinBox$Cells" "beyond" "[I", Cond.fieldLink RX1 96 "SkinBox$Cells" "rules" "[I", Cond.methodLink RX1 85 yX0_ownCost, Cond.instanceMethod yX0_ownCost, Cond.selects RX0 yX0_ownCost yX0_ownCost, Cond.initialized RX0, Cond.code yX0_ownCost cX0_ownCost 4 (some .int), Cond.fieldLink RX0 18 "SkinBox$Cells" "prices" "[I", Cond.fieldLink RX0 27 "SkinBox$Cells" "beyond" "[I", Cond.fieldLink RX0 21 "SkinBox$Cells" "rules" "[I", Cond.methodLink RX1 89 yX1_openCell, Cond.instanceMethod yX1_openCell, Cond.selects RX1 yX1_openCell yX1_openCell, Cond.code yX1_openCell cX1_openCell 3 none, Cond.fieldLink RX1 18 "SkinBox$Flow" "springs" "[I", Cond.fieldLink RX1 22 "SkinBox$Flow" "drains" "[I", Cond.fieldLink RX1 103 "SkinBox$Cells" "held" "[I", Cond.methodLink RX1 99 yX0_seamCost, Cond.instanceMethod yX0_seamCost, Cond.selects RX0 yX0_seamCost yX0_seamCost, Cond.code yX0_seamCost cX0_seamCost 7 (some .int)]
def wsX3_film_r3 : List Cond := [Cond.fieldLink RX0 24 "SkinBox$Cells" "places" "[I", Cond.methodLink RX0 54 Lib.Math.min.name, Cond.static Lib.Math.min.name, Cond.initialized "java/lang/Math", Cond.code Lib.Math.min.name Lib.Math.min.code 2 (some .int), Cond.methodLink RX1 62 yX1_search, Cond.instanceMethod yX1_search, Cond.selects RX1 yX1_search yX1_search, Cond.code yX1_search cX1_search 5 (some .int), Cond.fieldLink RX1 37 "SkinBox$Flow" "queued" "I", Cond.fieldLink RX1 34 "SkinBox$Flow" "queue" "[I", Cond.fieldLink RX1 31 "SkinBox$Flow" "cameBy" "[I", Cond.fieldLink RX1 28 "SkinBox$Flow" "cameFrom" "[I", Cond.methodLink RX1 106 yX1_startAt, Cond.instanceMethod yX1_startAt, Cond.selects RX1 yX1_startAt yX1_startAt, Cond.code yX1_startAt cX1_startAt 3 none, Cond.methodLink RX1 110 yX1_see, Cond.instanceMethod yX1_see, Cond.selects RX1 yX1_see yX1_see, Cond.code yX1_see cX1_see 3 none, Cond.methodLink RX1 67 yX1_pushTo, Cond.instanceMethod yX1_pushTo, Cond.selects RX1 yX1_pushTo yX1_pushTo]
def wsX3_film_r4 : List Cond := [Cond.code yX1_pushTo cX1_pushTo 5 none, Cond.methodLink RX1 113 Lib.Math.min.name, Cond.methodLink RX1 70 yX1_seen, Cond.instanceMethod yX1_seen, Cond.selects RX1 yX1_seen yX1_seen, Cond.code yX1_seen cX1_seen 4 (some .long), Cond.methodLink RX1 74 yX1_searchBack, Cond.instanceMethod yX1_searchBack, Cond.selects RX1 yX1_searchBack yX1_searchBack, Cond.code yX1_searchBack cX1_searchBack 5 none, Cond.methodLink RX1 77 yX0_every, Cond.instanceMethod yX0_every, Cond.selects RX0 yX0_every yX0_every, Cond.code yX0_every cX0_every 1 (some .long), Cond.fieldLink RX0 30 "SkinBox$Cells" "size" "I"]
def wsX3_film : List Cond := .code yX3_film cX3_film 2 (some .long) :: ((wsX3_film_r1 ++ (wsX3_film_r2 ++ (wsX3_film_r3 ++ wsX3_film_r4))) ++ wsX30 ++ wsX10 ++ wsX00)
def wsJ13_bitCount_95d88 : List Cond := .code yJ13_bitCount_95d88 cJ13_bitCount_95d88 2 (some .int) :: ([.constantLong RJ13 314 (6148914691236517205), .constantLong RJ13 316 (3689348814741910323), .constantLong RJ13 318 (1085102592571150095)])
def wsX3_room_r1 : List Cond := [Cond.fieldLink RX3 10 "SkinBox" "flow" "LSkinBox$Flow;", Cond.fieldLink RX3 106 "SkinBox$Flow" "lowest" "J", Cond.fieldLink RX3 109 "SkinBox$Flow" "highest" "J", Cond.methodLink RX3 32 yX3_within, Cond.static yX3_within, Cond.initialized RX3, Cond.code yX3_within cX3_within 3 (some .boolean), Cond.methodLink RX3 99 yX1_settle, Cond.instanceMethod yX1_settle, Cond.selects RX1 yX1_settle yX1_settle, Cond.initialized RX1, Cond.code yX1_settle cX1_settle 4 none, Cond.fieldLink RX1 41 "SkinBox$Flow" "settled" "Z", Cond.fieldLink RX1 45 "SkinBox$Flow" "settledRise" "I", Cond.constant RX1 66 (1000000), Cond.fieldLink RX1 52 "SkinBox$Flow" "lowest" "J", Cond.fieldLink RX1 12 "SkinBox$Flow" "cells" "LSkinBox$Cells;", Cond.constantLong RX1 80 (-1), Cond.fieldLink RX1 55 "SkinBox$Flow" "highest" "J", Cond.methodLink RX1 58 yX1_open, Cond.instanceMethod yX1_open, Cond.selects RX1 yX1_open yX1_open, Cond.code yX1_open cX1_open 4 none, Cond.fieldLink RX1 48 "SkinBox$Flow" "amount" "J"]
def wsX3_room_r2 : List Cond := [Cond.fieldLink RX1 82 "SkinBox$Cells" "size" "I", Cond.fieldLink RX1 25 "SkinBox$Flow" "passes" "[I", Cond.fieldLink RX1 93 "SkinBox$Cells" "beyond" "[I", Cond.fieldLink RX1 96 "SkinBox$Cells" "rules" "[I", Cond.methodLink RX1 85 yX0_ownCost, Cond.instanceMethod yX0_ownCost, Cond.selects RX0 yX0_ownCost yX0_ownCost, Cond.initialized RX0, Cond.code yX0_ownCost cX0_ownCost 4 (some .int), Cond.fieldLink RX0 18 "SkinBox$Cells" "prices" "[I", Cond.fieldLink RX0 27 "SkinBox$Cells" "beyond" "[I", Cond.fieldLink RX0 21 "SkinBox$Cells" "rules" "[I", Cond.methodLink RX1 89 yX1_openCell, Cond.instanceMethod yX1_openCell, Cond.selects RX1 yX1_openCell yX1_openCell, Cond.code yX1_openCell cX1_openCell 3 none, Cond.fieldLink RX1 18 "SkinBox$Flow" "springs" "[I", Cond.fieldLink RX1 22 "SkinBox$Flow" "drains" "[I", Cond.fieldLink RX1 103 "SkinBox$Cells" "held" "[I", Cond.methodLink RX1 99 yX0_seamCost, Cond.instanceMethod yX0_seamCost, Cond.selects RX0 yX0_seamCost yX0_seamCost, Cond.code yX0_seamCost cX0_seamCost 7 (some .int), Cond.fieldLink RX0 24 "SkinBox$Cells" "places" "[I"]
def wsX3_room_r3 : List Cond := [Cond.methodLink RX0 54 Lib.Math.min.name, Cond.static Lib.Math.min.name, Cond.initialized "java/lang/Math", Cond.code Lib.Math.min.name Lib.Math.min.code 2 (some .int), Cond.methodLink RX1 62 yX1_search, Cond.instanceMethod yX1_search, Cond.selects RX1 yX1_search yX1_search, Cond.code yX1_search cX1_search 5 (some .int), Cond.fieldLink RX1 37 "SkinBox$Flow" "queued" "I", Cond.fieldLink RX1 34 "SkinBox$Flow" "queue" "[I", Cond.fieldLink RX1 31 "SkinBox$Flow" "cameBy" "[I", Cond.fieldLink RX1 28 "SkinBox$Flow" "cameFrom" "[I", Cond.methodLink RX1 106 yX1_startAt, Cond.instanceMethod yX1_startAt, Cond.selects RX1 yX1_startAt yX1_startAt, Cond.code yX1_startAt cX1_startAt 3 none, Cond.methodLink RX1 110 yX1_see, Cond.instanceMethod yX1_see, Cond.selects RX1 yX1_see yX1_see, Cond.code yX1_see cX1_see 3 none, Cond.methodLink RX1 67 yX1_pushTo, Cond.instanceMethod yX1_pushTo, Cond.selects RX1 yX1_pushTo yX1_pushTo, Cond.code yX1_pushTo cX1_pushTo 5 none]
def wsX3_room_r4 : List Cond := [Cond.methodLink RX1 113 Lib.Math.min.name, Cond.methodLink RX1 70 yX1_seen, Cond.instanceMethod yX1_seen, Cond.selects RX1 yX1_seen yX1_seen, Cond.code yX1_seen cX1_seen 4 (some .long), Cond.methodLink RX1 74 yX1_searchBack, Cond.instanceMethod yX1_searchBack, Cond.selects RX1 yX1_searchBack yX1_searchBack, Cond.code yX1_searchBack cX1_searchBack 5 none, Cond.methodLink RX1 77 yX0_every, Cond.instanceMethod yX0_every, Cond.selects RX0 yX0_every yX0_every, Cond.code yX0_every cX0_every 1 (some .long), Cond.fieldLink RX0 30 "SkinBox$Cells" "size" "I", Cond.methodLink RX3 112 yJ13_bitCount_95d88, Cond.static yJ13_bitCount_95d88, Cond.initialized RJ13, Cond.code yJ13_bitCount_95d88 cJ13_bitCount_95d88 2 (some .int), Cond.constantLong RJ13 314 (6148914691236517205), Cond.constantLong RJ13 316 (3689348814741910323), Cond.constantLong RJ13 318 (1085102592571150095)]
def wsX3_room : List Cond := .code yX3_room cX3_room 3 (some .int) :: ((wsX3_room_r1 ++ (wsX3_room_r2 ++ (wsX3_room_r3 ++ wsX3_room_r4))) ++ wsX30 ++ wsX10 ++ wsX00)
def wsX3_many_r1 : List Cond := [Cond.fieldLink RX3 20 "SkinBox" "cells" "LSkinBox$Cells;", Cond.fieldLink RX3 10 "SkinBox" "flow" "LSkinBox$Flow;", Cond.methodLink RX3 118 yX0_freeCells, Cond.instanceMethod yX0_freeCells, Cond.selects RX0 yX0_freeCells yX0_freeCells, Cond.initialized RX0, Cond.code yX0_freeCells cX0_freeCells 3 (some .int), Cond.fieldLink RX0 30 "SkinBox$Cells" "size" "I", Cond.fieldLink RX0 15 "SkinBox$Cells" "held" "[I", Cond.methodLink RX3 99 yX1_settle, Cond.instanceMethod yX1_settle, Cond.selects RX1 yX1_settle yX1_settle, Cond.initialized RX1, Cond.code yX1_settle cX1_settle 4 none, Cond.fieldLink RX1 41 "SkinBox$Flow" "settled" "Z", Cond.fieldLink RX1 45 "SkinBox$Flow" "settledRise" "I", Cond.constant RX1 66 (1000000), Cond.fieldLink RX1 52 "SkinBox$Flow" "lowest" "J", Cond.fieldLink RX1 12 "SkinBox$Flow" "cells" "LSkinBox$Cells;", Cond.constantLong RX1 80 (-1), Cond.fieldLink RX1 55 "SkinBox$Flow" "highest" "J", Cond.methodLink RX1 58 yX1_open, Cond.instanceMethod yX1_open, Cond.selects RX1 yX1_open yX1_open]
def wsX3_many_r2 : List Cond := [Cond.code yX1_open cX1_open 4 none, Cond.fieldLink RX1 48 "SkinBox$Flow" "amount" "J", Cond.fieldLink RX1 82 "SkinBox$Cells" "size" "I", Cond.fieldLink RX1 25 "SkinBox$Flow" "passes" "[I", Cond.fieldLink RX1 93 "SkinBox$Cells" "beyond" "[I", Cond.fieldLink RX1 96 "SkinBox$Cells" "rules" "[I", Cond.methodLink RX1 85 yX0_ownCost, Cond.instanceMethod yX0_ownCost, Cond.selects RX0 yX0_ownCost yX0_ownCost, Cond.code yX0_ownCost cX0_ownCost 4 (some .int), Cond.fieldLink RX0 18 "SkinBox$Cells" "prices" "[I", Cond.fieldLink RX0 27 "SkinBox$Cells" "beyond" "[I", Cond.fieldLink RX0 21 "SkinBox$Cells" "rules" "[I", Cond.methodLink RX1 89 yX1_openCell, Cond.instanceMethod yX1_openCell, Cond.selects RX1 yX1_openCell yX1_openCell, Cond.code yX1_openCell cX1_openCell 3 none, Cond.fieldLink RX1 18 "SkinBox$Flow" "springs" "[I", Cond.fieldLink RX1 22 "SkinBox$Flow" "drains" "[I", Cond.fieldLink RX1 103 "SkinBox$Cells" "held" "[I", Cond.methodLink RX1 99 yX0_seamCost, Cond.instanceMethod yX0_seamCost, Cond.selects RX0 yX0_seamCost yX0_seamCost, Cond.code yX0_seamCost cX0_seamCost 7 (some .int)]
def wsX3_many_r3 : List Cond := [Cond.fieldLink RX0 24 "SkinBox$Cells" "places" "[I", Cond.methodLink RX0 54 Lib.Math.min.name, Cond.static Lib.Math.min.name, Cond.initialized "java/lang/Math", Cond.code Lib.Math.min.name Lib.Math.min.code 2 (some .int), Cond.methodLink RX1 62 yX1_search, Cond.instanceMethod yX1_search, Cond.selects RX1 yX1_search yX1_search, Cond.code yX1_search cX1_search 5 (some .int), Cond.fieldLink RX1 37 "SkinBox$Flow" "queued" "I", Cond.fieldLink RX1 34 "SkinBox$Flow" "queue" "[I", Cond.fieldLink RX1 31 "SkinBox$Flow" "cameBy" "[I", Cond.fieldLink RX1 28 "SkinBox$Flow" "cameFrom" "[I", Cond.methodLink RX1 106 yX1_startAt, Cond.instanceMethod yX1_startAt, Cond.selects RX1 yX1_startAt yX1_startAt, Cond.code yX1_startAt cX1_startAt 3 none, Cond.methodLink RX1 110 yX1_see, Cond.instanceMethod yX1_see, Cond.selects RX1 yX1_see yX1_see, Cond.code yX1_see cX1_see 3 none, Cond.methodLink RX1 67 yX1_pushTo, Cond.instanceMethod yX1_pushTo, Cond.selects RX1 yX1_pushTo yX1_pushTo]
def wsX3_many_r4 : List Cond := [Cond.code yX1_pushTo cX1_pushTo 5 none, Cond.methodLink RX1 113 Lib.Math.min.name, Cond.methodLink RX1 70 yX1_seen, Cond.instanceMethod yX1_seen, Cond.selects RX1 yX1_seen yX1_seen, Cond.code yX1_seen cX1_seen 4 (some .long), Cond.methodLink RX1 74 yX1_searchBack, Cond.instanceMethod yX1_searchBack, Cond.selects RX1 yX1_searchBack yX1_searchBack, Cond.code yX1_searchBack cX1_searchBack 5 none, Cond.methodLink RX1 77 yX0_every, Cond.instanceMethod yX0_every, Cond.selects RX0 yX0_every yX0_every, Cond.code yX0_every cX0_every 1 (some .long), Cond.methodLink RX3 122 yX1_leastSets, Cond.instanceMethod yX1_leastSets, Cond.selects RX1 yX1_leastSets yX1_leastSets, Cond.code yX1_leastSets cX1_leastSets 9 (some .int), Cond.methodLink RX1 119 yX1_queueOpen, Cond.instanceMethod yX1_queueOpen, Cond.selects RX1 yX1_queueOpen yX1_queueOpen, Cond.code yX1_queueOpen cX1_queueOpen 3 (some .int), Cond.methodLink RX1 131 yX0_holds, Cond.static yX0_holds]
def wsX3_many_r5 : List Cond := [Cond.code yX0_holds cX0_holds 3 (some .boolean), Cond.methodLink RX1 122 yJ6_bitCount_0f7a4, Cond.static yJ6_bitCount_0f7a4, Cond.initialized RJ6, Cond.code yJ6_bitCount_0f7a4 cJ6_bitCount_0f7a4 1 (some .int), Cond.constant RJ6 265 (1431655765), Cond.constant RJ6 266 (858993459), Cond.constant RJ6 267 (252645135), Cond.methodLink RX1 127 yX0_seamsGrowth, Cond.instanceMethod yX0_seamsGrowth, Cond.selects RX0 yX0_seamsGrowth yX0_seamsGrowth, Cond.code yX0_seamsGrowth cX0_seamsGrowth 8 (some .int), Cond.methodLink RX0 60 yX0_seamCost, Cond.methodLink RX0 64 yX0_holds]
def wsX3_many : List Cond := .code yX3_many cX3_many 1 (some .int) :: ((wsX3_many_r1 ++ (wsX3_many_r2 ++ (wsX3_many_r3 ++ (wsX3_many_r4 ++ wsX3_many_r5)))) ++ wsX30 ++ wsX00 ++ wsX10)
def wsX3_net_r1 : List Cond := [Cond.fieldLink RX3 24 "SkinBox" "points" "LSkinBox$Points;", Cond.methodLink RX3 32 yX3_within, Cond.static yX3_within, Cond.initialized RX3, Cond.code yX3_within cX3_within 3 (some .boolean), Cond.methodLink RX3 125 yX2_spread, Cond.instanceMethod yX2_spread, Cond.selects RX2 yX2_spread yX2_spread, Cond.initialized RX2, Cond.code yX2_spread cX2_spread 5 none, Cond.fieldLink RX2 22 "SkinBox$Points" "wide" "I", Cond.fieldLink RX2 26 "SkinBox$Points" "high" "I", Cond.fieldLink RX2 9 "SkinBox$Points" "heights" "[I", Cond.fieldLink RX2 15 "SkinBox$Points" "pinned" "[Z", Cond.methodLink RX2 33 yJ7_fill_53178, Cond.static yJ7_fill_53178, Cond.initialized RJ7, Cond.code yJ7_fill_53178 cJ7_fill_53178 4 none, Cond.methodLink RX2 39 yX2_at, Cond.instanceMethod yX2_at, Cond.selects RX2 yX2_at yX2_at, Cond.code yX2_at cX2_at 3 (some .int), Cond.methodLink RX3 129 yX2_pins, Cond.instanceMethod yX2_pins]
def wsX3_net_r2 : List Cond := [Cond.selects RX2 yX2_pins yX2_pins, Cond.code yX2_pins cX2_pins 4 (some .int)]
def wsX3_net : List Cond := .code yX3_net cX3_net 3 (some .int) :: ((wsX3_net_r1 ++ wsX3_net_r2) ++ wsX30 ++ wsX20)
def wsX3_lift : List Cond := .code yX3_lift cX3_lift 6 (some .int) :: ([.fieldLink RX3 24 "SkinBox" "points" "LSkinBox$Points;", .constant RX3 57 (-1000000), .fieldLink RX3 138 "SkinBox$Points" "heights" "[I", .methodLink RX3 132 yX2_has, .instanceMethod yX2_has, .selects RX2 yX2_has yX2_has, .initialized RX2, .code yX2_has cX2_has 3 (some .boolean), .fieldLink RX2 22 "SkinBox$Points" "wide" "I", .fieldLink RX2 26 "SkinBox$Points" "high" "I", .methodLink RX3 32 yX3_within, .static yX3_within, .initialized RX3, .code yX3_within cX3_within 3 (some .boolean), .methodLink RX3 135 yX2_at, .instanceMethod yX2_at, .selects RX2 yX2_at yX2_at, .code yX2_at cX2_at 3 (some .int)] ++ wsX30 ++ wsX20)
def wsX3_pin : List Cond := .code yX3_pin cX3_pin 6 (some .int) :: ([.fieldLink RX3 24 "SkinBox" "points" "LSkinBox$Points;", .fieldLink RX3 141 "SkinBox$Points" "pinned" "[Z", .methodLink RX3 132 yX2_has, .instanceMethod yX2_has, .selects RX2 yX2_has yX2_has, .initialized RX2, .code yX2_has cX2_has 3 (some .boolean), .fieldLink RX2 22 "SkinBox$Points" "wide" "I", .fieldLink RX2 26 "SkinBox$Points" "high" "I", .methodLink RX3 135 yX2_at, .instanceMethod yX2_at, .selects RX2 yX2_at yX2_at, .code yX2_at cX2_at 3 (some .int)] ++ wsX30 ++ wsX20)
def wsX3_height : List Cond := .code yX3_height cX3_height 3 (some .int) :: ([.fieldLink RX3 24 "SkinBox" "points" "LSkinBox$Points;", .fieldLink RX3 138 "SkinBox$Points" "heights" "[I", .constant RX3 57 (-1000000), .methodLink RX3 132 yX2_has, .instanceMethod yX2_has, .selects RX2 yX2_has yX2_has, .initialized RX2, .code yX2_has cX2_has 3 (some .boolean), .fieldLink RX2 22 "SkinBox$Points" "wide" "I", .fieldLink RX2 26 "SkinBox$Points" "high" "I", .methodLink RX3 135 yX2_at, .instanceMethod yX2_at, .selects RX2 yX2_at yX2_at, .code yX2_at cX2_at 3 (some .int)] ++ wsX30 ++ wsX20)
def wsX3_drawn_r1 : List Cond := [Cond.fieldLink RX3 24 "SkinBox" "points" "LSkinBox$Points;", Cond.methodLink RX3 145 yX2_sumOfDifferences, Cond.instanceMethod yX2_sumOfDifferences, Cond.selects RX2 yX2_sumOfDifferences yX2_sumOfDifferences, Cond.initialized RX2, Cond.code yX2_sumOfDifferences cX2_sumOfDifferences 4 (some .int), Cond.fieldLink RX2 26 "SkinBox$Points" "high" "I", Cond.fieldLink RX2 22 "SkinBox$Points" "wide" "I", Cond.methodLink RX2 43 yX2_difference, Cond.instanceMethod yX2_difference, Cond.selects RX2 yX2_difference yX2_difference, Cond.code yX2_difference cX2_difference 5 (some .int), Cond.fieldLink RX2 9 "SkinBox$Points" "heights" "[I", Cond.methodLink RX2 51 Lib.Math.abs.name, Cond.static Lib.Math.abs.name, Cond.initialized "java/lang/Math", Cond.code Lib.Math.abs.name Lib.Math.abs.code 1 (some .int), Cond.methodLink RX2 47 yX2_has, Cond.instanceMethod yX2_has, Cond.selects RX2 yX2_has yX2_has, Cond.code yX2_has cX2_has 3 (some .boolean), Cond.methodLink RX2 39 yX2_at, Cond.instanceMethod yX2_at, Cond.selects RX2 yX2_at yX2_at]
def wsX3_drawn_r2 : List Cond := [Cond.code yX2_at cX2_at 3 (some .int)]
def wsX3_drawn : List Cond := .code yX3_drawn cX3_drawn 1 (some .int) :: ((wsX3_drawn_r1 ++ wsX3_drawn_r2) ++ wsX30 ++ wsX20)
def wsX3_slack_r1 : List Cond := [Cond.fieldLink RX3 24 "SkinBox" "points" "LSkinBox$Points;", Cond.methodLink RX3 148 yX2_sumOfChanges, Cond.instanceMethod yX2_sumOfChanges, Cond.selects RX2 yX2_sumOfChanges yX2_sumOfChanges, Cond.initialized RX2, Cond.code yX2_sumOfChanges cX2_sumOfChanges 4 (some .int), Cond.fieldLink RX2 26 "SkinBox$Points" "high" "I", Cond.fieldLink RX2 22 "SkinBox$Points" "wide" "I", Cond.fieldLink RX2 9 "SkinBox$Points" "heights" "[I", Cond.methodLink RX2 51 Lib.Math.abs.name, Cond.static Lib.Math.abs.name, Cond.initialized "java/lang/Math", Cond.code Lib.Math.abs.name Lib.Math.abs.code 1 (some .int), Cond.methodLink RX2 57 yX2_stepped, Cond.instanceMethod yX2_stepped, Cond.selects RX2 yX2_stepped yX2_stepped, Cond.code yX2_stepped cX2_stepped 7 (some .int), Cond.fieldLink RX2 15 "SkinBox$Points" "pinned" "[Z", Cond.fieldLink RX2 19 "SkinBox$Points" "near" "[I", Cond.methodLink RX2 68 Lib.Math.min.name, Cond.static Lib.Math.min.name, Cond.code Lib.Math.min.name Lib.Math.min.code 2 (some .int), Cond.methodLink RX2 71 Lib.Math.max.name, Cond.static Lib.Math.max.name]
def wsX3_slack_r2 : List Cond := [Cond.code Lib.Math.max.name Lib.Math.max.code 2 (some .int), Cond.methodLink RX2 39 yX2_at, Cond.instanceMethod yX2_at, Cond.selects RX2 yX2_at yX2_at, Cond.code yX2_at cX2_at 3 (some .int), Cond.methodLink RX2 64 yX2_putInOrder, Cond.instanceMethod yX2_putInOrder, Cond.selects RX2 yX2_putInOrder yX2_putInOrder, Cond.code yX2_putInOrder cX2_putInOrder 6 (some .int), Cond.methodLink RX2 47 yX2_has, Cond.instanceMethod yX2_has, Cond.selects RX2 yX2_has yX2_has, Cond.code yX2_has cX2_has 3 (some .boolean)]
def wsX3_slack : List Cond := .code yX3_slack cX3_slack 1 (some .int) :: ((wsX3_slack_r1 ++ wsX3_slack_r2) ++ wsX30 ++ wsX20)
def wsX3_rounds_r1 : List Cond := [Cond.fieldLink RX3 24 "SkinBox" "points" "LSkinBox$Points;", Cond.methodLink RX3 32 yX3_within, Cond.static yX3_within, Cond.initialized RX3, Cond.code yX3_within cX3_within 3 (some .boolean), Cond.methodLink RX3 151 yX2_isAtRest, Cond.instanceMethod yX2_isAtRest, Cond.selects RX2 yX2_isAtRest yX2_isAtRest, Cond.initialized RX2, Cond.code yX2_isAtRest cX2_isAtRest 1 (some .boolean), Cond.methodLink RX2 60 yX2_sumOfChanges, Cond.instanceMethod yX2_sumOfChanges, Cond.selects RX2 yX2_sumOfChanges yX2_sumOfChanges, Cond.code yX2_sumOfChanges cX2_sumOfChanges 4 (some .int), Cond.fieldLink RX2 26 "SkinBox$Points" "high" "I", Cond.fieldLink RX2 22 "SkinBox$Points" "wide" "I", Cond.fieldLink RX2 9 "SkinBox$Points" "heights" "[I", Cond.methodLink RX2 51 Lib.Math.abs.name, Cond.static Lib.Math.abs.name, Cond.initialized "java/lang/Math", Cond.code Lib.Math.abs.name Lib.Math.abs.code 1 (some .int), Cond.methodLink RX2 57 yX2_stepped, Cond.instanceMethod yX2_stepped, Cond.selects RX2 yX2_stepped yX2_stepped]
def wsX3_rounds_r2 : List Cond := [Cond.code yX2_stepped cX2_stepped 7 (some .int), Cond.fieldLink RX2 15 "SkinBox$Points" "pinned" "[Z", Cond.fieldLink RX2 19 "SkinBox$Points" "near" "[I", Cond.methodLink RX2 68 Lib.Math.min.name, Cond.static Lib.Math.min.name, Cond.code Lib.Math.min.name Lib.Math.min.code 2 (some .int), Cond.methodLink RX2 71 Lib.Math.max.name, Cond.static Lib.Math.max.name, Cond.code Lib.Math.max.name Lib.Math.max.code 2 (some .int), Cond.methodLink RX2 39 yX2_at, Cond.instanceMethod yX2_at, Cond.selects RX2 yX2_at yX2_at, Cond.code yX2_at cX2_at 3 (some .int), Cond.methodLink RX2 64 yX2_putInOrder, Cond.instanceMethod yX2_putInOrder, Cond.selects RX2 yX2_putInOrder yX2_putInOrder, Cond.code yX2_putInOrder cX2_putInOrder 6 (some .int), Cond.methodLink RX2 47 yX2_has, Cond.instanceMethod yX2_has, Cond.selects RX2 yX2_has yX2_has, Cond.code yX2_has cX2_has 3 (some .boolean), Cond.methodLink RX3 155 yX2_stepAtEach, Cond.instanceMethod yX2_stepAtEach, Cond.selects RX2 yX2_stepAtEach yX2_stepAtEach]
def wsX3_rounds_r3 : List Cond := [Cond.code yX2_stepAtEach cX2_stepAtEach 3 none]
def wsX3_rounds : List Cond := .code yX3_rounds cX3_rounds 3 (some .int) :: ((wsX3_rounds_r1 ++ (wsX3_rounds_r2 ++ wsX3_rounds_r3)) ++ wsX30 ++ wsX20)
def wsX3_count_r1 : List Cond := [Cond.fieldLink RX3 20 "SkinBox" "cells" "LSkinBox$Cells;", Cond.fieldLink RX3 158 "SkinBox$Cells" "sides" "[I", Cond.fieldLink RX3 24 "SkinBox" "points" "LSkinBox$Points;", Cond.fieldLink RX3 161 "SkinBox$Points" "wide" "I", Cond.fieldLink RX3 164 "SkinBox$Points" "high" "I", Cond.methodLink RX3 118 yX0_freeCells, Cond.instanceMethod yX0_freeCells, Cond.selects RX0 yX0_freeCells yX0_freeCells, Cond.initialized RX0, Cond.code yX0_freeCells cX0_freeCells 3 (some .int), Cond.fieldLink RX0 30 "SkinBox$Cells" "size" "I", Cond.fieldLink RX0 15 "SkinBox$Cells" "held" "[I", Cond.methodLink RX3 129 yX2_pins, Cond.instanceMethod yX2_pins, Cond.selects RX2 yX2_pins yX2_pins, Cond.initialized RX2, Cond.code yX2_pins cX2_pins 4 (some .int), Cond.fieldLink RX2 26 "SkinBox$Points" "high" "I", Cond.fieldLink RX2 22 "SkinBox$Points" "wide" "I", Cond.fieldLink RX2 15 "SkinBox$Points" "pinned" "[Z", Cond.methodLink RX2 39 yX2_at, Cond.instanceMethod yX2_at, Cond.selects RX2 yX2_at yX2_at, Cond.code yX2_at cX2_at 3 (some .int)]
def wsX3_count_r2 : List Cond := [Cond.methodLink RX3 151 yX2_isAtRest, Cond.instanceMethod yX2_isAtRest, Cond.selects RX2 yX2_isAtRest yX2_isAtRest, Cond.code yX2_isAtRest cX2_isAtRest 1 (some .boolean), Cond.methodLink RX2 60 yX2_sumOfChanges, Cond.instanceMethod yX2_sumOfChanges, Cond.selects RX2 yX2_sumOfChanges yX2_sumOfChanges, Cond.code yX2_sumOfChanges cX2_sumOfChanges 4 (some .int), Cond.fieldLink RX2 9 "SkinBox$Points" "heights" "[I", Cond.methodLink RX2 51 Lib.Math.abs.name, Cond.static Lib.Math.abs.name, Cond.initialized "java/lang/Math", Cond.code Lib.Math.abs.name Lib.Math.abs.code 1 (some .int), Cond.methodLink RX2 57 yX2_stepped, Cond.instanceMethod yX2_stepped, Cond.selects RX2 yX2_stepped yX2_stepped, Cond.code yX2_stepped cX2_stepped 7 (some .int), Cond.fieldLink RX2 19 "SkinBox$Points" "near" "[I", Cond.methodLink RX2 68 Lib.Math.min.name, Cond.static Lib.Math.min.name, Cond.code Lib.Math.min.name Lib.Math.min.code 2 (some .int), Cond.methodLink RX2 71 Lib.Math.max.name, Cond.static Lib.Math.max.name, Cond.code Lib.Math.max.name Lib.Math.max.code 2 (some .int)]
def wsX3_count_r3 : List Cond := [Cond.methodLink RX2 64 yX2_putInOrder, Cond.instanceMethod yX2_putInOrder, Cond.selects RX2 yX2_putInOrder yX2_putInOrder, Cond.code yX2_putInOrder cX2_putInOrder 6 (some .int), Cond.methodLink RX2 47 yX2_has, Cond.instanceMethod yX2_has, Cond.selects RX2 yX2_has yX2_has, Cond.code yX2_has cX2_has 3 (some .boolean)]
def wsX3_count : List Cond := .code yX3_count cX3_count 2 (some .int) :: ((wsX3_count_r1 ++ (wsX3_count_r2 ++ wsX3_count_r3)) ++ wsX30 ++ wsX00 ++ wsX20)
def wsX3_trace : List Cond := .code yX3_trace cX3_trace 1 (some .long) :: ([.fieldLink RX3 28 "SkinBox" "asked" "J"] ++ wsX30)
def wsX4_pins : List Cond := .code yX4_pins cX4_pins 4 none :: ([.fieldLink RX4 54 "SkinBoxModel" "height" "[I", .fieldLink RX4 57 "SkinBoxModel" "isPinned" "[Z", .fieldLink RX4 47 "SkinBoxModel" "w" "I", .fieldLink RX4 51 "SkinBoxModel" "h" "I"] ++ wsX40)
def wsX4_init_r1 : List Cond := [Cond.methodLink RX4 1 objectInit, Cond.instanceMethod objectInit, Cond.code objectInit ⟨#[0xb1]⟩ 1 none, Cond.arrayClass .int, Cond.fieldLink RX4 7 "SkinBoxModel" "sides" "[I", Cond.fieldLink RX4 13 "SkinBoxModel" "held" "[I", Cond.fieldLink RX4 16 "SkinBoxModel" "price" "[I", Cond.fieldLink RX4 19 "SkinBoxModel" "rules" "[I", Cond.fieldLink RX4 22 "SkinBoxModel" "ways" "[I", Cond.fieldLink RX4 25 "SkinBoxModel" "place" "[I", Cond.arrayClass .long, Cond.fieldLink RX4 28 "SkinBoxModel" "value" "[J", Cond.fieldLink RX4 32 "SkinBoxModel" "sets" "[J", Cond.fieldLink RX4 35 "SkinBoxModel" "times" "[J", Cond.fieldLink RX4 38 "SkinBoxModel" "nextValue" "[J", Cond.fieldLink RX4 41 "SkinBoxModel" "nextSets" "[J", Cond.fieldLink RX4 44 "SkinBoxModel" "nextTimes" "[J", Cond.fieldLink RX4 47 "SkinBoxModel" "w" "I", Cond.fieldLink RX4 51 "SkinBoxModel" "h" "I", Cond.fieldLink RX4 54 "SkinBoxModel" "height" "[I", Cond.arrayClass .boolean, Cond.fieldLink RX4 57 "SkinBoxModel" "isPinned" "[Z", Cond.fieldLink RX4 61 "SkinBoxModel" "beside" "[I", Cond.methodLink RX4 64 yX4_pins]
def wsX4_init_r2 : List Cond := [Cond.instanceMethod yX4_pins, Cond.selects RX4 yX4_pins yX4_pins, Cond.initialized RX4, Cond.code yX4_pins cX4_pins 4 none]
def wsX4_init : List Cond := .code yX4_init cX4_init 1 none :: ((wsX4_init_r1 ++ wsX4_init_r2) ++ wsX40)
def wsX4_in : List Cond := .code yX4_in cX4_in 6 (some .boolean) :: ([])
def wsX4_cells : List Cond := .code yX4_cells cX4_cells 1 (some .int) :: ([.fieldLink RX4 7 "SkinBoxModel" "sides" "[I"] ++ wsX40)
def wsX4_isCell : List Cond := .code yX4_isCell cX4_isCell 2 (some .boolean) :: ([.methodLink RX4 70 yX4_cells, .instanceMethod yX4_cells, .selects RX4 yX4_cells yX4_cells, .initialized RX4, .code yX4_cells cX4_cells 1 (some .int), .fieldLink RX4 7 "SkinBoxModel" "sides" "[I", .methodLink RX4 74 yX4_in, .static yX4_in, .code yX4_in cX4_in 6 (some .boolean)] ++ wsX40)
def wsX4_placeOf : List Cond := .code yX4_placeOf cX4_placeOf 3 (some .int) :: ([.fieldLink RX4 7 "SkinBoxModel" "sides" "[I"] ++ wsX40)
def wsX4_stride : List Cond := .code yX4_stride cX4_stride 2 (some .int) :: ([.fieldLink RX4 7 "SkinBoxModel" "sides" "[I"] ++ wsX40)
def wsX4_box : List Cond := .code yX4_box cX4_box 5 (some .int) :: ([.fieldLink RX4 67 "SkinBoxModel" "thrown" "I", .constantLong RX4 78 (4), .fieldLink RX4 7 "SkinBoxModel" "sides" "[I", .fieldLink RX4 13 "SkinBoxModel" "held" "[I", .fieldLink RX4 16 "SkinBoxModel" "price" "[I", .methodLink RX4 74 yX4_in, .static yX4_in, .initialized RX4, .code yX4_in cX4_in 6 (some .boolean), .methodLink RX4 70 yX4_cells, .instanceMethod yX4_cells, .selects RX4 yX4_cells yX4_cells, .code yX4_cells cX4_cells 1 (some .int)] ++ wsX40)
def wsX4_hold : List Cond := .code yX4_hold cX4_hold 4 (some .int) :: ([.fieldLink RX4 67 "SkinBoxModel" "thrown" "I", .constantLong RX4 84 (2), .fieldLink RX4 13 "SkinBoxModel" "held" "[I", .methodLink RX4 80 yX4_isCell, .instanceMethod yX4_isCell, .selects RX4 yX4_isCell yX4_isCell, .initialized RX4, .code yX4_isCell cX4_isCell 2 (some .boolean), .methodLink RX4 70 yX4_cells, .instanceMethod yX4_cells, .selects RX4 yX4_cells yX4_cells, .code yX4_cells cX4_cells 1 (some .int), .fieldLink RX4 7 "SkinBoxModel" "sides" "[I", .methodLink RX4 74 yX4_in, .static yX4_in, .code yX4_in cX4_in 6 (some .boolean)] ++ wsX40)
def wsX4_price : List Cond := .code yX4_price cX4_price 4 (some .int) :: ([.fieldLink RX4 67 "SkinBoxModel" "thrown" "I", .constantLong RX4 86 (-20), .constantLong RX4 88 (20), .constant RX4 90 (-1000000), .fieldLink RX4 16 "SkinBoxModel" "price" "[I", .methodLink RX4 80 yX4_isCell, .instanceMethod yX4_isCell, .selects RX4 yX4_isCell yX4_isCell, .initialized RX4, .code yX4_isCell cX4_isCell 2 (some .boolean), .methodLink RX4 70 yX4_cells, .instanceMethod yX4_cells, .selects RX4 yX4_cells yX4_cells, .code yX4_cells cX4_cells 1 (some .int), .fieldLink RX4 7 "SkinBoxModel" "sides" "[I", .methodLink RX4 74 yX4_in, .static yX4_in, .code yX4_in cX4_in 6 (some .boolean)] ++ wsX40)
def wsX4_set : List Cond := .code yX4_set cX4_set 4 (some .int) :: ([.fieldLink RX4 67 "SkinBoxModel" "thrown" "I", .constantLong RX4 91 (6), .constantLong RX4 84 (2), .constantLong RX4 93 (9), .fieldLink RX4 19 "SkinBoxModel" "rules" "[I", .methodLink RX4 74 yX4_in, .static yX4_in, .initialized RX4, .code yX4_in cX4_in 6 (some .boolean)] ++ wsX40)
def wsX4_faceCost : List Cond := .code yX4_faceCost cX4_faceCost 5 (some .int) :: ([.fieldLink RX4 19 "SkinBoxModel" "rules" "[I"] ++ wsX40)
def wsX4_cost_r1 : List Cond := [Cond.fieldLink RX4 67 "SkinBoxModel" "thrown" "I", Cond.constantLong RX4 84 (2), Cond.fieldLink RX4 103 "SkinBoxModel" "trace" "J", Cond.constantLong RX4 107 (11), Cond.constantLong RX4 109 (111), Cond.methodLink RX4 74 yX4_in, Cond.static yX4_in, Cond.initialized RX4, Cond.code yX4_in cX4_in 6 (some .boolean), Cond.methodLink RX4 80 yX4_isCell, Cond.instanceMethod yX4_isCell, Cond.selects RX4 yX4_isCell yX4_isCell, Cond.code yX4_isCell cX4_isCell 2 (some .boolean), Cond.methodLink RX4 70 yX4_cells, Cond.instanceMethod yX4_cells, Cond.selects RX4 yX4_cells yX4_cells, Cond.code yX4_cells cX4_cells 1 (some .int), Cond.fieldLink RX4 7 "SkinBoxModel" "sides" "[I", Cond.methodLink RX4 95 yX4_stride, Cond.instanceMethod yX4_stride, Cond.selects RX4 yX4_stride yX4_stride, Cond.code yX4_stride cX4_stride 2 (some .int), Cond.methodLink RX4 99 yX4_placeOf, Cond.instanceMethod yX4_placeOf]
def wsX4_cost_r2 : List Cond := [Cond.selects RX4 yX4_placeOf yX4_placeOf, Cond.code yX4_placeOf cX4_placeOf 3 (some .int), Cond.methodLink RX4 111 yX4_faceCost, Cond.instanceMethod yX4_faceCost, Cond.selects RX4 yX4_faceCost yX4_faceCost, Cond.code yX4_faceCost cX4_faceCost 5 (some .int), Cond.fieldLink RX4 19 "SkinBoxModel" "rules" "[I"]
def wsX4_cost : List Cond := .code yX4_cost cX4_cost 7 (some .int) :: ((wsX4_cost_r1 ++ wsX4_cost_r2) ++ wsX40)
def wsX4_isSet : List Cond := .code yX4_isSet cX4_isSet 3 (some .boolean) :: ([.methodLink RX4 70 yX4_cells, .instanceMethod yX4_cells, .selects RX4 yX4_cells yX4_cells, .initialized RX4, .code yX4_cells cX4_cells 1 (some .int), .fieldLink RX4 7 "SkinBoxModel" "sides" "[I"] ++ wsX40)
def wsX4_outsides : List Cond := .code yX4_outsides cX4_outsides 4 (some .int) :: ([.fieldLink RX4 7 "SkinBoxModel" "sides" "[I", .methodLink RX4 99 yX4_placeOf, .instanceMethod yX4_placeOf, .selects RX4 yX4_placeOf yX4_placeOf, .initialized RX4, .code yX4_placeOf cX4_placeOf 3 (some .int)] ++ wsX40)
def wsX4_skinOf : List Cond := .code yX4_skinOf cX4_skinOf 9 (some .long) :: ([.fieldLink RX4 19 "SkinBoxModel" "rules" "[I", .fieldLink RX4 7 "SkinBoxModel" "sides" "[I", .methodLink RX4 70 yX4_cells, .instanceMethod yX4_cells, .selects RX4 yX4_cells yX4_cells, .initialized RX4, .code yX4_cells cX4_cells 1 (some .int), .methodLink RX4 115 yX4_outsides, .instanceMethod yX4_outsides, .selects RX4 yX4_outsides yX4_outsides, .code yX4_outsides cX4_outsides 4 (some .int), .methodLink RX4 99 yX4_placeOf, .instanceMethod yX4_placeOf, .selects RX4 yX4_placeOf yX4_placeOf, .code yX4_placeOf cX4_placeOf 3 (some .int), .methodLink RX4 95 yX4_stride, .instanceMethod yX4_stride, .selects RX4 yX4_stride yX4_stride, .code yX4_stride cX4_stride 2 (some .int), .methodLink RX4 111 yX4_faceCost, .instanceMethod yX4_faceCost, .selects RX4 yX4_faceCost yX4_faceCost, .code yX4_faceCost cX4_faceCost 5 (some .int)] ++ wsX40)
def wsX4_skin_r1 : List Cond := [Cond.fieldLink RX4 67 "SkinBoxModel" "thrown" "I", Cond.constantLong RX4 126 (-1), Cond.methodLink RX4 118 yX4_isSet, Cond.instanceMethod yX4_isSet, Cond.selects RX4 yX4_isSet yX4_isSet, Cond.initialized RX4, Cond.code yX4_isSet cX4_isSet 3 (some .boolean), Cond.methodLink RX4 70 yX4_cells, Cond.instanceMethod yX4_cells, Cond.selects RX4 yX4_cells yX4_cells, Cond.code yX4_cells cX4_cells 1 (some .int), Cond.fieldLink RX4 7 "SkinBoxModel" "sides" "[I", Cond.methodLink RX4 122 yX4_skinOf, Cond.instanceMethod yX4_skinOf, Cond.selects RX4 yX4_skinOf yX4_skinOf, Cond.code yX4_skinOf cX4_skinOf 9 (some .long), Cond.fieldLink RX4 19 "SkinBoxModel" "rules" "[I", Cond.methodLink RX4 115 yX4_outsides, Cond.instanceMethod yX4_outsides, Cond.selects RX4 yX4_outsides yX4_outsides, Cond.code yX4_outsides cX4_outsides 4 (some .int), Cond.methodLink RX4 99 yX4_placeOf, Cond.instanceMethod yX4_placeOf, Cond.selects RX4 yX4_placeOf yX4_placeOf]
def wsX4_skin_r2 : List Cond := [Cond.code yX4_placeOf cX4_placeOf 3 (some .int), Cond.methodLink RX4 95 yX4_stride, Cond.instanceMethod yX4_stride, Cond.selects RX4 yX4_stride yX4_stride, Cond.code yX4_stride cX4_stride 2 (some .int), Cond.methodLink RX4 111 yX4_faceCost, Cond.instanceMethod yX4_faceCost, Cond.selects RX4 yX4_faceCost yX4_faceCost, Cond.code yX4_faceCost cX4_faceCost 5 (some .int)]
def wsX4_skin : List Cond := .code yX4_skin cX4_skin 3 (some .long) :: ((wsX4_skin_r1 ++ wsX4_skin_r2) ++ wsX40)
def wsX4_all_r1 : List Cond := [Cond.fieldLink RX4 67 "SkinBoxModel" "thrown" "I", Cond.constantLong RX4 128 (-1000000), Cond.fieldLink RX4 16 "SkinBoxModel" "price" "[I", Cond.methodLink RX4 118 yX4_isSet, Cond.instanceMethod yX4_isSet, Cond.selects RX4 yX4_isSet yX4_isSet, Cond.initialized RX4, Cond.code yX4_isSet cX4_isSet 3 (some .boolean), Cond.methodLink RX4 70 yX4_cells, Cond.instanceMethod yX4_cells, Cond.selects RX4 yX4_cells yX4_cells, Cond.code yX4_cells cX4_cells 1 (some .int), Cond.fieldLink RX4 7 "SkinBoxModel" "sides" "[I", Cond.methodLink RX4 122 yX4_skinOf, Cond.instanceMethod yX4_skinOf, Cond.selects RX4 yX4_skinOf yX4_skinOf, Cond.code yX4_skinOf cX4_skinOf 9 (some .long), Cond.fieldLink RX4 19 "SkinBoxModel" "rules" "[I", Cond.methodLink RX4 115 yX4_outsides, Cond.instanceMethod yX4_outsides, Cond.selects RX4 yX4_outsides yX4_outsides, Cond.code yX4_outsides cX4_outsides 4 (some .int), Cond.methodLink RX4 99 yX4_placeOf, Cond.instanceMethod yX4_placeOf]
def wsX4_all_r2 : List Cond := [Cond.selects RX4 yX4_placeOf yX4_placeOf, Cond.code yX4_placeOf cX4_placeOf 3 (some .int), Cond.methodLink RX4 95 yX4_stride, Cond.instanceMethod yX4_stride, Cond.selects RX4 yX4_stride yX4_stride, Cond.code yX4_stride cX4_stride 2 (some .int), Cond.methodLink RX4 111 yX4_faceCost, Cond.instanceMethod yX4_faceCost, Cond.selects RX4 yX4_faceCost yX4_faceCost, Cond.code yX4_faceCost cX4_faceCost 5 (some .int)]
def wsX4_all : List Cond := .code yX4_all cX4_all 6 (some .long) :: ((wsX4_all_r1 ++ wsX4_all_r2) ++ wsX40)
def wsX4_right : List Cond := .code yX4_right cX4_right 5 (some .int) :: ([.fieldLink RX4 67 "SkinBoxModel" "thrown" "I", .fieldLink RX4 13 "SkinBoxModel" "held" "[I", .methodLink RX4 118 yX4_isSet, .instanceMethod yX4_isSet, .selects RX4 yX4_isSet yX4_isSet, .initialized RX4, .code yX4_isSet cX4_isSet 3 (some .boolean), .methodLink RX4 70 yX4_cells, .instanceMethod yX4_cells, .selects RX4 yX4_cells yX4_cells, .code yX4_cells cX4_cells 1 (some .int), .fieldLink RX4 7 "SkinBoxModel" "sides" "[I"] ++ wsX40)
def wsX4_orders : List Cond := .code yX4_orders cX4_orders 3 none :: ([.fieldLink RX4 7 "SkinBoxModel" "sides" "[I", .fieldLink RX4 22 "SkinBoxModel" "ways" "[I"] ++ wsX40)
def wsX4_cellAt : List Cond := .code yX4_cellAt cX4_cellAt 4 (some .int) :: ([.fieldLink RX4 7 "SkinBoxModel" "sides" "[I", .fieldLink RX4 22 "SkinBoxModel" "ways" "[I", .fieldLink RX4 25 "SkinBoxModel" "place" "[I", .methodLink RX4 95 yX4_stride, .instanceMethod yX4_stride, .selects RX4 yX4_stride yX4_stride, .initialized RX4, .code yX4_stride cX4_stride 2 (some .int)] ++ wsX40)
def wsX4_adds : List Cond := .code yX4_adds cX4_adds 8 (some .int) :: ([.fieldLink RX4 16 "SkinBoxModel" "price" "[I", .fieldLink RX4 19 "SkinBoxModel" "rules" "[I", .fieldLink RX4 25 "SkinBoxModel" "place" "[I", .fieldLink RX4 22 "SkinBoxModel" "ways" "[I", .fieldLink RX4 7 "SkinBoxModel" "sides" "[I", .methodLink RX4 115 yX4_outsides, .instanceMethod yX4_outsides, .selects RX4 yX4_outsides yX4_outsides, .initialized RX4, .code yX4_outsides cX4_outsides 4 (some .int), .methodLink RX4 99 yX4_placeOf, .instanceMethod yX4_placeOf, .selects RX4 yX4_placeOf yX4_placeOf, .code yX4_placeOf cX4_placeOf 3 (some .int), .methodLink RX4 111 yX4_faceCost, .instanceMethod yX4_faceCost, .selects RX4 yX4_faceCost yX4_faceCost, .code yX4_faceCost cX4_faceCost 5 (some .int)] ++ wsX40)
def wsX4_finds_r1 : List Cond := [Cond.fieldLink RX4 7 "SkinBoxModel" "sides" "[I", Cond.fieldLink RX4 22 "SkinBoxModel" "ways" "[I", Cond.fieldLink RX4 28 "SkinBoxModel" "value" "[J", Cond.constantLong RX4 133 (4000000000000000), Cond.fieldLink RX4 32 "SkinBoxModel" "sets" "[J", Cond.fieldLink RX4 35 "SkinBoxModel" "times" "[J", Cond.fieldLink RX4 38 "SkinBoxModel" "nextValue" "[J", Cond.fieldLink RX4 44 "SkinBoxModel" "nextTimes" "[J", Cond.fieldLink RX4 13 "SkinBoxModel" "held" "[I", Cond.constantLong RX4 138 (64), Cond.fieldLink RX4 41 "SkinBoxModel" "nextSets" "[J", Cond.fieldLink RX4 144 "SkinBoxModel" "found" "J", Cond.fieldLink RX4 147 "SkinBoxModel" "foundTimes" "J", Cond.fieldLink RX4 150 "SkinBoxModel" "foundSet" "J", Cond.methodLink RX4 130 yX4_orders, Cond.instanceMethod yX4_orders, Cond.selects RX4 yX4_orders yX4_orders, Cond.initialized RX4, Cond.code yX4_orders cX4_orders 3 none, Cond.methodLink RX4 70 yX4_cells, Cond.instanceMethod yX4_cells, Cond.selects RX4 yX4_cells yX4_cells, Cond.code yX4_cells cX4_cells 1 (some .int), Cond.methodLink RX4 135 yX4_cellAt]
def wsX4_finds_r2 : List Cond := [Cond.instanceMethod yX4_cellAt, Cond.selects RX4 yX4_cellAt yX4_cellAt, Cond.code yX4_cellAt cX4_cellAt 4 (some .int), Cond.fieldLink RX4 25 "SkinBoxModel" "place" "[I", Cond.methodLink RX4 95 yX4_stride, Cond.instanceMethod yX4_stride, Cond.selects RX4 yX4_stride yX4_stride, Cond.code yX4_stride cX4_stride 2 (some .int), Cond.methodLink RX4 140 yX4_adds, Cond.instanceMethod yX4_adds, Cond.selects RX4 yX4_adds yX4_adds, Cond.code yX4_adds cX4_adds 8 (some .int), Cond.fieldLink RX4 16 "SkinBoxModel" "price" "[I", Cond.fieldLink RX4 19 "SkinBoxModel" "rules" "[I", Cond.methodLink RX4 115 yX4_outsides, Cond.instanceMethod yX4_outsides, Cond.selects RX4 yX4_outsides yX4_outsides, Cond.code yX4_outsides cX4_outsides 4 (some .int), Cond.methodLink RX4 99 yX4_placeOf, Cond.instanceMethod yX4_placeOf, Cond.selects RX4 yX4_placeOf yX4_placeOf, Cond.code yX4_placeOf cX4_placeOf 3 (some .int), Cond.methodLink RX4 111 yX4_faceCost, Cond.instanceMethod yX4_faceCost]
def wsX4_finds_r3 : List Cond := [Cond.selects RX4 yX4_faceCost yX4_faceCost, Cond.code yX4_faceCost cX4_faceCost 5 (some .int)]
def wsX4_finds : List Cond := .code yX4_finds cX4_finds 12 none :: ((wsX4_finds_r1 ++ (wsX4_finds_r2 ++ wsX4_finds_r3)) ++ wsX40)
def wsX4_least_r1 : List Cond := [Cond.fieldLink RX4 67 "SkinBoxModel" "thrown" "I", Cond.fieldLink RX4 144 "SkinBoxModel" "found" "J", Cond.constantLong RX4 138 (64), Cond.methodLink RX4 153 yX4_finds, Cond.instanceMethod yX4_finds, Cond.selects RX4 yX4_finds yX4_finds, Cond.initialized RX4, Cond.code yX4_finds cX4_finds 12 none, Cond.fieldLink RX4 7 "SkinBoxModel" "sides" "[I", Cond.fieldLink RX4 22 "SkinBoxModel" "ways" "[I", Cond.fieldLink RX4 28 "SkinBoxModel" "value" "[J", Cond.constantLong RX4 133 (4000000000000000), Cond.fieldLink RX4 32 "SkinBoxModel" "sets" "[J", Cond.fieldLink RX4 35 "SkinBoxModel" "times" "[J", Cond.fieldLink RX4 38 "SkinBoxModel" "nextValue" "[J", Cond.fieldLink RX4 44 "SkinBoxModel" "nextTimes" "[J", Cond.fieldLink RX4 13 "SkinBoxModel" "held" "[I", Cond.fieldLink RX4 41 "SkinBoxModel" "nextSets" "[J", Cond.fieldLink RX4 147 "SkinBoxModel" "foundTimes" "J", Cond.fieldLink RX4 150 "SkinBoxModel" "foundSet" "J", Cond.methodLink RX4 130 yX4_orders, Cond.instanceMethod yX4_orders, Cond.selects RX4 yX4_orders yX4_orders, Cond.code yX4_orders cX4_orders 3 none]
def wsX4_least_r2 : List Cond := [Cond.methodLink RX4 70 yX4_cells, Cond.instanceMethod yX4_cells, Cond.selects RX4 yX4_cells yX4_cells, Cond.code yX4_cells cX4_cells 1 (some .int), Cond.methodLink RX4 135 yX4_cellAt, Cond.instanceMethod yX4_cellAt, Cond.selects RX4 yX4_cellAt yX4_cellAt, Cond.code yX4_cellAt cX4_cellAt 4 (some .int), Cond.fieldLink RX4 25 "SkinBoxModel" "place" "[I", Cond.methodLink RX4 95 yX4_stride, Cond.instanceMethod yX4_stride, Cond.selects RX4 yX4_stride yX4_stride, Cond.code yX4_stride cX4_stride 2 (some .int), Cond.methodLink RX4 140 yX4_adds, Cond.instanceMethod yX4_adds, Cond.selects RX4 yX4_adds yX4_adds, Cond.code yX4_adds cX4_adds 8 (some .int), Cond.fieldLink RX4 16 "SkinBoxModel" "price" "[I", Cond.fieldLink RX4 19 "SkinBoxModel" "rules" "[I", Cond.methodLink RX4 115 yX4_outsides, Cond.instanceMethod yX4_outsides, Cond.selects RX4 yX4_outsides yX4_outsides, Cond.code yX4_outsides cX4_outsides 4 (some .int), Cond.methodLink RX4 99 yX4_placeOf]
def wsX4_least_r3 : List Cond := [Cond.instanceMethod yX4_placeOf, Cond.selects RX4 yX4_placeOf yX4_placeOf, Cond.code yX4_placeOf cX4_placeOf 3 (some .int), Cond.methodLink RX4 111 yX4_faceCost, Cond.instanceMethod yX4_faceCost, Cond.selects RX4 yX4_faceCost yX4_faceCost, Cond.code yX4_faceCost cX4_faceCost 5 (some .int)]
def wsX4_least : List Cond := .code yX4_least cX4_least 1 (some .long) :: ((wsX4_least_r1 ++ (wsX4_least_r2 ++ wsX4_least_r3)) ++ wsX40)
def wsX4_film_r1 : List Cond := [Cond.fieldLink RX4 67 "SkinBoxModel" "thrown" "I", Cond.constantLong RX4 126 (-1), Cond.fieldLink RX4 150 "SkinBoxModel" "foundSet" "J", Cond.methodLink RX4 74 yX4_in, Cond.static yX4_in, Cond.initialized RX4, Cond.code yX4_in cX4_in 6 (some .boolean), Cond.methodLink RX4 153 yX4_finds, Cond.instanceMethod yX4_finds, Cond.selects RX4 yX4_finds yX4_finds, Cond.code yX4_finds cX4_finds 12 none, Cond.fieldLink RX4 7 "SkinBoxModel" "sides" "[I", Cond.fieldLink RX4 22 "SkinBoxModel" "ways" "[I", Cond.fieldLink RX4 28 "SkinBoxModel" "value" "[J", Cond.constantLong RX4 133 (4000000000000000), Cond.fieldLink RX4 32 "SkinBoxModel" "sets" "[J", Cond.fieldLink RX4 35 "SkinBoxModel" "times" "[J", Cond.fieldLink RX4 38 "SkinBoxModel" "nextValue" "[J", Cond.fieldLink RX4 44 "SkinBoxModel" "nextTimes" "[J", Cond.fieldLink RX4 13 "SkinBoxModel" "held" "[I", Cond.constantLong RX4 138 (64), Cond.fieldLink RX4 41 "SkinBoxModel" "nextSets" "[J", Cond.fieldLink RX4 144 "SkinBoxModel" "found" "J", Cond.fieldLink RX4 147 "SkinBoxModel" "foundTimes" "J"]
def wsX4_film_r2 : List Cond := [Cond.methodLink RX4 130 yX4_orders, Cond.instanceMethod yX4_orders, Cond.selects RX4 yX4_orders yX4_orders, Cond.code yX4_orders cX4_orders 3 none, Cond.methodLink RX4 70 yX4_cells, Cond.instanceMethod yX4_cells, Cond.selects RX4 yX4_cells yX4_cells, Cond.code yX4_cells cX4_cells 1 (some .int), Cond.methodLink RX4 135 yX4_cellAt, Cond.instanceMethod yX4_cellAt, Cond.selects RX4 yX4_cellAt yX4_cellAt, Cond.code yX4_cellAt cX4_cellAt 4 (some .int), Cond.fieldLink RX4 25 "SkinBoxModel" "place" "[I", Cond.methodLink RX4 95 yX4_stride, Cond.instanceMethod yX4_stride, Cond.selects RX4 yX4_stride yX4_stride, Cond.code yX4_stride cX4_stride 2 (some .int), Cond.methodLink RX4 140 yX4_adds, Cond.instanceMethod yX4_adds, Cond.selects RX4 yX4_adds yX4_adds, Cond.code yX4_adds cX4_adds 8 (some .int), Cond.fieldLink RX4 16 "SkinBoxModel" "price" "[I", Cond.fieldLink RX4 19 "SkinBoxModel" "rules" "[I", Cond.methodLink RX4 115 yX4_outsides]
def wsX4_film_r3 : List Cond := [Cond.instanceMethod yX4_outsides, Cond.selects RX4 yX4_outsides yX4_outsides, Cond.code yX4_outsides cX4_outsides 4 (some .int), Cond.methodLink RX4 99 yX4_placeOf, Cond.instanceMethod yX4_placeOf, Cond.selects RX4 yX4_placeOf yX4_placeOf, Cond.code yX4_placeOf cX4_placeOf 3 (some .int), Cond.methodLink RX4 111 yX4_faceCost, Cond.instanceMethod yX4_faceCost, Cond.selects RX4 yX4_faceCost yX4_faceCost, Cond.code yX4_faceCost cX4_faceCost 5 (some .int)]
def wsX4_film : List Cond := .code yX4_film cX4_film 2 (some .long) :: ((wsX4_film_r1 ++ (wsX4_film_r2 ++ wsX4_film_r3)) ++ wsX40)
def wsX4_room_r1 : List Cond := [Cond.fieldLink RX4 67 "SkinBoxModel" "thrown" "I", Cond.constantLong RX4 157 (-60), Cond.constantLong RX4 159 (60), Cond.fieldLink RX4 150 "SkinBoxModel" "foundSet" "J", Cond.methodLink RX4 74 yX4_in, Cond.static yX4_in, Cond.initialized RX4, Cond.code yX4_in cX4_in 6 (some .boolean), Cond.methodLink RX4 153 yX4_finds, Cond.instanceMethod yX4_finds, Cond.selects RX4 yX4_finds yX4_finds, Cond.code yX4_finds cX4_finds 12 none, Cond.fieldLink RX4 7 "SkinBoxModel" "sides" "[I", Cond.fieldLink RX4 22 "SkinBoxModel" "ways" "[I", Cond.fieldLink RX4 28 "SkinBoxModel" "value" "[J", Cond.constantLong RX4 133 (4000000000000000), Cond.fieldLink RX4 32 "SkinBoxModel" "sets" "[J", Cond.fieldLink RX4 35 "SkinBoxModel" "times" "[J", Cond.fieldLink RX4 38 "SkinBoxModel" "nextValue" "[J", Cond.fieldLink RX4 44 "SkinBoxModel" "nextTimes" "[J", Cond.fieldLink RX4 13 "SkinBoxModel" "held" "[I", Cond.constantLong RX4 138 (64), Cond.fieldLink RX4 41 "SkinBoxModel" "nextSets" "[J", Cond.fieldLink RX4 144 "SkinBoxModel" "found" "J"]
def wsX4_room_r2 : List Cond := [Cond.fieldLink RX4 147 "SkinBoxModel" "foundTimes" "J", Cond.methodLink RX4 130 yX4_orders, Cond.instanceMethod yX4_orders, Cond.selects RX4 yX4_orders yX4_orders, Cond.code yX4_orders cX4_orders 3 none, Cond.methodLink RX4 70 yX4_cells, Cond.instanceMethod yX4_cells, Cond.selects RX4 yX4_cells yX4_cells, Cond.code yX4_cells cX4_cells 1 (some .int), Cond.methodLink RX4 135 yX4_cellAt, Cond.instanceMethod yX4_cellAt, Cond.selects RX4 yX4_cellAt yX4_cellAt, Cond.code yX4_cellAt cX4_cellAt 4 (some .int), Cond.fieldLink RX4 25 "SkinBoxModel" "place" "[I", Cond.methodLink RX4 95 yX4_stride, Cond.instanceMethod yX4_stride, Cond.selects RX4 yX4_stride yX4_stride, Cond.code yX4_stride cX4_stride 2 (some .int), Cond.methodLink RX4 140 yX4_adds, Cond.instanceMethod yX4_adds, Cond.selects RX4 yX4_adds yX4_adds, Cond.code yX4_adds cX4_adds 8 (some .int), Cond.fieldLink RX4 16 "SkinBoxModel" "price" "[I", Cond.fieldLink RX4 19 "SkinBoxModel" "rules" "[I"]
def wsX4_room_r3 : List Cond := [Cond.methodLink RX4 115 yX4_outsides, Cond.instanceMethod yX4_outsides, Cond.selects RX4 yX4_outsides yX4_outsides, Cond.code yX4_outsides cX4_outsides 4 (some .int), Cond.methodLink RX4 99 yX4_placeOf, Cond.instanceMethod yX4_placeOf, Cond.selects RX4 yX4_placeOf yX4_placeOf, Cond.code yX4_placeOf cX4_placeOf 3 (some .int), Cond.methodLink RX4 111 yX4_faceCost, Cond.instanceMethod yX4_faceCost, Cond.selects RX4 yX4_faceCost yX4_faceCost, Cond.code yX4_faceCost cX4_faceCost 5 (some .int)]
def wsX4_room : List Cond := .code yX4_room cX4_room 5 (some .int) :: ((wsX4_room_r1 ++ (wsX4_room_r2 ++ wsX4_room_r3)) ++ wsX40)
def wsX4_free : List Cond := .code yX4_free cX4_free 3 (some .int) :: ([.fieldLink RX4 13 "SkinBoxModel" "held" "[I", .methodLink RX4 70 yX4_cells, .instanceMethod yX4_cells, .selects RX4 yX4_cells yX4_cells, .initialized RX4, .code yX4_cells cX4_cells 1 (some .int), .fieldLink RX4 7 "SkinBoxModel" "sides" "[I"] ++ wsX40)
def wsX4_many_r1 : List Cond := [Cond.fieldLink RX4 67 "SkinBoxModel" "thrown" "I", Cond.fieldLink RX4 147 "SkinBoxModel" "foundTimes" "J", Cond.methodLink RX4 161 yX4_free, Cond.instanceMethod yX4_free, Cond.selects RX4 yX4_free yX4_free, Cond.initialized RX4, Cond.code yX4_free cX4_free 3 (some .int), Cond.fieldLink RX4 13 "SkinBoxModel" "held" "[I", Cond.methodLink RX4 70 yX4_cells, Cond.instanceMethod yX4_cells, Cond.selects RX4 yX4_cells yX4_cells, Cond.code yX4_cells cX4_cells 1 (some .int), Cond.fieldLink RX4 7 "SkinBoxModel" "sides" "[I", Cond.methodLink RX4 153 yX4_finds, Cond.instanceMethod yX4_finds, Cond.selects RX4 yX4_finds yX4_finds, Cond.code yX4_finds cX4_finds 12 none, Cond.fieldLink RX4 22 "SkinBoxModel" "ways" "[I", Cond.fieldLink RX4 28 "SkinBoxModel" "value" "[J", Cond.constantLong RX4 133 (4000000000000000), Cond.fieldLink RX4 32 "SkinBoxModel" "sets" "[J", Cond.fieldLink RX4 35 "SkinBoxModel" "times" "[J", Cond.fieldLink RX4 38 "SkinBoxModel" "nextValue" "[J", Cond.fieldLink RX4 44 "SkinBoxModel" "nextTimes" "[J"]
def wsX4_many_r2 : List Cond := [Cond.constantLong RX4 138 (64), Cond.fieldLink RX4 41 "SkinBoxModel" "nextSets" "[J", Cond.fieldLink RX4 144 "SkinBoxModel" "found" "J", Cond.fieldLink RX4 150 "SkinBoxModel" "foundSet" "J", Cond.methodLink RX4 130 yX4_orders, Cond.instanceMethod yX4_orders, Cond.selects RX4 yX4_orders yX4_orders, Cond.code yX4_orders cX4_orders 3 none, Cond.methodLink RX4 135 yX4_cellAt, Cond.instanceMethod yX4_cellAt, Cond.selects RX4 yX4_cellAt yX4_cellAt, Cond.code yX4_cellAt cX4_cellAt 4 (some .int), Cond.fieldLink RX4 25 "SkinBoxModel" "place" "[I", Cond.methodLink RX4 95 yX4_stride, Cond.instanceMethod yX4_stride, Cond.selects RX4 yX4_stride yX4_stride, Cond.code yX4_stride cX4_stride 2 (some .int), Cond.methodLink RX4 140 yX4_adds, Cond.instanceMethod yX4_adds, Cond.selects RX4 yX4_adds yX4_adds, Cond.code yX4_adds cX4_adds 8 (some .int), Cond.fieldLink RX4 16 "SkinBoxModel" "price" "[I", Cond.fieldLink RX4 19 "SkinBoxModel" "rules" "[I", Cond.methodLink RX4 115 yX4_outsides]
def wsX4_many_r3 : List Cond := [Cond.instanceMethod yX4_outsides, Cond.selects RX4 yX4_outsides yX4_outsides, Cond.code yX4_outsides cX4_outsides 4 (some .int), Cond.methodLink RX4 99 yX4_placeOf, Cond.instanceMethod yX4_placeOf, Cond.selects RX4 yX4_placeOf yX4_placeOf, Cond.code yX4_placeOf cX4_placeOf 3 (some .int), Cond.methodLink RX4 111 yX4_faceCost, Cond.instanceMethod yX4_faceCost, Cond.selects RX4 yX4_faceCost yX4_faceCost, Cond.code yX4_faceCost cX4_faceCost 5 (some .int)]
def wsX4_many : List Cond := .code yX4_many cX4_many 1 (some .int) :: ((wsX4_many_r1 ++ (wsX4_many_r2 ++ wsX4_many_r3)) ++ wsX40)
def wsX4_isPoint : List Cond := .code yX4_isPoint cX4_isPoint 3 (some .boolean) :: ([.fieldLink RX4 47 "SkinBoxModel" "w" "I", .fieldLink RX4 51 "SkinBoxModel" "h" "I", .methodLink RX4 74 yX4_in, .static yX4_in, .initialized RX4, .code yX4_in cX4_in 6 (some .boolean)] ++ wsX40)
def wsX4_net : List Cond := .code yX4_net cX4_net 3 (some .int) :: ([.fieldLink RX4 67 "SkinBoxModel" "thrown" "I", .constantLong RX4 84 (2), .constantLong RX4 164 (8), .fieldLink RX4 47 "SkinBoxModel" "w" "I", .fieldLink RX4 51 "SkinBoxModel" "h" "I", .methodLink RX4 74 yX4_in, .static yX4_in, .initialized RX4, .code yX4_in cX4_in 6 (some .boolean), .methodLink RX4 64 yX4_pins, .instanceMethod yX4_pins, .selects RX4 yX4_pins yX4_pins, .code yX4_pins cX4_pins 4 none, .fieldLink RX4 54 "SkinBoxModel" "height" "[I", .fieldLink RX4 57 "SkinBoxModel" "isPinned" "[Z"] ++ wsX40)
def wsX4_lift : List Cond := .code yX4_lift cX4_lift 5 (some .int) :: ([.fieldLink RX4 67 "SkinBoxModel" "thrown" "I", .constantLong RX4 170 (-100), .constantLong RX4 172 (100), .constant RX4 90 (-1000000), .fieldLink RX4 54 "SkinBoxModel" "height" "[I", .methodLink RX4 166 yX4_isPoint, .instanceMethod yX4_isPoint, .selects RX4 yX4_isPoint yX4_isPoint, .initialized RX4, .code yX4_isPoint cX4_isPoint 3 (some .boolean), .fieldLink RX4 47 "SkinBoxModel" "w" "I", .fieldLink RX4 51 "SkinBoxModel" "h" "I", .methodLink RX4 74 yX4_in, .static yX4_in, .code yX4_in cX4_in 6 (some .boolean)] ++ wsX40)
def wsX4_pin : List Cond := .code yX4_pin cX4_pin 5 (some .int) :: ([.fieldLink RX4 67 "SkinBoxModel" "thrown" "I", .fieldLink RX4 57 "SkinBoxModel" "isPinned" "[Z", .methodLink RX4 166 yX4_isPoint, .instanceMethod yX4_isPoint, .selects RX4 yX4_isPoint yX4_isPoint, .initialized RX4, .code yX4_isPoint cX4_isPoint 3 (some .boolean), .fieldLink RX4 47 "SkinBoxModel" "w" "I", .fieldLink RX4 51 "SkinBoxModel" "h" "I", .methodLink RX4 74 yX4_in, .static yX4_in, .code yX4_in cX4_in 6 (some .boolean)] ++ wsX40)
def wsX4_height : List Cond := .code yX4_height cX4_height 3 (some .int) :: ([.fieldLink RX4 67 "SkinBoxModel" "thrown" "I", .fieldLink RX4 54 "SkinBoxModel" "height" "[I", .constant RX4 90 (-1000000), .methodLink RX4 166 yX4_isPoint, .instanceMethod yX4_isPoint, .selects RX4 yX4_isPoint yX4_isPoint, .initialized RX4, .code yX4_isPoint cX4_isPoint 3 (some .boolean), .fieldLink RX4 47 "SkinBoxModel" "w" "I", .fieldLink RX4 51 "SkinBoxModel" "h" "I", .methodLink RX4 74 yX4_in, .static yX4_in, .code yX4_in cX4_in 6 (some .boolean)] ++ wsX40)
def wsX4_size : List Cond := .code yX4_size cX4_size 1 (some .int) :: ([])
def wsX4_drawn : List Cond := .code yX4_drawn cX4_drawn 4 (some .int) :: ([.fieldLink RX4 67 "SkinBoxModel" "thrown" "I", .fieldLink RX4 51 "SkinBoxModel" "h" "I", .fieldLink RX4 47 "SkinBoxModel" "w" "I", .fieldLink RX4 54 "SkinBoxModel" "height" "[I", .methodLink RX4 174 yX4_size, .static yX4_size, .initialized RX4, .code yX4_size cX4_size 1 (some .int)] ++ wsX40)
def wsX4_puts : List Cond := .code yX4_puts cX4_puts 4 (some .int) :: ([.fieldLink RX4 61 "SkinBoxModel" "beside" "[I"] ++ wsX40)
def wsX4_stepOf : List Cond := .code yX4_stepOf cX4_stepOf 7 (some .int) :: ([.fieldLink RX4 54 "SkinBoxModel" "height" "[I", .fieldLink RX4 47 "SkinBoxModel" "w" "I", .fieldLink RX4 51 "SkinBoxModel" "h" "I", .fieldLink RX4 61 "SkinBoxModel" "beside" "[I", .fieldLink RX4 57 "SkinBoxModel" "isPinned" "[Z", .methodLink RX4 177 yX4_puts, .instanceMethod yX4_puts, .selects RX4 yX4_puts yX4_puts, .initialized RX4, .code yX4_puts cX4_puts 4 (some .int)] ++ wsX40)
def wsX4_slackOf : List Cond := .code yX4_slackOf cX4_slackOf 4 (some .int) :: ([.fieldLink RX4 51 "SkinBoxModel" "h" "I", .fieldLink RX4 47 "SkinBoxModel" "w" "I", .fieldLink RX4 54 "SkinBoxModel" "height" "[I", .methodLink RX4 180 yX4_stepOf, .instanceMethod yX4_stepOf, .selects RX4 yX4_stepOf yX4_stepOf, .initialized RX4, .code yX4_stepOf cX4_stepOf 7 (some .int), .fieldLink RX4 61 "SkinBoxModel" "beside" "[I", .fieldLink RX4 57 "SkinBoxModel" "isPinned" "[Z", .methodLink RX4 177 yX4_puts, .instanceMethod yX4_puts, .selects RX4 yX4_puts yX4_puts, .code yX4_puts cX4_puts 4 (some .int), .methodLink RX4 174 yX4_size, .static yX4_size, .code yX4_size cX4_size 1 (some .int)] ++ wsX40)
def wsX4_slack : List Cond := .code yX4_slack cX4_slack 1 (some .int) :: ([.fieldLink RX4 67 "SkinBoxModel" "thrown" "I", .methodLink RX4 183 yX4_slackOf, .instanceMethod yX4_slackOf, .selects RX4 yX4_slackOf yX4_slackOf, .initialized RX4, .code yX4_slackOf cX4_slackOf 4 (some .int), .fieldLink RX4 51 "SkinBoxModel" "h" "I", .fieldLink RX4 47 "SkinBoxModel" "w" "I", .fieldLink RX4 54 "SkinBoxModel" "height" "[I", .methodLink RX4 180 yX4_stepOf, .instanceMethod yX4_stepOf, .selects RX4 yX4_stepOf yX4_stepOf, .code yX4_stepOf cX4_stepOf 7 (some .int), .fieldLink RX4 61 "SkinBoxModel" "beside" "[I", .fieldLink RX4 57 "SkinBoxModel" "isPinned" "[Z", .methodLink RX4 177 yX4_puts, .instanceMethod yX4_puts, .selects RX4 yX4_puts yX4_puts, .code yX4_puts cX4_puts 4 (some .int), .methodLink RX4 174 yX4_size, .static yX4_size, .code yX4_size cX4_size 1 (some .int)] ++ wsX40)
def wsX4_rounds_r1 : List Cond := [Cond.fieldLink RX4 67 "SkinBoxModel" "thrown" "I", Cond.constantLong RX4 186 (50), Cond.fieldLink RX4 51 "SkinBoxModel" "h" "I", Cond.fieldLink RX4 47 "SkinBoxModel" "w" "I", Cond.fieldLink RX4 54 "SkinBoxModel" "height" "[I", Cond.methodLink RX4 74 yX4_in, Cond.static yX4_in, Cond.initialized RX4, Cond.code yX4_in cX4_in 6 (some .boolean), Cond.methodLink RX4 183 yX4_slackOf, Cond.instanceMethod yX4_slackOf, Cond.selects RX4 yX4_slackOf yX4_slackOf, Cond.code yX4_slackOf cX4_slackOf 4 (some .int), Cond.methodLink RX4 180 yX4_stepOf, Cond.instanceMethod yX4_stepOf, Cond.selects RX4 yX4_stepOf yX4_stepOf, Cond.code yX4_stepOf cX4_stepOf 7 (some .int), Cond.fieldLink RX4 61 "SkinBoxModel" "beside" "[I", Cond.fieldLink RX4 57 "SkinBoxModel" "isPinned" "[Z", Cond.methodLink RX4 177 yX4_puts, Cond.instanceMethod yX4_puts, Cond.selects RX4 yX4_puts yX4_puts, Cond.code yX4_puts cX4_puts 4 (some .int), Cond.methodLink RX4 174 yX4_size]
def wsX4_rounds_r2 : List Cond := [Cond.static yX4_size, Cond.code yX4_size cX4_size 1 (some .int)]
def wsX4_rounds : List Cond := .code yX4_rounds cX4_rounds 5 (some .int) :: ((wsX4_rounds_r1 ++ wsX4_rounds_r2) ++ wsX40)
def wsX4_count_r1 : List Cond := [Cond.fieldLink RX4 67 "SkinBoxModel" "thrown" "I", Cond.fieldLink RX4 51 "SkinBoxModel" "h" "I", Cond.fieldLink RX4 47 "SkinBoxModel" "w" "I", Cond.fieldLink RX4 57 "SkinBoxModel" "isPinned" "[Z", Cond.fieldLink RX4 7 "SkinBoxModel" "sides" "[I", Cond.methodLink RX4 161 yX4_free, Cond.instanceMethod yX4_free, Cond.selects RX4 yX4_free yX4_free, Cond.initialized RX4, Cond.code yX4_free cX4_free 3 (some .int), Cond.fieldLink RX4 13 "SkinBoxModel" "held" "[I", Cond.methodLink RX4 70 yX4_cells, Cond.instanceMethod yX4_cells, Cond.selects RX4 yX4_cells yX4_cells, Cond.code yX4_cells cX4_cells 1 (some .int), Cond.methodLink RX4 183 yX4_slackOf, Cond.instanceMethod yX4_slackOf, Cond.selects RX4 yX4_slackOf yX4_slackOf, Cond.code yX4_slackOf cX4_slackOf 4 (some .int), Cond.fieldLink RX4 54 "SkinBoxModel" "height" "[I", Cond.methodLink RX4 180 yX4_stepOf, Cond.instanceMethod yX4_stepOf, Cond.selects RX4 yX4_stepOf yX4_stepOf, Cond.code yX4_stepOf cX4_stepOf 7 (some .int)]
def wsX4_count_r2 : List Cond := [Cond.fieldLink RX4 61 "SkinBoxModel" "beside" "[I", Cond.methodLink RX4 177 yX4_puts, Cond.instanceMethod yX4_puts, Cond.selects RX4 yX4_puts yX4_puts, Cond.code yX4_puts cX4_puts 4 (some .int), Cond.methodLink RX4 174 yX4_size, Cond.static yX4_size, Cond.code yX4_size cX4_size 1 (some .int)]
def wsX4_count : List Cond := .code yX4_count cX4_count 5 (some .int) :: ((wsX4_count_r1 ++ wsX4_count_r2) ++ wsX40)
def wsX4_trace : List Cond := .code yX4_trace cX4_trace 1 (some .long) :: ([.fieldLink RX4 67 "SkinBoxModel" "thrown" "I", .fieldLink RX4 103 "SkinBoxModel" "trace" "J"] ++ wsX40)
def wsJ9_abs_0f7a4 : List Cond := .code yJ9_abs_0f7a4 cJ9_abs_0f7a4 1 (some .int) :: ([])
def wsJ9_max_7cf53 : List Cond := .code yJ9_max_7cf53 cJ9_max_7cf53 2 (some .int) :: ([])
def wsJ9_min_7cf53 : List Cond := .code yJ9_min_7cf53 cJ9_min_7cf53 2 (some .int) :: ([])
abbrev vwCl : List vw_C := [(RX0, TX0, 7), (RX1, TX1, 13), (RX2, TX2, 5), (RX3, TX3, 4), (RX4, TX4, 22)]
end
section
/-- the surroundings of a walk -/
abbrev gX : Type := Program × Launch × Env × Room × State × MethodId × Array Value × List Frame × Method × Code × (Nat → Prop) × va_G × (State → Prop)
/-- from pc with these locals, this stack and this world the machine comes to Q -/
def gW (X : gX) (k n : Nat) (ws : va_W) (nL : Nat) (lv : List (Nat × Value)) (st : List Value) (pc : Nat) : Prop :=
  match X with
  | (p, l, e, R, s, m, args, below, meth, c, A, D, Q) => ∀ (H : Heap) (locs : List Loc) (ls : Array Slot), va_P D vwCl ws H → va_D A ws → va_S A s.heap H locs → lv_has ls nL lv → W p l e R s m args below meth c H locs k n Q (F0 m pc ls st)
/-- what stays the same while a method runs -/
def gC (X : gX) (tys : List (ClassId × FieldType)) (cc : ByteArray) (nL : Nat) (own : String) (Ts : List Cond) (rm : Room) : Prop :=
  match X with
  | (p, _, _, R, s, m, args, _, meth, c, A, D, _) => p.tables.exec = Jvm.exec ∧ c.code = cc ∧ c.maxLocals = nL ∧ s.vm.findClass own = some m.cls ∧ (∀ w ∈ Ts, w.before args s = true) ∧ va_K D vwCl tys s ∧ (∀ q : Nat, s.heap.size ≤ q → A q) ∧ R = rm ∧ meth.locks = false
/-- what the world is behind a method -/
def gB {S : Type} (D : va_G) (tys : List (ClassId × FieldType)) (A : Nat → Prop) (w1 : S → va_W) : S → State → Prop := fun u t => va_P D vwCl (w1 u) t.heap ∧ va_K D vwCl tys t ∧ va_D A (w1 u)
def gEi {S : Type} (X : gX) (rt : Option FieldType) (tys : List (ClassId × FieldType)) (mc ms : Nat) (post : Int32 → S → Prop) (w1 : S → va_W) : Prop :=
  match X with
  | (_, _, _, _, s, _, args, below, meth, _, A, D, Q) => meth.sig.returnType = rt ∧ Q = MQ below (va_Qi post (gB D tys A w1) A) args s mc ms A
def gEl {S : Type} (X : gX) (rt : Option FieldType) (tys : List (ClassId × FieldType)) (mc ms : Nat) (post : Int64 → S → Prop) (w1 : S → va_W) : Prop :=
  match X with
  | (_, _, _, _, s, _, args, below, meth, _, A, D, Q) => meth.sig.returnType = rt ∧ Q = MQ below (va_Ql post (gB D tys A w1) A) args s mc ms A
def gEv {S : Type} (X : gX) (rt : Option FieldType) (tys : List (ClassId × FieldType)) (mc ms : Nat) (post : S → Prop) (w1 : S → va_W) : Prop :=
  match X with
  | (_, _, _, _, s, _, args, below, meth, _, A, D, Q) => meth.sig.returnType = rt ∧ Q = MQ below (va_Qv post (gB D tys A w1) A) args s mc ms A
/-- a method's contract -/
def gPre (av : List Value) (D : va_G) (tys : List (ClassId × FieldType)) (wc : va_W) (sz : Nat) : Array Value → State → Prop := va_Pc av (fun U => U.heap.size = sz ∧ va_P D vwCl wc U.heap ∧ va_K D vwCl tys U ∧ va_D (fun _ => True) wc)
def gMi {S : Type} (l : Launch) (y : MethodName) (wsy : List Cond) (rm : Room) (D : va_G) (tys : List (ClassId × FieldType)) (mc ms : Nat) (av : List Value) (wc : va_W) (post : Int32 → S → Prop) (w1 : S → va_W) : Prop :=
  ∀ sz : Nat, Met l y wsy rm (gPre av D tys wc sz) (va_Qi post (gB D tys (va_A wc sz) w1) (va_A wc sz)) mc ms (va_A wc sz)
def gMl {S : Type} (l : Launch) (y : MethodName) (wsy : List Cond) (rm : Room) (D : va_G) (tys : List (ClassId × FieldType)) (mc ms : Nat) (av : List Value) (wc : va_W) (post : Int64 → S → Prop) (w1 : S → va_W) : Prop :=
  ∀ sz : Nat, Met l y wsy rm (gPre av D tys wc sz) (va_Ql post (gB D tys (va_A wc sz) w1) (va_A wc sz)) mc ms (va_A wc sz)
def gMv {S : Type} (l : Launch) (y : MethodName) (wsy : List Cond) (rm : Room) (D : va_G) (tys : List (ClassId × FieldType)) (mc ms : Nat) (av : List Value) (wc : va_W) (post : S → Prop) (w1 : S → va_W) : Prop :=
  ∀ sz : Nat, Met l y wsy rm (gPre av D tys wc sz) (va_Qv post (gB D tys (va_A wc sz) w1) (va_A wc sz)) mc ms (va_A wc sz)
/-- a field that a method may reach -/
def gF (Ts : List Cond) (own : String) (index ci k : Nat) (Cn : String) (T : u_T) (N : Nat) : Prop := (∀ w ∈ u_ws Cn T N, w ∈ Ts) ∧ Cond.fieldLink own index (T k).1 (T k).2.1 (T k).2.2.1 ∈ Ts ∧ vwCl[ci]? = some (Cn, T, N) ∧ k < N
/-- a boolean as the machine has it -/
def bI (b : Bool) : Int32 := if b = true then 1 else 0
theorem bI_t {b : Bool} (h : b = true) : bI b = 1 := by simp [bI, h]
theorem bI_f {b : Bool} (h : b = false) : bI b = 0 := by simp [bI, h]
theorem bI_0 {b : Bool} : bI b = 0 ↔ b = false := by cases b <;> simp [bI]
theorem bI_n {b : Bool} : narrow .boolean (.int (bI b)) = .int (bI b) := by cases b <;> rfl

abbrev gT (cA : Nat → ClassId) : List (ClassId × FieldType) := [(cA 0, .int), (cA 1, .long), (cA 2, .boolean)]
theorem ik_m1 : Int32.ofInt (-1) = (-1 : Int32) := by decide
theorem ik_0 : Int32.ofInt (0) = (0 : Int32) := by decide
theorem ik_1 : Int32.ofInt (1) = (1 : Int32) := by decide
theorem ik_2 : Int32.ofInt (2) = (2 : Int32) := by decide
theorem ik_3 : Int32.ofInt (3) = (3 : Int32) := by decide
theorem ik_4 : Int32.ofInt (4) = (4 : Int32) := by decide
theorem ik_5 : Int32.ofInt (5) = (5 : Int32) := by decide
theorem lk_0 : Int64.ofNat (((0 : Fin 2) : Nat)) = (0 : Int64) := by decide
theorem lk_1 : Int64.ofNat (((1 : Fin 2) : Nat)) = (1 : Int64) := by decide
section GW
variable {X : gX} {k n : Nat} {ws : va_W} {nL : Nat} {lv : List (Nat × Value)} {st : List Value} {pc : Nat} {tys : List (ClassId × FieldType)} {cc : ByteArray} {own : String} {Ts : List Cond} {rm : Room}
theorem g_iconst (C : gC X tys cc nL own Ts rm) {i : Int} {v : Int32} (hd : decode cc pc = .ok (.iconst i, 1)) (hv : Int32.ofInt i = v) (kk : gW X k n ws nL lv (.int v :: st) (pc + 1)) : gW X k n ws nL lv (st) pc := by
  obtain ⟨p, l, e, R, s, m, args, below, meth, c, A, D, Q⟩ := X
  obtain ⟨hx, hb, hml, ho, ht, hK, hA, hR, hlk⟩ := C
  intro H locs ls hP hD hS hl
  exact lv_iconst hx hb hd hv (kk H locs ls hP hD hS hl)
theorem g_bipush (C : gC X tys cc nL own Ts rm) {i : Int} {v : Int32} (hd : decode cc pc = .ok (.bipush i, 2)) (hv : (Int8.ofInt i).toInt32 = v) (kk : gW X k n ws nL lv (.int v :: st) (pc + 2)) : gW X k n ws nL lv (st) pc := by
  obtain ⟨p, l, e, R, s, m, args, below, meth, c, A, D, Q⟩ := X
  obtain ⟨hx, hb, hml, ho, ht, hK, hA, hR, hlk⟩ := C
  intro H locs ls hP hD hS hl
  exact lv_bipush hx hb hd hv (kk H locs ls hP hD hS hl)
theorem g_sipush (C : gC X tys cc nL own Ts rm) {i : Int} {v : Int32} (hd : decode cc pc = .ok (.sipush i, 3)) (hv : (Int16.ofInt i).toInt32 = v) (kk : gW X k n ws nL lv (.int v :: st) (pc + 3)) : gW X k n ws nL lv (st) pc := by
  obtain ⟨p, l, e, R, s, m, args, below, meth, c, A, D, Q⟩ := X
  obtain ⟨hx, hb, hml, ho, ht, hK, hA, hR, hlk⟩ := C
  intro H locs ls hP hD hS hl
  exact lv_sipush hx hb hd hv (kk H locs ls hP hD hS hl)
theorem g_lconst (C : gC X tys cc nL own Ts rm) {i : Fin 2} {v : Int64} (hd : decode cc pc = .ok (.lconst i, 1)) (hv : Int64.ofNat (i : Nat) = v) (kk : gW X k n ws nL lv (.long v :: st) (pc + 1)) : gW X k n ws nL lv (st) pc := by
  obtain ⟨p, l, e, R, s, m, args, below, meth, c, A, D, Q⟩ := X
  obtain ⟨hx, hb, hml, ho, ht, hK, hA, hR, hlk⟩ := C
  intro H locs ls hP hD hS hl
  exact lv_lconst hx hb hd hv (kk H locs ls hP hD hS hl)
theorem g_ldc (C : gC X tys cc nL own Ts rm) {i : Nat} {v : Int32} (hw : Cond.constant own i v ∈ Ts) (hd : decode cc pc = .ok (.ldc i, 2)) (kk : gW X k n ws nL lv (.int v :: st) (pc + 2)) : gW X k n ws nL lv (st) pc := by
  obtain ⟨p, l, e, R, s, m, args, below, meth, c, A, D, Q⟩ := X
  obtain ⟨hx, hb, hml, ho, ht, hK, hA, hR, hlk⟩ := C
  intro H locs ls hP hD hS hl
  exact lv_ldc hx hb ho (ht _ hw) hd (kk H locs ls hP hD hS hl)
theorem g_ldc_w (C : gC X tys cc nL own Ts rm) {i : Nat} {v : Int32} (hw : Cond.constant own i v ∈ Ts) (hd : decode cc pc = .ok (.ldc_w i, 3)) (kk : gW X k n ws nL lv (.int v :: st) (pc + 3)) : gW X k n ws nL lv (st) pc := by
  obtain ⟨p, l, e, R, s, m, args, below, meth, c, A, D, Q⟩ := X
  obtain ⟨hx, hb, hml, ho, ht, hK, hA, hR, hlk⟩ := C
  intro H locs ls hP hD hS hl
  exact lv_ldcw hx hb ho (ht _ hw) hd (kk H locs ls hP hD hS hl)
theorem g_ldc2_w (C : gC X tys cc nL own Ts rm) {i : Nat} {v : Int64} (hw : Cond.constantLong own i v ∈ Ts) (hd : decode cc pc = .ok (.ldc2_w i, 3)) (kk : gW X k n ws nL lv (.long v :: st) (pc + 3)) : gW X k n ws nL lv (st) pc := by
  obtain ⟨p, l, e, R, s, m, args, below, meth, c, A, D, Q⟩ := X
  obtain ⟨hx, hb, hml, ho, ht, hK, hA, hR, hlk⟩ := C
  intro H locs ls hP hD hS hl
  exact lv_ldc2 hx hb ho (ht _ hw) hd (kk H locs ls hP hD hS hl)
theorem g_iload_n (C : gC X tys cc nL own Ts rm) {j : Fin 4} {i : Nat} {x : Int32} (hd : decode cc pc = .ok (.iload_n j, 1)) (hi : (j : Nat) = i) (q : Nat) (hq : lv[q]? = some (i, .int x)) (kk : gW X k n ws nL lv (.int x :: st) (pc + 1)) : gW X k n ws nL lv (st) pc := by
  obtain ⟨p, l, e, R, s, m, args, below, meth, c, A, D, Q⟩ := X
  obtain ⟨hx, hb, hml, ho, ht, hK, hA, hR, hlk⟩ := C
  intro H locs ls hP hD hS hl
  exact lv_iload_n hx hb hd hi (lv_at hl q hq) (kk H locs ls hP hD hS hl)
theorem g_iload (C : gC X tys cc nL own Ts rm) {i : Nat} {x : Int32} (hd : decode cc pc = .ok (.iload i, 2)) (q : Nat) (hq : lv[q]? = some (i, .int x)) (kk : gW X k n ws nL lv (.int x :: st) (pc + 2)) : gW X k n ws nL lv (st) pc := by
  obtain ⟨p, l, e, R, s, m, args, below, meth, c, A, D, Q⟩ := X
  obtain ⟨hx, hb, hml, ho, ht, hK, hA, hR, hlk⟩ := C
  intro H locs ls hP hD hS hl
  exact lv_iload hx hb hd (lv_at hl q hq) (kk H locs ls hP hD hS hl)
theorem g_istore_n (C : gC X tys cc nL own Ts rm) {j : Fin 4} {i : Nat} {x : Int32} {lv2 : List (Nat × Value)} (hd : decode cc pc = .ok (.istore_n j, 1)) (hi : (j : Nat) = i) (hn : i < nL) (ks : List Nat) (hk : lv_pick ((i, Value.int x) :: lv.filter (fun q => !(q.1 == i) && !(q.1 + 1 == i && q.2.category == 2))) ks = lv2) (kk : gW X k n ws nL lv2 st (pc + 1)) : gW X k n ws nL lv (.int x :: st) pc := by
  obtain ⟨p, l, e, R, s, m, args, below, meth, c, A, D, Q⟩ := X
  obtain ⟨hx, hb, hml, ho, ht, hK, hA, hR, hlk⟩ := C
  intro H locs ls hP hD hS hl
  exact lv_istore_n hx hb hd hi hl hn rfl (fun ls2 h2 => kk H locs ls2 hP hD hS (lv_sub h2 ks hk))
theorem g_istore (C : gC X tys cc nL own Ts rm) {i : Nat} {x : Int32} {lv2 : List (Nat × Value)} (hd : decode cc pc = .ok (.istore i, 2)) (hn : i < nL) (ks : List Nat) (hk : lv_pick ((i, Value.int x) :: lv.filter (fun q => !(q.1 == i) && !(q.1 + 1 == i && q.2.category == 2))) ks = lv2) (kk : gW X k n ws nL lv2 st (pc + 2)) : gW X k n ws nL lv (.int x :: st) pc := by
  obtain ⟨p, l, e, R, s, m, args, below, meth, c, A, D, Q⟩ := X
  obtain ⟨hx, hb, hml, ho, ht, hK, hA, hR, hlk⟩ := C
  intro H locs ls hP hD hS hl
  exact lv_istore hx hb hd hl hn rfl (fun ls2 h2 => kk H locs ls2 hP hD hS (lv_sub h2 ks hk))
theorem g_lload_n (C : gC X tys cc nL own Ts rm) {j : Fin 4} {i : Nat} {x : Int64} (hd : decode cc pc = .ok (.lload_n j, 1)) (hi : (j : Nat) = i) (q : Nat) (hq : lv[q]? = some (i, .long x)) (kk : gW X k n ws nL lv (.long x :: st) (pc + 1)) : gW X k n ws nL lv (st) pc := by
  obtain ⟨p, l, e, R, s, m, args, below, meth, c, A, D, Q⟩ := X
  obtain ⟨hx, hb, hml, ho, ht, hK, hA, hR, hlk⟩ := C
  intro H locs ls hP hD hS hl
  exact lv_lload_n hx hb hd hi (lv_at hl q hq) (kk H locs ls hP hD hS hl)
theorem g_lload (C : gC X tys cc nL own Ts rm) {i : Nat} {x : Int64} (hd : decode cc pc = .ok (.lload i, 2)) (q : Nat) (hq : lv[q]? = some (i, .long x)) (kk : gW X k n ws nL lv (.long x :: st) (pc + 2)) : gW X k n ws nL lv (st) pc := by
  obtain ⟨p, l, e, R, s, m, args, below, meth, c, A, D, Q⟩ := X
  obtain ⟨hx, hb, hml, ho, ht, hK, hA, hR, hlk⟩ := C
  intro H locs ls hP hD hS hl
  exact lv_lload hx hb hd (lv_at hl q hq) (kk H locs ls hP hD hS hl)
theorem g_lstore_n (C : gC X tys cc nL own Ts rm) {j : Fin 4} {i : Nat} {x : Int64} {lv2 : List (Nat × Value)} (hd : decode cc pc = .ok (.lstore_n j, 1)) (hi : (j : Nat) = i) (hn : i + 1 < nL) (ks : List Nat) (hk : lv_pick ((i, Value.long x) :: lv.filter (fun q => !(q.1 == i) && (!(q.1 == i + 1) && !(q.1 + 1 == i && q.2.category == 2)))) ks = lv2) (kk : gW X k n ws nL lv2 st (pc + 1)) : gW X k n ws nL lv (.long x :: st) pc := by
  obtain ⟨p, l, e, R, s, m, args, below, meth, c, A, D, Q⟩ := X
  obtain ⟨hx, hb, hml, ho, ht, hK, hA, hR, hlk⟩ := C
  intro H locs ls hP hD hS hl
  exact lv_lstore_n hx hb hd hi hl hn rfl (fun ls2 h2 => kk H locs ls2 hP hD hS (lv_sub h2 ks hk))
theorem g_lstore (C : gC X tys cc nL own Ts rm) {i : Nat} {x : Int64} {lv2 : List (Nat × Value)} (hd : decode cc pc = .ok (.lstore i, 2)) (hn : i + 1 < nL) (ks : List Nat) (hk : lv_pick ((i, Value.long x) :: lv.filter (fun q => !(q.1 == i) && (!(q.1 == i + 1) && !(q.1 + 1 == i && q.2.category == 2)))) ks = lv2) (kk : gW X k n ws nL lv2 st (pc + 2)) : gW X k n ws nL lv (.long x :: st) pc := by
  obtain ⟨p, l, e, R, s, m, args, below, meth, c, A, D, Q⟩ := X
  obtain ⟨hx, hb, hml, ho, ht, hK, hA, hR, hlk⟩ := C
  intro H locs ls hP hD hS hl
  exact lv_lstore hx hb hd hl hn rfl (fun ls2 h2 => kk H locs ls2 hP hD hS (lv_sub h2 ks hk))
theorem g_aload_n (C : gC X tys cc nL own Ts rm) {j : Fin 4} {i : Nat} {x : Nat} (hd : decode cc pc = .ok (.aload_n j, 1)) (hi : (j : Nat) = i) (q : Nat) (hq : lv[q]? = some (i, .ref x)) (kk : gW X k n ws nL lv (.ref x :: st) (pc + 1)) : gW X k n ws nL lv (st) pc := by
  obtain ⟨p, l, e, R, s, m, args, below, meth, c, A, D, Q⟩ := X
  obtain ⟨hx, hb, hml, ho, ht, hK, hA, hR, hlk⟩ := C
  intro H locs ls hP hD hS hl
  exact lv_aload_n hx hb hd hi (lv_at hl q hq) (kk H locs ls hP hD hS hl)
theorem g_aload (C : gC X tys cc nL own Ts rm) {i : Nat} {x : Nat} (hd : decode cc pc = .ok (.aload i, 2)) (q : Nat) (hq : lv[q]? = some (i, .ref x)) (kk : gW X k n ws nL lv (.ref x :: st) (pc + 2)) : gW X k n ws nL lv (st) pc := by
  obtain ⟨p, l, e, R, s, m, args, below, meth, c, A, D, Q⟩ := X
  obtain ⟨hx, hb, hml, ho, ht, hK, hA, hR, hlk⟩ := C
  intro H locs ls hP hD hS hl
  exact lv_aload hx hb hd (lv_at hl q hq) (kk H locs ls hP hD hS hl)
theorem g_astore_n (C : gC X tys cc nL own Ts rm) {j : Fin 4} {i : Nat} {x : Nat} {lv2 : List (Nat × Value)} (hd : decode cc pc = .ok (.astore_n j, 1)) (hi : (j : Nat) = i) (hn : i < nL) (ks : List Nat) (hk : lv_pick ((i, Value.ref x) :: lv.filter (fun q => !(q.1 == i) && !(q.1 + 1 == i && q.2.category == 2))) ks = lv2) (kk : gW X k n ws nL lv2 st (pc + 1)) : gW X k n ws nL lv (.ref x :: st) pc := by
  obtain ⟨p, l, e, R, s, m, args, below, meth, c, A, D, Q⟩ := X
  obtain ⟨hx, hb, hml, ho, ht, hK, hA, hR, hlk⟩ := C
  intro H locs ls hP hD hS hl
  exact lv_astore_n hx hb hd hi hl hn rfl (fun ls2 h2 => kk H locs ls2 hP hD hS (lv_sub h2 ks hk))
theorem g_astore (C : gC X tys cc nL own Ts rm) {i : Nat} {x : Nat} {lv2 : List (Nat × Value)} (hd : decode cc pc = .ok (.astore i, 2)) (hn : i < nL) (ks : List Nat) (hk : lv_pick ((i, Value.ref x) :: lv.filter (fun q => !(q.1 == i) && !(q.1 + 1 == i && q.2.category == 2))) ks = lv2) (kk : gW X k n ws nL lv2 st (pc + 2)) : gW X k n ws nL lv (.ref x :: st) pc := by
  obtain ⟨p, l, e, R, s, m, args, below, meth, c, A, D, Q⟩ := X
  obtain ⟨hx, hb, hml, ho, ht, hK, hA, hR, hlk⟩ := C
  intro H locs ls hP hD hS hl
  exact lv_astore hx hb hd hl hn rfl (fun ls2 h2 => kk H locs ls2 hP hD hS (lv_sub h2 ks hk))
theorem g_iinc (C : gC X tys cc nL own Ts rm) {i : Nat} {d : Int} {x v : Int32} {lv2 : List (Nat × Value)} (hd : decode cc pc = .ok (.iinc i d, 3)) (q : Nat) (hq : lv[q]? = some (i, .int x)) (hv : x + Int32.ofInt d = v) (hn : i < nL) (ks : List Nat) (hk : lv_pick ((i, Value.int v) :: lv.filter (fun q => !(q.1 == i) && !(q.1 + 1 == i && q.2.category == 2))) ks = lv2) (kk : gW X k n ws nL lv2 st (pc + 3)) : gW X k n ws nL lv (st) pc := by
  obtain ⟨p, l, e, R, s, m, args, below, meth, c, A, D, Q⟩ := X
  obtain ⟨hx, hb, hml, ho, ht, hK, hA, hR, hlk⟩ := C
  intro H locs ls hP hD hS hl
  exact lv_iinc hx hb hd hl hq hv hn rfl (fun ls2 h2 => kk H locs ls2 hP hD hS (lv_sub h2 ks hk))
theorem g_iadd (C : gC X tys cc nL own Ts rm) {x y : Int32} (hd : decode cc pc = .ok (.iadd, 1)) (kk : gW X k n ws nL lv (.int (x + y) :: st) (pc + 1)) : gW X k n ws nL lv (.int y :: .int x :: st) pc := by
  obtain ⟨p, l, e, R, s, m, args, below, meth, c, A, D, Q⟩ := X
  obtain ⟨hx, hb, hml, ho, ht, hK, hA, hR, hlk⟩ := C
  intro H locs ls hP hD hS hl
  exact lv_iadd hx hb hd (kk H locs ls hP hD hS hl)
theorem g_isub (C : gC X tys cc nL own Ts rm) {x y : Int32} (hd : decode cc pc = .ok (.isub, 1)) (kk : gW X k n ws nL lv (.int (x - y) :: st) (pc + 1)) : gW X k n ws nL lv (.int y :: .int x :: st) pc := by
  obtain ⟨p, l, e, R, s, m, args, below, meth, c, A, D, Q⟩ := X
  obtain ⟨hx, hb, hml, ho, ht, hK, hA, hR, hlk⟩ := C
  intro H locs ls hP hD hS hl
  exact lv_isub hx hb hd (kk H locs ls hP hD hS hl)
theorem g_imul (C : gC X tys cc nL own Ts rm) {x y : Int32} (hd : decode cc pc = .ok (.imul, 1)) (kk : gW X k n ws nL lv (.int (x * y) :: st) (pc + 1)) : gW X k n ws nL lv (.int y :: .int x :: st) pc := by
  obtain ⟨p, l, e, R, s, m, args, below, meth, c, A, D, Q⟩ := X
  obtain ⟨hx, hb, hml, ho, ht, hK, hA, hR, hlk⟩ := C
  intro H locs ls hP hD hS hl
  exact lv_imul hx hb hd (kk H locs ls hP hD hS hl)
theorem g_iand (C : gC X tys cc nL own Ts rm) {x y : Int32} (hd : decode cc pc = .ok (.iand, 1)) (kk : gW X k n ws nL lv (.int (x &&& y) :: st) (pc + 1)) : gW X k n ws nL lv (.int y :: .int x :: st) pc := by
  obtain ⟨p, l, e, R, s, m, args, below, meth, c, A, D, Q⟩ := X
  obtain ⟨hx, hb, hml, ho, ht, hK, hA, hR, hlk⟩ := C
  intro H locs ls hP hD hS hl
  exact lv_iand hx hb hd (kk H locs ls hP hD hS hl)
theorem g_ior (C : gC X tys cc nL own Ts rm) {x y : Int32} (hd : decode cc pc = .ok (.ior, 1)) (kk : gW X k n ws nL lv (.int (x ||| y) :: st) (pc + 1)) : gW X k n ws nL lv (.int y :: .int x :: st) pc := by
  obtain ⟨p, l, e, R, s, m, args, below, meth, c, A, D, Q⟩ := X
  obtain ⟨hx, hb, hml, ho, ht, hK, hA, hR, hlk⟩ := C
  intro H locs ls hP hD hS hl
  exact lv_ior hx hb hd (kk H locs ls hP hD hS hl)
theorem g_ixor (C : gC X tys cc nL own Ts rm) {x y : Int32} (hd : decode cc pc = .ok (.ixor, 1)) (kk : gW X k n ws nL lv (.int (x ^^^ y) :: st) (pc + 1)) : gW X k n ws nL lv (.int y :: .int x :: st) pc := by
  obtain ⟨p, l, e, R, s, m, args, below, meth, c, A, D, Q⟩ := X
  obtain ⟨hx, hb, hml, ho, ht, hK, hA, hR, hlk⟩ := C
  intro H locs ls hP hD hS hl
  exact lv_ixor hx hb hd (kk H locs ls hP hD hS hl)
theorem g_ineg (C : gC X tys cc nL own Ts rm) {x : Int32} (hd : decode cc pc = .ok (.ineg, 1)) (kk : gW X k n ws nL lv (.int (-x) :: st) (pc + 1)) : gW X k n ws nL lv (.int x :: st) pc := by
  obtain ⟨p, l, e, R, s, m, args, below, meth, c, A, D, Q⟩ := X
  obtain ⟨hx, hb, hml, ho, ht, hK, hA, hR, hlk⟩ := C
  intro H locs ls hP hD hS hl
  exact lv_ineg hx hb hd (kk H locs ls hP hD hS hl)
theorem g_idiv (C : gC X tys cc nL own Ts rm) {x y : Int32} (hd : decode cc pc = .ok (.idiv, 1)) (hne : ¬ y = 0) (kk : gW X k n ws nL lv (.int (x / y) :: st) (pc + 1)) : gW X k n ws nL lv (.int y :: .int x :: st) pc := by
  obtain ⟨p, l, e, R, s, m, args, below, meth, c, A, D, Q⟩ := X
  obtain ⟨hx, hb, hml, ho, ht, hK, hA, hR, hlk⟩ := C
  intro H locs ls hP hD hS hl
  exact lv_idiv hx hb hd hne (kk H locs ls hP hD hS hl)
theorem g_irem (C : gC X tys cc nL own Ts rm) {x y : Int32} (hd : decode cc pc = .ok (.irem, 1)) (hne : ¬ y = 0) (kk : gW X k n ws nL lv (.int (x - x / y * y) :: st) (pc + 1)) : gW X k n ws nL lv (.int y :: .int x :: st) pc := by
  obtain ⟨p, l, e, R, s, m, args, below, meth, c, A, D, Q⟩ := X
  obtain ⟨hx, hb, hml, ho, ht, hK, hA, hR, hlk⟩ := C
  intro H locs ls hP hD hS hl
  exact lv_irem hx hb hd hne (kk H locs ls hP hD hS hl)
theorem g_ladd (C : gC X tys cc nL own Ts rm) {x y : Int64} (hd : decode cc pc = .ok (.ladd, 1)) (kk : gW X k n ws nL lv (.long (x + y) :: st) (pc + 1)) : gW X k n ws nL lv (.long y :: .long x :: st) pc := by
  obtain ⟨p, l, e, R, s, m, args, below, meth, c, A, D, Q⟩ := X
  obtain ⟨hx, hb, hml, ho, ht, hK, hA, hR, hlk⟩ := C
  intro H locs ls hP hD hS hl
  exact lv_ladd hx hb hd (kk H locs ls hP hD hS hl)
theorem g_lsub (C : gC X tys cc nL own Ts rm) {x y : Int64} (hd : decode cc pc = .ok (.lsub, 1)) (kk : gW X k n ws nL lv (.long (x - y) :: st) (pc + 1)) : gW X k n ws nL lv (.long y :: .long x :: st) pc := by
  obtain ⟨p, l, e, R, s, m, args, below, meth, c, A, D, Q⟩ := X
  obtain ⟨hx, hb, hml, ho, ht, hK, hA, hR, hlk⟩ := C
  intro H locs ls hP hD hS hl
  exact lv_lsub hx hb hd (kk H locs ls hP hD hS hl)
theorem g_lmul (C : gC X tys cc nL own Ts rm) {x y : Int64} (hd : decode cc pc = .ok (.lmul, 1)) (kk : gW X k n ws nL lv (.long (x * y) :: st) (pc + 1)) : gW X k n ws nL lv (.long y :: .long x :: st) pc := by
  obtain ⟨p, l, e, R, s, m, args, below, meth, c, A, D, Q⟩ := X
  obtain ⟨hx, hb, hml, ho, ht, hK, hA, hR, hlk⟩ := C
  intro H locs ls hP hD hS hl
  exact lv_lmul hx hb hd (kk H locs ls hP hD hS hl)
theorem g_land (C : gC X tys cc nL own Ts rm) {x y : Int64} (hd : decode cc pc = .ok (.land, 1)) (kk : gW X k n ws nL lv (.long (x &&& y) :: st) (pc + 1)) : gW X k n ws nL lv (.long y :: .long x :: st) pc := by
  obtain ⟨p, l, e, R, s, m, args, below, meth, c, A, D, Q⟩ := X
  obtain ⟨hx, hb, hml, ho, ht, hK, hA, hR, hlk⟩ := C
  intro H locs ls hP hD hS hl
  exact lv_land hx hb hd (kk H locs ls hP hD hS hl)
theorem g_lor (C : gC X tys cc nL own Ts rm) {x y : Int64} (hd : decode cc pc = .ok (.lor, 1)) (kk : gW X k n ws nL lv (.long (x ||| y) :: st) (pc + 1)) : gW X k n ws nL lv (.long y :: .long x :: st) pc := by
  obtain ⟨p, l, e, R, s, m, args, below, meth, c, A, D, Q⟩ := X
  obtain ⟨hx, hb, hml, ho, ht, hK, hA, hR, hlk⟩ := C
  intro H locs ls hP hD hS hl
  exact lv_lor hx hb hd (kk H locs ls hP hD hS hl)
theorem g_lxor (C : gC X tys cc nL own Ts rm) {x y : Int64} (hd : decode cc pc = .ok (.lxor, 1)) (kk : gW X k n ws nL lv (.long (x ^^^ y) :: st) (pc + 1)) : gW X k n ws nL lv (.long y :: .long x :: st) pc := by
  obtain ⟨p, l, e, R, s, m, args, below, meth, c, A, D, Q⟩ := X
  obtain ⟨hx, hb, hml, ho, ht, hK, hA, hR, hlk⟩ := C
  intro H locs ls hP hD hS hl
  exact lv_lxor hx hb hd (kk H locs ls hP hD hS hl)
theorem g_lneg (C : gC X tys cc nL own Ts rm) {x : Int64} (hd : decode cc pc = .ok (.lneg, 1)) (kk : gW X k n ws nL lv (.long (-x) :: st) (pc + 1)) : gW X k n ws nL lv (.long x :: st) pc := by
  obtain ⟨p, l, e, R, s, m, args, below, meth, c, A, D, Q⟩ := X
  obtain ⟨hx, hb, hml, ho, ht, hK, hA, hR, hlk⟩ := C
  intro H locs ls hP hD hS hl
  exact lv_lneg hx hb hd (kk H locs ls hP hD hS hl)
theorem g_ldiv (C : gC X tys cc nL own Ts rm) {x y : Int64} (hd : decode cc pc = .ok (.ldiv, 1)) (hne : ¬ y = 0) (kk : gW X k n ws nL lv (.long (x / y) :: st) (pc + 1)) : gW X k n ws nL lv (.long y :: .long x :: st) pc := by
  obtain ⟨p, l, e, R, s, m, args, below, meth, c, A, D, Q⟩ := X
  obtain ⟨hx, hb, hml, ho, ht, hK, hA, hR, hlk⟩ := C
  intro H locs ls hP hD hS hl
  exact lv_ldiv hx hb hd hne (kk H locs ls hP hD hS hl)
theorem g_lrem (C : gC X tys cc nL own Ts rm) {x y : Int64} (hd : decode cc pc = .ok (.lrem, 1)) (hne : ¬ y = 0) (kk : gW X k n ws nL lv (.long (x - x / y * y) :: st) (pc + 1)) : gW X k n ws nL lv (.long y :: .long x :: st) pc := by
  obtain ⟨p, l, e, R, s, m, args, below, meth, c, A, D, Q⟩ := X
  obtain ⟨hx, hb, hml, ho, ht, hK, hA, hR, hlk⟩ := C
  intro H locs ls hP hD hS hl
  exact lv_lrem hx hb hd hne (kk H locs ls hP hD hS hl)
theorem g_ishl (C : gC X tys cc nL own Ts rm) {x y : Int32} (hd : decode cc pc = .ok (.ishl, 1)) (kk : gW X k n ws nL lv (.int (x <<< (y &&& 31)) :: st) (pc + 1)) : gW X k n ws nL lv (.int y :: .int x :: st) pc := by
  obtain ⟨p, l, e, R, s, m, args, below, meth, c, A, D, Q⟩ := X
  obtain ⟨hx, hb, hml, ho, ht, hK, hA, hR, hlk⟩ := C
  intro H locs ls hP hD hS hl
  exact lv_ishl hx hb hd (kk H locs ls hP hD hS hl)
theorem g_ishr (C : gC X tys cc nL own Ts rm) {x y : Int32} (hd : decode cc pc = .ok (.ishr, 1)) (kk : gW X k n ws nL lv (.int (x >>> (y &&& 31)) :: st) (pc + 1)) : gW X k n ws nL lv (.int y :: .int x :: st) pc := by
  obtain ⟨p, l, e, R, s, m, args, below, meth, c, A, D, Q⟩ := X
  obtain ⟨hx, hb, hml, ho, ht, hK, hA, hR, hlk⟩ := C
  intro H locs ls hP hD hS hl
  exact lv_ishr hx hb hd (kk H locs ls hP hD hS hl)
theorem g_iushr (C : gC X tys cc nL own Ts rm) {x y : Int32} (hd : decode cc pc = .ok (.iushr, 1)) (kk : gW X k n ws nL lv (.int ((x.toUInt32 >>> (y.toUInt32 &&& Int32.toUInt32 31)).toInt32) :: st) (pc + 1)) : gW X k n ws nL lv (.int y :: .int x :: st) pc := by
  obtain ⟨p, l, e, R, s, m, args, below, meth, c, A, D, Q⟩ := X
  obtain ⟨hx, hb, hml, ho, ht, hK, hA, hR, hlk⟩ := C
  intro H locs ls hP hD hS hl
  exact lv_iushr hx hb hd rfl (kk H locs ls hP hD hS hl)
theorem g_lshl (C : gC X tys cc nL own Ts rm) {x : Int64} {y : Int32} (hd : decode cc pc = .ok (.lshl, 1)) (kk : gW X k n ws nL lv (.long (x <<< (y.toInt64 &&& 63)) :: st) (pc + 1)) : gW X k n ws nL lv (.int y :: .long x :: st) pc := by
  obtain ⟨p, l, e, R, s, m, args, below, meth, c, A, D, Q⟩ := X
  obtain ⟨hx, hb, hml, ho, ht, hK, hA, hR, hlk⟩ := C
  intro H locs ls hP hD hS hl
  exact lv_lshl hx hb hd rfl (kk H locs ls hP hD hS hl)
theorem g_lshr (C : gC X tys cc nL own Ts rm) {x : Int64} {y : Int32} (hd : decode cc pc = .ok (.lshr, 1)) (kk : gW X k n ws nL lv (.long (x >>> (y.toInt64 &&& 63)) :: st) (pc + 1)) : gW X k n ws nL lv (.int y :: .long x :: st) pc := by
  obtain ⟨p, l, e, R, s, m, args, below, meth, c, A, D, Q⟩ := X
  obtain ⟨hx, hb, hml, ho, ht, hK, hA, hR, hlk⟩ := C
  intro H locs ls hP hD hS hl
  exact lv_lshr hx hb hd rfl (kk H locs ls hP hD hS hl)
theorem g_lushr (C : gC X tys cc nL own Ts rm) {x : Int64} {y : Int32} (hd : decode cc pc = .ok (.lushr, 1)) (kk : gW X k n ws nL lv (.long ((x.toUInt64 >>> (y.toInt64.toUInt64 &&& Int64.toUInt64 63)).toInt64) :: st) (pc + 1)) : gW X k n ws nL lv (.int y :: .long x :: st) pc := by
  obtain ⟨p, l, e, R, s, m, args, below, meth, c, A, D, Q⟩ := X
  obtain ⟨hx, hb, hml, ho, ht, hK, hA, hR, hlk⟩ := C
  intro H locs ls hP hD hS hl
  exact lv_lushr hx hb hd rfl (kk H locs ls hP hD hS hl)
theorem g_i2l (C : gC X tys cc nL own Ts rm) {x : Int32} (hd : decode cc pc = .ok (.i2l, 1)) (kk : gW X k n ws nL lv (.long x.toInt64 :: st) (pc + 1)) : gW X k n ws nL lv (.int x :: st) pc := by
  obtain ⟨p, l, e, R, s, m, args, below, meth, c, A, D, Q⟩ := X
  obtain ⟨hx, hb, hml, ho, ht, hK, hA, hR, hlk⟩ := C
  intro H locs ls hP hD hS hl
  exact lv_i2l hx hb hd rfl (kk H locs ls hP hD hS hl)
theorem g_l2i (C : gC X tys cc nL own Ts rm) {x : Int64} (hd : decode cc pc = .ok (.l2i, 1)) (kk : gW X k n ws nL lv (.int x.toInt32 :: st) (pc + 1)) : gW X k n ws nL lv (.long x :: st) pc := by
  obtain ⟨p, l, e, R, s, m, args, below, meth, c, A, D, Q⟩ := X
  obtain ⟨hx, hb, hml, ho, ht, hK, hA, hR, hlk⟩ := C
  intro H locs ls hP hD hS hl
  exact lv_l2i hx hb hd rfl (kk H locs ls hP hD hS hl)
theorem g_lcmp (C : gC X tys cc nL own Ts rm) {x y : Int64} (hd : decode cc pc = .ok (.lcmp, 1)) (kk : gW X k n ws nL lv (.int (lg_cmp x y) :: st) (pc + 1)) : gW X k n ws nL lv (.long y :: .long x :: st) pc := by
  obtain ⟨p, l, e, R, s, m, args, below, meth, c, A, D, Q⟩ := X
  obtain ⟨hx, hb, hml, ho, ht, hK, hA, hR, hlk⟩ := C
  intro H locs ls hP hD hS hl
  exact W.lcmp hx hb hd (kk H locs ls hP hD hS hl)
theorem g_dup (C : gC X tys cc nL own Ts rm) {va : Value} (hd : decode cc pc = .ok (.dup, 1)) (hva : va.category = 1) (kk : gW X k n ws nL lv (va :: va :: st) (pc + 1)) : gW X k n ws nL lv (va :: st) pc := by
  obtain ⟨p, l, e, R, s, m, args, below, meth, c, A, D, Q⟩ := X
  obtain ⟨hx, hb, hml, ho, ht, hK, hA, hR, hlk⟩ := C
  intro H locs ls hP hD hS hl
  exact lv_dup hx hb hd hva (kk H locs ls hP hD hS hl)
theorem g_dup2_2 (C : gC X tys cc nL own Ts rm) {va : Value} (hd : decode cc pc = .ok (.dup2, 1)) (hva : va.category = 2) (kk : gW X k n ws nL lv (va :: va :: st) (pc + 1)) : gW X k n ws nL lv (va :: st) pc := by
  obtain ⟨p, l, e, R, s, m, args, below, meth, c, A, D, Q⟩ := X
  obtain ⟨hx, hb, hml, ho, ht, hK, hA, hR, hlk⟩ := C
  intro H locs ls hP hD hS hl
  exact lv_dup2_2 hx hb hd hva (kk H locs ls hP hD hS hl)
theorem g_dup2_11 (C : gC X tys cc nL own Ts rm) {va vb : Value} (hd : decode cc pc = .ok (.dup2, 1)) (hva : va.category = 1) (hvb : vb.category = 1) (kk : gW X k n ws nL lv (va :: vb :: va :: vb :: st) (pc + 1)) : gW X k n ws nL lv (va :: vb :: st) pc := by
  obtain ⟨p, l, e, R, s, m, args, below, meth, c, A, D, Q⟩ := X
  obtain ⟨hx, hb, hml, ho, ht, hK, hA, hR, hlk⟩ := C
  intro H locs ls hP hD hS hl
  exact lv_dup2_11 hx hb hd hva hvb (kk H locs ls hP hD hS hl)
theorem g_goto (C : gC X tys cc nL own Ts rm) {off : Int} {tgt : Nat} (hd : decode cc pc = .ok (.goto off, 3)) (h0 : (pc : Int) + off = (tgt : Int)) (kk : gW X k n ws nL lv st tgt) : gW X k n ws nL lv (st) pc := by
  obtain ⟨p, l, e, R, s, m, args, below, meth, c, A, D, Q⟩ := X
  obtain ⟨hx, hb, hml, ho, ht, hK, hA, hR, hlk⟩ := C
  intro H locs ls hP hD hS hl
  exact lv_goto hx hb hd h0 (kk H locs ls hP hD hS hl)
theorem g_icmp_eq (C : gC X tys cc nL own Ts rm) {x y : Int32} {off : Int} {tgt : Nat} (hd : decode cc pc = .ok (.if_icmp .eq off, 3)) (h0 : (pc : Int) + off = (tgt : Int)) (kt : x = y → gW X k n ws nL lv st tgt) (kf : ¬ x = y → gW X k n ws nL lv st (pc + 3)) : gW X k n ws nL lv (.int y :: .int x :: st) pc := by
  obtain ⟨p, l, e, R, s, m, args, below, meth, c, A, D, Q⟩ := X
  obtain ⟨hx, hb, hml, ho, ht, hK, hA, hR, hlk⟩ := C
  intro H locs ls hP hD hS hl
  exact lv_icmp_eq hx hb hd h0 (fun h => kt h H locs ls hP hD hS hl) (fun h => kf h H locs ls hP hD hS hl)
theorem g_if_eq (C : gC X tys cc nL own Ts rm) {x : Int32} {off : Int} {tgt : Nat} (hd : decode cc pc = .ok (.ifCond .eq off, 3)) (h0 : (pc : Int) + off = (tgt : Int)) (kt : x = 0 → gW X k n ws nL lv st tgt) (kf : ¬ x = 0 → gW X k n ws nL lv st (pc + 3)) : gW X k n ws nL lv (.int x :: st) pc := by
  obtain ⟨p, l, e, R, s, m, args, below, meth, c, A, D, Q⟩ := X
  obtain ⟨hx, hb, hml, ho, ht, hK, hA, hR, hlk⟩ := C
  intro H locs ls hP hD hS hl
  exact lv_if_eq hx hb hd h0 (fun h => kt h H locs ls hP hD hS hl) (fun h => kf h H locs ls hP hD hS hl)
theorem g_icmp_ne (C : gC X tys cc nL own Ts rm) {x y : Int32} {off : Int} {tgt : Nat} (hd : decode cc pc = .ok (.if_icmp .ne off, 3)) (h0 : (pc : Int) + off = (tgt : Int)) (kt : ¬ x = y → gW X k n ws nL lv st tgt) (kf : x = y → gW X k n ws nL lv st (pc + 3)) : gW X k n ws nL lv (.int y :: .int x :: st) pc := by
  obtain ⟨p, l, e, R, s, m, args, below, meth, c, A, D, Q⟩ := X
  obtain ⟨hx, hb, hml, ho, ht, hK, hA, hR, hlk⟩ := C
  intro H locs ls hP hD hS hl
  exact lv_icmp_ne hx hb hd h0 (fun h => kt h H locs ls hP hD hS hl) (fun h => kf h H locs ls hP hD hS hl)
theorem g_if_ne (C : gC X tys cc nL own Ts rm) {x : Int32} {off : Int} {tgt : Nat} (hd : decode cc pc = .ok (.ifCond .ne off, 3)) (h0 : (pc : Int) + off = (tgt : Int)) (kt : ¬ x = 0 → gW X k n ws nL lv st tgt) (kf : x = 0 → gW X k n ws nL lv st (pc + 3)) : gW X k n ws nL lv (.int x :: st) pc := by
  obtain ⟨p, l, e, R, s, m, args, below, meth, c, A, D, Q⟩ := X
  obtain ⟨hx, hb, hml, ho, ht, hK, hA, hR, hlk⟩ := C
  intro H locs ls hP hD hS hl
  exact lv_if_ne hx hb hd h0 (fun h => kt h H locs ls hP hD hS hl) (fun h => kf h H locs ls hP hD hS hl)
theorem g_icmp_lt (C : gC X tys cc nL own Ts rm) {x y : Int32} {off : Int} {tgt : Nat} (hd : decode cc pc = .ok (.if_icmp .lt off, 3)) (h0 : (pc : Int) + off = (tgt : Int)) (kt : x < y → gW X k n ws nL lv st tgt) (kf : ¬ x < y → gW X k n ws nL lv st (pc + 3)) : gW X k n ws nL lv (.int y :: .int x :: st) pc := by
  obtain ⟨p, l, e, R, s, m, args, below, meth, c, A, D, Q⟩ := X
  obtain ⟨hx, hb, hml, ho, ht, hK, hA, hR, hlk⟩ := C
  intro H locs ls hP hD hS hl
  exact lv_icmp_lt hx hb hd h0 (fun h => kt h H locs ls hP hD hS hl) (fun h => kf h H locs ls hP hD hS hl)
theorem g_if_lt (C : gC X tys cc nL own Ts rm) {x : Int32} {off : Int} {tgt : Nat} (hd : decode cc pc = .ok (.ifCond .lt off, 3)) (h0 : (pc : Int) + off = (tgt : Int)) (kt : x < 0 → gW X k n ws nL lv st tgt) (kf : ¬ x < 0 → gW X k n ws nL lv st (pc + 3)) : gW X k n ws nL lv (.int x :: st) pc := by
  obtain ⟨p, l, e, R, s, m, args, below, meth, c, A, D, Q⟩ := X
  obtain ⟨hx, hb, hml, ho, ht, hK, hA, hR, hlk⟩ := C
  intro H locs ls hP hD hS hl
  exact lv_if_lt hx hb hd h0 (fun h => kt h H locs ls hP hD hS hl) (fun h => kf h H locs ls hP hD hS hl)
theorem g_icmp_ge (C : gC X tys cc nL own Ts rm) {x y : Int32} {off : Int} {tgt : Nat} (hd : decode cc pc = .ok (.if_icmp .ge off, 3)) (h0 : (pc : Int) + off = (tgt : Int)) (kt : y ≤ x → gW X k n ws nL lv st tgt) (kf : ¬ y ≤ x → gW X k n ws nL lv st (pc + 3)) : gW X k n ws nL lv (.int y :: .int x :: st) pc := by
  obtain ⟨p, l, e, R, s, m, args, below, meth, c, A, D, Q⟩ := X
  obtain ⟨hx, hb, hml, ho, ht, hK, hA, hR, hlk⟩ := C
  intro H locs ls hP hD hS hl
  exact lv_icmp_ge hx hb hd h0 (fun h => kt h H locs ls hP hD hS hl) (fun h => kf h H locs ls hP hD hS hl)
theorem g_if_ge (C : gC X tys cc nL own Ts rm) {x : Int32} {off : Int} {tgt : Nat} (hd : decode cc pc = .ok (.ifCond .ge off, 3)) (h0 : (pc : Int) + off = (tgt : Int)) (kt : 0 ≤ x → gW X k n ws nL lv st tgt) (kf : ¬ 0 ≤ x → gW X k n ws nL lv st (pc + 3)) : gW X k n ws nL lv (.int x :: st) pc := by
  obtain ⟨p, l, e, R, s, m, args, below, meth, c, A, D, Q⟩ := X
  obtain ⟨hx, hb, hml, ho, ht, hK, hA, hR, hlk⟩ := C
  intro H locs ls hP hD hS hl
  exact lv_if_ge hx hb hd h0 (fun h => kt h H locs ls hP hD hS hl) (fun h => kf h H locs ls hP hD hS hl)
theorem g_icmp_gt (C : gC X tys cc nL own Ts rm) {x y : Int32} {off : Int} {tgt : Nat} (hd : decode cc pc = .ok (.if_icmp .gt off, 3)) (h0 : (pc : Int) + off = (tgt : Int)) (kt : y < x → gW X k n ws nL lv st tgt) (kf : ¬ y < x → gW X k n ws nL lv st (pc + 3)) : gW X k n ws nL lv (.int y :: .int x :: st) pc := by
  obtain ⟨p, l, e, R, s, m, args, below, meth, c, A, D, Q⟩ := X
  obtain ⟨hx, hb, hml, ho, ht, hK, hA, hR, hlk⟩ := C
  intro H locs ls hP hD hS hl
  exact lv_icmp_gt hx hb hd h0 (fun h => kt h H locs ls hP hD hS hl) (fun h => kf h H locs ls hP hD hS hl)
theorem g_if_gt (C : gC X tys cc nL own Ts rm) {x : Int32} {off : Int} {tgt : Nat} (hd : decode cc pc = .ok (.ifCond .gt off, 3)) (h0 : (pc : Int) + off = (tgt : Int)) (kt : 0 < x → gW X k n ws nL lv st tgt) (kf : ¬ 0 < x → gW X k n ws nL lv st (pc + 3)) : gW X k n ws nL lv (.int x :: st) pc := by
  obtain ⟨p, l, e, R, s, m, args, below, meth, c, A, D, Q⟩ := X
  obtain ⟨hx, hb, hml, ho, ht, hK, hA, hR, hlk⟩ := C
  intro H locs ls hP hD hS hl
  exact lv_if_gt hx hb hd h0 (fun h => kt h H locs ls hP hD hS hl) (fun h => kf h H locs ls hP hD hS hl)
theorem g_icmp_le (C : gC X tys cc nL own Ts rm) {x y : Int32} {off : Int} {tgt : Nat} (hd : decode cc pc = .ok (.if_icmp .le off, 3)) (h0 : (pc : Int) + off = (tgt : Int)) (kt : x ≤ y → gW X k n ws nL lv st tgt) (kf : ¬ x ≤ y → gW X k n ws nL lv st (pc + 3)) : gW X k n ws nL lv (.int y :: .int x :: st) pc := by
  obtain ⟨p, l, e, R, s, m, args, below, meth, c, A, D, Q⟩ := X
  obtain ⟨hx, hb, hml, ho, ht, hK, hA, hR, hlk⟩ := C
  intro H locs ls hP hD hS hl
  exact lv_icmp_le hx hb hd h0 (fun h => kt h H locs ls hP hD hS hl) (fun h => kf h H locs ls hP hD hS hl)
theorem g_if_le (C : gC X tys cc nL own Ts rm) {x : Int32} {off : Int} {tgt : Nat} (hd : decode cc pc = .ok (.ifCond .le off, 3)) (h0 : (pc : Int) + off = (tgt : Int)) (kt : x ≤ 0 → gW X k n ws nL lv st tgt) (kf : ¬ x ≤ 0 → gW X k n ws nL lv st (pc + 3)) : gW X k n ws nL lv (.int x :: st) pc := by
  obtain ⟨p, l, e, R, s, m, args, below, meth, c, A, D, Q⟩ := X
  obtain ⟨hx, hb, hml, ho, ht, hK, hA, hR, hlk⟩ := C
  intro H locs ls hP hD hS hl
  exact lv_if_le hx hb hd h0 (fun h => kt h H locs ls hP hD hS hl) (fun h => kf h H locs ls hP hD hS hl)
theorem lgc_tri (x y : Int64) : (y < x ∧ lg_cmp x y = 1) ∨ (x = y ∧ lg_cmp x y = 0) ∨ (x < y ∧ lg_cmp x y = -1) := by
  by_cases h1 : y < x
  · exact Or.inl ⟨h1, by simp [lg_cmp, h1]⟩
  · by_cases h2 : x = y
    · exact Or.inr (Or.inl ⟨h2, by subst h2; simp [lg_cmp]⟩)
    · refine Or.inr (Or.inr ⟨?_, by simp [lg_cmp, h1, h2]⟩)
      rw [Int64.lt_iff_toInt_lt] at h1 ⊢
      have h3 : ¬ x.toInt = y.toInt := fun q => h2 (Int64.toInt_inj.mp q)
      omega
theorem lgc_eq {x y : Int64} : lg_cmp x y = 0 ↔ x = y := by
  rcases lgc_tri x y with ⟨h, e⟩ | ⟨h, e⟩ | ⟨h, e⟩
  all_goals
    rw [e]
    have h' := h
    simp only [Int64.lt_iff_toInt_lt, Int64.le_iff_toInt_le, ← Int64.toInt_inj] at h' ⊢
    constructor
    · intro q; first | exact absurd q (by decide) | omega
    · intro q; first | decide | (exfalso; omega)
theorem lgc_ne {x y : Int64} : ¬ lg_cmp x y = 0 ↔ ¬ x = y := by
  rcases lgc_tri x y with ⟨h, e⟩ | ⟨h, e⟩ | ⟨h, e⟩
  all_goals
    rw [e]
    have h' := h
    simp only [Int64.lt_iff_toInt_lt, Int64.le_iff_toInt_le, ← Int64.toInt_inj] at h' ⊢
    constructor
    · intro q; first | exact absurd q (by decide) | omega
    · intro q; first | decide | (exfalso; omega)
theorem lgc_lt {x y : Int64} : lg_cmp x y < 0 ↔ x < y := by
  rcases lgc_tri x y with ⟨h, e⟩ | ⟨h, e⟩ | ⟨h, e⟩
  all_goals
    rw [e]
    have h' := h
    simp only [Int64.lt_iff_toInt_lt, Int64.le_iff_toInt_le, ← Int64.toInt_inj] at h' ⊢
    constructor
    · intro q; first | exact absurd q (by decide) | omega
    · intro q; first | decide | (exfalso; omega)
theorem lgc_ge {x y : Int64} : 0 ≤ lg_cmp x y ↔ y ≤ x := by
  rcases lgc_tri x y with ⟨h, e⟩ | ⟨h, e⟩ | ⟨h, e⟩
  all_goals
    rw [e]
    have h' := h
    simp only [Int64.lt_iff_toInt_lt, Int64.le_iff_toInt_le, ← Int64.toInt_inj] at h' ⊢
    constructor
    · intro q; first | exact absurd q (by decide) | omega
    · intro q; first | decide | (exfalso; omega)
theorem lgc_gt {x y : Int64} : 0 < lg_cmp x y ↔ y < x := by
  rcases lgc_tri x y with ⟨h, e⟩ | ⟨h, e⟩ | ⟨h, e⟩
  all_goals
    rw [e]
    have h' := h
    simp only [Int64.lt_iff_toInt_lt, Int64.le_iff_toInt_le, ← Int64.toInt_inj] at h' ⊢
    constructor
    · intro q; first | exact absurd q (by decide) | omega
    · intro q; first | decide | (exfalso; omega)
theorem lgc_le {x y : Int64} : lg_cmp x y ≤ 0 ↔ x ≤ y := by
  rcases lgc_tri x y with ⟨h, e⟩ | ⟨h, e⟩ | ⟨h, e⟩
  all_goals
    rw [e]
    have h' := h
    simp only [Int64.lt_iff_toInt_lt, Int64.le_iff_toInt_le, ← Int64.toInt_inj] at h' ⊢
    constructor
    · intro q; first | exact absurd q (by decide) | omega
    · intro q; first | decide | (exfalso; omega)
theorem g_lcmp_eq (C : gC X tys cc nL own Ts rm) {x y : Int64} {off : Int} {tgt pc2 : Nat} (hd1 : decode cc pc = .ok (.lcmp, 1)) (hd : decode cc pc2 = .ok (.ifCond .eq off, 3)) (hp : pc + 1 = pc2) (h0 : (pc2 : Int) + off = (tgt : Int)) (kt : x = y → gW X k n ws nL lv st tgt) (kf : ¬ x = y → gW X k n ws nL lv st (pc + 4)) : gW X k n ws nL lv (.long y :: .long x :: st) pc := by
  obtain ⟨p, l, e, R, s, m, args, below, meth, c, A, D, Q⟩ := X
  obtain ⟨hx, hb, hml, ho, ht, hK, hA, hR, hlk⟩ := C
  intro H locs ls hP hD hS hl
  subst hp
  exact W.lcmp hx hb hd1 (lv_if_eq hx hb hd h0 (fun h => kt (lgc_eq.mp h) H locs ls hP hD hS hl) (fun h => kf (fun q => h (lgc_eq.mpr q)) H locs ls hP hD hS hl))
theorem g_lcmp_ne (C : gC X tys cc nL own Ts rm) {x y : Int64} {off : Int} {tgt pc2 : Nat} (hd1 : decode cc pc = .ok (.lcmp, 1)) (hd : decode cc pc2 = .ok (.ifCond .ne off, 3)) (hp : pc + 1 = pc2) (h0 : (pc2 : Int) + off = (tgt : Int)) (kt : ¬ x = y → gW X k n ws nL lv st tgt) (kf : x = y → gW X k n ws nL lv st (pc + 4)) : gW X k n ws nL lv (.long y :: .long x :: st) pc := by
  obtain ⟨p, l, e, R, s, m, args, below, meth, c, A, D, Q⟩ := X
  obtain ⟨hx, hb, hml, ho, ht, hK, hA, hR, hlk⟩ := C
  intro H locs ls hP hD hS hl
  subst hp
  exact W.lcmp hx hb hd1 (lv_if_ne hx hb hd h0 (fun h => kt (lgc_ne.mp h) H locs ls hP hD hS hl) (fun h => kf (Classical.byContradiction (fun q => absurd (lgc_ne.mpr q) (by rw [h]; decide))) H locs ls hP hD hS hl))
theorem g_lcmp_lt (C : gC X tys cc nL own Ts rm) {x y : Int64} {off : Int} {tgt pc2 : Nat} (hd1 : decode cc pc = .ok (.lcmp, 1)) (hd : decode cc pc2 = .ok (.ifCond .lt off, 3)) (hp : pc + 1 = pc2) (h0 : (pc2 : Int) + off = (tgt : Int)) (kt : x < y → gW X k n ws nL lv st tgt) (kf : ¬ x < y → gW X k n ws nL lv st (pc + 4)) : gW X k n ws nL lv (.long y :: .long x :: st) pc := by
  obtain ⟨p, l, e, R, s, m, args, below, meth, c, A, D, Q⟩ := X
  obtain ⟨hx, hb, hml, ho, ht, hK, hA, hR, hlk⟩ := C
  intro H locs ls hP hD hS hl
  subst hp
  exact W.lcmp hx hb hd1 (lv_if_lt hx hb hd h0 (fun h => kt (lgc_lt.mp h) H locs ls hP hD hS hl) (fun h => kf (fun q => h (lgc_lt.mpr q)) H locs ls hP hD hS hl))
theorem g_lcmp_ge (C : gC X tys cc nL own Ts rm) {x y : Int64} {off : Int} {tgt pc2 : Nat} (hd1 : decode cc pc = .ok (.lcmp, 1)) (hd : decode cc pc2 = .ok (.ifCond .ge off, 3)) (hp : pc + 1 = pc2) (h0 : (pc2 : Int) + off = (tgt : Int)) (kt : y ≤ x → gW X k n ws nL lv st tgt) (kf : ¬ y ≤ x → gW X k n ws nL lv st (pc + 4)) : gW X k n ws nL lv (.long y :: .long x :: st) pc := by
  obtain ⟨p, l, e, R, s, m, args, below, meth, c, A, D, Q⟩ := X
  obtain ⟨hx, hb, hml, ho, ht, hK, hA, hR, hlk⟩ := C
  intro H locs ls hP hD hS hl
  subst hp
  exact W.lcmp hx hb hd1 (lv_if_ge hx hb hd h0 (fun h => kt (lgc_ge.mp h) H locs ls hP hD hS hl) (fun h => kf (fun q => h (lgc_ge.mpr q)) H locs ls hP hD hS hl))
theorem g_lcmp_gt (C : gC X tys cc nL own Ts rm) {x y : Int64} {off : Int} {tgt pc2 : Nat} (hd1 : decode cc pc = .ok (.lcmp, 1)) (hd : decode cc pc2 = .ok (.ifCond .gt off, 3)) (hp : pc + 1 = pc2) (h0 : (pc2 : Int) + off = (tgt : Int)) (kt : y < x → gW X k n ws nL lv st tgt) (kf : ¬ y < x → gW X k n ws nL lv st (pc + 4)) : gW X k n ws nL lv (.long y :: .long x :: st) pc := by
  obtain ⟨p, l, e, R, s, m, args, below, meth, c, A, D, Q⟩ := X
  obtain ⟨hx, hb, hml, ho, ht, hK, hA, hR, hlk⟩ := C
  intro H locs ls hP hD hS hl
  subst hp
  exact W.lcmp hx hb hd1 (lv_if_gt hx hb hd h0 (fun h => kt (lgc_gt.mp h) H locs ls hP hD hS hl) (fun h => kf (fun q => h (lgc_gt.mpr q)) H locs ls hP hD hS hl))
theorem g_lcmp_le (C : gC X tys cc nL own Ts rm) {x y : Int64} {off : Int} {tgt pc2 : Nat} (hd1 : decode cc pc = .ok (.lcmp, 1)) (hd : decode cc pc2 = .ok (.ifCond .le off, 3)) (hp : pc + 1 = pc2) (h0 : (pc2 : Int) + off = (tgt : Int)) (kt : x ≤ y → gW X k n ws nL lv st tgt) (kf : ¬ x ≤ y → gW X k n ws nL lv st (pc + 4)) : gW X k n ws nL lv (.long y :: .long x :: st) pc := by
  obtain ⟨p, l, e, R, s, m, args, below, meth, c, A, D, Q⟩ := X
  obtain ⟨hx, hb, hml, ho, ht, hK, hA, hR, hlk⟩ := C
  intro H locs ls hP hD hS hl
  subst hp
  exact W.lcmp hx hb hd1 (lv_if_le hx hb hd h0 (fun h => kt (lgc_le.mp h) H locs ls hP hD hS hl) (fun h => kf (fun q => h (lgc_le.mpr q)) H locs ls hP hD hS hl))
theorem g_ifeq_b (C : gC X tys cc nL own Ts rm) {b : Bool} {off : Int} {tgt : Nat} (hd : decode cc pc = .ok (.ifCond .eq off, 3)) (h0 : (pc : Int) + off = (tgt : Int)) (kt : b = false → gW X k n ws nL lv st tgt) (kf : b = true → gW X k n ws nL lv st (pc + 3)) : gW X k n ws nL lv (.int (bI b) :: st) pc := by
  obtain ⟨p, l, e, R, s, m, args, below, meth, c, A, D, Q⟩ := X
  obtain ⟨hx, hb, hml, ho, ht, hK, hA, hR, hlk⟩ := C
  intro H locs ls hP hD hS hl
  exact lv_if_eq hx hb hd h0 (fun h => kt (bI_0.mp h) H locs ls hP hD hS hl) (fun h => kf (by cases b; exact absurd (bI_f rfl) h; rfl) H locs ls hP hD hS hl)
theorem g_ifne_b (C : gC X tys cc nL own Ts rm) {b : Bool} {off : Int} {tgt : Nat} (hd : decode cc pc = .ok (.ifCond .ne off, 3)) (h0 : (pc : Int) + off = (tgt : Int)) (kt : b = true → gW X k n ws nL lv st tgt) (kf : b = false → gW X k n ws nL lv st (pc + 3)) : gW X k n ws nL lv (.int (bI b) :: st) pc := by
  obtain ⟨p, l, e, R, s, m, args, below, meth, c, A, D, Q⟩ := X
  obtain ⟨hx, hb, hml, ho, ht, hK, hA, hR, hlk⟩ := C
  intro H locs ls hP hD hS hl
  exact lv_if_ne hx hb hd h0 (fun h => kt (by cases b; exact absurd (bI_f rfl) h; rfl) H locs ls hP hD hS hl) (fun h => kf (bI_0.mp h) H locs ls hP hD hS hl)
theorem g_get (C : gC X tys cc nL own Ts rm) {index ci kf : Nat} {Cn : String} {T : u_T} {N : Nat} (F : gF Ts own index ci kf Cn T N) (q0 : Nat) {a : Nat} {fs : List Value} {v : Value} (he : ws[q0]? = some (a, .inr (ci, fs))) (hv : fs[kf]? = some v) (hd : decode cc pc = .ok (.getfield index, 3)) (kk : gW X k n ws nL lv (v :: st) (pc + 3)) : gW X k n ws nL lv (.ref a :: st) pc := by
  obtain ⟨p, l, e, R, s, m, args, below, meth, c, A, D, Q⟩ := X
  obtain ⟨hx, hb, hml, ho, ht, hK, hA, hR, hlk⟩ := C
  intro H locs ls hP hD hS hl
  exact va_get (D := D) (ref := (T kf).1) hx hb ht F.1 ho hK hP q0 he F.2.2.1 kf F.2.2.2 (ht _ F.2.1) (fun _ h => h) hv hd (kk H locs ls hP hD hS hl)
theorem g_put (C : gC X tys cc nL own Ts rm) {index ci kf : Nat} {Cn : String} {T : u_T} {N : Nat} (F : gF Ts own index ci kf Cn T N) (q0 : Nat) {a : Nat} {fs : List Value} {v : Value} {ty0 : Nat → FieldType} (hty : ∀ k, k < N → parseFieldDescriptor (T k).2.2.1 = some (ty0 k)) (hnm : ∀ a, a < N → ∀ b, b < N → a ≠ b → (T a).2.1 ≠ (T b).2.1) (he : ws[q0]? = some (a, .inr (ci, fs))) (hfin : (T kf).2.2.2 = false) (hna : narrow (ty0 kf) v = v) (hfit : fits (ty0 kf) v = true) (hle : kf < fs.length) {ws2 : va_W} (hw : ws.set q0 (a, .inr (ci, fs.set kf v)) = ws2) (hd : decode cc pc = .ok (.putfield index, 3)) (kk : gW X k n ws2 nL lv st (pc + 3)) : gW X k n ws nL lv (v :: .ref a :: st) pc := by
  obtain ⟨p, l, e, R, s, m, args, below, meth, c, A, D, Q⟩ := X
  obtain ⟨hx, hb, hml, ho, ht, hK, hA, hR, hlk⟩ := C
  intro H locs ls hP hD hS hl
  subst hw
  exact va_put (D := D) (ref := (T kf).1) hx hb ht F.1 ty0 hty hnm ho hK hP hD hS q0 he F.2.2.1 kf F.2.2.2 (ht _ F.2.1) (fun _ h => h) hfin (hty kf F.2.2.2) hna hfit hle hd (fun H1 locs1 hP hD hS => kk H1 locs1 ls hP hD hS hl)
theorem g_iald (C : gC X tys cc nL own Ts rm) (q0 t0 : Nat) {a : Nat} {cA : ClassId} {N : Nat} {f : Nat → Int32} {i : Int32} (ha : ws[q0]? = some (a, .inl (cA, N, .inl f))) (hty : tys[t0]? = some (cA, .int)) (hin : vp_in i N) (hd : decode cc pc = .ok (.iaload, 1)) (kk : gW X k n ws nL lv (.int (f i.toNatClampNeg) :: st) (pc + 1)) : gW X k n ws nL lv (.int i :: .ref a :: st) pc := by
  obtain ⟨p, l, e, R, s, m, args, below, meth, c, A, D, Q⟩ := X
  obtain ⟨hx, hb, hml, ho, ht, hK, hA, hR, hlk⟩ := C
  intro H locs ls hP hD hS hl
  exact va_iald hx hb hK hP q0 t0 ha hty hin hd (kk H locs ls hP hD hS hl)
theorem g_zald (C : gC X tys cc nL own Ts rm) (q0 t0 : Nat) {a : Nat} {cA : ClassId} {N : Nat} {f : Nat → Int32} {i : Int32} (ha : ws[q0]? = some (a, .inl (cA, N, .inl f))) (hty : tys[t0]? = some (cA, .boolean)) (hin : vp_in i N) (hd : decode cc pc = .ok (.baload, 1)) (kk : gW X k n ws nL lv (.int (f i.toNatClampNeg) :: st) (pc + 1)) : gW X k n ws nL lv (.int i :: .ref a :: st) pc := by
  obtain ⟨p, l, e, R, s, m, args, below, meth, c, A, D, Q⟩ := X
  obtain ⟨hx, hb, hml, ho, ht, hK, hA, hR, hlk⟩ := C
  intro H locs ls hP hD hS hl
  exact va_zald hx hb hK hP q0 t0 ha hty hin hd (kk H locs ls hP hD hS hl)
theorem g_lald (C : gC X tys cc nL own Ts rm) (q0 t0 : Nat) {a : Nat} {cA : ClassId} {N : Nat} {f : Nat → Int64} {i : Int32} (ha : ws[q0]? = some (a, .inl (cA, N, .inr (.inl f)))) (hty : tys[t0]? = some (cA, .long)) (hin : vp_in i N) (hd : decode cc pc = .ok (.laload, 1)) (kk : gW X k n ws nL lv (.long (f i.toNatClampNeg) :: st) (pc + 1)) : gW X k n ws nL lv (.int i :: .ref a :: st) pc := by
  obtain ⟨p, l, e, R, s, m, args, below, meth, c, A, D, Q⟩ := X
  obtain ⟨hx, hb, hml, ho, ht, hK, hA, hR, hlk⟩ := C
  intro H locs ls hP hD hS hl
  exact va_lald hx hb hK hP q0 t0 ha hty hin hd (kk H locs ls hP hD hS hl)
theorem g_iast (C : gC X tys cc nL own Ts rm) (q0 t0 : Nat) {a : Nat} {cA : ClassId} {N : Nat} {f : Nat → Int32} {i : Int32} {x : Int32} (ha : ws[q0]? = some (a, .inl (cA, N, .inl f))) (hty : tys[t0]? = some (cA, .int)) (hin : vp_in i N) {ws2 : va_W} (hw : ws.set q0 (a, .inl (cA, N, .inl (upd f i.toNatClampNeg x))) = ws2) (hd : decode cc pc = .ok (.iastore, 1)) (kk : gW X k n ws2 nL lv st (pc + 1)) : gW X k n ws nL lv (.int x :: .int i :: .ref a :: st) pc := by
  obtain ⟨p, l, e, R, s, m, args, below, meth, c, A, D, Q⟩ := X
  obtain ⟨hx, hb, hml, ho, ht, hK, hA, hR, hlk⟩ := C
  intro H locs ls hP hD hS hl
  subst hw
  exact va_iast hx hb hK hP hD hS q0 t0 ha hty hin hd (fun H1 locs1 hP hD hS => kk H1 locs1 ls hP hD hS hl)
theorem g_zast (C : gC X tys cc nL own Ts rm) (q0 t0 : Nat) {a : Nat} {cA : ClassId} {N : Nat} {f : Nat → Int32} {i : Int32} {x : Int32} (ha : ws[q0]? = some (a, .inl (cA, N, .inl f))) (hty : tys[t0]? = some (cA, .boolean)) (hin : vp_in i N) {ws2 : va_W} (hw : ws.set q0 (a, .inl (cA, N, .inl (upd f i.toNatClampNeg (vp_nar .boolean x)))) = ws2) (hd : decode cc pc = .ok (.bastore, 1)) (kk : gW X k n ws2 nL lv st (pc + 1)) : gW X k n ws nL lv (.int x :: .int i :: .ref a :: st) pc := by
  obtain ⟨p, l, e, R, s, m, args, below, meth, c, A, D, Q⟩ := X
  obtain ⟨hx, hb, hml, ho, ht, hK, hA, hR, hlk⟩ := C
  intro H locs ls hP hD hS hl
  subst hw
  exact va_zast hx hb hK hP hD hS q0 t0 ha hty hin hd (fun H1 locs1 hP hD hS => kk H1 locs1 ls hP hD hS hl)
theorem g_last (C : gC X tys cc nL own Ts rm) (q0 t0 : Nat) {a : Nat} {cA : ClassId} {N : Nat} {f : Nat → Int64} {i : Int32} {x : Int64} (ha : ws[q0]? = some (a, .inl (cA, N, .inr (.inl f)))) (hty : tys[t0]? = some (cA, .long)) (hin : vp_in i N) {ws2 : va_W} (hw : ws.set q0 (a, .inl (cA, N, .inr (.inl (vp_updL f i.toNatClampNeg x)))) = ws2) (hd : decode cc pc = .ok (.lastore, 1)) (kk : gW X k n ws2 nL lv st (pc + 1)) : gW X k n ws nL lv (.long x :: .int i :: .ref a :: st) pc := by
  obtain ⟨p, l, e, R, s, m, args, below, meth, c, A, D, Q⟩ := X
  obtain ⟨hx, hb, hml, ho, ht, hK, hA, hR, hlk⟩ := C
  intro H locs ls hP hD hS hl
  subst hw
  exact va_last hx hb hK hP hD hS q0 t0 ha hty hin hd (fun H1 locs1 hP hD hS => kk H1 locs1 ls hP hD hS hl)
theorem g_alen (C : gC X tys cc nL own Ts rm) (q0 t0 : Nat) {a : Nat} {cA : ClassId} {x : vp_A} {ty : FieldType} {v : Int32} (ha : ws[q0]? = some (a, .inl (cA, x))) (hty : tys[t0]? = some (cA, ty)) (hv : Int32.ofNat x.1 = v) (hd : decode cc pc = .ok (.arraylength, 1)) (kk : gW X k n ws nL lv (.int v :: st) (pc + 1)) : gW X k n ws nL lv (.ref a :: st) pc := by
  obtain ⟨p, l, e, R, s, m, args, below, meth, c, A, D, Q⟩ := X
  obtain ⟨hx, hb, hml, ho, ht, hK, hA, hR, hlk⟩ := C
  intro H locs ls hP hD hS hl
  exact va_alen hx hb hK hP q0 t0 ha hty hv hd (kk H locs ls hP hD hS hl)
theorem g_mmin (C : gC X tys cc nL own Ts rm) {x y : Int32} {index : Nat} (h1 : Cond.methodLink own index Lib.Math.min.name ∈ Ts) (h2 : Cond.static Lib.Math.min.name ∈ Ts) (h3 : Cond.initialized "java/lang/Math" ∈ Ts) (h4 : Cond.code Lib.Math.min.name Lib.Math.min.code 2 (some .int) ∈ Ts) (hf : 1 ≤ rm.frames) (hlo : (st.map fun v => v.category).sum + 13 ≤ rm.locals) (hc : k ≤ rm.cells) (hs : n ≤ rm.slots) (hd : decode cc pc = .ok (.invokestatic index, 3)) (kk : gW X k n ws nL lv (.int (if y < x then y else x) :: st) (pc + 3)) : gW X k n ws nL lv (.int y :: .int x :: st) pc := by
  obtain ⟨p, l, e, R, s, m, args, below, meth, c, A, D, Q⟩ := X
  obtain ⟨hx, hb, hml, ho, ht, hK, hA, hR, hlk⟩ := C
  intro H locs ls hP hD hS hl
  subst hR
  exact va_mmin hx hb (hml.trans hl.1.symm) ho (ht _ h1) (ht _ h2) (ht _ h3) (ht _ h4) hf (hlo) hc hs hd (kk H locs ls hP hD hS hl)
theorem g_mmax (C : gC X tys cc nL own Ts rm) {x y : Int32} {index : Nat} (h1 : Cond.methodLink own index Lib.Math.max.name ∈ Ts) (h2 : Cond.static Lib.Math.max.name ∈ Ts) (h3 : Cond.initialized "java/lang/Math" ∈ Ts) (h4 : Cond.code Lib.Math.max.name Lib.Math.max.code 2 (some .int) ∈ Ts) (hf : 1 ≤ rm.frames) (hlo : (st.map fun v => v.category).sum + 13 ≤ rm.locals) (hc : k ≤ rm.cells) (hs : n ≤ rm.slots) (hd : decode cc pc = .ok (.invokestatic index, 3)) (kk : gW X k n ws nL lv (.int (if x < y then y else x) :: st) (pc + 3)) : gW X k n ws nL lv (.int y :: .int x :: st) pc := by
  obtain ⟨p, l, e, R, s, m, args, below, meth, c, A, D, Q⟩ := X
  obtain ⟨hx, hb, hml, ho, ht, hK, hA, hR, hlk⟩ := C
  intro H locs ls hP hD hS hl
  subst hR
  exact va_mmax hx hb (hml.trans hl.1.symm) ho (ht _ h1) (ht _ h2) (ht _ h3) (ht _ h4) hf (hlo) hc hs hd (kk H locs ls hP hD hS hl)
theorem g_mabs (C : gC X tys cc nL own Ts rm) {x : Int32} {index : Nat} (h1 : Cond.methodLink own index Lib.Math.abs.name ∈ Ts) (h2 : Cond.static Lib.Math.abs.name ∈ Ts) (h3 : Cond.initialized "java/lang/Math" ∈ Ts) (h4 : Cond.code Lib.Math.abs.name Lib.Math.abs.code 1 (some .int) ∈ Ts) (hf : 1 ≤ rm.frames) (hlo : (st.map fun v => v.category).sum + 13 ≤ rm.locals) (hc : k ≤ rm.cells) (hs : n ≤ rm.slots) (hd : decode cc pc = .ok (.invokestatic index, 3)) (kk : gW X k n ws nL lv (.int (if 0 ≤ x then x else 0 - x) :: st) (pc + 3)) : gW X k n ws nL lv (.int x :: st) pc := by
  obtain ⟨p, l, e, R, s, m, args, below, meth, c, A, D, Q⟩ := X
  obtain ⟨hx, hb, hml, ho, ht, hK, hA, hR, hlk⟩ := C
  intro H locs ls hP hD hS hl
  subst hR
  exact va_mabs hx hb (hml.trans hl.1.symm) ho (ht _ h1) (ht _ h2) (ht _ h3) (ht _ h4) hf (by omega) hc hs hd (kk H locs ls hP hD hS hl)
theorem g_topi {x : Int32} (kk : ∀ y : Int32, y = x → gW X k n ws nL lv (.int y :: st) pc) : gW X k n ws nL lv (.int x :: st) pc := kk x rfl
theorem g_topl {x : Int64} (kk : ∀ y : Int64, y = x → gW X k n ws nL lv (.long y :: st) pc) : gW X k n ws nL lv (.long x :: st) pc := kk x rfl
theorem g_leaf {P : Prop} (h : P) : P := h
theorem g_tsw (C : gC X tys cc nL own Ts rm) {dflt hi : Int} {offs : Array Int} {len : Nat} {x : Int32} {tgd : Nat} (hd : decode cc pc = .ok (.tableswitch dflt 0 hi offs, len)) (h0 : (pc : Int) + dflt = (tgd : Int)) (kin : ∀ j : Nat, (j : Int) ≤ hi → x = nI j → ∃ (off : Int) (tgt : Nat), offs[j]? = some off ∧ (pc : Int) + off = (tgt : Int) ∧ gW X k n ws nL lv st tgt) (kout : (x.toInt < 0 ∨ hi < x.toInt) → gW X k n ws nL lv st tgd) : gW X k n ws nL lv (.int x :: st) pc := by
  obtain ⟨p, l, e, R, s, m, args, below, meth, c, A, D, Q⟩ := X
  obtain ⟨hx, hb, hml, ho, ht, hK, hA, hR, hlk⟩ := C
  intro H locs ls hP hD hS hl
  by_cases h1 : x.toInt < 0 ∨ hi < x.toInt
  · exact lv_tableOut hx hb hd h1 h0 (kout h1 H locs ls hP hD hS hl)
  · obtain ⟨off, tgt, h2, h3, h4⟩ := kin x.toInt.toNat (by omega) (by
      rw [← Int32.toInt_inj, nI_toInt (by have := Int32.toInt_lt x; omega)]; omega)
    exact lv_tableIn hx hb hd (by omega) (by omega) (by rw [Int.sub_zero]; exact h2) h3 (h4 H locs ls hP hD hS hl)
theorem g_lv {lv2 : List (Nat × Value)} (ks : List Nat) (hk : lv_pick lv ks = lv2) (kk : gW X k n ws nL lv2 st pc) : gW X k n ws nL lv st pc := by
  obtain ⟨p, l, e, R, s, m, args, below, meth, c, A, D, Q⟩ := X
  intro H locs ls hP hD hS hl
  exact kk H locs ls hP hD hS (lv_sub hl ks hk)
theorem g_ws {ws2 : va_W} (ks : List Nat) (hn : va_nd ks = true) (hk : ks.map (fun i => ws[i]?) = ws2.map some) (kk : gW X k n ws2 nL lv st pc) : gW X k n ws nL lv st pc := by
  obtain ⟨p, l, e, R, s, m, args, below, meth, c, A, D, Q⟩ := X
  intro H locs ls hP hD hS hl
  refine kk H locs ls (hP.sub ks ?_) (hD.sub ks hn hk) hS hl
  have h1 : ks.filterMap (fun i => ws[i]?) = (ks.map (fun i => ws[i]?)).filterMap id := by rw [List.filterMap_map]; rfl
  rw [h1, hk, List.filterMap_map]
  exact List.filterMap_some
theorem g_iret (C : gC X tys cc nL own Ts rm) {S : Type} {post : Int32 → S → Prop} {w1 : S → va_W} (E : gEi X (some .int) tys k n post w1) {v : Int32} (u : S) (hp : post v u) (hw : w1 u = ws) (hd : decode cc pc = .ok (.ireturn, 1)) : gW X k n ws nL lv [.int v] pc := by
  obtain ⟨p, l, e, R, s, m, args, below, meth, c, A, D, Q⟩ := X
  obtain ⟨hx, hb, hml, ho, ht, hK, hA, hR, hlk⟩ := C
  intro H locs ls hP hD hS hl
  obtain ⟨hr, hq⟩ := E
  subst hq; subst hw
  exact W.iret hx hb hr (fun t htt hW => ⟨⟨v, u, rfl, hp, by rw [htt]; exact hP, va_K.moved hW.alike hK, hD⟩, hS.F htt⟩) hS.2.2 hd
theorem g_lret (C : gC X tys cc nL own Ts rm) {S : Type} {post : Int64 → S → Prop} {w1 : S → va_W} (E : gEl X (some .long) tys k n post w1) {v : Int64} (u : S) (hp : post v u) (hw : w1 u = ws) (hd : decode cc pc = .ok (.lreturn, 1)) : gW X k n ws nL lv [.long v] pc := by
  obtain ⟨p, l, e, R, s, m, args, below, meth, c, A, D, Q⟩ := X
  obtain ⟨hx, hb, hml, ho, ht, hK, hA, hR, hlk⟩ := C
  intro H locs ls hP hD hS hl
  obtain ⟨hr, hq⟩ := E
  subst hq; subst hw
  exact W.lret hx hb hr (fun t htt hW => ⟨⟨v, u, rfl, hp, by rw [htt]; exact hP, va_K.moved hW.alike hK, hD⟩, hS.F htt⟩) hS.2.2 hd
theorem g_zret (C : gC X tys cc nL own Ts rm) {S : Type} {post : Int32 → S → Prop} {w1 : S → va_W} (E : gEi X (some .boolean) tys k n post w1) {v : Int32} (hn : narrow .boolean (.int v) = .int v) (u : S) (hp : post v u) (hw : w1 u = ws) (hd : decode cc pc = .ok (.ireturn, 1)) : gW X k n ws nL lv [.int v] pc := by
  obtain ⟨p, l, e, R, s, m, args, below, meth, c, A, D, Q⟩ := X
  obtain ⟨hx, hb, hml, ho, ht, hK, hA, hR, hlk⟩ := C
  intro H locs ls hP hD hS hl
  obtain ⟨hr, hq⟩ := E
  subst hq; subst hw
  exact W.zret hx hb hr hn (fun t htt hW => ⟨⟨v, u, rfl, hp, by rw [htt]; exact hP, va_K.moved hW.alike hK, hD⟩, hS.F htt⟩) hS.2.2 hd
theorem g_vret (C : gC X tys cc nL own Ts rm) {S : Type} {post : S → Prop} {w1 : S → va_W} (E : gEv X none tys k n post w1) (u : S) (hp : post u) (hw : w1 u = ws) (hd : decode cc pc = .ok (.return_, 1)) : gW X k n ws nL lv [] pc := by
  obtain ⟨p, l, e, R, s, m, args, below, meth, c, A, D, Q⟩ := X
  obtain ⟨hx, hb, hml, ho, ht, hK, hA, hR, hlk⟩ := C
  intro H locs ls hP hD hS hl
  obtain ⟨hr, hq⟩ := E
  subst hq; subst hw
  exact W.vret hx hb hr (fun t htt hW => ⟨⟨u, rfl, hp, by rw [htt]; exact hP, va_K.moved hW.alike hK, hD⟩, hS.F htt⟩) hS.2.2 hd
theorem g_callVi (C : gC X tys cc nL own Ts rm) {S : Type} {y : MethodName} {wsy : List Cond} {rmy : Room} {b : Nat} {As rest : List Value} {wc wr : va_W} {post : Int32 → S → Prop} {w1 : S → va_W} {mc ms : Nat} (hM : ∀ (l : Launch) (D : va_G), gMi l y wsy rmy D tys mc ms (.ref b :: As) wc post w1) {index : Nat} {bytes : ByteArray} {maxL : Nat} {ret : Option FieldType} {wst : List Cond} {Cn : String} (hG : GoodIn Ts (wsV own index Cn y wsy)) (hw : wsy = Cond.code y bytes maxL ret :: wst) (hde : y.cls = Cn ∧ y.cls ≠ "java/lang/invoke/MethodHandle" ∧ y.cls ≠ "java/lang/invoke/VarHandle" ∧ (parseMethodDescriptor y.desc).map (fun d => d.parameters.length) = some As.length) (hrm : rmy.cells = mc ∧ rmy.slots = ms) (hRo : rmy.frames + 1 ≤ rm.frames ∧ 8 + (maxL + 11) + rmy.locals ≤ rm.locals) (hcs : k + mc ≤ rm.cells ∧ n + ms ≤ rm.slots) (isC isR isP : List Nat) (hC : isC.map (fun i => ws[i]?) = wc.map some) (hRr : isR.map (fun i => ws[i]?) = wr.map some) (hnC : va_nd isC = true) (hnR : va_nd isR = true) (hdis : ∀ i ∈ isR, i ∉ isC) (hnP : va_nd isP = true) {ws2 : S → va_W} (hX : ∀ u, isP.map (fun i => (wr ++ w1 u)[i]?) = (ws2 u).map some) (ci qr : Nat) {fs : List Value} {q : vw_C} (hr1 : vwCl[ci]? = some q) (hq : q.1 = Cn) (hr2 : wc[qr]? = some (b, .inr (ci, fs))) (hst : st = As.reverse ++ .ref b :: rest) (hro : (rest.map fun v => v.category).sum ≤ 8) (hd : decode cc pc = .ok (.invokevirtual index, 3))  (kk : ∀ (r : Int32) (u : S), post r u → gW X (k + mc) (n + ms) (ws2 u) nL lv (.int r :: rest) (pc + 3)) : gW X k n ws nL lv (st) pc := by
  obtain ⟨p, l, e, R, s, m, args, below, meth, c, A, D, Q⟩ := X
  obtain ⟨hx, hb, hml, ho, ht, hK, hA, hR, hlk⟩ := C
  intro H locs ls hP hD hS hl
  subst hst; subst hR
  have hFm : ∀ {w2 : va_W} (ks : List Nat), ks.map (fun i => ws[i]?) = w2.map some → ks.filterMap (fun i => ws[i]?) = w2 := by
    intro w2 ks hk
    have h1 : ks.filterMap (fun i => ws[i]?) = (ks.map (fun i => ws[i]?)).filterMap id := by rw [List.filterMap_map]; rfl
    rw [h1, hk, List.filterMap_map]
    exact List.filterMap_some
  have hPc := hP.sub isC (hFm isC hC)
  have hDc := hD.sub isC hnC hC
  have hFc := va_free (wc := wc) hD hS hA isC hC
  refine va_calli (va_runV (As := As) (rest := rest) (cc := cc) (nL := nL) (Ts := Ts) ⟨hx, hb, hml, ho, ht⟩ (hM l D H.size) (cwV As.length ht hG hw hrm.1 hrm.2 hde hRo) ⟨fun a U g mk q => ?_, by obtain ⟨cl0, g1, g2, g3⟩ := va_recv hK hPc hr1 hr2; exact ⟨cl0, g1, g2, by rw [← hq]; exact g3⟩, fun U hU hW => ⟨rfl, by rw [hU], by rw [hU]; exact hPc, va_K.moved hW.alike hK, hDc.weaken (fun _ _ _ _ => trivial)⟩⟩ rfl rfl hl.1 rfl (show 2 * 0 + (rest.map fun v => v.category).sum ≤ 8 by omega) hd hcs) hS (fun q _ h => hFc q h) hFc (fun r u t H1 locs1 htt hvm hw1 hB hz1 hk1 hS1 => ?_)
  · obtain ⟨q0, q1, qP, qK, qD⟩ := q
    exact ⟨q0, q1, qP, va_K.moved (u := U) (U := U.calling g mk a) (Vm.Alike.refl U.vm) qK, qD⟩
  · obtain ⟨hP1, hK1, hD1⟩ := hB
    rw [htt] at hP1
    obtain ⟨hP2, hD2⟩ := va_join (wr := wr) (w1 := w1 u) hP hD isC isR hC hRr hnR hdis hk1 hFc hP1 hD1
    have hX2 := hX u
    have hP3 : va_P D vwCl (ws2 u) H1 := hP2.sub isP (by
      have h1 : isP.filterMap (fun i => (wr ++ w1 u)[i]?) = (isP.map (fun i => (wr ++ w1 u)[i]?)).filterMap id := by rw [List.filterMap_map]; rfl
      rw [h1, hX2, List.filterMap_map]
      exact List.filterMap_some)
    exact kk r u hw1 H1 locs1 ls hP3 (hD2.sub isP hnP hX2) hS1 hl
theorem g_callSi (C : gC X tys cc nL own Ts rm) {S : Type} {y : MethodName} {wsy : List Cond} {rmy : Room} {b : Nat} {As rest : List Value} {wc wr : va_W} {post : Int32 → S → Prop} {w1 : S → va_W} {mc ms : Nat} (hM : ∀ (l : Launch) (D : va_G), gMi l y wsy rmy D tys mc ms As wc post w1) {index : Nat} {bytes : ByteArray} {maxL : Nat} {ret : Option FieldType} {wst : List Cond} (hG : GoodIn Ts (va_wsS own index y wsy)) (hw : wsy = Cond.code y bytes maxL ret :: wst) (hde : y.cls ≠ "java/lang/invoke/MethodHandle" ∧ y.cls ≠ "java/lang/invoke/VarHandle" ∧ (parseMethodDescriptor y.desc).map (fun d => d.parameters.length) = some As.length) (hrm : rmy.cells = mc ∧ rmy.slots = ms) (hRo : rmy.frames + 1 ≤ rm.frames ∧ 8 + (maxL + 11) + rmy.locals ≤ rm.locals) (hcs : k + mc ≤ rm.cells ∧ n + ms ≤ rm.slots) (isC isR isP : List Nat) (hC : isC.map (fun i => ws[i]?) = wc.map some) (hRr : isR.map (fun i => ws[i]?) = wr.map some) (hnC : va_nd isC = true) (hnR : va_nd isR = true) (hdis : ∀ i ∈ isR, i ∉ isC) (hnP : va_nd isP = true) {ws2 : S → va_W} (hX : ∀ u, isP.map (fun i => (wr ++ w1 u)[i]?) = (ws2 u).map some) (hst : st = As.reverse ++ rest) (hro : (rest.map fun v => v.category).sum ≤ 8) (hd : decode cc pc = .ok (.invokestatic index, 3))  (kk : ∀ (r : Int32) (u : S), post r u → gW X (k + mc) (n + ms) (ws2 u) nL lv (.int r :: rest) (pc + 3)) : gW X k n ws nL lv (st) pc := by
  obtain ⟨p, l, e, R, s, m, args, below, meth, c, A, D, Q⟩ := X
  obtain ⟨hx, hb, hml, ho, ht, hK, hA, hR, hlk⟩ := C
  intro H locs ls hP hD hS hl
  subst hst; subst hR
  have hFm : ∀ {w2 : va_W} (ks : List Nat), ks.map (fun i => ws[i]?) = w2.map some → ks.filterMap (fun i => ws[i]?) = w2 := by
    intro w2 ks hk
    have h1 : ks.filterMap (fun i => ws[i]?) = (ks.map (fun i => ws[i]?)).filterMap id := by rw [List.filterMap_map]; rfl
    rw [h1, hk, List.filterMap_map]
    exact List.filterMap_some
  have hPc := hP.sub isC (hFm isC hC)
  have hDc := hD.sub isC hnC hC
  have hFc := va_free (wc := wc) hD hS hA isC hC
  refine va_calli (va_runS (As := As) (rest := rest) (cc := cc) (nL := nL) (Ts := Ts) ⟨hx, hb, hml, ho, ht⟩ (hM l D H.size) (va_cwS As.length ht hG hw hrm.1 hrm.2 hde hRo) ⟨fun a U g mk q => ?_, fun U hU hW => ⟨rfl, by rw [hU], by rw [hU]; exact hPc, va_K.moved hW.alike hK, hDc.weaken (fun _ _ _ _ => trivial)⟩⟩ rfl rfl hl.1 rfl (show 2 * 0 + (rest.map fun v => v.category).sum ≤ 8 by omega) hd hcs) hS (fun q _ h => hFc q h) hFc (fun r u t H1 locs1 htt hvm hw1 hB hz1 hk1 hS1 => ?_)
  · obtain ⟨q0, q1, qP, qK, qD⟩ := q
    exact ⟨q0, q1, qP, va_K.moved (u := U) (U := U.calling g mk a) (Vm.Alike.refl U.vm) qK, qD⟩
  · obtain ⟨hP1, hK1, hD1⟩ := hB
    rw [htt] at hP1
    obtain ⟨hP2, hD2⟩ := va_join (wr := wr) (w1 := w1 u) hP hD isC isR hC hRr hnR hdis hk1 hFc hP1 hD1
    have hX2 := hX u
    have hP3 : va_P D vwCl (ws2 u) H1 := hP2.sub isP (by
      have h1 : isP.filterMap (fun i => (wr ++ w1 u)[i]?) = (isP.map (fun i => (wr ++ w1 u)[i]?)).filterMap id := by rw [List.filterMap_map]; rfl
      rw [h1, hX2, List.filterMap_map]
      exact List.filterMap_some)
    exact kk r u hw1 H1 locs1 ls hP3 (hD2.sub isP hnP hX2) hS1 hl
theorem g_callVl (C : gC X tys cc nL own Ts rm) {S : Type} {y : MethodName} {wsy : List Cond} {rmy : Room} {b : Nat} {As rest : List Value} {wc wr : va_W} {post : Int64 → S → Prop} {w1 : S → va_W} {mc ms : Nat} (hM : ∀ (l : Launch) (D : va_G), gMl l y wsy rmy D tys mc ms (.ref b :: As) wc post w1) {index : Nat} {bytes : ByteArray} {maxL : Nat} {ret : Option FieldType} {wst : List Cond} {Cn : String} (hG : GoodIn Ts (wsV own index Cn y wsy)) (hw : wsy = Cond.code y bytes maxL ret :: wst) (hde : y.cls = Cn ∧ y.cls ≠ "java/lang/invoke/MethodHandle" ∧ y.cls ≠ "java/lang/invoke/VarHandle" ∧ (parseMethodDescriptor y.desc).map (fun d => d.parameters.length) = some As.length) (hrm : rmy.cells = mc ∧ rmy.slots = ms) (hRo : rmy.frames + 1 ≤ rm.frames ∧ 8 + (maxL + 11) + rmy.locals ≤ rm.locals) (hcs : k + mc ≤ rm.cells ∧ n + ms ≤ rm.slots) (isC isR isP : List Nat) (hC : isC.map (fun i => ws[i]?) = wc.map some) (hRr : isR.map (fun i => ws[i]?) = wr.map some) (hnC : va_nd isC = true) (hnR : va_nd isR = true) (hdis : ∀ i ∈ isR, i ∉ isC) (hnP : va_nd isP = true) {ws2 : S → va_W} (hX : ∀ u, isP.map (fun i => (wr ++ w1 u)[i]?) = (ws2 u).map some) (ci qr : Nat) {fs : List Value} {q : vw_C} (hr1 : vwCl[ci]? = some q) (hq : q.1 = Cn) (hr2 : wc[qr]? = some (b, .inr (ci, fs))) (hst : st = As.reverse ++ .ref b :: rest) (hro : (rest.map fun v => v.category).sum ≤ 8) (hd : decode cc pc = .ok (.invokevirtual index, 3))  (kk : ∀ (r : Int64) (u : S), post r u → gW X (k + mc) (n + ms) (ws2 u) nL lv (.long r :: rest) (pc + 3)) : gW X k n ws nL lv (st) pc := by
  obtain ⟨p, l, e, R, s, m, args, below, meth, c, A, D, Q⟩ := X
  obtain ⟨hx, hb, hml, ho, ht, hK, hA, hR, hlk⟩ := C
  intro H locs ls hP hD hS hl
  subst hst; subst hR
  have hFm : ∀ {w2 : va_W} (ks : List Nat), ks.map (fun i => ws[i]?) = w2.map some → ks.filterMap (fun i => ws[i]?) = w2 := by
    intro w2 ks hk
    have h1 : ks.filterMap (fun i => ws[i]?) = (ks.map (fun i => ws[i]?)).filterMap id := by rw [List.filterMap_map]; rfl
    rw [h1, hk, List.filterMap_map]
    exact List.filterMap_some
  have hPc := hP.sub isC (hFm isC hC)
  have hDc := hD.sub isC hnC hC
  have hFc := va_free (wc := wc) hD hS hA isC hC
  refine va_calll (va_runV (As := As) (rest := rest) (cc := cc) (nL := nL) (Ts := Ts) ⟨hx, hb, hml, ho, ht⟩ (hM l D H.size) (cwV As.length ht hG hw hrm.1 hrm.2 hde hRo) ⟨fun a U g mk q => ?_, by obtain ⟨cl0, g1, g2, g3⟩ := va_recv hK hPc hr1 hr2; exact ⟨cl0, g1, g2, by rw [← hq]; exact g3⟩, fun U hU hW => ⟨rfl, by rw [hU], by rw [hU]; exact hPc, va_K.moved hW.alike hK, hDc.weaken (fun _ _ _ _ => trivial)⟩⟩ rfl rfl hl.1 rfl (show 2 * 0 + (rest.map fun v => v.category).sum ≤ 8 by omega) hd hcs) hS (fun q _ h => hFc q h) hFc (fun r u t H1 locs1 htt hvm hw1 hB hz1 hk1 hS1 => ?_)
  · obtain ⟨q0, q1, qP, qK, qD⟩ := q
    exact ⟨q0, q1, qP, va_K.moved (u := U) (U := U.calling g mk a) (Vm.Alike.refl U.vm) qK, qD⟩
  · obtain ⟨hP1, hK1, hD1⟩ := hB
    rw [htt] at hP1
    obtain ⟨hP2, hD2⟩ := va_join (wr := wr) (w1 := w1 u) hP hD isC isR hC hRr hnR hdis hk1 hFc hP1 hD1
    have hX2 := hX u
    have hP3 : va_P D vwCl (ws2 u) H1 := hP2.sub isP (by
      have h1 : isP.filterMap (fun i => (wr ++ w1 u)[i]?) = (isP.map (fun i => (wr ++ w1 u)[i]?)).filterMap id := by rw [List.filterMap_map]; rfl
      rw [h1, hX2, List.filterMap_map]
      exact List.filterMap_some)
    exact kk r u hw1 H1 locs1 ls hP3 (hD2.sub isP hnP hX2) hS1 hl
theorem g_callSl (C : gC X tys cc nL own Ts rm) {S : Type} {y : MethodName} {wsy : List Cond} {rmy : Room} {b : Nat} {As rest : List Value} {wc wr : va_W} {post : Int64 → S → Prop} {w1 : S → va_W} {mc ms : Nat} (hM : ∀ (l : Launch) (D : va_G), gMl l y wsy rmy D tys mc ms As wc post w1) {index : Nat} {bytes : ByteArray} {maxL : Nat} {ret : Option FieldType} {wst : List Cond} (hG : GoodIn Ts (va_wsS own index y wsy)) (hw : wsy = Cond.code y bytes maxL ret :: wst) (hde : y.cls ≠ "java/lang/invoke/MethodHandle" ∧ y.cls ≠ "java/lang/invoke/VarHandle" ∧ (parseMethodDescriptor y.desc).map (fun d => d.parameters.length) = some As.length) (hrm : rmy.cells = mc ∧ rmy.slots = ms) (hRo : rmy.frames + 1 ≤ rm.frames ∧ 8 + (maxL + 11) + rmy.locals ≤ rm.locals) (hcs : k + mc ≤ rm.cells ∧ n + ms ≤ rm.slots) (isC isR isP : List Nat) (hC : isC.map (fun i => ws[i]?) = wc.map some) (hRr : isR.map (fun i => ws[i]?) = wr.map some) (hnC : va_nd isC = true) (hnR : va_nd isR = true) (hdis : ∀ i ∈ isR, i ∉ isC) (hnP : va_nd isP = true) {ws2 : S → va_W} (hX : ∀ u, isP.map (fun i => (wr ++ w1 u)[i]?) = (ws2 u).map some) (hst : st = As.reverse ++ rest) (hro : (rest.map fun v => v.category).sum ≤ 8) (hd : decode cc pc = .ok (.invokestatic index, 3))  (kk : ∀ (r : Int64) (u : S), post r u → gW X (k + mc) (n + ms) (ws2 u) nL lv (.long r :: rest) (pc + 3)) : gW X k n ws nL lv (st) pc := by
  obtain ⟨p, l, e, R, s, m, args, below, meth, c, A, D, Q⟩ := X
  obtain ⟨hx, hb, hml, ho, ht, hK, hA, hR, hlk⟩ := C
  intro H locs ls hP hD hS hl
  subst hst; subst hR
  have hFm : ∀ {w2 : va_W} (ks : List Nat), ks.map (fun i => ws[i]?) = w2.map some → ks.filterMap (fun i => ws[i]?) = w2 := by
    intro w2 ks hk
    have h1 : ks.filterMap (fun i => ws[i]?) = (ks.map (fun i => ws[i]?)).filterMap id := by rw [List.filterMap_map]; rfl
    rw [h1, hk, List.filterMap_map]
    exact List.filterMap_some
  have hPc := hP.sub isC (hFm isC hC)
  have hDc := hD.sub isC hnC hC
  have hFc := va_free (wc := wc) hD hS hA isC hC
  refine va_calll (va_runS (As := As) (rest := rest) (cc := cc) (nL := nL) (Ts := Ts) ⟨hx, hb, hml, ho, ht⟩ (hM l D H.size) (va_cwS As.length ht hG hw hrm.1 hrm.2 hde hRo) ⟨fun a U g mk q => ?_, fun U hU hW => ⟨rfl, by rw [hU], by rw [hU]; exact hPc, va_K.moved hW.alike hK, hDc.weaken (fun _ _ _ _ => trivial)⟩⟩ rfl rfl hl.1 rfl (show 2 * 0 + (rest.map fun v => v.category).sum ≤ 8 by omega) hd hcs) hS (fun q _ h => hFc q h) hFc (fun r u t H1 locs1 htt hvm hw1 hB hz1 hk1 hS1 => ?_)
  · obtain ⟨q0, q1, qP, qK, qD⟩ := q
    exact ⟨q0, q1, qP, va_K.moved (u := U) (U := U.calling g mk a) (Vm.Alike.refl U.vm) qK, qD⟩
  · obtain ⟨hP1, hK1, hD1⟩ := hB
    rw [htt] at hP1
    obtain ⟨hP2, hD2⟩ := va_join (wr := wr) (w1 := w1 u) hP hD isC isR hC hRr hnR hdis hk1 hFc hP1 hD1
    have hX2 := hX u
    have hP3 : va_P D vwCl (ws2 u) H1 := hP2.sub isP (by
      have h1 : isP.filterMap (fun i => (wr ++ w1 u)[i]?) = (isP.map (fun i => (wr ++ w1 u)[i]?)).filterMap id := by rw [List.filterMap_map]; rfl
      rw [h1, hX2, List.filterMap_map]
      exact List.filterMap_some)
    exact kk r u hw1 H1 locs1 ls hP3 (hD2.sub isP hnP hX2) hS1 hl
theorem g_callVv (C : gC X tys cc nL own Ts rm) {S : Type} {y : MethodName} {wsy : List Cond} {rmy : Room} {b : Nat} {As rest : List Value} {wc wr : va_W} {post : S → Prop} {w1 : S → va_W} {mc ms : Nat} (hM : ∀ (l : Launch) (D : va_G), gMv l y wsy rmy D tys mc ms (.ref b :: As) wc post w1) {index : Nat} {bytes : ByteArray} {maxL : Nat} {ret : Option FieldType} {wst : List Cond} {Cn : String} (hG : GoodIn Ts (wsV own index Cn y wsy)) (hw : wsy = Cond.code y bytes maxL ret :: wst) (hde : y.cls = Cn ∧ y.cls ≠ "java/lang/invoke/MethodHandle" ∧ y.cls ≠ "java/lang/invoke/VarHandle" ∧ (parseMethodDescriptor y.desc).map (fun d => d.parameters.length) = some As.length) (hrm : rmy.cells = mc ∧ rmy.slots = ms) (hRo : rmy.frames + 1 ≤ rm.frames ∧ 8 + (maxL + 11) + rmy.locals ≤ rm.locals) (hcs : k + mc ≤ rm.cells ∧ n + ms ≤ rm.slots) (isC isR isP : List Nat) (hC : isC.map (fun i => ws[i]?) = wc.map some) (hRr : isR.map (fun i => ws[i]?) = wr.map some) (hnC : va_nd isC = true) (hnR : va_nd isR = true) (hdis : ∀ i ∈ isR, i ∉ isC) (hnP : va_nd isP = true) {ws2 : S → va_W} (hX : ∀ u, isP.map (fun i => (wr ++ w1 u)[i]?) = (ws2 u).map some) (ci qr : Nat) {fs : List Value} {q : vw_C} (hr1 : vwCl[ci]? = some q) (hq : q.1 = Cn) (hr2 : wc[qr]? = some (b, .inr (ci, fs))) (hst : st = As.reverse ++ .ref b :: rest) (hro : (rest.map fun v => v.category).sum ≤ 8) (hd : decode cc pc = .ok (.invokevirtual index, 3))  (kk : ∀ (u : S), post u → gW X (k + mc) (n + ms) (ws2 u) nL lv rest (pc + 3)) : gW X k n ws nL lv (st) pc := by
  obtain ⟨p, l, e, R, s, m, args, below, meth, c, A, D, Q⟩ := X
  obtain ⟨hx, hb, hml, ho, ht, hK, hA, hR, hlk⟩ := C
  intro H locs ls hP hD hS hl
  subst hst; subst hR
  have hFm : ∀ {w2 : va_W} (ks : List Nat), ks.map (fun i => ws[i]?) = w2.map some → ks.filterMap (fun i => ws[i]?) = w2 := by
    intro w2 ks hk
    have h1 : ks.filterMap (fun i => ws[i]?) = (ks.map (fun i => ws[i]?)).filterMap id := by rw [List.filterMap_map]; rfl
    rw [h1, hk, List.filterMap_map]
    exact List.filterMap_some
  have hPc := hP.sub isC (hFm isC hC)
  have hDc := hD.sub isC hnC hC
  have hFc := va_free (wc := wc) hD hS hA isC hC
  refine va_callv (va_runV (As := As) (rest := rest) (cc := cc) (nL := nL) (Ts := Ts) ⟨hx, hb, hml, ho, ht⟩ (hM l D H.size) (cwV As.length ht hG hw hrm.1 hrm.2 hde hRo) ⟨fun a U g mk q => ?_, by obtain ⟨cl0, g1, g2, g3⟩ := va_recv hK hPc hr1 hr2; exact ⟨cl0, g1, g2, by rw [← hq]; exact g3⟩, fun U hU hW => ⟨rfl, by rw [hU], by rw [hU]; exact hPc, va_K.moved hW.alike hK, hDc.weaken (fun _ _ _ _ => trivial)⟩⟩ rfl rfl hl.1 rfl (show 2 * 0 + (rest.map fun v => v.category).sum ≤ 8 by omega) hd hcs) hS (fun q _ h => hFc q h) hFc (fun u t H1 locs1 htt hvm hw1 hB hz1 hk1 hS1 => ?_)
  · obtain ⟨q0, q1, qP, qK, qD⟩ := q
    exact ⟨q0, q1, qP, va_K.moved (u := U) (U := U.calling g mk a) (Vm.Alike.refl U.vm) qK, qD⟩
  · obtain ⟨hP1, hK1, hD1⟩ := hB
    rw [htt] at hP1
    obtain ⟨hP2, hD2⟩ := va_join (wr := wr) (w1 := w1 u) hP hD isC isR hC hRr hnR hdis hk1 hFc hP1 hD1
    have hX2 := hX u
    have hP3 : va_P D vwCl (ws2 u) H1 := hP2.sub isP (by
      have h1 : isP.filterMap (fun i => (wr ++ w1 u)[i]?) = (isP.map (fun i => (wr ++ w1 u)[i]?)).filterMap id := by rw [List.filterMap_map]; rfl
      rw [h1, hX2, List.filterMap_map]
      exact List.filterMap_some)
    exact kk u hw1 H1 locs1 ls hP3 (hD2.sub isP hnP hX2) hS1 hl
theorem g_callSv (C : gC X tys cc nL own Ts rm) {S : Type} {y : MethodName} {wsy : List Cond} {rmy : Room} {b : Nat} {As rest : List Value} {wc wr : va_W} {post : S → Prop} {w1 : S → va_W} {mc ms : Nat} (hM : ∀ (l : Launch) (D : va_G), gMv l y wsy rmy D tys mc ms As wc post w1) {index : Nat} {bytes : ByteArray} {maxL : Nat} {ret : Option FieldType} {wst : List Cond} (hG : GoodIn Ts (va_wsS own index y wsy)) (hw : wsy = Cond.code y bytes maxL ret :: wst) (hde : y.cls ≠ "java/lang/invoke/MethodHandle" ∧ y.cls ≠ "java/lang/invoke/VarHandle" ∧ (parseMethodDescriptor y.desc).map (fun d => d.parameters.length) = some As.length) (hrm : rmy.cells = mc ∧ rmy.slots = ms) (hRo : rmy.frames + 1 ≤ rm.frames ∧ 8 + (maxL + 11) + rmy.locals ≤ rm.locals) (hcs : k + mc ≤ rm.cells ∧ n + ms ≤ rm.slots) (isC isR isP : List Nat) (hC : isC.map (fun i => ws[i]?) = wc.map some) (hRr : isR.map (fun i => ws[i]?) = wr.map some) (hnC : va_nd isC = true) (hnR : va_nd isR = true) (hdis : ∀ i ∈ isR, i ∉ isC) (hnP : va_nd isP = true) {ws2 : S → va_W} (hX : ∀ u, isP.map (fun i => (wr ++ w1 u)[i]?) = (ws2 u).map some) (hst : st = As.reverse ++ rest) (hro : (rest.map fun v => v.category).sum ≤ 8) (hd : decode cc pc = .ok (.invokestatic index, 3))  (kk : ∀ (u : S), post u → gW X (k + mc) (n + ms) (ws2 u) nL lv rest (pc + 3)) : gW X k n ws nL lv (st) pc := by
  obtain ⟨p, l, e, R, s, m, args, below, meth, c, A, D, Q⟩ := X
  obtain ⟨hx, hb, hml, ho, ht, hK, hA, hR, hlk⟩ := C
  intro H locs ls hP hD hS hl
  subst hst; subst hR
  have hFm : ∀ {w2 : va_W} (ks : List Nat), ks.map (fun i => ws[i]?) = w2.map some → ks.filterMap (fun i => ws[i]?) = w2 := by
    intro w2 ks hk
    have h1 : ks.filterMap (fun i => ws[i]?) = (ks.map (fun i => ws[i]?)).filterMap id := by rw [List.filterMap_map]; rfl
    rw [h1, hk, List.filterMap_map]
    exact List.filterMap_some
  have hPc := hP.sub isC (hFm isC hC)
  have hDc := hD.sub isC hnC hC
  have hFc := va_free (wc := wc) hD hS hA isC hC
  refine va_callv (va_runS (As := As) (rest := rest) (cc := cc) (nL := nL) (Ts := Ts) ⟨hx, hb, hml, ho, ht⟩ (hM l D H.size) (va_cwS As.length ht hG hw hrm.1 hrm.2 hde hRo) ⟨fun a U g mk q => ?_, fun U hU hW => ⟨rfl, by rw [hU], by rw [hU]; exact hPc, va_K.moved hW.alike hK, hDc.weaken (fun _ _ _ _ => trivial)⟩⟩ rfl rfl hl.1 rfl (show 2 * 0 + (rest.map fun v => v.category).sum ≤ 8 by omega) hd hcs) hS (fun q _ h => hFc q h) hFc (fun u t H1 locs1 htt hvm hw1 hB hz1 hk1 hS1 => ?_)
  · obtain ⟨q0, q1, qP, qK, qD⟩ := q
    exact ⟨q0, q1, qP, va_K.moved (u := U) (U := U.calling g mk a) (Vm.Alike.refl U.vm) qK, qD⟩
  · obtain ⟨hP1, hK1, hD1⟩ := hB
    rw [htt] at hP1
    obtain ⟨hP2, hD2⟩ := va_join (wr := wr) (w1 := w1 u) hP hD isC isR hC hRr hnR hdis hk1 hFc hP1 hD1
    have hX2 := hX u
    have hP3 : va_P D vwCl (ws2 u) H1 := hP2.sub isP (by
      have h1 : isP.filterMap (fun i => (wr ++ w1 u)[i]?) = (isP.map (fun i => (wr ++ w1 u)[i]?)).filterMap id := by rw [List.filterMap_map]; rfl
      rw [h1, hX2, List.filterMap_map]
      exact List.filterMap_some)
    exact kk u hw1 H1 locs1 ls hP3 (hD2.sub isP hnP hX2) hS1 hl
end GW
theorem g_enteri {S : Type} {l : Launch} {y : MethodName} {wsy wst : List Cond} {rm : Room} {D : va_G} {tys : List (ClassId × FieldType)} {mc ms : Nat} {av : List Value} {wc : va_W} {post : Int32 → S → Prop} {w1 : S → va_W} {cc : ByteArray} {nL : Nat} {ret : Option FieldType} (hy : plainName y.cls = true) (hw : wsy = Cond.code y cc nL ret :: wst) (hn : (lg_sl av).length ≤ nL) {lv : List (Nat × Value)} (hlv : lv_args 0 av = lv)
    (h : ∀ X : gX, gC X tys cc nL y.cls wsy rm → gEi X ret tys mc ms post w1 → gW X 0 0 wc nL lv [] 0) : gMi l y wsy rm D tys mc ms av wc post w1 := by
  intro sz
  refine Met.ofW (cc := cc) (maxL := nL) (ret := ret) hy hw ?_
  intro p e s m args below meth c s₁ B hml hv
  obtain ⟨rfl, hsz, hP, hK, hD0⟩ := hv
  have hts := atoms_spec (ws := wsy) B.pre
  have hown : s.vm.findClass y.cls = some m.cls := findClass_of_methodNamed B.named
  subst hsz
  have hD := hD0.self (sz := s.heap.size)
  have hl := lv_entry av (n := nL) hn
  rw [hlv] at hl
  rw [lg_entry_eq]
  exact h (p, l, e, (headSpec wsy rm).room, s, m, av.toArray, below, meth, c, va_A wc s.heap.size, D, MQ below (va_Qi post (gB D tys (va_A wc s.heap.size) w1) (va_A wc s.heap.size)) av.toArray s mc ms (va_A wc s.heap.size)) ⟨B.exec, B.bytes, hml, hown, hts, hK, fun q h => Or.inr h, rfl, B.notSynchronized⟩ ⟨B.returns, rfl⟩ s.heap [] _ hP hD va_S.rf hl
theorem g_enterl {S : Type} {l : Launch} {y : MethodName} {wsy wst : List Cond} {rm : Room} {D : va_G} {tys : List (ClassId × FieldType)} {mc ms : Nat} {av : List Value} {wc : va_W} {post : Int64 → S → Prop} {w1 : S → va_W} {cc : ByteArray} {nL : Nat} {ret : Option FieldType} (hy : plainName y.cls = true) (hw : wsy = Cond.code y cc nL ret :: wst) (hn : (lg_sl av).length ≤ nL) {lv : List (Nat × Value)} (hlv : lv_args 0 av = lv)
    (h : ∀ X : gX, gC X tys cc nL y.cls wsy rm → gEl X ret tys mc ms post w1 → gW X 0 0 wc nL lv [] 0) : gMl l y wsy rm D tys mc ms av wc post w1 := by
  intro sz
  refine Met.ofW (cc := cc) (maxL := nL) (ret := ret) hy hw ?_
  intro p e s m args below meth c s₁ B hml hv
  obtain ⟨rfl, hsz, hP, hK, hD0⟩ := hv
  have hts := atoms_spec (ws := wsy) B.pre
  have hown : s.vm.findClass y.cls = some m.cls := findClass_of_methodNamed B.named
  subst hsz
  have hD := hD0.self (sz := s.heap.size)
  have hl := lv_entry av (n := nL) hn
  rw [hlv] at hl
  rw [lg_entry_eq]
  exact h (p, l, e, (headSpec wsy rm).room, s, m, av.toArray, below, meth, c, va_A wc s.heap.size, D, MQ below (va_Ql post (gB D tys (va_A wc s.heap.size) w1) (va_A wc s.heap.size)) av.toArray s mc ms (va_A wc s.heap.size)) ⟨B.exec, B.bytes, hml, hown, hts, hK, fun q h => Or.inr h, rfl, B.notSynchronized⟩ ⟨B.returns, rfl⟩ s.heap [] _ hP hD va_S.rf hl
theorem g_enterv {S : Type} {l : Launch} {y : MethodName} {wsy wst : List Cond} {rm : Room} {D : va_G} {tys : List (ClassId × FieldType)} {mc ms : Nat} {av : List Value} {wc : va_W} {post : S → Prop} {w1 : S → va_W} {cc : ByteArray} {nL : Nat} {ret : Option FieldType} (hy : plainName y.cls = true) (hw : wsy = Cond.code y cc nL ret :: wst) (hn : (lg_sl av).length ≤ nL) {lv : List (Nat × Value)} (hlv : lv_args 0 av = lv)
    (h : ∀ X : gX, gC X tys cc nL y.cls wsy rm → gEv X ret tys mc ms post w1 → gW X 0 0 wc nL lv [] 0) : gMv l y wsy rm D tys mc ms av wc post w1 := by
  intro sz
  refine Met.ofW (cc := cc) (maxL := nL) (ret := ret) hy hw ?_
  intro p e s m args below meth c s₁ B hml hv
  obtain ⟨rfl, hsz, hP, hK, hD0⟩ := hv
  have hts := atoms_spec (ws := wsy) B.pre
  have hown : s.vm.findClass y.cls = some m.cls := findClass_of_methodNamed B.named
  subst hsz
  have hD := hD0.self (sz := s.heap.size)
  have hl := lv_entry av (n := nL) hn
  rw [hlv] at hl
  rw [lg_entry_eq]
  exact h (p, l, e, (headSpec wsy rm).room, s, m, av.toArray, below, meth, c, va_A wc s.heap.size, D, MQ below (va_Qv post (gB D tys (va_A wc s.heap.size) w1) (va_A wc s.heap.size)) av.toArray s mc ms (va_A wc s.heap.size)) ⟨B.exec, B.bytes, hml, hown, hts, hK, fun q h => Or.inr h, rfl, B.notSynchronized⟩ ⟨B.returns, rfl⟩ s.heap [] _ hP hD va_S.rf hl
end
section
/-! loops that count up, sums, small numbers -/
theorem up_loop {P : Nat → Prop} (n : Nat) (hend : P n) (hstep : ∀ k, k < n → P (k + 1) → P k) (i : Nat) (hi : i ≤ n) : P i := by
  obtain ⟨d, hd⟩ : ∃ d, i + d = n := ⟨n - i, by omega⟩
  induction d generalizing i with
  | zero =>
    have e : i = n := by omega
    rw [e]; exact hend
  | succ d ih => exact hstep i (by omega) (ih (i + 1) (by omega) (by omega))
theorem g_monoi {S : Type} {l : Launch} {y : MethodName} {wsy : List Cond} {rm : Room} {D : va_G} {tys : List (ClassId × FieldType)} {mc ms : Nat} {av : List Value} {wc : va_W} {post post2 : Int32 → S → Prop} {w1 : S → va_W} (h : gMi l y wsy rm D tys mc ms av wc post w1) (hp : ∀ r u, post r u → post2 r u) : gMi l y wsy rm D tys mc ms av wc post2 w1 := by
  intro sz p e ha hc hk s m args below hf hS hP hT
  obtain ⟨n, o, h1, h2, h3, ⟨⟨r, u, e1, e2, e3⟩, e4⟩, h5⟩ := h sz p e ha hc hk s m args below hf hS hP hT
  exact ⟨n, o, h1, h2, h3, ⟨⟨r, u, e1, hp r u e2, e3⟩, e4⟩, h5⟩
theorem g_monol {S : Type} {l : Launch} {y : MethodName} {wsy : List Cond} {rm : Room} {D : va_G} {tys : List (ClassId × FieldType)} {mc ms : Nat} {av : List Value} {wc : va_W} {post post2 : Int64 → S → Prop} {w1 : S → va_W} (h : gMl l y wsy rm D tys mc ms av wc post w1) (hp : ∀ r u, post r u → post2 r u) : gMl l y wsy rm D tys mc ms av wc post2 w1 := by
  intro sz p e ha hc hk s m args below hf hS hP hT
  obtain ⟨n, o, h1, h2, h3, ⟨⟨r, u, e1, e2, e3⟩, e4⟩, h5⟩ := h sz p e ha hc hk s m args below hf hS hP hT
  exact ⟨n, o, h1, h2, h3, ⟨⟨r, u, e1, hp r u e2, e3⟩, e4⟩, h5⟩
theorem g_monov {S : Type} {l : Launch} {y : MethodName} {wsy : List Cond} {rm : Room} {D : va_G} {tys : List (ClassId × FieldType)} {mc ms : Nat} {av : List Value} {wc : va_W} {post post2 : S → Prop} {w1 : S → va_W} (h : gMv l y wsy rm D tys mc ms av wc post w1) (hp : ∀ u, post u → post2 u) : gMv l y wsy rm D tys mc ms av wc post2 w1 := by
  intro sz p e ha hc hk s m args below hf hS hP hT
  obtain ⟨n, o, h1, h2, h3, ⟨⟨u, e1, e2, e3⟩, e4⟩, h5⟩ := h sz p e ha hc hk s m args below hf hS hP hT
  exact ⟨n, o, h1, h2, h3, ⟨⟨u, e1, hp u e2, e3⟩, e4⟩, h5⟩
def iI (z : Int) : Int32 := Int32.ofInt z
def lI (z : Int) : Int64 := Int64.ofInt z
theorem iI_nI (n : Nat) : iI (n : Int) = nI n := Int32.ofInt_eq_ofNat
theorem iI_add (a b : Int) : iI a + iI b = iI (a + b) := (Int32.ofInt_add a b).symm
theorem iI_sub (a b : Int) : iI a - iI b = iI (a - b) := (Int32.ofInt_sub a b).symm
theorem iI_mul (a b : Int) : iI a * iI b = iI (a * b) := (Int32.ofInt_mul a b).symm
theorem iI_neg (a : Int) : -iI a = iI (-a) := (Int32.ofInt_neg a).symm
theorem iI_toInt (x : Int32) : iI x.toInt = x := Int32.ofInt_toInt x
theorem toInt_iI {z : Int} (h1 : -2147483648 ≤ z) (h2 : z < 2147483648) : (iI z).toInt = z := Int32.toInt_ofInt_of_le (by omega) (by omega)
theorem lI_add (a b : Int) : lI a + lI b = lI (a + b) := (Int64.ofInt_add a b).symm
theorem lI_sub (a b : Int) : lI a - lI b = lI (a - b) := (Int64.ofInt_sub a b).symm
theorem lI_mul (a b : Int) : lI a * lI b = lI (a * b) := (Int64.ofInt_mul a b).symm
theorem lI_neg (a : Int) : -lI a = lI (-a) := (Int64.ofInt_neg a).symm
theorem lI_toInt (x : Int64) : lI x.toInt = x := Int64.ofInt_toInt x
theorem toInt_lI {z : Int} (h1 : -9223372036854775808 ≤ z) (h2 : z < 9223372036854775808) : (lI z).toInt = z := Int64.toInt_ofInt_of_le (by omega) (by omega)
theorem iI_long {z : Int} (h1 : -2147483648 ≤ z) (h2 : z < 2147483648) : (iI z).toInt64 = lI z := by
  rw [← Int64.toInt_inj, Int32.toInt_toInt64, toInt_iI h1 h2, toInt_lI (by omega) (by omega)]
theorem i2l_lI (x : Int32) : x.toInt64 = lI x.toInt := by
  have h1 := Int32.le_toInt x
  have h2 := Int32.toInt_lt x
  rw [← Int64.toInt_inj, Int32.toInt_toInt64, toInt_lI (by omega) (by omega)]
theorem toInt_add {x y : Int32} (h1 : -2147483648 ≤ x.toInt + y.toInt) (h2 : x.toInt + y.toInt < 2147483648) : (x + y).toInt = x.toInt + y.toInt := by
  rw [← iI_toInt x, ← iI_toInt y, iI_add, toInt_iI h1 h2, iI_toInt, iI_toInt]
theorem toInt_sub {x y : Int32} (h1 : -2147483648 ≤ x.toInt - y.toInt) (h2 : x.toInt - y.toInt < 2147483648) : (x - y).toInt = x.toInt - y.toInt := by
  rw [← iI_toInt x, ← iI_toInt y, iI_sub, toInt_iI h1 h2, iI_toInt, iI_toInt]
theorem toInt_neg {x : Int32} (h1 : -2147483647 ≤ x.toInt) : (-x).toInt = -x.toInt := by
  have h2 := Int32.toInt_lt x
  rw [← iI_toInt x, iI_neg, toInt_iI (by omega) (by omega), iI_toInt]
theorem toInt_mul {x y : Int32} (h1 : -2147483648 ≤ x.toInt * y.toInt) (h2 : x.toInt * y.toInt < 2147483648) : (x * y).toInt = x.toInt * y.toInt := by
  rw [← iI_toInt x, ← iI_toInt y, iI_mul, toInt_iI h1 h2, iI_toInt, iI_toInt]
theorem vp_in_cl {x : Int32} {n : Nat} (h : vp_in x n) (hn : n < 2 ^ 31) : x.toNatClampNeg < n ∧ x = nI x.toNatClampNeg := by
  obtain ⟨j, hj, rfl⟩ := vp_in_of h hn
  rw [nI_clamp (by omega)]
  exact ⟨hj, rfl⟩
theorem upd_s (f : Nat → Int32) (k : Nat) (x : Int32) : upd f k x k = x := by simp [upd]
theorem upd_n (f : Nat → Int32) {k j : Nat} (x : Int32) (h : j ≠ k) : upd f k x j = f j := by simp [upd, h]
theorem updL_s (f : Nat → Int64) (k : Nat) (x : Int64) : vp_updL f k x k = x := by simp [vp_updL]
theorem updL_n (f : Nat → Int64) {k j : Nat} (x : Int64) (h : j ≠ k) : vp_updL f k x j = f j := by simp [vp_updL, h]
/-- sums of machine numbers -/
def sumI (f : Nat → Int32) : Nat → Int32
  | 0 => 0
  | n + 1 => sumI f n + f n
def sum2 (t : Nat → Nat → Int32) (w h : Nat) : Int32 := sumI (fun y => sumI (t y) w) h
theorem sumI_congr {f g : Nat → Int32} {n : Nat} (h : ∀ i, i < n → f i = g i) : sumI f n = sumI g n := by
  induction n with
  | zero => rfl
  | succ n ih => simp only [sumI]; rw [ih (fun i hi => h i (by omega)), h n (by omega)]
theorem sum2_congr {t u : Nat → Nat → Int32} {w h : Nat} (e : ∀ y, y < h → ∀ x, x < w → t y x = u y x) : sum2 t w h = sum2 u w h :=
  sumI_congr (fun y hy => sumI_congr (fun x hx => e y hy x hx))
end
section
/-! the net: what a STEP leaves, purely -/
def netOK (a b : Int32) : Prop := ∃ w h : Nat, 2 ≤ w ∧ w ≤ 8 ∧ 2 ≤ h ∧ h ≤ 8 ∧ a = nI w ∧ b = nI h
def fillA (n : Nat) (v : Int32) (f : Nat → Int32) : Nat → Int32 := fun j => if j < n then v else f j
def insA (f : Nat → Int32) : Nat → Int32 → (Nat → Int32)
  | 0, v => upd f 0 v
  | n + 1, v => if v < f n then insA (upd f (n + 1) (f n)) n v else upd f (n + 1) v
def srt (f : Nat → Int32) (n : Nat) : Prop := ∀ i j, i ≤ j → j < n → f i ≤ f j
theorem i32_le_refl (x : Int32) : x ≤ x := by rw [Int32.le_iff_toInt_le]; omega
theorem i32_le_trans {x y z : Int32} (h1 : x ≤ y) (h2 : y ≤ z) : x ≤ z := by rw [Int32.le_iff_toInt_le] at *; omega
theorem i32_le_of_lt {x y : Int32} (h : x < y) : x ≤ y := by rw [Int32.le_iff_toInt_le]; rw [Int32.lt_iff_toInt_lt] at h; omega
theorem i32_le_of_nlt {x y : Int32} (h : ¬ x < y) : y ≤ x := by rw [Int32.le_iff_toInt_le]; rw [Int32.lt_iff_toInt_lt] at h; omega
theorem insA_hi (v : Int32) : ∀ (n : Nat) (f : Nat → Int32) (j : Nat), n < j → insA f n v j = f j := by
  intro n
  induction n with
  | zero => intro f j hj; rw [insA]; exact upd_n _ _ (by omega)
  | succ n ih =>
    intro f j hj
    rw [insA]
    split
    · rw [ih _ j (by omega)]; exact upd_n _ _ (by omega)
    · exact upd_n _ _ (by omega)
theorem insA_ag (v : Int32) : ∀ (n : Nat) (f g : Nat → Int32), (∀ i, i < n → f i = g i) → ∀ i, i ≤ n → insA f n v i = insA g n v i := by
  intro n
  induction n with
  | zero =>
    intro f g _ i hi
    have e : i = 0 := by omega
    rw [insA, insA, e, upd_s, upd_s]
  | succ n ih =>
    intro f g hfg i hi
    rw [insA, insA, hfg n (by omega)]
    split
    · rcases Nat.lt_or_ge n i with h | h
      · have e : i = n + 1 := by omega
        rw [insA_hi v n _ i h, insA_hi v n _ i h, e, upd_s, upd_s]
      · refine ih _ _ (fun k hk => ?_) i h
        rw [upd_n _ _ (by omega), upd_n _ _ (by omega), hfg k (by omega)]
    · rcases Nat.lt_or_ge n i with h | h
      · have e : i = n + 1 := by omega
        rw [e, upd_s, upd_s]
      · rw [upd_n _ _ (by omega), upd_n _ _ (by omega), hfg i (by omega)]
theorem insA_mem (v : Int32) : ∀ (n : Nat) (f : Nat → Int32) (i : Nat), i ≤ n → insA f n v i = v ∨ ∃ j, j < n ∧ insA f n v i = f j := by
  intro n
  induction n with
  | zero =>
    intro f i hi
    have e : i = 0 := by omega
    rw [insA, e, upd_s]; exact Or.inl rfl
  | succ n ih =>
    intro f i hi
    rw [insA]
    split
    · rcases Nat.lt_or_ge n i with h | h
      · have e : i = n + 1 := by omega
        rw [insA_hi v n _ i h, e, upd_s]; exact Or.inr ⟨n, by omega, rfl⟩
      · rcases ih (upd f (n + 1) (f n)) i h with q | ⟨j, hj, q⟩
        · exact Or.inl q
        · rw [upd_n _ _ (by omega)] at q
          exact Or.inr ⟨j, by omega, q⟩
    · rcases Nat.lt_or_ge n i with h | h
      · have e : i = n + 1 := by omega
        rw [e, upd_s]; exact Or.inl rfl
      · rw [upd_n _ _ (by omega)]; exact Or.inr ⟨i, by omega, rfl⟩
theorem insA_srt (v : Int32) : ∀ (n : Nat) (f : Nat → Int32), srt f n → srt (insA f n v) (n + 1) := by
  intro n
  induction n with
  | zero =>
    intro f _ i j hij hj
    have e1 : i = 0 := by omega
    have e2 : j = 0 := by omega
    rw [e1, e2]; exact i32_le_refl _
  | succ n ih =>
    intro f hs i j hij hj
    rw [insA]
    split
    · rename_i hv
      have hg : srt (upd f (n + 1) (f n)) n := fun a b hab hb => by
        rw [upd_n _ _ (by omega), upd_n _ _ (by omega)]; exact hs a b hab (by omega)
      rcases Nat.lt_or_ge n j with h | h
      · have e : j = n + 1 := by omega
        rw [insA_hi v n _ j h, e, upd_s]
        rcases Nat.lt_or_ge n i with h2 | h2
        · have e2 : i = n + 1 := by omega
          rw [insA_hi v n _ i h2, e2, upd_s]; exact i32_le_refl _
        · rcases insA_mem v n (upd f (n + 1) (f n)) i h2 with q | ⟨k, hk, q⟩
          · rw [q]; exact i32_le_of_lt hv
          · rw [q, upd_n _ _ (by omega)]; exact hs k n (by omega) (by omega)
      · exact ih _ hg i j hij (by omega)
    · rename_i hv
      rcases Nat.lt_or_ge n j with h | h
      · have e : j = n + 1 := by omega
        rw [e, upd_s]
        rcases Nat.lt_or_ge n i with h2 | h2
        · have e2 : i = n + 1 := by omega
          rw [e2, upd_s]; exact i32_le_refl _
        · rw [upd_n _ _ (by omega)]
          exact i32_le_trans (hs i n (by omega) (by omega)) (i32_le_of_nlt hv)
      · rw [upd_n _ _ (by omega), upd_n _ _ (by omega)]; exact hs i j hij (by omega)
def pst (b : Bool) (v : Int32) (q : Nat × (Nat → Int32)) : Nat × (Nat → Int32) := if b = true then (q.1 + 1, insA q.2 q.1 v) else q
theorem pst_t (v : Int32) (q : Nat × (Nat → Int32)) : pst true v q = (q.1 + 1, insA q.2 q.1 v) := rfl
theorem pst_f (v : Int32) (q : Nat × (Nat → Int32)) : pst false v q = q := rfl
def agr (q q' : Nat × (Nat → Int32)) : Prop := q.1 = q'.1 ∧ ∀ i, i < q.1 → q.2 i = q'.2 i
theorem pst_agr {b : Bool} {v : Int32} {q q' : Nat × (Nat → Int32)} (h : agr q q') : agr (pst b v q) (pst b v q') := by
  cases b
  · exact h
  · refine ⟨by rw [pst_t, pst_t]; show q.1 + 1 = q'.1 + 1; rw [h.1], fun i hi => ?_⟩
    rw [pst_t] at hi ⊢
    rw [pst_t]
    show insA q.2 q.1 v i = insA q'.2 q'.1 v i
    rw [← h.1]
    exact insA_ag v q.1 _ _ h.2 i (by show i ≤ q.1; have : i < q.1 + 1 := hi; omega)
theorem pst_srt {b : Bool} {v : Int32} {q : Nat × (Nat → Int32)} (h : srt q.2 q.1) : srt (pst b v q).2 (pst b v q).1 := by
  cases b
  · exact h
  · exact insA_srt v q.1 q.2 h
theorem pst_all {P : Int32 → Prop} {b : Bool} {v : Int32} {q : Nat × (Nat → Int32)} (h : ∀ i, i < q.1 → P (q.2 i)) (hv : b = true → P v) : ∀ i, i < (pst b v q).1 → P ((pst b v q).2 i) := by
  cases b
  · exact h
  · intro i hi
    rcases insA_mem v q.1 q.2 i (by have : i < q.1 + 1 := hi; omega) with e | ⟨j, hj, e⟩
    · show P (insA q.2 q.1 v i); rw [e]; exact hv rfl
    · show P (insA q.2 q.1 v i); rw [e]; exact h j hj
theorem pst_1 (b : Bool) (v : Int32) (q : Nat × (Nat → Int32)) : (pst b v q).1 = q.1 + (if b = true then 1 else 0) := by cases b <;> rfl
def stq (w h : Nat) (H : Nat → Int32) (x y : Nat) (f : Nat → Int32) : Nat × (Nat → Int32) :=
  pst (decide (y + 1 < h)) (H (8 * (y + 1) + x)) (pst (decide (0 < y)) (H (8 * (y - 1) + x)) (pst (decide (x + 1 < w)) (H (8 * y + (x + 1))) (pst (decide (0 < x)) (H (8 * y + (x - 1))) (0, f))))
theorem stq_1 {w h : Nat} (hw : 2 ≤ w) (hh : 2 ≤ h) {x y : Nat} (hx : x < w) (hy : y < h) (H f : Nat → Int32) : 2 ≤ (stq w h H x y f).1 ∧ (stq w h H x y f).1 ≤ 4 := by
  unfold stq
  simp only [pst_1, decide_eq_true_eq]
  constructor <;> (repeat' split) <;> omega
theorem stq_agr (w h : Nat) (H : Nat → Int32) (x y : Nat) (f g : Nat → Int32) : agr (stq w h H x y f) (stq w h H x y g) :=
  pst_agr (pst_agr (pst_agr (pst_agr ⟨rfl, fun i hi => absurd hi (Nat.not_lt_zero i)⟩)))
theorem stq_srt (w h : Nat) (H : Nat → Int32) (x y : Nat) (f : Nat → Int32) : srt (stq w h H x y f).2 (stq w h H x y f).1 :=
  pst_srt (pst_srt (pst_srt (pst_srt (fun i j _ hj => absurd hj (Nat.not_lt_zero j)))))
def clp (o lo hi : Int32) : Int32 := if o < lo then lo else if hi < o then hi else o
def stp (w h : Nat) (pin H : Nat → Int32) (x y : Nat) : Int32 :=
  if pin (8 * y + x) = 0 then clp (H (8 * y + x)) ((stq w h H x y (fun _ => 0)).2 (((stq w h H x y (fun _ => 0)).1 - 1) / 2)) ((stq w h H x y (fun _ => 0)).2 ((stq w h H x y (fun _ => 0)).1 / 2)) else H (8 * y + x)
theorem clp_mm {o lo hi : Int32} (h : lo ≤ hi) : (if lo < (if o < hi then o else hi) then (if o < hi then o else hi) else lo) = clp o lo hi := by
  unfold clp
  rw [Int32.le_iff_toInt_le] at h
  by_cases h1 : o < lo
  · rw [if_pos h1]
    rw [Int32.lt_iff_toInt_lt] at h1
    have h2 : o < hi := by rw [Int32.lt_iff_toInt_lt]; omega
    rw [if_pos h2, if_neg (by rw [Int32.lt_iff_toInt_lt]; omega)]
  · rw [if_neg h1]
    rw [Int32.lt_iff_toInt_lt] at h1
    by_cases h2 : hi < o
    · rw [if_pos h2]
      rw [Int32.lt_iff_toInt_lt] at h2
      rw [if_neg (show ¬ o < hi by rw [Int32.lt_iff_toInt_lt]; omega)]
      by_cases h3 : lo < hi
      · rw [if_pos h3]
      · rw [if_neg h3]
        rw [Int32.lt_iff_toInt_lt] at h3
        rw [← Int32.toInt_inj]; omega
    · rw [if_neg h2]
      rw [Int32.lt_iff_toInt_lt] at h2
      have e : (if o < hi then o else hi) = o := by
        split
        · rfl
        · rename_i h3
          rw [Int32.lt_iff_toInt_lt] at h3
          rw [← Int32.toInt_inj]; omega
      rw [e]
      by_cases h3 : lo < o
      · rw [if_pos h3]
      · rw [if_neg h3]
        rw [Int32.lt_iff_toInt_lt] at h3
        rw [← Int32.toInt_inj]; omega
/-- the middle ones are the same whatever lay in the row before -/
theorem stp_any {w h : Nat} (hw : 2 ≤ w) (hh : 2 ≤ h) {x y : Nat} (hx : x < w) (hy : y < h) (pin H f : Nat → Int32) (h0 : pin (8 * y + x) = 0) : clp (H (8 * y + x)) ((stq w h H x y f).2 (((stq w h H x y f).1 - 1) / 2)) ((stq w h H x y f).2 ((stq w h H x y f).1 / 2)) = stp w h pin H x y := by
  unfold stp
  rw [if_pos h0]
  obtain ⟨a1, a2⟩ := stq_agr w h H x y f (fun _ => 0)
  have c := stq_1 hw hh hx hy H f
  rw [a2 _ (by omega), a2 _ (by omega), a1]
theorem stq_lohi {w h : Nat} (hw : 2 ≤ w) (hh : 2 ≤ h) {x y : Nat} (hx : x < w) (hy : y < h) (H f : Nat → Int32) : (stq w h H x y f).2 (((stq w h H x y f).1 - 1) / 2) ≤ (stq w h H x y f).2 ((stq w h H x y f).1 / 2) := by
  have c := stq_1 hw hh hx hy H f
  exact stq_srt w h H x y f _ _ (by omega) (by omega)
/-- a STEP leaves a height that was there -/
theorem stp_all {P : Int32 → Prop} {w h : Nat} (hw : 2 ≤ w) (hh : 2 ≤ h) (hw8 : w ≤ 8) (hh8 : h ≤ 8) {x y : Nat} (hx : x < w) (hy : y < h) (pin H : Nat → Int32) (hH : ∀ j, j < 64 → P (H j)) : P (stp w h pin H x y) := by
  have all : ∀ i, i < (stq w h H x y (fun _ => 0)).1 → P ((stq w h H x y (fun _ => 0)).2 i) := by
    refine pst_all (pst_all (pst_all (pst_all (fun i hi => absurd hi (Nat.not_lt_zero i)) ?_) ?_) ?_) ?_
    · intro c; exact hH _ (by omega)
    · intro c; have := of_decide_eq_true c; exact hH _ (by omega)
    · intro c; exact hH _ (by omega)
    · intro c; have := of_decide_eq_true c; exact hH _ (by omega)
  have c := stq_1 hw hh hx hy H (fun _ => 0)
  unfold stp clp
  split
  · split
    · exact all _ (by omega)
    · split
      · exact all _ (by omega)
      · exact hH _ (by omega)
  · exact hH _ (by omega)
/-- a ROUND: rows, then columns -/
def stX (w h : Nat) (pin : Nat → Int32) (y : Nat) : Nat → (Nat → Int32) → (Nat → Int32)
  | 0, H => H
  | x + 1, H => upd (stX w h pin y x H) (8 * y + x) (stp w h pin (stX w h pin y x H) x y)
def stY (w h : Nat) (pin : Nat → Int32) : Nat → (Nat → Int32) → (Nat → Int32)
  | 0, H => H
  | y + 1, H => stX w h pin y w (stY w h pin y H)
def stR (w h : Nat) (pin : Nat → Int32) (H : Nat → Int32) : Nat → Int32 := stY w h pin h H
/-- sizes of differences -/
def szI (x : Int32) : Int32 := if 0 ≤ x then x else 0 - x
def chg (w h : Nat) (pin H : Nat → Int32) : Int32 := sum2 (fun y x => szI (stp w h pin H x y - H (8 * y + x))) w h
def drw (w h : Nat) (H : Nat → Int32) : Int32 := sum2 (fun y x => (if x + 1 < w then szI (H (8 * y + x) - H (8 * y + (x + 1))) else 0) + (if y + 1 < h then szI (H (8 * y + x) - H (8 * (y + 1) + x)) else 0)) w h
def pns (w h : Nat) (pin : Nat → Int32) : Int32 := sum2 (fun y x => if pin (8 * y + x) = 0 then 0 else 1) w h
theorem stp_pin {w h : Nat} {p1 p2 H : Nat → Int32} {x y : Nat} (e : p1 (8 * y + x) = p2 (8 * y + x)) : stp w h p1 H x y = stp w h p2 H x y := by unfold stp; rw [e]
def pinEq (w h : Nat) (p1 p2 : Nat → Int32) : Prop := ∀ y, y < h → ∀ x, x < w → p1 (8 * y + x) = p2 (8 * y + x)
theorem stX_pin {w h : Nat} {p1 p2 : Nat → Int32} (e : pinEq w h p1 p2) {y : Nat} (hy : y < h) : ∀ (x : Nat), x ≤ w → ∀ H, stX w h p1 y x H = stX w h p2 y x H := by
  intro x
  induction x with
  | zero => intro _ H; rfl
  | succ x ih => intro hx H; rw [stX, stX, ih (by omega) H, stp_pin (e y hy x (by omega))]
theorem stY_pin {w h : Nat} {p1 p2 : Nat → Int32} (e : pinEq w h p1 p2) : ∀ (y : Nat), y ≤ h → ∀ H, stY w h p1 y H = stY w h p2 y H := by
  intro y
  induction y with
  | zero => intro _ H; rfl
  | succ y ih => intro hy H; rw [stY, stY, ih (by omega) H, stX_pin e (by omega) w (Nat.le_refl w)]
theorem stR_pin {w h : Nat} {p1 p2 : Nat → Int32} (e : pinEq w h p1 p2) (H : Nat → Int32) : stR w h p1 H = stR w h p2 H := stY_pin e h (Nat.le_refl h) H
theorem chg_pin {w h : Nat} {p1 p2 : Nat → Int32} (e : pinEq w h p1 p2) (H : Nat → Int32) : chg w h p1 H = chg w h p2 H :=
  sum2_congr (fun y hy x hx => by rw [stp_pin (e y hy x hx)])
theorem pns_pin {w h : Nat} {p1 p2 : Nat → Int32} (e : pinEq w h p1 p2) : pns w h p1 = pns w h p2 :=
  sum2_congr (fun y hy x hx => by rw [e y hy x hx])
/-- heights stay within what they were -/
theorem stX_all {P : Int32 → Prop} {w h : Nat} (hw : 2 ≤ w) (hh : 2 ≤ h) (hw8 : w ≤ 8) (hh8 : h ≤ 8) (pin : Nat → Int32) {y : Nat} (hy : y < h) : ∀ (x : Nat), x ≤ w → ∀ H, (∀ j, j < 64 → P (H j)) → ∀ j, j < 64 → P (stX w h pin y x H j) := by
  intro x
  induction x with
  | zero => intro _ H hH j hj; exact hH j hj
  | succ x ih =>
    intro hx H hH j hj
    rw [stX]
    by_cases e : j = 8 * y + x
    · rw [e, upd_s]; exact stp_all hw hh hw8 hh8 (by omega) hy pin _ (ih (by omega) H hH)
    · rw [upd_n _ _ e]; exact ih (by omega) H hH j hj
theorem stY_all {P : Int32 → Prop} {w h : Nat} (hw : 2 ≤ w) (hh : 2 ≤ h) (hw8 : w ≤ 8) (hh8 : h ≤ 8) (pin : Nat → Int32) : ∀ (y : Nat), y ≤ h → ∀ H, (∀ j, j < 64 → P (H j)) → ∀ j, j < 64 → P (stY w h pin y H j) := by
  intro y
  induction y with
  | zero => intro _ H hH j hj; exact hH j hj
  | succ y ih => intro hy H hH; exact stX_all hw hh hw8 hh8 pin (by omega) w (Nat.le_refl w) _ (ih (by omega) H hH)
end
section
set_option maxRecDepth 20000 in
theorem ggX2_init_X2_spread : GoodIn wsX2_init wsX2_spread := goodIn_r _ [15, 9, 10, 5, 7, 16, 17, 18, 19, 20, 21, 22, 14, 23, 24, 25, 26, 27, 28] (by decide +kernel) (by decide +kernel)
set_option maxRecDepth 20000 in
theorem gX2_init_X2_spread : GoodIn wsX2_init (wsV RX2 29 RX2 yX2_spread wsX2_spread) := goodIn_app (goodIn_of _ (by decide +kernel)) ggX2_init_X2_spread
theorem dX2_init_0 : decode cX2_init 0 = .ok (.aload_n 0, 1) := by decide +kernel
theorem dX2_init_1 : decode cX2_init 1 = .ok (.invokespecial 3, 3) := by decide +kernel
theorem dX2_init_4 : decode cX2_init 4 = .ok (.aload_n 0, 1) := by decide +kernel
theorem dX2_init_5 : decode cX2_init 5 = .ok (.bipush 64, 2) := by decide +kernel
theorem dX2_init_7 : decode cX2_init 7 = .ok (.newarray .int, 2) := by decide +kernel
theorem dX2_init_9 : decode cX2_init 9 = .ok (.putfield 9, 3) := by decide +kernel
theorem dX2_init_12 : decode cX2_init 12 = .ok (.aload_n 0, 1) := by decide +kernel
theorem dX2_init_13 : decode cX2_init 13 = .ok (.bipush 64, 2) := by decide +kernel
theorem dX2_init_15 : decode cX2_init 15 = .ok (.newarray .boolean, 2) := by decide +kernel
theorem dX2_init_17 : decode cX2_init 17 = .ok (.putfield 15, 3) := by decide +kernel
theorem dX2_init_20 : decode cX2_init 20 = .ok (.aload_n 0, 1) := by decide +kernel
theorem dX2_init_21 : decode cX2_init 21 = .ok (.iconst 4, 1) := by decide +kernel
theorem dX2_init_22 : decode cX2_init 22 = .ok (.newarray .int, 2) := by decide +kernel
theorem dX2_init_24 : decode cX2_init 24 = .ok (.putfield 19, 3) := by decide +kernel
theorem dX2_init_27 : decode cX2_init 27 = .ok (.aload_n 0, 1) := by decide +kernel
theorem dX2_init_28 : decode cX2_init 28 = .ok (.iconst 0, 1) := by decide +kernel
theorem dX2_init_29 : decode cX2_init 29 = .ok (.putfield 22, 3) := by decide +kernel
theorem dX2_init_32 : decode cX2_init 32 = .ok (.aload_n 0, 1) := by decide +kernel
theorem dX2_init_33 : decode cX2_init 33 = .ok (.iconst 0, 1) := by decide +kernel
theorem dX2_init_34 : decode cX2_init 34 = .ok (.putfield 26, 3) := by decide +kernel
theorem dX2_init_37 : decode cX2_init 37 = .ok (.aload_n 0, 1) := by decide +kernel
theorem dX2_init_38 : decode cX2_init 38 = .ok (.iconst 4, 1) := by decide +kernel
theorem dX2_init_39 : decode cX2_init 39 = .ok (.iconst 4, 1) := by decide +kernel
theorem dX2_init_40 : decode cX2_init 40 = .ok (.invokevirtual 29, 3) := by decide +kernel
theorem dX2_init_43 : decode cX2_init 43 = .ok (.return_, 1) := by decide +kernel
set_option maxRecDepth 20000 in
theorem ggX2_spread_J7_fill_53178 : GoodIn wsX2_spread wsJ7_fill_53178 := goodIn_r _ [8] (by decide +kernel) (by decide +kernel)
set_option maxRecDepth 20000 in
theorem gX2_spread_J7_fill_53178 : GoodIn wsX2_spread (va_wsS RX2 33 yJ7_fill_53178 wsJ7_fill_53178) := goodIn_app (goodIn_of _ (by decide +kernel)) ggX2_spread_J7_fill_53178
set_option maxRecDepth 20000 in
theorem ggX2_spread_X2_at : GoodIn wsX2_spread wsX2_at := goodIn_r _ [13] (by decide +kernel) (by decide +kernel)
set_option maxRecDepth 20000 in
theorem gX2_spread_X2_at : GoodIn wsX2_spread (wsV RX2 39 RX2 yX2_at wsX2_at) := goodIn_app (goodIn_of _ (by decide +kernel)) ggX2_spread_X2_at
theorem dX2_spread_0 : decode cX2_spread 0 = .ok (.aload_n 0, 1) := by decide +kernel
theorem dX2_spread_1 : decode cX2_spread 1 = .ok (.iload_n 1, 1) := by decide +kernel
theorem dX2_spread_2 : decode cX2_spread 2 = .ok (.putfield 22, 3) := by decide +kernel
theorem dX2_spread_5 : decode cX2_spread 5 = .ok (.aload_n 0, 1) := by decide +kernel
theorem dX2_spread_6 : decode cX2_spread 6 = .ok (.iload_n 2, 1) := by decide +kernel
theorem dX2_spread_7 : decode cX2_spread 7 = .ok (.putfield 26, 3) := by decide +kernel
theorem dX2_spread_10 : decode cX2_spread 10 = .ok (.aload_n 0, 1) := by decide +kernel
theorem dX2_spread_11 : decode cX2_spread 11 = .ok (.getfield 9, 3) := by decide +kernel
theorem dX2_spread_14 : decode cX2_spread 14 = .ok (.iconst 0, 1) := by decide +kernel
theorem dX2_spread_15 : decode cX2_spread 15 = .ok (.invokestatic 33, 3) := by decide +kernel
theorem dX2_spread_18 : decode cX2_spread 18 = .ok (.iconst 0, 1) := by decide +kernel
theorem dX2_spread_19 : decode cX2_spread 19 = .ok (.istore_n 3, 1) := by decide +kernel
theorem dX2_spread_20 : decode cX2_spread 20 = .ok (.iload_n 3, 1) := by decide +kernel
theorem dX2_spread_21 : decode cX2_spread 21 = .ok (.iload_n 2, 1) := by decide +kernel
theorem dX2_spread_22 : decode cX2_spread 22 = .ok (.if_icmp .ge 65, 3) := by decide +kernel
theorem dX2_spread_25 : decode cX2_spread 25 = .ok (.iconst 0, 1) := by decide +kernel
theorem dX2_spread_26 : decode cX2_spread 26 = .ok (.istore 4, 2) := by decide +kernel
theorem dX2_spread_28 : decode cX2_spread 28 = .ok (.iload 4, 2) := by decide +kernel
theorem dX2_spread_30 : decode cX2_spread 30 = .ok (.iload_n 1, 1) := by decide +kernel
theorem dX2_spread_31 : decode cX2_spread 31 = .ok (.if_icmp .ge 50, 3) := by decide +kernel
theorem dX2_spread_34 : decode cX2_spread 34 = .ok (.aload_n 0, 1) := by decide +kernel
theorem dX2_spread_35 : decode cX2_spread 35 = .ok (.getfield 15, 3) := by decide +kernel
theorem dX2_spread_38 : decode cX2_spread 38 = .ok (.aload_n 0, 1) := by decide +kernel
theorem dX2_spread_39 : decode cX2_spread 39 = .ok (.iload 4, 2) := by decide +kernel
theorem dX2_spread_41 : decode cX2_spread 41 = .ok (.iload_n 3, 1) := by decide +kernel
theorem dX2_spread_42 : decode cX2_spread 42 = .ok (.invokevirtual 39, 3) := by decide +kernel
theorem dX2_spread_45 : decode cX2_spread 45 = .ok (.iload 4, 2) := by decide +kernel
theorem dX2_spread_47 : decode cX2_spread 47 = .ok (.ifCond .eq 22, 3) := by decide +kernel
theorem dX2_spread_50 : decode cX2_spread 50 = .ok (.iload_n 3, 1) := by decide +kernel
theorem dX2_spread_51 : decode cX2_spread 51 = .ok (.ifCond .eq 18, 3) := by decide +kernel
theorem dX2_spread_54 : decode cX2_spread 54 = .ok (.iload 4, 2) := by decide +kernel
theorem dX2_spread_56 : decode cX2_spread 56 = .ok (.iload_n 1, 1) := by decide +kernel
theorem dX2_spread_57 : decode cX2_spread 57 = .ok (.iconst 1, 1) := by decide +kernel
theorem dX2_spread_58 : decode cX2_spread 58 = .ok (.isub, 1) := by decide +kernel
theorem dX2_spread_59 : decode cX2_spread 59 = .ok (.if_icmp .eq 10, 3) := by decide +kernel
theorem dX2_spread_62 : decode cX2_spread 62 = .ok (.iload_n 3, 1) := by decide +kernel
theorem dX2_spread_63 : decode cX2_spread 63 = .ok (.iload_n 2, 1) := by decide +kernel
theorem dX2_spread_64 : decode cX2_spread 64 = .ok (.iconst 1, 1) := by decide +kernel
theorem dX2_spread_65 : decode cX2_spread 65 = .ok (.isub, 1) := by decide +kernel
theorem dX2_spread_66 : decode cX2_spread 66 = .ok (.if_icmp .ne 7, 3) := by decide +kernel
theorem dX2_spread_69 : decode cX2_spread 69 = .ok (.iconst 1, 1) := by decide +kernel
theorem dX2_spread_70 : decode cX2_spread 70 = .ok (.goto 4, 3) := by decide +kernel
theorem dX2_spread_73 : decode cX2_spread 73 = .ok (.iconst 0, 1) := by decide +kernel
theorem dX2_spread_74 : decode cX2_spread 74 = .ok (.bastore, 1) := by decide +kernel
theorem dX2_spread_75 : decode cX2_spread 75 = .ok (.iinc 4 1, 3) := by decide +kernel
theorem dX2_spread_78 : decode cX2_spread 78 = .ok (.goto (-50), 3) := by decide +kernel
theorem dX2_spread_81 : decode cX2_spread 81 = .ok (.iinc 3 1, 3) := by decide +kernel
theorem dX2_spread_84 : decode cX2_spread 84 = .ok (.goto (-64), 3) := by decide +kernel
theorem dX2_spread_87 : decode cX2_spread 87 = .ok (.return_, 1) := by decide +kernel
theorem dX2_has_0 : decode cX2_has 0 = .ok (.iload_n 1, 1) := by decide +kernel
theorem dX2_has_1 : decode cX2_has 1 = .ok (.ifCond .lt 27, 3) := by decide +kernel
theorem dX2_has_4 : decode cX2_has 4 = .ok (.iload_n 1, 1) := by decide +kernel
theorem dX2_has_5 : decode cX2_has 5 = .ok (.aload_n 0, 1) := by decide +kernel
theorem dX2_has_6 : decode cX2_has 6 = .ok (.getfield 22, 3) := by decide +kernel
theorem dX2_has_9 : decode cX2_has 9 = .ok (.if_icmp .ge 19, 3) := by decide +kernel
theorem dX2_has_12 : decode cX2_has 12 = .ok (.iload_n 2, 1) := by decide +kernel
theorem dX2_has_13 : decode cX2_has 13 = .ok (.ifCond .lt 15, 3) := by decide +kernel
theorem dX2_has_16 : decode cX2_has 16 = .ok (.iload_n 2, 1) := by decide +kernel
theorem dX2_has_17 : decode cX2_has 17 = .ok (.aload_n 0, 1) := by decide +kernel
theorem dX2_has_18 : decode cX2_has 18 = .ok (.getfield 26, 3) := by decide +kernel
theorem dX2_has_21 : decode cX2_has 21 = .ok (.if_icmp .ge 7, 3) := by decide +kernel
theorem dX2_has_24 : decode cX2_has 24 = .ok (.iconst 1, 1) := by decide +kernel
theorem dX2_has_25 : decode cX2_has 25 = .ok (.goto 4, 3) := by decide +kernel
theorem dX2_has_28 : decode cX2_has 28 = .ok (.iconst 0, 1) := by decide +kernel
theorem dX2_has_29 : decode cX2_has 29 = .ok (.ireturn, 1) := by decide +kernel
theorem dX2_at_0 : decode cX2_at 0 = .ok (.iload_n 2, 1) := by decide +kernel
theorem dX2_at_1 : decode cX2_at 1 = .ok (.bipush 8, 2) := by decide +kernel
theorem dX2_at_3 : decode cX2_at 3 = .ok (.imul, 1) := by decide +kernel
theorem dX2_at_4 : decode cX2_at 4 = .ok (.iload_n 1, 1) := by decide +kernel
theorem dX2_at_5 : decode cX2_at 5 = .ok (.iadd, 1) := by decide +kernel
theorem dX2_at_6 : decode cX2_at 6 = .ok (.ireturn, 1) := by decide +kernel
set_option maxRecDepth 20000 in
theorem ggX2_pins_X2_at : GoodIn wsX2_pins wsX2_at := goodIn_r _ [8] (by decide +kernel) (by decide +kernel)
set_option maxRecDepth 20000 in
theorem gX2_pins_X2_at : GoodIn wsX2_pins (wsV RX2 39 RX2 yX2_at wsX2_at) := goodIn_app (goodIn_of _ (by decide +kernel)) ggX2_pins_X2_at
theorem dX2_pins_0 : decode cX2_pins 0 = .ok (.iconst 0, 1) := by decide +kernel
theorem dX2_pins_1 : decode cX2_pins 1 = .ok (.istore_n 1, 1) := by decide +kernel
theorem dX2_pins_2 : decode cX2_pins 2 = .ok (.iconst 0, 1) := by decide +kernel
theorem dX2_pins_3 : decode cX2_pins 3 = .ok (.istore_n 2, 1) := by decide +kernel
theorem dX2_pins_4 : decode cX2_pins 4 = .ok (.iload_n 2, 1) := by decide +kernel
theorem dX2_pins_5 : decode cX2_pins 5 = .ok (.aload_n 0, 1) := by decide +kernel
theorem dX2_pins_6 : decode cX2_pins 6 = .ok (.getfield 26, 3) := by decide +kernel
theorem dX2_pins_9 : decode cX2_pins 9 = .ok (.if_icmp .ge 42, 3) := by decide +kernel
theorem dX2_pins_12 : decode cX2_pins 12 = .ok (.iconst 0, 1) := by decide +kernel
theorem dX2_pins_13 : decode cX2_pins 13 = .ok (.istore_n 3, 1) := by decide +kernel
theorem dX2_pins_14 : decode cX2_pins 14 = .ok (.iload_n 3, 1) := by decide +kernel
theorem dX2_pins_15 : decode cX2_pins 15 = .ok (.aload_n 0, 1) := by decide +kernel
theorem dX2_pins_16 : decode cX2_pins 16 = .ok (.getfield 22, 3) := by decide +kernel
theorem dX2_pins_19 : decode cX2_pins 19 = .ok (.if_icmp .ge 26, 3) := by decide +kernel
theorem dX2_pins_22 : decode cX2_pins 22 = .ok (.aload_n 0, 1) := by decide +kernel
theorem dX2_pins_23 : decode cX2_pins 23 = .ok (.getfield 15, 3) := by decide +kernel
theorem dX2_pins_26 : decode cX2_pins 26 = .ok (.aload_n 0, 1) := by decide +kernel
theorem dX2_pins_27 : decode cX2_pins 27 = .ok (.iload_n 3, 1) := by decide +kernel
theorem dX2_pins_28 : decode cX2_pins 28 = .ok (.iload_n 2, 1) := by decide +kernel
theorem dX2_pins_29 : decode cX2_pins 29 = .ok (.invokevirtual 39, 3) := by decide +kernel
theorem dX2_pins_32 : decode cX2_pins 32 = .ok (.baload, 1) := by decide +kernel
theorem dX2_pins_33 : decode cX2_pins 33 = .ok (.ifCond .eq 6, 3) := by decide +kernel
theorem dX2_pins_36 : decode cX2_pins 36 = .ok (.iinc 1 1, 3) := by decide +kernel
theorem dX2_pins_39 : decode cX2_pins 39 = .ok (.iinc 3 1, 3) := by decide +kernel
theorem dX2_pins_42 : decode cX2_pins 42 = .ok (.goto (-28), 3) := by decide +kernel
theorem dX2_pins_45 : decode cX2_pins 45 = .ok (.iinc 2 1, 3) := by decide +kernel
theorem dX2_pins_48 : decode cX2_pins 48 = .ok (.goto (-44), 3) := by decide +kernel
theorem dX2_pins_51 : decode cX2_pins 51 = .ok (.iload_n 1, 1) := by decide +kernel
theorem dX2_pins_52 : decode cX2_pins 52 = .ok (.ireturn, 1) := by decide +kernel
set_option maxRecDepth 20000 in
theorem ggX2_sumOfDifferences_X2_difference : GoodIn wsX2_sumOfDifferences wsX2_difference := goodIn_r _ [7, 8, 9, 10, 11, 12, 13, 14, 15, 6, 16, 2, 1, 17, 18, 19, 20, 21, 22, 23, 24, 25] (by decide +kernel) (by decide +kernel)
set_option maxRecDepth 20000 in
theorem gX2_sumOfDifferences_X2_difference : GoodIn wsX2_sumOfDifferences (wsV RX2 43 RX2 yX2_difference wsX2_difference) := goodIn_app (goodIn_of _ (by decide +kernel)) ggX2_sumOfDifferences_X2_difference
theorem dX2_sumOfDifferences_0 : decode cX2_sumOfDifferences 0 = .ok (.iconst 0, 1) := by decide +kernel
theorem dX2_sumOfDifferences_1 : decode cX2_sumOfDifferences 1 = .ok (.istore_n 1, 1) := by decide +kernel
theorem dX2_sumOfDifferences_2 : decode cX2_sumOfDifferences 2 = .ok (.iconst 0, 1) := by decide +kernel
theorem dX2_sumOfDifferences_3 : decode cX2_sumOfDifferences 3 = .ok (.istore_n 2, 1) := by decide +kernel
theorem dX2_sumOfDifferences_4 : decode cX2_sumOfDifferences 4 = .ok (.iload_n 2, 1) := by decide +kernel
theorem dX2_sumOfDifferences_5 : decode cX2_sumOfDifferences 5 = .ok (.aload_n 0, 1) := by decide +kernel
theorem dX2_sumOfDifferences_6 : decode cX2_sumOfDifferences 6 = .ok (.getfield 26, 3) := by decide +kernel
theorem dX2_sumOfDifferences_9 : decode cX2_sumOfDifferences 9 = .ok (.if_icmp .ge 49, 3) := by decide +kernel
theorem dX2_sumOfDifferences_12 : decode cX2_sumOfDifferences 12 = .ok (.iconst 0, 1) := by decide +kernel
theorem dX2_sumOfDifferences_13 : decode cX2_sumOfDifferences 13 = .ok (.istore_n 3, 1) := by decide +kernel
theorem dX2_sumOfDifferences_14 : decode cX2_sumOfDifferences 14 = .ok (.iload_n 3, 1) := by decide +kernel
theorem dX2_sumOfDifferences_15 : decode cX2_sumOfDifferences 15 = .ok (.aload_n 0, 1) := by decide +kernel
theorem dX2_sumOfDifferences_16 : decode cX2_sumOfDifferences 16 = .ok (.getfield 22, 3) := by decide +kernel
theorem dX2_sumOfDifferences_19 : decode cX2_sumOfDifferences 19 = .ok (.if_icmp .ge 33, 3) := by decide +kernel
theorem dX2_sumOfDifferences_22 : decode cX2_sumOfDifferences 22 = .ok (.iload_n 1, 1) := by decide +kernel
theorem dX2_sumOfDifferences_23 : decode cX2_sumOfDifferences 23 = .ok (.aload_n 0, 1) := by decide +kernel
theorem dX2_sumOfDifferences_24 : decode cX2_sumOfDifferences 24 = .ok (.iload_n 3, 1) := by decide +kernel
theorem dX2_sumOfDifferences_25 : decode cX2_sumOfDifferences 25 = .ok (.iload_n 2, 1) := by decide +kernel
theorem dX2_sumOfDifferences_26 : decode cX2_sumOfDifferences 26 = .ok (.iload_n 3, 1) := by decide +kernel
theorem dX2_sumOfDifferences_27 : decode cX2_sumOfDifferences 27 = .ok (.iconst 1, 1) := by decide +kernel
theorem dX2_sumOfDifferences_28 : decode cX2_sumOfDifferences 28 = .ok (.iadd, 1) := by decide +kernel
theorem dX2_sumOfDifferences_29 : decode cX2_sumOfDifferences 29 = .ok (.iload_n 2, 1) := by decide +kernel
theorem dX2_sumOfDifferences_30 : decode cX2_sumOfDifferences 30 = .ok (.invokevirtual 43, 3) := by decide +kernel
theorem dX2_sumOfDifferences_33 : decode cX2_sumOfDifferences 33 = .ok (.aload_n 0, 1) := by decide +kernel
theorem dX2_sumOfDifferences_34 : decode cX2_sumOfDifferences 34 = .ok (.iload_n 3, 1) := by decide +kernel
theorem dX2_sumOfDifferences_35 : decode cX2_sumOfDifferences 35 = .ok (.iload_n 2, 1) := by decide +kernel
theorem dX2_sumOfDifferences_36 : decode cX2_sumOfDifferences 36 = .ok (.iload_n 3, 1) := by decide +kernel
theorem dX2_sumOfDifferences_37 : decode cX2_sumOfDifferences 37 = .ok (.iload_n 2, 1) := by decide +kernel
theorem dX2_sumOfDifferences_38 : decode cX2_sumOfDifferences 38 = .ok (.iconst 1, 1) := by decide +kernel
theorem dX2_sumOfDifferences_39 : decode cX2_sumOfDifferences 39 = .ok (.iadd, 1) := by decide +kernel
theorem dX2_sumOfDifferences_40 : decode cX2_sumOfDifferences 40 = .ok (.invokevirtual 43, 3) := by decide +kernel
theorem dX2_sumOfDifferences_43 : decode cX2_sumOfDifferences 43 = .ok (.iadd, 1) := by decide +kernel
theorem dX2_sumOfDifferences_44 : decode cX2_sumOfDifferences 44 = .ok (.iadd, 1) := by decide +kernel
theorem dX2_sumOfDifferences_45 : decode cX2_sumOfDifferences 45 = .ok (.istore_n 1, 1) := by decide +kernel
theorem dX2_sumOfDifferences_46 : decode cX2_sumOfDifferences 46 = .ok (.iinc 3 1, 3) := by decide +kernel
theorem dX2_sumOfDifferences_49 : decode cX2_sumOfDifferences 49 = .ok (.goto (-35), 3) := by decide +kernel
theorem dX2_sumOfDifferences_52 : decode cX2_sumOfDifferences 52 = .ok (.iinc 2 1, 3) := by decide +kernel
theorem dX2_sumOfDifferences_55 : decode cX2_sumOfDifferences 55 = .ok (.goto (-51), 3) := by decide +kernel
theorem dX2_sumOfDifferences_58 : decode cX2_sumOfDifferences 58 = .ok (.iload_n 1, 1) := by decide +kernel
theorem dX2_sumOfDifferences_59 : decode cX2_sumOfDifferences 59 = .ok (.ireturn, 1) := by decide +kernel
set_option maxRecDepth 20000 in
theorem ggX2_difference_X2_has : GoodIn wsX2_difference wsX2_has := goodIn_r _ [10, 11, 12, 17, 18, 19, 20, 21] (by decide +kernel) (by decide +kernel)
set_option maxRecDepth 20000 in
theorem gX2_difference_X2_has : GoodIn wsX2_difference (wsV RX2 47 RX2 yX2_has wsX2_has) := goodIn_app (goodIn_of _ (by decide +kernel)) ggX2_difference_X2_has
set_option maxRecDepth 20000 in
theorem ggX2_difference_X2_at : GoodIn wsX2_difference wsX2_at := goodIn_r _ [16] (by decide +kernel) (by decide +kernel)
set_option maxRecDepth 20000 in
theorem gX2_difference_X2_at : GoodIn wsX2_difference (wsV RX2 39 RX2 yX2_at wsX2_at) := goodIn_app (goodIn_of _ (by decide +kernel)) ggX2_difference_X2_at
theorem dX2_difference_0 : decode cX2_difference 0 = .ok (.aload_n 0, 1) := by decide +kernel
theorem dX2_difference_1 : decode cX2_difference 1 = .ok (.iload_n 3, 1) := by decide +kernel
theorem dX2_difference_2 : decode cX2_difference 2 = .ok (.iload 4, 2) := by decide +kernel
theorem dX2_difference_4 : decode cX2_difference 4 = .ok (.invokevirtual 47, 3) := by decide +kernel
theorem dX2_difference_7 : decode cX2_difference 7 = .ok (.ifCond .eq 33, 3) := by decide +kernel
theorem dX2_difference_10 : decode cX2_difference 10 = .ok (.aload_n 0, 1) := by decide +kernel
theorem dX2_difference_11 : decode cX2_difference 11 = .ok (.getfield 9, 3) := by decide +kernel
theorem dX2_difference_14 : decode cX2_difference 14 = .ok (.aload_n 0, 1) := by decide +kernel
theorem dX2_difference_15 : decode cX2_difference 15 = .ok (.iload_n 1, 1) := by decide +kernel
theorem dX2_difference_16 : decode cX2_difference 16 = .ok (.iload_n 2, 1) := by decide +kernel
theorem dX2_difference_17 : decode cX2_difference 17 = .ok (.invokevirtual 39, 3) := by decide +kernel
theorem dX2_difference_20 : decode cX2_difference 20 = .ok (.iaload, 1) := by decide +kernel
theorem dX2_difference_21 : decode cX2_difference 21 = .ok (.aload_n 0, 1) := by decide +kernel
theorem dX2_difference_22 : decode cX2_difference 22 = .ok (.getfield 9, 3) := by decide +kernel
theorem dX2_difference_25 : decode cX2_difference 25 = .ok (.aload_n 0, 1) := by decide +kernel
theorem dX2_difference_26 : decode cX2_difference 26 = .ok (.iload_n 3, 1) := by decide +kernel
theorem dX2_difference_27 : decode cX2_difference 27 = .ok (.iload 4, 2) := by decide +kernel
theorem dX2_difference_29 : decode cX2_difference 29 = .ok (.invokevirtual 39, 3) := by decide +kernel
theorem dX2_difference_32 : decode cX2_difference 32 = .ok (.iaload, 1) := by decide +kernel
theorem dX2_difference_33 : decode cX2_difference 33 = .ok (.isub, 1) := by decide +kernel
theorem dX2_difference_34 : decode cX2_difference 34 = .ok (.invokestatic 51, 3) := by decide +kernel
theorem dX2_difference_37 : decode cX2_difference 37 = .ok (.goto 4, 3) := by decide +kernel
theorem dX2_difference_40 : decode cX2_difference 40 = .ok (.iconst 0, 1) := by decide +kernel
theorem dX2_difference_41 : decode cX2_difference 41 = .ok (.ireturn, 1) := by decide +kernel
set_option maxRecDepth 20000 in
theorem ggX2_sumOfChanges_X2_stepped : GoodIn wsX2_sumOfChanges wsX2_stepped := goodIn_r _ [12, 3, 13, 14, 15, 16, 6, 17, 18, 19, 20, 21, 22, 23, 11, 24, 25, 26, 27, 28, 29, 30, 31, 32, 2, 1, 33, 34, 35, 36, 37] (by decide +kernel) (by decide +kernel)
set_option maxRecDepth 20000 in
theorem gX2_sumOfChanges_X2_stepped : GoodIn wsX2_sumOfChanges (wsV RX2 57 RX2 yX2_stepped wsX2_stepped) := goodIn_app (goodIn_of _ (by decide +kernel)) ggX2_sumOfChanges_X2_stepped
set_option maxRecDepth 20000 in
theorem ggX2_sumOfChanges_X2_at : GoodIn wsX2_sumOfChanges wsX2_at := goodIn_r _ [24] (by decide +kernel) (by decide +kernel)
set_option maxRecDepth 20000 in
theorem gX2_sumOfChanges_X2_at : GoodIn wsX2_sumOfChanges (wsV RX2 39 RX2 yX2_at wsX2_at) := goodIn_app (goodIn_of _ (by decide +kernel)) ggX2_sumOfChanges_X2_at
theorem dX2_sumOfChanges_0 : decode cX2_sumOfChanges 0 = .ok (.iconst 0, 1) := by decide +kernel
theorem dX2_sumOfChanges_1 : decode cX2_sumOfChanges 1 = .ok (.istore_n 1, 1) := by decide +kernel
theorem dX2_sumOfChanges_2 : decode cX2_sumOfChanges 2 = .ok (.iconst 0, 1) := by decide +kernel
theorem dX2_sumOfChanges_3 : decode cX2_sumOfChanges 3 = .ok (.istore_n 2, 1) := by decide +kernel
theorem dX2_sumOfChanges_4 : decode cX2_sumOfChanges 4 = .ok (.iload_n 2, 1) := by decide +kernel
theorem dX2_sumOfChanges_5 : decode cX2_sumOfChanges 5 = .ok (.aload_n 0, 1) := by decide +kernel
theorem dX2_sumOfChanges_6 : decode cX2_sumOfChanges 6 = .ok (.getfield 26, 3) := by decide +kernel
theorem dX2_sumOfChanges_9 : decode cX2_sumOfChanges 9 = .ok (.if_icmp .ge 49, 3) := by decide +kernel
theorem dX2_sumOfChanges_12 : decode cX2_sumOfChanges 12 = .ok (.iconst 0, 1) := by decide +kernel
theorem dX2_sumOfChanges_13 : decode cX2_sumOfChanges 13 = .ok (.istore_n 3, 1) := by decide +kernel
theorem dX2_sumOfChanges_14 : decode cX2_sumOfChanges 14 = .ok (.iload_n 3, 1) := by decide +kernel
theorem dX2_sumOfChanges_15 : decode cX2_sumOfChanges 15 = .ok (.aload_n 0, 1) := by decide +kernel
theorem dX2_sumOfChanges_16 : decode cX2_sumOfChanges 16 = .ok (.getfield 22, 3) := by decide +kernel
theorem dX2_sumOfChanges_19 : decode cX2_sumOfChanges 19 = .ok (.if_icmp .ge 33, 3) := by decide +kernel
theorem dX2_sumOfChanges_22 : decode cX2_sumOfChanges 22 = .ok (.iload_n 1, 1) := by decide +kernel
theorem dX2_sumOfChanges_23 : decode cX2_sumOfChanges 23 = .ok (.aload_n 0, 1) := by decide +kernel
theorem dX2_sumOfChanges_24 : decode cX2_sumOfChanges 24 = .ok (.iload_n 3, 1) := by decide +kernel
theorem dX2_sumOfChanges_25 : decode cX2_sumOfChanges 25 = .ok (.iload_n 2, 1) := by decide +kernel
theorem dX2_sumOfChanges_26 : decode cX2_sumOfChanges 26 = .ok (.invokevirtual 57, 3) := by decide +kernel
theorem dX2_sumOfChanges_29 : decode cX2_sumOfChanges 29 = .ok (.aload_n 0, 1) := by decide +kernel
theorem dX2_sumOfChanges_30 : decode cX2_sumOfChanges 30 = .ok (.getfield 9, 3) := by decide +kernel
theorem dX2_sumOfChanges_33 : decode cX2_sumOfChanges 33 = .ok (.aload_n 0, 1) := by decide +kernel
theorem dX2_sumOfChanges_34 : decode cX2_sumOfChanges 34 = .ok (.iload_n 3, 1) := by decide +kernel
theorem dX2_sumOfChanges_35 : decode cX2_sumOfChanges 35 = .ok (.iload_n 2, 1) := by decide +kernel
theorem dX2_sumOfChanges_36 : decode cX2_sumOfChanges 36 = .ok (.invokevirtual 39, 3) := by decide +kernel
theorem dX2_sumOfChanges_39 : decode cX2_sumOfChanges 39 = .ok (.iaload, 1) := by decide +kernel
theorem dX2_sumOfChanges_40 : decode cX2_sumOfChanges 40 = .ok (.isub, 1) := by decide +kernel
theorem dX2_sumOfChanges_41 : decode cX2_sumOfChanges 41 = .ok (.invokestatic 51, 3) := by decide +kernel
theorem dX2_sumOfChanges_44 : decode cX2_sumOfChanges 44 = .ok (.iadd, 1) := by decide +kernel
theorem dX2_sumOfChanges_45 : decode cX2_sumOfChanges 45 = .ok (.istore_n 1, 1) := by decide +kernel
theorem dX2_sumOfChanges_46 : decode cX2_sumOfChanges 46 = .ok (.iinc 3 1, 3) := by decide +kernel
theorem dX2_sumOfChanges_49 : decode cX2_sumOfChanges 49 = .ok (.goto (-35), 3) := by decide +kernel
theorem dX2_sumOfChanges_52 : decode cX2_sumOfChanges 52 = .ok (.iinc 2 1, 3) := by decide +kernel
theorem dX2_sumOfChanges_55 : decode cX2_sumOfChanges 55 = .ok (.goto (-51), 3) := by decide +kernel
theorem dX2_sumOfChanges_58 : decode cX2_sumOfChanges 58 = .ok (.iload_n 1, 1) := by decide +kernel
theorem dX2_sumOfChanges_59 : decode cX2_sumOfChanges 59 = .ok (.ireturn, 1) := by decide +kernel
set_option maxRecDepth 20000 in
theorem ggX2_isAtRest_X2_sumOfChanges : GoodIn wsX2_isAtRest wsX2_sumOfChanges := goodIn_r _ [5, 6, 7, 8, 9, 10, 11, 12, 13, 14, 15, 4, 16, 17, 18, 19, 20, 21, 22, 23, 24, 25, 26, 27, 28, 29, 30, 31, 32, 33, 34, 35, 36, 37, 38, 39, 40, 41] (by decide +kernel) (by decide +kernel)
set_option maxRecDepth 20000 in
theorem gX2_isAtRest_X2_sumOfChanges : GoodIn wsX2_isAtRest (wsV RX2 60 RX2 yX2_sumOfChanges wsX2_sumOfChanges) := goodIn_app (goodIn_of _ (by decide +kernel)) ggX2_isAtRest_X2_sumOfChanges
theorem dX2_isAtRest_0 : decode cX2_isAtRest 0 = .ok (.aload_n 0, 1) := by decide +kernel
theorem dX2_isAtRest_1 : decode cX2_isAtRest 1 = .ok (.invokevirtual 60, 3) := by decide +kernel
theorem dX2_isAtRest_4 : decode cX2_isAtRest 4 = .ok (.ifCond .ne 7, 3) := by decide +kernel
theorem dX2_isAtRest_7 : decode cX2_isAtRest 7 = .ok (.iconst 1, 1) := by decide +kernel
theorem dX2_isAtRest_8 : decode cX2_isAtRest 8 = .ok (.goto 4, 3) := by decide +kernel
theorem dX2_isAtRest_11 : decode cX2_isAtRest 11 = .ok (.iconst 0, 1) := by decide +kernel
theorem dX2_isAtRest_12 : decode cX2_isAtRest 12 = .ok (.ireturn, 1) := by decide +kernel
set_option maxRecDepth 20000 in
theorem ggX2_stepAtEach_X2_at : GoodIn wsX2_stepAtEach wsX2_at := goodIn_r _ [8] (by decide +kernel) (by decide +kernel)
set_option maxRecDepth 20000 in
theorem gX2_stepAtEach_X2_at : GoodIn wsX2_stepAtEach (wsV RX2 39 RX2 yX2_at wsX2_at) := goodIn_app (goodIn_of _ (by decide +kernel)) ggX2_stepAtEach_X2_at
set_option maxRecDepth 20000 in
theorem ggX2_stepAtEach_X2_stepped : GoodIn wsX2_stepAtEach wsX2_stepped := goodIn_r _ [12, 3, 13, 14, 15, 16, 17, 18, 19, 20, 21, 4, 5, 6, 7, 8, 22, 23, 24, 25, 26, 27, 28, 29, 2, 1, 30, 31, 32, 33, 34] (by decide +kernel) (by decide +kernel)
set_option maxRecDepth 20000 in
theorem gX2_stepAtEach_X2_stepped : GoodIn wsX2_stepAtEach (wsV RX2 57 RX2 yX2_stepped wsX2_stepped) := goodIn_app (goodIn_of _ (by decide +kernel)) ggX2_stepAtEach_X2_stepped
theorem dX2_stepAtEach_0 : decode cX2_stepAtEach 0 = .ok (.iconst 0, 1) := by decide +kernel
theorem dX2_stepAtEach_1 : decode cX2_stepAtEach 1 = .ok (.istore_n 1, 1) := by decide +kernel
theorem dX2_stepAtEach_2 : decode cX2_stepAtEach 2 = .ok (.iload_n 1, 1) := by decide +kernel
theorem dX2_stepAtEach_3 : decode cX2_stepAtEach 3 = .ok (.aload_n 0, 1) := by decide +kernel
theorem dX2_stepAtEach_4 : decode cX2_stepAtEach 4 = .ok (.getfield 26, 3) := by decide +kernel
theorem dX2_stepAtEach_7 : decode cX2_stepAtEach 7 = .ok (.if_icmp .ge 42, 3) := by decide +kernel
theorem dX2_stepAtEach_10 : decode cX2_stepAtEach 10 = .ok (.iconst 0, 1) := by decide +kernel
theorem dX2_stepAtEach_11 : decode cX2_stepAtEach 11 = .ok (.istore_n 2, 1) := by decide +kernel
theorem dX2_stepAtEach_12 : decode cX2_stepAtEach 12 = .ok (.iload_n 2, 1) := by decide +kernel
theorem dX2_stepAtEach_13 : decode cX2_stepAtEach 13 = .ok (.aload_n 0, 1) := by decide +kernel
theorem dX2_stepAtEach_14 : decode cX2_stepAtEach 14 = .ok (.getfield 22, 3) := by decide +kernel
theorem dX2_stepAtEach_17 : decode cX2_stepAtEach 17 = .ok (.if_icmp .ge 26, 3) := by decide +kernel
theorem dX2_stepAtEach_20 : decode cX2_stepAtEach 20 = .ok (.aload_n 0, 1) := by decide +kernel
theorem dX2_stepAtEach_21 : decode cX2_stepAtEach 21 = .ok (.getfield 9, 3) := by decide +kernel
theorem dX2_stepAtEach_24 : decode cX2_stepAtEach 24 = .ok (.aload_n 0, 1) := by decide +kernel
theorem dX2_stepAtEach_25 : decode cX2_stepAtEach 25 = .ok (.iload_n 2, 1) := by decide +kernel
theorem dX2_stepAtEach_26 : decode cX2_stepAtEach 26 = .ok (.iload_n 1, 1) := by decide +kernel
theorem dX2_stepAtEach_27 : decode cX2_stepAtEach 27 = .ok (.invokevirtual 39, 3) := by decide +kernel
theorem dX2_stepAtEach_30 : decode cX2_stepAtEach 30 = .ok (.aload_n 0, 1) := by decide +kernel
theorem dX2_stepAtEach_31 : decode cX2_stepAtEach 31 = .ok (.iload_n 2, 1) := by decide +kernel
theorem dX2_stepAtEach_32 : decode cX2_stepAtEach 32 = .ok (.iload_n 1, 1) := by decide +kernel
theorem dX2_stepAtEach_33 : decode cX2_stepAtEach 33 = .ok (.invokevirtual 57, 3) := by decide +kernel
theorem dX2_stepAtEach_36 : decode cX2_stepAtEach 36 = .ok (.iastore, 1) := by decide +kernel
theorem dX2_stepAtEach_37 : decode cX2_stepAtEach 37 = .ok (.iinc 2 1, 3) := by decide +kernel
theorem dX2_stepAtEach_40 : decode cX2_stepAtEach 40 = .ok (.goto (-28), 3) := by decide +kernel
theorem dX2_stepAtEach_43 : decode cX2_stepAtEach 43 = .ok (.iinc 1 1, 3) := by decide +kernel
theorem dX2_stepAtEach_46 : decode cX2_stepAtEach 46 = .ok (.goto (-44), 3) := by decide +kernel
theorem dX2_stepAtEach_49 : decode cX2_stepAtEach 49 = .ok (.return_, 1) := by decide +kernel
set_option maxRecDepth 20000 in
theorem ggX2_stepped_X2_at : GoodIn wsX2_stepped wsX2_at := goodIn_r _ [15] (by decide +kernel) (by decide +kernel)
set_option maxRecDepth 20000 in
theorem gX2_stepped_X2_at : GoodIn wsX2_stepped (wsV RX2 39 RX2 yX2_at wsX2_at) := goodIn_app (goodIn_of _ (by decide +kernel)) ggX2_stepped_X2_at
set_option maxRecDepth 20000 in
theorem ggX2_stepped_X2_putInOrder : GoodIn wsX2_stepped wsX2_putInOrder := goodIn_r _ [19, 1, 3, 20, 21, 22, 14, 23, 24, 25, 11, 12, 13, 15, 26, 27, 28, 29, 30] (by decide +kernel) (by decide +kernel)
set_option maxRecDepth 20000 in
theorem gX2_stepped_X2_putInOrder : GoodIn wsX2_stepped (wsV RX2 64 RX2 yX2_putInOrder wsX2_putInOrder) := goodIn_app (goodIn_of _ (by decide +kernel)) ggX2_stepped_X2_putInOrder
theorem dX2_stepped_0 : decode cX2_stepped 0 = .ok (.aload_n 0, 1) := by decide +kernel
theorem dX2_stepped_1 : decode cX2_stepped 1 = .ok (.getfield 9, 3) := by decide +kernel
theorem dX2_stepped_4 : decode cX2_stepped 4 = .ok (.aload_n 0, 1) := by decide +kernel
theorem dX2_stepped_5 : decode cX2_stepped 5 = .ok (.iload_n 1, 1) := by decide +kernel
theorem dX2_stepped_6 : decode cX2_stepped 6 = .ok (.iload_n 2, 1) := by decide +kernel
theorem dX2_stepped_7 : decode cX2_stepped 7 = .ok (.invokevirtual 39, 3) := by decide +kernel
theorem dX2_stepped_10 : decode cX2_stepped 10 = .ok (.iaload, 1) := by decide +kernel
theorem dX2_stepped_11 : decode cX2_stepped 11 = .ok (.istore_n 3, 1) := by decide +kernel
theorem dX2_stepped_12 : decode cX2_stepped 12 = .ok (.aload_n 0, 1) := by decide +kernel
theorem dX2_stepped_13 : decode cX2_stepped 13 = .ok (.getfield 15, 3) := by decide +kernel
theorem dX2_stepped_16 : decode cX2_stepped 16 = .ok (.aload_n 0, 1) := by decide +kernel
theorem dX2_stepped_17 : decode cX2_stepped 17 = .ok (.iload_n 1, 1) := by decide +kernel
theorem dX2_stepped_18 : decode cX2_stepped 18 = .ok (.iload_n 2, 1) := by decide +kernel
theorem dX2_stepped_19 : decode cX2_stepped 19 = .ok (.invokevirtual 39, 3) := by decide +kernel
theorem dX2_stepped_22 : decode cX2_stepped 22 = .ok (.baload, 1) := by decide +kernel
theorem dX2_stepped_23 : decode cX2_stepped 23 = .ok (.ifCond .eq 5, 3) := by decide +kernel
theorem dX2_stepped_26 : decode cX2_stepped 26 = .ok (.iload_n 3, 1) := by decide +kernel
theorem dX2_stepped_27 : decode cX2_stepped 27 = .ok (.ireturn, 1) := by decide +kernel
theorem dX2_stepped_28 : decode cX2_stepped 28 = .ok (.aload_n 0, 1) := by decide +kernel
theorem dX2_stepped_29 : decode cX2_stepped 29 = .ok (.iload_n 1, 1) := by decide +kernel
theorem dX2_stepped_30 : decode cX2_stepped 30 = .ok (.iconst 1, 1) := by decide +kernel
theorem dX2_stepped_31 : decode cX2_stepped 31 = .ok (.isub, 1) := by decide +kernel
theorem dX2_stepped_32 : decode cX2_stepped 32 = .ok (.iload_n 2, 1) := by decide +kernel
theorem dX2_stepped_33 : decode cX2_stepped 33 = .ok (.iconst 0, 1) := by decide +kernel
theorem dX2_stepped_34 : decode cX2_stepped 34 = .ok (.invokevirtual 64, 3) := by decide +kernel
theorem dX2_stepped_37 : decode cX2_stepped 37 = .ok (.istore 4, 2) := by decide +kernel
theorem dX2_stepped_39 : decode cX2_stepped 39 = .ok (.aload_n 0, 1) := by decide +kernel
theorem dX2_stepped_40 : decode cX2_stepped 40 = .ok (.iload_n 1, 1) := by decide +kernel
theorem dX2_stepped_41 : decode cX2_stepped 41 = .ok (.iconst 1, 1) := by decide +kernel
theorem dX2_stepped_42 : decode cX2_stepped 42 = .ok (.iadd, 1) := by decide +kernel
theorem dX2_stepped_43 : decode cX2_stepped 43 = .ok (.iload_n 2, 1) := by decide +kernel
theorem dX2_stepped_44 : decode cX2_stepped 44 = .ok (.iload 4, 2) := by decide +kernel
theorem dX2_stepped_46 : decode cX2_stepped 46 = .ok (.invokevirtual 64, 3) := by decide +kernel
theorem dX2_stepped_49 : decode cX2_stepped 49 = .ok (.istore 4, 2) := by decide +kernel
theorem dX2_stepped_51 : decode cX2_stepped 51 = .ok (.aload_n 0, 1) := by decide +kernel
theorem dX2_stepped_52 : decode cX2_stepped 52 = .ok (.iload_n 1, 1) := by decide +kernel
theorem dX2_stepped_53 : decode cX2_stepped 53 = .ok (.iload_n 2, 1) := by decide +kernel
theorem dX2_stepped_54 : decode cX2_stepped 54 = .ok (.iconst 1, 1) := by decide +kernel
theorem dX2_stepped_55 : decode cX2_stepped 55 = .ok (.isub, 1) := by decide +kernel
theorem dX2_stepped_56 : decode cX2_stepped 56 = .ok (.iload 4, 2) := by decide +kernel
theorem dX2_stepped_58 : decode cX2_stepped 58 = .ok (.invokevirtual 64, 3) := by decide +kernel
theorem dX2_stepped_61 : decode cX2_stepped 61 = .ok (.istore 4, 2) := by decide +kernel
theorem dX2_stepped_63 : decode cX2_stepped 63 = .ok (.aload_n 0, 1) := by decide +kernel
theorem dX2_stepped_64 : decode cX2_stepped 64 = .ok (.iload_n 1, 1) := by decide +kernel
theorem dX2_stepped_65 : decode cX2_stepped 65 = .ok (.iload_n 2, 1) := by decide +kernel
theorem dX2_stepped_66 : decode cX2_stepped 66 = .ok (.iconst 1, 1) := by decide +kernel
theorem dX2_stepped_67 : decode cX2_stepped 67 = .ok (.iadd, 1) := by decide +kernel
theorem dX2_stepped_68 : decode cX2_stepped 68 = .ok (.iload 4, 2) := by decide +kernel
theorem dX2_stepped_70 : decode cX2_stepped 70 = .ok (.invokevirtual 64, 3) := by decide +kernel
theorem dX2_stepped_73 : decode cX2_stepped 73 = .ok (.istore 4, 2) := by decide +kernel
theorem dX2_stepped_75 : decode cX2_stepped 75 = .ok (.aload_n 0, 1) := by decide +kernel
theorem dX2_stepped_76 : decode cX2_stepped 76 = .ok (.getfield 19, 3) := by decide +kernel
theorem dX2_stepped_79 : decode cX2_stepped 79 = .ok (.iload 4, 2) := by decide +kernel
theorem dX2_stepped_81 : decode cX2_stepped 81 = .ok (.iconst 1, 1) := by decide +kernel
theorem dX2_stepped_82 : decode cX2_stepped 82 = .ok (.isub, 1) := by decide +kernel
theorem dX2_stepped_83 : decode cX2_stepped 83 = .ok (.iconst 2, 1) := by decide +kernel
theorem dX2_stepped_84 : decode cX2_stepped 84 = .ok (.idiv, 1) := by decide +kernel
theorem dX2_stepped_85 : decode cX2_stepped 85 = .ok (.iaload, 1) := by decide +kernel
theorem dX2_stepped_86 : decode cX2_stepped 86 = .ok (.istore 5, 2) := by decide +kernel
theorem dX2_stepped_88 : decode cX2_stepped 88 = .ok (.aload_n 0, 1) := by decide +kernel
theorem dX2_stepped_89 : decode cX2_stepped 89 = .ok (.getfield 19, 3) := by decide +kernel
theorem dX2_stepped_92 : decode cX2_stepped 92 = .ok (.iload 4, 2) := by decide +kernel
theorem dX2_stepped_94 : decode cX2_stepped 94 = .ok (.iconst 2, 1) := by decide +kernel
theorem dX2_stepped_95 : decode cX2_stepped 95 = .ok (.idiv, 1) := by decide +kernel
theorem dX2_stepped_96 : decode cX2_stepped 96 = .ok (.iaload, 1) := by decide +kernel
theorem dX2_stepped_97 : decode cX2_stepped 97 = .ok (.istore 6, 2) := by decide +kernel
theorem dX2_stepped_99 : decode cX2_stepped 99 = .ok (.iload 5, 2) := by decide +kernel
theorem dX2_stepped_101 : decode cX2_stepped 101 = .ok (.iload 6, 2) := by decide +kernel
theorem dX2_stepped_103 : decode cX2_stepped 103 = .ok (.iload_n 3, 1) := by decide +kernel
theorem dX2_stepped_104 : decode cX2_stepped 104 = .ok (.invokestatic 68, 3) := by decide +kernel
theorem dX2_stepped_107 : decode cX2_stepped 107 = .ok (.invokestatic 71, 3) := by decide +kernel
theorem dX2_stepped_110 : decode cX2_stepped 110 = .ok (.ireturn, 1) := by decide +kernel
set_option maxRecDepth 20000 in
theorem ggX2_putInOrder_X2_has : GoodIn wsX2_putInOrder wsX2_has := goodIn_r _ [7, 8, 9, 14, 15, 16, 17, 18] (by decide +kernel) (by decide +kernel)
set_option maxRecDepth 20000 in
theorem gX2_putInOrder_X2_has : GoodIn wsX2_putInOrder (wsV RX2 47 RX2 yX2_has wsX2_has) := goodIn_app (goodIn_of _ (by decide +kernel)) ggX2_putInOrder_X2_has
set_option maxRecDepth 20000 in
theorem ggX2_putInOrder_X2_at : GoodIn wsX2_putInOrder wsX2_at := goodIn_r _ [13] (by decide +kernel) (by decide +kernel)
set_option maxRecDepth 20000 in
theorem gX2_putInOrder_X2_at : GoodIn wsX2_putInOrder (wsV RX2 39 RX2 yX2_at wsX2_at) := goodIn_app (goodIn_of _ (by decide +kernel)) ggX2_putInOrder_X2_at
theorem dX2_putInOrder_0 : decode cX2_putInOrder 0 = .ok (.aload_n 0, 1) := by decide +kernel
theorem dX2_putInOrder_1 : decode cX2_putInOrder 1 = .ok (.iload_n 1, 1) := by decide +kernel
theorem dX2_putInOrder_2 : decode cX2_putInOrder 2 = .ok (.iload_n 2, 1) := by decide +kernel
theorem dX2_putInOrder_3 : decode cX2_putInOrder 3 = .ok (.invokevirtual 47, 3) := by decide +kernel
theorem dX2_putInOrder_6 : decode cX2_putInOrder 6 = .ok (.ifCond .ne 5, 3) := by decide +kernel
theorem dX2_putInOrder_9 : decode cX2_putInOrder 9 = .ok (.iload_n 3, 1) := by decide +kernel
theorem dX2_putInOrder_10 : decode cX2_putInOrder 10 = .ok (.ireturn, 1) := by decide +kernel
theorem dX2_putInOrder_11 : decode cX2_putInOrder 11 = .ok (.aload_n 0, 1) := by decide +kernel
theorem dX2_putInOrder_12 : decode cX2_putInOrder 12 = .ok (.getfield 9, 3) := by decide +kernel
theorem dX2_putInOrder_15 : decode cX2_putInOrder 15 = .ok (.aload_n 0, 1) := by decide +kernel
theorem dX2_putInOrder_16 : decode cX2_putInOrder 16 = .ok (.iload_n 1, 1) := by decide +kernel
theorem dX2_putInOrder_17 : decode cX2_putInOrder 17 = .ok (.iload_n 2, 1) := by decide +kernel
theorem dX2_putInOrder_18 : decode cX2_putInOrder 18 = .ok (.invokevirtual 39, 3) := by decide +kernel
theorem dX2_putInOrder_21 : decode cX2_putInOrder 21 = .ok (.iaload, 1) := by decide +kernel
theorem dX2_putInOrder_22 : decode cX2_putInOrder 22 = .ok (.istore 4, 2) := by decide +kernel
theorem dX2_putInOrder_24 : decode cX2_putInOrder 24 = .ok (.iload_n 3, 1) := by decide +kernel
theorem dX2_putInOrder_25 : decode cX2_putInOrder 25 = .ok (.istore 5, 2) := by decide +kernel
theorem dX2_putInOrder_27 : decode cX2_putInOrder 27 = .ok (.iload 5, 2) := by decide +kernel
theorem dX2_putInOrder_29 : decode cX2_putInOrder 29 = .ok (.ifCond .le 39, 3) := by decide +kernel
theorem dX2_putInOrder_32 : decode cX2_putInOrder 32 = .ok (.aload_n 0, 1) := by decide +kernel
theorem dX2_putInOrder_33 : decode cX2_putInOrder 33 = .ok (.getfield 19, 3) := by decide +kernel
theorem dX2_putInOrder_36 : decode cX2_putInOrder 36 = .ok (.iload 5, 2) := by decide +kernel
theorem dX2_putInOrder_38 : decode cX2_putInOrder 38 = .ok (.iconst 1, 1) := by decide +kernel
theorem dX2_putInOrder_39 : decode cX2_putInOrder 39 = .ok (.isub, 1) := by decide +kernel
theorem dX2_putInOrder_40 : decode cX2_putInOrder 40 = .ok (.iaload, 1) := by decide +kernel
theorem dX2_putInOrder_41 : decode cX2_putInOrder 41 = .ok (.iload 4, 2) := by decide +kernel
theorem dX2_putInOrder_43 : decode cX2_putInOrder 43 = .ok (.if_icmp .le 25, 3) := by decide +kernel
theorem dX2_putInOrder_46 : decode cX2_putInOrder 46 = .ok (.aload_n 0, 1) := by decide +kernel
theorem dX2_putInOrder_47 : decode cX2_putInOrder 47 = .ok (.getfield 19, 3) := by decide +kernel
theorem dX2_putInOrder_50 : decode cX2_putInOrder 50 = .ok (.iload 5, 2) := by decide +kernel
theorem dX2_putInOrder_52 : decode cX2_putInOrder 52 = .ok (.aload_n 0, 1) := by decide +kernel
theorem dX2_putInOrder_53 : decode cX2_putInOrder 53 = .ok (.getfield 19, 3) := by decide +kernel
theorem dX2_putInOrder_56 : decode cX2_putInOrder 56 = .ok (.iload 5, 2) := by decide +kernel
theorem dX2_putInOrder_58 : decode cX2_putInOrder 58 = .ok (.iconst 1, 1) := by decide +kernel
theorem dX2_putInOrder_59 : decode cX2_putInOrder 59 = .ok (.isub, 1) := by decide +kernel
theorem dX2_putInOrder_60 : decode cX2_putInOrder 60 = .ok (.iaload, 1) := by decide +kernel
theorem dX2_putInOrder_61 : decode cX2_putInOrder 61 = .ok (.iastore, 1) := by decide +kernel
theorem dX2_putInOrder_62 : decode cX2_putInOrder 62 = .ok (.iinc 5 (-1), 3) := by decide +kernel
theorem dX2_putInOrder_65 : decode cX2_putInOrder 65 = .ok (.goto (-38), 3) := by decide +kernel
theorem dX2_putInOrder_68 : decode cX2_putInOrder 68 = .ok (.aload_n 0, 1) := by decide +kernel
theorem dX2_putInOrder_69 : decode cX2_putInOrder 69 = .ok (.getfield 19, 3) := by decide +kernel
theorem dX2_putInOrder_72 : decode cX2_putInOrder 72 = .ok (.iload 5, 2) := by decide +kernel
theorem dX2_putInOrder_74 : decode cX2_putInOrder 74 = .ok (.iload 4, 2) := by decide +kernel
theorem dX2_putInOrder_76 : decode cX2_putInOrder 76 = .ok (.iastore, 1) := by decide +kernel
theorem dX2_putInOrder_77 : decode cX2_putInOrder 77 = .ok (.iload_n 3, 1) := by decide +kernel
theorem dX2_putInOrder_78 : decode cX2_putInOrder 78 = .ok (.iconst 1, 1) := by decide +kernel
theorem dX2_putInOrder_79 : decode cX2_putInOrder 79 = .ok (.iadd, 1) := by decide +kernel
theorem dX2_putInOrder_80 : decode cX2_putInOrder 80 = .ok (.ireturn, 1) := by decide +kernel
theorem dJ7_fill_53178_0 : decode cJ7_fill_53178 0 = .ok (.iconst 0, 1) := by decide +kernel
theorem dJ7_fill_53178_1 : decode cJ7_fill_53178 1 = .ok (.istore_n 2, 1) := by decide +kernel
theorem dJ7_fill_53178_2 : decode cJ7_fill_53178 2 = .ok (.aload_n 0, 1) := by decide +kernel
theorem dJ7_fill_53178_3 : decode cJ7_fill_53178 3 = .ok (.arraylength, 1) := by decide +kernel
theorem dJ7_fill_53178_4 : decode cJ7_fill_53178 4 = .ok (.istore_n 3, 1) := by decide +kernel
theorem dJ7_fill_53178_5 : decode cJ7_fill_53178 5 = .ok (.iload_n 2, 1) := by decide +kernel
theorem dJ7_fill_53178_6 : decode cJ7_fill_53178 6 = .ok (.iload_n 3, 1) := by decide +kernel
theorem dJ7_fill_53178_7 : decode cJ7_fill_53178 7 = .ok (.if_icmp .ge 13, 3) := by decide +kernel
theorem dJ7_fill_53178_10 : decode cJ7_fill_53178 10 = .ok (.aload_n 0, 1) := by decide +kernel
theorem dJ7_fill_53178_11 : decode cJ7_fill_53178 11 = .ok (.iload_n 2, 1) := by decide +kernel
theorem dJ7_fill_53178_12 : decode cJ7_fill_53178 12 = .ok (.iload_n 1, 1) := by decide +kernel
theorem dJ7_fill_53178_13 : decode cJ7_fill_53178 13 = .ok (.iastore, 1) := by decide +kernel
theorem dJ7_fill_53178_14 : decode cJ7_fill_53178 14 = .ok (.iinc 2 1, 3) := by decide +kernel
theorem dJ7_fill_53178_17 : decode cJ7_fill_53178 17 = .ok (.goto (-12), 3) := by decide +kernel
theorem dJ7_fill_53178_20 : decode cJ7_fill_53178 20 = .ok (.return_, 1) := by decide +kernel
end
section
theorem bk_8 : (Int8.ofInt (8)).toInt32 = (8 : Int32) := by decide
theorem hde_X2_at : yX2_at.cls = RX2 ∧ yX2_at.cls ≠ "java/lang/invoke/MethodHandle" ∧ yX2_at.cls ≠ "java/lang/invoke/VarHandle" ∧ (parseMethodDescriptor yX2_at.desc).map (fun d => d.parameters.length) = some 2 := by decide +kernel
theorem hde_X2_difference : yX2_difference.cls = RX2 ∧ yX2_difference.cls ≠ "java/lang/invoke/MethodHandle" ∧ yX2_difference.cls ≠ "java/lang/invoke/VarHandle" ∧ (parseMethodDescriptor yX2_difference.desc).map (fun d => d.parameters.length) = some 4 := by decide +kernel
theorem hde_X2_has : yX2_has.cls = RX2 ∧ yX2_has.cls ≠ "java/lang/invoke/MethodHandle" ∧ yX2_has.cls ≠ "java/lang/invoke/VarHandle" ∧ (parseMethodDescriptor yX2_has.desc).map (fun d => d.parameters.length) = some 2 := by decide +kernel
theorem hde_X2_putInOrder : yX2_putInOrder.cls = RX2 ∧ yX2_putInOrder.cls ≠ "java/lang/invoke/MethodHandle" ∧ yX2_putInOrder.cls ≠ "java/lang/invoke/VarHandle" ∧ (parseMethodDescriptor yX2_putInOrder.desc).map (fun d => d.parameters.length) = some 3 := by decide +kernel
theorem hde_X2_stepped : yX2_stepped.cls = RX2 ∧ yX2_stepped.cls ≠ "java/lang/invoke/MethodHandle" ∧ yX2_stepped.cls ≠ "java/lang/invoke/VarHandle" ∧ (parseMethodDescriptor yX2_stepped.desc).map (fun d => d.parameters.length) = some 2 := by decide +kernel
theorem hde_X2_sumOfChanges : yX2_sumOfChanges.cls = RX2 ∧ yX2_sumOfChanges.cls ≠ "java/lang/invoke/MethodHandle" ∧ yX2_sumOfChanges.cls ≠ "java/lang/invoke/VarHandle" ∧ (parseMethodDescriptor yX2_sumOfChanges.desc).map (fun d => d.parameters.length) = some 0 := by decide +kernel
abbrev w1J7_fill_53178 (ad : Nat → Nat) (cA : Nat → ClassId) (ao no : Nat) (u : (Nat → Int32)) : va_W := [(ao, .inl (cA 0, no, .inl u))]
abbrev wcJ7_fill_53178 (ad : Nat → Nat) (cA : Nat → ClassId) (ao no : Nat) (Z_arr : Nat → Int32) : va_W := [(ao, .inl (cA 0, no, .inl Z_arr))]
def rmJ7_fill_53178 : Room := { frames := 0, cells := 0, slots := 0, locals := 0 }
abbrev atJ7_fill_53178_0 (X : gX) (ad : Nat → Nat) (cA : Nat → ClassId) (ao no : Nat) (p2 : Int32) (Z_arr : Nat → Int32) : Prop := gW X 0 0 [(ao, .inl (cA 0, no, .inl Z_arr))] 4 [(0, .ref ao), (1, .int p2)] [] 0
abbrev atJ7_fill_53178_5 (X : gX) (ad : Nat → Nat) (cA : Nat → ClassId) (ao no : Nat) (x1 : Int32) (x2 : Int32) (x3 : Int32) (Z_arr : Nat → Int32) : Prop := gW X 0 0 [(ao, .inl (cA 0, no, .inl Z_arr))] 4 [(0, .ref ao), (1, .int x1), (2, .int x2), (3, .int x3)] [] 5
set_option maxHeartbeats 4000000 in
set_option maxRecDepth 100000 in
theorem sgJ7_fill_53178_0 {X : gX} {ad : Nat → Nat} {cA : Nat → ClassId} {ao no : Nat} {post : ((Nat → Int32)) → Prop} {p2 : Int32} {Z_arr : Nat → Int32} (C : gC X (gT cA) cJ7_fill_53178 4 RJ7 wsJ7_fill_53178 rmJ7_fill_53178) (E : gEv X none (gT cA) 0 0 post (w1J7_fill_53178 ad cA ao no)) (h : atJ7_fill_53178_5 X ad cA ao no p2 (0 : Int32) (nI no) Z_arr) : atJ7_fill_53178_0 X ad cA ao no p2 Z_arr := by
  refine g_iconst C dJ7_fill_53178_0 ik_0 ?_
  refine g_istore_n (lv2 := [(0, .ref ao), (1, .int p2), (2, .int (0 : Int32))]) C dJ7_fill_53178_1 rfl (by decide) [1, 2, 0] rfl ?_
  refine g_aload_n C dJ7_fill_53178_2 rfl 0 rfl ?_
  refine g_alen C 0 0 rfl rfl rfl dJ7_fill_53178_3 ?_
  refine g_istore_n (lv2 := [(0, .ref ao), (1, .int p2), (2, .int (0 : Int32)), (3, .int (nI no))]) C dJ7_fill_53178_4 rfl (by decide) [1, 2, 3, 0] rfl ?_
  exact g_lv [0, 1, 2, 3] rfl h
set_option maxHeartbeats 4000000 in
set_option maxRecDepth 100000 in
theorem sgJ7_fill_53178_5 {X : gX} {ad : Nat → Nat} {cA : Nat → ClassId} {ao no : Nat} {post : ((Nat → Int32)) → Prop} {x1 : Int32} {x2 : Int32} {x3 : Int32} {Z_arr : Nat → Int32} (C : gC X (gT cA) cJ7_fill_53178 4 RJ7 wsJ7_fill_53178 rmJ7_fill_53178) (E : gEv X none (gT cA) 0 0 post (w1J7_fill_53178 ad cA ao no)) (h : (x3 ≤ x2 → post Z_arr) ∧ (¬ x3 ≤ x2 → vp_in x2 no ∧ atJ7_fill_53178_5 X ad cA ao no x1 (x2 + 1) x3 (upd Z_arr x2.toNatClampNeg x1))) : atJ7_fill_53178_5 X ad cA ao no x1 x2 x3 Z_arr := by
  refine g_iload_n C dJ7_fill_53178_5 rfl 2 rfl ?_
  refine g_iload_n C dJ7_fill_53178_6 rfl 3 rfl ?_
  refine g_icmp_ge (tgt := 20) C dJ7_fill_53178_7 (by decide) (fun c_1 => ?_) (fun c_1 => ?_)
  · replace h := h.1 c_1
    exact g_vret C E Z_arr h rfl dJ7_fill_53178_20
  · replace h := h.2 c_1
    refine g_aload_n C dJ7_fill_53178_10 rfl 0 rfl ?_
    refine g_iload_n C dJ7_fill_53178_11 rfl 2 rfl ?_
    refine g_iload_n C dJ7_fill_53178_12 rfl 1 rfl ?_
    obtain ⟨hi_2, h⟩ := h
    refine g_iast (ws2 := [(ao, .inl (cA 0, no, .inl (upd Z_arr x2.toNatClampNeg x1)))]) C 0 0 rfl rfl hi_2 rfl dJ7_fill_53178_13 ?_
    refine g_iinc (v := (x2 + 1)) (lv2 := [(0, .ref ao), (1, .int x1), (2, .int (x2 + 1)), (3, .int x3)]) C dJ7_fill_53178_14 2 rfl (by first | rfl | decide) (by decide) [1, 2, 0, 3] rfl ?_
    refine g_goto (tgt := 5) C dJ7_fill_53178_17 (by decide) ?_
    exact g_lv [0, 1, 2, 3] rfl h
def prJ7_fill_53178 (ao no : Nat) (p2 : Int32) (Z_arr : Nat → Int32) : Prop := no < 2147483648
set_option maxHeartbeats 4000000 in
set_option maxRecDepth 100000 in
theorem c_J7_fill_53178 (ad : Nat → Nat) (cA : Nat → ClassId) (ao no : Nat) (p2 : Int32) (Z_arr : Nat → Int32) (hq : prJ7_fill_53178 ao no p2 Z_arr) : ∀ (l : Launch) (D : va_G), gMv (S := (Nat → Int32)) l yJ7_fill_53178 wsJ7_fill_53178 rmJ7_fill_53178 D (gT cA) 0 0 [.ref ao, .int p2] (wcJ7_fill_53178 ad cA ao no Z_arr) (fun u => u = fillA no p2 Z_arr) (w1J7_fill_53178 ad cA ao no) := by
  intro l D
  unfold prJ7_fill_53178 at hq
  refine g_enterv (cc := cJ7_fill_53178) (nL := 4) (ret := none) (by decide) rfl (Nat.le_of_ble_eq_true rfl) rfl (fun X C E => ?_)
  refine sgJ7_fill_53178_0 C E ?_
  have loop : ∀ i, i ≤ no → atJ7_fill_53178_5 X ad cA ao no p2 (nI i) (nI no) (fillA i p2 Z_arr) := by
    intro i hi
    refine up_loop (P := fun i => atJ7_fill_53178_5 X ad cA ao no p2 (nI i) (nI no) (fillA i p2 Z_arr)) no ?_ (fun k hk ih => ?_) i hi
    · exact sgJ7_fill_53178_5 C E ⟨fun _ => rfl, fun c => absurd (i32_le_refl _) c⟩
    · refine sgJ7_fill_53178_5 C E ⟨fun c => absurd c (nI_ge hk (by omega)), fun _ => ⟨vp_in_nI hk (by omega), ?_⟩⟩
      rw [nI_1, nI_clamp (by omega)]
      have e : upd (fillA k p2 Z_arr) k p2 = fillA (k + 1) p2 Z_arr := by
        funext j
        unfold upd fillA
        by_cases h1 : j = k
        · rw [if_pos h1, if_pos (by omega)]
        · rw [if_neg h1]
          by_cases h2 : j < k
          · rw [if_pos h2, if_pos (by omega)]
          · rw [if_neg h2, if_neg (by omega)]
      rw [e]; exact ih
  have e0 : fillA 0 p2 Z_arr = Z_arr := by funext j; simp [fillA]
  have := loop 0 (Nat.zero_le _)
  rw [e0] at this
  exact this


abbrev w1X2_has (ad : Nat → Nat) (cA : Nat → ClassId) (P_wide : Int32) (P_high : Int32) (u : Unit) : va_W := [((ad 15), .inr (2, [.ref (ad 16), .ref (ad 17), .ref (ad 18), .int P_wide, .int P_high]))]
abbrev wcX2_has (ad : Nat → Nat) (cA : Nat → ClassId) (P_wide : Int32) (P_high : Int32) : va_W := [((ad 15), .inr (2, [.ref (ad 16), .ref (ad 17), .ref (ad 18), .int P_wide, .int P_high]))]
def rmX2_has : Room := { frames := 0, cells := 0, slots := 0, locals := 0 }
abbrev atX2_has_0 (X : gX) (ad : Nat → Nat) (cA : Nat → ClassId) (p1 : Int32) (p2 : Int32) (P_wide : Int32) (P_high : Int32) : Prop := gW X 0 0 [((ad 15), .inr (2, [.ref (ad 16), .ref (ad 17), .ref (ad 18), .int P_wide, .int P_high]))] 3 [(0, .ref (ad 15)), (1, .int p1), (2, .int p2)] [] 0
theorem giX2_has_X2 : ∀ w ∈ u_ws RX2 TX2 5, w ∈ wsX2_has := by decide +kernel
theorem gfX2_has_22 : gF wsX2_has RX2 22 2 3 RX2 TX2 5 := ⟨giX2_has_X2, by decide +kernel, rfl, by decide⟩
theorem gfX2_has_26 : gF wsX2_has RX2 26 2 4 RX2 TX2 5 := ⟨giX2_has_X2, by decide +kernel, rfl, by decide⟩
set_option maxHeartbeats 4000000 in
set_option maxRecDepth 100000 in
theorem sgX2_has_0 {X : gX} {ad : Nat → Nat} {cA : Nat → ClassId} {post : Int32 → (Unit) → Prop} {p1 : Int32} {p2 : Int32} {P_wide : Int32} {P_high : Int32} (C : gC X (gT cA) cX2_has 3 RX2 wsX2_has rmX2_has) (E : gEi X (some .boolean) (gT cA) 0 0 post (w1X2_has ad cA P_wide P_high)) (h : (p1 < 0 → post (0 : Int32) ()) ∧ (¬ p1 < 0 → (P_wide ≤ p1 → post (0 : Int32) ()) ∧ (¬ P_wide ≤ p1 → (p2 < 0 → post (0 : Int32) ()) ∧ (¬ p2 < 0 → (P_high ≤ p2 → post (0 : Int32) ()) ∧ (¬ P_high ≤ p2 → post (1 : Int32) ()))))) : atX2_has_0 X ad cA p1 p2 P_wide P_high := by
  refine g_iload_n C dX2_has_0 rfl 1 rfl ?_
  refine g_if_lt (tgt := 28) C dX2_has_1 (by decide) (fun c_1 => ?_) (fun c_1 => ?_)
  · replace h := h.1 c_1
    refine g_iconst C dX2_has_28 ik_0 ?_
    exact g_zret C E rfl () h rfl dX2_has_29
  · replace h := h.2 c_1
    refine g_iload_n C dX2_has_4 rfl 1 rfl ?_
    refine g_aload_n C dX2_has_5 rfl 0 rfl ?_
    refine g_get C gfX2_has_22 0 rfl rfl dX2_has_6 ?_
    refine g_icmp_ge (tgt := 28) C dX2_has_9 (by decide) (fun c_2 => ?_) (fun c_2 => ?_)
    · replace h := h.1 c_2
      refine g_iconst C dX2_has_28 ik_0 ?_
      exact g_zret C E rfl () h rfl dX2_has_29
    · replace h := h.2 c_2
      refine g_iload_n C dX2_has_12 rfl 2 rfl ?_
      refine g_if_lt (tgt := 28) C dX2_has_13 (by decide) (fun c_3 => ?_) (fun c_3 => ?_)
      · replace h := h.1 c_3
        refine g_iconst C dX2_has_28 ik_0 ?_
        exact g_zret C E rfl () h rfl dX2_has_29
      · replace h := h.2 c_3
        refine g_iload_n C dX2_has_16 rfl 2 rfl ?_
        refine g_aload_n C dX2_has_17 rfl 0 rfl ?_
        refine g_get C gfX2_has_26 0 rfl rfl dX2_has_18 ?_
        refine g_icmp_ge (tgt := 28) C dX2_has_21 (by decide) (fun c_4 => ?_) (fun c_4 => ?_)
        · replace h := h.1 c_4
          refine g_iconst C dX2_has_28 ik_0 ?_
          exact g_zret C E rfl () h rfl dX2_has_29
        · replace h := h.2 c_4
          refine g_iconst C dX2_has_24 ik_1 ?_
          refine g_goto (tgt := 29) C dX2_has_25 (by decide) ?_
          exact g_zret C E rfl () h rfl dX2_has_29
def fnX2_has (p1 : Int32) (p2 : Int32) (P_wide : Int32) (P_high : Int32) : Bool := (if p1 < 0 then false else (if P_wide ≤ p1 then false else (if p2 < 0 then false else (if P_high ≤ p2 then false else true))))
set_option maxHeartbeats 4000000 in
set_option maxRecDepth 100000 in
theorem c_X2_has (ad : Nat → Nat) (cA : Nat → ClassId) (p1 : Int32) (p2 : Int32) (P_wide : Int32) (P_high : Int32) : ∀ (l : Launch) (D : va_G), gMi (S := Unit) l yX2_has wsX2_has rmX2_has D (gT cA) 0 0 [.ref (ad 15), .int p1, .int p2] (wcX2_has ad cA P_wide P_high) (fun r _ => r = bI (fnX2_has p1 p2 P_wide P_high)) (w1X2_has ad cA P_wide P_high) := by
  intro l D
  refine g_enteri (cc := cX2_has) (nL := 3) (ret := (some .boolean)) (by decide) rfl (Nat.le_of_ble_eq_true rfl) rfl (fun X C E => sgX2_has_0 C E ?_)
  refine ⟨fun c_5 => ?_, fun c_5 => ?_⟩
  · exact (by unfold fnX2_has; first | rfl | (simp only [if_pos c_5]; done) | (simp only [if_pos c_5]; rfl))
  · refine ⟨fun c_6 => ?_, fun c_6 => ?_⟩
    · exact (by unfold fnX2_has; first | rfl | (simp only [if_neg c_5, if_pos c_6]; done) | (simp only [if_neg c_5, if_pos c_6]; rfl))
    · refine ⟨fun c_7 => ?_, fun c_7 => ?_⟩
      · exact (by unfold fnX2_has; first | rfl | (simp only [if_neg c_5, if_neg c_6, if_pos c_7]; done) | (simp only [if_neg c_5, if_neg c_6, if_pos c_7]; rfl))
      · refine ⟨fun c_8 => ?_, fun c_8 => ?_⟩
        · exact (by unfold fnX2_has; first | rfl | (simp only [if_neg c_5, if_neg c_6, if_neg c_7, if_pos c_8]; done) | (simp only [if_neg c_5, if_neg c_6, if_neg c_7, if_pos c_8]; rfl))
        · exact (by unfold fnX2_has; first | rfl | (simp only [if_neg c_5, if_neg c_6, if_neg c_7, if_neg c_8]; done) | (simp only [if_neg c_5, if_neg c_6, if_neg c_7, if_neg c_8]; rfl))

abbrev w1X2_at (ad : Nat → Nat) (cA : Nat → ClassId) (P_wide : Int32) (P_high : Int32) (u : Unit) : va_W := [((ad 15), .inr (2, [.ref (ad 16), .ref (ad 17), .ref (ad 18), .int P_wide, .int P_high]))]
abbrev wcX2_at (ad : Nat → Nat) (cA : Nat → ClassId) (P_wide : Int32) (P_high : Int32) : va_W := [((ad 15), .inr (2, [.ref (ad 16), .ref (ad 17), .ref (ad 18), .int P_wide, .int P_high]))]
def rmX2_at : Room := { frames := 0, cells := 0, slots := 0, locals := 0 }
abbrev atX2_at_0 (X : gX) (ad : Nat → Nat) (cA : Nat → ClassId) (p1 : Int32) (p2 : Int32) (P_wide : Int32) (P_high : Int32) : Prop := gW X 0 0 [((ad 15), .inr (2, [.ref (ad 16), .ref (ad 17), .ref (ad 18), .int P_wide, .int P_high]))] 3 [(0, .ref (ad 15)), (1, .int p1), (2, .int p2)] [] 0
set_option maxHeartbeats 4000000 in
set_option maxRecDepth 100000 in
theorem sgX2_at_0 {X : gX} {ad : Nat → Nat} {cA : Nat → ClassId} {post : Int32 → (Unit) → Prop} {p1 : Int32} {p2 : Int32} {P_wide : Int32} {P_high : Int32} (C : gC X (gT cA) cX2_at 3 RX2 wsX2_at rmX2_at) (E : gEi X (some .int) (gT cA) 0 0 post (w1X2_at ad cA P_wide P_high)) (h : post ((p2 * (8 : Int32)) + p1) ()) : atX2_at_0 X ad cA p1 p2 P_wide P_high := by
  refine g_iload_n C dX2_at_0 rfl 2 rfl ?_
  refine g_bipush C dX2_at_1 bk_8 ?_
  refine g_imul C dX2_at_3 ?_
  refine g_iload_n C dX2_at_4 rfl 1 rfl ?_
  refine g_iadd C dX2_at_5 ?_
  exact g_iret C E () h rfl dX2_at_6
def fnX2_at (p1 : Int32) (p2 : Int32) (P_wide : Int32) (P_high : Int32) : Int32 := ((p2 * (8 : Int32)) + p1)
set_option maxHeartbeats 4000000 in
set_option maxRecDepth 100000 in
theorem c_X2_at (ad : Nat → Nat) (cA : Nat → ClassId) (p1 : Int32) (p2 : Int32) (P_wide : Int32) (P_high : Int32) : ∀ (l : Launch) (D : va_G), gMi (S := Unit) l yX2_at wsX2_at rmX2_at D (gT cA) 0 0 [.ref (ad 15), .int p1, .int p2] (wcX2_at ad cA P_wide P_high) (fun r _ => r = fnX2_at p1 p2 P_wide P_high) (w1X2_at ad cA P_wide P_high) := by
  intro l D
  refine g_enteri (cc := cX2_at) (nL := 3) (ret := (some .int)) (by decide) rfl (Nat.le_of_ble_eq_true rfl) rfl (fun X C E => sgX2_at_0 C E ?_)
  exact (by unfold fnX2_at; first | rfl | (simp only []; done) | (simp only []; rfl))

theorem at_eq (x y : Nat) (a b : Int32) : fnX2_at (nI x) (nI y) a b = nI (8 * y + x) := by
  show nI y * nI 8 + nI x = _
  rw [pk_mul, nI_add, Nat.mul_comm]
theorem at_iI (x y : Int) (a b : Int32) : fnX2_at (iI x) (iI y) a b = iI (8 * y + x) := by
  show iI y * iI 8 + iI x = _
  rw [iI_mul, iI_add, Int.mul_comm]
theorem has_iI {a b : Int} {w h : Nat} (ha : -100 ≤ a ∧ a ≤ 100) (hb : -100 ≤ b ∧ b ≤ 100) (hw : w ≤ 8) (hh : h ≤ 8) : fnX2_has (iI a) (iI b) (nI w) (nI h) = decide (0 ≤ a ∧ a < w ∧ 0 ≤ b ∧ b < h) := by
  have e1 : (iI a).toInt = a := toInt_iI (by omega) (by omega)
  have e2 : (iI b).toInt = b := toInt_iI (by omega) (by omega)
  have e3 : (nI w).toInt = w := nI_toInt (by omega)
  have e4 : (nI h).toInt = h := nI_toInt (by omega)
  have e0 : (0 : Int32).toInt = 0 := rfl
  unfold fnX2_has
  simp only [Int32.lt_iff_toInt_lt, Int32.le_iff_toInt_le, e0, e1, e2, e3, e4]
  by_cases h1 : a < 0
  · rw [if_pos h1]; exact (decide_eq_false (by omega)).symm
  · rw [if_neg h1]
    by_cases h2 : (w : Int) ≤ a
    · rw [if_pos h2]; exact (decide_eq_false (by omega)).symm
    · rw [if_neg h2]
      by_cases h3 : b < 0
      · rw [if_pos h3]; exact (decide_eq_false (by omega)).symm
      · rw [if_neg h3]
        by_cases h4 : (h : Int) ≤ b
        · rw [if_pos h4]; exact (decide_eq_false (by omega)).symm
        · rw [if_neg h4]; exact (decide_eq_true (by omega)).symm
theorem at_in {a b : Int} (h : 0 ≤ a ∧ a < 8 ∧ 0 ≤ b ∧ b < 8) (p q : Int32) : vp_in (fnX2_at (iI a) (iI b) p q) 64 := by
  rw [at_iI, vp_in_iff, toInt_iI (by omega) (by omega)]
  omega

abbrev w1X2_putInOrder (ad : Nat → Nat) (cA : Nat → ClassId) (P_wide : Int32) (P_high : Int32) (P_heights : Nat → Int32) (u : (Nat → Int32)) : va_W := [((ad 15), .inr (2, [.ref (ad 16), .ref (ad 17), .ref (ad 18), .int P_wide, .int P_high])), ((ad 16), .inl (cA 0, 64, .inl P_heights)), ((ad 18), .inl (cA 0, 4, .inl u))]
abbrev wcX2_putInOrder (ad : Nat → Nat) (cA : Nat → ClassId) (P_wide : Int32) (P_high : Int32) (P_heights : Nat → Int32) (P_near : Nat → Int32) : va_W := [((ad 15), .inr (2, [.ref (ad 16), .ref (ad 17), .ref (ad 18), .int P_wide, .int P_high])), ((ad 16), .inl (cA 0, 64, .inl P_heights)), ((ad 18), .inl (cA 0, 4, .inl P_near))]
def rmX2_putInOrder : Room := { frames := 1, cells := 0, slots := 0, locals := 22 }
abbrev atX2_putInOrder_0 (X : gX) (ad : Nat → Nat) (cA : Nat → ClassId) (p1 : Int32) (p2 : Int32) (p3 : Int32) (P_wide : Int32) (P_high : Int32) (P_heights : Nat → Int32) (P_near : Nat → Int32) : Prop := gW X 0 0 [((ad 15), .inr (2, [.ref (ad 16), .ref (ad 17), .ref (ad 18), .int P_wide, .int P_high])), ((ad 16), .inl (cA 0, 64, .inl P_heights)), ((ad 18), .inl (cA 0, 4, .inl P_near))] 6 [(0, .ref (ad 15)), (1, .int p1), (2, .int p2), (3, .int p3)] [] 0
abbrev atX2_putInOrder_27 (X : gX) (ad : Nat → Nat) (cA : Nat → ClassId) (x3 : Int32) (x4 : Int32) (x5 : Int32) (P_wide : Int32) (P_high : Int32) (P_heights : Nat → Int32) (P_near : Nat → Int32) : Prop := gW X 0 0 [((ad 15), .inr (2, [.ref (ad 16), .ref (ad 17), .ref (ad 18), .int P_wide, .int P_high])), ((ad 16), .inl (cA 0, 64, .inl P_heights)), ((ad 18), .inl (cA 0, 4, .inl P_near))] 6 [(0, .ref (ad 15)), (3, .int x3), (4, .int x4), (5, .int x5)] [] 27
theorem giX2_putInOrder_X2 : ∀ w ∈ u_ws RX2 TX2 5, w ∈ wsX2_putInOrder := by decide +kernel
theorem gfX2_putInOrder_9 : gF wsX2_putInOrder RX2 9 2 0 RX2 TX2 5 := ⟨giX2_putInOrder_X2, by decide +kernel, rfl, by decide⟩
theorem gfX2_putInOrder_19 : gF wsX2_putInOrder RX2 19 2 2 RX2 TX2 5 := ⟨giX2_putInOrder_X2, by decide +kernel, rfl, by decide⟩
set_option maxHeartbeats 4000000 in
set_option maxRecDepth 100000 in
theorem sgX2_putInOrder_0 {X : gX} {ad : Nat → Nat} {cA : Nat → ClassId} {post : Int32 → ((Nat → Int32)) → Prop} {p1 : Int32} {p2 : Int32} {p3 : Int32} {P_wide : Int32} {P_high : Int32} {P_heights : Nat → Int32} {P_near : Nat → Int32} (C : gC X (gT cA) cX2_putInOrder 6 RX2 wsX2_putInOrder rmX2_putInOrder) (E : gEi X (some .int) (gT cA) 0 0 post (w1X2_putInOrder ad cA P_wide P_high P_heights)) (h : ((fnX2_has p1 p2 P_wide P_high) = true → vp_in (fnX2_at p1 p2 P_wide P_high) 64 ∧ ∀ x4_5 : Int32, x4_5 = (P_heights (fnX2_at p1 p2 P_wide P_high).toNatClampNeg) → atX2_putInOrder_27 X ad cA p3 x4_5 p3 P_wide P_high P_heights P_near) ∧ ((fnX2_has p1 p2 P_wide P_high) = false → post p3 P_near)) : atX2_putInOrder_0 X ad cA p1 p2 p3 P_wide P_high P_heights P_near := by
  refine g_aload_n C dX2_putInOrder_0 rfl 0 rfl ?_
  refine g_iload_n C dX2_putInOrder_1 rfl 1 rfl ?_
  refine g_iload_n C dX2_putInOrder_2 rfl 2 rfl ?_
  refine g_callVi (wr := [((ad 16), .inl (cA 0, 64, .inl P_heights)), ((ad 18), .inl (cA 0, 4, .inl P_near))]) C (c_X2_has ad cA p1 p2 P_wide P_high) gX2_putInOrder_X2_has rfl hde_X2_has ⟨rfl, rfl⟩ (by decide) (by decide) [0] [1, 2] [2, 0, 1] rfl rfl rfl rfl (by decide) rfl (ws2 := fun u => [((ad 15), .inr (2, [.ref (ad 16), .ref (ad 17), .ref (ad 18), .int P_wide, .int P_high])), ((ad 16), .inl (cA 0, 64, .inl P_heights)), ((ad 18), .inl (cA 0, 4, .inl P_near))]) (fun _ => rfl) 2 0 rfl rfl rfl (rest := []) rfl (Nat.le_of_ble_eq_true rfl) dX2_putInOrder_3 (fun r_1 u_1 hp_1 => ?_)
  subst hp_1
  change gW X 0 0 [((ad 15), .inr (2, [.ref (ad 16), .ref (ad 17), .ref (ad 18), .int P_wide, .int P_high])), ((ad 16), .inl (cA 0, 64, .inl P_heights)), ((ad 18), .inl (cA 0, 4, .inl P_near))] 6 [(0, .ref (ad 15)), (1, .int p1), (2, .int p2), (3, .int p3)] [.int (bI (fnX2_has p1 p2 P_wide P_high))] 6
  refine g_ifne_b (tgt := 11) C dX2_putInOrder_6 (by decide) (fun c_2 => ?_) (fun c_2 => ?_)
  · replace h := h.1 c_2
    refine g_aload_n C dX2_putInOrder_11 rfl 0 rfl ?_
    refine g_get C gfX2_putInOrder_9 0 rfl rfl dX2_putInOrder_12 ?_
    refine g_aload_n C dX2_putInOrder_15 rfl 0 rfl ?_
    refine g_iload_n C dX2_putInOrder_16 rfl 1 rfl ?_
    refine g_iload_n C dX2_putInOrder_17 rfl 2 rfl ?_
    refine g_callVi (wr := [((ad 16), .inl (cA 0, 64, .inl P_heights)), ((ad 18), .inl (cA 0, 4, .inl P_near))]) C (c_X2_at ad cA p1 p2 P_wide P_high) gX2_putInOrder_X2_at rfl hde_X2_at ⟨rfl, rfl⟩ (by decide) (by decide) [0] [1, 2] [2, 0, 1] rfl rfl rfl rfl (by decide) rfl (ws2 := fun u => [((ad 15), .inr (2, [.ref (ad 16), .ref (ad 17), .ref (ad 18), .int P_wide, .int P_high])), ((ad 16), .inl (cA 0, 64, .inl P_heights)), ((ad 18), .inl (cA 0, 4, .inl P_near))]) (fun _ => rfl) 2 0 rfl rfl rfl (rest := [.ref (ad 16)]) rfl (Nat.le_of_ble_eq_true rfl) dX2_putInOrder_18 (fun r_3 u_3 hp_3 => ?_)
    subst hp_3
    change gW X 0 0 [((ad 15), .inr (2, [.ref (ad 16), .ref (ad 17), .ref (ad 18), .int P_wide, .int P_high])), ((ad 16), .inl (cA 0, 64, .inl P_heights)), ((ad 18), .inl (cA 0, 4, .inl P_near))] 6 [(0, .ref (ad 15)), (1, .int p1), (2, .int p2), (3, .int p3)] [.int (fnX2_at p1 p2 P_wide P_high), .ref (ad 16)] 21
    obtain ⟨hi_4, h⟩ := h
    refine g_iald C 1 0 rfl rfl hi_4 dX2_putInOrder_21 ?_
    refine g_topi (fun x4_5 ex4_5 => ?_)
    replace h := h x4_5 ex4_5
    refine g_istore (lv2 := [(0, .ref (ad 15)), (1, .int p1), (2, .int p2), (3, .int p3), (4, .int x4_5)]) C dX2_putInOrder_22 (by decide) [1, 2, 3, 4, 0] rfl ?_
    refine g_iload_n C dX2_putInOrder_24 rfl 3 rfl ?_
    refine g_istore (lv2 := [(0, .ref (ad 15)), (1, .int p1), (2, .int p2), (3, .int p3), (4, .int x4_5), (5, .int p3)]) C dX2_putInOrder_25 (by decide) [1, 2, 3, 4, 5, 0] rfl ?_
    exact g_lv [0, 3, 4, 5] rfl h
  · replace h := h.2 c_2
    refine g_iload_n C dX2_putInOrder_9 rfl 3 rfl ?_
    exact g_iret C E P_near h rfl dX2_putInOrder_10
set_option maxHeartbeats 4000000 in
set_option maxRecDepth 100000 in
theorem sgX2_putInOrder_27 {X : gX} {ad : Nat → Nat} {cA : Nat → ClassId} {post : Int32 → ((Nat → Int32)) → Prop} {x3 : Int32} {x4 : Int32} {x5 : Int32} {P_wide : Int32} {P_high : Int32} {P_heights : Nat → Int32} {P_near : Nat → Int32} (C : gC X (gT cA) cX2_putInOrder 6 RX2 wsX2_putInOrder rmX2_putInOrder) (E : gEi X (some .int) (gT cA) 0 0 post (w1X2_putInOrder ad cA P_wide P_high P_heights)) (h : (x5 ≤ 0 → vp_in x5 4 ∧ post (x3 + (1 : Int32)) (upd P_near x5.toNatClampNeg x4)) ∧ (¬ x5 ≤ 0 → vp_in (x5 - (1 : Int32)) 4 ∧ ((P_near (x5 - (1 : Int32)).toNatClampNeg) ≤ x4 → vp_in x5 4 ∧ post (x3 + (1 : Int32)) (upd P_near x5.toNatClampNeg x4)) ∧ (¬ (P_near (x5 - (1 : Int32)).toNatClampNeg) ≤ x4 → vp_in (x5 - (1 : Int32)) 4 ∧ vp_in x5 4 ∧ atX2_putInOrder_27 X ad cA x3 x4 (x5 + (-1)) P_wide P_high P_heights (upd P_near x5.toNatClampNeg (P_near (x5 - (1 : Int32)).toNatClampNeg))))) : atX2_putInOrder_27 X ad cA x3 x4 x5 P_wide P_high P_heights P_near := by
  refine g_iload C dX2_putInOrder_27 3 rfl ?_
  refine g_if_le (tgt := 68) C dX2_putInOrder_29 (by decide) (fun c_6 => ?_) (fun c_6 => ?_)
  · replace h := h.1 c_6
    refine g_aload_n C dX2_putInOrder_68 rfl 0 rfl ?_
    refine g_get C gfX2_putInOrder_19 0 rfl rfl dX2_putInOrder_69 ?_
    refine g_iload C dX2_putInOrder_72 3 rfl ?_
    refine g_iload C dX2_putInOrder_74 2 rfl ?_
    obtain ⟨hi_7, h⟩ := h
    refine g_iast (ws2 := [((ad 15), .inr (2, [.ref (ad 16), .ref (ad 17), .ref (ad 18), .int P_wide, .int P_high])), ((ad 16), .inl (cA 0, 64, .inl P_heights)), ((ad 18), .inl (cA 0, 4, .inl (upd P_near x5.toNatClampNeg x4)))]) C 2 0 rfl rfl hi_7 rfl dX2_putInOrder_76 ?_
    refine g_iload_n C dX2_putInOrder_77 rfl 1 rfl ?_
    refine g_iconst C dX2_putInOrder_78 ik_1 ?_
    refine g_iadd C dX2_putInOrder_79 ?_
    exact g_iret C E (upd P_near x5.toNatClampNeg x4) h rfl dX2_putInOrder_80
  · replace h := h.2 c_6
    refine g_aload_n C dX2_putInOrder_32 rfl 0 rfl ?_
    refine g_get C gfX2_putInOrder_19 0 rfl rfl dX2_putInOrder_33 ?_
    refine g_iload C dX2_putInOrder_36 3 rfl ?_
    refine g_iconst C dX2_putInOrder_38 ik_1 ?_
    refine g_isub C dX2_putInOrder_39 ?_
    obtain ⟨hi_8, h⟩ := h
    refine g_iald C 2 0 rfl rfl hi_8 dX2_putInOrder_40 ?_
    refine g_iload C dX2_putInOrder_41 2 rfl ?_
    refine g_icmp_le (tgt := 68) C dX2_putInOrder_43 (by decide) (fun c_9 => ?_) (fun c_9 => ?_)
    · replace h := h.1 c_9
      refine g_aload_n C dX2_putInOrder_68 rfl 0 rfl ?_
      refine g_get C gfX2_putInOrder_19 0 rfl rfl dX2_putInOrder_69 ?_
      refine g_iload C dX2_putInOrder_72 3 rfl ?_
      refine g_iload C dX2_putInOrder_74 2 rfl ?_
      obtain ⟨hi_10, h⟩ := h
      refine g_iast (ws2 := [((ad 15), .inr (2, [.ref (ad 16), .ref (ad 17), .ref (ad 18), .int P_wide, .int P_high])), ((ad 16), .inl (cA 0, 64, .inl P_heights)), ((ad 18), .inl (cA 0, 4, .inl (upd P_near x5.toNatClampNeg x4)))]) C 2 0 rfl rfl hi_10 rfl dX2_putInOrder_76 ?_
      refine g_iload_n C dX2_putInOrder_77 rfl 1 rfl ?_
      refine g_iconst C dX2_putInOrder_78 ik_1 ?_
      refine g_iadd C dX2_putInOrder_79 ?_
      exact g_iret C E (upd P_near x5.toNatClampNeg x4) h rfl dX2_putInOrder_80
    · replace h := h.2 c_9
      refine g_aload_n C dX2_putInOrder_46 rfl 0 rfl ?_
      refine g_get C gfX2_putInOrder_19 0 rfl rfl dX2_putInOrder_47 ?_
      refine g_iload C dX2_putInOrder_50 3 rfl ?_
      refine g_aload_n C dX2_putInOrder_52 rfl 0 rfl ?_
      refine g_get C gfX2_putInOrder_19 0 rfl rfl dX2_putInOrder_53 ?_
      refine g_iload C dX2_putInOrder_56 3 rfl ?_
      refine g_iconst C dX2_putInOrder_58 ik_1 ?_
      refine g_isub C dX2_putInOrder_59 ?_
      obtain ⟨hi_11, h⟩ := h
      refine g_iald C 2 0 rfl rfl hi_11 dX2_putInOrder_60 ?_
      obtain ⟨hi_12, h⟩ := h
      refine g_iast (ws2 := [((ad 15), .inr (2, [.ref (ad 16), .ref (ad 17), .ref (ad 18), .int P_wide, .int P_high])), ((ad 16), .inl (cA 0, 64, .inl P_heights)), ((ad 18), .inl (cA 0, 4, .inl (upd P_near x5.toNatClampNeg (P_near (x5 - (1 : Int32)).toNatClampNeg))))]) C 2 0 rfl rfl hi_12 rfl dX2_putInOrder_61 ?_
      refine g_iinc (v := (x5 + (-1))) (lv2 := [(0, .ref (ad 15)), (3, .int x3), (4, .int x4), (5, .int (x5 + (-1)))]) C dX2_putInOrder_62 3 rfl (by first | rfl | decide) (by decide) [1, 2, 3, 0] rfl ?_
      refine g_goto (tgt := 27) C dX2_putInOrder_65 (by decide) ?_
      exact g_lv [0, 1, 2, 3] rfl h
def prX2_putInOrder (p1 : Int32) (p2 : Int32) (p3 : Int32) (P_wide : Int32) (P_high : Int32) (P_heights : Nat → Int32) (P_near : Nat → Int32) : Prop := vp_in p3 4 ∧ (fnX2_has p1 p2 P_wide P_high = true → vp_in (fnX2_at p1 p2 P_wide P_high) 64)
def po_X2_putInOrder (ad : Nat → Nat) (cA : Nat → ClassId) (p1 : Int32) (p2 : Int32) (p3 : Int32) (P_wide : Int32) (P_high : Int32) (P_heights : Nat → Int32) (P_near : Nat → Int32) (r : Int32) (u : (Nat → Int32)) : Prop := (fnX2_has p1 p2 P_wide P_high = true → r = p3 + 1 ∧ u = insA P_near p3.toNatClampNeg (P_heights (fnX2_at p1 p2 P_wide P_high).toNatClampNeg)) ∧ (fnX2_has p1 p2 P_wide P_high = false → r = p3 ∧ u = P_near)
set_option maxHeartbeats 4000000 in
set_option maxRecDepth 100000 in
theorem c_X2_putInOrder (ad : Nat → Nat) (cA : Nat → ClassId) (p1 : Int32) (p2 : Int32) (p3 : Int32) (P_wide : Int32) (P_high : Int32) (P_heights : Nat → Int32) (P_near : Nat → Int32) (hq : prX2_putInOrder p1 p2 p3 P_wide P_high P_heights P_near) : ∀ (l : Launch) (D : va_G), gMi (S := (Nat → Int32)) l yX2_putInOrder wsX2_putInOrder rmX2_putInOrder D (gT cA) 0 0 [.ref (ad 15), .int p1, .int p2, .int p3] (wcX2_putInOrder ad cA P_wide P_high P_heights P_near) (po_X2_putInOrder ad cA p1 p2 p3 P_wide P_high P_heights P_near) (w1X2_putInOrder ad cA P_wide P_high P_heights) := by
  intro l D
  unfold prX2_putInOrder at hq
  refine g_enteri (cc := cX2_putInOrder) (nL := 6) (ret := (some .int)) (by decide) rfl (Nat.le_of_ble_eq_true rfl) rfl (fun X C E => ?_)
  obtain ⟨h3, hat⟩ := hq
  obtain ⟨j, hj, rfl⟩ := vp_in_of h3 (by decide)
  refine sgX2_putInOrder_0 C E ⟨fun c1 => ⟨hat c1, fun v ev => ?_⟩, fun c1 => ⟨fun c2 => absurd (c1.symm.trans c2) (by decide), fun _ => ⟨rfl, rfl⟩⟩⟩
  have hpo : ∀ (r : Int32) (u : Nat → Int32), r = nI j + 1 → u = insA P_near j v → po_X2_putInOrder ad cA p1 p2 (nI j) P_wide P_high P_heights P_near r u := fun r u h1 h2 => ⟨fun _ => ⟨h1, by rw [nI_clamp (by omega), ← ev]; exact h2⟩, fun c2 => absurd (c1.symm.trans c2) (by decide)⟩
  have loop : ∀ (i : Nat) (g : Nat → Int32), i < 4 → insA g i v = insA P_near j v → atX2_putInOrder_27 X ad cA (nI j) v (nI i) P_wide P_high P_heights g := by
    intro i
    induction i with
    | zero =>
      intro g _ e
      refine sgX2_putInOrder_27 C E ⟨fun _ => ⟨vp_in_nI (by omega) (by decide), hpo _ _ rfl ?_⟩, fun c => absurd (nI_le (Nat.le_refl 0) (by decide)) c⟩
      rw [← e, nI_clamp (by decide)]; rfl
    | succ i ih =>
      intro g hi e
      have e1 : nI (i + 1) - 1 = nI i := nI_pred i
      have hc : vp_in (nI i) 4 := vp_in_nI (by omega) (by decide)
      refine sgX2_putInOrder_27 C E ⟨fun c => absurd c (nI_nle (by omega) (by omega)), fun _ => ?_⟩
      rw [e1, nI_clamp (by omega)]
      refine ⟨hc, fun c => ⟨vp_in_nI (by omega) (by decide), hpo _ _ rfl ?_⟩, fun c => ⟨hc, vp_in_nI (by omega) (by decide), ?_⟩⟩
      · rw [← e, nI_clamp (by omega)]
        show _ = insA g (i + 1) v
        rw [insA, if_neg (by rw [Int32.not_lt]; exact c)]
      · rw [show nI (i + 1) + (-1) = nI i from pk_m1 i, nI_clamp (by omega)]
        refine ih _ (by omega) ?_
        rw [← e]
        show _ = insA g (i + 1) v
        rw [insA, if_pos (by rw [← Int32.not_le]; exact c)]
  exact loop j P_near hj rfl


/-- one neighbour put in its place -/
theorem put_step {ad : Nat → Nat} {cA : Nat → ClassId} {a b : Int} {w h : Nat} (ha : -1 ≤ a ∧ a ≤ 8) (hb : -1 ≤ b ∧ b ≤ 8) (hw : w ≤ 8) (hh : h ≤ 8) {q : Nat × (Nat → Int32)} {r : Int32} {u H : Nat → Int32} {p1 p2 : Int32} (e1 : p1 = iI a) (e2 : p2 = iI b) (hp : po_X2_putInOrder ad cA p1 p2 (nI q.1) (nI w) (nI h) H q.2 r u) (hq4 : q.1 < 4) {c : Bool} {n : Nat} (hc : decide (0 ≤ a ∧ a < w ∧ 0 ≤ b ∧ b < h) = c) (hn : c = true → (n : Int) = 8 * b + a) : r = nI (pst c (H n) q).1 ∧ u = (pst c (H n) q).2 := by
  subst e1; subst e2
  obtain ⟨h1, h2⟩ := hp
  have hh := has_iI (a := a) (b := b) (w := w) (h := h) (by omega) (by omega) hw hh
  rw [hc] at hh
  cases hcc : c
  · rw [hcc] at hh; obtain ⟨g1, g2⟩ := h2 hh; exact ⟨g1, g2⟩
  · rw [hcc] at hh; obtain ⟨g1, g2⟩ := h1 hh
    have hn := hn hcc
    rw [nI_clamp (by omega), at_iI, ← hn, iI_nI, nI_clamp (by have := of_decide_eq_true (hc.trans hcc); omega)] at g2
    exact ⟨by rw [g1]; exact nI_1 _, g2⟩
theorem put_pre {a b : Int} {w h : Nat} (ha : -1 ≤ a ∧ a ≤ 8) (hb : -1 ≤ b ∧ b ≤ 8) (hw : w ≤ 8) (hh : h ≤ 8) {q : Nat × (Nat → Int32)} {H : Nat → Int32} {p1 p2 : Int32} (e1 : p1 = iI a) (e2 : p2 = iI b) (hq4 : q.1 < 4) : prX2_putInOrder p1 p2 (nI q.1) (nI w) (nI h) H q.2 := by
  subst e1; subst e2
  refine ⟨vp_in_nI hq4 (by decide), fun c => ?_⟩
  rw [has_iI (by omega) (by omega) hw hh] at c
  have := of_decide_eq_true c
  exact at_in (by omega) _ _

abbrev w1X2_stepped (ad : Nat → Nat) (cA : Nat → ClassId) (P_wide : Int32) (P_high : Int32) (P_heights : Nat → Int32) (P_pinned : Nat → Int32) (u : (Nat → Int32)) : va_W := [((ad 15), .inr (2, [.ref (ad 16), .ref (ad 17), .ref (ad 18), .int P_wide, .int P_high])), ((ad 16), .inl (cA 0, 64, .inl P_heights)), ((ad 17), .inl (cA 2, 64, .inl P_pinned)), ((ad 18), .inl (cA 0, 4, .inl u))]
abbrev wcX2_stepped (ad : Nat → Nat) (cA : Nat → ClassId) (P_wide : Int32) (P_high : Int32) (P_heights : Nat → Int32) (P_pinned : Nat → Int32) (P_near : Nat → Int32) : va_W := [((ad 15), .inr (2, [.ref (ad 16), .ref (ad 17), .ref (ad 18), .int P_wide, .int P_high])), ((ad 16), .inl (cA 0, 64, .inl P_heights)), ((ad 17), .inl (cA 2, 64, .inl P_pinned)), ((ad 18), .inl (cA 0, 4, .inl P_near))]
def rmX2_stepped : Room := { frames := 2, cells := 0, slots := 0, locals := 47 }
abbrev atX2_stepped_0 (X : gX) (ad : Nat → Nat) (cA : Nat → ClassId) (p1 : Int32) (p2 : Int32) (P_wide : Int32) (P_high : Int32) (P_heights : Nat → Int32) (P_pinned : Nat → Int32) (P_near : Nat → Int32) : Prop := gW X 0 0 [((ad 15), .inr (2, [.ref (ad 16), .ref (ad 17), .ref (ad 18), .int P_wide, .int P_high])), ((ad 16), .inl (cA 0, 64, .inl P_heights)), ((ad 17), .inl (cA 2, 64, .inl P_pinned)), ((ad 18), .inl (cA 0, 4, .inl P_near))] 7 [(0, .ref (ad 15)), (1, .int p1), (2, .int p2)] [] 0
theorem mmX2_stepped_68a : Cond.methodLink RX2 68 Lib.Math.min.name ∈ wsX2_stepped := by decide +kernel
theorem mmX2_stepped_68b : Cond.static Lib.Math.min.name ∈ wsX2_stepped := by decide +kernel
theorem mmX2_stepped_68c : Cond.initialized "java/lang/Math" ∈ wsX2_stepped := by decide +kernel
theorem mmX2_stepped_68d : Cond.code Lib.Math.min.name Lib.Math.min.code 2 (some .int) ∈ wsX2_stepped := by decide +kernel
theorem mmX2_stepped_71a : Cond.methodLink RX2 71 Lib.Math.max.name ∈ wsX2_stepped := by decide +kernel
theorem mmX2_stepped_71b : Cond.static Lib.Math.max.name ∈ wsX2_stepped := by decide +kernel
theorem mmX2_stepped_71c : Cond.initialized "java/lang/Math" ∈ wsX2_stepped := by decide +kernel
theorem mmX2_stepped_71d : Cond.code Lib.Math.max.name Lib.Math.max.code 2 (some .int) ∈ wsX2_stepped := by decide +kernel
theorem giX2_stepped_X2 : ∀ w ∈ u_ws RX2 TX2 5, w ∈ wsX2_stepped := by decide +kernel
theorem gfX2_stepped_9 : gF wsX2_stepped RX2 9 2 0 RX2 TX2 5 := ⟨giX2_stepped_X2, by decide +kernel, rfl, by decide⟩
theorem gfX2_stepped_15 : gF wsX2_stepped RX2 15 2 1 RX2 TX2 5 := ⟨giX2_stepped_X2, by decide +kernel, rfl, by decide⟩
theorem gfX2_stepped_19 : gF wsX2_stepped RX2 19 2 2 RX2 TX2 5 := ⟨giX2_stepped_X2, by decide +kernel, rfl, by decide⟩
set_option maxHeartbeats 4000000 in
set_option maxRecDepth 100000 in
theorem sgX2_stepped_0 {X : gX} {ad : Nat → Nat} {cA : Nat → ClassId} {post : Int32 → ((Nat → Int32)) → Prop} {p1 : Int32} {p2 : Int32} {P_wide : Int32} {P_high : Int32} {P_heights : Nat → Int32} {P_pinned : Nat → Int32} {P_near : Nat → Int32} (C : gC X (gT cA) cX2_stepped 7 RX2 wsX2_stepped rmX2_stepped) (E : gEi X (some .int) (gT cA) 0 0 post (w1X2_stepped ad cA P_wide P_high P_heights P_pinned)) (h : vp_in (fnX2_at p1 p2 P_wide P_high) 64 ∧ ∀ x3_3 : Int32, x3_3 = (P_heights (fnX2_at p1 p2 P_wide P_high).toNatClampNeg) → vp_in (fnX2_at p1 p2 P_wide P_high) 64 ∧ ((P_pinned (fnX2_at p1 p2 P_wide P_high).toNatClampNeg) = 0 → prX2_putInOrder (p1 - (1 : Int32)) p2 (0 : Int32) P_wide P_high P_heights P_near ∧ ∀ (r_8 : Int32) (u8_P_near : Nat → Int32), po_X2_putInOrder ad cA (p1 - (1 : Int32)) p2 (0 : Int32) P_wide P_high P_heights P_near r_8 u8_P_near → prX2_putInOrder (p1 + (1 : Int32)) p2 r_8 P_wide P_high P_heights u8_P_near ∧ ∀ (r_10 : Int32) (u10_P_near : Nat → Int32), po_X2_putInOrder ad cA (p1 + (1 : Int32)) p2 r_8 P_wide P_high P_heights u8_P_near r_10 u10_P_near → prX2_putInOrder p1 (p2 - (1 : Int32)) r_10 P_wide P_high P_heights u10_P_near ∧ ∀ (r_12 : Int32) (u12_P_near : Nat → Int32), po_X2_putInOrder ad cA p1 (p2 - (1 : Int32)) r_10 P_wide P_high P_heights u10_P_near r_12 u12_P_near → prX2_putInOrder p1 (p2 + (1 : Int32)) r_12 P_wide P_high P_heights u12_P_near ∧ ∀ (r_14 : Int32) (u14_P_near : Nat → Int32), po_X2_putInOrder ad cA p1 (p2 + (1 : Int32)) r_12 P_wide P_high P_heights u12_P_near r_14 u14_P_near → vp_in ((r_14 - (1 : Int32)) / (2 : Int32)) 4 ∧ ∀ x5_16 : Int32, x5_16 = (u14_P_near ((r_14 - (1 : Int32)) / (2 : Int32)).toNatClampNeg) → vp_in (r_14 / (2 : Int32)) 4 ∧ ∀ x6_18 : Int32, x6_18 = (u14_P_near (r_14 / (2 : Int32)).toNatClampNeg) → post (if x5_16 < (if x3_3 < x6_18 then x3_3 else x6_18) then (if x3_3 < x6_18 then x3_3 else x6_18) else x5_16) u14_P_near) ∧ (¬ (P_pinned (fnX2_at p1 p2 P_wide P_high).toNatClampNeg) = 0 → post x3_3 P_near)) : atX2_stepped_0 X ad cA p1 p2 P_wide P_high P_heights P_pinned P_near := by
  refine g_aload_n C dX2_stepped_0 rfl 0 rfl ?_
  refine g_get C gfX2_stepped_9 0 rfl rfl dX2_stepped_1 ?_
  refine g_aload_n C dX2_stepped_4 rfl 0 rfl ?_
  refine g_iload_n C dX2_stepped_5 rfl 1 rfl ?_
  refine g_iload_n C dX2_stepped_6 rfl 2 rfl ?_
  refine g_callVi (wr := [((ad 16), .inl (cA 0, 64, .inl P_heights)), ((ad 17), .inl (cA 2, 64, .inl P_pinned)), ((ad 18), .inl (cA 0, 4, .inl P_near))]) C (c_X2_at ad cA p1 p2 P_wide P_high) gX2_stepped_X2_at rfl hde_X2_at ⟨rfl, rfl⟩ (by decide) (by decide) [0] [1, 2, 3] [3, 0, 1, 2] rfl rfl rfl rfl (by decide) rfl (ws2 := fun u => [((ad 15), .inr (2, [.ref (ad 16), .ref (ad 17), .ref (ad 18), .int P_wide, .int P_high])), ((ad 16), .inl (cA 0, 64, .inl P_heights)), ((ad 17), .inl (cA 2, 64, .inl P_pinned)), ((ad 18), .inl (cA 0, 4, .inl P_near))]) (fun _ => rfl) 2 0 rfl rfl rfl (rest := [.ref (ad 16)]) rfl (Nat.le_of_ble_eq_true rfl) dX2_stepped_7 (fun r_1 u_1 hp_1 => ?_)
  subst hp_1
  change gW X 0 0 [((ad 15), .inr (2, [.ref (ad 16), .ref (ad 17), .ref (ad 18), .int P_wide, .int P_high])), ((ad 16), .inl (cA 0, 64, .inl P_heights)), ((ad 17), .inl (cA 2, 64, .inl P_pinned)), ((ad 18), .inl (cA 0, 4, .inl P_near))] 7 [(0, .ref (ad 15)), (1, .int p1), (2, .int p2)] [.int (fnX2_at p1 p2 P_wide P_high), .ref (ad 16)] 10
  obtain ⟨hi_2, h⟩ := h
  refine g_iald C 1 0 rfl rfl hi_2 dX2_stepped_10 ?_
  refine g_topi (fun x3_3 ex3_3 => ?_)
  replace h := h x3_3 ex3_3
  refine g_istore_n (lv2 := [(0, .ref (ad 15)), (1, .int p1), (2, .int p2), (3, .int x3_3)]) C dX2_stepped_11 rfl (by decide) [1, 2, 3, 0] rfl ?_
  refine g_aload_n C dX2_stepped_12 rfl 0 rfl ?_
  refine g_get C gfX2_stepped_15 0 rfl rfl dX2_stepped_13 ?_
  refine g_aload_n C dX2_stepped_16 rfl 0 rfl ?_
  refine g_iload_n C dX2_stepped_17 rfl 1 rfl ?_
  refine g_iload_n C dX2_stepped_18 rfl 2 rfl ?_
  refine g_callVi (wr := [((ad 16), .inl (cA 0, 64, .inl P_heights)), ((ad 17), .inl (cA 2, 64, .inl P_pinned)), ((ad 18), .inl (cA 0, 4, .inl P_near))]) C (c_X2_at ad cA p1 p2 P_wide P_high) gX2_stepped_X2_at rfl hde_X2_at ⟨rfl, rfl⟩ (by decide) (by decide) [0] [1, 2, 3] [3, 0, 1, 2] rfl rfl rfl rfl (by decide) rfl (ws2 := fun u => [((ad 15), .inr (2, [.ref (ad 16), .ref (ad 17), .ref (ad 18), .int P_wide, .int P_high])), ((ad 16), .inl (cA 0, 64, .inl P_heights)), ((ad 17), .inl (cA 2, 64, .inl P_pinned)), ((ad 18), .inl (cA 0, 4, .inl P_near))]) (fun _ => rfl) 2 0 rfl rfl rfl (rest := [.ref (ad 17)]) rfl (Nat.le_of_ble_eq_true rfl) dX2_stepped_19 (fun r_4 u_4 hp_4 => ?_)
  subst hp_4
  change gW X 0 0 [((ad 15), .inr (2, [.ref (ad 16), .ref (ad 17), .ref (ad 18), .int P_wide, .int P_high])), ((ad 16), .inl (cA 0, 64, .inl P_heights)), ((ad 17), .inl (cA 2, 64, .inl P_pinned)), ((ad 18), .inl (cA 0, 4, .inl P_near))] 7 [(0, .ref (ad 15)), (1, .int p1), (2, .int p2), (3, .int x3_3)] [.int (fnX2_at p1 p2 P_wide P_high), .ref (ad 17)] 22
  obtain ⟨hi_5, h⟩ := h
  refine g_zald C 2 2 rfl rfl hi_5 dX2_stepped_22 ?_
  refine g_if_eq (tgt := 28) C dX2_stepped_23 (by decide) (fun c_6 => ?_) (fun c_6 => ?_)
  · replace h := h.1 c_6
    refine g_aload_n C dX2_stepped_28 rfl 0 rfl ?_
    refine g_iload_n C dX2_stepped_29 rfl 1 rfl ?_
    refine g_iconst C dX2_stepped_30 ik_1 ?_
    refine g_isub C dX2_stepped_31 ?_
    refine g_iload_n C dX2_stepped_32 rfl 2 rfl ?_
    refine g_iconst C dX2_stepped_33 ik_0 ?_
    obtain ⟨hi_7, h⟩ := h
    refine g_callVi (wr := [((ad 17), .inl (cA 2, 64, .inl P_pinned))]) C (c_X2_putInOrder ad cA (p1 - (1 : Int32)) p2 (0 : Int32) P_wide P_high P_heights P_near hi_7) gX2_stepped_X2_putInOrder rfl hde_X2_putInOrder ⟨rfl, rfl⟩ (by decide) (by decide) [0, 1, 3] [2] [1, 2, 0, 3] rfl rfl rfl rfl (by decide) rfl (ws2 := fun u => [((ad 15), .inr (2, [.ref (ad 16), .ref (ad 17), .ref (ad 18), .int P_wide, .int P_high])), ((ad 16), .inl (cA 0, 64, .inl P_heights)), ((ad 17), .inl (cA 2, 64, .inl P_pinned)), ((ad 18), .inl (cA 0, 4, .inl u))]) (fun _ => rfl) 2 0 rfl rfl rfl (rest := []) rfl (Nat.le_of_ble_eq_true rfl) dX2_stepped_34 (fun r_8 u_8 hp_8 => ?_)
    obtain ⟨u8_P_near, rfl⟩ : ∃ z, z = u_8 := ⟨_, rfl⟩
    replace h := h r_8 u8_P_near hp_8
    change gW X 0 0 [((ad 15), .inr (2, [.ref (ad 16), .ref (ad 17), .ref (ad 18), .int P_wide, .int P_high])), ((ad 16), .inl (cA 0, 64, .inl P_heights)), ((ad 17), .inl (cA 2, 64, .inl P_pinned)), ((ad 18), .inl (cA 0, 4, .inl u8_P_near))] 7 [(0, .ref (ad 15)), (1, .int p1), (2, .int p2), (3, .int x3_3)] [.int r_8] 37
    refine g_istore (lv2 := [(0, .ref (ad 15)), (1, .int p1), (2, .int p2), (3, .int x3_3), (4, .int r_8)]) C dX2_stepped_37 (by decide) [1, 2, 3, 4, 0] rfl ?_
    refine g_aload_n C dX2_stepped_39 rfl 0 rfl ?_
    refine g_iload_n C dX2_stepped_40 rfl 1 rfl ?_
    refine g_iconst C dX2_stepped_41 ik_1 ?_
    refine g_iadd C dX2_stepped_42 ?_
    refine g_iload_n C dX2_stepped_43 rfl 2 rfl ?_
    refine g_iload C dX2_stepped_44 4 rfl ?_
    obtain ⟨hi_9, h⟩ := h
    refine g_callVi (wr := [((ad 17), .inl (cA 2, 64, .inl P_pinned))]) C (c_X2_putInOrder ad cA (p1 + (1 : Int32)) p2 r_8 P_wide P_high P_heights u8_P_near hi_9) gX2_stepped_X2_putInOrder rfl hde_X2_putInOrder ⟨rfl, rfl⟩ (by decide) (by decide) [0, 1, 3] [2] [1, 2, 0, 3] rfl rfl rfl rfl (by decide) rfl (ws2 := fun u => [((ad 15), .inr (2, [.ref (ad 16), .ref (ad 17), .ref (ad 18), .int P_wide, .int P_high])), ((ad 16), .inl (cA 0, 64, .inl P_heights)), ((ad 17), .inl (cA 2, 64, .inl P_pinned)), ((ad 18), .inl (cA 0, 4, .inl u))]) (fun _ => rfl) 2 0 rfl rfl rfl (rest := []) rfl (Nat.le_of_ble_eq_true rfl) dX2_stepped_46 (fun r_10 u_10 hp_10 => ?_)
    obtain ⟨u10_P_near, rfl⟩ : ∃ z, z = u_10 := ⟨_, rfl⟩
    replace h := h r_10 u10_P_near hp_10
    change gW X 0 0 [((ad 15), .inr (2, [.ref (ad 16), .ref (ad 17), .ref (ad 18), .int P_wide, .int P_high])), ((ad 16), .inl (cA 0, 64, .inl P_heights)), ((ad 17), .inl (cA 2, 64, .inl P_pinned)), ((ad 18), .inl (cA 0, 4, .inl u10_P_near))] 7 [(0, .ref (ad 15)), (1, .int p1), (2, .int p2), (3, .int x3_3), (4, .int r_8)] [.int r_10] 49
    refine g_istore (lv2 := [(0, .ref (ad 15)), (1, .int p1), (2, .int p2), (3, .int x3_3), (4, .int r_10)]) C dX2_stepped_49 (by decide) [1, 2, 3, 4, 0] rfl ?_
    refine g_aload_n C dX2_stepped_51 rfl 0 rfl ?_
    refine g_iload_n C dX2_stepped_52 rfl 1 rfl ?_
    refine g_iload_n C dX2_stepped_53 rfl 2 rfl ?_
    refine g_iconst C dX2_stepped_54 ik_1 ?_
    refine g_isub C dX2_stepped_55 ?_
    refine g_iload C dX2_stepped_56 4 rfl ?_
    obtain ⟨hi_11, h⟩ := h
    refine g_callVi (wr := [((ad 17), .inl (cA 2, 64, .inl P_pinned))]) C (c_X2_putInOrder ad cA p1 (p2 - (1 : Int32)) r_10 P_wide P_high P_heights u10_P_near hi_11) gX2_stepped_X2_putInOrder rfl hde_X2_putInOrder ⟨rfl, rfl⟩ (by decide) (by decide) [0, 1, 3] [2] [1, 2, 0, 3] rfl rfl rfl rfl (by decide) rfl (ws2 := fun u => [((ad 15), .inr (2, [.ref (ad 16), .ref (ad 17), .ref (ad 18), .int P_wide, .int P_high])), ((ad 16), .inl (cA 0, 64, .inl P_heights)), ((ad 17), .inl (cA 2, 64, .inl P_pinned)), ((ad 18), .inl (cA 0, 4, .inl u))]) (fun _ => rfl) 2 0 rfl rfl rfl (rest := []) rfl (Nat.le_of_ble_eq_true rfl) dX2_stepped_58 (fun r_12 u_12 hp_12 => ?_)
    obtain ⟨u12_P_near, rfl⟩ : ∃ z, z = u_12 := ⟨_, rfl⟩
    replace h := h r_12 u12_P_near hp_12
    change gW X 0 0 [((ad 15), .inr (2, [.ref (ad 16), .ref (ad 17), .ref (ad 18), .int P_wide, .int P_high])), ((ad 16), .inl (cA 0, 64, .inl P_heights)), ((ad 17), .inl (cA 2, 64, .inl P_pinned)), ((ad 18), .inl (cA 0, 4, .inl u12_P_near))] 7 [(0, .ref (ad 15)), (1, .int p1), (2, .int p2), (3, .int x3_3), (4, .int r_10)] [.int r_12] 61
    refine g_istore (lv2 := [(0, .ref (ad 15)), (1, .int p1), (2, .int p2), (3, .int x3_3), (4, .int r_12)]) C dX2_stepped_61 (by decide) [1, 2, 3, 4, 0] rfl ?_
    refine g_aload_n C dX2_stepped_63 rfl 0 rfl ?_
    refine g_iload_n C dX2_stepped_64 rfl 1 rfl ?_
    refine g_iload_n C dX2_stepped_65 rfl 2 rfl ?_
    refine g_iconst C dX2_stepped_66 ik_1 ?_
    refine g_iadd C dX2_stepped_67 ?_
    refine g_iload C dX2_stepped_68 4 rfl ?_
    obtain ⟨hi_13, h⟩ := h
    refine g_callVi (wr := [((ad 17), .inl (cA 2, 64, .inl P_pinned))]) C (c_X2_putInOrder ad cA p1 (p2 + (1 : Int32)) r_12 P_wide P_high P_heights u12_P_near hi_13) gX2_stepped_X2_putInOrder rfl hde_X2_putInOrder ⟨rfl, rfl⟩ (by decide) (by decide) [0, 1, 3] [2] [1, 2, 0, 3] rfl rfl rfl rfl (by decide) rfl (ws2 := fun u => [((ad 15), .inr (2, [.ref (ad 16), .ref (ad 17), .ref (ad 18), .int P_wide, .int P_high])), ((ad 16), .inl (cA 0, 64, .inl P_heights)), ((ad 17), .inl (cA 2, 64, .inl P_pinned)), ((ad 18), .inl (cA 0, 4, .inl u))]) (fun _ => rfl) 2 0 rfl rfl rfl (rest := []) rfl (Nat.le_of_ble_eq_true rfl) dX2_stepped_70 (fun r_14 u_14 hp_14 => ?_)
    obtain ⟨u14_P_near, rfl⟩ : ∃ z, z = u_14 := ⟨_, rfl⟩
    replace h := h r_14 u14_P_near hp_14
    change gW X 0 0 [((ad 15), .inr (2, [.ref (ad 16), .ref (ad 17), .ref (ad 18), .int P_wide, .int P_high])), ((ad 16), .inl (cA 0, 64, .inl P_heights)), ((ad 17), .inl (cA 2, 64, .inl P_pinned)), ((ad 18), .inl (cA 0, 4, .inl u14_P_near))] 7 [(0, .ref (ad 15)), (1, .int p1), (2, .int p2), (3, .int x3_3), (4, .int r_12)] [.int r_14] 73
    refine g_istore (lv2 := [(0, .ref (ad 15)), (1, .int p1), (2, .int p2), (3, .int x3_3), (4, .int r_14)]) C dX2_stepped_73 (by decide) [1, 2, 3, 4, 0] rfl ?_
    refine g_aload_n C dX2_stepped_75 rfl 0 rfl ?_
    refine g_get C gfX2_stepped_19 0 rfl rfl dX2_stepped_76 ?_
    refine g_iload C dX2_stepped_79 4 rfl ?_
    refine g_iconst C dX2_stepped_81 ik_1 ?_
    refine g_isub C dX2_stepped_82 ?_
    refine g_iconst C dX2_stepped_83 ik_2 ?_
    refine g_idiv C dX2_stepped_84 (by decide) ?_
    obtain ⟨hi_15, h⟩ := h
    refine g_iald C 3 0 rfl rfl hi_15 dX2_stepped_85 ?_
    refine g_topi (fun x5_16 ex5_16 => ?_)
    replace h := h x5_16 ex5_16
    refine g_istore (lv2 := [(0, .ref (ad 15)), (1, .int p1), (2, .int p2), (3, .int x3_3), (4, .int r_14), (5, .int x5_16)]) C dX2_stepped_86 (by decide) [1, 2, 3, 4, 5, 0] rfl ?_
    refine g_aload_n C dX2_stepped_88 rfl 0 rfl ?_
    refine g_get C gfX2_stepped_19 0 rfl rfl dX2_stepped_89 ?_
    refine g_iload C dX2_stepped_92 4 rfl ?_
    refine g_iconst C dX2_stepped_94 ik_2 ?_
    refine g_idiv C dX2_stepped_95 (by decide) ?_
    obtain ⟨hi_17, h⟩ := h
    refine g_iald C 3 0 rfl rfl hi_17 dX2_stepped_96 ?_
    refine g_topi (fun x6_18 ex6_18 => ?_)
    replace h := h x6_18 ex6_18
    refine g_istore (lv2 := [(0, .ref (ad 15)), (1, .int p1), (2, .int p2), (3, .int x3_3), (4, .int r_14), (5, .int x5_16), (6, .int x6_18)]) C dX2_stepped_97 (by decide) [1, 2, 3, 4, 5, 6, 0] rfl ?_
    refine g_iload C dX2_stepped_99 5 rfl ?_
    refine g_iload C dX2_stepped_101 6 rfl ?_
    refine g_iload_n C dX2_stepped_103 rfl 3 rfl ?_
    refine g_mmin C mmX2_stepped_68a mmX2_stepped_68b mmX2_stepped_68c mmX2_stepped_68d (by decide) (Nat.le_of_ble_eq_true rfl) (by decide) (by decide) dX2_stepped_104 ?_
    refine g_mmax C mmX2_stepped_71a mmX2_stepped_71b mmX2_stepped_71c mmX2_stepped_71d (by decide) (Nat.le_of_ble_eq_true rfl) (by decide) (by decide) dX2_stepped_107 ?_
    exact g_iret C E u14_P_near h rfl dX2_stepped_110
  · replace h := h.2 c_6
    refine g_iload_n C dX2_stepped_26 rfl 3 rfl ?_
    exact g_iret C E P_near h rfl dX2_stepped_27
def prX2_stepped (p1 : Int32) (p2 : Int32) (P_wide : Int32) (P_high : Int32) (P_heights : Nat → Int32) (P_pinned : Nat → Int32) (P_near : Nat → Int32) : Prop := ∃ (w h x y : Nat), 2 ≤ w ∧ w ≤ 8 ∧ 2 ≤ h ∧ h ≤ 8 ∧ P_wide = nI w ∧ P_high = nI h ∧ x < w ∧ y < h ∧ p1 = nI x ∧ p2 = nI y
def po_X2_stepped (ad : Nat → Nat) (cA : Nat → ClassId) (p1 : Int32) (p2 : Int32) (P_wide : Int32) (P_high : Int32) (P_heights : Nat → Int32) (P_pinned : Nat → Int32) (P_near : Nat → Int32) (r : Int32) (u : (Nat → Int32)) : Prop := r = stp P_wide.toNatClampNeg P_high.toNatClampNeg P_pinned P_heights p1.toNatClampNeg p2.toNatClampNeg
set_option maxHeartbeats 4000000 in
set_option maxRecDepth 100000 in
theorem c_X2_stepped (ad : Nat → Nat) (cA : Nat → ClassId) (p1 : Int32) (p2 : Int32) (P_wide : Int32) (P_high : Int32) (P_heights : Nat → Int32) (P_pinned : Nat → Int32) (P_near : Nat → Int32) (hq : prX2_stepped p1 p2 P_wide P_high P_heights P_pinned P_near) : ∀ (l : Launch) (D : va_G), gMi (S := (Nat → Int32)) l yX2_stepped wsX2_stepped rmX2_stepped D (gT cA) 0 0 [.ref (ad 15), .int p1, .int p2] (wcX2_stepped ad cA P_wide P_high P_heights P_pinned P_near) (po_X2_stepped ad cA p1 p2 P_wide P_high P_heights P_pinned P_near) (w1X2_stepped ad cA P_wide P_high P_heights P_pinned) := by
  intro l D
  unfold prX2_stepped at hq
  refine g_enteri (cc := cX2_stepped) (nL := 7) (ret := (some .int)) (by decide) rfl (Nat.le_of_ble_eq_true rfl) rfl (fun X C E => ?_)
  obtain ⟨w, h, x, y, hw2, hw, hh2, hh, rfl, rfl, hx, hy, rfl, rfl⟩ := hq
  have hpo : ∀ (r : Int32) (u : Nat → Int32), r = stp w h P_pinned P_heights x y → po_X2_stepped ad cA (nI x) (nI y) (nI w) (nI h) P_heights P_pinned P_near r u := fun r u e => by
    unfold po_X2_stepped
    rw [nI_clamp (by omega), nI_clamp (by omega), nI_clamp (by omega), nI_clamp (by omega)]; exact e
  have hin : vp_in (nI (8 * y + x)) 64 := vp_in_nI (by omega) (by decide)
  have m1 : nI x - 1 = iI ((x : Int) - 1) := by rw [← iI_nI, ← iI_sub]; rfl
  have p1 : nI x + 1 = iI ((x : Int) + 1) := by rw [← iI_nI, ← iI_add]; rfl
  have m2 : nI y - 1 = iI ((y : Int) - 1) := by rw [← iI_nI, ← iI_sub]; rfl
  have p2 : nI y + 1 = iI ((y : Int) + 1) := by rw [← iI_nI, ← iI_add]; rfl
  have x0 : nI x = iI (x : Int) := (iI_nI x).symm
  have y0 : nI y = iI (y : Int) := (iI_nI y).symm
  refine sgX2_stepped_0 C E ?_
  rw [at_eq, nI_clamp (by omega)]
  refine ⟨hin, fun o eo => ⟨hin, fun c => ⟨put_pre (a := (x : Int) - 1) (b := y) (by omega) (by omega) hw hh (q := (0, P_near)) m1 y0 (show 0 < 4 by decide), fun r1 u1 q1 => ?_⟩, fun c => ?_⟩⟩
  · obtain ⟨rfl, rfl⟩ := put_step (by omega) (by omega) hw hh (q := (0, P_near)) m1 y0 q1 (show 0 < 4 by decide) (c := decide (0 < x)) (n := 8 * y + (x - 1)) (by rw [decide_eq_decide]; omega) (fun c => by have := of_decide_eq_true c; omega)
    have k1 := pst_1 (decide (0 < x)) (P_heights (8 * y + (x - 1))) (0, P_near)
    generalize hQ1 : pst (decide (0 < x)) (P_heights (8 * y + (x - 1))) (0, P_near) = Q1 at *
    have c1 : Q1.1 ≤ 1 := by rw [k1]; show 0 + _ ≤ 1; split <;> omega
    refine ⟨put_pre (a := (x : Int) + 1) (b := y) (by omega) (by omega) hw hh p1 y0 (by omega), fun r2 u2 q2 => ?_⟩
    obtain ⟨rfl, rfl⟩ := put_step (by omega) (by omega) hw hh p1 y0 q2 (by omega) (c := decide (x + 1 < w)) (n := 8 * y + (x + 1)) (by rw [decide_eq_decide]; omega) (fun c => by omega)
    have k2 := pst_1 (decide (x + 1 < w)) (P_heights (8 * y + (x + 1))) Q1
    generalize hQ2 : pst (decide (x + 1 < w)) (P_heights (8 * y + (x + 1))) Q1 = Q2 at *
    have c2 : Q2.1 ≤ 2 := by rw [k2]; split <;> omega
    refine ⟨put_pre (a := (x : Int)) (b := (y : Int) - 1) (by omega) (by omega) hw hh x0 m2 (by omega), fun r3 u3 q3 => ?_⟩
    obtain ⟨rfl, rfl⟩ := put_step (by omega) (by omega) hw hh x0 m2 q3 (by omega) (c := decide (0 < y)) (n := 8 * (y - 1) + x) (by rw [decide_eq_decide]; omega) (fun c => by have := of_decide_eq_true c; omega)
    have k3 := pst_1 (decide (0 < y)) (P_heights (8 * (y - 1) + x)) Q2
    generalize hQ3 : pst (decide (0 < y)) (P_heights (8 * (y - 1) + x)) Q2 = Q3 at *
    have c3 : Q3.1 ≤ 3 := by rw [k3]; split <;> omega
    refine ⟨put_pre (a := (x : Int)) (b := (y : Int) + 1) (by omega) (by omega) hw hh x0 p2 (by omega), fun r4 u4 q4 => ?_⟩
    obtain ⟨rfl, rfl⟩ := put_step (by omega) (by omega) hw hh x0 p2 q4 (by omega) (c := decide (y + 1 < h)) (n := 8 * (y + 1) + x) (by rw [decide_eq_decide]; omega) (fun c => by omega)
    have hstq : pst (decide (y + 1 < h)) (P_heights (8 * (y + 1) + x)) Q3 = stq w h P_heights x y P_near := by
      unfold stq; rw [hQ1, hQ2, hQ3]
    rw [hstq]
    have cn := stq_1 hw2 hh2 hx hy P_heights P_near
    have a1 := stq_lohi hw2 hh2 hx hy P_heights P_near
    have a2 := stp_any hw2 hh2 hx hy P_pinned P_heights P_near c
    generalize stq w h P_heights x y P_near = Q4 at *
    have d1 : (nI Q4.1 - 1) / 2 = nI ((Q4.1 - 1) / 2) := by
      show (nI Q4.1 - nI 1) / nI 2 = _
      rw [pk_sub (by omega), pk_div (by omega) (by decide) (by decide)]
    have d2 : nI Q4.1 / 2 = nI (Q4.1 / 2) := pk_div (by omega) (by decide) (by decide)
    rw [d1, d2, nI_clamp (by omega), nI_clamp (by omega)]
    refine ⟨vp_in_nI (by omega) (by decide), fun lo elo => ⟨vp_in_nI (by omega) (by decide), fun hi ehi => hpo _ _ ?_⟩⟩
    rw [elo, ehi, eo, clp_mm a1, a2]
  · refine hpo _ _ ?_
    unfold stp
    rw [if_neg c, eo]


abbrev w1X2_pins (ad : Nat → Nat) (cA : Nat → ClassId) (P_wide : Int32) (P_high : Int32) (P_pinned : Nat → Int32) (u : Unit) : va_W := [((ad 15), .inr (2, [.ref (ad 16), .ref (ad 17), .ref (ad 18), .int P_wide, .int P_high])), ((ad 17), .inl (cA 2, 64, .inl P_pinned))]
abbrev wcX2_pins (ad : Nat → Nat) (cA : Nat → ClassId) (P_wide : Int32) (P_high : Int32) (P_pinned : Nat → Int32) : va_W := [((ad 15), .inr (2, [.ref (ad 16), .ref (ad 17), .ref (ad 18), .int P_wide, .int P_high])), ((ad 17), .inl (cA 2, 64, .inl P_pinned))]
def rmX2_pins : Room := { frames := 1, cells := 0, slots := 0, locals := 22 }
abbrev atX2_pins_0 (X : gX) (ad : Nat → Nat) (cA : Nat → ClassId) (P_wide : Int32) (P_high : Int32) (P_pinned : Nat → Int32) : Prop := gW X 0 0 [((ad 15), .inr (2, [.ref (ad 16), .ref (ad 17), .ref (ad 18), .int P_wide, .int P_high])), ((ad 17), .inl (cA 2, 64, .inl P_pinned))] 4 [(0, .ref (ad 15))] [] 0
abbrev atX2_pins_4 (X : gX) (ad : Nat → Nat) (cA : Nat → ClassId) (x1 : Int32) (x2 : Int32) (P_wide : Int32) (P_high : Int32) (P_pinned : Nat → Int32) : Prop := gW X 0 0 [((ad 15), .inr (2, [.ref (ad 16), .ref (ad 17), .ref (ad 18), .int P_wide, .int P_high])), ((ad 17), .inl (cA 2, 64, .inl P_pinned))] 4 [(0, .ref (ad 15)), (1, .int x1), (2, .int x2)] [] 4
abbrev atX2_pins_14 (X : gX) (ad : Nat → Nat) (cA : Nat → ClassId) (x1 : Int32) (x2 : Int32) (x3 : Int32) (P_wide : Int32) (P_high : Int32) (P_pinned : Nat → Int32) : Prop := gW X 0 0 [((ad 15), .inr (2, [.ref (ad 16), .ref (ad 17), .ref (ad 18), .int P_wide, .int P_high])), ((ad 17), .inl (cA 2, 64, .inl P_pinned))] 4 [(0, .ref (ad 15)), (1, .int x1), (2, .int x2), (3, .int x3)] [] 14
theorem giX2_pins_X2 : ∀ w ∈ u_ws RX2 TX2 5, w ∈ wsX2_pins := by decide +kernel
theorem gfX2_pins_26 : gF wsX2_pins RX2 26 2 4 RX2 TX2 5 := ⟨giX2_pins_X2, by decide +kernel, rfl, by decide⟩
theorem gfX2_pins_22 : gF wsX2_pins RX2 22 2 3 RX2 TX2 5 := ⟨giX2_pins_X2, by decide +kernel, rfl, by decide⟩
theorem gfX2_pins_15 : gF wsX2_pins RX2 15 2 1 RX2 TX2 5 := ⟨giX2_pins_X2, by decide +kernel, rfl, by decide⟩
set_option maxHeartbeats 4000000 in
set_option maxRecDepth 100000 in
theorem sgX2_pins_0 {X : gX} {ad : Nat → Nat} {cA : Nat → ClassId} {post : Int32 → (Unit) → Prop} {P_wide : Int32} {P_high : Int32} {P_pinned : Nat → Int32} (C : gC X (gT cA) cX2_pins 4 RX2 wsX2_pins rmX2_pins) (E : gEi X (some .int) (gT cA) 0 0 post (w1X2_pins ad cA P_wide P_high P_pinned)) (h : atX2_pins_4 X ad cA (0 : Int32) (0 : Int32) P_wide P_high P_pinned) : atX2_pins_0 X ad cA P_wide P_high P_pinned := by
  refine g_iconst C dX2_pins_0 ik_0 ?_
  refine g_istore_n (lv2 := [(0, .ref (ad 15)), (1, .int (0 : Int32))]) C dX2_pins_1 rfl (by decide) [1, 0] rfl ?_
  refine g_iconst C dX2_pins_2 ik_0 ?_
  refine g_istore_n (lv2 := [(0, .ref (ad 15)), (1, .int (0 : Int32)), (2, .int (0 : Int32))]) C dX2_pins_3 rfl (by decide) [1, 2, 0] rfl ?_
  exact g_lv [0, 1, 2] rfl h
set_option maxHeartbeats 4000000 in
set_option maxRecDepth 100000 in
theorem sgX2_pins_4 {X : gX} {ad : Nat → Nat} {cA : Nat → ClassId} {post : Int32 → (Unit) → Prop} {x1 : Int32} {x2 : Int32} {P_wide : Int32} {P_high : Int32} {P_pinned : Nat → Int32} (C : gC X (gT cA) cX2_pins 4 RX2 wsX2_pins rmX2_pins) (E : gEi X (some .int) (gT cA) 0 0 post (w1X2_pins ad cA P_wide P_high P_pinned)) (h : (P_high ≤ x2 → post x1 ()) ∧ (¬ P_high ≤ x2 → atX2_pins_14 X ad cA x1 x2 (0 : Int32) P_wide P_high P_pinned)) : atX2_pins_4 X ad cA x1 x2 P_wide P_high P_pinned := by
  refine g_iload_n C dX2_pins_4 rfl 2 rfl ?_
  refine g_aload_n C dX2_pins_5 rfl 0 rfl ?_
  refine g_get C gfX2_pins_26 0 rfl rfl dX2_pins_6 ?_
  refine g_icmp_ge (tgt := 51) C dX2_pins_9 (by decide) (fun c_1 => ?_) (fun c_1 => ?_)
  · replace h := h.1 c_1
    refine g_iload_n C dX2_pins_51 rfl 1 rfl ?_
    exact g_iret C E () h rfl dX2_pins_52
  · replace h := h.2 c_1
    refine g_iconst C dX2_pins_12 ik_0 ?_
    refine g_istore_n (lv2 := [(0, .ref (ad 15)), (1, .int x1), (2, .int x2), (3, .int (0 : Int32))]) C dX2_pins_13 rfl (by decide) [1, 2, 3, 0] rfl ?_
    exact g_lv [0, 1, 2, 3] rfl h
set_option maxHeartbeats 4000000 in
set_option maxRecDepth 100000 in
theorem sgX2_pins_14 {X : gX} {ad : Nat → Nat} {cA : Nat → ClassId} {post : Int32 → (Unit) → Prop} {x1 : Int32} {x2 : Int32} {x3 : Int32} {P_wide : Int32} {P_high : Int32} {P_pinned : Nat → Int32} (C : gC X (gT cA) cX2_pins 4 RX2 wsX2_pins rmX2_pins) (E : gEi X (some .int) (gT cA) 0 0 post (w1X2_pins ad cA P_wide P_high P_pinned)) (h : (P_wide ≤ x3 → atX2_pins_4 X ad cA x1 (x2 + 1) P_wide P_high P_pinned) ∧ (¬ P_wide ≤ x3 → vp_in (fnX2_at x3 x2 P_wide P_high) 64 ∧ atX2_pins_14 X ad cA (if (P_pinned (fnX2_at x3 x2 P_wide P_high).toNatClampNeg) = 0 then x1 else (x1 + 1)) x2 (x3 + 1) P_wide P_high P_pinned)) : atX2_pins_14 X ad cA x1 x2 x3 P_wide P_high P_pinned := by
  refine g_iload_n C dX2_pins_14 rfl 3 rfl ?_
  refine g_aload_n C dX2_pins_15 rfl 0 rfl ?_
  refine g_get C gfX2_pins_22 0 rfl rfl dX2_pins_16 ?_
  refine g_icmp_ge (tgt := 45) C dX2_pins_19 (by decide) (fun c_2 => ?_) (fun c_2 => ?_)
  · replace h := h.1 c_2
    refine g_iinc (v := (x2 + 1)) (lv2 := [(0, .ref (ad 15)), (1, .int x1), (2, .int (x2 + 1)), (3, .int x3)]) C dX2_pins_45 2 rfl (by first | rfl | decide) (by decide) [1, 2, 0, 3] rfl ?_
    refine g_goto (tgt := 4) C dX2_pins_48 (by decide) ?_
    exact g_lv [0, 1, 2] rfl h
  · replace h := h.2 c_2
    refine g_aload_n C dX2_pins_22 rfl 0 rfl ?_
    refine g_get C gfX2_pins_15 0 rfl rfl dX2_pins_23 ?_
    refine g_aload_n C dX2_pins_26 rfl 0 rfl ?_
    refine g_iload_n C dX2_pins_27 rfl 3 rfl ?_
    refine g_iload_n C dX2_pins_28 rfl 2 rfl ?_
    refine g_callVi (wr := [((ad 17), .inl (cA 2, 64, .inl P_pinned))]) C (c_X2_at ad cA x3 x2 P_wide P_high) gX2_pins_X2_at rfl hde_X2_at ⟨rfl, rfl⟩ (by decide) (by decide) [0] [1] [1, 0] rfl rfl rfl rfl (by decide) rfl (ws2 := fun u => [((ad 15), .inr (2, [.ref (ad 16), .ref (ad 17), .ref (ad 18), .int P_wide, .int P_high])), ((ad 17), .inl (cA 2, 64, .inl P_pinned))]) (fun _ => rfl) 2 0 rfl rfl rfl (rest := [.ref (ad 17)]) rfl (Nat.le_of_ble_eq_true rfl) dX2_pins_29 (fun r_3 u_3 hp_3 => ?_)
    subst hp_3
    change gW X 0 0 [((ad 15), .inr (2, [.ref (ad 16), .ref (ad 17), .ref (ad 18), .int P_wide, .int P_high])), ((ad 17), .inl (cA 2, 64, .inl P_pinned))] 4 [(0, .ref (ad 15)), (1, .int x1), (2, .int x2), (3, .int x3)] [.int (fnX2_at x3 x2 P_wide P_high), .ref (ad 17)] 32
    obtain ⟨hi_4, h⟩ := h
    refine g_zald C 1 2 rfl rfl hi_4 dX2_pins_32 ?_
    have key : gW X 0 0 [((ad 15), .inr (2, [.ref (ad 16), .ref (ad 17), .ref (ad 18), .int P_wide, .int P_high])), ((ad 17), .inl (cA 2, 64, .inl P_pinned))] 4 [(0, .ref (ad 15)), (1, .int (if (P_pinned (fnX2_at x3 x2 P_wide P_high).toNatClampNeg) = 0 then x1 else (x1 + 1))), (2, .int x2), (3, .int x3)] [] 39 := by
      refine g_iinc (v := (x3 + 1)) (lv2 := [(0, .ref (ad 15)), (1, .int (if (P_pinned (fnX2_at x3 x2 P_wide P_high).toNatClampNeg) = 0 then x1 else (x1 + 1))), (2, .int x2), (3, .int (x3 + 1))]) C dX2_pins_39 3 rfl (by first | rfl | decide) (by decide) [1, 2, 3, 0] rfl ?_
      refine g_goto (tgt := 14) C dX2_pins_42 (by decide) ?_
      exact g_lv [0, 1, 2, 3] rfl h
    refine g_if_eq (tgt := 39) C dX2_pins_33 (by decide) (fun c_5 => ?_) (fun c_5 => ?_)
    · exact g_leaf (by simp only [if_pos c_5] at key; first | exact key | (simp only [if_pos c_5]; exact key) | exact absurd rfl c_5)
    · refine g_iinc (v := (x1 + 1)) (lv2 := [(0, .ref (ad 15)), (1, .int (x1 + 1)), (2, .int x2), (3, .int x3)]) C dX2_pins_36 1 rfl (by first | rfl | decide) (by decide) [1, 0, 2, 3] rfl ?_
      exact g_leaf (by simp only [if_neg c_5] at key; first | exact key | (simp only [if_neg c_5]; exact key) | exact absurd rfl c_5)
def prX2_pins (P_wide : Int32) (P_high : Int32) (P_pinned : Nat → Int32) : Prop := netOK P_wide P_high
set_option maxHeartbeats 4000000 in
set_option maxRecDepth 100000 in
theorem c_X2_pins (ad : Nat → Nat) (cA : Nat → ClassId) (P_wide : Int32) (P_high : Int32) (P_pinned : Nat → Int32) (hq : prX2_pins P_wide P_high P_pinned) : ∀ (l : Launch) (D : va_G), gMi (S := Unit) l yX2_pins wsX2_pins rmX2_pins D (gT cA) 0 0 [.ref (ad 15)] (wcX2_pins ad cA P_wide P_high P_pinned) (fun r _ => r = pns P_wide.toNatClampNeg P_high.toNatClampNeg P_pinned) (w1X2_pins ad cA P_wide P_high P_pinned) := by
  intro l D
  unfold prX2_pins at hq
  refine g_enteri (cc := cX2_pins) (nL := 4) (ret := (some .int)) (by decide) rfl (Nat.le_of_ble_eq_true rfl) rfl (fun X C E => ?_)
  obtain ⟨w, h, hw2, hw, hh2, hh, rfl, rfl⟩ := hq
  rw [nI_clamp (by omega), nI_clamp (by omega)] at E
  refine sgX2_pins_0 C E ?_
  have outer : ∀ y, y ≤ h → atX2_pins_4 X ad cA (sumI (fun y => sumI (fun x => if P_pinned (8 * y + x) = 0 then 0 else 1) w) y) (nI y) (nI w) (nI h) P_pinned := by
    intro y hy
    refine up_loop (P := fun y => atX2_pins_4 X ad cA (sumI (fun y => sumI (fun x => if P_pinned (8 * y + x) = 0 then 0 else 1) w) y) (nI y) (nI w) (nI h) P_pinned) h ?_ (fun y hy ih => ?_) y hy
    · exact sgX2_pins_4 C E ⟨fun _ => rfl, fun c => absurd (i32_le_refl _) c⟩
    · refine sgX2_pins_4 C E ⟨fun c => absurd c (nI_ge hy (by omega)), fun _ => ?_⟩
      have inner : ∀ x, x ≤ w → atX2_pins_14 X ad cA (sumI (fun y => sumI (fun x => if P_pinned (8 * y + x) = 0 then 0 else 1) w) y + sumI (fun x => if P_pinned (8 * y + x) = 0 then 0 else 1) x) (nI y) (nI x) (nI w) (nI h) P_pinned := by
        intro x hx
        refine up_loop (P := fun x => atX2_pins_14 X ad cA (sumI (fun y => sumI (fun x => if P_pinned (8 * y + x) = 0 then 0 else 1) w) y + sumI (fun x => if P_pinned (8 * y + x) = 0 then 0 else 1) x) (nI y) (nI x) (nI w) (nI h) P_pinned) w ?_ (fun x hx ih2 => ?_) x hx
        · refine sgX2_pins_14 C E ⟨fun _ => ?_, fun c => absurd (i32_le_refl _) c⟩
          rw [nI_1]; exact ih
        · refine sgX2_pins_14 C E ⟨fun c => absurd c (nI_ge hx (by omega)), fun _ => ?_⟩
          rw [at_eq, nI_clamp (by omega), nI_1]
          refine ⟨vp_in_nI (by omega) (by decide), ?_⟩
          rw [show (if P_pinned (8 * y + x) = 0 then (sumI (fun y => sumI (fun x => if P_pinned (8 * y + x) = 0 then 0 else 1) w) y + sumI (fun x => if P_pinned (8 * y + x) = 0 then 0 else 1) x) else (sumI (fun y => sumI (fun x => if P_pinned (8 * y + x) = 0 then 0 else 1) w) y + sumI (fun x => if P_pinned (8 * y + x) = 0 then 0 else 1) x) + 1) = sumI (fun y => sumI (fun x => if P_pinned (8 * y + x) = 0 then 0 else 1) w) y + sumI (fun x => if P_pinned (8 * y + x) = 0 then 0 else 1) (x + 1) from by
            rw [sumI, ← Int32.add_assoc]
            split
            · rw [Int32.add_zero]
            · rfl]
          exact ih2
      have := inner 0 (Nat.zero_le _)
      rw [sumI, Int32.add_zero] at this
      exact this
  exact outer 0 (Nat.zero_le _)


abbrev w1X2_difference (ad : Nat → Nat) (cA : Nat → ClassId) (P_wide : Int32) (P_high : Int32) (P_heights : Nat → Int32) (u : Unit) : va_W := [((ad 15), .inr (2, [.ref (ad 16), .ref (ad 17), .ref (ad 18), .int P_wide, .int P_high])), ((ad 16), .inl (cA 0, 64, .inl P_heights))]
abbrev wcX2_difference (ad : Nat → Nat) (cA : Nat → ClassId) (P_wide : Int32) (P_high : Int32) (P_heights : Nat → Int32) : va_W := [((ad 15), .inr (2, [.ref (ad 16), .ref (ad 17), .ref (ad 18), .int P_wide, .int P_high])), ((ad 16), .inl (cA 0, 64, .inl P_heights))]
def rmX2_difference : Room := { frames := 1, cells := 0, slots := 0, locals := 22 }
abbrev atX2_difference_0 (X : gX) (ad : Nat → Nat) (cA : Nat → ClassId) (p1 : Int32) (p2 : Int32) (p3 : Int32) (p4 : Int32) (P_wide : Int32) (P_high : Int32) (P_heights : Nat → Int32) : Prop := gW X 0 0 [((ad 15), .inr (2, [.ref (ad 16), .ref (ad 17), .ref (ad 18), .int P_wide, .int P_high])), ((ad 16), .inl (cA 0, 64, .inl P_heights))] 5 [(0, .ref (ad 15)), (1, .int p1), (2, .int p2), (3, .int p3), (4, .int p4)] [] 0
theorem mmX2_difference_51a : Cond.methodLink RX2 51 Lib.Math.abs.name ∈ wsX2_difference := by decide +kernel
theorem mmX2_difference_51b : Cond.static Lib.Math.abs.name ∈ wsX2_difference := by decide +kernel
theorem mmX2_difference_51c : Cond.initialized "java/lang/Math" ∈ wsX2_difference := by decide +kernel
theorem mmX2_difference_51d : Cond.code Lib.Math.abs.name Lib.Math.abs.code 1 (some .int) ∈ wsX2_difference := by decide +kernel
theorem giX2_difference_X2 : ∀ w ∈ u_ws RX2 TX2 5, w ∈ wsX2_difference := by decide +kernel
theorem gfX2_difference_9 : gF wsX2_difference RX2 9 2 0 RX2 TX2 5 := ⟨giX2_difference_X2, by decide +kernel, rfl, by decide⟩
set_option maxHeartbeats 4000000 in
set_option maxRecDepth 100000 in
theorem sgX2_difference_0 {X : gX} {ad : Nat → Nat} {cA : Nat → ClassId} {post : Int32 → (Unit) → Prop} {p1 : Int32} {p2 : Int32} {p3 : Int32} {p4 : Int32} {P_wide : Int32} {P_high : Int32} {P_heights : Nat → Int32} (C : gC X (gT cA) cX2_difference 5 RX2 wsX2_difference rmX2_difference) (E : gEi X (some .int) (gT cA) 0 0 post (w1X2_difference ad cA P_wide P_high P_heights)) (h : ((fnX2_has p3 p4 P_wide P_high) = false → post (0 : Int32) ()) ∧ ((fnX2_has p3 p4 P_wide P_high) = true → vp_in (fnX2_at p1 p2 P_wide P_high) 64 ∧ vp_in (fnX2_at p3 p4 P_wide P_high) 64 ∧ post (if 0 ≤ ((P_heights (fnX2_at p1 p2 P_wide P_high).toNatClampNeg) - (P_heights (fnX2_at p3 p4 P_wide P_high).toNatClampNeg)) then ((P_heights (fnX2_at p1 p2 P_wide P_high).toNatClampNeg) - (P_heights (fnX2_at p3 p4 P_wide P_high).toNatClampNeg)) else 0 - ((P_heights (fnX2_at p1 p2 P_wide P_high).toNatClampNeg) - (P_heights (fnX2_at p3 p4 P_wide P_high).toNatClampNeg))) ())) : atX2_difference_0 X ad cA p1 p2 p3 p4 P_wide P_high P_heights := by
  refine g_aload_n C dX2_difference_0 rfl 0 rfl ?_
  refine g_iload_n C dX2_difference_1 rfl 3 rfl ?_
  refine g_iload C dX2_difference_2 4 rfl ?_
  refine g_callVi (wr := [((ad 16), .inl (cA 0, 64, .inl P_heights))]) C (c_X2_has ad cA p3 p4 P_wide P_high) gX2_difference_X2_has rfl hde_X2_has ⟨rfl, rfl⟩ (by decide) (by decide) [0] [1] [1, 0] rfl rfl rfl rfl (by decide) rfl (ws2 := fun u => [((ad 15), .inr (2, [.ref (ad 16), .ref (ad 17), .ref (ad 18), .int P_wide, .int P_high])), ((ad 16), .inl (cA 0, 64, .inl P_heights))]) (fun _ => rfl) 2 0 rfl rfl rfl (rest := []) rfl (Nat.le_of_ble_eq_true rfl) dX2_difference_4 (fun r_1 u_1 hp_1 => ?_)
  subst hp_1
  change gW X 0 0 [((ad 15), .inr (2, [.ref (ad 16), .ref (ad 17), .ref (ad 18), .int P_wide, .int P_high])), ((ad 16), .inl (cA 0, 64, .inl P_heights))] 5 [(0, .ref (ad 15)), (1, .int p1), (2, .int p2), (3, .int p3), (4, .int p4)] [.int (bI (fnX2_has p3 p4 P_wide P_high))] 7
  refine g_ifeq_b (tgt := 40) C dX2_difference_7 (by decide) (fun c_2 => ?_) (fun c_2 => ?_)
  · replace h := h.1 c_2
    refine g_iconst C dX2_difference_40 ik_0 ?_
    exact g_iret C E () h rfl dX2_difference_41
  · replace h := h.2 c_2
    refine g_aload_n C dX2_difference_10 rfl 0 rfl ?_
    refine g_get C gfX2_difference_9 0 rfl rfl dX2_difference_11 ?_
    refine g_aload_n C dX2_difference_14 rfl 0 rfl ?_
    refine g_iload_n C dX2_difference_15 rfl 1 rfl ?_
    refine g_iload_n C dX2_difference_16 rfl 2 rfl ?_
    refine g_callVi (wr := [((ad 16), .inl (cA 0, 64, .inl P_heights))]) C (c_X2_at ad cA p1 p2 P_wide P_high) gX2_difference_X2_at rfl hde_X2_at ⟨rfl, rfl⟩ (by decide) (by decide) [0] [1] [1, 0] rfl rfl rfl rfl (by decide) rfl (ws2 := fun u => [((ad 15), .inr (2, [.ref (ad 16), .ref (ad 17), .ref (ad 18), .int P_wide, .int P_high])), ((ad 16), .inl (cA 0, 64, .inl P_heights))]) (fun _ => rfl) 2 0 rfl rfl rfl (rest := [.ref (ad 16)]) rfl (Nat.le_of_ble_eq_true rfl) dX2_difference_17 (fun r_3 u_3 hp_3 => ?_)
    subst hp_3
    change gW X 0 0 [((ad 15), .inr (2, [.ref (ad 16), .ref (ad 17), .ref (ad 18), .int P_wide, .int P_high])), ((ad 16), .inl (cA 0, 64, .inl P_heights))] 5 [(0, .ref (ad 15)), (1, .int p1), (2, .int p2), (3, .int p3), (4, .int p4)] [.int (fnX2_at p1 p2 P_wide P_high), .ref (ad 16)] 20
    obtain ⟨hi_4, h⟩ := h
    refine g_iald C 1 0 rfl rfl hi_4 dX2_difference_20 ?_
    refine g_aload_n C dX2_difference_21 rfl 0 rfl ?_
    refine g_get C gfX2_difference_9 0 rfl rfl dX2_difference_22 ?_
    refine g_aload_n C dX2_difference_25 rfl 0 rfl ?_
    refine g_iload_n C dX2_difference_26 rfl 3 rfl ?_
    refine g_iload C dX2_difference_27 4 rfl ?_
    refine g_callVi (wr := [((ad 16), .inl (cA 0, 64, .inl P_heights))]) C (c_X2_at ad cA p3 p4 P_wide P_high) gX2_difference_X2_at rfl hde_X2_at ⟨rfl, rfl⟩ (by decide) (by decide) [0] [1] [1, 0] rfl rfl rfl rfl (by decide) rfl (ws2 := fun u => [((ad 15), .inr (2, [.ref (ad 16), .ref (ad 17), .ref (ad 18), .int P_wide, .int P_high])), ((ad 16), .inl (cA 0, 64, .inl P_heights))]) (fun _ => rfl) 2 0 rfl rfl rfl (rest := [.ref (ad 16), .int (P_heights (fnX2_at p1 p2 P_wide P_high).toNatClampNeg)]) rfl (Nat.le_of_ble_eq_true rfl) dX2_difference_29 (fun r_5 u_5 hp_5 => ?_)
    subst hp_5
    change gW X 0 0 [((ad 15), .inr (2, [.ref (ad 16), .ref (ad 17), .ref (ad 18), .int P_wide, .int P_high])), ((ad 16), .inl (cA 0, 64, .inl P_heights))] 5 [(0, .ref (ad 15)), (1, .int p1), (2, .int p2), (3, .int p3), (4, .int p4)] [.int (fnX2_at p3 p4 P_wide P_high), .ref (ad 16), .int (P_heights (fnX2_at p1 p2 P_wide P_high).toNatClampNeg)] 32
    obtain ⟨hi_6, h⟩ := h
    refine g_iald C 1 0 rfl rfl hi_6 dX2_difference_32 ?_
    refine g_isub C dX2_difference_33 ?_
    refine g_mabs C mmX2_difference_51a mmX2_difference_51b mmX2_difference_51c mmX2_difference_51d (by decide) (Nat.le_of_ble_eq_true rfl) (by decide) (by decide) dX2_difference_34 ?_
    refine g_goto (tgt := 41) C dX2_difference_37 (by decide) ?_
    exact g_iret C E () h rfl dX2_difference_41
def fnX2_difference (p1 : Int32) (p2 : Int32) (p3 : Int32) (p4 : Int32) (P_wide : Int32) (P_high : Int32) (P_heights : Nat → Int32) : Int32 := (if (fnX2_has p3 p4 P_wide P_high) = true then (if 0 ≤ ((P_heights (fnX2_at p1 p2 P_wide P_high).toNatClampNeg) - (P_heights (fnX2_at p3 p4 P_wide P_high).toNatClampNeg)) then ((P_heights (fnX2_at p1 p2 P_wide P_high).toNatClampNeg) - (P_heights (fnX2_at p3 p4 P_wide P_high).toNatClampNeg)) else 0 - ((P_heights (fnX2_at p1 p2 P_wide P_high).toNatClampNeg) - (P_heights (fnX2_at p3 p4 P_wide P_high).toNatClampNeg))) else (0 : Int32))
def prX2_difference (p1 : Int32) (p2 : Int32) (p3 : Int32) (p4 : Int32) (P_wide : Int32) (P_high : Int32) (P_heights : Nat → Int32) : Prop := ((fnX2_has p3 p4 P_wide P_high) = false → True) ∧ ((fnX2_has p3 p4 P_wide P_high) = true → vp_in (fnX2_at p1 p2 P_wide P_high) 64 ∧ vp_in (fnX2_at p3 p4 P_wide P_high) 64)
set_option maxHeartbeats 4000000 in
set_option maxRecDepth 100000 in
theorem c_X2_difference (ad : Nat → Nat) (cA : Nat → ClassId) (p1 : Int32) (p2 : Int32) (p3 : Int32) (p4 : Int32) (P_wide : Int32) (P_high : Int32) (P_heights : Nat → Int32) (hq : prX2_difference p1 p2 p3 p4 P_wide P_high P_heights) : ∀ (l : Launch) (D : va_G), gMi (S := Unit) l yX2_difference wsX2_difference rmX2_difference D (gT cA) 0 0 [.ref (ad 15), .int p1, .int p2, .int p3, .int p4] (wcX2_difference ad cA P_wide P_high P_heights) (fun r _ => r = fnX2_difference p1 p2 p3 p4 P_wide P_high P_heights) (w1X2_difference ad cA P_wide P_high P_heights) := by
  intro l D
  refine g_enteri (cc := cX2_difference) (nL := 5) (ret := (some .int)) (by decide) rfl (Nat.le_of_ble_eq_true rfl) rfl (fun X C E => sgX2_difference_0 C E ?_)
  unfold prX2_difference at hq
  refine ⟨fun c_8 => ?_, fun c_8 => ?_⟩
  · replace hq := hq.1 c_8
    exact (by unfold fnX2_difference; first | rfl | (simp only [if_neg (show ¬ (fnX2_has p3 p4 P_wide P_high) = true from by rw [c_8]; decide)]; done) | (simp only [if_neg (show ¬ (fnX2_has p3 p4 P_wide P_high) = true from by rw [c_8]; decide)]; rfl))
  · replace hq := hq.2 c_8
    refine ⟨hq.1, ?_⟩
    replace hq := hq.2
    refine ⟨hq, ?_⟩
    exact (by unfold fnX2_difference; first | rfl | (simp only [if_pos c_8]; done) | (simp only [if_pos c_8]; rfl))

theorem dif_eq {w h x y : Nat} (hw : w ≤ 8) (hh : h ≤ 8) (hx : x < w) (hy : y < h) (H : Nat → Int32) : fnX2_difference (nI x) (nI y) (nI x + 1) (nI y) (nI w) (nI h) H = (if x + 1 < w then szI (H (8 * y + x) - H (8 * y + (x + 1))) else 0) ∧ prX2_difference (nI x) (nI y) (nI x + 1) (nI y) (nI w) (nI h) H := by
  have e : fnX2_has (nI (x + 1)) (nI y) (nI w) (nI h) = decide (x + 1 < w) := by
    rw [← iI_nI, ← iI_nI, has_iI (by omega) (by omega) hw hh, decide_eq_decide]; omega
  rw [nI_1]
  unfold fnX2_difference prX2_difference
  rw [e, at_eq, at_eq, nI_clamp (by omega)]
  by_cases hc : x + 1 < w
  · rw [decide_eq_true hc, if_pos rfl, if_pos hc, nI_clamp (by omega)]
    exact ⟨rfl, fun c => absurd c (by decide), fun _ => ⟨vp_in_nI (by omega) (by decide), vp_in_nI (by omega) (by decide)⟩⟩
  · rw [decide_eq_false hc, if_neg (by decide), if_neg hc]
    exact ⟨rfl, fun _ => trivial, fun c => absurd c (by decide)⟩
theorem dif_eq2 {w h x y : Nat} (hw : w ≤ 8) (hh : h ≤ 8) (hx : x < w) (hy : y < h) (H : Nat → Int32) : fnX2_difference (nI x) (nI y) (nI x) (nI y + 1) (nI w) (nI h) H = (if y + 1 < h then szI (H (8 * y + x) - H (8 * (y + 1) + x)) else 0) ∧ prX2_difference (nI x) (nI y) (nI x) (nI y + 1) (nI w) (nI h) H := by
  have e : fnX2_has (nI x) (nI (y + 1)) (nI w) (nI h) = decide (y + 1 < h) := by
    rw [← iI_nI, ← iI_nI, has_iI (by omega) (by omega) hw hh, decide_eq_decide]; omega
  rw [nI_1]
  unfold fnX2_difference prX2_difference
  rw [e, at_eq, at_eq, nI_clamp (by omega)]
  by_cases hc : y + 1 < h
  · rw [decide_eq_true hc, if_pos rfl, if_pos hc, nI_clamp (by omega)]
    exact ⟨rfl, fun c => absurd c (by decide), fun _ => ⟨vp_in_nI (by omega) (by decide), vp_in_nI (by omega) (by decide)⟩⟩
  · rw [decide_eq_false hc, if_neg (by decide), if_neg hc]
    exact ⟨rfl, fun _ => trivial, fun c => absurd c (by decide)⟩

abbrev w1X2_sumOfDifferences (ad : Nat → Nat) (cA : Nat → ClassId) (P_wide : Int32) (P_high : Int32) (P_heights : Nat → Int32) (u : Unit) : va_W := [((ad 15), .inr (2, [.ref (ad 16), .ref (ad 17), .ref (ad 18), .int P_wide, .int P_high])), ((ad 16), .inl (cA 0, 64, .inl P_heights))]
abbrev wcX2_sumOfDifferences (ad : Nat → Nat) (cA : Nat → ClassId) (P_wide : Int32) (P_high : Int32) (P_heights : Nat → Int32) : va_W := [((ad 15), .inr (2, [.ref (ad 16), .ref (ad 17), .ref (ad 18), .int P_wide, .int P_high])), ((ad 16), .inl (cA 0, 64, .inl P_heights))]
def rmX2_sumOfDifferences : Room := { frames := 2, cells := 0, slots := 0, locals := 46 }
abbrev atX2_sumOfDifferences_0 (X : gX) (ad : Nat → Nat) (cA : Nat → ClassId) (P_wide : Int32) (P_high : Int32) (P_heights : Nat → Int32) : Prop := gW X 0 0 [((ad 15), .inr (2, [.ref (ad 16), .ref (ad 17), .ref (ad 18), .int P_wide, .int P_high])), ((ad 16), .inl (cA 0, 64, .inl P_heights))] 4 [(0, .ref (ad 15))] [] 0
abbrev atX2_sumOfDifferences_4 (X : gX) (ad : Nat → Nat) (cA : Nat → ClassId) (x1 : Int32) (x2 : Int32) (P_wide : Int32) (P_high : Int32) (P_heights : Nat → Int32) : Prop := gW X 0 0 [((ad 15), .inr (2, [.ref (ad 16), .ref (ad 17), .ref (ad 18), .int P_wide, .int P_high])), ((ad 16), .inl (cA 0, 64, .inl P_heights))] 4 [(0, .ref (ad 15)), (1, .int x1), (2, .int x2)] [] 4
abbrev atX2_sumOfDifferences_14 (X : gX) (ad : Nat → Nat) (cA : Nat → ClassId) (x1 : Int32) (x2 : Int32) (x3 : Int32) (P_wide : Int32) (P_high : Int32) (P_heights : Nat → Int32) : Prop := gW X 0 0 [((ad 15), .inr (2, [.ref (ad 16), .ref (ad 17), .ref (ad 18), .int P_wide, .int P_high])), ((ad 16), .inl (cA 0, 64, .inl P_heights))] 4 [(0, .ref (ad 15)), (1, .int x1), (2, .int x2), (3, .int x3)] [] 14
theorem giX2_sumOfDifferences_X2 : ∀ w ∈ u_ws RX2 TX2 5, w ∈ wsX2_sumOfDifferences := by decide +kernel
theorem gfX2_sumOfDifferences_26 : gF wsX2_sumOfDifferences RX2 26 2 4 RX2 TX2 5 := ⟨giX2_sumOfDifferences_X2, by decide +kernel, rfl, by decide⟩
theorem gfX2_sumOfDifferences_22 : gF wsX2_sumOfDifferences RX2 22 2 3 RX2 TX2 5 := ⟨giX2_sumOfDifferences_X2, by decide +kernel, rfl, by decide⟩
set_option maxHeartbeats 4000000 in
set_option maxRecDepth 100000 in
theorem sgX2_sumOfDifferences_0 {X : gX} {ad : Nat → Nat} {cA : Nat → ClassId} {post : Int32 → (Unit) → Prop} {P_wide : Int32} {P_high : Int32} {P_heights : Nat → Int32} (C : gC X (gT cA) cX2_sumOfDifferences 4 RX2 wsX2_sumOfDifferences rmX2_sumOfDifferences) (E : gEi X (some .int) (gT cA) 0 0 post (w1X2_sumOfDifferences ad cA P_wide P_high P_heights)) (h : atX2_sumOfDifferences_4 X ad cA (0 : Int32) (0 : Int32) P_wide P_high P_heights) : atX2_sumOfDifferences_0 X ad cA P_wide P_high P_heights := by
  refine g_iconst C dX2_sumOfDifferences_0 ik_0 ?_
  refine g_istore_n (lv2 := [(0, .ref (ad 15)), (1, .int (0 : Int32))]) C dX2_sumOfDifferences_1 rfl (by decide) [1, 0] rfl ?_
  refine g_iconst C dX2_sumOfDifferences_2 ik_0 ?_
  refine g_istore_n (lv2 := [(0, .ref (ad 15)), (1, .int (0 : Int32)), (2, .int (0 : Int32))]) C dX2_sumOfDifferences_3 rfl (by decide) [1, 2, 0] rfl ?_
  exact g_lv [0, 1, 2] rfl h
set_option maxHeartbeats 4000000 in
set_option maxRecDepth 100000 in
theorem sgX2_sumOfDifferences_4 {X : gX} {ad : Nat → Nat} {cA : Nat → ClassId} {post : Int32 → (Unit) → Prop} {x1 : Int32} {x2 : Int32} {P_wide : Int32} {P_high : Int32} {P_heights : Nat → Int32} (C : gC X (gT cA) cX2_sumOfDifferences 4 RX2 wsX2_sumOfDifferences rmX2_sumOfDifferences) (E : gEi X (some .int) (gT cA) 0 0 post (w1X2_sumOfDifferences ad cA P_wide P_high P_heights)) (h : (P_high ≤ x2 → post x1 ()) ∧ (¬ P_high ≤ x2 → atX2_sumOfDifferences_14 X ad cA x1 x2 (0 : Int32) P_wide P_high P_heights)) : atX2_sumOfDifferences_4 X ad cA x1 x2 P_wide P_high P_heights := by
  refine g_iload_n C dX2_sumOfDifferences_4 rfl 2 rfl ?_
  refine g_aload_n C dX2_sumOfDifferences_5 rfl 0 rfl ?_
  refine g_get C gfX2_sumOfDifferences_26 0 rfl rfl dX2_sumOfDifferences_6 ?_
  refine g_icmp_ge (tgt := 58) C dX2_sumOfDifferences_9 (by decide) (fun c_1 => ?_) (fun c_1 => ?_)
  · replace h := h.1 c_1
    refine g_iload_n C dX2_sumOfDifferences_58 rfl 1 rfl ?_
    exact g_iret C E () h rfl dX2_sumOfDifferences_59
  · replace h := h.2 c_1
    refine g_iconst C dX2_sumOfDifferences_12 ik_0 ?_
    refine g_istore_n (lv2 := [(0, .ref (ad 15)), (1, .int x1), (2, .int x2), (3, .int (0 : Int32))]) C dX2_sumOfDifferences_13 rfl (by decide) [1, 2, 3, 0] rfl ?_
    exact g_lv [0, 1, 2, 3] rfl h
set_option maxHeartbeats 4000000 in
set_option maxRecDepth 100000 in
theorem sgX2_sumOfDifferences_14 {X : gX} {ad : Nat → Nat} {cA : Nat → ClassId} {post : Int32 → (Unit) → Prop} {x1 : Int32} {x2 : Int32} {x3 : Int32} {P_wide : Int32} {P_high : Int32} {P_heights : Nat → Int32} (C : gC X (gT cA) cX2_sumOfDifferences 4 RX2 wsX2_sumOfDifferences rmX2_sumOfDifferences) (E : gEi X (some .int) (gT cA) 0 0 post (w1X2_sumOfDifferences ad cA P_wide P_high P_heights)) (h : (P_wide ≤ x3 → atX2_sumOfDifferences_4 X ad cA x1 (x2 + 1) P_wide P_high P_heights) ∧ (¬ P_wide ≤ x3 → prX2_difference x3 x2 (x3 + (1 : Int32)) x2 P_wide P_high P_heights ∧ prX2_difference x3 x2 x3 (x2 + (1 : Int32)) P_wide P_high P_heights ∧ ∀ x1_7 : Int32, x1_7 = (x1 + ((fnX2_difference x3 x2 (x3 + (1 : Int32)) x2 P_wide P_high P_heights) + (fnX2_difference x3 x2 x3 (x2 + (1 : Int32)) P_wide P_high P_heights))) → atX2_sumOfDifferences_14 X ad cA x1_7 x2 (x3 + 1) P_wide P_high P_heights)) : atX2_sumOfDifferences_14 X ad cA x1 x2 x3 P_wide P_high P_heights := by
  refine g_iload_n C dX2_sumOfDifferences_14 rfl 3 rfl ?_
  refine g_aload_n C dX2_sumOfDifferences_15 rfl 0 rfl ?_
  refine g_get C gfX2_sumOfDifferences_22 0 rfl rfl dX2_sumOfDifferences_16 ?_
  refine g_icmp_ge (tgt := 52) C dX2_sumOfDifferences_19 (by decide) (fun c_2 => ?_) (fun c_2 => ?_)
  · replace h := h.1 c_2
    refine g_iinc (v := (x2 + 1)) (lv2 := [(0, .ref (ad 15)), (1, .int x1), (2, .int (x2 + 1)), (3, .int x3)]) C dX2_sumOfDifferences_52 2 rfl (by first | rfl | decide) (by decide) [1, 2, 0, 3] rfl ?_
    refine g_goto (tgt := 4) C dX2_sumOfDifferences_55 (by decide) ?_
    exact g_lv [0, 1, 2] rfl h
  · replace h := h.2 c_2
    refine g_iload_n C dX2_sumOfDifferences_22 rfl 1 rfl ?_
    refine g_aload_n C dX2_sumOfDifferences_23 rfl 0 rfl ?_
    refine g_iload_n C dX2_sumOfDifferences_24 rfl 3 rfl ?_
    refine g_iload_n C dX2_sumOfDifferences_25 rfl 2 rfl ?_
    refine g_iload_n C dX2_sumOfDifferences_26 rfl 3 rfl ?_
    refine g_iconst C dX2_sumOfDifferences_27 ik_1 ?_
    refine g_iadd C dX2_sumOfDifferences_28 ?_
    refine g_iload_n C dX2_sumOfDifferences_29 rfl 2 rfl ?_
    obtain ⟨hi_3, h⟩ := h
    refine g_callVi (wr := []) C (c_X2_difference ad cA x3 x2 (x3 + (1 : Int32)) x2 P_wide P_high P_heights hi_3) gX2_sumOfDifferences_X2_difference rfl hde_X2_difference ⟨rfl, rfl⟩ (by decide) (by decide) [0, 1] [] [0, 1] rfl rfl rfl rfl (by decide) rfl (ws2 := fun u => [((ad 15), .inr (2, [.ref (ad 16), .ref (ad 17), .ref (ad 18), .int P_wide, .int P_high])), ((ad 16), .inl (cA 0, 64, .inl P_heights))]) (fun _ => rfl) 2 0 rfl rfl rfl (rest := [.int x1]) rfl (Nat.le_of_ble_eq_true rfl) dX2_sumOfDifferences_30 (fun r_4 u_4 hp_4 => ?_)
    subst hp_4
    change gW X 0 0 [((ad 15), .inr (2, [.ref (ad 16), .ref (ad 17), .ref (ad 18), .int P_wide, .int P_high])), ((ad 16), .inl (cA 0, 64, .inl P_heights))] 4 [(0, .ref (ad 15)), (1, .int x1), (2, .int x2), (3, .int x3)] [.int (fnX2_difference x3 x2 (x3 + (1 : Int32)) x2 P_wide P_high P_heights), .int x1] 33
    refine g_aload_n C dX2_sumOfDifferences_33 rfl 0 rfl ?_
    refine g_iload_n C dX2_sumOfDifferences_34 rfl 3 rfl ?_
    refine g_iload_n C dX2_sumOfDifferences_35 rfl 2 rfl ?_
    refine g_iload_n C dX2_sumOfDifferences_36 rfl 3 rfl ?_
    refine g_iload_n C dX2_sumOfDifferences_37 rfl 2 rfl ?_
    refine g_iconst C dX2_sumOfDifferences_38 ik_1 ?_
    refine g_iadd C dX2_sumOfDifferences_39 ?_
    obtain ⟨hi_5, h⟩ := h
    refine g_callVi (wr := []) C (c_X2_difference ad cA x3 x2 x3 (x2 + (1 : Int32)) P_wide P_high P_heights hi_5) gX2_sumOfDifferences_X2_difference rfl hde_X2_difference ⟨rfl, rfl⟩ (by decide) (by decide) [0, 1] [] [0, 1] rfl rfl rfl rfl (by decide) rfl (ws2 := fun u => [((ad 15), .inr (2, [.ref (ad 16), .ref (ad 17), .ref (ad 18), .int P_wide, .int P_high])), ((ad 16), .inl (cA 0, 64, .inl P_heights))]) (fun _ => rfl) 2 0 rfl rfl rfl (rest := [.int (fnX2_difference x3 x2 (x3 + (1 : Int32)) x2 P_wide P_high P_heights), .int x1]) rfl (Nat.le_of_ble_eq_true rfl) dX2_sumOfDifferences_40 (fun r_6 u_6 hp_6 => ?_)
    subst hp_6
    change gW X 0 0 [((ad 15), .inr (2, [.ref (ad 16), .ref (ad 17), .ref (ad 18), .int P_wide, .int P_high])), ((ad 16), .inl (cA 0, 64, .inl P_heights))] 4 [(0, .ref (ad 15)), (1, .int x1), (2, .int x2), (3, .int x3)] [.int (fnX2_difference x3 x2 x3 (x2 + (1 : Int32)) P_wide P_high P_heights), .int (fnX2_difference x3 x2 (x3 + (1 : Int32)) x2 P_wide P_high P_heights), .int x1] 43
    refine g_iadd C dX2_sumOfDifferences_43 ?_
    refine g_iadd C dX2_sumOfDifferences_44 ?_
    refine g_topi (fun x1_7 ex1_7 => ?_)
    replace h := h x1_7 ex1_7
    refine g_istore_n (lv2 := [(0, .ref (ad 15)), (1, .int x1_7), (2, .int x2), (3, .int x3)]) C dX2_sumOfDifferences_45 rfl (by decide) [1, 0, 2, 3] rfl ?_
    refine g_iinc (v := (x3 + 1)) (lv2 := [(0, .ref (ad 15)), (1, .int x1_7), (2, .int x2), (3, .int (x3 + 1))]) C dX2_sumOfDifferences_46 3 rfl (by first | rfl | decide) (by decide) [1, 2, 3, 0] rfl ?_
    refine g_goto (tgt := 14) C dX2_sumOfDifferences_49 (by decide) ?_
    exact g_lv [0, 1, 2, 3] rfl h
def prX2_sumOfDifferences (P_wide : Int32) (P_high : Int32) (P_heights : Nat → Int32) : Prop := netOK P_wide P_high
set_option maxHeartbeats 4000000 in
set_option maxRecDepth 100000 in
theorem c_X2_sumOfDifferences (ad : Nat → Nat) (cA : Nat → ClassId) (P_wide : Int32) (P_high : Int32) (P_heights : Nat → Int32) (hq : prX2_sumOfDifferences P_wide P_high P_heights) : ∀ (l : Launch) (D : va_G), gMi (S := Unit) l yX2_sumOfDifferences wsX2_sumOfDifferences rmX2_sumOfDifferences D (gT cA) 0 0 [.ref (ad 15)] (wcX2_sumOfDifferences ad cA P_wide P_high P_heights) (fun r _ => r = drw P_wide.toNatClampNeg P_high.toNatClampNeg P_heights) (w1X2_sumOfDifferences ad cA P_wide P_high P_heights) := by
  intro l D
  unfold prX2_sumOfDifferences at hq
  refine g_enteri (cc := cX2_sumOfDifferences) (nL := 4) (ret := (some .int)) (by decide) rfl (Nat.le_of_ble_eq_true rfl) rfl (fun X C E => ?_)
  obtain ⟨w, h, hw2, hw, hh2, hh, rfl, rfl⟩ := hq
  rw [nI_clamp (by omega), nI_clamp (by omega)] at E
  refine sgX2_sumOfDifferences_0 C E ?_
  unfold drw sum2 at E
  generalize ht : (fun (y x : Nat) => (if x + 1 < w then szI (P_heights (8 * y + x) - P_heights (8 * y + (x + 1))) else 0) + (if y + 1 < h then szI (P_heights (8 * y + x) - P_heights (8 * (y + 1) + x)) else 0)) = t at E
  have outer : ∀ y, y ≤ h → atX2_sumOfDifferences_4 X ad cA (sumI (fun y => sumI (t y) w) y) (nI y) (nI w) (nI h) P_heights := by
    intro y hy
    refine up_loop (P := fun y => atX2_sumOfDifferences_4 X ad cA (sumI (fun y => sumI (t y) w) y) (nI y) (nI w) (nI h) P_heights) h ?_ (fun y hy ih => ?_) y hy
    · exact sgX2_sumOfDifferences_4 C E ⟨fun _ => by rw [← ht], fun c => absurd (i32_le_refl _) c⟩
    · refine sgX2_sumOfDifferences_4 C E ⟨fun c => absurd c (nI_ge hy (by omega)), fun _ => ?_⟩
      have inner : ∀ x, x ≤ w → atX2_sumOfDifferences_14 X ad cA (sumI (fun y => sumI (t y) w) y + sumI (t y) x) (nI y) (nI x) (nI w) (nI h) P_heights := by
        intro x hx
        refine up_loop (P := fun x => atX2_sumOfDifferences_14 X ad cA (sumI (fun y => sumI (t y) w) y + sumI (t y) x) (nI y) (nI x) (nI w) (nI h) P_heights) w ?_ (fun x hx ih2 => ?_) x hx
        · refine sgX2_sumOfDifferences_14 C E ⟨fun _ => ?_, fun c => absurd (i32_le_refl _) c⟩
          rw [nI_1]; exact ih
        · obtain ⟨d1, d2⟩ := dif_eq hw hh hx hy P_heights
          obtain ⟨d3, d4⟩ := dif_eq2 hw hh hx hy P_heights
          refine sgX2_sumOfDifferences_14 C E ⟨fun c => absurd c (nI_ge hx (by omega)), fun _ => ⟨d2, d4, fun v ev => ?_⟩⟩
          rw [d1, d3] at ev
          rw [nI_1, ev]
          have e2 : sumI (fun y => sumI (t y) w) y + sumI (t y) x + ((if x + 1 < w then szI (P_heights (8 * y + x) - P_heights (8 * y + (x + 1))) else 0) + (if y + 1 < h then szI (P_heights (8 * y + x) - P_heights (8 * (y + 1) + x)) else 0)) = sumI (fun y => sumI (t y) w) y + sumI (t y) (x + 1) := by
            rw [sumI, ← ht, Int32.add_assoc]
          rw [e2]; exact ih2
      have := inner 0 (Nat.zero_le _)
      rw [sumI, Int32.add_zero] at this
      exact this
  exact outer 0 (Nat.zero_le _)


abbrev w1X2_sumOfChanges (ad : Nat → Nat) (cA : Nat → ClassId) (P_wide : Int32) (P_high : Int32) (P_heights : Nat → Int32) (P_pinned : Nat → Int32) (u : (Nat → Int32)) : va_W := [((ad 15), .inr (2, [.ref (ad 16), .ref (ad 17), .ref (ad 18), .int P_wide, .int P_high])), ((ad 16), .inl (cA 0, 64, .inl P_heights)), ((ad 17), .inl (cA 2, 64, .inl P_pinned)), ((ad 18), .inl (cA 0, 4, .inl u))]
abbrev wcX2_sumOfChanges (ad : Nat → Nat) (cA : Nat → ClassId) (P_wide : Int32) (P_high : Int32) (P_heights : Nat → Int32) (P_pinned : Nat → Int32) (P_near : Nat → Int32) : va_W := [((ad 15), .inr (2, [.ref (ad 16), .ref (ad 17), .ref (ad 18), .int P_wide, .int P_high])), ((ad 16), .inl (cA 0, 64, .inl P_heights)), ((ad 17), .inl (cA 2, 64, .inl P_pinned)), ((ad 18), .inl (cA 0, 4, .inl P_near))]
def rmX2_sumOfChanges : Room := { frames := 3, cells := 0, slots := 0, locals := 73 }
abbrev atX2_sumOfChanges_0 (X : gX) (ad : Nat → Nat) (cA : Nat → ClassId) (P_wide : Int32) (P_high : Int32) (P_heights : Nat → Int32) (P_pinned : Nat → Int32) (P_near : Nat → Int32) : Prop := gW X 0 0 [((ad 15), .inr (2, [.ref (ad 16), .ref (ad 17), .ref (ad 18), .int P_wide, .int P_high])), ((ad 16), .inl (cA 0, 64, .inl P_heights)), ((ad 17), .inl (cA 2, 64, .inl P_pinned)), ((ad 18), .inl (cA 0, 4, .inl P_near))] 4 [(0, .ref (ad 15))] [] 0
abbrev atX2_sumOfChanges_4 (X : gX) (ad : Nat → Nat) (cA : Nat → ClassId) (x1 : Int32) (x2 : Int32) (P_wide : Int32) (P_high : Int32) (P_heights : Nat → Int32) (P_pinned : Nat → Int32) (P_near : Nat → Int32) : Prop := gW X 0 0 [((ad 15), .inr (2, [.ref (ad 16), .ref (ad 17), .ref (ad 18), .int P_wide, .int P_high])), ((ad 16), .inl (cA 0, 64, .inl P_heights)), ((ad 17), .inl (cA 2, 64, .inl P_pinned)), ((ad 18), .inl (cA 0, 4, .inl P_near))] 4 [(0, .ref (ad 15)), (1, .int x1), (2, .int x2)] [] 4
abbrev atX2_sumOfChanges_14 (X : gX) (ad : Nat → Nat) (cA : Nat → ClassId) (x1 : Int32) (x2 : Int32) (x3 : Int32) (P_wide : Int32) (P_high : Int32) (P_heights : Nat → Int32) (P_pinned : Nat → Int32) (P_near : Nat → Int32) : Prop := gW X 0 0 [((ad 15), .inr (2, [.ref (ad 16), .ref (ad 17), .ref (ad 18), .int P_wide, .int P_high])), ((ad 16), .inl (cA 0, 64, .inl P_heights)), ((ad 17), .inl (cA 2, 64, .inl P_pinned)), ((ad 18), .inl (cA 0, 4, .inl P_near))] 4 [(0, .ref (ad 15)), (1, .int x1), (2, .int x2), (3, .int x3)] [] 14
theorem mmX2_sumOfChanges_51a : Cond.methodLink RX2 51 Lib.Math.abs.name ∈ wsX2_sumOfChanges := by decide +kernel
theorem mmX2_sumOfChanges_51b : Cond.static Lib.Math.abs.name ∈ wsX2_sumOfChanges := by decide +kernel
theorem mmX2_sumOfChanges_51c : Cond.initialized "java/lang/Math" ∈ wsX2_sumOfChanges := by decide +kernel
theorem mmX2_sumOfChanges_51d : Cond.code Lib.Math.abs.name Lib.Math.abs.code 1 (some .int) ∈ wsX2_sumOfChanges := by decide +kernel
theorem giX2_sumOfChanges_X2 : ∀ w ∈ u_ws RX2 TX2 5, w ∈ wsX2_sumOfChanges := by decide +kernel
theorem gfX2_sumOfChanges_26 : gF wsX2_sumOfChanges RX2 26 2 4 RX2 TX2 5 := ⟨giX2_sumOfChanges_X2, by decide +kernel, rfl, by decide⟩
theorem gfX2_sumOfChanges_22 : gF wsX2_sumOfChanges RX2 22 2 3 RX2 TX2 5 := ⟨giX2_sumOfChanges_X2, by decide +kernel, rfl, by decide⟩
theorem gfX2_sumOfChanges_9 : gF wsX2_sumOfChanges RX2 9 2 0 RX2 TX2 5 := ⟨giX2_sumOfChanges_X2, by decide +kernel, rfl, by decide⟩
set_option maxHeartbeats 4000000 in
set_option maxRecDepth 100000 in
theorem sgX2_sumOfChanges_0 {X : gX} {ad : Nat → Nat} {cA : Nat → ClassId} {post : Int32 → ((Nat → Int32)) → Prop} {P_wide : Int32} {P_high : Int32} {P_heights : Nat → Int32} {P_pinned : Nat → Int32} {P_near : Nat → Int32} (C : gC X (gT cA) cX2_sumOfChanges 4 RX2 wsX2_sumOfChanges rmX2_sumOfChanges) (E : gEi X (some .int) (gT cA) 0 0 post (w1X2_sumOfChanges ad cA P_wide P_high P_heights P_pinned)) (h : atX2_sumOfChanges_4 X ad cA (0 : Int32) (0 : Int32) P_wide P_high P_heights P_pinned P_near) : atX2_sumOfChanges_0 X ad cA P_wide P_high P_heights P_pinned P_near := by
  refine g_iconst C dX2_sumOfChanges_0 ik_0 ?_
  refine g_istore_n (lv2 := [(0, .ref (ad 15)), (1, .int (0 : Int32))]) C dX2_sumOfChanges_1 rfl (by decide) [1, 0] rfl ?_
  refine g_iconst C dX2_sumOfChanges_2 ik_0 ?_
  refine g_istore_n (lv2 := [(0, .ref (ad 15)), (1, .int (0 : Int32)), (2, .int (0 : Int32))]) C dX2_sumOfChanges_3 rfl (by decide) [1, 2, 0] rfl ?_
  exact g_lv [0, 1, 2] rfl h
set_option maxHeartbeats 4000000 in
set_option maxRecDepth 100000 in
theorem sgX2_sumOfChanges_4 {X : gX} {ad : Nat → Nat} {cA : Nat → ClassId} {post : Int32 → ((Nat → Int32)) → Prop} {x1 : Int32} {x2 : Int32} {P_wide : Int32} {P_high : Int32} {P_heights : Nat → Int32} {P_pinned : Nat → Int32} {P_near : Nat → Int32} (C : gC X (gT cA) cX2_sumOfChanges 4 RX2 wsX2_sumOfChanges rmX2_sumOfChanges) (E : gEi X (some .int) (gT cA) 0 0 post (w1X2_sumOfChanges ad cA P_wide P_high P_heights P_pinned)) (h : (P_high ≤ x2 → post x1 P_near) ∧ (¬ P_high ≤ x2 → atX2_sumOfChanges_14 X ad cA x1 x2 (0 : Int32) P_wide P_high P_heights P_pinned P_near)) : atX2_sumOfChanges_4 X ad cA x1 x2 P_wide P_high P_heights P_pinned P_near := by
  refine g_iload_n C dX2_sumOfChanges_4 rfl 2 rfl ?_
  refine g_aload_n C dX2_sumOfChanges_5 rfl 0 rfl ?_
  refine g_get C gfX2_sumOfChanges_26 0 rfl rfl dX2_sumOfChanges_6 ?_
  refine g_icmp_ge (tgt := 58) C dX2_sumOfChanges_9 (by decide) (fun c_1 => ?_) (fun c_1 => ?_)
  · replace h := h.1 c_1
    refine g_iload_n C dX2_sumOfChanges_58 rfl 1 rfl ?_
    exact g_iret C E P_near h rfl dX2_sumOfChanges_59
  · replace h := h.2 c_1
    refine g_iconst C dX2_sumOfChanges_12 ik_0 ?_
    refine g_istore_n (lv2 := [(0, .ref (ad 15)), (1, .int x1), (2, .int x2), (3, .int (0 : Int32))]) C dX2_sumOfChanges_13 rfl (by decide) [1, 2, 3, 0] rfl ?_
    exact g_lv [0, 1, 2, 3] rfl h
set_option maxHeartbeats 4000000 in
set_option maxRecDepth 100000 in
theorem sgX2_sumOfChanges_14 {X : gX} {ad : Nat → Nat} {cA : Nat → ClassId} {post : Int32 → ((Nat → Int32)) → Prop} {x1 : Int32} {x2 : Int32} {x3 : Int32} {P_wide : Int32} {P_high : Int32} {P_heights : Nat → Int32} {P_pinned : Nat → Int32} {P_near : Nat → Int32} (C : gC X (gT cA) cX2_sumOfChanges 4 RX2 wsX2_sumOfChanges rmX2_sumOfChanges) (E : gEi X (some .int) (gT cA) 0 0 post (w1X2_sumOfChanges ad cA P_wide P_high P_heights P_pinned)) (h : (P_wide ≤ x3 → atX2_sumOfChanges_4 X ad cA x1 (x2 + 1) P_wide P_high P_heights P_pinned P_near) ∧ (¬ P_wide ≤ x3 → prX2_stepped x3 x2 P_wide P_high P_heights P_pinned P_near ∧ ∀ (r_4 : Int32) (u4_P_near : Nat → Int32), po_X2_stepped ad cA x3 x2 P_wide P_high P_heights P_pinned P_near r_4 u4_P_near → vp_in (fnX2_at x3 x2 P_wide P_high) 64 ∧ ∀ x1_7 : Int32, x1_7 = (x1 + (if 0 ≤ (r_4 - (P_heights (fnX2_at x3 x2 P_wide P_high).toNatClampNeg)) then (r_4 - (P_heights (fnX2_at x3 x2 P_wide P_high).toNatClampNeg)) else 0 - (r_4 - (P_heights (fnX2_at x3 x2 P_wide P_high).toNatClampNeg)))) → atX2_sumOfChanges_14 X ad cA x1_7 x2 (x3 + 1) P_wide P_high P_heights P_pinned u4_P_near)) : atX2_sumOfChanges_14 X ad cA x1 x2 x3 P_wide P_high P_heights P_pinned P_near := by
  refine g_iload_n C dX2_sumOfChanges_14 rfl 3 rfl ?_
  refine g_aload_n C dX2_sumOfChanges_15 rfl 0 rfl ?_
  refine g_get C gfX2_sumOfChanges_22 0 rfl rfl dX2_sumOfChanges_16 ?_
  refine g_icmp_ge (tgt := 52) C dX2_sumOfChanges_19 (by decide) (fun c_2 => ?_) (fun c_2 => ?_)
  · replace h := h.1 c_2
    refine g_iinc (v := (x2 + 1)) (lv2 := [(0, .ref (ad 15)), (1, .int x1), (2, .int (x2 + 1)), (3, .int x3)]) C dX2_sumOfChanges_52 2 rfl (by first | rfl | decide) (by decide) [1, 2, 0, 3] rfl ?_
    refine g_goto (tgt := 4) C dX2_sumOfChanges_55 (by decide) ?_
    exact g_lv [0, 1, 2] rfl h
  · replace h := h.2 c_2
    refine g_iload_n C dX2_sumOfChanges_22 rfl 1 rfl ?_
    refine g_aload_n C dX2_sumOfChanges_23 rfl 0 rfl ?_
    refine g_iload_n C dX2_sumOfChanges_24 rfl 3 rfl ?_
    refine g_iload_n C dX2_sumOfChanges_25 rfl 2 rfl ?_
    obtain ⟨hi_3, h⟩ := h
    refine g_callVi (wr := []) C (c_X2_stepped ad cA x3 x2 P_wide P_high P_heights P_pinned P_near hi_3) gX2_sumOfChanges_X2_stepped rfl hde_X2_stepped ⟨rfl, rfl⟩ (by decide) (by decide) [0, 1, 2, 3] [] [0, 1, 2, 3] rfl rfl rfl rfl (by decide) rfl (ws2 := fun u => [((ad 15), .inr (2, [.ref (ad 16), .ref (ad 17), .ref (ad 18), .int P_wide, .int P_high])), ((ad 16), .inl (cA 0, 64, .inl P_heights)), ((ad 17), .inl (cA 2, 64, .inl P_pinned)), ((ad 18), .inl (cA 0, 4, .inl u))]) (fun _ => rfl) 2 0 rfl rfl rfl (rest := [.int x1]) rfl (Nat.le_of_ble_eq_true rfl) dX2_sumOfChanges_26 (fun r_4 u_4 hp_4 => ?_)
    obtain ⟨u4_P_near, rfl⟩ : ∃ z, z = u_4 := ⟨_, rfl⟩
    replace h := h r_4 u4_P_near hp_4
    change gW X 0 0 [((ad 15), .inr (2, [.ref (ad 16), .ref (ad 17), .ref (ad 18), .int P_wide, .int P_high])), ((ad 16), .inl (cA 0, 64, .inl P_heights)), ((ad 17), .inl (cA 2, 64, .inl P_pinned)), ((ad 18), .inl (cA 0, 4, .inl u4_P_near))] 4 [(0, .ref (ad 15)), (1, .int x1), (2, .int x2), (3, .int x3)] [.int r_4, .int x1] 29
    refine g_aload_n C dX2_sumOfChanges_29 rfl 0 rfl ?_
    refine g_get C gfX2_sumOfChanges_9 0 rfl rfl dX2_sumOfChanges_30 ?_
    refine g_aload_n C dX2_sumOfChanges_33 rfl 0 rfl ?_
    refine g_iload_n C dX2_sumOfChanges_34 rfl 3 rfl ?_
    refine g_iload_n C dX2_sumOfChanges_35 rfl 2 rfl ?_
    refine g_callVi (wr := [((ad 16), .inl (cA 0, 64, .inl P_heights)), ((ad 17), .inl (cA 2, 64, .inl P_pinned)), ((ad 18), .inl (cA 0, 4, .inl u4_P_near))]) C (c_X2_at ad cA x3 x2 P_wide P_high) gX2_sumOfChanges_X2_at rfl hde_X2_at ⟨rfl, rfl⟩ (by decide) (by decide) [0] [1, 2, 3] [3, 0, 1, 2] rfl rfl rfl rfl (by decide) rfl (ws2 := fun u => [((ad 15), .inr (2, [.ref (ad 16), .ref (ad 17), .ref (ad 18), .int P_wide, .int P_high])), ((ad 16), .inl (cA 0, 64, .inl P_heights)), ((ad 17), .inl (cA 2, 64, .inl P_pinned)), ((ad 18), .inl (cA 0, 4, .inl u4_P_near))]) (fun _ => rfl) 2 0 rfl rfl rfl (rest := [.ref (ad 16), .int r_4, .int x1]) rfl (Nat.le_of_ble_eq_true rfl) dX2_sumOfChanges_36 (fun r_5 u_5 hp_5 => ?_)
    subst hp_5
    change gW X 0 0 [((ad 15), .inr (2, [.ref (ad 16), .ref (ad 17), .ref (ad 18), .int P_wide, .int P_high])), ((ad 16), .inl (cA 0, 64, .inl P_heights)), ((ad 17), .inl (cA 2, 64, .inl P_pinned)), ((ad 18), .inl (cA 0, 4, .inl u4_P_near))] 4 [(0, .ref (ad 15)), (1, .int x1), (2, .int x2), (3, .int x3)] [.int (fnX2_at x3 x2 P_wide P_high), .ref (ad 16), .int r_4, .int x1] 39
    obtain ⟨hi_6, h⟩ := h
    refine g_iald C 1 0 rfl rfl hi_6 dX2_sumOfChanges_39 ?_
    refine g_isub C dX2_sumOfChanges_40 ?_
    refine g_mabs C mmX2_sumOfChanges_51a mmX2_sumOfChanges_51b mmX2_sumOfChanges_51c mmX2_sumOfChanges_51d (by decide) (Nat.le_of_ble_eq_true rfl) (by decide) (by decide) dX2_sumOfChanges_41 ?_
    refine g_iadd C dX2_sumOfChanges_44 ?_
    refine g_topi (fun x1_7 ex1_7 => ?_)
    replace h := h x1_7 ex1_7
    refine g_istore_n (lv2 := [(0, .ref (ad 15)), (1, .int x1_7), (2, .int x2), (3, .int x3)]) C dX2_sumOfChanges_45 rfl (by decide) [1, 0, 2, 3] rfl ?_
    refine g_iinc (v := (x3 + 1)) (lv2 := [(0, .ref (ad 15)), (1, .int x1_7), (2, .int x2), (3, .int (x3 + 1))]) C dX2_sumOfChanges_46 3 rfl (by first | rfl | decide) (by decide) [1, 2, 3, 0] rfl ?_
    refine g_goto (tgt := 14) C dX2_sumOfChanges_49 (by decide) ?_
    exact g_lv [0, 1, 2, 3] rfl h
def prX2_sumOfChanges (P_wide : Int32) (P_high : Int32) (P_heights : Nat → Int32) (P_pinned : Nat → Int32) (P_near : Nat → Int32) : Prop := netOK P_wide P_high
def po_X2_sumOfChanges (ad : Nat → Nat) (cA : Nat → ClassId) (P_wide : Int32) (P_high : Int32) (P_heights : Nat → Int32) (P_pinned : Nat → Int32) (P_near : Nat → Int32) (r : Int32) (u : (Nat → Int32)) : Prop := r = chg P_wide.toNatClampNeg P_high.toNatClampNeg P_pinned P_heights
set_option maxHeartbeats 4000000 in
set_option maxRecDepth 100000 in
theorem c_X2_sumOfChanges (ad : Nat → Nat) (cA : Nat → ClassId) (P_wide : Int32) (P_high : Int32) (P_heights : Nat → Int32) (P_pinned : Nat → Int32) (P_near : Nat → Int32) (hq : prX2_sumOfChanges P_wide P_high P_heights P_pinned P_near) : ∀ (l : Launch) (D : va_G), gMi (S := (Nat → Int32)) l yX2_sumOfChanges wsX2_sumOfChanges rmX2_sumOfChanges D (gT cA) 0 0 [.ref (ad 15)] (wcX2_sumOfChanges ad cA P_wide P_high P_heights P_pinned P_near) (po_X2_sumOfChanges ad cA P_wide P_high P_heights P_pinned P_near) (w1X2_sumOfChanges ad cA P_wide P_high P_heights P_pinned) := by
  intro l D
  unfold prX2_sumOfChanges at hq
  refine g_enteri (cc := cX2_sumOfChanges) (nL := 4) (ret := (some .int)) (by decide) rfl (Nat.le_of_ble_eq_true rfl) rfl (fun X C E => ?_)
  obtain ⟨w, h, hw2, hw, hh2, hh, rfl, rfl⟩ := hq
  have hpo : ∀ (r : Int32) (u : Nat → Int32), r = chg w h P_pinned P_heights → po_X2_sumOfChanges ad cA (nI w) (nI h) P_heights P_pinned P_near r u := fun r u e => by
    unfold po_X2_sumOfChanges
    rw [nI_clamp (by omega), nI_clamp (by omega)]; exact e
  refine sgX2_sumOfChanges_0 C E ?_
  unfold chg sum2 at hpo
  generalize ht : (fun (y x : Nat) => szI (stp w h P_pinned P_heights x y - P_heights (8 * y + x))) = t at hpo
  have outer : ∀ y, y ≤ h → ∀ nr, atX2_sumOfChanges_4 X ad cA (sumI (fun y => sumI (t y) w) y) (nI y) (nI w) (nI h) P_heights P_pinned nr := by
    intro y hy
    refine up_loop (P := fun y => ∀ nr, atX2_sumOfChanges_4 X ad cA (sumI (fun y => sumI (t y) w) y) (nI y) (nI w) (nI h) P_heights P_pinned nr) h ?_ (fun y hy ih nr => ?_) y hy
    · exact fun nr => sgX2_sumOfChanges_4 C E ⟨fun _ => hpo _ _ (by rw [← ht]), fun c => absurd (i32_le_refl _) c⟩
    · refine sgX2_sumOfChanges_4 C E ⟨fun c => absurd c (nI_ge hy (by omega)), fun _ => ?_⟩
      have inner : ∀ x, x ≤ w → ∀ nr, atX2_sumOfChanges_14 X ad cA (sumI (fun y => sumI (t y) w) y + sumI (t y) x) (nI y) (nI x) (nI w) (nI h) P_heights P_pinned nr := by
        intro x hx
        refine up_loop (P := fun x => ∀ nr, atX2_sumOfChanges_14 X ad cA (sumI (fun y => sumI (t y) w) y + sumI (t y) x) (nI y) (nI x) (nI w) (nI h) P_heights P_pinned nr) w ?_ (fun x hx ih2 nr => ?_) x hx
        · refine fun nr => sgX2_sumOfChanges_14 C E ⟨fun _ => ?_, fun c => absurd (i32_le_refl _) c⟩
          rw [nI_1]; exact ih nr
        · refine sgX2_sumOfChanges_14 C E ⟨fun c => absurd c (nI_ge hx (by omega)), fun _ => ⟨⟨w, h, x, y, hw2, hw, hh2, hh, rfl, rfl, hx, hy, rfl, rfl⟩, fun r u hr => ?_⟩⟩
          unfold po_X2_stepped at hr
          rw [nI_clamp (by omega), nI_clamp (by omega), nI_clamp (by omega), nI_clamp (by omega)] at hr
          rw [at_eq, nI_clamp (by omega)]
          refine ⟨vp_in_nI (by omega) (by decide), fun v ev => ?_⟩
          rw [nI_1, ev, hr]
          have e2 : sumI (fun y => sumI (t y) w) y + sumI (t y) x + szI (stp w h P_pinned P_heights x y - P_heights (8 * y + x)) = sumI (fun y => sumI (t y) w) y + sumI (t y) (x + 1) := by
            rw [sumI, ← ht, Int32.add_assoc]
          have e3 := ih2 u
          rw [← e2] at e3
          exact e3
      have := inner 0 (Nat.zero_le _) nr
      rw [sumI, Int32.add_zero] at this
      exact this
  exact outer 0 (Nat.zero_le _) P_near


abbrev w1X2_isAtRest (ad : Nat → Nat) (cA : Nat → ClassId) (P_wide : Int32) (P_high : Int32) (P_heights : Nat → Int32) (P_pinned : Nat → Int32) (u : (Nat → Int32)) : va_W := [((ad 15), .inr (2, [.ref (ad 16), .ref (ad 17), .ref (ad 18), .int P_wide, .int P_high])), ((ad 16), .inl (cA 0, 64, .inl P_heights)), ((ad 17), .inl (cA 2, 64, .inl P_pinned)), ((ad 18), .inl (cA 0, 4, .inl u))]
abbrev wcX2_isAtRest (ad : Nat → Nat) (cA : Nat → ClassId) (P_wide : Int32) (P_high : Int32) (P_heights : Nat → Int32) (P_pinned : Nat → Int32) (P_near : Nat → Int32) : va_W := [((ad 15), .inr (2, [.ref (ad 16), .ref (ad 17), .ref (ad 18), .int P_wide, .int P_high])), ((ad 16), .inl (cA 0, 64, .inl P_heights)), ((ad 17), .inl (cA 2, 64, .inl P_pinned)), ((ad 18), .inl (cA 0, 4, .inl P_near))]
def rmX2_isAtRest : Room := { frames := 4, cells := 0, slots := 0, locals := 96 }
abbrev atX2_isAtRest_0 (X : gX) (ad : Nat → Nat) (cA : Nat → ClassId) (P_wide : Int32) (P_high : Int32) (P_heights : Nat → Int32) (P_pinned : Nat → Int32) (P_near : Nat → Int32) : Prop := gW X 0 0 [((ad 15), .inr (2, [.ref (ad 16), .ref (ad 17), .ref (ad 18), .int P_wide, .int P_high])), ((ad 16), .inl (cA 0, 64, .inl P_heights)), ((ad 17), .inl (cA 2, 64, .inl P_pinned)), ((ad 18), .inl (cA 0, 4, .inl P_near))] 1 [(0, .ref (ad 15))] [] 0
set_option maxHeartbeats 4000000 in
set_option maxRecDepth 100000 in
theorem sgX2_isAtRest_0 {X : gX} {ad : Nat → Nat} {cA : Nat → ClassId} {post : Int32 → ((Nat → Int32)) → Prop} {P_wide : Int32} {P_high : Int32} {P_heights : Nat → Int32} {P_pinned : Nat → Int32} {P_near : Nat → Int32} (C : gC X (gT cA) cX2_isAtRest 1 RX2 wsX2_isAtRest rmX2_isAtRest) (E : gEi X (some .boolean) (gT cA) 0 0 post (w1X2_isAtRest ad cA P_wide P_high P_heights P_pinned)) (h : prX2_sumOfChanges P_wide P_high P_heights P_pinned P_near ∧ ∀ (r_2 : Int32) (u2_P_near : Nat → Int32), po_X2_sumOfChanges ad cA P_wide P_high P_heights P_pinned P_near r_2 u2_P_near → (¬ r_2 = 0 → post (0 : Int32) u2_P_near) ∧ (r_2 = 0 → post (1 : Int32) u2_P_near)) : atX2_isAtRest_0 X ad cA P_wide P_high P_heights P_pinned P_near := by
  refine g_aload_n C dX2_isAtRest_0 rfl 0 rfl ?_
  obtain ⟨hi_1, h⟩ := h
  refine g_callVi (wr := []) C (c_X2_sumOfChanges ad cA P_wide P_high P_heights P_pinned P_near hi_1) gX2_isAtRest_X2_sumOfChanges rfl hde_X2_sumOfChanges ⟨rfl, rfl⟩ (by decide) (by decide) [0, 1, 2, 3] [] [0, 1, 2, 3] rfl rfl rfl rfl (by decide) rfl (ws2 := fun u => [((ad 15), .inr (2, [.ref (ad 16), .ref (ad 17), .ref (ad 18), .int P_wide, .int P_high])), ((ad 16), .inl (cA 0, 64, .inl P_heights)), ((ad 17), .inl (cA 2, 64, .inl P_pinned)), ((ad 18), .inl (cA 0, 4, .inl u))]) (fun _ => rfl) 2 0 rfl rfl rfl (rest := []) rfl (Nat.le_of_ble_eq_true rfl) dX2_isAtRest_1 (fun r_2 u_2 hp_2 => ?_)
  obtain ⟨u2_P_near, rfl⟩ : ∃ z, z = u_2 := ⟨_, rfl⟩
  replace h := h r_2 u2_P_near hp_2
  change gW X 0 0 [((ad 15), .inr (2, [.ref (ad 16), .ref (ad 17), .ref (ad 18), .int P_wide, .int P_high])), ((ad 16), .inl (cA 0, 64, .inl P_heights)), ((ad 17), .inl (cA 2, 64, .inl P_pinned)), ((ad 18), .inl (cA 0, 4, .inl u2_P_near))] 1 [(0, .ref (ad 15))] [.int r_2] 4
  refine g_if_ne (tgt := 11) C dX2_isAtRest_4 (by decide) (fun c_3 => ?_) (fun c_3 => ?_)
  · replace h := h.1 c_3
    refine g_iconst C dX2_isAtRest_11 ik_0 ?_
    exact g_zret C E rfl u2_P_near h rfl dX2_isAtRest_12
  · replace h := h.2 c_3
    refine g_iconst C dX2_isAtRest_7 ik_1 ?_
    refine g_goto (tgt := 12) C dX2_isAtRest_8 (by decide) ?_
    exact g_zret C E rfl u2_P_near h rfl dX2_isAtRest_12
def prX2_isAtRest (P_wide : Int32) (P_high : Int32) (P_heights : Nat → Int32) (P_pinned : Nat → Int32) (P_near : Nat → Int32) : Prop := netOK P_wide P_high
def po_X2_isAtRest (ad : Nat → Nat) (cA : Nat → ClassId) (P_wide : Int32) (P_high : Int32) (P_heights : Nat → Int32) (P_pinned : Nat → Int32) (P_near : Nat → Int32) (r : Int32) (u : (Nat → Int32)) : Prop := r = bI (decide (chg P_wide.toNatClampNeg P_high.toNatClampNeg P_pinned P_heights = 0))
set_option maxHeartbeats 4000000 in
set_option maxRecDepth 100000 in
theorem c_X2_isAtRest (ad : Nat → Nat) (cA : Nat → ClassId) (P_wide : Int32) (P_high : Int32) (P_heights : Nat → Int32) (P_pinned : Nat → Int32) (P_near : Nat → Int32) (hq : prX2_isAtRest P_wide P_high P_heights P_pinned P_near) : ∀ (l : Launch) (D : va_G), gMi (S := (Nat → Int32)) l yX2_isAtRest wsX2_isAtRest rmX2_isAtRest D (gT cA) 0 0 [.ref (ad 15)] (wcX2_isAtRest ad cA P_wide P_high P_heights P_pinned P_near) (po_X2_isAtRest ad cA P_wide P_high P_heights P_pinned P_near) (w1X2_isAtRest ad cA P_wide P_high P_heights P_pinned) := by
  intro l D
  unfold prX2_isAtRest at hq
  refine g_enteri (cc := cX2_isAtRest) (nL := 1) (ret := (some .boolean)) (by decide) rfl (Nat.le_of_ble_eq_true rfl) rfl (fun X C E => ?_)
  refine sgX2_isAtRest_0 C E ⟨hq, fun r u hr => ⟨fun c => ?_, fun c => ?_⟩⟩
  · unfold po_X2_sumOfChanges at hr
    show _ = bI _
    rw [decide_eq_false (by rw [← hr]; exact c)]; rfl
  · unfold po_X2_sumOfChanges at hr
    show _ = bI _
    rw [decide_eq_true (by rw [← hr]; exact c)]; rfl


abbrev w1X2_stepAtEach (ad : Nat → Nat) (cA : Nat → ClassId) (P_wide : Int32) (P_high : Int32) (P_pinned : Nat → Int32) (u : (Nat → Int32) × (Nat → Int32)) : va_W := [((ad 15), .inr (2, [.ref (ad 16), .ref (ad 17), .ref (ad 18), .int P_wide, .int P_high])), ((ad 16), .inl (cA 0, 64, .inl u.1)), ((ad 17), .inl (cA 2, 64, .inl P_pinned)), ((ad 18), .inl (cA 0, 4, .inl u.2))]
abbrev wcX2_stepAtEach (ad : Nat → Nat) (cA : Nat → ClassId) (P_wide : Int32) (P_high : Int32) (P_heights : Nat → Int32) (P_pinned : Nat → Int32) (P_near : Nat → Int32) : va_W := [((ad 15), .inr (2, [.ref (ad 16), .ref (ad 17), .ref (ad 18), .int P_wide, .int P_high])), ((ad 16), .inl (cA 0, 64, .inl P_heights)), ((ad 17), .inl (cA 2, 64, .inl P_pinned)), ((ad 18), .inl (cA 0, 4, .inl P_near))]
def rmX2_stepAtEach : Room := { frames := 3, cells := 0, slots := 0, locals := 73 }
abbrev atX2_stepAtEach_0 (X : gX) (ad : Nat → Nat) (cA : Nat → ClassId) (P_wide : Int32) (P_high : Int32) (P_heights : Nat → Int32) (P_pinned : Nat → Int32) (P_near : Nat → Int32) : Prop := gW X 0 0 [((ad 15), .inr (2, [.ref (ad 16), .ref (ad 17), .ref (ad 18), .int P_wide, .int P_high])), ((ad 16), .inl (cA 0, 64, .inl P_heights)), ((ad 17), .inl (cA 2, 64, .inl P_pinned)), ((ad 18), .inl (cA 0, 4, .inl P_near))] 3 [(0, .ref (ad 15))] [] 0
abbrev atX2_stepAtEach_2 (X : gX) (ad : Nat → Nat) (cA : Nat → ClassId) (x1 : Int32) (P_wide : Int32) (P_high : Int32) (P_heights : Nat → Int32) (P_pinned : Nat → Int32) (P_near : Nat → Int32) : Prop := gW X 0 0 [((ad 15), .inr (2, [.ref (ad 16), .ref (ad 17), .ref (ad 18), .int P_wide, .int P_high])), ((ad 16), .inl (cA 0, 64, .inl P_heights)), ((ad 17), .inl (cA 2, 64, .inl P_pinned)), ((ad 18), .inl (cA 0, 4, .inl P_near))] 3 [(0, .ref (ad 15)), (1, .int x1)] [] 2
abbrev atX2_stepAtEach_12 (X : gX) (ad : Nat → Nat) (cA : Nat → ClassId) (x1 : Int32) (x2 : Int32) (P_wide : Int32) (P_high : Int32) (P_heights : Nat → Int32) (P_pinned : Nat → Int32) (P_near : Nat → Int32) : Prop := gW X 0 0 [((ad 15), .inr (2, [.ref (ad 16), .ref (ad 17), .ref (ad 18), .int P_wide, .int P_high])), ((ad 16), .inl (cA 0, 64, .inl P_heights)), ((ad 17), .inl (cA 2, 64, .inl P_pinned)), ((ad 18), .inl (cA 0, 4, .inl P_near))] 3 [(0, .ref (ad 15)), (1, .int x1), (2, .int x2)] [] 12
theorem giX2_stepAtEach_X2 : ∀ w ∈ u_ws RX2 TX2 5, w ∈ wsX2_stepAtEach := by decide +kernel
theorem gfX2_stepAtEach_26 : gF wsX2_stepAtEach RX2 26 2 4 RX2 TX2 5 := ⟨giX2_stepAtEach_X2, by decide +kernel, rfl, by decide⟩
theorem gfX2_stepAtEach_22 : gF wsX2_stepAtEach RX2 22 2 3 RX2 TX2 5 := ⟨giX2_stepAtEach_X2, by decide +kernel, rfl, by decide⟩
theorem gfX2_stepAtEach_9 : gF wsX2_stepAtEach RX2 9 2 0 RX2 TX2 5 := ⟨giX2_stepAtEach_X2, by decide +kernel, rfl, by decide⟩
set_option maxHeartbeats 4000000 in
set_option maxRecDepth 100000 in
theorem sgX2_stepAtEach_0 {X : gX} {ad : Nat → Nat} {cA : Nat → ClassId} {post : ((Nat → Int32) × (Nat → Int32)) → Prop} {P_wide : Int32} {P_high : Int32} {P_heights : Nat → Int32} {P_pinned : Nat → Int32} {P_near : Nat → Int32} (C : gC X (gT cA) cX2_stepAtEach 3 RX2 wsX2_stepAtEach rmX2_stepAtEach) (E : gEv X none (gT cA) 0 0 post (w1X2_stepAtEach ad cA P_wide P_high P_pinned)) (h : atX2_stepAtEach_2 X ad cA (0 : Int32) P_wide P_high P_heights P_pinned P_near) : atX2_stepAtEach_0 X ad cA P_wide P_high P_heights P_pinned P_near := by
  refine g_iconst C dX2_stepAtEach_0 ik_0 ?_
  refine g_istore_n (lv2 := [(0, .ref (ad 15)), (1, .int (0 : Int32))]) C dX2_stepAtEach_1 rfl (by decide) [1, 0] rfl ?_
  exact g_lv [0, 1] rfl h
set_option maxHeartbeats 4000000 in
set_option maxRecDepth 100000 in
theorem sgX2_stepAtEach_2 {X : gX} {ad : Nat → Nat} {cA : Nat → ClassId} {post : ((Nat → Int32) × (Nat → Int32)) → Prop} {x1 : Int32} {P_wide : Int32} {P_high : Int32} {P_heights : Nat → Int32} {P_pinned : Nat → Int32} {P_near : Nat → Int32} (C : gC X (gT cA) cX2_stepAtEach 3 RX2 wsX2_stepAtEach rmX2_stepAtEach) (E : gEv X none (gT cA) 0 0 post (w1X2_stepAtEach ad cA P_wide P_high P_pinned)) (h : (P_high ≤ x1 → post (P_heights, P_near)) ∧ (¬ P_high ≤ x1 → atX2_stepAtEach_12 X ad cA x1 (0 : Int32) P_wide P_high P_heights P_pinned P_near)) : atX2_stepAtEach_2 X ad cA x1 P_wide P_high P_heights P_pinned P_near := by
  refine g_iload_n C dX2_stepAtEach_2 rfl 1 rfl ?_
  refine g_aload_n C dX2_stepAtEach_3 rfl 0 rfl ?_
  refine g_get C gfX2_stepAtEach_26 0 rfl rfl dX2_stepAtEach_4 ?_
  refine g_icmp_ge (tgt := 49) C dX2_stepAtEach_7 (by decide) (fun c_1 => ?_) (fun c_1 => ?_)
  · replace h := h.1 c_1
    exact g_vret C E (P_heights, P_near) h rfl dX2_stepAtEach_49
  · replace h := h.2 c_1
    refine g_iconst C dX2_stepAtEach_10 ik_0 ?_
    refine g_istore_n (lv2 := [(0, .ref (ad 15)), (1, .int x1), (2, .int (0 : Int32))]) C dX2_stepAtEach_11 rfl (by decide) [1, 2, 0] rfl ?_
    exact g_lv [0, 1, 2] rfl h
set_option maxHeartbeats 4000000 in
set_option maxRecDepth 100000 in
theorem sgX2_stepAtEach_12 {X : gX} {ad : Nat → Nat} {cA : Nat → ClassId} {post : ((Nat → Int32) × (Nat → Int32)) → Prop} {x1 : Int32} {x2 : Int32} {P_wide : Int32} {P_high : Int32} {P_heights : Nat → Int32} {P_pinned : Nat → Int32} {P_near : Nat → Int32} (C : gC X (gT cA) cX2_stepAtEach 3 RX2 wsX2_stepAtEach rmX2_stepAtEach) (E : gEv X none (gT cA) 0 0 post (w1X2_stepAtEach ad cA P_wide P_high P_pinned)) (h : (P_wide ≤ x2 → atX2_stepAtEach_2 X ad cA (x1 + 1) P_wide P_high P_heights P_pinned P_near) ∧ (¬ P_wide ≤ x2 → prX2_stepped x2 x1 P_wide P_high P_heights P_pinned P_near ∧ ∀ (r_5 : Int32) (u5_P_near : Nat → Int32), po_X2_stepped ad cA x2 x1 P_wide P_high P_heights P_pinned P_near r_5 u5_P_near → vp_in (fnX2_at x2 x1 P_wide P_high) 64 ∧ atX2_stepAtEach_12 X ad cA x1 (x2 + 1) P_wide P_high (upd P_heights (fnX2_at x2 x1 P_wide P_high).toNatClampNeg r_5) P_pinned u5_P_near)) : atX2_stepAtEach_12 X ad cA x1 x2 P_wide P_high P_heights P_pinned P_near := by
  refine g_iload_n C dX2_stepAtEach_12 rfl 2 rfl ?_
  refine g_aload_n C dX2_stepAtEach_13 rfl 0 rfl ?_
  refine g_get C gfX2_stepAtEach_22 0 rfl rfl dX2_stepAtEach_14 ?_
  refine g_icmp_ge (tgt := 43) C dX2_stepAtEach_17 (by decide) (fun c_2 => ?_) (fun c_2 => ?_)
  · replace h := h.1 c_2
    refine g_iinc (v := (x1 + 1)) (lv2 := [(0, .ref (ad 15)), (1, .int (x1 + 1)), (2, .int x2)]) C dX2_stepAtEach_43 1 rfl (by first | rfl | decide) (by decide) [1, 0, 2] rfl ?_
    refine g_goto (tgt := 2) C dX2_stepAtEach_46 (by decide) ?_
    exact g_lv [0, 1] rfl h
  · replace h := h.2 c_2
    refine g_aload_n C dX2_stepAtEach_20 rfl 0 rfl ?_
    refine g_get C gfX2_stepAtEach_9 0 rfl rfl dX2_stepAtEach_21 ?_
    refine g_aload_n C dX2_stepAtEach_24 rfl 0 rfl ?_
    refine g_iload_n C dX2_stepAtEach_25 rfl 2 rfl ?_
    refine g_iload_n C dX2_stepAtEach_26 rfl 1 rfl ?_
    refine g_callVi (wr := [((ad 16), .inl (cA 0, 64, .inl P_heights)), ((ad 17), .inl (cA 2, 64, .inl P_pinned)), ((ad 18), .inl (cA 0, 4, .inl P_near))]) C (c_X2_at ad cA x2 x1 P_wide P_high) gX2_stepAtEach_X2_at rfl hde_X2_at ⟨rfl, rfl⟩ (by decide) (by decide) [0] [1, 2, 3] [3, 0, 1, 2] rfl rfl rfl rfl (by decide) rfl (ws2 := fun u => [((ad 15), .inr (2, [.ref (ad 16), .ref (ad 17), .ref (ad 18), .int P_wide, .int P_high])), ((ad 16), .inl (cA 0, 64, .inl P_heights)), ((ad 17), .inl (cA 2, 64, .inl P_pinned)), ((ad 18), .inl (cA 0, 4, .inl P_near))]) (fun _ => rfl) 2 0 rfl rfl rfl (rest := [.ref (ad 16)]) rfl (Nat.le_of_ble_eq_true rfl) dX2_stepAtEach_27 (fun r_3 u_3 hp_3 => ?_)
    subst hp_3
    change gW X 0 0 [((ad 15), .inr (2, [.ref (ad 16), .ref (ad 17), .ref (ad 18), .int P_wide, .int P_high])), ((ad 16), .inl (cA 0, 64, .inl P_heights)), ((ad 17), .inl (cA 2, 64, .inl P_pinned)), ((ad 18), .inl (cA 0, 4, .inl P_near))] 3 [(0, .ref (ad 15)), (1, .int x1), (2, .int x2)] [.int (fnX2_at x2 x1 P_wide P_high), .ref (ad 16)] 30
    refine g_aload_n C dX2_stepAtEach_30 rfl 0 rfl ?_
    refine g_iload_n C dX2_stepAtEach_31 rfl 2 rfl ?_
    refine g_iload_n C dX2_stepAtEach_32 rfl 1 rfl ?_
    obtain ⟨hi_4, h⟩ := h
    refine g_callVi (wr := []) C (c_X2_stepped ad cA x2 x1 P_wide P_high P_heights P_pinned P_near hi_4) gX2_stepAtEach_X2_stepped rfl hde_X2_stepped ⟨rfl, rfl⟩ (by decide) (by decide) [0, 1, 2, 3] [] [0, 1, 2, 3] rfl rfl rfl rfl (by decide) rfl (ws2 := fun u => [((ad 15), .inr (2, [.ref (ad 16), .ref (ad 17), .ref (ad 18), .int P_wide, .int P_high])), ((ad 16), .inl (cA 0, 64, .inl P_heights)), ((ad 17), .inl (cA 2, 64, .inl P_pinned)), ((ad 18), .inl (cA 0, 4, .inl u))]) (fun _ => rfl) 2 0 rfl rfl rfl (rest := [.int (fnX2_at x2 x1 P_wide P_high), .ref (ad 16)]) rfl (Nat.le_of_ble_eq_true rfl) dX2_stepAtEach_33 (fun r_5 u_5 hp_5 => ?_)
    obtain ⟨u5_P_near, rfl⟩ : ∃ z, z = u_5 := ⟨_, rfl⟩
    replace h := h r_5 u5_P_near hp_5
    change gW X 0 0 [((ad 15), .inr (2, [.ref (ad 16), .ref (ad 17), .ref (ad 18), .int P_wide, .int P_high])), ((ad 16), .inl (cA 0, 64, .inl P_heights)), ((ad 17), .inl (cA 2, 64, .inl P_pinned)), ((ad 18), .inl (cA 0, 4, .inl u5_P_near))] 3 [(0, .ref (ad 15)), (1, .int x1), (2, .int x2)] [.int r_5, .int (fnX2_at x2 x1 P_wide P_high), .ref (ad 16)] 36
    obtain ⟨hi_6, h⟩ := h
    refine g_iast (ws2 := [((ad 15), .inr (2, [.ref (ad 16), .ref (ad 17), .ref (ad 18), .int P_wide, .int P_high])), ((ad 16), .inl (cA 0, 64, .inl (upd P_heights (fnX2_at x2 x1 P_wide P_high).toNatClampNeg r_5))), ((ad 17), .inl (cA 2, 64, .inl P_pinned)), ((ad 18), .inl (cA 0, 4, .inl u5_P_near))]) C 1 0 rfl rfl hi_6 rfl dX2_stepAtEach_36 ?_
    refine g_iinc (v := (x2 + 1)) (lv2 := [(0, .ref (ad 15)), (1, .int x1), (2, .int (x2 + 1))]) C dX2_stepAtEach_37 2 rfl (by first | rfl | decide) (by decide) [1, 2, 0] rfl ?_
    refine g_goto (tgt := 12) C dX2_stepAtEach_40 (by decide) ?_
    exact g_lv [0, 1, 2] rfl h
def prX2_stepAtEach (P_wide : Int32) (P_high : Int32) (P_heights : Nat → Int32) (P_pinned : Nat → Int32) (P_near : Nat → Int32) : Prop := netOK P_wide P_high
def po_X2_stepAtEach (ad : Nat → Nat) (cA : Nat → ClassId) (P_wide : Int32) (P_high : Int32) (P_heights : Nat → Int32) (P_pinned : Nat → Int32) (P_near : Nat → Int32) (u : (Nat → Int32) × (Nat → Int32)) : Prop := u.1 = stR P_wide.toNatClampNeg P_high.toNatClampNeg P_pinned P_heights
set_option maxHeartbeats 4000000 in
set_option maxRecDepth 100000 in
theorem c_X2_stepAtEach (ad : Nat → Nat) (cA : Nat → ClassId) (P_wide : Int32) (P_high : Int32) (P_heights : Nat → Int32) (P_pinned : Nat → Int32) (P_near : Nat → Int32) (hq : prX2_stepAtEach P_wide P_high P_heights P_pinned P_near) : ∀ (l : Launch) (D : va_G), gMv (S := (Nat → Int32) × (Nat → Int32)) l yX2_stepAtEach wsX2_stepAtEach rmX2_stepAtEach D (gT cA) 0 0 [.ref (ad 15)] (wcX2_stepAtEach ad cA P_wide P_high P_heights P_pinned P_near) (po_X2_stepAtEach ad cA P_wide P_high P_heights P_pinned P_near) (w1X2_stepAtEach ad cA P_wide P_high P_pinned) := by
  intro l D
  unfold prX2_stepAtEach at hq
  refine g_enterv (cc := cX2_stepAtEach) (nL := 3) (ret := none) (by decide) rfl (Nat.le_of_ble_eq_true rfl) rfl (fun X C E => ?_)
  obtain ⟨w, h, hw2, hw, hh2, hh, rfl, rfl⟩ := hq
  have hpo : ∀ (H u : Nat → Int32), H = stR w h P_pinned P_heights → po_X2_stepAtEach ad cA (nI w) (nI h) P_heights P_pinned P_near (H, u) := fun H u e => by
    unfold po_X2_stepAtEach
    rw [nI_clamp (by omega), nI_clamp (by omega)]; exact e
  refine sgX2_stepAtEach_0 C E ?_
  have outer : ∀ y, y ≤ h → ∀ nr, atX2_stepAtEach_2 X ad cA (nI y) (nI w) (nI h) (stY w h P_pinned y P_heights) P_pinned nr := by
    intro y hy
    refine up_loop (P := fun y => ∀ nr, atX2_stepAtEach_2 X ad cA (nI y) (nI w) (nI h) (stY w h P_pinned y P_heights) P_pinned nr) h ?_ (fun y hy ih nr => ?_) y hy
    · exact fun nr => sgX2_stepAtEach_2 C E ⟨fun _ => hpo _ _ rfl, fun c => absurd (i32_le_refl _) c⟩
    · refine sgX2_stepAtEach_2 C E ⟨fun c => absurd c (nI_ge hy (by omega)), fun _ => ?_⟩
      have inner : ∀ x, x ≤ w → ∀ nr, atX2_stepAtEach_12 X ad cA (nI y) (nI x) (nI w) (nI h) (stX w h P_pinned y x (stY w h P_pinned y P_heights)) P_pinned nr := by
        intro x hx
        refine up_loop (P := fun x => ∀ nr, atX2_stepAtEach_12 X ad cA (nI y) (nI x) (nI w) (nI h) (stX w h P_pinned y x (stY w h P_pinned y P_heights)) P_pinned nr) w ?_ (fun x hx ih2 nr => ?_) x hx
        · refine fun nr => sgX2_stepAtEach_12 C E ⟨fun _ => ?_, fun c => absurd (i32_le_refl _) c⟩
          rw [nI_1]; exact ih nr
        · refine sgX2_stepAtEach_12 C E ⟨fun c => absurd c (nI_ge hx (by omega)), fun _ => ⟨⟨w, h, x, y, hw2, hw, hh2, hh, rfl, rfl, hx, hy, rfl, rfl⟩, fun r u hr => ?_⟩⟩
          unfold po_X2_stepped at hr
          rw [nI_clamp (by omega), nI_clamp (by omega), nI_clamp (by omega), nI_clamp (by omega)] at hr
          rw [at_eq, nI_clamp (by omega)]
          refine ⟨vp_in_nI (by omega) (by decide), ?_⟩
          rw [nI_1, hr]
          exact ih2 u
      exact inner 0 (Nat.zero_le _) nr
  exact outer 0 (Nat.zero_le _) P_near
end
section
set_option maxRecDepth 20000 in
theorem ggX4_init_X4_pins : GoodIn wsX4_init wsX4_pins := goodIn_r _ [28, 20, 22, 18, 19, 29, 30, 31, 32, 33, 34, 35, 36, 37, 38, 39, 40, 41, 42, 43, 44, 45, 46, 47, 48, 49, 50] (by decide +kernel) (by decide +kernel)
set_option maxRecDepth 20000 in
theorem gX4_init_X4_pins : GoodIn wsX4_init (wsV RX4 64 RX4 yX4_pins wsX4_pins) := goodIn_app (goodIn_of _ (by decide +kernel)) ggX4_init_X4_pins
theorem dX4_init_0 : decode cX4_init 0 = .ok (.aload_n 0, 1) := by decide +kernel
theorem dX4_init_1 : decode cX4_init 1 = .ok (.invokespecial 1, 3) := by decide +kernel
theorem dX4_init_4 : decode cX4_init 4 = .ok (.aload_n 0, 1) := by decide +kernel
theorem dX4_init_5 : decode cX4_init 5 = .ok (.iconst 3, 1) := by decide +kernel
theorem dX4_init_6 : decode cX4_init 6 = .ok (.newarray .int, 2) := by decide +kernel
theorem dX4_init_8 : decode cX4_init 8 = .ok (.putfield 7, 3) := by decide +kernel
theorem dX4_init_11 : decode cX4_init 11 = .ok (.aload_n 0, 1) := by decide +kernel
theorem dX4_init_12 : decode cX4_init 12 = .ok (.bipush 36, 2) := by decide +kernel
theorem dX4_init_14 : decode cX4_init 14 = .ok (.newarray .int, 2) := by decide +kernel
theorem dX4_init_16 : decode cX4_init 16 = .ok (.putfield 13, 3) := by decide +kernel
theorem dX4_init_19 : decode cX4_init 19 = .ok (.aload_n 0, 1) := by decide +kernel
theorem dX4_init_20 : decode cX4_init 20 = .ok (.bipush 36, 2) := by decide +kernel
theorem dX4_init_22 : decode cX4_init 22 = .ok (.newarray .int, 2) := by decide +kernel
theorem dX4_init_24 : decode cX4_init 24 = .ok (.putfield 16, 3) := by decide +kernel
theorem dX4_init_27 : decode cX4_init 27 = .ok (.aload_n 0, 1) := by decide +kernel
theorem dX4_init_28 : decode cX4_init 28 = .ok (.bipush 7, 2) := by decide +kernel
theorem dX4_init_30 : decode cX4_init 30 = .ok (.newarray .int, 2) := by decide +kernel
theorem dX4_init_32 : decode cX4_init 32 = .ok (.putfield 19, 3) := by decide +kernel
theorem dX4_init_35 : decode cX4_init 35 = .ok (.aload_n 0, 1) := by decide +kernel
theorem dX4_init_36 : decode cX4_init 36 = .ok (.iconst 3, 1) := by decide +kernel
theorem dX4_init_37 : decode cX4_init 37 = .ok (.newarray .int, 2) := by decide +kernel
theorem dX4_init_39 : decode cX4_init 39 = .ok (.putfield 22, 3) := by decide +kernel
theorem dX4_init_42 : decode cX4_init 42 = .ok (.aload_n 0, 1) := by decide +kernel
theorem dX4_init_43 : decode cX4_init 43 = .ok (.iconst 3, 1) := by decide +kernel
theorem dX4_init_44 : decode cX4_init 44 = .ok (.newarray .int, 2) := by decide +kernel
theorem dX4_init_46 : decode cX4_init 46 = .ok (.putfield 25, 3) := by decide +kernel
theorem dX4_init_49 : decode cX4_init 49 = .ok (.aload_n 0, 1) := by decide +kernel
theorem dX4_init_50 : decode cX4_init 50 = .ok (.sipush 512, 3) := by decide +kernel
theorem dX4_init_53 : decode cX4_init 53 = .ok (.newarray .long, 2) := by decide +kernel
theorem dX4_init_55 : decode cX4_init 55 = .ok (.putfield 28, 3) := by decide +kernel
theorem dX4_init_58 : decode cX4_init 58 = .ok (.aload_n 0, 1) := by decide +kernel
theorem dX4_init_59 : decode cX4_init 59 = .ok (.sipush 512, 3) := by decide +kernel
theorem dX4_init_62 : decode cX4_init 62 = .ok (.newarray .long, 2) := by decide +kernel
theorem dX4_init_64 : decode cX4_init 64 = .ok (.putfield 32, 3) := by decide +kernel
theorem dX4_init_67 : decode cX4_init 67 = .ok (.aload_n 0, 1) := by decide +kernel
theorem dX4_init_68 : decode cX4_init 68 = .ok (.sipush 512, 3) := by decide +kernel
theorem dX4_init_71 : decode cX4_init 71 = .ok (.newarray .long, 2) := by decide +kernel
theorem dX4_init_73 : decode cX4_init 73 = .ok (.putfield 35, 3) := by decide +kernel
theorem dX4_init_76 : decode cX4_init 76 = .ok (.aload_n 0, 1) := by decide +kernel
theorem dX4_init_77 : decode cX4_init 77 = .ok (.sipush 512, 3) := by decide +kernel
theorem dX4_init_80 : decode cX4_init 80 = .ok (.newarray .long, 2) := by decide +kernel
theorem dX4_init_82 : decode cX4_init 82 = .ok (.putfield 38, 3) := by decide +kernel
theorem dX4_init_85 : decode cX4_init 85 = .ok (.aload_n 0, 1) := by decide +kernel
theorem dX4_init_86 : decode cX4_init 86 = .ok (.sipush 512, 3) := by decide +kernel
theorem dX4_init_89 : decode cX4_init 89 = .ok (.newarray .long, 2) := by decide +kernel
theorem dX4_init_91 : decode cX4_init 91 = .ok (.putfield 41, 3) := by decide +kernel
theorem dX4_init_94 : decode cX4_init 94 = .ok (.aload_n 0, 1) := by decide +kernel
theorem dX4_init_95 : decode cX4_init 95 = .ok (.sipush 512, 3) := by decide +kernel
theorem dX4_init_98 : decode cX4_init 98 = .ok (.newarray .long, 2) := by decide +kernel
theorem dX4_init_100 : decode cX4_init 100 = .ok (.putfield 44, 3) := by decide +kernel
theorem dX4_init_103 : decode cX4_init 103 = .ok (.aload_n 0, 1) := by decide +kernel
theorem dX4_init_104 : decode cX4_init 104 = .ok (.iconst 4, 1) := by decide +kernel
theorem dX4_init_105 : decode cX4_init 105 = .ok (.putfield 47, 3) := by decide +kernel
theorem dX4_init_108 : decode cX4_init 108 = .ok (.aload_n 0, 1) := by decide +kernel
theorem dX4_init_109 : decode cX4_init 109 = .ok (.iconst 4, 1) := by decide +kernel
theorem dX4_init_110 : decode cX4_init 110 = .ok (.putfield 51, 3) := by decide +kernel
theorem dX4_init_113 : decode cX4_init 113 = .ok (.aload_n 0, 1) := by decide +kernel
theorem dX4_init_114 : decode cX4_init 114 = .ok (.bipush 64, 2) := by decide +kernel
theorem dX4_init_116 : decode cX4_init 116 = .ok (.newarray .int, 2) := by decide +kernel
theorem dX4_init_118 : decode cX4_init 118 = .ok (.putfield 54, 3) := by decide +kernel
theorem dX4_init_121 : decode cX4_init 121 = .ok (.aload_n 0, 1) := by decide +kernel
theorem dX4_init_122 : decode cX4_init 122 = .ok (.bipush 64, 2) := by decide +kernel
theorem dX4_init_124 : decode cX4_init 124 = .ok (.newarray .boolean, 2) := by decide +kernel
theorem dX4_init_126 : decode cX4_init 126 = .ok (.putfield 57, 3) := by decide +kernel
theorem dX4_init_129 : decode cX4_init 129 = .ok (.aload_n 0, 1) := by decide +kernel
theorem dX4_init_130 : decode cX4_init 130 = .ok (.iconst 4, 1) := by decide +kernel
theorem dX4_init_131 : decode cX4_init 131 = .ok (.newarray .int, 2) := by decide +kernel
theorem dX4_init_133 : decode cX4_init 133 = .ok (.putfield 61, 3) := by decide +kernel
theorem dX4_init_136 : decode cX4_init 136 = .ok (.aload_n 0, 1) := by decide +kernel
theorem dX4_init_137 : decode cX4_init 137 = .ok (.getfield 7, 3) := by decide +kernel
theorem dX4_init_140 : decode cX4_init 140 = .ok (.iconst 0, 1) := by decide +kernel
theorem dX4_init_141 : decode cX4_init 141 = .ok (.iconst 3, 1) := by decide +kernel
theorem dX4_init_142 : decode cX4_init 142 = .ok (.iastore, 1) := by decide +kernel
theorem dX4_init_143 : decode cX4_init 143 = .ok (.aload_n 0, 1) := by decide +kernel
theorem dX4_init_144 : decode cX4_init 144 = .ok (.getfield 7, 3) := by decide +kernel
theorem dX4_init_147 : decode cX4_init 147 = .ok (.iconst 1, 1) := by decide +kernel
theorem dX4_init_148 : decode cX4_init 148 = .ok (.iconst 3, 1) := by decide +kernel
theorem dX4_init_149 : decode cX4_init 149 = .ok (.iastore, 1) := by decide +kernel
theorem dX4_init_150 : decode cX4_init 150 = .ok (.aload_n 0, 1) := by decide +kernel
theorem dX4_init_151 : decode cX4_init 151 = .ok (.getfield 7, 3) := by decide +kernel
theorem dX4_init_154 : decode cX4_init 154 = .ok (.iconst 2, 1) := by decide +kernel
theorem dX4_init_155 : decode cX4_init 155 = .ok (.iconst 1, 1) := by decide +kernel
theorem dX4_init_156 : decode cX4_init 156 = .ok (.iastore, 1) := by decide +kernel
theorem dX4_init_157 : decode cX4_init 157 = .ok (.aload_n 0, 1) := by decide +kernel
theorem dX4_init_158 : decode cX4_init 158 = .ok (.getfield 19, 3) := by decide +kernel
theorem dX4_init_161 : decode cX4_init 161 = .ok (.iconst 0, 1) := by decide +kernel
theorem dX4_init_162 : decode cX4_init 162 = .ok (.iconst 1, 1) := by decide +kernel
theorem dX4_init_163 : decode cX4_init 163 = .ok (.iastore, 1) := by decide +kernel
theorem dX4_init_164 : decode cX4_init 164 = .ok (.aload_n 0, 1) := by decide +kernel
theorem dX4_init_165 : decode cX4_init 165 = .ok (.getfield 19, 3) := by decide +kernel
theorem dX4_init_168 : decode cX4_init 168 = .ok (.iconst 1, 1) := by decide +kernel
theorem dX4_init_169 : decode cX4_init 169 = .ok (.iconst 1, 1) := by decide +kernel
theorem dX4_init_170 : decode cX4_init 170 = .ok (.iastore, 1) := by decide +kernel
theorem dX4_init_171 : decode cX4_init 171 = .ok (.aload_n 0, 1) := by decide +kernel
theorem dX4_init_172 : decode cX4_init 172 = .ok (.getfield 19, 3) := by decide +kernel
theorem dX4_init_175 : decode cX4_init 175 = .ok (.iconst 2, 1) := by decide +kernel
theorem dX4_init_176 : decode cX4_init 176 = .ok (.iconst 1, 1) := by decide +kernel
theorem dX4_init_177 : decode cX4_init 177 = .ok (.iastore, 1) := by decide +kernel
theorem dX4_init_178 : decode cX4_init 178 = .ok (.aload_n 0, 1) := by decide +kernel
theorem dX4_init_179 : decode cX4_init 179 = .ok (.getfield 19, 3) := by decide +kernel
theorem dX4_init_182 : decode cX4_init 182 = .ok (.iconst 5, 1) := by decide +kernel
theorem dX4_init_183 : decode cX4_init 183 = .ok (.bipush 9, 2) := by decide +kernel
theorem dX4_init_185 : decode cX4_init 185 = .ok (.iastore, 1) := by decide +kernel
theorem dX4_init_186 : decode cX4_init 186 = .ok (.aload_n 0, 1) := by decide +kernel
theorem dX4_init_187 : decode cX4_init 187 = .ok (.invokevirtual 64, 3) := by decide +kernel
theorem dX4_init_190 : decode cX4_init 190 = .ok (.return_, 1) := by decide +kernel
theorem dX4_in_0 : decode cX4_in 0 = .ok (.lload_n 0, 1) := by decide +kernel
theorem dX4_in_1 : decode cX4_in 1 = .ok (.lload_n 2, 1) := by decide +kernel
theorem dX4_in_2 : decode cX4_in 2 = .ok (.lcmp, 1) := by decide +kernel
theorem dX4_in_3 : decode cX4_in 3 = .ok (.ifCond .lt 14, 3) := by decide +kernel
theorem dX4_in_6 : decode cX4_in 6 = .ok (.lload_n 0, 1) := by decide +kernel
theorem dX4_in_7 : decode cX4_in 7 = .ok (.lload 4, 2) := by decide +kernel
theorem dX4_in_9 : decode cX4_in 9 = .ok (.lcmp, 1) := by decide +kernel
theorem dX4_in_10 : decode cX4_in 10 = .ok (.ifCond .gt 7, 3) := by decide +kernel
theorem dX4_in_13 : decode cX4_in 13 = .ok (.iconst 1, 1) := by decide +kernel
theorem dX4_in_14 : decode cX4_in 14 = .ok (.goto 4, 3) := by decide +kernel
theorem dX4_in_17 : decode cX4_in 17 = .ok (.iconst 0, 1) := by decide +kernel
theorem dX4_in_18 : decode cX4_in 18 = .ok (.ireturn, 1) := by decide +kernel
theorem dX4_cells_0 : decode cX4_cells 0 = .ok (.aload_n 0, 1) := by decide +kernel
theorem dX4_cells_1 : decode cX4_cells 1 = .ok (.getfield 7, 3) := by decide +kernel
theorem dX4_cells_4 : decode cX4_cells 4 = .ok (.iconst 0, 1) := by decide +kernel
theorem dX4_cells_5 : decode cX4_cells 5 = .ok (.iaload, 1) := by decide +kernel
theorem dX4_cells_6 : decode cX4_cells 6 = .ok (.aload_n 0, 1) := by decide +kernel
theorem dX4_cells_7 : decode cX4_cells 7 = .ok (.getfield 7, 3) := by decide +kernel
theorem dX4_cells_10 : decode cX4_cells 10 = .ok (.iconst 1, 1) := by decide +kernel
theorem dX4_cells_11 : decode cX4_cells 11 = .ok (.iaload, 1) := by decide +kernel
theorem dX4_cells_12 : decode cX4_cells 12 = .ok (.imul, 1) := by decide +kernel
theorem dX4_cells_13 : decode cX4_cells 13 = .ok (.aload_n 0, 1) := by decide +kernel
theorem dX4_cells_14 : decode cX4_cells 14 = .ok (.getfield 7, 3) := by decide +kernel
theorem dX4_cells_17 : decode cX4_cells 17 = .ok (.iconst 2, 1) := by decide +kernel
theorem dX4_cells_18 : decode cX4_cells 18 = .ok (.iaload, 1) := by decide +kernel
theorem dX4_cells_19 : decode cX4_cells 19 = .ok (.imul, 1) := by decide +kernel
theorem dX4_cells_20 : decode cX4_cells 20 = .ok (.ireturn, 1) := by decide +kernel
set_option maxRecDepth 20000 in
theorem ggX4_isCell_X4_cells : GoodIn wsX4_isCell wsX4_cells := goodIn_r _ [5, 6, 10, 11, 12, 13, 14, 15, 16, 17, 18, 19, 20, 21, 22, 23, 24, 25, 26, 27, 28, 29, 30, 31] (by decide +kernel) (by decide +kernel)
set_option maxRecDepth 20000 in
theorem gX4_isCell_X4_cells : GoodIn wsX4_isCell (wsV RX4 70 RX4 yX4_cells wsX4_cells) := goodIn_app (goodIn_of _ (by decide +kernel)) ggX4_isCell_X4_cells
set_option maxRecDepth 20000 in
theorem ggX4_isCell_X4_in : GoodIn wsX4_isCell wsX4_in := goodIn_r _ [9] (by decide +kernel) (by decide +kernel)
set_option maxRecDepth 20000 in
theorem gX4_isCell_X4_in : GoodIn wsX4_isCell (va_wsS RX4 74 yX4_in wsX4_in) := goodIn_app (goodIn_of _ (by decide +kernel)) ggX4_isCell_X4_in
theorem dX4_isCell_0 : decode cX4_isCell 0 = .ok (.iload_n 1, 1) := by decide +kernel
theorem dX4_isCell_1 : decode cX4_isCell 1 = .ok (.i2l, 1) := by decide +kernel
theorem dX4_isCell_2 : decode cX4_isCell 2 = .ok (.lconst 0, 1) := by decide +kernel
theorem dX4_isCell_3 : decode cX4_isCell 3 = .ok (.aload_n 0, 1) := by decide +kernel
theorem dX4_isCell_4 : decode cX4_isCell 4 = .ok (.invokevirtual 70, 3) := by decide +kernel
theorem dX4_isCell_7 : decode cX4_isCell 7 = .ok (.iconst 1, 1) := by decide +kernel
theorem dX4_isCell_8 : decode cX4_isCell 8 = .ok (.isub, 1) := by decide +kernel
theorem dX4_isCell_9 : decode cX4_isCell 9 = .ok (.i2l, 1) := by decide +kernel
theorem dX4_isCell_10 : decode cX4_isCell 10 = .ok (.invokestatic 74, 3) := by decide +kernel
theorem dX4_isCell_13 : decode cX4_isCell 13 = .ok (.ireturn, 1) := by decide +kernel
theorem dX4_placeOf_0 : decode cX4_placeOf 0 = .ok (.iload_n 2, 1) := by decide +kernel
theorem dX4_placeOf_1 : decode cX4_placeOf 1 = .ok (.ifCond .ne 14, 3) := by decide +kernel
theorem dX4_placeOf_4 : decode cX4_placeOf 4 = .ok (.iload_n 1, 1) := by decide +kernel
theorem dX4_placeOf_5 : decode cX4_placeOf 5 = .ok (.aload_n 0, 1) := by decide +kernel
theorem dX4_placeOf_6 : decode cX4_placeOf 6 = .ok (.getfield 7, 3) := by decide +kernel
theorem dX4_placeOf_9 : decode cX4_placeOf 9 = .ok (.iconst 0, 1) := by decide +kernel
theorem dX4_placeOf_10 : decode cX4_placeOf 10 = .ok (.iaload, 1) := by decide +kernel
theorem dX4_placeOf_11 : decode cX4_placeOf 11 = .ok (.irem, 1) := by decide +kernel
theorem dX4_placeOf_12 : decode cX4_placeOf 12 = .ok (.goto 41, 3) := by decide +kernel
theorem dX4_placeOf_15 : decode cX4_placeOf 15 = .ok (.iload_n 2, 1) := by decide +kernel
theorem dX4_placeOf_16 : decode cX4_placeOf 16 = .ok (.iconst 1, 1) := by decide +kernel
theorem dX4_placeOf_17 : decode cX4_placeOf 17 = .ok (.if_icmp .ne 21, 3) := by decide +kernel
theorem dX4_placeOf_20 : decode cX4_placeOf 20 = .ok (.iload_n 1, 1) := by decide +kernel
theorem dX4_placeOf_21 : decode cX4_placeOf 21 = .ok (.aload_n 0, 1) := by decide +kernel
theorem dX4_placeOf_22 : decode cX4_placeOf 22 = .ok (.getfield 7, 3) := by decide +kernel
theorem dX4_placeOf_25 : decode cX4_placeOf 25 = .ok (.iconst 0, 1) := by decide +kernel
theorem dX4_placeOf_26 : decode cX4_placeOf 26 = .ok (.iaload, 1) := by decide +kernel
theorem dX4_placeOf_27 : decode cX4_placeOf 27 = .ok (.idiv, 1) := by decide +kernel
theorem dX4_placeOf_28 : decode cX4_placeOf 28 = .ok (.aload_n 0, 1) := by decide +kernel
theorem dX4_placeOf_29 : decode cX4_placeOf 29 = .ok (.getfield 7, 3) := by decide +kernel
theorem dX4_placeOf_32 : decode cX4_placeOf 32 = .ok (.iconst 1, 1) := by decide +kernel
theorem dX4_placeOf_33 : decode cX4_placeOf 33 = .ok (.iaload, 1) := by decide +kernel
theorem dX4_placeOf_34 : decode cX4_placeOf 34 = .ok (.irem, 1) := by decide +kernel
theorem dX4_placeOf_35 : decode cX4_placeOf 35 = .ok (.goto 18, 3) := by decide +kernel
theorem dX4_placeOf_38 : decode cX4_placeOf 38 = .ok (.iload_n 1, 1) := by decide +kernel
theorem dX4_placeOf_39 : decode cX4_placeOf 39 = .ok (.aload_n 0, 1) := by decide +kernel
theorem dX4_placeOf_40 : decode cX4_placeOf 40 = .ok (.getfield 7, 3) := by decide +kernel
theorem dX4_placeOf_43 : decode cX4_placeOf 43 = .ok (.iconst 0, 1) := by decide +kernel
theorem dX4_placeOf_44 : decode cX4_placeOf 44 = .ok (.iaload, 1) := by decide +kernel
theorem dX4_placeOf_45 : decode cX4_placeOf 45 = .ok (.idiv, 1) := by decide +kernel
theorem dX4_placeOf_46 : decode cX4_placeOf 46 = .ok (.aload_n 0, 1) := by decide +kernel
theorem dX4_placeOf_47 : decode cX4_placeOf 47 = .ok (.getfield 7, 3) := by decide +kernel
theorem dX4_placeOf_50 : decode cX4_placeOf 50 = .ok (.iconst 1, 1) := by decide +kernel
theorem dX4_placeOf_51 : decode cX4_placeOf 51 = .ok (.iaload, 1) := by decide +kernel
theorem dX4_placeOf_52 : decode cX4_placeOf 52 = .ok (.idiv, 1) := by decide +kernel
theorem dX4_placeOf_53 : decode cX4_placeOf 53 = .ok (.ireturn, 1) := by decide +kernel
theorem dX4_stride_0 : decode cX4_stride 0 = .ok (.iload_n 1, 1) := by decide +kernel
theorem dX4_stride_1 : decode cX4_stride 1 = .ok (.ifCond .ne 7, 3) := by decide +kernel
theorem dX4_stride_4 : decode cX4_stride 4 = .ok (.iconst 1, 1) := by decide +kernel
theorem dX4_stride_5 : decode cX4_stride 5 = .ok (.goto 30, 3) := by decide +kernel
theorem dX4_stride_8 : decode cX4_stride 8 = .ok (.iload_n 1, 1) := by decide +kernel
theorem dX4_stride_9 : decode cX4_stride 9 = .ok (.iconst 1, 1) := by decide +kernel
theorem dX4_stride_10 : decode cX4_stride 10 = .ok (.if_icmp .ne 12, 3) := by decide +kernel
theorem dX4_stride_13 : decode cX4_stride 13 = .ok (.aload_n 0, 1) := by decide +kernel
theorem dX4_stride_14 : decode cX4_stride 14 = .ok (.getfield 7, 3) := by decide +kernel
theorem dX4_stride_17 : decode cX4_stride 17 = .ok (.iconst 0, 1) := by decide +kernel
theorem dX4_stride_18 : decode cX4_stride 18 = .ok (.iaload, 1) := by decide +kernel
theorem dX4_stride_19 : decode cX4_stride 19 = .ok (.goto 16, 3) := by decide +kernel
theorem dX4_stride_22 : decode cX4_stride 22 = .ok (.aload_n 0, 1) := by decide +kernel
theorem dX4_stride_23 : decode cX4_stride 23 = .ok (.getfield 7, 3) := by decide +kernel
theorem dX4_stride_26 : decode cX4_stride 26 = .ok (.iconst 0, 1) := by decide +kernel
theorem dX4_stride_27 : decode cX4_stride 27 = .ok (.iaload, 1) := by decide +kernel
theorem dX4_stride_28 : decode cX4_stride 28 = .ok (.aload_n 0, 1) := by decide +kernel
theorem dX4_stride_29 : decode cX4_stride 29 = .ok (.getfield 7, 3) := by decide +kernel
theorem dX4_stride_32 : decode cX4_stride 32 = .ok (.iconst 1, 1) := by decide +kernel
theorem dX4_stride_33 : decode cX4_stride 33 = .ok (.iaload, 1) := by decide +kernel
theorem dX4_stride_34 : decode cX4_stride 34 = .ok (.imul, 1) := by decide +kernel
theorem dX4_stride_35 : decode cX4_stride 35 = .ok (.ireturn, 1) := by decide +kernel
set_option maxRecDepth 20000 in
theorem ggX4_box_X4_in : GoodIn wsX4_box wsX4_in := goodIn_r _ [9] (by decide +kernel) (by decide +kernel)
set_option maxRecDepth 20000 in
theorem gX4_box_X4_in : GoodIn wsX4_box (va_wsS RX4 74 yX4_in wsX4_in) := goodIn_app (goodIn_of _ (by decide +kernel)) ggX4_box_X4_in
set_option maxRecDepth 20000 in
theorem ggX4_box_X4_cells : GoodIn wsX4_box wsX4_cells := goodIn_r _ [13, 3, 14, 15, 16, 17, 18, 19, 20, 21, 22, 23, 24, 25, 26, 27, 28, 29, 30, 31, 32, 33, 34, 35] (by decide +kernel) (by decide +kernel)
set_option maxRecDepth 20000 in
theorem gX4_box_X4_cells : GoodIn wsX4_box (wsV RX4 70 RX4 yX4_cells wsX4_cells) := goodIn_app (goodIn_of _ (by decide +kernel)) ggX4_box_X4_cells
theorem dX4_box_0 : decode cX4_box 0 = .ok (.aload_n 0, 1) := by decide +kernel
theorem dX4_box_1 : decode cX4_box 1 = .ok (.iconst 0, 1) := by decide +kernel
theorem dX4_box_2 : decode cX4_box 2 = .ok (.putfield 67, 3) := by decide +kernel
theorem dX4_box_5 : decode cX4_box 5 = .ok (.iload_n 1, 1) := by decide +kernel
theorem dX4_box_6 : decode cX4_box 6 = .ok (.i2l, 1) := by decide +kernel
theorem dX4_box_7 : decode cX4_box 7 = .ok (.lconst 1, 1) := by decide +kernel
theorem dX4_box_8 : decode cX4_box 8 = .ok (.ldc2_w 78, 3) := by decide +kernel
theorem dX4_box_11 : decode cX4_box 11 = .ok (.invokestatic 74, 3) := by decide +kernel
theorem dX4_box_14 : decode cX4_box 14 = .ok (.ifCond .eq 37, 3) := by decide +kernel
theorem dX4_box_17 : decode cX4_box 17 = .ok (.iload_n 2, 1) := by decide +kernel
theorem dX4_box_18 : decode cX4_box 18 = .ok (.i2l, 1) := by decide +kernel
theorem dX4_box_19 : decode cX4_box 19 = .ok (.lconst 1, 1) := by decide +kernel
theorem dX4_box_20 : decode cX4_box 20 = .ok (.ldc2_w 78, 3) := by decide +kernel
theorem dX4_box_23 : decode cX4_box 23 = .ok (.invokestatic 74, 3) := by decide +kernel
theorem dX4_box_26 : decode cX4_box 26 = .ok (.ifCond .eq 25, 3) := by decide +kernel
theorem dX4_box_29 : decode cX4_box 29 = .ok (.iload_n 3, 1) := by decide +kernel
theorem dX4_box_30 : decode cX4_box 30 = .ok (.i2l, 1) := by decide +kernel
theorem dX4_box_31 : decode cX4_box 31 = .ok (.lconst 1, 1) := by decide +kernel
theorem dX4_box_32 : decode cX4_box 32 = .ok (.ldc2_w 78, 3) := by decide +kernel
theorem dX4_box_35 : decode cX4_box 35 = .ok (.invokestatic 74, 3) := by decide +kernel
theorem dX4_box_38 : decode cX4_box 38 = .ok (.ifCond .eq 13, 3) := by decide +kernel
theorem dX4_box_41 : decode cX4_box 41 = .ok (.iload_n 1, 1) := by decide +kernel
theorem dX4_box_42 : decode cX4_box 42 = .ok (.iload_n 2, 1) := by decide +kernel
theorem dX4_box_43 : decode cX4_box 43 = .ok (.imul, 1) := by decide +kernel
theorem dX4_box_44 : decode cX4_box 44 = .ok (.iload_n 3, 1) := by decide +kernel
theorem dX4_box_45 : decode cX4_box 45 = .ok (.imul, 1) := by decide +kernel
theorem dX4_box_46 : decode cX4_box 46 = .ok (.bipush 36, 2) := by decide +kernel
theorem dX4_box_48 : decode cX4_box 48 = .ok (.if_icmp .le 5, 3) := by decide +kernel
theorem dX4_box_51 : decode cX4_box 51 = .ok (.iconst (-1), 1) := by decide +kernel
theorem dX4_box_52 : decode cX4_box 52 = .ok (.ireturn, 1) := by decide +kernel
theorem dX4_box_53 : decode cX4_box 53 = .ok (.aload_n 0, 1) := by decide +kernel
theorem dX4_box_54 : decode cX4_box 54 = .ok (.getfield 7, 3) := by decide +kernel
theorem dX4_box_57 : decode cX4_box 57 = .ok (.iconst 0, 1) := by decide +kernel
theorem dX4_box_58 : decode cX4_box 58 = .ok (.iload_n 1, 1) := by decide +kernel
theorem dX4_box_59 : decode cX4_box 59 = .ok (.iastore, 1) := by decide +kernel
theorem dX4_box_60 : decode cX4_box 60 = .ok (.aload_n 0, 1) := by decide +kernel
theorem dX4_box_61 : decode cX4_box 61 = .ok (.getfield 7, 3) := by decide +kernel
theorem dX4_box_64 : decode cX4_box 64 = .ok (.iconst 1, 1) := by decide +kernel
theorem dX4_box_65 : decode cX4_box 65 = .ok (.iload_n 2, 1) := by decide +kernel
theorem dX4_box_66 : decode cX4_box 66 = .ok (.iastore, 1) := by decide +kernel
theorem dX4_box_67 : decode cX4_box 67 = .ok (.aload_n 0, 1) := by decide +kernel
theorem dX4_box_68 : decode cX4_box 68 = .ok (.getfield 7, 3) := by decide +kernel
theorem dX4_box_71 : decode cX4_box 71 = .ok (.iconst 2, 1) := by decide +kernel
theorem dX4_box_72 : decode cX4_box 72 = .ok (.iload_n 3, 1) := by decide +kernel
theorem dX4_box_73 : decode cX4_box 73 = .ok (.iastore, 1) := by decide +kernel
theorem dX4_box_74 : decode cX4_box 74 = .ok (.iconst 0, 1) := by decide +kernel
theorem dX4_box_75 : decode cX4_box 75 = .ok (.istore 4, 2) := by decide +kernel
theorem dX4_box_77 : decode cX4_box 77 = .ok (.iload 4, 2) := by decide +kernel
theorem dX4_box_79 : decode cX4_box 79 = .ok (.bipush 36, 2) := by decide +kernel
theorem dX4_box_81 : decode cX4_box 81 = .ok (.if_icmp .ge 25, 3) := by decide +kernel
theorem dX4_box_84 : decode cX4_box 84 = .ok (.aload_n 0, 1) := by decide +kernel
theorem dX4_box_85 : decode cX4_box 85 = .ok (.getfield 13, 3) := by decide +kernel
theorem dX4_box_88 : decode cX4_box 88 = .ok (.iload 4, 2) := by decide +kernel
theorem dX4_box_90 : decode cX4_box 90 = .ok (.iconst 0, 1) := by decide +kernel
theorem dX4_box_91 : decode cX4_box 91 = .ok (.iastore, 1) := by decide +kernel
theorem dX4_box_92 : decode cX4_box 92 = .ok (.aload_n 0, 1) := by decide +kernel
theorem dX4_box_93 : decode cX4_box 93 = .ok (.getfield 16, 3) := by decide +kernel
theorem dX4_box_96 : decode cX4_box 96 = .ok (.iload 4, 2) := by decide +kernel
theorem dX4_box_98 : decode cX4_box 98 = .ok (.iconst 0, 1) := by decide +kernel
theorem dX4_box_99 : decode cX4_box 99 = .ok (.iastore, 1) := by decide +kernel
theorem dX4_box_100 : decode cX4_box 100 = .ok (.iinc 4 1, 3) := by decide +kernel
theorem dX4_box_103 : decode cX4_box 103 = .ok (.goto (-26), 3) := by decide +kernel
theorem dX4_box_106 : decode cX4_box 106 = .ok (.aload_n 0, 1) := by decide +kernel
theorem dX4_box_107 : decode cX4_box 107 = .ok (.invokevirtual 70, 3) := by decide +kernel
theorem dX4_box_110 : decode cX4_box 110 = .ok (.ireturn, 1) := by decide +kernel
set_option maxRecDepth 20000 in
theorem ggX4_hold_X4_isCell : GoodIn wsX4_hold wsX4_isCell := goodIn_r _ [8, 9, 10, 11, 7, 12, 13, 14, 15, 16, 17, 18, 19, 20, 21, 22, 23, 24, 25, 26, 27, 28, 29, 30, 31, 32, 33, 34, 35, 36, 37, 38] (by decide +kernel) (by decide +kernel)
set_option maxRecDepth 20000 in
theorem gX4_hold_X4_isCell : GoodIn wsX4_hold (wsV RX4 80 RX4 yX4_isCell wsX4_isCell) := goodIn_app (goodIn_of _ (by decide +kernel)) ggX4_hold_X4_isCell
set_option maxRecDepth 20000 in
theorem ggX4_hold_X4_in : GoodIn wsX4_hold wsX4_in := goodIn_r _ [16] (by decide +kernel) (by decide +kernel)
set_option maxRecDepth 20000 in
theorem gX4_hold_X4_in : GoodIn wsX4_hold (va_wsS RX4 74 yX4_in wsX4_in) := goodIn_app (goodIn_of _ (by decide +kernel)) ggX4_hold_X4_in
theorem dX4_hold_0 : decode cX4_hold 0 = .ok (.aload_n 0, 1) := by decide +kernel
theorem dX4_hold_1 : decode cX4_hold 1 = .ok (.iconst 0, 1) := by decide +kernel
theorem dX4_hold_2 : decode cX4_hold 2 = .ok (.putfield 67, 3) := by decide +kernel
theorem dX4_hold_5 : decode cX4_hold 5 = .ok (.aload_n 0, 1) := by decide +kernel
theorem dX4_hold_6 : decode cX4_hold 6 = .ok (.iload_n 1, 1) := by decide +kernel
theorem dX4_hold_7 : decode cX4_hold 7 = .ok (.invokevirtual 80, 3) := by decide +kernel
theorem dX4_hold_10 : decode cX4_hold 10 = .ok (.ifCond .eq 15, 3) := by decide +kernel
theorem dX4_hold_13 : decode cX4_hold 13 = .ok (.iload_n 2, 1) := by decide +kernel
theorem dX4_hold_14 : decode cX4_hold 14 = .ok (.i2l, 1) := by decide +kernel
theorem dX4_hold_15 : decode cX4_hold 15 = .ok (.lconst 0, 1) := by decide +kernel
theorem dX4_hold_16 : decode cX4_hold 16 = .ok (.ldc2_w 84, 3) := by decide +kernel
theorem dX4_hold_19 : decode cX4_hold 19 = .ok (.invokestatic 74, 3) := by decide +kernel
theorem dX4_hold_22 : decode cX4_hold 22 = .ok (.ifCond .ne 5, 3) := by decide +kernel
theorem dX4_hold_25 : decode cX4_hold 25 = .ok (.iconst (-1), 1) := by decide +kernel
theorem dX4_hold_26 : decode cX4_hold 26 = .ok (.ireturn, 1) := by decide +kernel
theorem dX4_hold_27 : decode cX4_hold 27 = .ok (.aload_n 0, 1) := by decide +kernel
theorem dX4_hold_28 : decode cX4_hold 28 = .ok (.getfield 13, 3) := by decide +kernel
theorem dX4_hold_31 : decode cX4_hold 31 = .ok (.iload_n 1, 1) := by decide +kernel
theorem dX4_hold_32 : decode cX4_hold 32 = .ok (.iaload, 1) := by decide +kernel
theorem dX4_hold_33 : decode cX4_hold 33 = .ok (.istore_n 3, 1) := by decide +kernel
theorem dX4_hold_34 : decode cX4_hold 34 = .ok (.aload_n 0, 1) := by decide +kernel
theorem dX4_hold_35 : decode cX4_hold 35 = .ok (.getfield 13, 3) := by decide +kernel
theorem dX4_hold_38 : decode cX4_hold 38 = .ok (.iload_n 1, 1) := by decide +kernel
theorem dX4_hold_39 : decode cX4_hold 39 = .ok (.iload_n 2, 1) := by decide +kernel
theorem dX4_hold_40 : decode cX4_hold 40 = .ok (.iastore, 1) := by decide +kernel
theorem dX4_hold_41 : decode cX4_hold 41 = .ok (.iload_n 3, 1) := by decide +kernel
theorem dX4_hold_42 : decode cX4_hold 42 = .ok (.ireturn, 1) := by decide +kernel
set_option maxRecDepth 20000 in
theorem ggX4_price_X4_isCell : GoodIn wsX4_price wsX4_isCell := goodIn_r _ [10, 11, 12, 13, 9, 14, 15, 16, 17, 18, 19, 20, 21, 22, 23, 24, 25, 26, 27, 28, 29, 30, 31, 32, 33, 34, 35, 36, 37, 38, 39, 40] (by decide +kernel) (by decide +kernel)
set_option maxRecDepth 20000 in
theorem gX4_price_X4_isCell : GoodIn wsX4_price (wsV RX4 80 RX4 yX4_isCell wsX4_isCell) := goodIn_app (goodIn_of _ (by decide +kernel)) ggX4_price_X4_isCell
set_option maxRecDepth 20000 in
theorem ggX4_price_X4_in : GoodIn wsX4_price wsX4_in := goodIn_r _ [18] (by decide +kernel) (by decide +kernel)
set_option maxRecDepth 20000 in
theorem gX4_price_X4_in : GoodIn wsX4_price (va_wsS RX4 74 yX4_in wsX4_in) := goodIn_app (goodIn_of _ (by decide +kernel)) ggX4_price_X4_in
theorem dX4_price_0 : decode cX4_price 0 = .ok (.aload_n 0, 1) := by decide +kernel
theorem dX4_price_1 : decode cX4_price 1 = .ok (.iconst 0, 1) := by decide +kernel
theorem dX4_price_2 : decode cX4_price 2 = .ok (.putfield 67, 3) := by decide +kernel
theorem dX4_price_5 : decode cX4_price 5 = .ok (.aload_n 0, 1) := by decide +kernel
theorem dX4_price_6 : decode cX4_price 6 = .ok (.iload_n 1, 1) := by decide +kernel
theorem dX4_price_7 : decode cX4_price 7 = .ok (.invokevirtual 80, 3) := by decide +kernel
theorem dX4_price_10 : decode cX4_price 10 = .ok (.ifCond .eq 17, 3) := by decide +kernel
theorem dX4_price_13 : decode cX4_price 13 = .ok (.iload_n 2, 1) := by decide +kernel
theorem dX4_price_14 : decode cX4_price 14 = .ok (.i2l, 1) := by decide +kernel
theorem dX4_price_15 : decode cX4_price 15 = .ok (.ldc2_w 86, 3) := by decide +kernel
theorem dX4_price_18 : decode cX4_price 18 = .ok (.ldc2_w 88, 3) := by decide +kernel
theorem dX4_price_21 : decode cX4_price 21 = .ok (.invokestatic 74, 3) := by decide +kernel
theorem dX4_price_24 : decode cX4_price 24 = .ok (.ifCond .ne 6, 3) := by decide +kernel
theorem dX4_price_27 : decode cX4_price 27 = .ok (.ldc 90, 2) := by decide +kernel
theorem dX4_price_29 : decode cX4_price 29 = .ok (.ireturn, 1) := by decide +kernel
theorem dX4_price_30 : decode cX4_price 30 = .ok (.aload_n 0, 1) := by decide +kernel
theorem dX4_price_31 : decode cX4_price 31 = .ok (.getfield 16, 3) := by decide +kernel
theorem dX4_price_34 : decode cX4_price 34 = .ok (.iload_n 1, 1) := by decide +kernel
theorem dX4_price_35 : decode cX4_price 35 = .ok (.iaload, 1) := by decide +kernel
theorem dX4_price_36 : decode cX4_price 36 = .ok (.istore_n 3, 1) := by decide +kernel
theorem dX4_price_37 : decode cX4_price 37 = .ok (.aload_n 0, 1) := by decide +kernel
theorem dX4_price_38 : decode cX4_price 38 = .ok (.getfield 16, 3) := by decide +kernel
theorem dX4_price_41 : decode cX4_price 41 = .ok (.iload_n 1, 1) := by decide +kernel
theorem dX4_price_42 : decode cX4_price 42 = .ok (.iload_n 2, 1) := by decide +kernel
theorem dX4_price_43 : decode cX4_price 43 = .ok (.iastore, 1) := by decide +kernel
theorem dX4_price_44 : decode cX4_price 44 = .ok (.iload_n 3, 1) := by decide +kernel
theorem dX4_price_45 : decode cX4_price 45 = .ok (.ireturn, 1) := by decide +kernel
set_option maxRecDepth 20000 in
theorem ggX4_set_X4_in : GoodIn wsX4_set wsX4_in := goodIn_r _ [9] (by decide +kernel) (by decide +kernel)
set_option maxRecDepth 20000 in
theorem gX4_set_X4_in : GoodIn wsX4_set (va_wsS RX4 74 yX4_in wsX4_in) := goodIn_app (goodIn_of _ (by decide +kernel)) ggX4_set_X4_in
theorem dX4_set_0 : decode cX4_set 0 = .ok (.aload_n 0, 1) := by decide +kernel
theorem dX4_set_1 : decode cX4_set 1 = .ok (.iconst 0, 1) := by decide +kernel
theorem dX4_set_2 : decode cX4_set 2 = .ok (.putfield 67, 3) := by decide +kernel
theorem dX4_set_5 : decode cX4_set 5 = .ok (.iload_n 1, 1) := by decide +kernel
theorem dX4_set_6 : decode cX4_set 6 = .ok (.i2l, 1) := by decide +kernel
theorem dX4_set_7 : decode cX4_set 7 = .ok (.lconst 0, 1) := by decide +kernel
theorem dX4_set_8 : decode cX4_set 8 = .ok (.ldc2_w 91, 3) := by decide +kernel
theorem dX4_set_11 : decode cX4_set 11 = .ok (.invokestatic 74, 3) := by decide +kernel
theorem dX4_set_14 : decode cX4_set 14 = .ok (.ifCond .eq 36, 3) := by decide +kernel
theorem dX4_set_17 : decode cX4_set 17 = .ok (.iload_n 2, 1) := by decide +kernel
theorem dX4_set_18 : decode cX4_set 18 = .ok (.i2l, 1) := by decide +kernel
theorem dX4_set_19 : decode cX4_set 19 = .ok (.iload_n 1, 1) := by decide +kernel
theorem dX4_set_20 : decode cX4_set 20 = .ok (.iconst 5, 1) := by decide +kernel
theorem dX4_set_21 : decode cX4_set 21 = .ok (.if_icmp .ne 7, 3) := by decide +kernel
theorem dX4_set_24 : decode cX4_set 24 = .ok (.lconst 1, 1) := by decide +kernel
theorem dX4_set_25 : decode cX4_set 25 = .ok (.goto 4, 3) := by decide +kernel
theorem dX4_set_28 : decode cX4_set 28 = .ok (.lconst 0, 1) := by decide +kernel
theorem dX4_set_29 : decode cX4_set 29 = .ok (.iload_n 1, 1) := by decide +kernel
theorem dX4_set_30 : decode cX4_set 30 = .ok (.bipush 6, 2) := by decide +kernel
theorem dX4_set_32 : decode cX4_set 32 = .ok (.if_icmp .ne 9, 3) := by decide +kernel
theorem dX4_set_35 : decode cX4_set 35 = .ok (.ldc2_w 84, 3) := by decide +kernel
theorem dX4_set_38 : decode cX4_set 38 = .ok (.goto 6, 3) := by decide +kernel
theorem dX4_set_41 : decode cX4_set 41 = .ok (.ldc2_w 93, 3) := by decide +kernel
theorem dX4_set_44 : decode cX4_set 44 = .ok (.invokestatic 74, 3) := by decide +kernel
theorem dX4_set_47 : decode cX4_set 47 = .ok (.ifCond .ne 5, 3) := by decide +kernel
theorem dX4_set_50 : decode cX4_set 50 = .ok (.iconst (-1), 1) := by decide +kernel
theorem dX4_set_51 : decode cX4_set 51 = .ok (.ireturn, 1) := by decide +kernel
theorem dX4_set_52 : decode cX4_set 52 = .ok (.aload_n 0, 1) := by decide +kernel
theorem dX4_set_53 : decode cX4_set 53 = .ok (.getfield 19, 3) := by decide +kernel
theorem dX4_set_56 : decode cX4_set 56 = .ok (.iload_n 1, 1) := by decide +kernel
theorem dX4_set_57 : decode cX4_set 57 = .ok (.iaload, 1) := by decide +kernel
theorem dX4_set_58 : decode cX4_set 58 = .ok (.istore_n 3, 1) := by decide +kernel
theorem dX4_set_59 : decode cX4_set 59 = .ok (.aload_n 0, 1) := by decide +kernel
theorem dX4_set_60 : decode cX4_set 60 = .ok (.getfield 19, 3) := by decide +kernel
theorem dX4_set_63 : decode cX4_set 63 = .ok (.iload_n 1, 1) := by decide +kernel
theorem dX4_set_64 : decode cX4_set 64 = .ok (.iload_n 2, 1) := by decide +kernel
theorem dX4_set_65 : decode cX4_set 65 = .ok (.iastore, 1) := by decide +kernel
theorem dX4_set_66 : decode cX4_set 66 = .ok (.iload_n 3, 1) := by decide +kernel
theorem dX4_set_67 : decode cX4_set 67 = .ok (.ireturn, 1) := by decide +kernel
theorem dX4_faceCost_0 : decode cX4_faceCost 0 = .ok (.aload_n 0, 1) := by decide +kernel
theorem dX4_faceCost_1 : decode cX4_faceCost 1 = .ok (.getfield 19, 3) := by decide +kernel
theorem dX4_faceCost_4 : decode cX4_faceCost 4 = .ok (.iload_n 2, 1) := by decide +kernel
theorem dX4_faceCost_5 : decode cX4_faceCost 5 = .ok (.iaload, 1) := by decide +kernel
theorem dX4_faceCost_6 : decode cX4_faceCost 6 = .ok (.istore 4, 2) := by decide +kernel
theorem dX4_faceCost_8 : decode cX4_faceCost 8 = .ok (.iload 4, 2) := by decide +kernel
theorem dX4_faceCost_10 : decode cX4_faceCost 10 = .ok (.iload_n 1, 1) := by decide +kernel
theorem dX4_faceCost_11 : decode cX4_faceCost 11 = .ok (.ifCond .le 19, 3) := by decide +kernel
theorem dX4_faceCost_14 : decode cX4_faceCost 14 = .ok (.iload_n 3, 1) := by decide +kernel
theorem dX4_faceCost_15 : decode cX4_faceCost 15 = .ok (.iconst 2, 1) := by decide +kernel
theorem dX4_faceCost_16 : decode cX4_faceCost 16 = .ok (.irem, 1) := by decide +kernel
theorem dX4_faceCost_17 : decode cX4_faceCost 17 = .ok (.iconst 1, 1) := by decide +kernel
theorem dX4_faceCost_18 : decode cX4_faceCost 18 = .ok (.if_icmp .ne 12, 3) := by decide +kernel
theorem dX4_faceCost_21 : decode cX4_faceCost 21 = .ok (.aload_n 0, 1) := by decide +kernel
theorem dX4_faceCost_22 : decode cX4_faceCost 22 = .ok (.getfield 19, 3) := by decide +kernel
theorem dX4_faceCost_25 : decode cX4_faceCost 25 = .ok (.iconst 4, 1) := by decide +kernel
theorem dX4_faceCost_26 : decode cX4_faceCost 26 = .ok (.iaload, 1) := by decide +kernel
theorem dX4_faceCost_27 : decode cX4_faceCost 27 = .ok (.goto 4, 3) := by decide +kernel
theorem dX4_faceCost_30 : decode cX4_faceCost 30 = .ok (.iconst 0, 1) := by decide +kernel
theorem dX4_faceCost_31 : decode cX4_faceCost 31 = .ok (.iadd, 1) := by decide +kernel
theorem dX4_faceCost_32 : decode cX4_faceCost 32 = .ok (.istore 4, 2) := by decide +kernel
theorem dX4_faceCost_34 : decode cX4_faceCost 34 = .ok (.iload_n 1, 1) := by decide +kernel
theorem dX4_faceCost_35 : decode cX4_faceCost 35 = .ok (.iconst 2, 1) := by decide +kernel
theorem dX4_faceCost_36 : decode cX4_faceCost 36 = .ok (.if_icmp .ne 23, 3) := by decide +kernel
theorem dX4_faceCost_39 : decode cX4_faceCost 39 = .ok (.iload 4, 2) := by decide +kernel
theorem dX4_faceCost_41 : decode cX4_faceCost 41 = .ok (.aload_n 0, 1) := by decide +kernel
theorem dX4_faceCost_42 : decode cX4_faceCost 42 = .ok (.getfield 19, 3) := by decide +kernel
theorem dX4_faceCost_45 : decode cX4_faceCost 45 = .ok (.iconst 5, 1) := by decide +kernel
theorem dX4_faceCost_46 : decode cX4_faceCost 46 = .ok (.iaload, 1) := by decide +kernel
theorem dX4_faceCost_47 : decode cX4_faceCost 47 = .ok (.if_icmp .le 12, 3) := by decide +kernel
theorem dX4_faceCost_50 : decode cX4_faceCost 50 = .ok (.aload_n 0, 1) := by decide +kernel
theorem dX4_faceCost_51 : decode cX4_faceCost 51 = .ok (.getfield 19, 3) := by decide +kernel
theorem dX4_faceCost_54 : decode cX4_faceCost 54 = .ok (.iconst 5, 1) := by decide +kernel
theorem dX4_faceCost_55 : decode cX4_faceCost 55 = .ok (.iaload, 1) := by decide +kernel
theorem dX4_faceCost_56 : decode cX4_faceCost 56 = .ok (.goto 5, 3) := by decide +kernel
theorem dX4_faceCost_59 : decode cX4_faceCost 59 = .ok (.iload 4, 2) := by decide +kernel
theorem dX4_faceCost_61 : decode cX4_faceCost 61 = .ok (.ireturn, 1) := by decide +kernel
set_option maxRecDepth 20000 in
theorem ggX4_cost_X4_in : GoodIn wsX4_cost wsX4_in := goodIn_r _ [9] (by decide +kernel) (by decide +kernel)
set_option maxRecDepth 20000 in
theorem gX4_cost_X4_in : GoodIn wsX4_cost (va_wsS RX4 74 yX4_in wsX4_in) := goodIn_app (goodIn_of _ (by decide +kernel)) ggX4_cost_X4_in
set_option maxRecDepth 20000 in
theorem ggX4_cost_X4_isCell : GoodIn wsX4_cost wsX4_isCell := goodIn_r _ [13, 14, 15, 16, 8, 17, 18, 6, 7, 9, 32, 33, 34, 35, 36, 37, 38, 39, 40, 41, 42, 43, 44, 45, 46, 47, 48, 49, 50, 51, 52, 53] (by decide +kernel) (by decide +kernel)
set_option maxRecDepth 20000 in
theorem gX4_cost_X4_isCell : GoodIn wsX4_cost (wsV RX4 80 RX4 yX4_isCell wsX4_isCell) := goodIn_app (goodIn_of _ (by decide +kernel)) ggX4_cost_X4_isCell
set_option maxRecDepth 20000 in
theorem ggX4_cost_X4_stride : GoodIn wsX4_cost wsX4_stride := goodIn_r _ [22, 18, 32, 33, 34, 35, 36, 37, 38, 39, 40, 41, 42, 43, 44, 45, 46, 47, 48, 49, 50, 51, 52, 53] (by decide +kernel) (by decide +kernel)
set_option maxRecDepth 20000 in
theorem gX4_cost_X4_stride : GoodIn wsX4_cost (wsV RX4 95 RX4 yX4_stride wsX4_stride) := goodIn_app (goodIn_of _ (by decide +kernel)) ggX4_cost_X4_stride
set_option maxRecDepth 20000 in
theorem ggX4_cost_X4_placeOf : GoodIn wsX4_cost wsX4_placeOf := goodIn_r _ [26, 18, 32, 33, 34, 35, 36, 37, 38, 39, 40, 41, 42, 43, 44, 45, 46, 47, 48, 49, 50, 51, 52, 53] (by decide +kernel) (by decide +kernel)
set_option maxRecDepth 20000 in
theorem gX4_cost_X4_placeOf : GoodIn wsX4_cost (wsV RX4 99 RX4 yX4_placeOf wsX4_placeOf) := goodIn_app (goodIn_of _ (by decide +kernel)) ggX4_cost_X4_placeOf
set_option maxRecDepth 20000 in
theorem ggX4_cost_X4_faceCost : GoodIn wsX4_cost wsX4_faceCost := goodIn_r _ [30, 31, 32, 33, 34, 35, 36, 37, 38, 39, 40, 41, 42, 43, 44, 45, 46, 47, 48, 49, 50, 51, 52, 53] (by decide +kernel) (by decide +kernel)
set_option maxRecDepth 20000 in
theorem gX4_cost_X4_faceCost : GoodIn wsX4_cost (wsV RX4 111 RX4 yX4_faceCost wsX4_faceCost) := goodIn_app (goodIn_of _ (by decide +kernel)) ggX4_cost_X4_faceCost
theorem dX4_cost_0 : decode cX4_cost 0 = .ok (.aload_n 0, 1) := by decide +kernel
theorem dX4_cost_1 : decode cX4_cost 1 = .ok (.iconst 0, 1) := by decide +kernel
theorem dX4_cost_2 : decode cX4_cost 2 = .ok (.putfield 67, 3) := by decide +kernel
theorem dX4_cost_5 : decode cX4_cost 5 = .ok (.iload_n 1, 1) := by decide +kernel
theorem dX4_cost_6 : decode cX4_cost 6 = .ok (.i2l, 1) := by decide +kernel
theorem dX4_cost_7 : decode cX4_cost 7 = .ok (.lconst 0, 1) := by decide +kernel
theorem dX4_cost_8 : decode cX4_cost 8 = .ok (.ldc2_w 84, 3) := by decide +kernel
theorem dX4_cost_11 : decode cX4_cost 11 = .ok (.invokestatic 74, 3) := by decide +kernel
theorem dX4_cost_14 : decode cX4_cost 14 = .ok (.ifCond .eq 19, 3) := by decide +kernel
theorem dX4_cost_17 : decode cX4_cost 17 = .ok (.aload_n 0, 1) := by decide +kernel
theorem dX4_cost_18 : decode cX4_cost 18 = .ok (.iload_n 2, 1) := by decide +kernel
theorem dX4_cost_19 : decode cX4_cost 19 = .ok (.invokevirtual 80, 3) := by decide +kernel
theorem dX4_cost_22 : decode cX4_cost 22 = .ok (.ifCond .eq 11, 3) := by decide +kernel
theorem dX4_cost_25 : decode cX4_cost 25 = .ok (.aload_n 0, 1) := by decide +kernel
theorem dX4_cost_26 : decode cX4_cost 26 = .ok (.iload_n 3, 1) := by decide +kernel
theorem dX4_cost_27 : decode cX4_cost 27 = .ok (.invokevirtual 80, 3) := by decide +kernel
theorem dX4_cost_30 : decode cX4_cost 30 = .ok (.ifCond .ne 5, 3) := by decide +kernel
theorem dX4_cost_33 : decode cX4_cost 33 = .ok (.iconst (-1), 1) := by decide +kernel
theorem dX4_cost_34 : decode cX4_cost 34 = .ok (.ireturn, 1) := by decide +kernel
theorem dX4_cost_35 : decode cX4_cost 35 = .ok (.iload_n 2, 1) := by decide +kernel
theorem dX4_cost_36 : decode cX4_cost 36 = .ok (.iload_n 3, 1) := by decide +kernel
theorem dX4_cost_37 : decode cX4_cost 37 = .ok (.if_icmp .ge 7, 3) := by decide +kernel
theorem dX4_cost_40 : decode cX4_cost 40 = .ok (.iload_n 2, 1) := by decide +kernel
theorem dX4_cost_41 : decode cX4_cost 41 = .ok (.goto 4, 3) := by decide +kernel
theorem dX4_cost_44 : decode cX4_cost 44 = .ok (.iload_n 3, 1) := by decide +kernel
theorem dX4_cost_45 : decode cX4_cost 45 = .ok (.istore 4, 2) := by decide +kernel
theorem dX4_cost_47 : decode cX4_cost 47 = .ok (.iload_n 2, 1) := by decide +kernel
theorem dX4_cost_48 : decode cX4_cost 48 = .ok (.iload_n 3, 1) := by decide +kernel
theorem dX4_cost_49 : decode cX4_cost 49 = .ok (.if_icmp .ge 7, 3) := by decide +kernel
theorem dX4_cost_52 : decode cX4_cost 52 = .ok (.iload_n 3, 1) := by decide +kernel
theorem dX4_cost_53 : decode cX4_cost 53 = .ok (.goto 4, 3) := by decide +kernel
theorem dX4_cost_56 : decode cX4_cost 56 = .ok (.iload_n 2, 1) := by decide +kernel
theorem dX4_cost_57 : decode cX4_cost 57 = .ok (.istore 5, 2) := by decide +kernel
theorem dX4_cost_59 : decode cX4_cost 59 = .ok (.iconst 0, 1) := by decide +kernel
theorem dX4_cost_60 : decode cX4_cost 60 = .ok (.istore 6, 2) := by decide +kernel
theorem dX4_cost_62 : decode cX4_cost 62 = .ok (.iload 6, 2) := by decide +kernel
theorem dX4_cost_64 : decode cX4_cost 64 = .ok (.iconst 3, 1) := by decide +kernel
theorem dX4_cost_65 : decode cX4_cost 65 = .ok (.if_icmp .ge 91, 3) := by decide +kernel
theorem dX4_cost_68 : decode cX4_cost 68 = .ok (.iload 5, 2) := by decide +kernel
theorem dX4_cost_70 : decode cX4_cost 70 = .ok (.iload 4, 2) := by decide +kernel
theorem dX4_cost_72 : decode cX4_cost 72 = .ok (.isub, 1) := by decide +kernel
theorem dX4_cost_73 : decode cX4_cost 73 = .ok (.aload_n 0, 1) := by decide +kernel
theorem dX4_cost_74 : decode cX4_cost 74 = .ok (.iload 6, 2) := by decide +kernel
theorem dX4_cost_76 : decode cX4_cost 76 = .ok (.invokevirtual 95, 3) := by decide +kernel
theorem dX4_cost_79 : decode cX4_cost 79 = .ok (.if_icmp .ne 71, 3) := by decide +kernel
theorem dX4_cost_82 : decode cX4_cost 82 = .ok (.aload_n 0, 1) := by decide +kernel
theorem dX4_cost_83 : decode cX4_cost 83 = .ok (.iload 4, 2) := by decide +kernel
theorem dX4_cost_85 : decode cX4_cost 85 = .ok (.iload 6, 2) := by decide +kernel
theorem dX4_cost_87 : decode cX4_cost 87 = .ok (.invokevirtual 99, 3) := by decide +kernel
theorem dX4_cost_90 : decode cX4_cost 90 = .ok (.iconst 1, 1) := by decide +kernel
theorem dX4_cost_91 : decode cX4_cost 91 = .ok (.iadd, 1) := by decide +kernel
theorem dX4_cost_92 : decode cX4_cost 92 = .ok (.aload_n 0, 1) := by decide +kernel
theorem dX4_cost_93 : decode cX4_cost 93 = .ok (.iload 5, 2) := by decide +kernel
theorem dX4_cost_95 : decode cX4_cost 95 = .ok (.iload 6, 2) := by decide +kernel
theorem dX4_cost_97 : decode cX4_cost 97 = .ok (.invokevirtual 99, 3) := by decide +kernel
theorem dX4_cost_100 : decode cX4_cost 100 = .ok (.if_icmp .ne 50, 3) := by decide +kernel
theorem dX4_cost_103 : decode cX4_cost 103 = .ok (.aload_n 0, 1) := by decide +kernel
theorem dX4_cost_104 : decode cX4_cost 104 = .ok (.dup, 1) := by decide +kernel
theorem dX4_cost_105 : decode cX4_cost 105 = .ok (.getfield 103, 3) := by decide +kernel
theorem dX4_cost_108 : decode cX4_cost 108 = .ok (.iload_n 1, 1) := by decide +kernel
theorem dX4_cost_109 : decode cX4_cost 109 = .ok (.ifCond .ne 7, 3) := by decide +kernel
theorem dX4_cost_112 : decode cX4_cost 112 = .ok (.lconst 1, 1) := by decide +kernel
theorem dX4_cost_113 : decode cX4_cost 113 = .ok (.goto 17, 3) := by decide +kernel
theorem dX4_cost_116 : decode cX4_cost 116 = .ok (.iload_n 1, 1) := by decide +kernel
theorem dX4_cost_117 : decode cX4_cost 117 = .ok (.iconst 1, 1) := by decide +kernel
theorem dX4_cost_118 : decode cX4_cost 118 = .ok (.if_icmp .ne 9, 3) := by decide +kernel
theorem dX4_cost_121 : decode cX4_cost 121 = .ok (.ldc2_w 107, 3) := by decide +kernel
theorem dX4_cost_124 : decode cX4_cost 124 = .ok (.goto 6, 3) := by decide +kernel
theorem dX4_cost_127 : decode cX4_cost 127 = .ok (.ldc2_w 109, 3) := by decide +kernel
theorem dX4_cost_130 : decode cX4_cost 130 = .ok (.ladd, 1) := by decide +kernel
theorem dX4_cost_131 : decode cX4_cost 131 = .ok (.putfield 103, 3) := by decide +kernel
theorem dX4_cost_134 : decode cX4_cost 134 = .ok (.aload_n 0, 1) := by decide +kernel
theorem dX4_cost_135 : decode cX4_cost 135 = .ok (.iload_n 1, 1) := by decide +kernel
theorem dX4_cost_136 : decode cX4_cost 136 = .ok (.iload 6, 2) := by decide +kernel
theorem dX4_cost_138 : decode cX4_cost 138 = .ok (.aload_n 0, 1) := by decide +kernel
theorem dX4_cost_139 : decode cX4_cost 139 = .ok (.iload 4, 2) := by decide +kernel
theorem dX4_cost_141 : decode cX4_cost 141 = .ok (.iload 6, 2) := by decide +kernel
theorem dX4_cost_143 : decode cX4_cost 143 = .ok (.invokevirtual 99, 3) := by decide +kernel
theorem dX4_cost_146 : decode cX4_cost 146 = .ok (.invokevirtual 111, 3) := by decide +kernel
theorem dX4_cost_149 : decode cX4_cost 149 = .ok (.ireturn, 1) := by decide +kernel
theorem dX4_cost_150 : decode cX4_cost 150 = .ok (.iinc 6 1, 3) := by decide +kernel
theorem dX4_cost_153 : decode cX4_cost 153 = .ok (.goto (-91), 3) := by decide +kernel
theorem dX4_cost_156 : decode cX4_cost 156 = .ok (.iconst (-1), 1) := by decide +kernel
theorem dX4_cost_157 : decode cX4_cost 157 = .ok (.ireturn, 1) := by decide +kernel
set_option maxRecDepth 20000 in
theorem ggX4_isSet_X4_cells : GoodIn wsX4_isSet wsX4_cells := goodIn_r _ [5, 6, 7, 8, 9, 10, 11, 12, 13, 14, 15, 16, 17, 18, 19, 20, 21, 22, 23, 24, 25, 26, 27, 28] (by decide +kernel) (by decide +kernel)
set_option maxRecDepth 20000 in
theorem gX4_isSet_X4_cells : GoodIn wsX4_isSet (wsV RX4 70 RX4 yX4_cells wsX4_cells) := goodIn_app (goodIn_of _ (by decide +kernel)) ggX4_isSet_X4_cells
theorem dX4_isSet_0 : decode cX4_isSet 0 = .ok (.lload_n 1, 1) := by decide +kernel
theorem dX4_isSet_1 : decode cX4_isSet 1 = .ok (.lconst 0, 1) := by decide +kernel
theorem dX4_isSet_2 : decode cX4_isSet 2 = .ok (.lcmp, 1) := by decide +kernel
theorem dX4_isSet_3 : decode cX4_isSet 3 = .ok (.ifCond .lt 18, 3) := by decide +kernel
theorem dX4_isSet_6 : decode cX4_isSet 6 = .ok (.lload_n 1, 1) := by decide +kernel
theorem dX4_isSet_7 : decode cX4_isSet 7 = .ok (.aload_n 0, 1) := by decide +kernel
theorem dX4_isSet_8 : decode cX4_isSet 8 = .ok (.invokevirtual 70, 3) := by decide +kernel
theorem dX4_isSet_11 : decode cX4_isSet 11 = .ok (.lshr, 1) := by decide +kernel
theorem dX4_isSet_12 : decode cX4_isSet 12 = .ok (.lconst 0, 1) := by decide +kernel
theorem dX4_isSet_13 : decode cX4_isSet 13 = .ok (.lcmp, 1) := by decide +kernel
theorem dX4_isSet_14 : decode cX4_isSet 14 = .ok (.ifCond .ne 7, 3) := by decide +kernel
theorem dX4_isSet_17 : decode cX4_isSet 17 = .ok (.iconst 1, 1) := by decide +kernel
theorem dX4_isSet_18 : decode cX4_isSet 18 = .ok (.goto 4, 3) := by decide +kernel
theorem dX4_isSet_21 : decode cX4_isSet 21 = .ok (.iconst 0, 1) := by decide +kernel
theorem dX4_isSet_22 : decode cX4_isSet 22 = .ok (.ireturn, 1) := by decide +kernel
set_option maxRecDepth 20000 in
theorem ggX4_outsides_X4_placeOf : GoodIn wsX4_outsides wsX4_placeOf := goodIn_r _ [6, 1, 7, 8, 9, 10, 11, 12, 13, 14, 15, 16, 17, 18, 19, 20, 21, 22, 23, 24, 25, 26, 27, 28] (by decide +kernel) (by decide +kernel)
set_option maxRecDepth 20000 in
theorem gX4_outsides_X4_placeOf : GoodIn wsX4_outsides (wsV RX4 99 RX4 yX4_placeOf wsX4_placeOf) := goodIn_app (goodIn_of _ (by decide +kernel)) ggX4_outsides_X4_placeOf
theorem dX4_outsides_0 : decode cX4_outsides 0 = .ok (.iconst 0, 1) := by decide +kernel
theorem dX4_outsides_1 : decode cX4_outsides 1 = .ok (.istore_n 2, 1) := by decide +kernel
theorem dX4_outsides_2 : decode cX4_outsides 2 = .ok (.iconst 0, 1) := by decide +kernel
theorem dX4_outsides_3 : decode cX4_outsides 3 = .ok (.istore_n 3, 1) := by decide +kernel
theorem dX4_outsides_4 : decode cX4_outsides 4 = .ok (.iload_n 3, 1) := by decide +kernel
theorem dX4_outsides_5 : decode cX4_outsides 5 = .ok (.iconst 3, 1) := by decide +kernel
theorem dX4_outsides_6 : decode cX4_outsides 6 = .ok (.if_icmp .ge 51, 3) := by decide +kernel
theorem dX4_outsides_9 : decode cX4_outsides 9 = .ok (.iload_n 2, 1) := by decide +kernel
theorem dX4_outsides_10 : decode cX4_outsides 10 = .ok (.aload_n 0, 1) := by decide +kernel
theorem dX4_outsides_11 : decode cX4_outsides 11 = .ok (.iload_n 1, 1) := by decide +kernel
theorem dX4_outsides_12 : decode cX4_outsides 12 = .ok (.iload_n 3, 1) := by decide +kernel
theorem dX4_outsides_13 : decode cX4_outsides 13 = .ok (.invokevirtual 99, 3) := by decide +kernel
theorem dX4_outsides_16 : decode cX4_outsides 16 = .ok (.ifCond .ne 7, 3) := by decide +kernel
theorem dX4_outsides_19 : decode cX4_outsides 19 = .ok (.iconst 1, 1) := by decide +kernel
theorem dX4_outsides_20 : decode cX4_outsides 20 = .ok (.goto 4, 3) := by decide +kernel
theorem dX4_outsides_23 : decode cX4_outsides 23 = .ok (.iconst 0, 1) := by decide +kernel
theorem dX4_outsides_24 : decode cX4_outsides 24 = .ok (.iadd, 1) := by decide +kernel
theorem dX4_outsides_25 : decode cX4_outsides 25 = .ok (.istore_n 2, 1) := by decide +kernel
theorem dX4_outsides_26 : decode cX4_outsides 26 = .ok (.iload_n 2, 1) := by decide +kernel
theorem dX4_outsides_27 : decode cX4_outsides 27 = .ok (.aload_n 0, 1) := by decide +kernel
theorem dX4_outsides_28 : decode cX4_outsides 28 = .ok (.iload_n 1, 1) := by decide +kernel
theorem dX4_outsides_29 : decode cX4_outsides 29 = .ok (.iload_n 3, 1) := by decide +kernel
theorem dX4_outsides_30 : decode cX4_outsides 30 = .ok (.invokevirtual 99, 3) := by decide +kernel
theorem dX4_outsides_33 : decode cX4_outsides 33 = .ok (.aload_n 0, 1) := by decide +kernel
theorem dX4_outsides_34 : decode cX4_outsides 34 = .ok (.getfield 7, 3) := by decide +kernel
theorem dX4_outsides_37 : decode cX4_outsides 37 = .ok (.iload_n 3, 1) := by decide +kernel
theorem dX4_outsides_38 : decode cX4_outsides 38 = .ok (.iaload, 1) := by decide +kernel
theorem dX4_outsides_39 : decode cX4_outsides 39 = .ok (.iconst 1, 1) := by decide +kernel
theorem dX4_outsides_40 : decode cX4_outsides 40 = .ok (.isub, 1) := by decide +kernel
theorem dX4_outsides_41 : decode cX4_outsides 41 = .ok (.if_icmp .ne 7, 3) := by decide +kernel
theorem dX4_outsides_44 : decode cX4_outsides 44 = .ok (.iconst 1, 1) := by decide +kernel
theorem dX4_outsides_45 : decode cX4_outsides 45 = .ok (.goto 4, 3) := by decide +kernel
theorem dX4_outsides_48 : decode cX4_outsides 48 = .ok (.iconst 0, 1) := by decide +kernel
theorem dX4_outsides_49 : decode cX4_outsides 49 = .ok (.iadd, 1) := by decide +kernel
theorem dX4_outsides_50 : decode cX4_outsides 50 = .ok (.istore_n 2, 1) := by decide +kernel
theorem dX4_outsides_51 : decode cX4_outsides 51 = .ok (.iinc 3 1, 3) := by decide +kernel
theorem dX4_outsides_54 : decode cX4_outsides 54 = .ok (.goto (-50), 3) := by decide +kernel
theorem dX4_outsides_57 : decode cX4_outsides 57 = .ok (.iload_n 2, 1) := by decide +kernel
theorem dX4_outsides_58 : decode cX4_outsides 58 = .ok (.ireturn, 1) := by decide +kernel
set_option maxRecDepth 20000 in
theorem ggX4_skinOf_X4_cells : GoodIn wsX4_skinOf wsX4_cells := goodIn_r _ [7, 2, 24, 25, 26, 27, 28, 29, 30, 31, 32, 33, 34, 35, 36, 37, 38, 39, 40, 41, 42, 43, 44, 45] (by decide +kernel) (by decide +kernel)
set_option maxRecDepth 20000 in
theorem gX4_skinOf_X4_cells : GoodIn wsX4_skinOf (wsV RX4 70 RX4 yX4_cells wsX4_cells) := goodIn_app (goodIn_of _ (by decide +kernel)) ggX4_skinOf_X4_cells
set_option maxRecDepth 20000 in
theorem ggX4_skinOf_X4_outsides : GoodIn wsX4_skinOf wsX4_outsides := goodIn_r _ [11, 2, 12, 13, 14, 6, 15, 24, 25, 26, 27, 28, 29, 30, 31, 32, 33, 34, 35, 36, 37, 38, 39, 40, 41, 42, 43, 44, 45] (by decide +kernel) (by decide +kernel)
set_option maxRecDepth 20000 in
theorem gX4_skinOf_X4_outsides : GoodIn wsX4_skinOf (wsV RX4 115 RX4 yX4_outsides wsX4_outsides) := goodIn_app (goodIn_of _ (by decide +kernel)) ggX4_skinOf_X4_outsides
set_option maxRecDepth 20000 in
theorem ggX4_skinOf_X4_placeOf : GoodIn wsX4_skinOf wsX4_placeOf := goodIn_r _ [15, 2, 24, 25, 26, 27, 28, 29, 30, 31, 32, 33, 34, 35, 36, 37, 38, 39, 40, 41, 42, 43, 44, 45] (by decide +kernel) (by decide +kernel)
set_option maxRecDepth 20000 in
theorem gX4_skinOf_X4_placeOf : GoodIn wsX4_skinOf (wsV RX4 99 RX4 yX4_placeOf wsX4_placeOf) := goodIn_app (goodIn_of _ (by decide +kernel)) ggX4_skinOf_X4_placeOf
set_option maxRecDepth 20000 in
theorem ggX4_skinOf_X4_stride : GoodIn wsX4_skinOf wsX4_stride := goodIn_r _ [19, 2, 24, 25, 26, 27, 28, 29, 30, 31, 32, 33, 34, 35, 36, 37, 38, 39, 40, 41, 42, 43, 44, 45] (by decide +kernel) (by decide +kernel)
set_option maxRecDepth 20000 in
theorem gX4_skinOf_X4_stride : GoodIn wsX4_skinOf (wsV RX4 95 RX4 yX4_stride wsX4_stride) := goodIn_app (goodIn_of _ (by decide +kernel)) ggX4_skinOf_X4_stride
set_option maxRecDepth 20000 in
theorem ggX4_skinOf_X4_faceCost : GoodIn wsX4_skinOf wsX4_faceCost := goodIn_r _ [23, 1, 24, 25, 26, 27, 28, 29, 30, 31, 32, 33, 34, 35, 36, 37, 38, 39, 40, 41, 42, 43, 44, 45] (by decide +kernel) (by decide +kernel)
set_option maxRecDepth 20000 in
theorem gX4_skinOf_X4_faceCost : GoodIn wsX4_skinOf (wsV RX4 111 RX4 yX4_faceCost wsX4_faceCost) := goodIn_app (goodIn_of _ (by decide +kernel)) ggX4_skinOf_X4_faceCost
theorem dX4_skinOf_0 : decode cX4_skinOf 0 = .ok (.lconst 0, 1) := by decide +kernel
theorem dX4_skinOf_1 : decode cX4_skinOf 1 = .ok (.lstore_n 3, 1) := by decide +kernel
theorem dX4_skinOf_2 : decode cX4_skinOf 2 = .ok (.iconst 0, 1) := by decide +kernel
theorem dX4_skinOf_3 : decode cX4_skinOf 3 = .ok (.istore 5, 2) := by decide +kernel
theorem dX4_skinOf_5 : decode cX4_skinOf 5 = .ok (.iload 5, 2) := by decide +kernel
theorem dX4_skinOf_7 : decode cX4_skinOf 7 = .ok (.aload_n 0, 1) := by decide +kernel
theorem dX4_skinOf_8 : decode cX4_skinOf 8 = .ok (.invokevirtual 70, 3) := by decide +kernel
theorem dX4_skinOf_11 : decode cX4_skinOf 11 = .ok (.if_icmp .ge 149, 3) := by decide +kernel
theorem dX4_skinOf_14 : decode cX4_skinOf 14 = .ok (.lload_n 1, 1) := by decide +kernel
theorem dX4_skinOf_15 : decode cX4_skinOf 15 = .ok (.iload 5, 2) := by decide +kernel
theorem dX4_skinOf_17 : decode cX4_skinOf 17 = .ok (.lshr, 1) := by decide +kernel
theorem dX4_skinOf_18 : decode cX4_skinOf 18 = .ok (.lconst 1, 1) := by decide +kernel
theorem dX4_skinOf_19 : decode cX4_skinOf 19 = .ok (.land, 1) := by decide +kernel
theorem dX4_skinOf_20 : decode cX4_skinOf 20 = .ok (.lconst 1, 1) := by decide +kernel
theorem dX4_skinOf_21 : decode cX4_skinOf 21 = .ok (.lcmp, 1) := by decide +kernel
theorem dX4_skinOf_22 : decode cX4_skinOf 22 = .ok (.ifCond .ne 7, 3) := by decide +kernel
theorem dX4_skinOf_25 : decode cX4_skinOf 25 = .ok (.iconst 1, 1) := by decide +kernel
theorem dX4_skinOf_26 : decode cX4_skinOf 26 = .ok (.goto 4, 3) := by decide +kernel
theorem dX4_skinOf_29 : decode cX4_skinOf 29 = .ok (.iconst 0, 1) := by decide +kernel
theorem dX4_skinOf_30 : decode cX4_skinOf 30 = .ok (.istore 6, 2) := by decide +kernel
theorem dX4_skinOf_32 : decode cX4_skinOf 32 = .ok (.lload_n 3, 1) := by decide +kernel
theorem dX4_skinOf_33 : decode cX4_skinOf 33 = .ok (.iload 6, 2) := by decide +kernel
theorem dX4_skinOf_35 : decode cX4_skinOf 35 = .ok (.ifCond .eq 20, 3) := by decide +kernel
theorem dX4_skinOf_38 : decode cX4_skinOf 38 = .ok (.aload_n 0, 1) := by decide +kernel
theorem dX4_skinOf_39 : decode cX4_skinOf 39 = .ok (.getfield 19, 3) := by decide +kernel
theorem dX4_skinOf_42 : decode cX4_skinOf 42 = .ok (.iconst 3, 1) := by decide +kernel
theorem dX4_skinOf_43 : decode cX4_skinOf 43 = .ok (.iaload, 1) := by decide +kernel
theorem dX4_skinOf_44 : decode cX4_skinOf 44 = .ok (.aload_n 0, 1) := by decide +kernel
theorem dX4_skinOf_45 : decode cX4_skinOf 45 = .ok (.iload 5, 2) := by decide +kernel
theorem dX4_skinOf_47 : decode cX4_skinOf 47 = .ok (.invokevirtual 115, 3) := by decide +kernel
theorem dX4_skinOf_50 : decode cX4_skinOf 50 = .ok (.imul, 1) := by decide +kernel
theorem dX4_skinOf_51 : decode cX4_skinOf 51 = .ok (.i2l, 1) := by decide +kernel
theorem dX4_skinOf_52 : decode cX4_skinOf 52 = .ok (.goto 4, 3) := by decide +kernel
theorem dX4_skinOf_55 : decode cX4_skinOf 55 = .ok (.lconst 0, 1) := by decide +kernel
theorem dX4_skinOf_56 : decode cX4_skinOf 56 = .ok (.ladd, 1) := by decide +kernel
theorem dX4_skinOf_57 : decode cX4_skinOf 57 = .ok (.lstore_n 3, 1) := by decide +kernel
theorem dX4_skinOf_58 : decode cX4_skinOf 58 = .ok (.iconst 0, 1) := by decide +kernel
theorem dX4_skinOf_59 : decode cX4_skinOf 59 = .ok (.istore 7, 2) := by decide +kernel
theorem dX4_skinOf_61 : decode cX4_skinOf 61 = .ok (.iload 7, 2) := by decide +kernel
theorem dX4_skinOf_63 : decode cX4_skinOf 63 = .ok (.iconst 3, 1) := by decide +kernel
theorem dX4_skinOf_64 : decode cX4_skinOf 64 = .ok (.if_icmp .ge 90, 3) := by decide +kernel
theorem dX4_skinOf_67 : decode cX4_skinOf 67 = .ok (.aload_n 0, 1) := by decide +kernel
theorem dX4_skinOf_68 : decode cX4_skinOf 68 = .ok (.iload 5, 2) := by decide +kernel
theorem dX4_skinOf_70 : decode cX4_skinOf 70 = .ok (.iload 7, 2) := by decide +kernel
theorem dX4_skinOf_72 : decode cX4_skinOf 72 = .ok (.invokevirtual 99, 3) := by decide +kernel
theorem dX4_skinOf_75 : decode cX4_skinOf 75 = .ok (.iconst 1, 1) := by decide +kernel
theorem dX4_skinOf_76 : decode cX4_skinOf 76 = .ok (.iadd, 1) := by decide +kernel
theorem dX4_skinOf_77 : decode cX4_skinOf 77 = .ok (.aload_n 0, 1) := by decide +kernel
theorem dX4_skinOf_78 : decode cX4_skinOf 78 = .ok (.getfield 7, 3) := by decide +kernel
theorem dX4_skinOf_81 : decode cX4_skinOf 81 = .ok (.iload 7, 2) := by decide +kernel
theorem dX4_skinOf_83 : decode cX4_skinOf 83 = .ok (.iaload, 1) := by decide +kernel
theorem dX4_skinOf_84 : decode cX4_skinOf 84 = .ok (.if_icmp .ge 64, 3) := by decide +kernel
theorem dX4_skinOf_87 : decode cX4_skinOf 87 = .ok (.lload_n 1, 1) := by decide +kernel
theorem dX4_skinOf_88 : decode cX4_skinOf 88 = .ok (.iload 5, 2) := by decide +kernel
theorem dX4_skinOf_90 : decode cX4_skinOf 90 = .ok (.aload_n 0, 1) := by decide +kernel
theorem dX4_skinOf_91 : decode cX4_skinOf 91 = .ok (.iload 7, 2) := by decide +kernel
theorem dX4_skinOf_93 : decode cX4_skinOf 93 = .ok (.invokevirtual 95, 3) := by decide +kernel
theorem dX4_skinOf_96 : decode cX4_skinOf 96 = .ok (.iadd, 1) := by decide +kernel
theorem dX4_skinOf_97 : decode cX4_skinOf 97 = .ok (.lshr, 1) := by decide +kernel
theorem dX4_skinOf_98 : decode cX4_skinOf 98 = .ok (.lconst 1, 1) := by decide +kernel
theorem dX4_skinOf_99 : decode cX4_skinOf 99 = .ok (.land, 1) := by decide +kernel
theorem dX4_skinOf_100 : decode cX4_skinOf 100 = .ok (.lconst 1, 1) := by decide +kernel
theorem dX4_skinOf_101 : decode cX4_skinOf 101 = .ok (.lcmp, 1) := by decide +kernel
theorem dX4_skinOf_102 : decode cX4_skinOf 102 = .ok (.ifCond .ne 7, 3) := by decide +kernel
theorem dX4_skinOf_105 : decode cX4_skinOf 105 = .ok (.iconst 1, 1) := by decide +kernel
theorem dX4_skinOf_106 : decode cX4_skinOf 106 = .ok (.goto 4, 3) := by decide +kernel
theorem dX4_skinOf_109 : decode cX4_skinOf 109 = .ok (.iconst 0, 1) := by decide +kernel
theorem dX4_skinOf_110 : decode cX4_skinOf 110 = .ok (.istore 8, 2) := by decide +kernel
theorem dX4_skinOf_112 : decode cX4_skinOf 112 = .ok (.lload_n 3, 1) := by decide +kernel
theorem dX4_skinOf_113 : decode cX4_skinOf 113 = .ok (.iload 6, 2) := by decide +kernel
theorem dX4_skinOf_115 : decode cX4_skinOf 115 = .ok (.iload 8, 2) := by decide +kernel
theorem dX4_skinOf_117 : decode cX4_skinOf 117 = .ok (.if_icmp .eq 28, 3) := by decide +kernel
theorem dX4_skinOf_120 : decode cX4_skinOf 120 = .ok (.aload_n 0, 1) := by decide +kernel
theorem dX4_skinOf_121 : decode cX4_skinOf 121 = .ok (.aload_n 0, 1) := by decide +kernel
theorem dX4_skinOf_122 : decode cX4_skinOf 122 = .ok (.getfield 19, 3) := by decide +kernel
theorem dX4_skinOf_125 : decode cX4_skinOf 125 = .ok (.bipush 6, 2) := by decide +kernel
theorem dX4_skinOf_127 : decode cX4_skinOf 127 = .ok (.iaload, 1) := by decide +kernel
theorem dX4_skinOf_128 : decode cX4_skinOf 128 = .ok (.iload 7, 2) := by decide +kernel
theorem dX4_skinOf_130 : decode cX4_skinOf 130 = .ok (.aload_n 0, 1) := by decide +kernel
theorem dX4_skinOf_131 : decode cX4_skinOf 131 = .ok (.iload 5, 2) := by decide +kernel
theorem dX4_skinOf_133 : decode cX4_skinOf 133 = .ok (.iload 7, 2) := by decide +kernel
theorem dX4_skinOf_135 : decode cX4_skinOf 135 = .ok (.invokevirtual 99, 3) := by decide +kernel
theorem dX4_skinOf_138 : decode cX4_skinOf 138 = .ok (.invokevirtual 111, 3) := by decide +kernel
theorem dX4_skinOf_141 : decode cX4_skinOf 141 = .ok (.i2l, 1) := by decide +kernel
theorem dX4_skinOf_142 : decode cX4_skinOf 142 = .ok (.goto 4, 3) := by decide +kernel
theorem dX4_skinOf_145 : decode cX4_skinOf 145 = .ok (.lconst 0, 1) := by decide +kernel
theorem dX4_skinOf_146 : decode cX4_skinOf 146 = .ok (.ladd, 1) := by decide +kernel
theorem dX4_skinOf_147 : decode cX4_skinOf 147 = .ok (.lstore_n 3, 1) := by decide +kernel
theorem dX4_skinOf_148 : decode cX4_skinOf 148 = .ok (.iinc 7 1, 3) := by decide +kernel
theorem dX4_skinOf_151 : decode cX4_skinOf 151 = .ok (.goto (-90), 3) := by decide +kernel
theorem dX4_skinOf_154 : decode cX4_skinOf 154 = .ok (.iinc 5 1, 3) := by decide +kernel
theorem dX4_skinOf_157 : decode cX4_skinOf 157 = .ok (.goto (-152), 3) := by decide +kernel
theorem dX4_skinOf_160 : decode cX4_skinOf 160 = .ok (.lload_n 3, 1) := by decide +kernel
theorem dX4_skinOf_161 : decode cX4_skinOf 161 = .ok (.lreturn, 1) := by decide +kernel
set_option maxRecDepth 20000 in
theorem ggX4_skin_X4_isSet : GoodIn wsX4_skin wsX4_isSet := goodIn_r _ [7, 8, 9, 10, 6, 11, 12, 34, 35, 36, 37, 38, 39, 40, 41, 42, 43, 44, 45, 46, 47, 48, 49, 50, 51, 52, 53, 54, 55] (by decide +kernel) (by decide +kernel)
set_option maxRecDepth 20000 in
theorem gX4_skin_X4_isSet : GoodIn wsX4_skin (wsV RX4 118 RX4 yX4_isSet wsX4_isSet) := goodIn_app (goodIn_of _ (by decide +kernel)) ggX4_skin_X4_isSet
set_option maxRecDepth 20000 in
theorem ggX4_skin_X4_skinOf : GoodIn wsX4_skin wsX4_skinOf := goodIn_r _ [16, 17, 12, 8, 9, 10, 6, 11, 18, 19, 20, 21, 22, 23, 24, 25, 26, 27, 28, 29, 30, 31, 32, 33, 34, 35, 36, 37, 38, 39, 40, 41, 42, 43, 44, 45, 46, 47, 48, 49, 50, 51, 52, 53, 54, 55] (by decide +kernel) (by decide +kernel)
set_option maxRecDepth 20000 in
theorem gX4_skin_X4_skinOf : GoodIn wsX4_skin (wsV RX4 122 RX4 yX4_skinOf wsX4_skinOf) := goodIn_app (goodIn_of _ (by decide +kernel)) ggX4_skin_X4_skinOf
theorem dX4_skin_0 : decode cX4_skin 0 = .ok (.aload_n 0, 1) := by decide +kernel
theorem dX4_skin_1 : decode cX4_skin 1 = .ok (.iconst 0, 1) := by decide +kernel
theorem dX4_skin_2 : decode cX4_skin 2 = .ok (.putfield 67, 3) := by decide +kernel
theorem dX4_skin_5 : decode cX4_skin 5 = .ok (.aload_n 0, 1) := by decide +kernel
theorem dX4_skin_6 : decode cX4_skin 6 = .ok (.lload_n 1, 1) := by decide +kernel
theorem dX4_skin_7 : decode cX4_skin 7 = .ok (.invokevirtual 118, 3) := by decide +kernel
theorem dX4_skin_10 : decode cX4_skin 10 = .ok (.ifCond .eq 11, 3) := by decide +kernel
theorem dX4_skin_13 : decode cX4_skin 13 = .ok (.aload_n 0, 1) := by decide +kernel
theorem dX4_skin_14 : decode cX4_skin 14 = .ok (.lload_n 1, 1) := by decide +kernel
theorem dX4_skin_15 : decode cX4_skin 15 = .ok (.invokevirtual 122, 3) := by decide +kernel
theorem dX4_skin_18 : decode cX4_skin 18 = .ok (.goto 6, 3) := by decide +kernel
theorem dX4_skin_21 : decode cX4_skin 21 = .ok (.ldc2_w 126, 3) := by decide +kernel
theorem dX4_skin_24 : decode cX4_skin 24 = .ok (.lreturn, 1) := by decide +kernel
set_option maxRecDepth 20000 in
theorem ggX4_all_X4_isSet : GoodIn wsX4_all wsX4_isSet := goodIn_r _ [8, 9, 10, 11, 7, 12, 13, 35, 36, 37, 38, 39, 40, 41, 42, 43, 44, 45, 46, 47, 48, 49, 50, 51, 52, 53, 54, 55, 56] (by decide +kernel) (by decide +kernel)
set_option maxRecDepth 20000 in
theorem gX4_all_X4_isSet : GoodIn wsX4_all (wsV RX4 118 RX4 yX4_isSet wsX4_isSet) := goodIn_app (goodIn_of _ (by decide +kernel)) ggX4_all_X4_isSet
set_option maxRecDepth 20000 in
theorem ggX4_all_X4_skinOf : GoodIn wsX4_all wsX4_skinOf := goodIn_r _ [17, 18, 13, 9, 10, 11, 7, 12, 19, 20, 21, 22, 23, 24, 25, 26, 27, 28, 29, 30, 31, 32, 33, 34, 35, 36, 37, 38, 39, 40, 41, 42, 43, 44, 45, 46, 47, 48, 49, 50, 51, 52, 53, 54, 55, 56] (by decide +kernel) (by decide +kernel)
set_option maxRecDepth 20000 in
theorem gX4_all_X4_skinOf : GoodIn wsX4_all (wsV RX4 122 RX4 yX4_skinOf wsX4_skinOf) := goodIn_app (goodIn_of _ (by decide +kernel)) ggX4_all_X4_skinOf
set_option maxRecDepth 20000 in
theorem ggX4_all_X4_cells : GoodIn wsX4_all wsX4_cells := goodIn_r _ [12, 13, 35, 36, 37, 38, 39, 40, 41, 42, 43, 44, 45, 46, 47, 48, 49, 50, 51, 52, 53, 54, 55, 56] (by decide +kernel) (by decide +kernel)
set_option maxRecDepth 20000 in
theorem gX4_all_X4_cells : GoodIn wsX4_all (wsV RX4 70 RX4 yX4_cells wsX4_cells) := goodIn_app (goodIn_of _ (by decide +kernel)) ggX4_all_X4_cells
theorem dX4_all_0 : decode cX4_all 0 = .ok (.aload_n 0, 1) := by decide +kernel
theorem dX4_all_1 : decode cX4_all 1 = .ok (.iconst 0, 1) := by decide +kernel
theorem dX4_all_2 : decode cX4_all 2 = .ok (.putfield 67, 3) := by decide +kernel
theorem dX4_all_5 : decode cX4_all 5 = .ok (.aload_n 0, 1) := by decide +kernel
theorem dX4_all_6 : decode cX4_all 6 = .ok (.lload_n 1, 1) := by decide +kernel
theorem dX4_all_7 : decode cX4_all 7 = .ok (.invokevirtual 118, 3) := by decide +kernel
theorem dX4_all_10 : decode cX4_all 10 = .ok (.ifCond .ne 7, 3) := by decide +kernel
theorem dX4_all_13 : decode cX4_all 13 = .ok (.ldc2_w 128, 3) := by decide +kernel
theorem dX4_all_16 : decode cX4_all 16 = .ok (.lreturn, 1) := by decide +kernel
theorem dX4_all_17 : decode cX4_all 17 = .ok (.aload_n 0, 1) := by decide +kernel
theorem dX4_all_18 : decode cX4_all 18 = .ok (.lload_n 1, 1) := by decide +kernel
theorem dX4_all_19 : decode cX4_all 19 = .ok (.invokevirtual 122, 3) := by decide +kernel
theorem dX4_all_22 : decode cX4_all 22 = .ok (.lstore_n 3, 1) := by decide +kernel
theorem dX4_all_23 : decode cX4_all 23 = .ok (.iconst 0, 1) := by decide +kernel
theorem dX4_all_24 : decode cX4_all 24 = .ok (.istore 5, 2) := by decide +kernel
theorem dX4_all_26 : decode cX4_all 26 = .ok (.iload 5, 2) := by decide +kernel
theorem dX4_all_28 : decode cX4_all 28 = .ok (.aload_n 0, 1) := by decide +kernel
theorem dX4_all_29 : decode cX4_all 29 = .ok (.invokevirtual 70, 3) := by decide +kernel
theorem dX4_all_32 : decode cX4_all 32 = .ok (.if_icmp .ge 35, 3) := by decide +kernel
theorem dX4_all_35 : decode cX4_all 35 = .ok (.lload_n 3, 1) := by decide +kernel
theorem dX4_all_36 : decode cX4_all 36 = .ok (.lload_n 1, 1) := by decide +kernel
theorem dX4_all_37 : decode cX4_all 37 = .ok (.iload 5, 2) := by decide +kernel
theorem dX4_all_39 : decode cX4_all 39 = .ok (.lshr, 1) := by decide +kernel
theorem dX4_all_40 : decode cX4_all 40 = .ok (.lconst 1, 1) := by decide +kernel
theorem dX4_all_41 : decode cX4_all 41 = .ok (.land, 1) := by decide +kernel
theorem dX4_all_42 : decode cX4_all 42 = .ok (.lconst 1, 1) := by decide +kernel
theorem dX4_all_43 : decode cX4_all 43 = .ok (.lcmp, 1) := by decide +kernel
theorem dX4_all_44 : decode cX4_all 44 = .ok (.ifCond .ne 14, 3) := by decide +kernel
theorem dX4_all_47 : decode cX4_all 47 = .ok (.aload_n 0, 1) := by decide +kernel
theorem dX4_all_48 : decode cX4_all 48 = .ok (.getfield 16, 3) := by decide +kernel
theorem dX4_all_51 : decode cX4_all 51 = .ok (.iload 5, 2) := by decide +kernel
theorem dX4_all_53 : decode cX4_all 53 = .ok (.iaload, 1) := by decide +kernel
theorem dX4_all_54 : decode cX4_all 54 = .ok (.i2l, 1) := by decide +kernel
theorem dX4_all_55 : decode cX4_all 55 = .ok (.goto 4, 3) := by decide +kernel
theorem dX4_all_58 : decode cX4_all 58 = .ok (.lconst 0, 1) := by decide +kernel
theorem dX4_all_59 : decode cX4_all 59 = .ok (.ladd, 1) := by decide +kernel
theorem dX4_all_60 : decode cX4_all 60 = .ok (.lstore_n 3, 1) := by decide +kernel
theorem dX4_all_61 : decode cX4_all 61 = .ok (.iinc 5 1, 3) := by decide +kernel
theorem dX4_all_64 : decode cX4_all 64 = .ok (.goto (-38), 3) := by decide +kernel
theorem dX4_all_67 : decode cX4_all 67 = .ok (.lload_n 3, 1) := by decide +kernel
theorem dX4_all_68 : decode cX4_all 68 = .ok (.lreturn, 1) := by decide +kernel
set_option maxRecDepth 20000 in
theorem ggX4_right_X4_isSet : GoodIn wsX4_right wsX4_isSet := goodIn_r _ [7, 8, 9, 10, 6, 11, 12, 13, 14, 15, 16, 17, 18, 19, 20, 21, 22, 23, 24, 25, 26, 27, 28, 29, 30, 31, 32, 33, 34] (by decide +kernel) (by decide +kernel)
set_option maxRecDepth 20000 in
theorem gX4_right_X4_isSet : GoodIn wsX4_right (wsV RX4 118 RX4 yX4_isSet wsX4_isSet) := goodIn_app (goodIn_of _ (by decide +kernel)) ggX4_right_X4_isSet
set_option maxRecDepth 20000 in
theorem ggX4_right_X4_cells : GoodIn wsX4_right wsX4_cells := goodIn_r _ [11, 12, 13, 14, 15, 16, 17, 18, 19, 20, 21, 22, 23, 24, 25, 26, 27, 28, 29, 30, 31, 32, 33, 34] (by decide +kernel) (by decide +kernel)
set_option maxRecDepth 20000 in
theorem gX4_right_X4_cells : GoodIn wsX4_right (wsV RX4 70 RX4 yX4_cells wsX4_cells) := goodIn_app (goodIn_of _ (by decide +kernel)) ggX4_right_X4_cells
theorem dX4_right_0 : decode cX4_right 0 = .ok (.aload_n 0, 1) := by decide +kernel
theorem dX4_right_1 : decode cX4_right 1 = .ok (.iconst 0, 1) := by decide +kernel
theorem dX4_right_2 : decode cX4_right 2 = .ok (.putfield 67, 3) := by decide +kernel
theorem dX4_right_5 : decode cX4_right 5 = .ok (.aload_n 0, 1) := by decide +kernel
theorem dX4_right_6 : decode cX4_right 6 = .ok (.lload_n 1, 1) := by decide +kernel
theorem dX4_right_7 : decode cX4_right 7 = .ok (.invokevirtual 118, 3) := by decide +kernel
theorem dX4_right_10 : decode cX4_right 10 = .ok (.ifCond .ne 5, 3) := by decide +kernel
theorem dX4_right_13 : decode cX4_right 13 = .ok (.iconst (-1), 1) := by decide +kernel
theorem dX4_right_14 : decode cX4_right 14 = .ok (.ireturn, 1) := by decide +kernel
theorem dX4_right_15 : decode cX4_right 15 = .ok (.iconst 1, 1) := by decide +kernel
theorem dX4_right_16 : decode cX4_right 16 = .ok (.istore_n 3, 1) := by decide +kernel
theorem dX4_right_17 : decode cX4_right 17 = .ok (.iconst 0, 1) := by decide +kernel
theorem dX4_right_18 : decode cX4_right 18 = .ok (.istore 4, 2) := by decide +kernel
theorem dX4_right_20 : decode cX4_right 20 = .ok (.iload 4, 2) := by decide +kernel
theorem dX4_right_22 : decode cX4_right 22 = .ok (.aload_n 0, 1) := by decide +kernel
theorem dX4_right_23 : decode cX4_right 23 = .ok (.invokevirtual 70, 3) := by decide +kernel
theorem dX4_right_26 : decode cX4_right 26 = .ok (.if_icmp .ge 43, 3) := by decide +kernel
theorem dX4_right_29 : decode cX4_right 29 = .ok (.iload_n 3, 1) := by decide +kernel
theorem dX4_right_30 : decode cX4_right 30 = .ok (.aload_n 0, 1) := by decide +kernel
theorem dX4_right_31 : decode cX4_right 31 = .ok (.getfield 13, 3) := by decide +kernel
theorem dX4_right_34 : decode cX4_right 34 = .ok (.iload 4, 2) := by decide +kernel
theorem dX4_right_36 : decode cX4_right 36 = .ok (.iaload, 1) := by decide +kernel
theorem dX4_right_37 : decode cX4_right 37 = .ok (.lload_n 1, 1) := by decide +kernel
theorem dX4_right_38 : decode cX4_right 38 = .ok (.iload 4, 2) := by decide +kernel
theorem dX4_right_40 : decode cX4_right 40 = .ok (.lshr, 1) := by decide +kernel
theorem dX4_right_41 : decode cX4_right 41 = .ok (.lconst 1, 1) := by decide +kernel
theorem dX4_right_42 : decode cX4_right 42 = .ok (.land, 1) := by decide +kernel
theorem dX4_right_43 : decode cX4_right 43 = .ok (.lconst 1, 1) := by decide +kernel
theorem dX4_right_44 : decode cX4_right 44 = .ok (.lcmp, 1) := by decide +kernel
theorem dX4_right_45 : decode cX4_right 45 = .ok (.ifCond .ne 7, 3) := by decide +kernel
theorem dX4_right_48 : decode cX4_right 48 = .ok (.iconst 2, 1) := by decide +kernel
theorem dX4_right_49 : decode cX4_right 49 = .ok (.goto 4, 3) := by decide +kernel
theorem dX4_right_52 : decode cX4_right 52 = .ok (.iconst 1, 1) := by decide +kernel
theorem dX4_right_53 : decode cX4_right 53 = .ok (.if_icmp .eq 7, 3) := by decide +kernel
theorem dX4_right_56 : decode cX4_right 56 = .ok (.iconst 1, 1) := by decide +kernel
theorem dX4_right_57 : decode cX4_right 57 = .ok (.goto 4, 3) := by decide +kernel
theorem dX4_right_60 : decode cX4_right 60 = .ok (.iconst 0, 1) := by decide +kernel
theorem dX4_right_61 : decode cX4_right 61 = .ok (.iand, 1) := by decide +kernel
theorem dX4_right_62 : decode cX4_right 62 = .ok (.istore_n 3, 1) := by decide +kernel
theorem dX4_right_63 : decode cX4_right 63 = .ok (.iinc 4 1, 3) := by decide +kernel
theorem dX4_right_66 : decode cX4_right 66 = .ok (.goto (-46), 3) := by decide +kernel
theorem dX4_right_69 : decode cX4_right 69 = .ok (.iload_n 3, 1) := by decide +kernel
theorem dX4_right_70 : decode cX4_right 70 = .ok (.ifCond .eq 7, 3) := by decide +kernel
theorem dX4_right_73 : decode cX4_right 73 = .ok (.iconst 1, 1) := by decide +kernel
theorem dX4_right_74 : decode cX4_right 74 = .ok (.goto 4, 3) := by decide +kernel
theorem dX4_right_77 : decode cX4_right 77 = .ok (.iconst 0, 1) := by decide +kernel
theorem dX4_right_78 : decode cX4_right 78 = .ok (.ireturn, 1) := by decide +kernel
theorem dX4_orders_0 : decode cX4_orders 0 = .ok (.iconst 0, 1) := by decide +kernel
theorem dX4_orders_1 : decode cX4_orders 1 = .ok (.istore_n 1, 1) := by decide +kernel
theorem dX4_orders_2 : decode cX4_orders 2 = .ok (.iload_n 1, 1) := by decide +kernel
theorem dX4_orders_3 : decode cX4_orders 3 = .ok (.iconst 3, 1) := by decide +kernel
theorem dX4_orders_4 : decode cX4_orders 4 = .ok (.if_icmp .ge 64, 3) := by decide +kernel
theorem dX4_orders_7 : decode cX4_orders 7 = .ok (.iload_n 1, 1) := by decide +kernel
theorem dX4_orders_8 : decode cX4_orders 8 = .ok (.istore_n 2, 1) := by decide +kernel
theorem dX4_orders_9 : decode cX4_orders 9 = .ok (.iload_n 2, 1) := by decide +kernel
theorem dX4_orders_10 : decode cX4_orders 10 = .ok (.ifCond .le 45, 3) := by decide +kernel
theorem dX4_orders_13 : decode cX4_orders 13 = .ok (.aload_n 0, 1) := by decide +kernel
theorem dX4_orders_14 : decode cX4_orders 14 = .ok (.getfield 7, 3) := by decide +kernel
theorem dX4_orders_17 : decode cX4_orders 17 = .ok (.aload_n 0, 1) := by decide +kernel
theorem dX4_orders_18 : decode cX4_orders 18 = .ok (.getfield 22, 3) := by decide +kernel
theorem dX4_orders_21 : decode cX4_orders 21 = .ok (.iload_n 2, 1) := by decide +kernel
theorem dX4_orders_22 : decode cX4_orders 22 = .ok (.iconst 1, 1) := by decide +kernel
theorem dX4_orders_23 : decode cX4_orders 23 = .ok (.isub, 1) := by decide +kernel
theorem dX4_orders_24 : decode cX4_orders 24 = .ok (.iaload, 1) := by decide +kernel
theorem dX4_orders_25 : decode cX4_orders 25 = .ok (.iaload, 1) := by decide +kernel
theorem dX4_orders_26 : decode cX4_orders 26 = .ok (.aload_n 0, 1) := by decide +kernel
theorem dX4_orders_27 : decode cX4_orders 27 = .ok (.getfield 7, 3) := by decide +kernel
theorem dX4_orders_30 : decode cX4_orders 30 = .ok (.iload_n 1, 1) := by decide +kernel
theorem dX4_orders_31 : decode cX4_orders 31 = .ok (.iaload, 1) := by decide +kernel
theorem dX4_orders_32 : decode cX4_orders 32 = .ok (.if_icmp .le 23, 3) := by decide +kernel
theorem dX4_orders_35 : decode cX4_orders 35 = .ok (.aload_n 0, 1) := by decide +kernel
theorem dX4_orders_36 : decode cX4_orders 36 = .ok (.getfield 22, 3) := by decide +kernel
theorem dX4_orders_39 : decode cX4_orders 39 = .ok (.iload_n 2, 1) := by decide +kernel
theorem dX4_orders_40 : decode cX4_orders 40 = .ok (.aload_n 0, 1) := by decide +kernel
theorem dX4_orders_41 : decode cX4_orders 41 = .ok (.getfield 22, 3) := by decide +kernel
theorem dX4_orders_44 : decode cX4_orders 44 = .ok (.iload_n 2, 1) := by decide +kernel
theorem dX4_orders_45 : decode cX4_orders 45 = .ok (.iconst 1, 1) := by decide +kernel
theorem dX4_orders_46 : decode cX4_orders 46 = .ok (.isub, 1) := by decide +kernel
theorem dX4_orders_47 : decode cX4_orders 47 = .ok (.iaload, 1) := by decide +kernel
theorem dX4_orders_48 : decode cX4_orders 48 = .ok (.iastore, 1) := by decide +kernel
theorem dX4_orders_49 : decode cX4_orders 49 = .ok (.iinc 2 (-1), 3) := by decide +kernel
theorem dX4_orders_52 : decode cX4_orders 52 = .ok (.goto (-43), 3) := by decide +kernel
theorem dX4_orders_55 : decode cX4_orders 55 = .ok (.aload_n 0, 1) := by decide +kernel
theorem dX4_orders_56 : decode cX4_orders 56 = .ok (.getfield 22, 3) := by decide +kernel
theorem dX4_orders_59 : decode cX4_orders 59 = .ok (.iload_n 2, 1) := by decide +kernel
theorem dX4_orders_60 : decode cX4_orders 60 = .ok (.iload_n 1, 1) := by decide +kernel
theorem dX4_orders_61 : decode cX4_orders 61 = .ok (.iastore, 1) := by decide +kernel
theorem dX4_orders_62 : decode cX4_orders 62 = .ok (.iinc 1 1, 3) := by decide +kernel
theorem dX4_orders_65 : decode cX4_orders 65 = .ok (.goto (-63), 3) := by decide +kernel
theorem dX4_orders_68 : decode cX4_orders 68 = .ok (.return_, 1) := by decide +kernel
set_option maxRecDepth 20000 in
theorem ggX4_cellAt_X4_stride : GoodIn wsX4_cellAt wsX4_stride := goodIn_r _ [8, 1, 9, 10, 11, 12, 13, 14, 15, 16, 17, 18, 19, 20, 21, 22, 23, 24, 25, 26, 27, 28, 29, 30] (by decide +kernel) (by decide +kernel)
set_option maxRecDepth 20000 in
theorem gX4_cellAt_X4_stride : GoodIn wsX4_cellAt (wsV RX4 95 RX4 yX4_stride wsX4_stride) := goodIn_app (goodIn_of _ (by decide +kernel)) ggX4_cellAt_X4_stride
theorem dX4_cellAt_0 : decode cX4_cellAt 0 = .ok (.aload_n 0, 1) := by decide +kernel
theorem dX4_cellAt_1 : decode cX4_cellAt 1 = .ok (.getfield 7, 3) := by decide +kernel
theorem dX4_cellAt_4 : decode cX4_cellAt 4 = .ok (.aload_n 0, 1) := by decide +kernel
theorem dX4_cellAt_5 : decode cX4_cellAt 5 = .ok (.getfield 22, 3) := by decide +kernel
theorem dX4_cellAt_8 : decode cX4_cellAt 8 = .ok (.iconst 0, 1) := by decide +kernel
theorem dX4_cellAt_9 : decode cX4_cellAt 9 = .ok (.iaload, 1) := by decide +kernel
theorem dX4_cellAt_10 : decode cX4_cellAt 10 = .ok (.iaload, 1) := by decide +kernel
theorem dX4_cellAt_11 : decode cX4_cellAt 11 = .ok (.istore_n 2, 1) := by decide +kernel
theorem dX4_cellAt_12 : decode cX4_cellAt 12 = .ok (.aload_n 0, 1) := by decide +kernel
theorem dX4_cellAt_13 : decode cX4_cellAt 13 = .ok (.getfield 7, 3) := by decide +kernel
theorem dX4_cellAt_16 : decode cX4_cellAt 16 = .ok (.aload_n 0, 1) := by decide +kernel
theorem dX4_cellAt_17 : decode cX4_cellAt 17 = .ok (.getfield 22, 3) := by decide +kernel
theorem dX4_cellAt_20 : decode cX4_cellAt 20 = .ok (.iconst 1, 1) := by decide +kernel
theorem dX4_cellAt_21 : decode cX4_cellAt 21 = .ok (.iaload, 1) := by decide +kernel
theorem dX4_cellAt_22 : decode cX4_cellAt 22 = .ok (.iaload, 1) := by decide +kernel
theorem dX4_cellAt_23 : decode cX4_cellAt 23 = .ok (.istore_n 3, 1) := by decide +kernel
theorem dX4_cellAt_24 : decode cX4_cellAt 24 = .ok (.aload_n 0, 1) := by decide +kernel
theorem dX4_cellAt_25 : decode cX4_cellAt 25 = .ok (.getfield 25, 3) := by decide +kernel
theorem dX4_cellAt_28 : decode cX4_cellAt 28 = .ok (.iconst 0, 1) := by decide +kernel
theorem dX4_cellAt_29 : decode cX4_cellAt 29 = .ok (.iload_n 1, 1) := by decide +kernel
theorem dX4_cellAt_30 : decode cX4_cellAt 30 = .ok (.iload_n 2, 1) := by decide +kernel
theorem dX4_cellAt_31 : decode cX4_cellAt 31 = .ok (.irem, 1) := by decide +kernel
theorem dX4_cellAt_32 : decode cX4_cellAt 32 = .ok (.iastore, 1) := by decide +kernel
theorem dX4_cellAt_33 : decode cX4_cellAt 33 = .ok (.aload_n 0, 1) := by decide +kernel
theorem dX4_cellAt_34 : decode cX4_cellAt 34 = .ok (.getfield 25, 3) := by decide +kernel
theorem dX4_cellAt_37 : decode cX4_cellAt 37 = .ok (.iconst 1, 1) := by decide +kernel
theorem dX4_cellAt_38 : decode cX4_cellAt 38 = .ok (.iload_n 1, 1) := by decide +kernel
theorem dX4_cellAt_39 : decode cX4_cellAt 39 = .ok (.iload_n 2, 1) := by decide +kernel
theorem dX4_cellAt_40 : decode cX4_cellAt 40 = .ok (.idiv, 1) := by decide +kernel
theorem dX4_cellAt_41 : decode cX4_cellAt 41 = .ok (.iload_n 3, 1) := by decide +kernel
theorem dX4_cellAt_42 : decode cX4_cellAt 42 = .ok (.irem, 1) := by decide +kernel
theorem dX4_cellAt_43 : decode cX4_cellAt 43 = .ok (.iastore, 1) := by decide +kernel
theorem dX4_cellAt_44 : decode cX4_cellAt 44 = .ok (.aload_n 0, 1) := by decide +kernel
theorem dX4_cellAt_45 : decode cX4_cellAt 45 = .ok (.getfield 25, 3) := by decide +kernel
theorem dX4_cellAt_48 : decode cX4_cellAt 48 = .ok (.iconst 2, 1) := by decide +kernel
theorem dX4_cellAt_49 : decode cX4_cellAt 49 = .ok (.iload_n 1, 1) := by decide +kernel
theorem dX4_cellAt_50 : decode cX4_cellAt 50 = .ok (.iload_n 2, 1) := by decide +kernel
theorem dX4_cellAt_51 : decode cX4_cellAt 51 = .ok (.idiv, 1) := by decide +kernel
theorem dX4_cellAt_52 : decode cX4_cellAt 52 = .ok (.iload_n 3, 1) := by decide +kernel
theorem dX4_cellAt_53 : decode cX4_cellAt 53 = .ok (.idiv, 1) := by decide +kernel
theorem dX4_cellAt_54 : decode cX4_cellAt 54 = .ok (.iastore, 1) := by decide +kernel
theorem dX4_cellAt_55 : decode cX4_cellAt 55 = .ok (.aload_n 0, 1) := by decide +kernel
theorem dX4_cellAt_56 : decode cX4_cellAt 56 = .ok (.getfield 25, 3) := by decide +kernel
theorem dX4_cellAt_59 : decode cX4_cellAt 59 = .ok (.iconst 0, 1) := by decide +kernel
theorem dX4_cellAt_60 : decode cX4_cellAt 60 = .ok (.iaload, 1) := by decide +kernel
theorem dX4_cellAt_61 : decode cX4_cellAt 61 = .ok (.aload_n 0, 1) := by decide +kernel
theorem dX4_cellAt_62 : decode cX4_cellAt 62 = .ok (.aload_n 0, 1) := by decide +kernel
theorem dX4_cellAt_63 : decode cX4_cellAt 63 = .ok (.getfield 22, 3) := by decide +kernel
theorem dX4_cellAt_66 : decode cX4_cellAt 66 = .ok (.iconst 0, 1) := by decide +kernel
theorem dX4_cellAt_67 : decode cX4_cellAt 67 = .ok (.iaload, 1) := by decide +kernel
theorem dX4_cellAt_68 : decode cX4_cellAt 68 = .ok (.invokevirtual 95, 3) := by decide +kernel
theorem dX4_cellAt_71 : decode cX4_cellAt 71 = .ok (.imul, 1) := by decide +kernel
theorem dX4_cellAt_72 : decode cX4_cellAt 72 = .ok (.aload_n 0, 1) := by decide +kernel
theorem dX4_cellAt_73 : decode cX4_cellAt 73 = .ok (.getfield 25, 3) := by decide +kernel
theorem dX4_cellAt_76 : decode cX4_cellAt 76 = .ok (.iconst 1, 1) := by decide +kernel
theorem dX4_cellAt_77 : decode cX4_cellAt 77 = .ok (.iaload, 1) := by decide +kernel
theorem dX4_cellAt_78 : decode cX4_cellAt 78 = .ok (.aload_n 0, 1) := by decide +kernel
theorem dX4_cellAt_79 : decode cX4_cellAt 79 = .ok (.aload_n 0, 1) := by decide +kernel
theorem dX4_cellAt_80 : decode cX4_cellAt 80 = .ok (.getfield 22, 3) := by decide +kernel
theorem dX4_cellAt_83 : decode cX4_cellAt 83 = .ok (.iconst 1, 1) := by decide +kernel
theorem dX4_cellAt_84 : decode cX4_cellAt 84 = .ok (.iaload, 1) := by decide +kernel
theorem dX4_cellAt_85 : decode cX4_cellAt 85 = .ok (.invokevirtual 95, 3) := by decide +kernel
theorem dX4_cellAt_88 : decode cX4_cellAt 88 = .ok (.imul, 1) := by decide +kernel
theorem dX4_cellAt_89 : decode cX4_cellAt 89 = .ok (.iadd, 1) := by decide +kernel
theorem dX4_cellAt_90 : decode cX4_cellAt 90 = .ok (.aload_n 0, 1) := by decide +kernel
theorem dX4_cellAt_91 : decode cX4_cellAt 91 = .ok (.getfield 25, 3) := by decide +kernel
theorem dX4_cellAt_94 : decode cX4_cellAt 94 = .ok (.iconst 2, 1) := by decide +kernel
theorem dX4_cellAt_95 : decode cX4_cellAt 95 = .ok (.iaload, 1) := by decide +kernel
theorem dX4_cellAt_96 : decode cX4_cellAt 96 = .ok (.aload_n 0, 1) := by decide +kernel
theorem dX4_cellAt_97 : decode cX4_cellAt 97 = .ok (.aload_n 0, 1) := by decide +kernel
theorem dX4_cellAt_98 : decode cX4_cellAt 98 = .ok (.getfield 22, 3) := by decide +kernel
theorem dX4_cellAt_101 : decode cX4_cellAt 101 = .ok (.iconst 2, 1) := by decide +kernel
theorem dX4_cellAt_102 : decode cX4_cellAt 102 = .ok (.iaload, 1) := by decide +kernel
theorem dX4_cellAt_103 : decode cX4_cellAt 103 = .ok (.invokevirtual 95, 3) := by decide +kernel
theorem dX4_cellAt_106 : decode cX4_cellAt 106 = .ok (.imul, 1) := by decide +kernel
theorem dX4_cellAt_107 : decode cX4_cellAt 107 = .ok (.iadd, 1) := by decide +kernel
theorem dX4_cellAt_108 : decode cX4_cellAt 108 = .ok (.ireturn, 1) := by decide +kernel
set_option maxRecDepth 20000 in
theorem ggX4_adds_X4_outsides : GoodIn wsX4_adds wsX4_outsides := goodIn_r _ [10, 5, 11, 12, 13, 9, 14, 19, 20, 21, 22, 23, 24, 25, 26, 27, 28, 29, 30, 31, 32, 33, 34, 35, 36, 37, 38, 39, 40] (by decide +kernel) (by decide +kernel)
set_option maxRecDepth 20000 in
theorem gX4_adds_X4_outsides : GoodIn wsX4_adds (wsV RX4 115 RX4 yX4_outsides wsX4_outsides) := goodIn_app (goodIn_of _ (by decide +kernel)) ggX4_adds_X4_outsides
set_option maxRecDepth 20000 in
theorem ggX4_adds_X4_faceCost : GoodIn wsX4_adds wsX4_faceCost := goodIn_r _ [18, 2, 19, 20, 21, 22, 23, 24, 25, 26, 27, 28, 29, 30, 31, 32, 33, 34, 35, 36, 37, 38, 39, 40] (by decide +kernel) (by decide +kernel)
set_option maxRecDepth 20000 in
theorem gX4_adds_X4_faceCost : GoodIn wsX4_adds (wsV RX4 111 RX4 yX4_faceCost wsX4_faceCost) := goodIn_app (goodIn_of _ (by decide +kernel)) ggX4_adds_X4_faceCost
theorem dX4_adds_0 : decode cX4_adds 0 = .ok (.iload_n 3, 1) := by decide +kernel
theorem dX4_adds_1 : decode cX4_adds 1 = .ok (.iconst 1, 1) := by decide +kernel
theorem dX4_adds_2 : decode cX4_adds 2 = .ok (.if_icmp .ne 28, 3) := by decide +kernel
theorem dX4_adds_5 : decode cX4_adds 5 = .ok (.aload_n 0, 1) := by decide +kernel
theorem dX4_adds_6 : decode cX4_adds 6 = .ok (.getfield 16, 3) := by decide +kernel
theorem dX4_adds_9 : decode cX4_adds 9 = .ok (.iload_n 1, 1) := by decide +kernel
theorem dX4_adds_10 : decode cX4_adds 10 = .ok (.iaload, 1) := by decide +kernel
theorem dX4_adds_11 : decode cX4_adds 11 = .ok (.iload 4, 2) := by decide +kernel
theorem dX4_adds_13 : decode cX4_adds 13 = .ok (.iadd, 1) := by decide +kernel
theorem dX4_adds_14 : decode cX4_adds 14 = .ok (.aload_n 0, 1) := by decide +kernel
theorem dX4_adds_15 : decode cX4_adds 15 = .ok (.getfield 19, 3) := by decide +kernel
theorem dX4_adds_18 : decode cX4_adds 18 = .ok (.iconst 3, 1) := by decide +kernel
theorem dX4_adds_19 : decode cX4_adds 19 = .ok (.iaload, 1) := by decide +kernel
theorem dX4_adds_20 : decode cX4_adds 20 = .ok (.aload_n 0, 1) := by decide +kernel
theorem dX4_adds_21 : decode cX4_adds 21 = .ok (.iload_n 1, 1) := by decide +kernel
theorem dX4_adds_22 : decode cX4_adds 22 = .ok (.invokevirtual 115, 3) := by decide +kernel
theorem dX4_adds_25 : decode cX4_adds 25 = .ok (.imul, 1) := by decide +kernel
theorem dX4_adds_26 : decode cX4_adds 26 = .ok (.iadd, 1) := by decide +kernel
theorem dX4_adds_27 : decode cX4_adds 27 = .ok (.goto 4, 3) := by decide +kernel
theorem dX4_adds_30 : decode cX4_adds 30 = .ok (.iconst 0, 1) := by decide +kernel
theorem dX4_adds_31 : decode cX4_adds 31 = .ok (.istore 5, 2) := by decide +kernel
theorem dX4_adds_33 : decode cX4_adds 33 = .ok (.iconst 1, 1) := by decide +kernel
theorem dX4_adds_34 : decode cX4_adds 34 = .ok (.istore 6, 2) := by decide +kernel
theorem dX4_adds_36 : decode cX4_adds 36 = .ok (.iconst 0, 1) := by decide +kernel
theorem dX4_adds_37 : decode cX4_adds 37 = .ok (.istore 7, 2) := by decide +kernel
theorem dX4_adds_39 : decode cX4_adds 39 = .ok (.iload 7, 2) := by decide +kernel
theorem dX4_adds_41 : decode cX4_adds 41 = .ok (.iconst 3, 1) := by decide +kernel
theorem dX4_adds_42 : decode cX4_adds 42 = .ok (.if_icmp .ge 80, 3) := by decide +kernel
theorem dX4_adds_45 : decode cX4_adds 45 = .ok (.aload_n 0, 1) := by decide +kernel
theorem dX4_adds_46 : decode cX4_adds 46 = .ok (.getfield 25, 3) := by decide +kernel
theorem dX4_adds_49 : decode cX4_adds 49 = .ok (.iload 7, 2) := by decide +kernel
theorem dX4_adds_51 : decode cX4_adds 51 = .ok (.iaload, 1) := by decide +kernel
theorem dX4_adds_52 : decode cX4_adds 52 = .ok (.ifCond .le 47, 3) := by decide +kernel
theorem dX4_adds_55 : decode cX4_adds 55 = .ok (.iload_n 2, 1) := by decide +kernel
theorem dX4_adds_56 : decode cX4_adds 56 = .ok (.iload 6, 2) := by decide +kernel
theorem dX4_adds_58 : decode cX4_adds 58 = .ok (.iconst 1, 1) := by decide +kernel
theorem dX4_adds_59 : decode cX4_adds 59 = .ok (.isub, 1) := by decide +kernel
theorem dX4_adds_60 : decode cX4_adds 60 = .ok (.ishr, 1) := by decide +kernel
theorem dX4_adds_61 : decode cX4_adds 61 = .ok (.iconst 1, 1) := by decide +kernel
theorem dX4_adds_62 : decode cX4_adds 62 = .ok (.iand, 1) := by decide +kernel
theorem dX4_adds_63 : decode cX4_adds 63 = .ok (.iload_n 3, 1) := by decide +kernel
theorem dX4_adds_64 : decode cX4_adds 64 = .ok (.if_icmp .eq 35, 3) := by decide +kernel
theorem dX4_adds_67 : decode cX4_adds 67 = .ok (.iload 5, 2) := by decide +kernel
theorem dX4_adds_69 : decode cX4_adds 69 = .ok (.aload_n 0, 1) := by decide +kernel
theorem dX4_adds_70 : decode cX4_adds 70 = .ok (.aload_n 0, 1) := by decide +kernel
theorem dX4_adds_71 : decode cX4_adds 71 = .ok (.getfield 19, 3) := by decide +kernel
theorem dX4_adds_74 : decode cX4_adds 74 = .ok (.bipush 6, 2) := by decide +kernel
theorem dX4_adds_76 : decode cX4_adds 76 = .ok (.iaload, 1) := by decide +kernel
theorem dX4_adds_77 : decode cX4_adds 77 = .ok (.aload_n 0, 1) := by decide +kernel
theorem dX4_adds_78 : decode cX4_adds 78 = .ok (.getfield 22, 3) := by decide +kernel
theorem dX4_adds_81 : decode cX4_adds 81 = .ok (.iload 7, 2) := by decide +kernel
theorem dX4_adds_83 : decode cX4_adds 83 = .ok (.iaload, 1) := by decide +kernel
theorem dX4_adds_84 : decode cX4_adds 84 = .ok (.aload_n 0, 1) := by decide +kernel
theorem dX4_adds_85 : decode cX4_adds 85 = .ok (.getfield 25, 3) := by decide +kernel
theorem dX4_adds_88 : decode cX4_adds 88 = .ok (.iload 7, 2) := by decide +kernel
theorem dX4_adds_90 : decode cX4_adds 90 = .ok (.iaload, 1) := by decide +kernel
theorem dX4_adds_91 : decode cX4_adds 91 = .ok (.iconst 1, 1) := by decide +kernel
theorem dX4_adds_92 : decode cX4_adds 92 = .ok (.isub, 1) := by decide +kernel
theorem dX4_adds_93 : decode cX4_adds 93 = .ok (.invokevirtual 111, 3) := by decide +kernel
theorem dX4_adds_96 : decode cX4_adds 96 = .ok (.iadd, 1) := by decide +kernel
theorem dX4_adds_97 : decode cX4_adds 97 = .ok (.istore 5, 2) := by decide +kernel
theorem dX4_adds_99 : decode cX4_adds 99 = .ok (.iload 6, 2) := by decide +kernel
theorem dX4_adds_101 : decode cX4_adds 101 = .ok (.aload_n 0, 1) := by decide +kernel
theorem dX4_adds_102 : decode cX4_adds 102 = .ok (.getfield 7, 3) := by decide +kernel
theorem dX4_adds_105 : decode cX4_adds 105 = .ok (.aload_n 0, 1) := by decide +kernel
theorem dX4_adds_106 : decode cX4_adds 106 = .ok (.getfield 22, 3) := by decide +kernel
theorem dX4_adds_109 : decode cX4_adds 109 = .ok (.iload 7, 2) := by decide +kernel
theorem dX4_adds_111 : decode cX4_adds 111 = .ok (.iaload, 1) := by decide +kernel
theorem dX4_adds_112 : decode cX4_adds 112 = .ok (.iaload, 1) := by decide +kernel
theorem dX4_adds_113 : decode cX4_adds 113 = .ok (.imul, 1) := by decide +kernel
theorem dX4_adds_114 : decode cX4_adds 114 = .ok (.istore 6, 2) := by decide +kernel
theorem dX4_adds_116 : decode cX4_adds 116 = .ok (.iinc 7 1, 3) := by decide +kernel
theorem dX4_adds_119 : decode cX4_adds 119 = .ok (.goto (-80), 3) := by decide +kernel
theorem dX4_adds_122 : decode cX4_adds 122 = .ok (.iload 5, 2) := by decide +kernel
theorem dX4_adds_124 : decode cX4_adds 124 = .ok (.ireturn, 1) := by decide +kernel
set_option maxRecDepth 20000 in
theorem ggX4_finds_X4_orders : GoodIn wsX4_finds wsX4_orders := goodIn_r _ [19, 1, 2, 51, 52, 53, 54, 55, 56, 57, 58, 59, 60, 61, 62, 63, 64, 65, 66, 67, 68, 69, 70, 71, 72] (by decide +kernel) (by decide +kernel)
set_option maxRecDepth 20000 in
theorem gX4_finds_X4_orders : GoodIn wsX4_finds (wsV RX4 130 RX4 yX4_orders wsX4_orders) := goodIn_app (goodIn_of _ (by decide +kernel)) ggX4_finds_X4_orders
set_option maxRecDepth 20000 in
theorem ggX4_finds_X4_cells : GoodIn wsX4_finds wsX4_cells := goodIn_r _ [23, 1, 51, 52, 53, 54, 55, 56, 57, 58, 59, 60, 61, 62, 63, 64, 65, 66, 67, 68, 69, 70, 71, 72] (by decide +kernel) (by decide +kernel)
set_option maxRecDepth 20000 in
theorem gX4_finds_X4_cells : GoodIn wsX4_finds (wsV RX4 70 RX4 yX4_cells wsX4_cells) := goodIn_app (goodIn_of _ (by decide +kernel)) ggX4_finds_X4_cells
set_option maxRecDepth 20000 in
theorem ggX4_finds_X4_cellAt : GoodIn wsX4_finds wsX4_cellAt := goodIn_r _ [27, 1, 2, 28, 29, 30, 31, 18, 32, 51, 52, 53, 54, 55, 56, 57, 58, 59, 60, 61, 62, 63, 64, 65, 66, 67, 68, 69, 70, 71, 72] (by decide +kernel) (by decide +kernel)
set_option maxRecDepth 20000 in
theorem gX4_finds_X4_cellAt : GoodIn wsX4_finds (wsV RX4 135 RX4 yX4_cellAt wsX4_cellAt) := goodIn_app (goodIn_of _ (by decide +kernel)) ggX4_finds_X4_cellAt
set_option maxRecDepth 20000 in
theorem ggX4_finds_X4_adds : GoodIn wsX4_finds wsX4_adds := goodIn_r _ [36, 37, 38, 28, 2, 1, 39, 40, 41, 18, 42, 43, 44, 45, 46, 47, 48, 49, 50, 51, 52, 53, 54, 55, 56, 57, 58, 59, 60, 61, 62, 63, 64, 65, 66, 67, 68, 69, 70, 71, 72] (by decide +kernel) (by decide +kernel)
set_option maxRecDepth 20000 in
theorem gX4_finds_X4_adds : GoodIn wsX4_finds (wsV RX4 140 RX4 yX4_adds wsX4_adds) := goodIn_app (goodIn_of _ (by decide +kernel)) ggX4_finds_X4_adds
theorem dX4_finds_0 : decode cX4_finds 0 = .ok (.aload_n 0, 1) := by decide +kernel
theorem dX4_finds_1 : decode cX4_finds 1 = .ok (.invokevirtual 130, 3) := by decide +kernel
theorem dX4_finds_4 : decode cX4_finds 4 = .ok (.aload_n 0, 1) := by decide +kernel
theorem dX4_finds_5 : decode cX4_finds 5 = .ok (.getfield 7, 3) := by decide +kernel
theorem dX4_finds_8 : decode cX4_finds 8 = .ok (.aload_n 0, 1) := by decide +kernel
theorem dX4_finds_9 : decode cX4_finds 9 = .ok (.getfield 22, 3) := by decide +kernel
theorem dX4_finds_12 : decode cX4_finds 12 = .ok (.iconst 0, 1) := by decide +kernel
theorem dX4_finds_13 : decode cX4_finds 13 = .ok (.iaload, 1) := by decide +kernel
theorem dX4_finds_14 : decode cX4_finds 14 = .ok (.iaload, 1) := by decide +kernel
theorem dX4_finds_15 : decode cX4_finds 15 = .ok (.aload_n 0, 1) := by decide +kernel
theorem dX4_finds_16 : decode cX4_finds 16 = .ok (.getfield 7, 3) := by decide +kernel
theorem dX4_finds_19 : decode cX4_finds 19 = .ok (.aload_n 0, 1) := by decide +kernel
theorem dX4_finds_20 : decode cX4_finds 20 = .ok (.getfield 22, 3) := by decide +kernel
theorem dX4_finds_23 : decode cX4_finds 23 = .ok (.iconst 1, 1) := by decide +kernel
theorem dX4_finds_24 : decode cX4_finds 24 = .ok (.iaload, 1) := by decide +kernel
theorem dX4_finds_25 : decode cX4_finds 25 = .ok (.iaload, 1) := by decide +kernel
theorem dX4_finds_26 : decode cX4_finds 26 = .ok (.imul, 1) := by decide +kernel
theorem dX4_finds_27 : decode cX4_finds 27 = .ok (.istore_n 3, 1) := by decide +kernel
theorem dX4_finds_28 : decode cX4_finds 28 = .ok (.iconst 1, 1) := by decide +kernel
theorem dX4_finds_29 : decode cX4_finds 29 = .ok (.iload_n 3, 1) := by decide +kernel
theorem dX4_finds_30 : decode cX4_finds 30 = .ok (.ishl, 1) := by decide +kernel
theorem dX4_finds_31 : decode cX4_finds 31 = .ok (.istore 4, 2) := by decide +kernel
theorem dX4_finds_33 : decode cX4_finds 33 = .ok (.iconst 0, 1) := by decide +kernel
theorem dX4_finds_34 : decode cX4_finds 34 = .ok (.istore 5, 2) := by decide +kernel
theorem dX4_finds_36 : decode cX4_finds 36 = .ok (.iload 5, 2) := by decide +kernel
theorem dX4_finds_38 : decode cX4_finds 38 = .ok (.iload 4, 2) := by decide +kernel
theorem dX4_finds_40 : decode cX4_finds 40 = .ok (.if_icmp .ge 53, 3) := by decide +kernel
theorem dX4_finds_43 : decode cX4_finds 43 = .ok (.aload_n 0, 1) := by decide +kernel
theorem dX4_finds_44 : decode cX4_finds 44 = .ok (.getfield 28, 3) := by decide +kernel
theorem dX4_finds_47 : decode cX4_finds 47 = .ok (.iload 5, 2) := by decide +kernel
theorem dX4_finds_49 : decode cX4_finds 49 = .ok (.iload 5, 2) := by decide +kernel
theorem dX4_finds_51 : decode cX4_finds 51 = .ok (.ifCond .ne 7, 3) := by decide +kernel
theorem dX4_finds_54 : decode cX4_finds 54 = .ok (.lconst 0, 1) := by decide +kernel
theorem dX4_finds_55 : decode cX4_finds 55 = .ok (.goto 6, 3) := by decide +kernel
theorem dX4_finds_58 : decode cX4_finds 58 = .ok (.ldc2_w 133, 3) := by decide +kernel
theorem dX4_finds_61 : decode cX4_finds 61 = .ok (.lastore, 1) := by decide +kernel
theorem dX4_finds_62 : decode cX4_finds 62 = .ok (.aload_n 0, 1) := by decide +kernel
theorem dX4_finds_63 : decode cX4_finds 63 = .ok (.getfield 32, 3) := by decide +kernel
theorem dX4_finds_66 : decode cX4_finds 66 = .ok (.iload 5, 2) := by decide +kernel
theorem dX4_finds_68 : decode cX4_finds 68 = .ok (.lconst 0, 1) := by decide +kernel
theorem dX4_finds_69 : decode cX4_finds 69 = .ok (.lastore, 1) := by decide +kernel
theorem dX4_finds_70 : decode cX4_finds 70 = .ok (.aload_n 0, 1) := by decide +kernel
theorem dX4_finds_71 : decode cX4_finds 71 = .ok (.getfield 35, 3) := by decide +kernel
theorem dX4_finds_74 : decode cX4_finds 74 = .ok (.iload 5, 2) := by decide +kernel
theorem dX4_finds_76 : decode cX4_finds 76 = .ok (.iload 5, 2) := by decide +kernel
theorem dX4_finds_78 : decode cX4_finds 78 = .ok (.ifCond .ne 7, 3) := by decide +kernel
theorem dX4_finds_81 : decode cX4_finds 81 = .ok (.lconst 1, 1) := by decide +kernel
theorem dX4_finds_82 : decode cX4_finds 82 = .ok (.goto 4, 3) := by decide +kernel
theorem dX4_finds_85 : decode cX4_finds 85 = .ok (.lconst 0, 1) := by decide +kernel
theorem dX4_finds_86 : decode cX4_finds 86 = .ok (.lastore, 1) := by decide +kernel
theorem dX4_finds_87 : decode cX4_finds 87 = .ok (.iinc 5 1, 3) := by decide +kernel
theorem dX4_finds_90 : decode cX4_finds 90 = .ok (.goto (-54), 3) := by decide +kernel
theorem dX4_finds_93 : decode cX4_finds 93 = .ok (.iconst 0, 1) := by decide +kernel
theorem dX4_finds_94 : decode cX4_finds 94 = .ok (.istore 5, 2) := by decide +kernel
theorem dX4_finds_96 : decode cX4_finds 96 = .ok (.iload 5, 2) := by decide +kernel
theorem dX4_finds_98 : decode cX4_finds 98 = .ok (.aload_n 0, 1) := by decide +kernel
theorem dX4_finds_99 : decode cX4_finds 99 = .ok (.invokevirtual 70, 3) := by decide +kernel
theorem dX4_finds_102 : decode cX4_finds 102 = .ok (.if_icmp .ge 306, 3) := by decide +kernel
theorem dX4_finds_105 : decode cX4_finds 105 = .ok (.aload_n 0, 1) := by decide +kernel
theorem dX4_finds_106 : decode cX4_finds 106 = .ok (.iload 5, 2) := by decide +kernel
theorem dX4_finds_108 : decode cX4_finds 108 = .ok (.invokevirtual 135, 3) := by decide +kernel
theorem dX4_finds_111 : decode cX4_finds 111 = .ok (.istore 6, 2) := by decide +kernel
theorem dX4_finds_113 : decode cX4_finds 113 = .ok (.iconst 0, 1) := by decide +kernel
theorem dX4_finds_114 : decode cX4_finds 114 = .ok (.istore 7, 2) := by decide +kernel
theorem dX4_finds_116 : decode cX4_finds 116 = .ok (.iload 7, 2) := by decide +kernel
theorem dX4_finds_118 : decode cX4_finds 118 = .ok (.iload 4, 2) := by decide +kernel
theorem dX4_finds_120 : decode cX4_finds 120 = .ok (.if_icmp .ge 27, 3) := by decide +kernel
theorem dX4_finds_123 : decode cX4_finds 123 = .ok (.aload_n 0, 1) := by decide +kernel
theorem dX4_finds_124 : decode cX4_finds 124 = .ok (.getfield 38, 3) := by decide +kernel
theorem dX4_finds_127 : decode cX4_finds 127 = .ok (.iload 7, 2) := by decide +kernel
theorem dX4_finds_129 : decode cX4_finds 129 = .ok (.ldc2_w 133, 3) := by decide +kernel
theorem dX4_finds_132 : decode cX4_finds 132 = .ok (.lastore, 1) := by decide +kernel
theorem dX4_finds_133 : decode cX4_finds 133 = .ok (.aload_n 0, 1) := by decide +kernel
theorem dX4_finds_134 : decode cX4_finds 134 = .ok (.getfield 44, 3) := by decide +kernel
theorem dX4_finds_137 : decode cX4_finds 137 = .ok (.iload 7, 2) := by decide +kernel
theorem dX4_finds_139 : decode cX4_finds 139 = .ok (.lconst 0, 1) := by decide +kernel
theorem dX4_finds_140 : decode cX4_finds 140 = .ok (.lastore, 1) := by decide +kernel
theorem dX4_finds_141 : decode cX4_finds 141 = .ok (.iinc 7 1, 3) := by decide +kernel
theorem dX4_finds_144 : decode cX4_finds 144 = .ok (.goto (-28), 3) := by decide +kernel
theorem dX4_finds_147 : decode cX4_finds 147 = .ok (.iconst 0, 1) := by decide +kernel
theorem dX4_finds_148 : decode cX4_finds 148 = .ok (.istore 7, 2) := by decide +kernel
theorem dX4_finds_150 : decode cX4_finds 150 = .ok (.iload 7, 2) := by decide +kernel
theorem dX4_finds_152 : decode cX4_finds 152 = .ok (.iload 4, 2) := by decide +kernel
theorem dX4_finds_154 : decode cX4_finds 154 = .ok (.if_icmp .ge 190, 3) := by decide +kernel
theorem dX4_finds_157 : decode cX4_finds 157 = .ok (.iconst 0, 1) := by decide +kernel
theorem dX4_finds_158 : decode cX4_finds 158 = .ok (.istore 8, 2) := by decide +kernel
theorem dX4_finds_160 : decode cX4_finds 160 = .ok (.iload 8, 2) := by decide +kernel
theorem dX4_finds_162 : decode cX4_finds 162 = .ok (.iconst 2, 1) := by decide +kernel
theorem dX4_finds_163 : decode cX4_finds 163 = .ok (.if_icmp .ge 175, 3) := by decide +kernel
theorem dX4_finds_166 : decode cX4_finds 166 = .ok (.aload_n 0, 1) := by decide +kernel
theorem dX4_finds_167 : decode cX4_finds 167 = .ok (.getfield 28, 3) := by decide +kernel
theorem dX4_finds_170 : decode cX4_finds 170 = .ok (.iload 7, 2) := by decide +kernel
theorem dX4_finds_172 : decode cX4_finds 172 = .ok (.laload, 1) := by decide +kernel
theorem dX4_finds_173 : decode cX4_finds 173 = .ok (.ldc2_w 133, 3) := by decide +kernel
theorem dX4_finds_176 : decode cX4_finds 176 = .ok (.lcmp, 1) := by decide +kernel
theorem dX4_finds_177 : decode cX4_finds 177 = .ok (.ifCond .ge 155, 3) := by decide +kernel
theorem dX4_finds_180 : decode cX4_finds 180 = .ok (.aload_n 0, 1) := by decide +kernel
theorem dX4_finds_181 : decode cX4_finds 181 = .ok (.getfield 13, 3) := by decide +kernel
theorem dX4_finds_184 : decode cX4_finds 184 = .ok (.iload 6, 2) := by decide +kernel
theorem dX4_finds_186 : decode cX4_finds 186 = .ok (.iaload, 1) := by decide +kernel
theorem dX4_finds_187 : decode cX4_finds 187 = .ok (.iconst 1, 1) := by decide +kernel
theorem dX4_finds_188 : decode cX4_finds 188 = .ok (.iload 8, 2) := by decide +kernel
theorem dX4_finds_190 : decode cX4_finds 190 = .ok (.iadd, 1) := by decide +kernel
theorem dX4_finds_191 : decode cX4_finds 191 = .ok (.if_icmp .eq 141, 3) := by decide +kernel
theorem dX4_finds_194 : decode cX4_finds 194 = .ok (.iload 7, 2) := by decide +kernel
theorem dX4_finds_196 : decode cX4_finds 196 = .ok (.iconst 1, 1) := by decide +kernel
theorem dX4_finds_197 : decode cX4_finds 197 = .ok (.ishl, 1) := by decide +kernel
theorem dX4_finds_198 : decode cX4_finds 198 = .ok (.iload 8, 2) := by decide +kernel
theorem dX4_finds_200 : decode cX4_finds 200 = .ok (.ior, 1) := by decide +kernel
theorem dX4_finds_201 : decode cX4_finds 201 = .ok (.iload 4, 2) := by decide +kernel
theorem dX4_finds_203 : decode cX4_finds 203 = .ok (.iconst 1, 1) := by decide +kernel
theorem dX4_finds_204 : decode cX4_finds 204 = .ok (.isub, 1) := by decide +kernel
theorem dX4_finds_205 : decode cX4_finds 205 = .ok (.iand, 1) := by decide +kernel
theorem dX4_finds_206 : decode cX4_finds 206 = .ok (.istore 9, 2) := by decide +kernel
theorem dX4_finds_208 : decode cX4_finds 208 = .ok (.aload_n 0, 1) := by decide +kernel
theorem dX4_finds_209 : decode cX4_finds 209 = .ok (.getfield 28, 3) := by decide +kernel
theorem dX4_finds_212 : decode cX4_finds 212 = .ok (.iload 7, 2) := by decide +kernel
theorem dX4_finds_214 : decode cX4_finds 214 = .ok (.laload, 1) := by decide +kernel
theorem dX4_finds_215 : decode cX4_finds 215 = .ok (.ldc2_w 138, 3) := by decide +kernel
theorem dX4_finds_218 : decode cX4_finds 218 = .ok (.aload_n 0, 1) := by decide +kernel
theorem dX4_finds_219 : decode cX4_finds 219 = .ok (.iload 6, 2) := by decide +kernel
theorem dX4_finds_221 : decode cX4_finds 221 = .ok (.iload 7, 2) := by decide +kernel
theorem dX4_finds_223 : decode cX4_finds 223 = .ok (.iload 8, 2) := by decide +kernel
theorem dX4_finds_225 : decode cX4_finds 225 = .ok (.iload_n 1, 1) := by decide +kernel
theorem dX4_finds_226 : decode cX4_finds 226 = .ok (.invokevirtual 140, 3) := by decide +kernel
theorem dX4_finds_229 : decode cX4_finds 229 = .ok (.i2l, 1) := by decide +kernel
theorem dX4_finds_230 : decode cX4_finds 230 = .ok (.lmul, 1) := by decide +kernel
theorem dX4_finds_231 : decode cX4_finds 231 = .ok (.ladd, 1) := by decide +kernel
theorem dX4_finds_232 : decode cX4_finds 232 = .ok (.iload 8, 2) := by decide +kernel
theorem dX4_finds_234 : decode cX4_finds 234 = .ok (.iconst 1, 1) := by decide +kernel
theorem dX4_finds_235 : decode cX4_finds 235 = .ok (.if_icmp .ne 7, 3) := by decide +kernel
theorem dX4_finds_238 : decode cX4_finds 238 = .ok (.iload_n 2, 1) := by decide +kernel
theorem dX4_finds_239 : decode cX4_finds 239 = .ok (.goto 4, 3) := by decide +kernel
theorem dX4_finds_242 : decode cX4_finds 242 = .ok (.iconst 0, 1) := by decide +kernel
theorem dX4_finds_243 : decode cX4_finds 243 = .ok (.i2l, 1) := by decide +kernel
theorem dX4_finds_244 : decode cX4_finds 244 = .ok (.ladd, 1) := by decide +kernel
theorem dX4_finds_245 : decode cX4_finds 245 = .ok (.lstore 10, 2) := by decide +kernel
theorem dX4_finds_247 : decode cX4_finds 247 = .ok (.lload 10, 2) := by decide +kernel
theorem dX4_finds_249 : decode cX4_finds 249 = .ok (.aload_n 0, 1) := by decide +kernel
theorem dX4_finds_250 : decode cX4_finds 250 = .ok (.getfield 38, 3) := by decide +kernel
theorem dX4_finds_253 : decode cX4_finds 253 = .ok (.iload 9, 2) := by decide +kernel
theorem dX4_finds_255 : decode cX4_finds 255 = .ok (.laload, 1) := by decide +kernel
theorem dX4_finds_256 : decode cX4_finds 256 = .ok (.lcmp, 1) := by decide +kernel
theorem dX4_finds_257 : decode cX4_finds 257 = .ok (.ifCond .ge 41, 3) := by decide +kernel
theorem dX4_finds_260 : decode cX4_finds 260 = .ok (.aload_n 0, 1) := by decide +kernel
theorem dX4_finds_261 : decode cX4_finds 261 = .ok (.getfield 38, 3) := by decide +kernel
theorem dX4_finds_264 : decode cX4_finds 264 = .ok (.iload 9, 2) := by decide +kernel
theorem dX4_finds_266 : decode cX4_finds 266 = .ok (.lload 10, 2) := by decide +kernel
theorem dX4_finds_268 : decode cX4_finds 268 = .ok (.lastore, 1) := by decide +kernel
theorem dX4_finds_269 : decode cX4_finds 269 = .ok (.aload_n 0, 1) := by decide +kernel
theorem dX4_finds_270 : decode cX4_finds 270 = .ok (.getfield 41, 3) := by decide +kernel
theorem dX4_finds_273 : decode cX4_finds 273 = .ok (.iload 9, 2) := by decide +kernel
theorem dX4_finds_275 : decode cX4_finds 275 = .ok (.aload_n 0, 1) := by decide +kernel
theorem dX4_finds_276 : decode cX4_finds 276 = .ok (.getfield 32, 3) := by decide +kernel
theorem dX4_finds_279 : decode cX4_finds 279 = .ok (.iload 7, 2) := by decide +kernel
theorem dX4_finds_281 : decode cX4_finds 281 = .ok (.laload, 1) := by decide +kernel
theorem dX4_finds_282 : decode cX4_finds 282 = .ok (.iload 8, 2) := by decide +kernel
theorem dX4_finds_284 : decode cX4_finds 284 = .ok (.i2l, 1) := by decide +kernel
theorem dX4_finds_285 : decode cX4_finds 285 = .ok (.iload 6, 2) := by decide +kernel
theorem dX4_finds_287 : decode cX4_finds 287 = .ok (.lshl, 1) := by decide +kernel
theorem dX4_finds_288 : decode cX4_finds 288 = .ok (.lor, 1) := by decide +kernel
theorem dX4_finds_289 : decode cX4_finds 289 = .ok (.lastore, 1) := by decide +kernel
theorem dX4_finds_290 : decode cX4_finds 290 = .ok (.aload_n 0, 1) := by decide +kernel
theorem dX4_finds_291 : decode cX4_finds 291 = .ok (.getfield 44, 3) := by decide +kernel
theorem dX4_finds_294 : decode cX4_finds 294 = .ok (.iload 9, 2) := by decide +kernel
theorem dX4_finds_296 : decode cX4_finds 296 = .ok (.lconst 0, 1) := by decide +kernel
theorem dX4_finds_297 : decode cX4_finds 297 = .ok (.lastore, 1) := by decide +kernel
theorem dX4_finds_298 : decode cX4_finds 298 = .ok (.aload_n 0, 1) := by decide +kernel
theorem dX4_finds_299 : decode cX4_finds 299 = .ok (.getfield 44, 3) := by decide +kernel
theorem dX4_finds_302 : decode cX4_finds 302 = .ok (.iload 9, 2) := by decide +kernel
theorem dX4_finds_304 : decode cX4_finds 304 = .ok (.dup2, 1) := by decide +kernel
theorem dX4_finds_305 : decode cX4_finds 305 = .ok (.laload, 1) := by decide +kernel
theorem dX4_finds_306 : decode cX4_finds 306 = .ok (.lload 10, 2) := by decide +kernel
theorem dX4_finds_308 : decode cX4_finds 308 = .ok (.aload_n 0, 1) := by decide +kernel
theorem dX4_finds_309 : decode cX4_finds 309 = .ok (.getfield 38, 3) := by decide +kernel
theorem dX4_finds_312 : decode cX4_finds 312 = .ok (.iload 9, 2) := by decide +kernel
theorem dX4_finds_314 : decode cX4_finds 314 = .ok (.laload, 1) := by decide +kernel
theorem dX4_finds_315 : decode cX4_finds 315 = .ok (.lcmp, 1) := by decide +kernel
theorem dX4_finds_316 : decode cX4_finds 316 = .ok (.ifCond .ne 13, 3) := by decide +kernel
theorem dX4_finds_319 : decode cX4_finds 319 = .ok (.aload_n 0, 1) := by decide +kernel
theorem dX4_finds_320 : decode cX4_finds 320 = .ok (.getfield 35, 3) := by decide +kernel
theorem dX4_finds_323 : decode cX4_finds 323 = .ok (.iload 7, 2) := by decide +kernel
theorem dX4_finds_325 : decode cX4_finds 325 = .ok (.laload, 1) := by decide +kernel
theorem dX4_finds_326 : decode cX4_finds 326 = .ok (.goto 4, 3) := by decide +kernel
theorem dX4_finds_329 : decode cX4_finds 329 = .ok (.lconst 0, 1) := by decide +kernel
theorem dX4_finds_330 : decode cX4_finds 330 = .ok (.ladd, 1) := by decide +kernel
theorem dX4_finds_331 : decode cX4_finds 331 = .ok (.lastore, 1) := by decide +kernel
theorem dX4_finds_332 : decode cX4_finds 332 = .ok (.iinc 8 1, 3) := by decide +kernel
theorem dX4_finds_335 : decode cX4_finds 335 = .ok (.goto (-175), 3) := by decide +kernel
theorem dX4_finds_338 : decode cX4_finds 338 = .ok (.iinc 7 1, 3) := by decide +kernel
theorem dX4_finds_341 : decode cX4_finds 341 = .ok (.goto (-191), 3) := by decide +kernel
theorem dX4_finds_344 : decode cX4_finds 344 = .ok (.iconst 0, 1) := by decide +kernel
theorem dX4_finds_345 : decode cX4_finds 345 = .ok (.istore 7, 2) := by decide +kernel
theorem dX4_finds_347 : decode cX4_finds 347 = .ok (.iload 7, 2) := by decide +kernel
theorem dX4_finds_349 : decode cX4_finds 349 = .ok (.iload 4, 2) := by decide +kernel
theorem dX4_finds_351 : decode cX4_finds 351 = .ok (.if_icmp .ge 51, 3) := by decide +kernel
theorem dX4_finds_354 : decode cX4_finds 354 = .ok (.aload_n 0, 1) := by decide +kernel
theorem dX4_finds_355 : decode cX4_finds 355 = .ok (.getfield 28, 3) := by decide +kernel
theorem dX4_finds_358 : decode cX4_finds 358 = .ok (.iload 7, 2) := by decide +kernel
theorem dX4_finds_360 : decode cX4_finds 360 = .ok (.aload_n 0, 1) := by decide +kernel
theorem dX4_finds_361 : decode cX4_finds 361 = .ok (.getfield 38, 3) := by decide +kernel
theorem dX4_finds_364 : decode cX4_finds 364 = .ok (.iload 7, 2) := by decide +kernel
theorem dX4_finds_366 : decode cX4_finds 366 = .ok (.laload, 1) := by decide +kernel
theorem dX4_finds_367 : decode cX4_finds 367 = .ok (.lastore, 1) := by decide +kernel
theorem dX4_finds_368 : decode cX4_finds 368 = .ok (.aload_n 0, 1) := by decide +kernel
theorem dX4_finds_369 : decode cX4_finds 369 = .ok (.getfield 32, 3) := by decide +kernel
theorem dX4_finds_372 : decode cX4_finds 372 = .ok (.iload 7, 2) := by decide +kernel
theorem dX4_finds_374 : decode cX4_finds 374 = .ok (.aload_n 0, 1) := by decide +kernel
theorem dX4_finds_375 : decode cX4_finds 375 = .ok (.getfield 41, 3) := by decide +kernel
theorem dX4_finds_378 : decode cX4_finds 378 = .ok (.iload 7, 2) := by decide +kernel
theorem dX4_finds_380 : decode cX4_finds 380 = .ok (.laload, 1) := by decide +kernel
theorem dX4_finds_381 : decode cX4_finds 381 = .ok (.lastore, 1) := by decide +kernel
theorem dX4_finds_382 : decode cX4_finds 382 = .ok (.aload_n 0, 1) := by decide +kernel
theorem dX4_finds_383 : decode cX4_finds 383 = .ok (.getfield 35, 3) := by decide +kernel
theorem dX4_finds_386 : decode cX4_finds 386 = .ok (.iload 7, 2) := by decide +kernel
theorem dX4_finds_388 : decode cX4_finds 388 = .ok (.aload_n 0, 1) := by decide +kernel
theorem dX4_finds_389 : decode cX4_finds 389 = .ok (.getfield 44, 3) := by decide +kernel
theorem dX4_finds_392 : decode cX4_finds 392 = .ok (.iload 7, 2) := by decide +kernel
theorem dX4_finds_394 : decode cX4_finds 394 = .ok (.laload, 1) := by decide +kernel
theorem dX4_finds_395 : decode cX4_finds 395 = .ok (.lastore, 1) := by decide +kernel
theorem dX4_finds_396 : decode cX4_finds 396 = .ok (.iinc 7 1, 3) := by decide +kernel
theorem dX4_finds_399 : decode cX4_finds 399 = .ok (.goto (-52), 3) := by decide +kernel
theorem dX4_finds_402 : decode cX4_finds 402 = .ok (.iinc 5 1, 3) := by decide +kernel
theorem dX4_finds_405 : decode cX4_finds 405 = .ok (.goto (-309), 3) := by decide +kernel
theorem dX4_finds_408 : decode cX4_finds 408 = .ok (.aload_n 0, 1) := by decide +kernel
theorem dX4_finds_409 : decode cX4_finds 409 = .ok (.ldc2_w 133, 3) := by decide +kernel
theorem dX4_finds_412 : decode cX4_finds 412 = .ok (.putfield 144, 3) := by decide +kernel
theorem dX4_finds_415 : decode cX4_finds 415 = .ok (.aload_n 0, 1) := by decide +kernel
theorem dX4_finds_416 : decode cX4_finds 416 = .ok (.lconst 0, 1) := by decide +kernel
theorem dX4_finds_417 : decode cX4_finds 417 = .ok (.putfield 147, 3) := by decide +kernel
theorem dX4_finds_420 : decode cX4_finds 420 = .ok (.iconst 0, 1) := by decide +kernel
theorem dX4_finds_421 : decode cX4_finds 421 = .ok (.istore 5, 2) := by decide +kernel
theorem dX4_finds_423 : decode cX4_finds 423 = .ok (.iload 5, 2) := by decide +kernel
theorem dX4_finds_425 : decode cX4_finds 425 = .ok (.iload 4, 2) := by decide +kernel
theorem dX4_finds_427 : decode cX4_finds 427 = .ok (.if_icmp .ge 97, 3) := by decide +kernel
theorem dX4_finds_430 : decode cX4_finds 430 = .ok (.aload_n 0, 1) := by decide +kernel
theorem dX4_finds_431 : decode cX4_finds 431 = .ok (.getfield 28, 3) := by decide +kernel
theorem dX4_finds_434 : decode cX4_finds 434 = .ok (.iload 5, 2) := by decide +kernel
theorem dX4_finds_436 : decode cX4_finds 436 = .ok (.laload, 1) := by decide +kernel
theorem dX4_finds_437 : decode cX4_finds 437 = .ok (.aload_n 0, 1) := by decide +kernel
theorem dX4_finds_438 : decode cX4_finds 438 = .ok (.getfield 144, 3) := by decide +kernel
theorem dX4_finds_441 : decode cX4_finds 441 = .ok (.lcmp, 1) := by decide +kernel
theorem dX4_finds_442 : decode cX4_finds 442 = .ok (.ifCond .ge 30, 3) := by decide +kernel
theorem dX4_finds_445 : decode cX4_finds 445 = .ok (.aload_n 0, 1) := by decide +kernel
theorem dX4_finds_446 : decode cX4_finds 446 = .ok (.aload_n 0, 1) := by decide +kernel
theorem dX4_finds_447 : decode cX4_finds 447 = .ok (.getfield 28, 3) := by decide +kernel
theorem dX4_finds_450 : decode cX4_finds 450 = .ok (.iload 5, 2) := by decide +kernel
theorem dX4_finds_452 : decode cX4_finds 452 = .ok (.laload, 1) := by decide +kernel
theorem dX4_finds_453 : decode cX4_finds 453 = .ok (.putfield 144, 3) := by decide +kernel
theorem dX4_finds_456 : decode cX4_finds 456 = .ok (.aload_n 0, 1) := by decide +kernel
theorem dX4_finds_457 : decode cX4_finds 457 = .ok (.aload_n 0, 1) := by decide +kernel
theorem dX4_finds_458 : decode cX4_finds 458 = .ok (.getfield 32, 3) := by decide +kernel
theorem dX4_finds_461 : decode cX4_finds 461 = .ok (.iload 5, 2) := by decide +kernel
theorem dX4_finds_463 : decode cX4_finds 463 = .ok (.laload, 1) := by decide +kernel
theorem dX4_finds_464 : decode cX4_finds 464 = .ok (.putfield 150, 3) := by decide +kernel
theorem dX4_finds_467 : decode cX4_finds 467 = .ok (.aload_n 0, 1) := by decide +kernel
theorem dX4_finds_468 : decode cX4_finds 468 = .ok (.lconst 0, 1) := by decide +kernel
theorem dX4_finds_469 : decode cX4_finds 469 = .ok (.putfield 147, 3) := by decide +kernel
theorem dX4_finds_472 : decode cX4_finds 472 = .ok (.aload_n 0, 1) := by decide +kernel
theorem dX4_finds_473 : decode cX4_finds 473 = .ok (.dup, 1) := by decide +kernel
theorem dX4_finds_474 : decode cX4_finds 474 = .ok (.getfield 147, 3) := by decide +kernel
theorem dX4_finds_477 : decode cX4_finds 477 = .ok (.aload_n 0, 1) := by decide +kernel
theorem dX4_finds_478 : decode cX4_finds 478 = .ok (.getfield 28, 3) := by decide +kernel
theorem dX4_finds_481 : decode cX4_finds 481 = .ok (.iload 5, 2) := by decide +kernel
theorem dX4_finds_483 : decode cX4_finds 483 = .ok (.laload, 1) := by decide +kernel
theorem dX4_finds_484 : decode cX4_finds 484 = .ok (.aload_n 0, 1) := by decide +kernel
theorem dX4_finds_485 : decode cX4_finds 485 = .ok (.getfield 144, 3) := by decide +kernel
theorem dX4_finds_488 : decode cX4_finds 488 = .ok (.lcmp, 1) := by decide +kernel
theorem dX4_finds_489 : decode cX4_finds 489 = .ok (.ifCond .ne 24, 3) := by decide +kernel
theorem dX4_finds_492 : decode cX4_finds 492 = .ok (.aload_n 0, 1) := by decide +kernel
theorem dX4_finds_493 : decode cX4_finds 493 = .ok (.getfield 144, 3) := by decide +kernel
theorem dX4_finds_496 : decode cX4_finds 496 = .ok (.ldc2_w 133, 3) := by decide +kernel
theorem dX4_finds_499 : decode cX4_finds 499 = .ok (.lcmp, 1) := by decide +kernel
theorem dX4_finds_500 : decode cX4_finds 500 = .ok (.ifCond .ge 13, 3) := by decide +kernel
theorem dX4_finds_503 : decode cX4_finds 503 = .ok (.aload_n 0, 1) := by decide +kernel
theorem dX4_finds_504 : decode cX4_finds 504 = .ok (.getfield 35, 3) := by decide +kernel
theorem dX4_finds_507 : decode cX4_finds 507 = .ok (.iload 5, 2) := by decide +kernel
theorem dX4_finds_509 : decode cX4_finds 509 = .ok (.laload, 1) := by decide +kernel
theorem dX4_finds_510 : decode cX4_finds 510 = .ok (.goto 4, 3) := by decide +kernel
theorem dX4_finds_513 : decode cX4_finds 513 = .ok (.lconst 0, 1) := by decide +kernel
theorem dX4_finds_514 : decode cX4_finds 514 = .ok (.ladd, 1) := by decide +kernel
theorem dX4_finds_515 : decode cX4_finds 515 = .ok (.putfield 147, 3) := by decide +kernel
theorem dX4_finds_518 : decode cX4_finds 518 = .ok (.iinc 5 1, 3) := by decide +kernel
theorem dX4_finds_521 : decode cX4_finds 521 = .ok (.goto (-98), 3) := by decide +kernel
theorem dX4_finds_524 : decode cX4_finds 524 = .ok (.return_, 1) := by decide +kernel
set_option maxRecDepth 20000 in
theorem ggX4_least_X4_finds : GoodIn wsX4_least wsX4_finds := goodIn_r _ [8, 9, 10, 11, 12, 13, 14, 15, 16, 17, 3, 18, 2, 19, 20, 21, 22, 23, 7, 24, 25, 26, 27, 28, 29, 30, 31, 32, 33, 34, 35, 36, 37, 38, 39, 40, 41, 42, 43, 44, 45, 46, 47, 48, 49, 50, 51, 52, 53, 54, 55, 56, 57, 58, 59, 60, 61, 62, 63, 64, 65, 66, 67, 68, 69, 70, 71, 72, 73, 74, 75, 76, 77] (by decide +kernel) (by decide +kernel)
set_option maxRecDepth 20000 in
theorem gX4_least_X4_finds : GoodIn wsX4_least (wsV RX4 153 RX4 yX4_finds wsX4_finds) := goodIn_app (goodIn_of _ (by decide +kernel)) ggX4_least_X4_finds
theorem dX4_least_0 : decode cX4_least 0 = .ok (.aload_n 0, 1) := by decide +kernel
theorem dX4_least_1 : decode cX4_least 1 = .ok (.iconst 0, 1) := by decide +kernel
theorem dX4_least_2 : decode cX4_least 2 = .ok (.putfield 67, 3) := by decide +kernel
theorem dX4_least_5 : decode cX4_least 5 = .ok (.aload_n 0, 1) := by decide +kernel
theorem dX4_least_6 : decode cX4_least 6 = .ok (.iconst 0, 1) := by decide +kernel
theorem dX4_least_7 : decode cX4_least 7 = .ok (.iconst 0, 1) := by decide +kernel
theorem dX4_least_8 : decode cX4_least 8 = .ok (.invokevirtual 153, 3) := by decide +kernel
theorem dX4_least_11 : decode cX4_least 11 = .ok (.aload_n 0, 1) := by decide +kernel
theorem dX4_least_12 : decode cX4_least 12 = .ok (.getfield 144, 3) := by decide +kernel
theorem dX4_least_15 : decode cX4_least 15 = .ok (.ldc2_w 138, 3) := by decide +kernel
theorem dX4_least_18 : decode cX4_least 18 = .ok (.ldiv, 1) := by decide +kernel
theorem dX4_least_19 : decode cX4_least 19 = .ok (.lreturn, 1) := by decide +kernel
set_option maxRecDepth 20000 in
theorem ggX4_film_X4_in : GoodIn wsX4_film wsX4_in := goodIn_r _ [7] (by decide +kernel) (by decide +kernel)
set_option maxRecDepth 20000 in
theorem gX4_film_X4_in : GoodIn wsX4_film (va_wsS RX4 74 yX4_in wsX4_in) := goodIn_app (goodIn_of _ (by decide +kernel)) ggX4_film_X4_in
set_option maxRecDepth 20000 in
theorem ggX4_film_X4_finds : GoodIn wsX4_film wsX4_finds := goodIn_r _ [11, 12, 13, 14, 15, 16, 17, 18, 19, 20, 21, 22, 23, 24, 3, 25, 26, 27, 6, 28, 29, 30, 31, 32, 33, 34, 35, 36, 37, 38, 39, 40, 41, 42, 43, 44, 45, 46, 47, 48, 49, 50, 51, 52, 53, 54, 55, 56, 57, 58, 59, 60, 61, 62, 63, 64, 65, 66, 67, 68, 69, 70, 71, 72, 73, 74, 75, 76, 77, 78, 79, 80, 81] (by decide +kernel) (by decide +kernel)
set_option maxRecDepth 20000 in
theorem gX4_film_X4_finds : GoodIn wsX4_film (wsV RX4 153 RX4 yX4_finds wsX4_finds) := goodIn_app (goodIn_of _ (by decide +kernel)) ggX4_film_X4_finds
theorem dX4_film_0 : decode cX4_film 0 = .ok (.aload_n 0, 1) := by decide +kernel
theorem dX4_film_1 : decode cX4_film 1 = .ok (.iconst 0, 1) := by decide +kernel
theorem dX4_film_2 : decode cX4_film 2 = .ok (.putfield 67, 3) := by decide +kernel
theorem dX4_film_5 : decode cX4_film 5 = .ok (.iload_n 1, 1) := by decide +kernel
theorem dX4_film_6 : decode cX4_film 6 = .ok (.i2l, 1) := by decide +kernel
theorem dX4_film_7 : decode cX4_film 7 = .ok (.lconst 0, 1) := by decide +kernel
theorem dX4_film_8 : decode cX4_film 8 = .ok (.lconst 1, 1) := by decide +kernel
theorem dX4_film_9 : decode cX4_film 9 = .ok (.invokestatic 74, 3) := by decide +kernel
theorem dX4_film_12 : decode cX4_film 12 = .ok (.ifCond .ne 7, 3) := by decide +kernel
theorem dX4_film_15 : decode cX4_film 15 = .ok (.ldc2_w 126, 3) := by decide +kernel
theorem dX4_film_18 : decode cX4_film 18 = .ok (.lreturn, 1) := by decide +kernel
theorem dX4_film_19 : decode cX4_film 19 = .ok (.aload_n 0, 1) := by decide +kernel
theorem dX4_film_20 : decode cX4_film 20 = .ok (.iconst 0, 1) := by decide +kernel
theorem dX4_film_21 : decode cX4_film 21 = .ok (.iload_n 1, 1) := by decide +kernel
theorem dX4_film_22 : decode cX4_film 22 = .ok (.ifCond .ne 7, 3) := by decide +kernel
theorem dX4_film_25 : decode cX4_film 25 = .ok (.iconst 1, 1) := by decide +kernel
theorem dX4_film_26 : decode cX4_film 26 = .ok (.goto 4, 3) := by decide +kernel
theorem dX4_film_29 : decode cX4_film 29 = .ok (.iconst (-1), 1) := by decide +kernel
theorem dX4_film_30 : decode cX4_film 30 = .ok (.invokevirtual 153, 3) := by decide +kernel
theorem dX4_film_33 : decode cX4_film 33 = .ok (.aload_n 0, 1) := by decide +kernel
theorem dX4_film_34 : decode cX4_film 34 = .ok (.getfield 150, 3) := by decide +kernel
theorem dX4_film_37 : decode cX4_film 37 = .ok (.lreturn, 1) := by decide +kernel
set_option maxRecDepth 20000 in
theorem ggX4_room_X4_in : GoodIn wsX4_room wsX4_in := goodIn_r _ [8] (by decide +kernel) (by decide +kernel)
set_option maxRecDepth 20000 in
theorem gX4_room_X4_in : GoodIn wsX4_room (va_wsS RX4 74 yX4_in wsX4_in) := goodIn_app (goodIn_of _ (by decide +kernel)) ggX4_room_X4_in
set_option maxRecDepth 20000 in
theorem ggX4_room_X4_finds : GoodIn wsX4_room wsX4_finds := goodIn_r _ [12, 13, 14, 15, 16, 17, 18, 19, 20, 21, 22, 23, 24, 25, 4, 26, 27, 28, 7, 29, 30, 31, 32, 33, 34, 35, 36, 37, 38, 39, 40, 41, 42, 43, 44, 45, 46, 47, 48, 49, 50, 51, 52, 53, 54, 55, 56, 57, 58, 59, 60, 61, 62, 63, 64, 65, 66, 67, 68, 69, 70, 71, 72, 73, 74, 75, 76, 77, 78, 79, 80, 81, 82] (by decide +kernel) (by decide +kernel)
set_option maxRecDepth 20000 in
theorem gX4_room_X4_finds : GoodIn wsX4_room (wsV RX4 153 RX4 yX4_finds wsX4_finds) := goodIn_app (goodIn_of _ (by decide +kernel)) ggX4_room_X4_finds
set_option maxRecDepth 20000 in
theorem ggX4_room_X4_cells : GoodIn wsX4_room wsX4_cells := goodIn_r _ [33, 13, 61, 62, 63, 64, 65, 66, 67, 68, 69, 70, 71, 72, 73, 74, 75, 76, 77, 78, 79, 80, 81, 82] (by decide +kernel) (by decide +kernel)
set_option maxRecDepth 20000 in
theorem gX4_room_X4_cells : GoodIn wsX4_room (wsV RX4 70 RX4 yX4_cells wsX4_cells) := goodIn_app (goodIn_of _ (by decide +kernel)) ggX4_room_X4_cells
theorem dX4_room_0 : decode cX4_room 0 = .ok (.aload_n 0, 1) := by decide +kernel
theorem dX4_room_1 : decode cX4_room 1 = .ok (.iconst 0, 1) := by decide +kernel
theorem dX4_room_2 : decode cX4_room 2 = .ok (.putfield 67, 3) := by decide +kernel
theorem dX4_room_5 : decode cX4_room 5 = .ok (.iload_n 1, 1) := by decide +kernel
theorem dX4_room_6 : decode cX4_room 6 = .ok (.i2l, 1) := by decide +kernel
theorem dX4_room_7 : decode cX4_room 7 = .ok (.ldc2_w 157, 3) := by decide +kernel
theorem dX4_room_10 : decode cX4_room 10 = .ok (.ldc2_w 159, 3) := by decide +kernel
theorem dX4_room_13 : decode cX4_room 13 = .ok (.invokestatic 74, 3) := by decide +kernel
theorem dX4_room_16 : decode cX4_room 16 = .ok (.ifCond .eq 13, 3) := by decide +kernel
theorem dX4_room_19 : decode cX4_room 19 = .ok (.iload_n 2, 1) := by decide +kernel
theorem dX4_room_20 : decode cX4_room 20 = .ok (.i2l, 1) := by decide +kernel
theorem dX4_room_21 : decode cX4_room 21 = .ok (.lconst 0, 1) := by decide +kernel
theorem dX4_room_22 : decode cX4_room 22 = .ok (.lconst 1, 1) := by decide +kernel
theorem dX4_room_23 : decode cX4_room 23 = .ok (.invokestatic 74, 3) := by decide +kernel
theorem dX4_room_26 : decode cX4_room 26 = .ok (.ifCond .ne 5, 3) := by decide +kernel
theorem dX4_room_29 : decode cX4_room 29 = .ok (.iconst (-1), 1) := by decide +kernel
theorem dX4_room_30 : decode cX4_room 30 = .ok (.ireturn, 1) := by decide +kernel
theorem dX4_room_31 : decode cX4_room 31 = .ok (.aload_n 0, 1) := by decide +kernel
theorem dX4_room_32 : decode cX4_room 32 = .ok (.iload_n 1, 1) := by decide +kernel
theorem dX4_room_33 : decode cX4_room 33 = .ok (.iload_n 2, 1) := by decide +kernel
theorem dX4_room_34 : decode cX4_room 34 = .ok (.ifCond .ne 7, 3) := by decide +kernel
theorem dX4_room_37 : decode cX4_room 37 = .ok (.iconst 1, 1) := by decide +kernel
theorem dX4_room_38 : decode cX4_room 38 = .ok (.goto 4, 3) := by decide +kernel
theorem dX4_room_41 : decode cX4_room 41 = .ok (.iconst (-1), 1) := by decide +kernel
theorem dX4_room_42 : decode cX4_room 42 = .ok (.invokevirtual 153, 3) := by decide +kernel
theorem dX4_room_45 : decode cX4_room 45 = .ok (.iconst 0, 1) := by decide +kernel
theorem dX4_room_46 : decode cX4_room 46 = .ok (.istore_n 3, 1) := by decide +kernel
theorem dX4_room_47 : decode cX4_room 47 = .ok (.iconst 0, 1) := by decide +kernel
theorem dX4_room_48 : decode cX4_room 48 = .ok (.istore 4, 2) := by decide +kernel
theorem dX4_room_50 : decode cX4_room 50 = .ok (.iload 4, 2) := by decide +kernel
theorem dX4_room_52 : decode cX4_room 52 = .ok (.aload_n 0, 1) := by decide +kernel
theorem dX4_room_53 : decode cX4_room 53 = .ok (.invokevirtual 70, 3) := by decide +kernel
theorem dX4_room_56 : decode cX4_room 56 = .ok (.if_icmp .ge 22, 3) := by decide +kernel
theorem dX4_room_59 : decode cX4_room 59 = .ok (.iload_n 3, 1) := by decide +kernel
theorem dX4_room_60 : decode cX4_room 60 = .ok (.aload_n 0, 1) := by decide +kernel
theorem dX4_room_61 : decode cX4_room 61 = .ok (.getfield 150, 3) := by decide +kernel
theorem dX4_room_64 : decode cX4_room 64 = .ok (.iload 4, 2) := by decide +kernel
theorem dX4_room_66 : decode cX4_room 66 = .ok (.lshr, 1) := by decide +kernel
theorem dX4_room_67 : decode cX4_room 67 = .ok (.lconst 1, 1) := by decide +kernel
theorem dX4_room_68 : decode cX4_room 68 = .ok (.land, 1) := by decide +kernel
theorem dX4_room_69 : decode cX4_room 69 = .ok (.l2i, 1) := by decide +kernel
theorem dX4_room_70 : decode cX4_room 70 = .ok (.iadd, 1) := by decide +kernel
theorem dX4_room_71 : decode cX4_room 71 = .ok (.istore_n 3, 1) := by decide +kernel
theorem dX4_room_72 : decode cX4_room 72 = .ok (.iinc 4 1, 3) := by decide +kernel
theorem dX4_room_75 : decode cX4_room 75 = .ok (.goto (-25), 3) := by decide +kernel
theorem dX4_room_78 : decode cX4_room 78 = .ok (.iload_n 3, 1) := by decide +kernel
theorem dX4_room_79 : decode cX4_room 79 = .ok (.ireturn, 1) := by decide +kernel
set_option maxRecDepth 20000 in
theorem ggX4_free_X4_cells : GoodIn wsX4_free wsX4_cells := goodIn_r _ [6, 7, 8, 9, 10, 11, 12, 13, 14, 15, 16, 17, 18, 19, 20, 21, 22, 23, 24, 25, 26, 27, 28, 29] (by decide +kernel) (by decide +kernel)
set_option maxRecDepth 20000 in
theorem gX4_free_X4_cells : GoodIn wsX4_free (wsV RX4 70 RX4 yX4_cells wsX4_cells) := goodIn_app (goodIn_of _ (by decide +kernel)) ggX4_free_X4_cells
theorem dX4_free_0 : decode cX4_free 0 = .ok (.iconst 0, 1) := by decide +kernel
theorem dX4_free_1 : decode cX4_free 1 = .ok (.istore_n 1, 1) := by decide +kernel
theorem dX4_free_2 : decode cX4_free 2 = .ok (.iconst 0, 1) := by decide +kernel
theorem dX4_free_3 : decode cX4_free 3 = .ok (.istore_n 2, 1) := by decide +kernel
theorem dX4_free_4 : decode cX4_free 4 = .ok (.iload_n 2, 1) := by decide +kernel
theorem dX4_free_5 : decode cX4_free 5 = .ok (.aload_n 0, 1) := by decide +kernel
theorem dX4_free_6 : decode cX4_free 6 = .ok (.invokevirtual 70, 3) := by decide +kernel
theorem dX4_free_9 : decode cX4_free 9 = .ok (.if_icmp .ge 26, 3) := by decide +kernel
theorem dX4_free_12 : decode cX4_free 12 = .ok (.iload_n 1, 1) := by decide +kernel
theorem dX4_free_13 : decode cX4_free 13 = .ok (.aload_n 0, 1) := by decide +kernel
theorem dX4_free_14 : decode cX4_free 14 = .ok (.getfield 13, 3) := by decide +kernel
theorem dX4_free_17 : decode cX4_free 17 = .ok (.iload_n 2, 1) := by decide +kernel
theorem dX4_free_18 : decode cX4_free 18 = .ok (.iaload, 1) := by decide +kernel
theorem dX4_free_19 : decode cX4_free 19 = .ok (.ifCond .ne 7, 3) := by decide +kernel
theorem dX4_free_22 : decode cX4_free 22 = .ok (.iconst 1, 1) := by decide +kernel
theorem dX4_free_23 : decode cX4_free 23 = .ok (.goto 4, 3) := by decide +kernel
theorem dX4_free_26 : decode cX4_free 26 = .ok (.iconst 0, 1) := by decide +kernel
theorem dX4_free_27 : decode cX4_free 27 = .ok (.iadd, 1) := by decide +kernel
theorem dX4_free_28 : decode cX4_free 28 = .ok (.istore_n 1, 1) := by decide +kernel
theorem dX4_free_29 : decode cX4_free 29 = .ok (.iinc 2 1, 3) := by decide +kernel
theorem dX4_free_32 : decode cX4_free 32 = .ok (.goto (-28), 3) := by decide +kernel
theorem dX4_free_35 : decode cX4_free 35 = .ok (.iload_n 1, 1) := by decide +kernel
theorem dX4_free_36 : decode cX4_free 36 = .ok (.ireturn, 1) := by decide +kernel
set_option maxRecDepth 20000 in
theorem ggX4_many_X4_free : GoodIn wsX4_many wsX4_free := goodIn_r _ [7, 8, 9, 10, 11, 6, 12, 13, 60, 61, 62, 63, 64, 65, 66, 67, 68, 69, 70, 71, 72, 73, 74, 75, 76, 77, 78, 79, 80, 81] (by decide +kernel) (by decide +kernel)
set_option maxRecDepth 20000 in
theorem gX4_many_X4_free : GoodIn wsX4_many (wsV RX4 161 RX4 yX4_free wsX4_free) := goodIn_app (goodIn_of _ (by decide +kernel)) ggX4_many_X4_free
set_option maxRecDepth 20000 in
theorem ggX4_many_X4_finds : GoodIn wsX4_many wsX4_finds := goodIn_r _ [17, 13, 18, 19, 20, 21, 22, 23, 24, 8, 25, 26, 27, 2, 28, 29, 30, 31, 6, 32, 9, 10, 11, 12, 33, 34, 35, 36, 37, 38, 39, 40, 41, 42, 43, 44, 45, 46, 47, 48, 49, 50, 51, 52, 53, 54, 55, 56, 57, 58, 59, 60, 61, 62, 63, 64, 65, 66, 67, 68, 69, 70, 71, 72, 73, 74, 75, 76, 77, 78, 79, 80, 81] (by decide +kernel) (by decide +kernel)
set_option maxRecDepth 20000 in
theorem gX4_many_X4_finds : GoodIn wsX4_many (wsV RX4 153 RX4 yX4_finds wsX4_finds) := goodIn_app (goodIn_of _ (by decide +kernel)) ggX4_many_X4_finds
theorem dX4_many_0 : decode cX4_many 0 = .ok (.aload_n 0, 1) := by decide +kernel
theorem dX4_many_1 : decode cX4_many 1 = .ok (.iconst 0, 1) := by decide +kernel
theorem dX4_many_2 : decode cX4_many 2 = .ok (.putfield 67, 3) := by decide +kernel
theorem dX4_many_5 : decode cX4_many 5 = .ok (.aload_n 0, 1) := by decide +kernel
theorem dX4_many_6 : decode cX4_many 6 = .ok (.invokevirtual 161, 3) := by decide +kernel
theorem dX4_many_9 : decode cX4_many 9 = .ok (.bipush 12, 2) := by decide +kernel
theorem dX4_many_11 : decode cX4_many 11 = .ok (.if_icmp .le 6, 3) := by decide +kernel
theorem dX4_many_14 : decode cX4_many 14 = .ok (.bipush (-2), 2) := by decide +kernel
theorem dX4_many_16 : decode cX4_many 16 = .ok (.ireturn, 1) := by decide +kernel
theorem dX4_many_17 : decode cX4_many 17 = .ok (.aload_n 0, 1) := by decide +kernel
theorem dX4_many_18 : decode cX4_many 18 = .ok (.iconst 0, 1) := by decide +kernel
theorem dX4_many_19 : decode cX4_many 19 = .ok (.iconst 0, 1) := by decide +kernel
theorem dX4_many_20 : decode cX4_many 20 = .ok (.invokevirtual 153, 3) := by decide +kernel
theorem dX4_many_23 : decode cX4_many 23 = .ok (.aload_n 0, 1) := by decide +kernel
theorem dX4_many_24 : decode cX4_many 24 = .ok (.getfield 147, 3) := by decide +kernel
theorem dX4_many_27 : decode cX4_many 27 = .ok (.l2i, 1) := by decide +kernel
theorem dX4_many_28 : decode cX4_many 28 = .ok (.ireturn, 1) := by decide +kernel
theorem dX4_pins_0 : decode cX4_pins 0 = .ok (.iconst 0, 1) := by decide +kernel
theorem dX4_pins_1 : decode cX4_pins 1 = .ok (.istore_n 1, 1) := by decide +kernel
theorem dX4_pins_2 : decode cX4_pins 2 = .ok (.iload_n 1, 1) := by decide +kernel
theorem dX4_pins_3 : decode cX4_pins 3 = .ok (.bipush 64, 2) := by decide +kernel
theorem dX4_pins_5 : decode cX4_pins 5 = .ok (.if_icmp .ge 65, 3) := by decide +kernel
theorem dX4_pins_8 : decode cX4_pins 8 = .ok (.iload_n 1, 1) := by decide +kernel
theorem dX4_pins_9 : decode cX4_pins 9 = .ok (.bipush 8, 2) := by decide +kernel
theorem dX4_pins_11 : decode cX4_pins 11 = .ok (.irem, 1) := by decide +kernel
theorem dX4_pins_12 : decode cX4_pins 12 = .ok (.istore_n 2, 1) := by decide +kernel
theorem dX4_pins_13 : decode cX4_pins 13 = .ok (.iload_n 1, 1) := by decide +kernel
theorem dX4_pins_14 : decode cX4_pins 14 = .ok (.bipush 8, 2) := by decide +kernel
theorem dX4_pins_16 : decode cX4_pins 16 = .ok (.idiv, 1) := by decide +kernel
theorem dX4_pins_17 : decode cX4_pins 17 = .ok (.istore_n 3, 1) := by decide +kernel
theorem dX4_pins_18 : decode cX4_pins 18 = .ok (.aload_n 0, 1) := by decide +kernel
theorem dX4_pins_19 : decode cX4_pins 19 = .ok (.getfield 54, 3) := by decide +kernel
theorem dX4_pins_22 : decode cX4_pins 22 = .ok (.iload_n 1, 1) := by decide +kernel
theorem dX4_pins_23 : decode cX4_pins 23 = .ok (.iconst 0, 1) := by decide +kernel
theorem dX4_pins_24 : decode cX4_pins 24 = .ok (.iastore, 1) := by decide +kernel
theorem dX4_pins_25 : decode cX4_pins 25 = .ok (.aload_n 0, 1) := by decide +kernel
theorem dX4_pins_26 : decode cX4_pins 26 = .ok (.getfield 57, 3) := by decide +kernel
theorem dX4_pins_29 : decode cX4_pins 29 = .ok (.iload_n 1, 1) := by decide +kernel
theorem dX4_pins_30 : decode cX4_pins 30 = .ok (.iload_n 2, 1) := by decide +kernel
theorem dX4_pins_31 : decode cX4_pins 31 = .ok (.ifCond .eq 27, 3) := by decide +kernel
theorem dX4_pins_34 : decode cX4_pins 34 = .ok (.iload_n 3, 1) := by decide +kernel
theorem dX4_pins_35 : decode cX4_pins 35 = .ok (.ifCond .eq 23, 3) := by decide +kernel
theorem dX4_pins_38 : decode cX4_pins 38 = .ok (.iload_n 2, 1) := by decide +kernel
theorem dX4_pins_39 : decode cX4_pins 39 = .ok (.aload_n 0, 1) := by decide +kernel
theorem dX4_pins_40 : decode cX4_pins 40 = .ok (.getfield 47, 3) := by decide +kernel
theorem dX4_pins_43 : decode cX4_pins 43 = .ok (.iconst 1, 1) := by decide +kernel
theorem dX4_pins_44 : decode cX4_pins 44 = .ok (.isub, 1) := by decide +kernel
theorem dX4_pins_45 : decode cX4_pins 45 = .ok (.if_icmp .eq 13, 3) := by decide +kernel
theorem dX4_pins_48 : decode cX4_pins 48 = .ok (.iload_n 3, 1) := by decide +kernel
theorem dX4_pins_49 : decode cX4_pins 49 = .ok (.aload_n 0, 1) := by decide +kernel
theorem dX4_pins_50 : decode cX4_pins 50 = .ok (.getfield 51, 3) := by decide +kernel
theorem dX4_pins_53 : decode cX4_pins 53 = .ok (.iconst 1, 1) := by decide +kernel
theorem dX4_pins_54 : decode cX4_pins 54 = .ok (.isub, 1) := by decide +kernel
theorem dX4_pins_55 : decode cX4_pins 55 = .ok (.if_icmp .ne 7, 3) := by decide +kernel
theorem dX4_pins_58 : decode cX4_pins 58 = .ok (.iconst 1, 1) := by decide +kernel
theorem dX4_pins_59 : decode cX4_pins 59 = .ok (.goto 4, 3) := by decide +kernel
theorem dX4_pins_62 : decode cX4_pins 62 = .ok (.iconst 0, 1) := by decide +kernel
theorem dX4_pins_63 : decode cX4_pins 63 = .ok (.bastore, 1) := by decide +kernel
theorem dX4_pins_64 : decode cX4_pins 64 = .ok (.iinc 1 1, 3) := by decide +kernel
theorem dX4_pins_67 : decode cX4_pins 67 = .ok (.goto (-65), 3) := by decide +kernel
theorem dX4_pins_70 : decode cX4_pins 70 = .ok (.return_, 1) := by decide +kernel
set_option maxRecDepth 20000 in
theorem ggX4_isPoint_X4_in : GoodIn wsX4_isPoint wsX4_in := goodIn_r _ [6] (by decide +kernel) (by decide +kernel)
set_option maxRecDepth 20000 in
theorem gX4_isPoint_X4_in : GoodIn wsX4_isPoint (va_wsS RX4 74 yX4_in wsX4_in) := goodIn_app (goodIn_of _ (by decide +kernel)) ggX4_isPoint_X4_in
theorem dX4_isPoint_0 : decode cX4_isPoint 0 = .ok (.iload_n 1, 1) := by decide +kernel
theorem dX4_isPoint_1 : decode cX4_isPoint 1 = .ok (.i2l, 1) := by decide +kernel
theorem dX4_isPoint_2 : decode cX4_isPoint 2 = .ok (.lconst 0, 1) := by decide +kernel
theorem dX4_isPoint_3 : decode cX4_isPoint 3 = .ok (.aload_n 0, 1) := by decide +kernel
theorem dX4_isPoint_4 : decode cX4_isPoint 4 = .ok (.getfield 47, 3) := by decide +kernel
theorem dX4_isPoint_7 : decode cX4_isPoint 7 = .ok (.iconst 1, 1) := by decide +kernel
theorem dX4_isPoint_8 : decode cX4_isPoint 8 = .ok (.isub, 1) := by decide +kernel
theorem dX4_isPoint_9 : decode cX4_isPoint 9 = .ok (.i2l, 1) := by decide +kernel
theorem dX4_isPoint_10 : decode cX4_isPoint 10 = .ok (.invokestatic 74, 3) := by decide +kernel
theorem dX4_isPoint_13 : decode cX4_isPoint 13 = .ok (.ifCond .eq 23, 3) := by decide +kernel
theorem dX4_isPoint_16 : decode cX4_isPoint 16 = .ok (.iload_n 2, 1) := by decide +kernel
theorem dX4_isPoint_17 : decode cX4_isPoint 17 = .ok (.i2l, 1) := by decide +kernel
theorem dX4_isPoint_18 : decode cX4_isPoint 18 = .ok (.lconst 0, 1) := by decide +kernel
theorem dX4_isPoint_19 : decode cX4_isPoint 19 = .ok (.aload_n 0, 1) := by decide +kernel
theorem dX4_isPoint_20 : decode cX4_isPoint 20 = .ok (.getfield 51, 3) := by decide +kernel
theorem dX4_isPoint_23 : decode cX4_isPoint 23 = .ok (.iconst 1, 1) := by decide +kernel
theorem dX4_isPoint_24 : decode cX4_isPoint 24 = .ok (.isub, 1) := by decide +kernel
theorem dX4_isPoint_25 : decode cX4_isPoint 25 = .ok (.i2l, 1) := by decide +kernel
theorem dX4_isPoint_26 : decode cX4_isPoint 26 = .ok (.invokestatic 74, 3) := by decide +kernel
theorem dX4_isPoint_29 : decode cX4_isPoint 29 = .ok (.ifCond .eq 7, 3) := by decide +kernel
theorem dX4_isPoint_32 : decode cX4_isPoint 32 = .ok (.iconst 1, 1) := by decide +kernel
theorem dX4_isPoint_33 : decode cX4_isPoint 33 = .ok (.goto 4, 3) := by decide +kernel
theorem dX4_isPoint_36 : decode cX4_isPoint 36 = .ok (.iconst 0, 1) := by decide +kernel
theorem dX4_isPoint_37 : decode cX4_isPoint 37 = .ok (.ireturn, 1) := by decide +kernel
set_option maxRecDepth 20000 in
theorem ggX4_net_X4_in : GoodIn wsX4_net wsX4_in := goodIn_r _ [9] (by decide +kernel) (by decide +kernel)
set_option maxRecDepth 20000 in
theorem gX4_net_X4_in : GoodIn wsX4_net (va_wsS RX4 74 yX4_in wsX4_in) := goodIn_app (goodIn_of _ (by decide +kernel)) ggX4_net_X4_in
set_option maxRecDepth 20000 in
theorem ggX4_net_X4_pins : GoodIn wsX4_net wsX4_pins := goodIn_r _ [13, 14, 15, 4, 5, 16, 17, 18, 19, 20, 21, 22, 23, 24, 25, 26, 27, 28, 29, 30, 31, 32, 33, 34, 35, 36, 37] (by decide +kernel) (by decide +kernel)
set_option maxRecDepth 20000 in
theorem gX4_net_X4_pins : GoodIn wsX4_net (wsV RX4 64 RX4 yX4_pins wsX4_pins) := goodIn_app (goodIn_of _ (by decide +kernel)) ggX4_net_X4_pins
theorem dX4_net_0 : decode cX4_net 0 = .ok (.aload_n 0, 1) := by decide +kernel
theorem dX4_net_1 : decode cX4_net 1 = .ok (.iconst 0, 1) := by decide +kernel
theorem dX4_net_2 : decode cX4_net 2 = .ok (.putfield 67, 3) := by decide +kernel
theorem dX4_net_5 : decode cX4_net 5 = .ok (.iload_n 1, 1) := by decide +kernel
theorem dX4_net_6 : decode cX4_net 6 = .ok (.i2l, 1) := by decide +kernel
theorem dX4_net_7 : decode cX4_net 7 = .ok (.ldc2_w 84, 3) := by decide +kernel
theorem dX4_net_10 : decode cX4_net 10 = .ok (.ldc2_w 164, 3) := by decide +kernel
theorem dX4_net_13 : decode cX4_net 13 = .ok (.invokestatic 74, 3) := by decide +kernel
theorem dX4_net_16 : decode cX4_net 16 = .ok (.ifCond .eq 17, 3) := by decide +kernel
theorem dX4_net_19 : decode cX4_net 19 = .ok (.iload_n 2, 1) := by decide +kernel
theorem dX4_net_20 : decode cX4_net 20 = .ok (.i2l, 1) := by decide +kernel
theorem dX4_net_21 : decode cX4_net 21 = .ok (.ldc2_w 84, 3) := by decide +kernel
theorem dX4_net_24 : decode cX4_net 24 = .ok (.ldc2_w 164, 3) := by decide +kernel
theorem dX4_net_27 : decode cX4_net 27 = .ok (.invokestatic 74, 3) := by decide +kernel
theorem dX4_net_30 : decode cX4_net 30 = .ok (.ifCond .ne 5, 3) := by decide +kernel
theorem dX4_net_33 : decode cX4_net 33 = .ok (.iconst (-1), 1) := by decide +kernel
theorem dX4_net_34 : decode cX4_net 34 = .ok (.ireturn, 1) := by decide +kernel
theorem dX4_net_35 : decode cX4_net 35 = .ok (.aload_n 0, 1) := by decide +kernel
theorem dX4_net_36 : decode cX4_net 36 = .ok (.iload_n 1, 1) := by decide +kernel
theorem dX4_net_37 : decode cX4_net 37 = .ok (.putfield 47, 3) := by decide +kernel
theorem dX4_net_40 : decode cX4_net 40 = .ok (.aload_n 0, 1) := by decide +kernel
theorem dX4_net_41 : decode cX4_net 41 = .ok (.iload_n 2, 1) := by decide +kernel
theorem dX4_net_42 : decode cX4_net 42 = .ok (.putfield 51, 3) := by decide +kernel
theorem dX4_net_45 : decode cX4_net 45 = .ok (.aload_n 0, 1) := by decide +kernel
theorem dX4_net_46 : decode cX4_net 46 = .ok (.invokevirtual 64, 3) := by decide +kernel
theorem dX4_net_49 : decode cX4_net 49 = .ok (.aload_n 0, 1) := by decide +kernel
theorem dX4_net_50 : decode cX4_net 50 = .ok (.getfield 47, 3) := by decide +kernel
theorem dX4_net_53 : decode cX4_net 53 = .ok (.iconst 2, 1) := by decide +kernel
theorem dX4_net_54 : decode cX4_net 54 = .ok (.isub, 1) := by decide +kernel
theorem dX4_net_55 : decode cX4_net 55 = .ok (.aload_n 0, 1) := by decide +kernel
theorem dX4_net_56 : decode cX4_net 56 = .ok (.getfield 51, 3) := by decide +kernel
theorem dX4_net_59 : decode cX4_net 59 = .ok (.iconst 2, 1) := by decide +kernel
theorem dX4_net_60 : decode cX4_net 60 = .ok (.isub, 1) := by decide +kernel
theorem dX4_net_61 : decode cX4_net 61 = .ok (.imul, 1) := by decide +kernel
theorem dX4_net_62 : decode cX4_net 62 = .ok (.ireturn, 1) := by decide +kernel
set_option maxRecDepth 20000 in
theorem ggX4_lift_X4_isPoint : GoodIn wsX4_lift wsX4_isPoint := goodIn_r _ [10, 11, 12, 13, 14, 9, 15, 16, 17, 18, 19, 20, 21, 22, 23, 24, 25, 26, 27, 28, 29, 30, 31, 32, 33, 34, 35, 36, 37] (by decide +kernel) (by decide +kernel)
set_option maxRecDepth 20000 in
theorem gX4_lift_X4_isPoint : GoodIn wsX4_lift (wsV RX4 166 RX4 yX4_isPoint wsX4_isPoint) := goodIn_app (goodIn_of _ (by decide +kernel)) ggX4_lift_X4_isPoint
set_option maxRecDepth 20000 in
theorem ggX4_lift_X4_in : GoodIn wsX4_lift wsX4_in := goodIn_r _ [15] (by decide +kernel) (by decide +kernel)
set_option maxRecDepth 20000 in
theorem gX4_lift_X4_in : GoodIn wsX4_lift (va_wsS RX4 74 yX4_in wsX4_in) := goodIn_app (goodIn_of _ (by decide +kernel)) ggX4_lift_X4_in
theorem dX4_lift_0 : decode cX4_lift 0 = .ok (.aload_n 0, 1) := by decide +kernel
theorem dX4_lift_1 : decode cX4_lift 1 = .ok (.iconst 0, 1) := by decide +kernel
theorem dX4_lift_2 : decode cX4_lift 2 = .ok (.putfield 67, 3) := by decide +kernel
theorem dX4_lift_5 : decode cX4_lift 5 = .ok (.aload_n 0, 1) := by decide +kernel
theorem dX4_lift_6 : decode cX4_lift 6 = .ok (.iload_n 1, 1) := by decide +kernel
theorem dX4_lift_7 : decode cX4_lift 7 = .ok (.iload_n 2, 1) := by decide +kernel
theorem dX4_lift_8 : decode cX4_lift 8 = .ok (.invokevirtual 166, 3) := by decide +kernel
theorem dX4_lift_11 : decode cX4_lift 11 = .ok (.ifCond .eq 17, 3) := by decide +kernel
theorem dX4_lift_14 : decode cX4_lift 14 = .ok (.iload_n 3, 1) := by decide +kernel
theorem dX4_lift_15 : decode cX4_lift 15 = .ok (.i2l, 1) := by decide +kernel
theorem dX4_lift_16 : decode cX4_lift 16 = .ok (.ldc2_w 170, 3) := by decide +kernel
theorem dX4_lift_19 : decode cX4_lift 19 = .ok (.ldc2_w 172, 3) := by decide +kernel
theorem dX4_lift_22 : decode cX4_lift 22 = .ok (.invokestatic 74, 3) := by decide +kernel
theorem dX4_lift_25 : decode cX4_lift 25 = .ok (.ifCond .ne 6, 3) := by decide +kernel
theorem dX4_lift_28 : decode cX4_lift 28 = .ok (.ldc 90, 2) := by decide +kernel
theorem dX4_lift_30 : decode cX4_lift 30 = .ok (.ireturn, 1) := by decide +kernel
theorem dX4_lift_31 : decode cX4_lift 31 = .ok (.aload_n 0, 1) := by decide +kernel
theorem dX4_lift_32 : decode cX4_lift 32 = .ok (.getfield 54, 3) := by decide +kernel
theorem dX4_lift_35 : decode cX4_lift 35 = .ok (.bipush 8, 2) := by decide +kernel
theorem dX4_lift_37 : decode cX4_lift 37 = .ok (.iload_n 2, 1) := by decide +kernel
theorem dX4_lift_38 : decode cX4_lift 38 = .ok (.imul, 1) := by decide +kernel
theorem dX4_lift_39 : decode cX4_lift 39 = .ok (.iload_n 1, 1) := by decide +kernel
theorem dX4_lift_40 : decode cX4_lift 40 = .ok (.iadd, 1) := by decide +kernel
theorem dX4_lift_41 : decode cX4_lift 41 = .ok (.iaload, 1) := by decide +kernel
theorem dX4_lift_42 : decode cX4_lift 42 = .ok (.istore 4, 2) := by decide +kernel
theorem dX4_lift_44 : decode cX4_lift 44 = .ok (.aload_n 0, 1) := by decide +kernel
theorem dX4_lift_45 : decode cX4_lift 45 = .ok (.getfield 54, 3) := by decide +kernel
theorem dX4_lift_48 : decode cX4_lift 48 = .ok (.bipush 8, 2) := by decide +kernel
theorem dX4_lift_50 : decode cX4_lift 50 = .ok (.iload_n 2, 1) := by decide +kernel
theorem dX4_lift_51 : decode cX4_lift 51 = .ok (.imul, 1) := by decide +kernel
theorem dX4_lift_52 : decode cX4_lift 52 = .ok (.iload_n 1, 1) := by decide +kernel
theorem dX4_lift_53 : decode cX4_lift 53 = .ok (.iadd, 1) := by decide +kernel
theorem dX4_lift_54 : decode cX4_lift 54 = .ok (.iload_n 3, 1) := by decide +kernel
theorem dX4_lift_55 : decode cX4_lift 55 = .ok (.iastore, 1) := by decide +kernel
theorem dX4_lift_56 : decode cX4_lift 56 = .ok (.iload 4, 2) := by decide +kernel
theorem dX4_lift_58 : decode cX4_lift 58 = .ok (.ireturn, 1) := by decide +kernel
set_option maxRecDepth 20000 in
theorem ggX4_pin_X4_isPoint : GoodIn wsX4_pin wsX4_isPoint := goodIn_r _ [7, 8, 9, 10, 11, 6, 12, 13, 14, 15, 16, 17, 18, 19, 20, 21, 22, 23, 24, 25, 26, 27, 28, 29, 30, 31, 32, 33, 34] (by decide +kernel) (by decide +kernel)
set_option maxRecDepth 20000 in
theorem gX4_pin_X4_isPoint : GoodIn wsX4_pin (wsV RX4 166 RX4 yX4_isPoint wsX4_isPoint) := goodIn_app (goodIn_of _ (by decide +kernel)) ggX4_pin_X4_isPoint
theorem dX4_pin_0 : decode cX4_pin 0 = .ok (.aload_n 0, 1) := by decide +kernel
theorem dX4_pin_1 : decode cX4_pin 1 = .ok (.iconst 0, 1) := by decide +kernel
theorem dX4_pin_2 : decode cX4_pin 2 = .ok (.putfield 67, 3) := by decide +kernel
theorem dX4_pin_5 : decode cX4_pin 5 = .ok (.aload_n 0, 1) := by decide +kernel
theorem dX4_pin_6 : decode cX4_pin 6 = .ok (.iload_n 1, 1) := by decide +kernel
theorem dX4_pin_7 : decode cX4_pin 7 = .ok (.iload_n 2, 1) := by decide +kernel
theorem dX4_pin_8 : decode cX4_pin 8 = .ok (.invokevirtual 166, 3) := by decide +kernel
theorem dX4_pin_11 : decode cX4_pin 11 = .ok (.ifCond .ne 5, 3) := by decide +kernel
theorem dX4_pin_14 : decode cX4_pin 14 = .ok (.iconst (-1), 1) := by decide +kernel
theorem dX4_pin_15 : decode cX4_pin 15 = .ok (.ireturn, 1) := by decide +kernel
theorem dX4_pin_16 : decode cX4_pin 16 = .ok (.aload_n 0, 1) := by decide +kernel
theorem dX4_pin_17 : decode cX4_pin 17 = .ok (.getfield 57, 3) := by decide +kernel
theorem dX4_pin_20 : decode cX4_pin 20 = .ok (.bipush 8, 2) := by decide +kernel
theorem dX4_pin_22 : decode cX4_pin 22 = .ok (.iload_n 2, 1) := by decide +kernel
theorem dX4_pin_23 : decode cX4_pin 23 = .ok (.imul, 1) := by decide +kernel
theorem dX4_pin_24 : decode cX4_pin 24 = .ok (.iload_n 1, 1) := by decide +kernel
theorem dX4_pin_25 : decode cX4_pin 25 = .ok (.iadd, 1) := by decide +kernel
theorem dX4_pin_26 : decode cX4_pin 26 = .ok (.baload, 1) := by decide +kernel
theorem dX4_pin_27 : decode cX4_pin 27 = .ok (.ifCond .eq 7, 3) := by decide +kernel
theorem dX4_pin_30 : decode cX4_pin 30 = .ok (.iconst 1, 1) := by decide +kernel
theorem dX4_pin_31 : decode cX4_pin 31 = .ok (.goto 4, 3) := by decide +kernel
theorem dX4_pin_34 : decode cX4_pin 34 = .ok (.iconst 0, 1) := by decide +kernel
theorem dX4_pin_35 : decode cX4_pin 35 = .ok (.istore 4, 2) := by decide +kernel
theorem dX4_pin_37 : decode cX4_pin 37 = .ok (.aload_n 0, 1) := by decide +kernel
theorem dX4_pin_38 : decode cX4_pin 38 = .ok (.getfield 57, 3) := by decide +kernel
theorem dX4_pin_41 : decode cX4_pin 41 = .ok (.bipush 8, 2) := by decide +kernel
theorem dX4_pin_43 : decode cX4_pin 43 = .ok (.iload_n 2, 1) := by decide +kernel
theorem dX4_pin_44 : decode cX4_pin 44 = .ok (.imul, 1) := by decide +kernel
theorem dX4_pin_45 : decode cX4_pin 45 = .ok (.iload_n 1, 1) := by decide +kernel
theorem dX4_pin_46 : decode cX4_pin 46 = .ok (.iadd, 1) := by decide +kernel
theorem dX4_pin_47 : decode cX4_pin 47 = .ok (.iload_n 3, 1) := by decide +kernel
theorem dX4_pin_48 : decode cX4_pin 48 = .ok (.bastore, 1) := by decide +kernel
theorem dX4_pin_49 : decode cX4_pin 49 = .ok (.iload 4, 2) := by decide +kernel
theorem dX4_pin_51 : decode cX4_pin 51 = .ok (.ireturn, 1) := by decide +kernel
set_option maxRecDepth 20000 in
theorem ggX4_height_X4_isPoint : GoodIn wsX4_height wsX4_isPoint := goodIn_r _ [8, 9, 10, 11, 12, 7, 13, 14, 15, 16, 17, 18, 19, 20, 21, 22, 23, 24, 25, 26, 27, 28, 29, 30, 31, 32, 33, 34, 35] (by decide +kernel) (by decide +kernel)
set_option maxRecDepth 20000 in
theorem gX4_height_X4_isPoint : GoodIn wsX4_height (wsV RX4 166 RX4 yX4_isPoint wsX4_isPoint) := goodIn_app (goodIn_of _ (by decide +kernel)) ggX4_height_X4_isPoint
theorem dX4_height_0 : decode cX4_height 0 = .ok (.aload_n 0, 1) := by decide +kernel
theorem dX4_height_1 : decode cX4_height 1 = .ok (.iconst 0, 1) := by decide +kernel
theorem dX4_height_2 : decode cX4_height 2 = .ok (.putfield 67, 3) := by decide +kernel
theorem dX4_height_5 : decode cX4_height 5 = .ok (.aload_n 0, 1) := by decide +kernel
theorem dX4_height_6 : decode cX4_height 6 = .ok (.iload_n 1, 1) := by decide +kernel
theorem dX4_height_7 : decode cX4_height 7 = .ok (.iload_n 2, 1) := by decide +kernel
theorem dX4_height_8 : decode cX4_height 8 = .ok (.invokevirtual 166, 3) := by decide +kernel
theorem dX4_height_11 : decode cX4_height 11 = .ok (.ifCond .eq 17, 3) := by decide +kernel
theorem dX4_height_14 : decode cX4_height 14 = .ok (.aload_n 0, 1) := by decide +kernel
theorem dX4_height_15 : decode cX4_height 15 = .ok (.getfield 54, 3) := by decide +kernel
theorem dX4_height_18 : decode cX4_height 18 = .ok (.bipush 8, 2) := by decide +kernel
theorem dX4_height_20 : decode cX4_height 20 = .ok (.iload_n 2, 1) := by decide +kernel
theorem dX4_height_21 : decode cX4_height 21 = .ok (.imul, 1) := by decide +kernel
theorem dX4_height_22 : decode cX4_height 22 = .ok (.iload_n 1, 1) := by decide +kernel
theorem dX4_height_23 : decode cX4_height 23 = .ok (.iadd, 1) := by decide +kernel
theorem dX4_height_24 : decode cX4_height 24 = .ok (.iaload, 1) := by decide +kernel
theorem dX4_height_25 : decode cX4_height 25 = .ok (.goto 5, 3) := by decide +kernel
theorem dX4_height_28 : decode cX4_height 28 = .ok (.ldc 90, 2) := by decide +kernel
theorem dX4_height_30 : decode cX4_height 30 = .ok (.ireturn, 1) := by decide +kernel
theorem dX4_size_0 : decode cX4_size 0 = .ok (.iload_n 0, 1) := by decide +kernel
theorem dX4_size_1 : decode cX4_size 1 = .ok (.ifCond .ge 8, 3) := by decide +kernel
theorem dX4_size_4 : decode cX4_size 4 = .ok (.iload_n 0, 1) := by decide +kernel
theorem dX4_size_5 : decode cX4_size 5 = .ok (.ineg, 1) := by decide +kernel
theorem dX4_size_6 : decode cX4_size 6 = .ok (.goto 4, 3) := by decide +kernel
theorem dX4_size_9 : decode cX4_size 9 = .ok (.iload_n 0, 1) := by decide +kernel
theorem dX4_size_10 : decode cX4_size 10 = .ok (.ireturn, 1) := by decide +kernel
set_option maxRecDepth 20000 in
theorem ggX4_drawn_X4_size : GoodIn wsX4_drawn wsX4_size := goodIn_r _ [8] (by decide +kernel) (by decide +kernel)
set_option maxRecDepth 20000 in
theorem gX4_drawn_X4_size : GoodIn wsX4_drawn (va_wsS RX4 174 yX4_size wsX4_size) := goodIn_app (goodIn_of _ (by decide +kernel)) ggX4_drawn_X4_size
theorem dX4_drawn_0 : decode cX4_drawn 0 = .ok (.aload_n 0, 1) := by decide +kernel
theorem dX4_drawn_1 : decode cX4_drawn 1 = .ok (.iconst 0, 1) := by decide +kernel
theorem dX4_drawn_2 : decode cX4_drawn 2 = .ok (.putfield 67, 3) := by decide +kernel
theorem dX4_drawn_5 : decode cX4_drawn 5 = .ok (.iconst 0, 1) := by decide +kernel
theorem dX4_drawn_6 : decode cX4_drawn 6 = .ok (.istore_n 1, 1) := by decide +kernel
theorem dX4_drawn_7 : decode cX4_drawn 7 = .ok (.iconst 0, 1) := by decide +kernel
theorem dX4_drawn_8 : decode cX4_drawn 8 = .ok (.istore_n 2, 1) := by decide +kernel
theorem dX4_drawn_9 : decode cX4_drawn 9 = .ok (.iload_n 2, 1) := by decide +kernel
theorem dX4_drawn_10 : decode cX4_drawn 10 = .ok (.aload_n 0, 1) := by decide +kernel
theorem dX4_drawn_11 : decode cX4_drawn 11 = .ok (.getfield 51, 3) := by decide +kernel
theorem dX4_drawn_14 : decode cX4_drawn 14 = .ok (.if_icmp .ge 116, 3) := by decide +kernel
theorem dX4_drawn_17 : decode cX4_drawn 17 = .ok (.iconst 0, 1) := by decide +kernel
theorem dX4_drawn_18 : decode cX4_drawn 18 = .ok (.istore_n 3, 1) := by decide +kernel
theorem dX4_drawn_19 : decode cX4_drawn 19 = .ok (.iload_n 3, 1) := by decide +kernel
theorem dX4_drawn_20 : decode cX4_drawn 20 = .ok (.aload_n 0, 1) := by decide +kernel
theorem dX4_drawn_21 : decode cX4_drawn 21 = .ok (.getfield 47, 3) := by decide +kernel
theorem dX4_drawn_24 : decode cX4_drawn 24 = .ok (.if_icmp .ge 100, 3) := by decide +kernel
theorem dX4_drawn_27 : decode cX4_drawn 27 = .ok (.iload_n 1, 1) := by decide +kernel
theorem dX4_drawn_28 : decode cX4_drawn 28 = .ok (.iload_n 3, 1) := by decide +kernel
theorem dX4_drawn_29 : decode cX4_drawn 29 = .ok (.iconst 1, 1) := by decide +kernel
theorem dX4_drawn_30 : decode cX4_drawn 30 = .ok (.iadd, 1) := by decide +kernel
theorem dX4_drawn_31 : decode cX4_drawn 31 = .ok (.aload_n 0, 1) := by decide +kernel
theorem dX4_drawn_32 : decode cX4_drawn 32 = .ok (.getfield 47, 3) := by decide +kernel
theorem dX4_drawn_35 : decode cX4_drawn 35 = .ok (.if_icmp .ge 34, 3) := by decide +kernel
theorem dX4_drawn_38 : decode cX4_drawn 38 = .ok (.aload_n 0, 1) := by decide +kernel
theorem dX4_drawn_39 : decode cX4_drawn 39 = .ok (.getfield 54, 3) := by decide +kernel
theorem dX4_drawn_42 : decode cX4_drawn 42 = .ok (.bipush 8, 2) := by decide +kernel
theorem dX4_drawn_44 : decode cX4_drawn 44 = .ok (.iload_n 2, 1) := by decide +kernel
theorem dX4_drawn_45 : decode cX4_drawn 45 = .ok (.imul, 1) := by decide +kernel
theorem dX4_drawn_46 : decode cX4_drawn 46 = .ok (.iload_n 3, 1) := by decide +kernel
theorem dX4_drawn_47 : decode cX4_drawn 47 = .ok (.iadd, 1) := by decide +kernel
theorem dX4_drawn_48 : decode cX4_drawn 48 = .ok (.iaload, 1) := by decide +kernel
theorem dX4_drawn_49 : decode cX4_drawn 49 = .ok (.aload_n 0, 1) := by decide +kernel
theorem dX4_drawn_50 : decode cX4_drawn 50 = .ok (.getfield 54, 3) := by decide +kernel
theorem dX4_drawn_53 : decode cX4_drawn 53 = .ok (.bipush 8, 2) := by decide +kernel
theorem dX4_drawn_55 : decode cX4_drawn 55 = .ok (.iload_n 2, 1) := by decide +kernel
theorem dX4_drawn_56 : decode cX4_drawn 56 = .ok (.imul, 1) := by decide +kernel
theorem dX4_drawn_57 : decode cX4_drawn 57 = .ok (.iload_n 3, 1) := by decide +kernel
theorem dX4_drawn_58 : decode cX4_drawn 58 = .ok (.iadd, 1) := by decide +kernel
theorem dX4_drawn_59 : decode cX4_drawn 59 = .ok (.iconst 1, 1) := by decide +kernel
theorem dX4_drawn_60 : decode cX4_drawn 60 = .ok (.iadd, 1) := by decide +kernel
theorem dX4_drawn_61 : decode cX4_drawn 61 = .ok (.iaload, 1) := by decide +kernel
theorem dX4_drawn_62 : decode cX4_drawn 62 = .ok (.isub, 1) := by decide +kernel
theorem dX4_drawn_63 : decode cX4_drawn 63 = .ok (.invokestatic 174, 3) := by decide +kernel
theorem dX4_drawn_66 : decode cX4_drawn 66 = .ok (.goto 4, 3) := by decide +kernel
theorem dX4_drawn_69 : decode cX4_drawn 69 = .ok (.iconst 0, 1) := by decide +kernel
theorem dX4_drawn_70 : decode cX4_drawn 70 = .ok (.iadd, 1) := by decide +kernel
theorem dX4_drawn_71 : decode cX4_drawn 71 = .ok (.istore_n 1, 1) := by decide +kernel
theorem dX4_drawn_72 : decode cX4_drawn 72 = .ok (.iload_n 1, 1) := by decide +kernel
theorem dX4_drawn_73 : decode cX4_drawn 73 = .ok (.iload_n 2, 1) := by decide +kernel
theorem dX4_drawn_74 : decode cX4_drawn 74 = .ok (.iconst 1, 1) := by decide +kernel
theorem dX4_drawn_75 : decode cX4_drawn 75 = .ok (.iadd, 1) := by decide +kernel
theorem dX4_drawn_76 : decode cX4_drawn 76 = .ok (.aload_n 0, 1) := by decide +kernel
theorem dX4_drawn_77 : decode cX4_drawn 77 = .ok (.getfield 51, 3) := by decide +kernel
theorem dX4_drawn_80 : decode cX4_drawn 80 = .ok (.if_icmp .ge 35, 3) := by decide +kernel
theorem dX4_drawn_83 : decode cX4_drawn 83 = .ok (.aload_n 0, 1) := by decide +kernel
theorem dX4_drawn_84 : decode cX4_drawn 84 = .ok (.getfield 54, 3) := by decide +kernel
theorem dX4_drawn_87 : decode cX4_drawn 87 = .ok (.bipush 8, 2) := by decide +kernel
theorem dX4_drawn_89 : decode cX4_drawn 89 = .ok (.iload_n 2, 1) := by decide +kernel
theorem dX4_drawn_90 : decode cX4_drawn 90 = .ok (.imul, 1) := by decide +kernel
theorem dX4_drawn_91 : decode cX4_drawn 91 = .ok (.iload_n 3, 1) := by decide +kernel
theorem dX4_drawn_92 : decode cX4_drawn 92 = .ok (.iadd, 1) := by decide +kernel
theorem dX4_drawn_93 : decode cX4_drawn 93 = .ok (.iaload, 1) := by decide +kernel
theorem dX4_drawn_94 : decode cX4_drawn 94 = .ok (.aload_n 0, 1) := by decide +kernel
theorem dX4_drawn_95 : decode cX4_drawn 95 = .ok (.getfield 54, 3) := by decide +kernel
theorem dX4_drawn_98 : decode cX4_drawn 98 = .ok (.bipush 8, 2) := by decide +kernel
theorem dX4_drawn_100 : decode cX4_drawn 100 = .ok (.iload_n 2, 1) := by decide +kernel
theorem dX4_drawn_101 : decode cX4_drawn 101 = .ok (.imul, 1) := by decide +kernel
theorem dX4_drawn_102 : decode cX4_drawn 102 = .ok (.bipush 8, 2) := by decide +kernel
theorem dX4_drawn_104 : decode cX4_drawn 104 = .ok (.iadd, 1) := by decide +kernel
theorem dX4_drawn_105 : decode cX4_drawn 105 = .ok (.iload_n 3, 1) := by decide +kernel
theorem dX4_drawn_106 : decode cX4_drawn 106 = .ok (.iadd, 1) := by decide +kernel
theorem dX4_drawn_107 : decode cX4_drawn 107 = .ok (.iaload, 1) := by decide +kernel
theorem dX4_drawn_108 : decode cX4_drawn 108 = .ok (.isub, 1) := by decide +kernel
theorem dX4_drawn_109 : decode cX4_drawn 109 = .ok (.invokestatic 174, 3) := by decide +kernel
theorem dX4_drawn_112 : decode cX4_drawn 112 = .ok (.goto 4, 3) := by decide +kernel
theorem dX4_drawn_115 : decode cX4_drawn 115 = .ok (.iconst 0, 1) := by decide +kernel
theorem dX4_drawn_116 : decode cX4_drawn 116 = .ok (.iadd, 1) := by decide +kernel
theorem dX4_drawn_117 : decode cX4_drawn 117 = .ok (.istore_n 1, 1) := by decide +kernel
theorem dX4_drawn_118 : decode cX4_drawn 118 = .ok (.iinc 3 1, 3) := by decide +kernel
theorem dX4_drawn_121 : decode cX4_drawn 121 = .ok (.goto (-102), 3) := by decide +kernel
theorem dX4_drawn_124 : decode cX4_drawn 124 = .ok (.iinc 2 1, 3) := by decide +kernel
theorem dX4_drawn_127 : decode cX4_drawn 127 = .ok (.goto (-118), 3) := by decide +kernel
theorem dX4_drawn_130 : decode cX4_drawn 130 = .ok (.iload_n 1, 1) := by decide +kernel
theorem dX4_drawn_131 : decode cX4_drawn 131 = .ok (.ireturn, 1) := by decide +kernel
theorem dX4_puts_0 : decode cX4_puts 0 = .ok (.iload_n 1, 1) := by decide +kernel
theorem dX4_puts_1 : decode cX4_puts 1 = .ok (.istore_n 3, 1) := by decide +kernel
theorem dX4_puts_2 : decode cX4_puts 2 = .ok (.iload_n 3, 1) := by decide +kernel
theorem dX4_puts_3 : decode cX4_puts 3 = .ok (.ifCond .le 35, 3) := by decide +kernel
theorem dX4_puts_6 : decode cX4_puts 6 = .ok (.aload_n 0, 1) := by decide +kernel
theorem dX4_puts_7 : decode cX4_puts 7 = .ok (.getfield 61, 3) := by decide +kernel
theorem dX4_puts_10 : decode cX4_puts 10 = .ok (.iload_n 3, 1) := by decide +kernel
theorem dX4_puts_11 : decode cX4_puts 11 = .ok (.iconst 1, 1) := by decide +kernel
theorem dX4_puts_12 : decode cX4_puts 12 = .ok (.isub, 1) := by decide +kernel
theorem dX4_puts_13 : decode cX4_puts 13 = .ok (.iaload, 1) := by decide +kernel
theorem dX4_puts_14 : decode cX4_puts 14 = .ok (.iload_n 2, 1) := by decide +kernel
theorem dX4_puts_15 : decode cX4_puts 15 = .ok (.if_icmp .le 23, 3) := by decide +kernel
theorem dX4_puts_18 : decode cX4_puts 18 = .ok (.aload_n 0, 1) := by decide +kernel
theorem dX4_puts_19 : decode cX4_puts 19 = .ok (.getfield 61, 3) := by decide +kernel
theorem dX4_puts_22 : decode cX4_puts 22 = .ok (.iload_n 3, 1) := by decide +kernel
theorem dX4_puts_23 : decode cX4_puts 23 = .ok (.aload_n 0, 1) := by decide +kernel
theorem dX4_puts_24 : decode cX4_puts 24 = .ok (.getfield 61, 3) := by decide +kernel
theorem dX4_puts_27 : decode cX4_puts 27 = .ok (.iload_n 3, 1) := by decide +kernel
theorem dX4_puts_28 : decode cX4_puts 28 = .ok (.iconst 1, 1) := by decide +kernel
theorem dX4_puts_29 : decode cX4_puts 29 = .ok (.isub, 1) := by decide +kernel
theorem dX4_puts_30 : decode cX4_puts 30 = .ok (.iaload, 1) := by decide +kernel
theorem dX4_puts_31 : decode cX4_puts 31 = .ok (.iastore, 1) := by decide +kernel
theorem dX4_puts_32 : decode cX4_puts 32 = .ok (.iinc 3 (-1), 3) := by decide +kernel
theorem dX4_puts_35 : decode cX4_puts 35 = .ok (.goto (-33), 3) := by decide +kernel
theorem dX4_puts_38 : decode cX4_puts 38 = .ok (.aload_n 0, 1) := by decide +kernel
theorem dX4_puts_39 : decode cX4_puts 39 = .ok (.getfield 61, 3) := by decide +kernel
theorem dX4_puts_42 : decode cX4_puts 42 = .ok (.iload_n 3, 1) := by decide +kernel
theorem dX4_puts_43 : decode cX4_puts 43 = .ok (.iload_n 2, 1) := by decide +kernel
theorem dX4_puts_44 : decode cX4_puts 44 = .ok (.iastore, 1) := by decide +kernel
theorem dX4_puts_45 : decode cX4_puts 45 = .ok (.iload_n 1, 1) := by decide +kernel
theorem dX4_puts_46 : decode cX4_puts 46 = .ok (.iconst 1, 1) := by decide +kernel
theorem dX4_puts_47 : decode cX4_puts 47 = .ok (.iadd, 1) := by decide +kernel
theorem dX4_puts_48 : decode cX4_puts 48 = .ok (.ireturn, 1) := by decide +kernel
set_option maxRecDepth 20000 in
theorem ggX4_stepOf_X4_puts : GoodIn wsX4_stepOf wsX4_puts := goodIn_r _ [10, 4, 11, 12, 13, 14, 15, 16, 17, 18, 19, 20, 21, 22, 23, 24, 25, 26, 27, 28, 29, 30, 31, 32] (by decide +kernel) (by decide +kernel)
set_option maxRecDepth 20000 in
theorem gX4_stepOf_X4_puts : GoodIn wsX4_stepOf (wsV RX4 177 RX4 yX4_puts wsX4_puts) := goodIn_app (goodIn_of _ (by decide +kernel)) ggX4_stepOf_X4_puts
theorem dX4_stepOf_0 : decode cX4_stepOf 0 = .ok (.bipush 8, 2) := by decide +kernel
theorem dX4_stepOf_2 : decode cX4_stepOf 2 = .ok (.iload_n 2, 1) := by decide +kernel
theorem dX4_stepOf_3 : decode cX4_stepOf 3 = .ok (.imul, 1) := by decide +kernel
theorem dX4_stepOf_4 : decode cX4_stepOf 4 = .ok (.iload_n 1, 1) := by decide +kernel
theorem dX4_stepOf_5 : decode cX4_stepOf 5 = .ok (.iadd, 1) := by decide +kernel
theorem dX4_stepOf_6 : decode cX4_stepOf 6 = .ok (.istore_n 3, 1) := by decide +kernel
theorem dX4_stepOf_7 : decode cX4_stepOf 7 = .ok (.iconst 0, 1) := by decide +kernel
theorem dX4_stepOf_8 : decode cX4_stepOf 8 = .ok (.istore 4, 2) := by decide +kernel
theorem dX4_stepOf_10 : decode cX4_stepOf 10 = .ok (.iload_n 1, 1) := by decide +kernel
theorem dX4_stepOf_11 : decode cX4_stepOf 11 = .ok (.ifCond .le 20, 3) := by decide +kernel
theorem dX4_stepOf_14 : decode cX4_stepOf 14 = .ok (.aload_n 0, 1) := by decide +kernel
theorem dX4_stepOf_15 : decode cX4_stepOf 15 = .ok (.iload 4, 2) := by decide +kernel
theorem dX4_stepOf_17 : decode cX4_stepOf 17 = .ok (.aload_n 0, 1) := by decide +kernel
theorem dX4_stepOf_18 : decode cX4_stepOf 18 = .ok (.getfield 54, 3) := by decide +kernel
theorem dX4_stepOf_21 : decode cX4_stepOf 21 = .ok (.iload_n 3, 1) := by decide +kernel
theorem dX4_stepOf_22 : decode cX4_stepOf 22 = .ok (.iconst 1, 1) := by decide +kernel
theorem dX4_stepOf_23 : decode cX4_stepOf 23 = .ok (.isub, 1) := by decide +kernel
theorem dX4_stepOf_24 : decode cX4_stepOf 24 = .ok (.iaload, 1) := by decide +kernel
theorem dX4_stepOf_25 : decode cX4_stepOf 25 = .ok (.invokevirtual 177, 3) := by decide +kernel
theorem dX4_stepOf_28 : decode cX4_stepOf 28 = .ok (.goto 5, 3) := by decide +kernel
theorem dX4_stepOf_31 : decode cX4_stepOf 31 = .ok (.iload 4, 2) := by decide +kernel
theorem dX4_stepOf_33 : decode cX4_stepOf 33 = .ok (.istore 4, 2) := by decide +kernel
theorem dX4_stepOf_35 : decode cX4_stepOf 35 = .ok (.iload_n 1, 1) := by decide +kernel
theorem dX4_stepOf_36 : decode cX4_stepOf 36 = .ok (.iconst 1, 1) := by decide +kernel
theorem dX4_stepOf_37 : decode cX4_stepOf 37 = .ok (.iadd, 1) := by decide +kernel
theorem dX4_stepOf_38 : decode cX4_stepOf 38 = .ok (.aload_n 0, 1) := by decide +kernel
theorem dX4_stepOf_39 : decode cX4_stepOf 39 = .ok (.getfield 47, 3) := by decide +kernel
theorem dX4_stepOf_42 : decode cX4_stepOf 42 = .ok (.if_icmp .ge 20, 3) := by decide +kernel
theorem dX4_stepOf_45 : decode cX4_stepOf 45 = .ok (.aload_n 0, 1) := by decide +kernel
theorem dX4_stepOf_46 : decode cX4_stepOf 46 = .ok (.iload 4, 2) := by decide +kernel
theorem dX4_stepOf_48 : decode cX4_stepOf 48 = .ok (.aload_n 0, 1) := by decide +kernel
theorem dX4_stepOf_49 : decode cX4_stepOf 49 = .ok (.getfield 54, 3) := by decide +kernel
theorem dX4_stepOf_52 : decode cX4_stepOf 52 = .ok (.iload_n 3, 1) := by decide +kernel
theorem dX4_stepOf_53 : decode cX4_stepOf 53 = .ok (.iconst 1, 1) := by decide +kernel
theorem dX4_stepOf_54 : decode cX4_stepOf 54 = .ok (.iadd, 1) := by decide +kernel
theorem dX4_stepOf_55 : decode cX4_stepOf 55 = .ok (.iaload, 1) := by decide +kernel
theorem dX4_stepOf_56 : decode cX4_stepOf 56 = .ok (.invokevirtual 177, 3) := by decide +kernel
theorem dX4_stepOf_59 : decode cX4_stepOf 59 = .ok (.goto 5, 3) := by decide +kernel
theorem dX4_stepOf_62 : decode cX4_stepOf 62 = .ok (.iload 4, 2) := by decide +kernel
theorem dX4_stepOf_64 : decode cX4_stepOf 64 = .ok (.istore 4, 2) := by decide +kernel
theorem dX4_stepOf_66 : decode cX4_stepOf 66 = .ok (.iload_n 2, 1) := by decide +kernel
theorem dX4_stepOf_67 : decode cX4_stepOf 67 = .ok (.ifCond .le 21, 3) := by decide +kernel
theorem dX4_stepOf_70 : decode cX4_stepOf 70 = .ok (.aload_n 0, 1) := by decide +kernel
theorem dX4_stepOf_71 : decode cX4_stepOf 71 = .ok (.iload 4, 2) := by decide +kernel
theorem dX4_stepOf_73 : decode cX4_stepOf 73 = .ok (.aload_n 0, 1) := by decide +kernel
theorem dX4_stepOf_74 : decode cX4_stepOf 74 = .ok (.getfield 54, 3) := by decide +kernel
theorem dX4_stepOf_77 : decode cX4_stepOf 77 = .ok (.iload_n 3, 1) := by decide +kernel
theorem dX4_stepOf_78 : decode cX4_stepOf 78 = .ok (.bipush 8, 2) := by decide +kernel
theorem dX4_stepOf_80 : decode cX4_stepOf 80 = .ok (.isub, 1) := by decide +kernel
theorem dX4_stepOf_81 : decode cX4_stepOf 81 = .ok (.iaload, 1) := by decide +kernel
theorem dX4_stepOf_82 : decode cX4_stepOf 82 = .ok (.invokevirtual 177, 3) := by decide +kernel
theorem dX4_stepOf_85 : decode cX4_stepOf 85 = .ok (.goto 5, 3) := by decide +kernel
theorem dX4_stepOf_88 : decode cX4_stepOf 88 = .ok (.iload 4, 2) := by decide +kernel
theorem dX4_stepOf_90 : decode cX4_stepOf 90 = .ok (.istore 4, 2) := by decide +kernel
theorem dX4_stepOf_92 : decode cX4_stepOf 92 = .ok (.iload_n 2, 1) := by decide +kernel
theorem dX4_stepOf_93 : decode cX4_stepOf 93 = .ok (.iconst 1, 1) := by decide +kernel
theorem dX4_stepOf_94 : decode cX4_stepOf 94 = .ok (.iadd, 1) := by decide +kernel
theorem dX4_stepOf_95 : decode cX4_stepOf 95 = .ok (.aload_n 0, 1) := by decide +kernel
theorem dX4_stepOf_96 : decode cX4_stepOf 96 = .ok (.getfield 51, 3) := by decide +kernel
theorem dX4_stepOf_99 : decode cX4_stepOf 99 = .ok (.if_icmp .ge 21, 3) := by decide +kernel
theorem dX4_stepOf_102 : decode cX4_stepOf 102 = .ok (.aload_n 0, 1) := by decide +kernel
theorem dX4_stepOf_103 : decode cX4_stepOf 103 = .ok (.iload 4, 2) := by decide +kernel
theorem dX4_stepOf_105 : decode cX4_stepOf 105 = .ok (.aload_n 0, 1) := by decide +kernel
theorem dX4_stepOf_106 : decode cX4_stepOf 106 = .ok (.getfield 54, 3) := by decide +kernel
theorem dX4_stepOf_109 : decode cX4_stepOf 109 = .ok (.iload_n 3, 1) := by decide +kernel
theorem dX4_stepOf_110 : decode cX4_stepOf 110 = .ok (.bipush 8, 2) := by decide +kernel
theorem dX4_stepOf_112 : decode cX4_stepOf 112 = .ok (.iadd, 1) := by decide +kernel
theorem dX4_stepOf_113 : decode cX4_stepOf 113 = .ok (.iaload, 1) := by decide +kernel
theorem dX4_stepOf_114 : decode cX4_stepOf 114 = .ok (.invokevirtual 177, 3) := by decide +kernel
theorem dX4_stepOf_117 : decode cX4_stepOf 117 = .ok (.goto 5, 3) := by decide +kernel
theorem dX4_stepOf_120 : decode cX4_stepOf 120 = .ok (.iload 4, 2) := by decide +kernel
theorem dX4_stepOf_122 : decode cX4_stepOf 122 = .ok (.istore 4, 2) := by decide +kernel
theorem dX4_stepOf_124 : decode cX4_stepOf 124 = .ok (.aload_n 0, 1) := by decide +kernel
theorem dX4_stepOf_125 : decode cX4_stepOf 125 = .ok (.getfield 61, 3) := by decide +kernel
theorem dX4_stepOf_128 : decode cX4_stepOf 128 = .ok (.iload 4, 2) := by decide +kernel
theorem dX4_stepOf_130 : decode cX4_stepOf 130 = .ok (.iconst 1, 1) := by decide +kernel
theorem dX4_stepOf_131 : decode cX4_stepOf 131 = .ok (.isub, 1) := by decide +kernel
theorem dX4_stepOf_132 : decode cX4_stepOf 132 = .ok (.iconst 2, 1) := by decide +kernel
theorem dX4_stepOf_133 : decode cX4_stepOf 133 = .ok (.idiv, 1) := by decide +kernel
theorem dX4_stepOf_134 : decode cX4_stepOf 134 = .ok (.iaload, 1) := by decide +kernel
theorem dX4_stepOf_135 : decode cX4_stepOf 135 = .ok (.istore 5, 2) := by decide +kernel
theorem dX4_stepOf_137 : decode cX4_stepOf 137 = .ok (.aload_n 0, 1) := by decide +kernel
theorem dX4_stepOf_138 : decode cX4_stepOf 138 = .ok (.getfield 61, 3) := by decide +kernel
theorem dX4_stepOf_141 : decode cX4_stepOf 141 = .ok (.iload 4, 2) := by decide +kernel
theorem dX4_stepOf_143 : decode cX4_stepOf 143 = .ok (.iconst 2, 1) := by decide +kernel
theorem dX4_stepOf_144 : decode cX4_stepOf 144 = .ok (.idiv, 1) := by decide +kernel
theorem dX4_stepOf_145 : decode cX4_stepOf 145 = .ok (.iaload, 1) := by decide +kernel
theorem dX4_stepOf_146 : decode cX4_stepOf 146 = .ok (.istore 6, 2) := by decide +kernel
theorem dX4_stepOf_148 : decode cX4_stepOf 148 = .ok (.aload_n 0, 1) := by decide +kernel
theorem dX4_stepOf_149 : decode cX4_stepOf 149 = .ok (.getfield 57, 3) := by decide +kernel
theorem dX4_stepOf_152 : decode cX4_stepOf 152 = .ok (.iload_n 3, 1) := by decide +kernel
theorem dX4_stepOf_153 : decode cX4_stepOf 153 = .ok (.baload, 1) := by decide +kernel
theorem dX4_stepOf_154 : decode cX4_stepOf 154 = .ok (.ifCond .eq 12, 3) := by decide +kernel
theorem dX4_stepOf_157 : decode cX4_stepOf 157 = .ok (.aload_n 0, 1) := by decide +kernel
theorem dX4_stepOf_158 : decode cX4_stepOf 158 = .ok (.getfield 54, 3) := by decide +kernel
theorem dX4_stepOf_161 : decode cX4_stepOf 161 = .ok (.iload_n 3, 1) := by decide +kernel
theorem dX4_stepOf_162 : decode cX4_stepOf 162 = .ok (.iaload, 1) := by decide +kernel
theorem dX4_stepOf_163 : decode cX4_stepOf 163 = .ok (.goto 41, 3) := by decide +kernel
theorem dX4_stepOf_166 : decode cX4_stepOf 166 = .ok (.aload_n 0, 1) := by decide +kernel
theorem dX4_stepOf_167 : decode cX4_stepOf 167 = .ok (.getfield 54, 3) := by decide +kernel
theorem dX4_stepOf_170 : decode cX4_stepOf 170 = .ok (.iload_n 3, 1) := by decide +kernel
theorem dX4_stepOf_171 : decode cX4_stepOf 171 = .ok (.iaload, 1) := by decide +kernel
theorem dX4_stepOf_172 : decode cX4_stepOf 172 = .ok (.iload 5, 2) := by decide +kernel
theorem dX4_stepOf_174 : decode cX4_stepOf 174 = .ok (.if_icmp .ge 8, 3) := by decide +kernel
theorem dX4_stepOf_177 : decode cX4_stepOf 177 = .ok (.iload 5, 2) := by decide +kernel
theorem dX4_stepOf_179 : decode cX4_stepOf 179 = .ok (.goto 25, 3) := by decide +kernel
theorem dX4_stepOf_182 : decode cX4_stepOf 182 = .ok (.aload_n 0, 1) := by decide +kernel
theorem dX4_stepOf_183 : decode cX4_stepOf 183 = .ok (.getfield 54, 3) := by decide +kernel
theorem dX4_stepOf_186 : decode cX4_stepOf 186 = .ok (.iload_n 3, 1) := by decide +kernel
theorem dX4_stepOf_187 : decode cX4_stepOf 187 = .ok (.iaload, 1) := by decide +kernel
theorem dX4_stepOf_188 : decode cX4_stepOf 188 = .ok (.iload 6, 2) := by decide +kernel
theorem dX4_stepOf_190 : decode cX4_stepOf 190 = .ok (.if_icmp .le 8, 3) := by decide +kernel
theorem dX4_stepOf_193 : decode cX4_stepOf 193 = .ok (.iload 6, 2) := by decide +kernel
theorem dX4_stepOf_195 : decode cX4_stepOf 195 = .ok (.goto 9, 3) := by decide +kernel
theorem dX4_stepOf_198 : decode cX4_stepOf 198 = .ok (.aload_n 0, 1) := by decide +kernel
theorem dX4_stepOf_199 : decode cX4_stepOf 199 = .ok (.getfield 54, 3) := by decide +kernel
theorem dX4_stepOf_202 : decode cX4_stepOf 202 = .ok (.iload_n 3, 1) := by decide +kernel
theorem dX4_stepOf_203 : decode cX4_stepOf 203 = .ok (.iaload, 1) := by decide +kernel
theorem dX4_stepOf_204 : decode cX4_stepOf 204 = .ok (.ireturn, 1) := by decide +kernel
set_option maxRecDepth 20000 in
theorem ggX4_slackOf_X4_stepOf : GoodIn wsX4_slackOf wsX4_stepOf := goodIn_r _ [8, 3, 2, 1, 9, 10, 11, 12, 13, 7, 14, 18, 19, 20, 21, 22, 23, 24, 25, 26, 27, 28, 29, 30, 31, 32, 33, 34, 35, 36, 37, 38, 39] (by decide +kernel) (by decide +kernel)
set_option maxRecDepth 20000 in
theorem gX4_slackOf_X4_stepOf : GoodIn wsX4_slackOf (wsV RX4 180 RX4 yX4_stepOf wsX4_stepOf) := goodIn_app (goodIn_of _ (by decide +kernel)) ggX4_slackOf_X4_stepOf
set_option maxRecDepth 20000 in
theorem ggX4_slackOf_X4_size : GoodIn wsX4_slackOf wsX4_size := goodIn_r _ [17] (by decide +kernel) (by decide +kernel)
set_option maxRecDepth 20000 in
theorem gX4_slackOf_X4_size : GoodIn wsX4_slackOf (va_wsS RX4 174 yX4_size wsX4_size) := goodIn_app (goodIn_of _ (by decide +kernel)) ggX4_slackOf_X4_size
theorem dX4_slackOf_0 : decode cX4_slackOf 0 = .ok (.iconst 0, 1) := by decide +kernel
theorem dX4_slackOf_1 : decode cX4_slackOf 1 = .ok (.istore_n 1, 1) := by decide +kernel
theorem dX4_slackOf_2 : decode cX4_slackOf 2 = .ok (.iconst 0, 1) := by decide +kernel
theorem dX4_slackOf_3 : decode cX4_slackOf 3 = .ok (.istore_n 2, 1) := by decide +kernel
theorem dX4_slackOf_4 : decode cX4_slackOf 4 = .ok (.iload_n 2, 1) := by decide +kernel
theorem dX4_slackOf_5 : decode cX4_slackOf 5 = .ok (.aload_n 0, 1) := by decide +kernel
theorem dX4_slackOf_6 : decode cX4_slackOf 6 = .ok (.getfield 51, 3) := by decide +kernel
theorem dX4_slackOf_9 : decode cX4_slackOf 9 = .ok (.if_icmp .ge 49, 3) := by decide +kernel
theorem dX4_slackOf_12 : decode cX4_slackOf 12 = .ok (.iconst 0, 1) := by decide +kernel
theorem dX4_slackOf_13 : decode cX4_slackOf 13 = .ok (.istore_n 3, 1) := by decide +kernel
theorem dX4_slackOf_14 : decode cX4_slackOf 14 = .ok (.iload_n 3, 1) := by decide +kernel
theorem dX4_slackOf_15 : decode cX4_slackOf 15 = .ok (.aload_n 0, 1) := by decide +kernel
theorem dX4_slackOf_16 : decode cX4_slackOf 16 = .ok (.getfield 47, 3) := by decide +kernel
theorem dX4_slackOf_19 : decode cX4_slackOf 19 = .ok (.if_icmp .ge 33, 3) := by decide +kernel
theorem dX4_slackOf_22 : decode cX4_slackOf 22 = .ok (.iload_n 1, 1) := by decide +kernel
theorem dX4_slackOf_23 : decode cX4_slackOf 23 = .ok (.aload_n 0, 1) := by decide +kernel
theorem dX4_slackOf_24 : decode cX4_slackOf 24 = .ok (.iload_n 3, 1) := by decide +kernel
theorem dX4_slackOf_25 : decode cX4_slackOf 25 = .ok (.iload_n 2, 1) := by decide +kernel
theorem dX4_slackOf_26 : decode cX4_slackOf 26 = .ok (.invokevirtual 180, 3) := by decide +kernel
theorem dX4_slackOf_29 : decode cX4_slackOf 29 = .ok (.aload_n 0, 1) := by decide +kernel
theorem dX4_slackOf_30 : decode cX4_slackOf 30 = .ok (.getfield 54, 3) := by decide +kernel
theorem dX4_slackOf_33 : decode cX4_slackOf 33 = .ok (.bipush 8, 2) := by decide +kernel
theorem dX4_slackOf_35 : decode cX4_slackOf 35 = .ok (.iload_n 2, 1) := by decide +kernel
theorem dX4_slackOf_36 : decode cX4_slackOf 36 = .ok (.imul, 1) := by decide +kernel
theorem dX4_slackOf_37 : decode cX4_slackOf 37 = .ok (.iload_n 3, 1) := by decide +kernel
theorem dX4_slackOf_38 : decode cX4_slackOf 38 = .ok (.iadd, 1) := by decide +kernel
theorem dX4_slackOf_39 : decode cX4_slackOf 39 = .ok (.iaload, 1) := by decide +kernel
theorem dX4_slackOf_40 : decode cX4_slackOf 40 = .ok (.isub, 1) := by decide +kernel
theorem dX4_slackOf_41 : decode cX4_slackOf 41 = .ok (.invokestatic 174, 3) := by decide +kernel
theorem dX4_slackOf_44 : decode cX4_slackOf 44 = .ok (.iadd, 1) := by decide +kernel
theorem dX4_slackOf_45 : decode cX4_slackOf 45 = .ok (.istore_n 1, 1) := by decide +kernel
theorem dX4_slackOf_46 : decode cX4_slackOf 46 = .ok (.iinc 3 1, 3) := by decide +kernel
theorem dX4_slackOf_49 : decode cX4_slackOf 49 = .ok (.goto (-35), 3) := by decide +kernel
theorem dX4_slackOf_52 : decode cX4_slackOf 52 = .ok (.iinc 2 1, 3) := by decide +kernel
theorem dX4_slackOf_55 : decode cX4_slackOf 55 = .ok (.goto (-51), 3) := by decide +kernel
theorem dX4_slackOf_58 : decode cX4_slackOf 58 = .ok (.iload_n 1, 1) := by decide +kernel
theorem dX4_slackOf_59 : decode cX4_slackOf 59 = .ok (.ireturn, 1) := by decide +kernel
set_option maxRecDepth 20000 in
theorem ggX4_slack_X4_slackOf : GoodIn wsX4_slack wsX4_slackOf := goodIn_r _ [6, 7, 8, 9, 10, 11, 12, 5, 13, 14, 15, 16, 17, 18, 19, 20, 21, 22, 23, 24, 25, 26, 27, 28, 29, 30, 31, 32, 33, 34, 35, 36, 37, 38, 39, 40, 41, 42, 43, 44] (by decide +kernel) (by decide +kernel)
set_option maxRecDepth 20000 in
theorem gX4_slack_X4_slackOf : GoodIn wsX4_slack (wsV RX4 183 RX4 yX4_slackOf wsX4_slackOf) := goodIn_app (goodIn_of _ (by decide +kernel)) ggX4_slack_X4_slackOf
theorem dX4_slack_0 : decode cX4_slack 0 = .ok (.aload_n 0, 1) := by decide +kernel
theorem dX4_slack_1 : decode cX4_slack 1 = .ok (.iconst 0, 1) := by decide +kernel
theorem dX4_slack_2 : decode cX4_slack 2 = .ok (.putfield 67, 3) := by decide +kernel
theorem dX4_slack_5 : decode cX4_slack 5 = .ok (.aload_n 0, 1) := by decide +kernel
theorem dX4_slack_6 : decode cX4_slack 6 = .ok (.invokevirtual 183, 3) := by decide +kernel
theorem dX4_slack_9 : decode cX4_slack 9 = .ok (.ireturn, 1) := by decide +kernel
set_option maxRecDepth 20000 in
theorem ggX4_rounds_X4_in : GoodIn wsX4_rounds wsX4_in := goodIn_r _ [9] (by decide +kernel) (by decide +kernel)
set_option maxRecDepth 20000 in
theorem gX4_rounds_X4_in : GoodIn wsX4_rounds (va_wsS RX4 74 yX4_in wsX4_in) := goodIn_app (goodIn_of _ (by decide +kernel)) ggX4_rounds_X4_in
set_option maxRecDepth 20000 in
theorem ggX4_rounds_X4_slackOf : GoodIn wsX4_rounds wsX4_slackOf := goodIn_r _ [13, 3, 4, 5, 14, 15, 16, 8, 17, 18, 19, 20, 21, 22, 23, 24, 25, 26, 27, 28, 29, 30, 31, 32, 33, 34, 35, 36, 37, 38, 39, 40, 41, 42, 43, 44, 45, 46, 47, 48] (by decide +kernel) (by decide +kernel)
set_option maxRecDepth 20000 in
theorem gX4_rounds_X4_slackOf : GoodIn wsX4_rounds (wsV RX4 183 RX4 yX4_slackOf wsX4_slackOf) := goodIn_app (goodIn_of _ (by decide +kernel)) ggX4_rounds_X4_slackOf
set_option maxRecDepth 20000 in
theorem ggX4_rounds_X4_stepOf : GoodIn wsX4_rounds wsX4_stepOf := goodIn_r _ [17, 5, 4, 3, 18, 19, 20, 21, 22, 8, 23, 27, 28, 29, 30, 31, 32, 33, 34, 35, 36, 37, 38, 39, 40, 41, 42, 43, 44, 45, 46, 47, 48] (by decide +kernel) (by decide +kernel)
set_option maxRecDepth 20000 in
theorem gX4_rounds_X4_stepOf : GoodIn wsX4_rounds (wsV RX4 180 RX4 yX4_stepOf wsX4_stepOf) := goodIn_app (goodIn_of _ (by decide +kernel)) ggX4_rounds_X4_stepOf
theorem dX4_rounds_0 : decode cX4_rounds 0 = .ok (.aload_n 0, 1) := by decide +kernel
theorem dX4_rounds_1 : decode cX4_rounds 1 = .ok (.iconst 0, 1) := by decide +kernel
theorem dX4_rounds_2 : decode cX4_rounds 2 = .ok (.putfield 67, 3) := by decide +kernel
theorem dX4_rounds_5 : decode cX4_rounds 5 = .ok (.iload_n 1, 1) := by decide +kernel
theorem dX4_rounds_6 : decode cX4_rounds 6 = .ok (.i2l, 1) := by decide +kernel
theorem dX4_rounds_7 : decode cX4_rounds 7 = .ok (.lconst 1, 1) := by decide +kernel
theorem dX4_rounds_8 : decode cX4_rounds 8 = .ok (.ldc2_w 186, 3) := by decide +kernel
theorem dX4_rounds_11 : decode cX4_rounds 11 = .ok (.invokestatic 74, 3) := by decide +kernel
theorem dX4_rounds_14 : decode cX4_rounds 14 = .ok (.ifCond .ne 5, 3) := by decide +kernel
theorem dX4_rounds_17 : decode cX4_rounds 17 = .ok (.iconst (-1), 1) := by decide +kernel
theorem dX4_rounds_18 : decode cX4_rounds 18 = .ok (.ireturn, 1) := by decide +kernel
theorem dX4_rounds_19 : decode cX4_rounds 19 = .ok (.iconst 0, 1) := by decide +kernel
theorem dX4_rounds_20 : decode cX4_rounds 20 = .ok (.istore_n 2, 1) := by decide +kernel
theorem dX4_rounds_21 : decode cX4_rounds 21 = .ok (.iload_n 2, 1) := by decide +kernel
theorem dX4_rounds_22 : decode cX4_rounds 22 = .ok (.iload_n 1, 1) := by decide +kernel
theorem dX4_rounds_23 : decode cX4_rounds 23 = .ok (.if_icmp .ge 69, 3) := by decide +kernel
theorem dX4_rounds_26 : decode cX4_rounds 26 = .ok (.aload_n 0, 1) := by decide +kernel
theorem dX4_rounds_27 : decode cX4_rounds 27 = .ok (.invokevirtual 183, 3) := by decide +kernel
theorem dX4_rounds_30 : decode cX4_rounds 30 = .ok (.ifCond .le 62, 3) := by decide +kernel
theorem dX4_rounds_33 : decode cX4_rounds 33 = .ok (.iconst 0, 1) := by decide +kernel
theorem dX4_rounds_34 : decode cX4_rounds 34 = .ok (.istore_n 3, 1) := by decide +kernel
theorem dX4_rounds_35 : decode cX4_rounds 35 = .ok (.iload_n 3, 1) := by decide +kernel
theorem dX4_rounds_36 : decode cX4_rounds 36 = .ok (.aload_n 0, 1) := by decide +kernel
theorem dX4_rounds_37 : decode cX4_rounds 37 = .ok (.getfield 51, 3) := by decide +kernel
theorem dX4_rounds_40 : decode cX4_rounds 40 = .ok (.if_icmp .ge 46, 3) := by decide +kernel
theorem dX4_rounds_43 : decode cX4_rounds 43 = .ok (.iconst 0, 1) := by decide +kernel
theorem dX4_rounds_44 : decode cX4_rounds 44 = .ok (.istore 4, 2) := by decide +kernel
theorem dX4_rounds_46 : decode cX4_rounds 46 = .ok (.iload 4, 2) := by decide +kernel
theorem dX4_rounds_48 : decode cX4_rounds 48 = .ok (.aload_n 0, 1) := by decide +kernel
theorem dX4_rounds_49 : decode cX4_rounds 49 = .ok (.getfield 47, 3) := by decide +kernel
theorem dX4_rounds_52 : decode cX4_rounds 52 = .ok (.if_icmp .ge 28, 3) := by decide +kernel
theorem dX4_rounds_55 : decode cX4_rounds 55 = .ok (.aload_n 0, 1) := by decide +kernel
theorem dX4_rounds_56 : decode cX4_rounds 56 = .ok (.getfield 54, 3) := by decide +kernel
theorem dX4_rounds_59 : decode cX4_rounds 59 = .ok (.bipush 8, 2) := by decide +kernel
theorem dX4_rounds_61 : decode cX4_rounds 61 = .ok (.iload_n 3, 1) := by decide +kernel
theorem dX4_rounds_62 : decode cX4_rounds 62 = .ok (.imul, 1) := by decide +kernel
theorem dX4_rounds_63 : decode cX4_rounds 63 = .ok (.iload 4, 2) := by decide +kernel
theorem dX4_rounds_65 : decode cX4_rounds 65 = .ok (.iadd, 1) := by decide +kernel
theorem dX4_rounds_66 : decode cX4_rounds 66 = .ok (.aload_n 0, 1) := by decide +kernel
theorem dX4_rounds_67 : decode cX4_rounds 67 = .ok (.iload 4, 2) := by decide +kernel
theorem dX4_rounds_69 : decode cX4_rounds 69 = .ok (.iload_n 3, 1) := by decide +kernel
theorem dX4_rounds_70 : decode cX4_rounds 70 = .ok (.invokevirtual 180, 3) := by decide +kernel
theorem dX4_rounds_73 : decode cX4_rounds 73 = .ok (.iastore, 1) := by decide +kernel
theorem dX4_rounds_74 : decode cX4_rounds 74 = .ok (.iinc 4 1, 3) := by decide +kernel
theorem dX4_rounds_77 : decode cX4_rounds 77 = .ok (.goto (-31), 3) := by decide +kernel
theorem dX4_rounds_80 : decode cX4_rounds 80 = .ok (.iinc 3 1, 3) := by decide +kernel
theorem dX4_rounds_83 : decode cX4_rounds 83 = .ok (.goto (-48), 3) := by decide +kernel
theorem dX4_rounds_86 : decode cX4_rounds 86 = .ok (.iinc 2 1, 3) := by decide +kernel
theorem dX4_rounds_89 : decode cX4_rounds 89 = .ok (.goto (-68), 3) := by decide +kernel
theorem dX4_rounds_92 : decode cX4_rounds 92 = .ok (.iload_n 2, 1) := by decide +kernel
theorem dX4_rounds_93 : decode cX4_rounds 93 = .ok (.ireturn, 1) := by decide +kernel
set_option maxRecDepth 20000 in
theorem ggX4_count_X4_free : GoodIn wsX4_count wsX4_free := goodIn_r _ [10, 11, 12, 13, 14, 9, 15, 5, 33, 34, 35, 36, 37, 38, 39, 40, 41, 42, 43, 44, 45, 46, 47, 48, 49, 50, 51, 52, 53, 54] (by decide +kernel) (by decide +kernel)
set_option maxRecDepth 20000 in
theorem gX4_count_X4_free : GoodIn wsX4_count (wsV RX4 161 RX4 yX4_free wsX4_free) := goodIn_app (goodIn_of _ (by decide +kernel)) ggX4_count_X4_free
set_option maxRecDepth 20000 in
theorem ggX4_count_X4_slackOf : GoodIn wsX4_count wsX4_slackOf := goodIn_r _ [19, 2, 3, 20, 21, 22, 23, 9, 24, 25, 4, 26, 27, 28, 29, 30, 31, 32, 33, 34, 35, 36, 37, 38, 39, 40, 41, 42, 43, 44, 45, 46, 47, 48, 49, 50, 51, 52, 53, 54] (by decide +kernel) (by decide +kernel)
set_option maxRecDepth 20000 in
theorem gX4_count_X4_slackOf : GoodIn wsX4_count (wsV RX4 183 RX4 yX4_slackOf wsX4_slackOf) := goodIn_app (goodIn_of _ (by decide +kernel)) ggX4_count_X4_slackOf
theorem dX4_count_0 : decode cX4_count 0 = .ok (.aload_n 0, 1) := by decide +kernel
theorem dX4_count_1 : decode cX4_count 1 = .ok (.iconst 0, 1) := by decide +kernel
theorem dX4_count_2 : decode cX4_count 2 = .ok (.putfield 67, 3) := by decide +kernel
theorem dX4_count_5 : decode cX4_count 5 = .ok (.iconst 0, 1) := by decide +kernel
theorem dX4_count_6 : decode cX4_count 6 = .ok (.istore_n 2, 1) := by decide +kernel
theorem dX4_count_7 : decode cX4_count 7 = .ok (.iconst 0, 1) := by decide +kernel
theorem dX4_count_8 : decode cX4_count 8 = .ok (.istore_n 3, 1) := by decide +kernel
theorem dX4_count_9 : decode cX4_count 9 = .ok (.iload_n 3, 1) := by decide +kernel
theorem dX4_count_10 : decode cX4_count 10 = .ok (.aload_n 0, 1) := by decide +kernel
theorem dX4_count_11 : decode cX4_count 11 = .ok (.getfield 51, 3) := by decide +kernel
theorem dX4_count_14 : decode cX4_count 14 = .ok (.if_icmp .ge 50, 3) := by decide +kernel
theorem dX4_count_17 : decode cX4_count 17 = .ok (.iconst 0, 1) := by decide +kernel
theorem dX4_count_18 : decode cX4_count 18 = .ok (.istore 4, 2) := by decide +kernel
theorem dX4_count_20 : decode cX4_count 20 = .ok (.iload 4, 2) := by decide +kernel
theorem dX4_count_22 : decode cX4_count 22 = .ok (.aload_n 0, 1) := by decide +kernel
theorem dX4_count_23 : decode cX4_count 23 = .ok (.getfield 47, 3) := by decide +kernel
theorem dX4_count_26 : decode cX4_count 26 = .ok (.if_icmp .ge 32, 3) := by decide +kernel
theorem dX4_count_29 : decode cX4_count 29 = .ok (.iload_n 2, 1) := by decide +kernel
theorem dX4_count_30 : decode cX4_count 30 = .ok (.aload_n 0, 1) := by decide +kernel
theorem dX4_count_31 : decode cX4_count 31 = .ok (.getfield 57, 3) := by decide +kernel
theorem dX4_count_34 : decode cX4_count 34 = .ok (.bipush 8, 2) := by decide +kernel
theorem dX4_count_36 : decode cX4_count 36 = .ok (.iload_n 3, 1) := by decide +kernel
theorem dX4_count_37 : decode cX4_count 37 = .ok (.imul, 1) := by decide +kernel
theorem dX4_count_38 : decode cX4_count 38 = .ok (.iload 4, 2) := by decide +kernel
theorem dX4_count_40 : decode cX4_count 40 = .ok (.iadd, 1) := by decide +kernel
theorem dX4_count_41 : decode cX4_count 41 = .ok (.baload, 1) := by decide +kernel
theorem dX4_count_42 : decode cX4_count 42 = .ok (.ifCond .eq 7, 3) := by decide +kernel
theorem dX4_count_45 : decode cX4_count 45 = .ok (.iconst 1, 1) := by decide +kernel
theorem dX4_count_46 : decode cX4_count 46 = .ok (.goto 4, 3) := by decide +kernel
theorem dX4_count_49 : decode cX4_count 49 = .ok (.iconst 0, 1) := by decide +kernel
theorem dX4_count_50 : decode cX4_count 50 = .ok (.iadd, 1) := by decide +kernel
theorem dX4_count_51 : decode cX4_count 51 = .ok (.istore_n 2, 1) := by decide +kernel
theorem dX4_count_52 : decode cX4_count 52 = .ok (.iinc 4 1, 3) := by decide +kernel
theorem dX4_count_55 : decode cX4_count 55 = .ok (.goto (-35), 3) := by decide +kernel
theorem dX4_count_58 : decode cX4_count 58 = .ok (.iinc 3 1, 3) := by decide +kernel
theorem dX4_count_61 : decode cX4_count 61 = .ok (.goto (-52), 3) := by decide +kernel
theorem dX4_count_64 : decode cX4_count 64 = .ok (.iload_n 1, 1) := by decide +kernel
theorem dX4_count_65 : decode cX4_count 65 = .ok (.tableswitch 98 0 7 #[47, 54, 61, 68, 73, 78, 83, 85], 47) := by decide +kernel
theorem dX4_count_112 : decode cX4_count 112 = .ok (.aload_n 0, 1) := by decide +kernel
theorem dX4_count_113 : decode cX4_count 113 = .ok (.getfield 7, 3) := by decide +kernel
theorem dX4_count_116 : decode cX4_count 116 = .ok (.iconst 0, 1) := by decide +kernel
theorem dX4_count_117 : decode cX4_count 117 = .ok (.iaload, 1) := by decide +kernel
theorem dX4_count_118 : decode cX4_count 118 = .ok (.ireturn, 1) := by decide +kernel
theorem dX4_count_119 : decode cX4_count 119 = .ok (.aload_n 0, 1) := by decide +kernel
theorem dX4_count_120 : decode cX4_count 120 = .ok (.getfield 7, 3) := by decide +kernel
theorem dX4_count_123 : decode cX4_count 123 = .ok (.iconst 1, 1) := by decide +kernel
theorem dX4_count_124 : decode cX4_count 124 = .ok (.iaload, 1) := by decide +kernel
theorem dX4_count_125 : decode cX4_count 125 = .ok (.ireturn, 1) := by decide +kernel
theorem dX4_count_126 : decode cX4_count 126 = .ok (.aload_n 0, 1) := by decide +kernel
theorem dX4_count_127 : decode cX4_count 127 = .ok (.getfield 7, 3) := by decide +kernel
theorem dX4_count_130 : decode cX4_count 130 = .ok (.iconst 2, 1) := by decide +kernel
theorem dX4_count_131 : decode cX4_count 131 = .ok (.iaload, 1) := by decide +kernel
theorem dX4_count_132 : decode cX4_count 132 = .ok (.ireturn, 1) := by decide +kernel
theorem dX4_count_133 : decode cX4_count 133 = .ok (.aload_n 0, 1) := by decide +kernel
theorem dX4_count_134 : decode cX4_count 134 = .ok (.invokevirtual 161, 3) := by decide +kernel
theorem dX4_count_137 : decode cX4_count 137 = .ok (.ireturn, 1) := by decide +kernel
theorem dX4_count_138 : decode cX4_count 138 = .ok (.aload_n 0, 1) := by decide +kernel
theorem dX4_count_139 : decode cX4_count 139 = .ok (.getfield 47, 3) := by decide +kernel
theorem dX4_count_142 : decode cX4_count 142 = .ok (.ireturn, 1) := by decide +kernel
theorem dX4_count_143 : decode cX4_count 143 = .ok (.aload_n 0, 1) := by decide +kernel
theorem dX4_count_144 : decode cX4_count 144 = .ok (.getfield 51, 3) := by decide +kernel
theorem dX4_count_147 : decode cX4_count 147 = .ok (.ireturn, 1) := by decide +kernel
theorem dX4_count_148 : decode cX4_count 148 = .ok (.iload_n 2, 1) := by decide +kernel
theorem dX4_count_149 : decode cX4_count 149 = .ok (.ireturn, 1) := by decide +kernel
theorem dX4_count_150 : decode cX4_count 150 = .ok (.aload_n 0, 1) := by decide +kernel
theorem dX4_count_151 : decode cX4_count 151 = .ok (.invokevirtual 183, 3) := by decide +kernel
theorem dX4_count_154 : decode cX4_count 154 = .ok (.ifCond .ne 7, 3) := by decide +kernel
theorem dX4_count_157 : decode cX4_count 157 = .ok (.iconst 1, 1) := by decide +kernel
theorem dX4_count_158 : decode cX4_count 158 = .ok (.goto 4, 3) := by decide +kernel
theorem dX4_count_161 : decode cX4_count 161 = .ok (.iconst 0, 1) := by decide +kernel
theorem dX4_count_162 : decode cX4_count 162 = .ok (.ireturn, 1) := by decide +kernel
theorem dX4_count_163 : decode cX4_count 163 = .ok (.iconst (-1), 1) := by decide +kernel
theorem dX4_count_164 : decode cX4_count 164 = .ok (.ireturn, 1) := by decide +kernel
theorem dX4_trace_0 : decode cX4_trace 0 = .ok (.aload_n 0, 1) := by decide +kernel
theorem dX4_trace_1 : decode cX4_trace 1 = .ok (.iconst 0, 1) := by decide +kernel
theorem dX4_trace_2 : decode cX4_trace 2 = .ok (.putfield 67, 3) := by decide +kernel
theorem dX4_trace_5 : decode cX4_trace 5 = .ok (.aload_n 0, 1) := by decide +kernel
theorem dX4_trace_6 : decode cX4_trace 6 = .ok (.getfield 103, 3) := by decide +kernel
theorem dX4_trace_9 : decode cX4_trace 9 = .ok (.lreturn, 1) := by decide +kernel
end
section
theorem bk_64 : (Int8.ofInt (64)).toInt32 = (64 : Int32) := by decide
theorem hde_J7_fill_53178 : yJ7_fill_53178.cls ≠ "java/lang/invoke/MethodHandle" ∧ yJ7_fill_53178.cls ≠ "java/lang/invoke/VarHandle" ∧ (parseMethodDescriptor yJ7_fill_53178.desc).map (fun d => d.parameters.length) = some 2 := by decide +kernel
theorem hde_X4_in : yX4_in.cls ≠ "java/lang/invoke/MethodHandle" ∧ yX4_in.cls ≠ "java/lang/invoke/VarHandle" ∧ (parseMethodDescriptor yX4_in.desc).map (fun d => d.parameters.length) = some 3 := by decide +kernel
theorem hde_X4_puts : yX4_puts.cls = RX4 ∧ yX4_puts.cls ≠ "java/lang/invoke/MethodHandle" ∧ yX4_puts.cls ≠ "java/lang/invoke/VarHandle" ∧ (parseMethodDescriptor yX4_puts.desc).map (fun d => d.parameters.length) = some 2 := by decide +kernel
theorem hde_X4_size : yX4_size.cls ≠ "java/lang/invoke/MethodHandle" ∧ yX4_size.cls ≠ "java/lang/invoke/VarHandle" ∧ (parseMethodDescriptor yX4_size.desc).map (fun d => d.parameters.length) = some 1 := by decide +kernel
theorem hde_X4_slackOf : yX4_slackOf.cls = RX4 ∧ yX4_slackOf.cls ≠ "java/lang/invoke/MethodHandle" ∧ yX4_slackOf.cls ≠ "java/lang/invoke/VarHandle" ∧ (parseMethodDescriptor yX4_slackOf.desc).map (fun d => d.parameters.length) = some 0 := by decide +kernel
theorem hde_X4_stepOf : yX4_stepOf.cls = RX4 ∧ yX4_stepOf.cls ≠ "java/lang/invoke/MethodHandle" ∧ yX4_stepOf.cls ≠ "java/lang/invoke/VarHandle" ∧ (parseMethodDescriptor yX4_stepOf.desc).map (fun d => d.parameters.length) = some 2 := by decide +kernel
def rimI (w h x y : Nat) : Int32 := if x = 0 then 1 else if y = 0 then 1 else if x + 1 = w then 1 else if y + 1 = h then 1 else 0
theorem nI_e0 {x : Nat} (h : x < 2 ^ 31) : nI x = 0 ↔ x = 0 := nI_eq (b := 0) h (by decide)
theorem rim_m {w h x y : Nat} (hw : 2 ≤ w) (hw8 : w ≤ 8) (hh : 2 ≤ h) (hh8 : h ≤ 8) (hx : x < 8) (hy : y < 8) : vp_nar .boolean (if nI x = 0 then (1 : Int32) else (if nI y = 0 then (1 : Int32) else (if nI x = (nI w - (1 : Int32)) then (1 : Int32) else (if nI y = (nI h - (1 : Int32)) then (1 : Int32) else (0 : Int32))))) = rimI w h x y := by
  have e1 : nI w - 1 = nI (w - 1) := pk_sub (b := 1) (by omega)
  have e2 : nI h - 1 = nI (h - 1) := pk_sub (b := 1) (by omega)
  have e3 : (x = w - 1) = (x + 1 = w) := propext ⟨fun _ => by omega, fun _ => by omega⟩
  have e4 : (y = h - 1) = (y + 1 = h) := propext ⟨fun _ => by omega, fun _ => by omega⟩
  have e5 : (nI x = nI (w - 1)) = (x = w - 1) := propext (nI_eq (by omega) (by omega))
  have e6 : (nI y = nI (h - 1)) = (y = h - 1) := propext (nI_eq (by omega) (by omega))
  have e7 : (nI x = 0) = (x = 0) := propext (nI_e0 (by omega))
  have e8 : (nI y = 0) = (y = 0) := propext (nI_e0 (by omega))
  unfold rimI
  simp only [e1, e2, e5, e6, e7, e8, e3, e4]
  (repeat' split) <;> rfl

abbrev w1X2_spread (ad : Nat → Nat) (cA : Nat → ClassId) (u : (Int32) × (Int32) × (Nat → Int32) × (Nat → Int32)) : va_W := [((ad 15), .inr (2, [.ref (ad 16), .ref (ad 17), .ref (ad 18), .int u.1, .int u.2.1])), ((ad 16), .inl (cA 0, 64, .inl u.2.2.1)), ((ad 17), .inl (cA 2, 64, .inl u.2.2.2))]
abbrev wcX2_spread (ad : Nat → Nat) (cA : Nat → ClassId) (P_wide : Int32) (P_high : Int32) (P_heights : Nat → Int32) (P_pinned : Nat → Int32) : va_W := [((ad 15), .inr (2, [.ref (ad 16), .ref (ad 17), .ref (ad 18), .int P_wide, .int P_high])), ((ad 16), .inl (cA 0, 64, .inl P_heights)), ((ad 17), .inl (cA 2, 64, .inl P_pinned))]
def rmX2_spread : Room := { frames := 1, cells := 0, slots := 0, locals := 23 }
abbrev atX2_spread_0 (X : gX) (ad : Nat → Nat) (cA : Nat → ClassId) (p1 : Int32) (p2 : Int32) (P_wide : Int32) (P_high : Int32) (P_heights : Nat → Int32) (P_pinned : Nat → Int32) : Prop := gW X 0 0 [((ad 15), .inr (2, [.ref (ad 16), .ref (ad 17), .ref (ad 18), .int P_wide, .int P_high])), ((ad 16), .inl (cA 0, 64, .inl P_heights)), ((ad 17), .inl (cA 2, 64, .inl P_pinned))] 5 [(0, .ref (ad 15)), (1, .int p1), (2, .int p2)] [] 0
abbrev atX2_spread_20 (X : gX) (ad : Nat → Nat) (cA : Nat → ClassId) (x1 : Int32) (x2 : Int32) (x3 : Int32) (P_wide : Int32) (P_high : Int32) (P_heights : Nat → Int32) (P_pinned : Nat → Int32) : Prop := gW X 0 0 [((ad 15), .inr (2, [.ref (ad 16), .ref (ad 17), .ref (ad 18), .int P_wide, .int P_high])), ((ad 16), .inl (cA 0, 64, .inl P_heights)), ((ad 17), .inl (cA 2, 64, .inl P_pinned))] 5 [(0, .ref (ad 15)), (1, .int x1), (2, .int x2), (3, .int x3)] [] 20
abbrev atX2_spread_28 (X : gX) (ad : Nat → Nat) (cA : Nat → ClassId) (x1 : Int32) (x2 : Int32) (x3 : Int32) (x4 : Int32) (P_wide : Int32) (P_high : Int32) (P_heights : Nat → Int32) (P_pinned : Nat → Int32) : Prop := gW X 0 0 [((ad 15), .inr (2, [.ref (ad 16), .ref (ad 17), .ref (ad 18), .int P_wide, .int P_high])), ((ad 16), .inl (cA 0, 64, .inl P_heights)), ((ad 17), .inl (cA 2, 64, .inl P_pinned))] 5 [(0, .ref (ad 15)), (1, .int x1), (2, .int x2), (3, .int x3), (4, .int x4)] [] 28
theorem giX2_spread_X2 : ∀ w ∈ u_ws RX2 TX2 5, w ∈ wsX2_spread := by decide +kernel
theorem gfX2_spread_22 : gF wsX2_spread RX2 22 2 3 RX2 TX2 5 := ⟨giX2_spread_X2, by decide +kernel, rfl, by decide⟩
theorem gfX2_spread_26 : gF wsX2_spread RX2 26 2 4 RX2 TX2 5 := ⟨giX2_spread_X2, by decide +kernel, rfl, by decide⟩
theorem gfX2_spread_9 : gF wsX2_spread RX2 9 2 0 RX2 TX2 5 := ⟨giX2_spread_X2, by decide +kernel, rfl, by decide⟩
theorem gfX2_spread_15 : gF wsX2_spread RX2 15 2 1 RX2 TX2 5 := ⟨giX2_spread_X2, by decide +kernel, rfl, by decide⟩
set_option maxHeartbeats 4000000 in
set_option maxRecDepth 100000 in
theorem sgX2_spread_0 {X : gX} {ad : Nat → Nat} {cA : Nat → ClassId} {post : ((Int32) × (Int32) × (Nat → Int32) × (Nat → Int32)) → Prop} {p1 : Int32} {p2 : Int32} {P_wide : Int32} {P_high : Int32} {P_heights : Nat → Int32} {P_pinned : Nat → Int32} (C : gC X (gT cA) cX2_spread 5 RX2 wsX2_spread rmX2_spread) (E : gEv X none (gT cA) 0 0 post (w1X2_spread ad cA)) (h : prJ7_fill_53178 (ad 16) 64 (0 : Int32) P_heights ∧ atX2_spread_20 X ad cA p1 p2 (0 : Int32) p1 p2 (fillA 64 (0 : Int32) P_heights) P_pinned) : atX2_spread_0 X ad cA p1 p2 P_wide P_high P_heights P_pinned := by
  refine g_aload_n C dX2_spread_0 rfl 0 rfl ?_
  refine g_iload_n C dX2_spread_1 rfl 1 rfl ?_
  refine g_put (ws2 := [((ad 15), .inr (2, [.ref (ad 16), .ref (ad 17), .ref (ad 18), .int p1, .int P_high])), ((ad 16), .inl (cA 0, 64, .inl P_heights)), ((ad 17), .inl (cA 2, 64, .inl P_pinned))]) C gfX2_spread_22 0 tyX2_ok nmX2 rfl rfl rfl rfl (Nat.le_of_ble_eq_true rfl) rfl dX2_spread_2 ?_
  refine g_aload_n C dX2_spread_5 rfl 0 rfl ?_
  refine g_iload_n C dX2_spread_6 rfl 2 rfl ?_
  refine g_put (ws2 := [((ad 15), .inr (2, [.ref (ad 16), .ref (ad 17), .ref (ad 18), .int p1, .int p2])), ((ad 16), .inl (cA 0, 64, .inl P_heights)), ((ad 17), .inl (cA 2, 64, .inl P_pinned))]) C gfX2_spread_26 0 tyX2_ok nmX2 rfl rfl rfl rfl (Nat.le_of_ble_eq_true rfl) rfl dX2_spread_7 ?_
  refine g_aload_n C dX2_spread_10 rfl 0 rfl ?_
  refine g_get C gfX2_spread_9 0 rfl rfl dX2_spread_11 ?_
  refine g_iconst C dX2_spread_14 ik_0 ?_
  obtain ⟨hi_1, h⟩ := h
  refine g_callSv (b := 0) (wr := [((ad 15), .inr (2, [.ref (ad 16), .ref (ad 17), .ref (ad 18), .int p1, .int p2])), ((ad 17), .inl (cA 2, 64, .inl P_pinned))]) C (c_J7_fill_53178 ad cA (ad 16) 64 (0 : Int32) P_heights hi_1) gX2_spread_J7_fill_53178 rfl hde_J7_fill_53178 ⟨rfl, rfl⟩ (by decide) (by decide) [1] [0, 2] [0, 2, 1] rfl rfl rfl rfl (by decide) rfl (ws2 := fun u => [((ad 15), .inr (2, [.ref (ad 16), .ref (ad 17), .ref (ad 18), .int p1, .int p2])), ((ad 16), .inl (cA 0, 64, .inl u)), ((ad 17), .inl (cA 2, 64, .inl P_pinned))]) (fun _ => rfl) (rest := []) rfl (Nat.le_of_ble_eq_true rfl) dX2_spread_15 (fun u_2 hp_2 => ?_)
  subst hp_2
  change gW X 0 0 [((ad 15), .inr (2, [.ref (ad 16), .ref (ad 17), .ref (ad 18), .int p1, .int p2])), ((ad 16), .inl (cA 0, 64, .inl (fillA 64 (0 : Int32) P_heights))), ((ad 17), .inl (cA 2, 64, .inl P_pinned))] 5 [(0, .ref (ad 15)), (1, .int p1), (2, .int p2)] [] 18
  refine g_iconst C dX2_spread_18 ik_0 ?_
  refine g_istore_n (lv2 := [(0, .ref (ad 15)), (1, .int p1), (2, .int p2), (3, .int (0 : Int32))]) C dX2_spread_19 rfl (by decide) [1, 2, 3, 0] rfl ?_
  exact g_lv [0, 1, 2, 3] rfl h
set_option maxHeartbeats 4000000 in
set_option maxRecDepth 100000 in
theorem sgX2_spread_20 {X : gX} {ad : Nat → Nat} {cA : Nat → ClassId} {post : ((Int32) × (Int32) × (Nat → Int32) × (Nat → Int32)) → Prop} {x1 : Int32} {x2 : Int32} {x3 : Int32} {P_wide : Int32} {P_high : Int32} {P_heights : Nat → Int32} {P_pinned : Nat → Int32} (C : gC X (gT cA) cX2_spread 5 RX2 wsX2_spread rmX2_spread) (E : gEv X none (gT cA) 0 0 post (w1X2_spread ad cA)) (h : (x2 ≤ x3 → post (P_wide, P_high, P_heights, P_pinned)) ∧ (¬ x2 ≤ x3 → atX2_spread_28 X ad cA x1 x2 x3 (0 : Int32) P_wide P_high P_heights P_pinned)) : atX2_spread_20 X ad cA x1 x2 x3 P_wide P_high P_heights P_pinned := by
  refine g_iload_n C dX2_spread_20 rfl 3 rfl ?_
  refine g_iload_n C dX2_spread_21 rfl 2 rfl ?_
  refine g_icmp_ge (tgt := 87) C dX2_spread_22 (by decide) (fun c_3 => ?_) (fun c_3 => ?_)
  · replace h := h.1 c_3
    exact g_vret C E (P_wide, P_high, P_heights, P_pinned) h rfl dX2_spread_87
  · replace h := h.2 c_3
    refine g_iconst C dX2_spread_25 ik_0 ?_
    refine g_istore (lv2 := [(0, .ref (ad 15)), (1, .int x1), (2, .int x2), (3, .int x3), (4, .int (0 : Int32))]) C dX2_spread_26 (by decide) [1, 2, 3, 4, 0] rfl ?_
    exact g_lv [0, 1, 2, 3, 4] rfl h
set_option maxHeartbeats 4000000 in
set_option maxRecDepth 100000 in
theorem sgX2_spread_28 {X : gX} {ad : Nat → Nat} {cA : Nat → ClassId} {post : ((Int32) × (Int32) × (Nat → Int32) × (Nat → Int32)) → Prop} {x1 : Int32} {x2 : Int32} {x3 : Int32} {x4 : Int32} {P_wide : Int32} {P_high : Int32} {P_heights : Nat → Int32} {P_pinned : Nat → Int32} (C : gC X (gT cA) cX2_spread 5 RX2 wsX2_spread rmX2_spread) (E : gEv X none (gT cA) 0 0 post (w1X2_spread ad cA)) (h : (x1 ≤ x4 → atX2_spread_20 X ad cA x1 x2 (x3 + 1) P_wide P_high P_heights P_pinned) ∧ (¬ x1 ≤ x4 → vp_in (fnX2_at x4 x3 P_wide P_high) 64 ∧ atX2_spread_28 X ad cA x1 x2 x3 (x4 + 1) P_wide P_high P_heights (upd P_pinned (fnX2_at x4 x3 P_wide P_high).toNatClampNeg (vp_nar .boolean (if x4 = 0 then (1 : Int32) else (if x3 = 0 then (1 : Int32) else (if x4 = (x1 - (1 : Int32)) then (1 : Int32) else (if x3 = (x2 - (1 : Int32)) then (1 : Int32) else (0 : Int32))))))))) : atX2_spread_28 X ad cA x1 x2 x3 x4 P_wide P_high P_heights P_pinned := by
  refine g_iload C dX2_spread_28 4 rfl ?_
  refine g_iload_n C dX2_spread_30 rfl 1 rfl ?_
  refine g_icmp_ge (tgt := 81) C dX2_spread_31 (by decide) (fun c_4 => ?_) (fun c_4 => ?_)
  · replace h := h.1 c_4
    refine g_iinc (v := (x3 + 1)) (lv2 := [(0, .ref (ad 15)), (1, .int x1), (2, .int x2), (3, .int (x3 + 1)), (4, .int x4)]) C dX2_spread_81 3 rfl (by first | rfl | decide) (by decide) [1, 2, 3, 0, 4] rfl ?_
    refine g_goto (tgt := 20) C dX2_spread_84 (by decide) ?_
    exact g_lv [0, 1, 2, 3] rfl h
  · replace h := h.2 c_4
    refine g_aload_n C dX2_spread_34 rfl 0 rfl ?_
    refine g_get C gfX2_spread_15 0 rfl rfl dX2_spread_35 ?_
    refine g_aload_n C dX2_spread_38 rfl 0 rfl ?_
    refine g_iload C dX2_spread_39 4 rfl ?_
    refine g_iload_n C dX2_spread_41 rfl 3 rfl ?_
    refine g_callVi (wr := [((ad 16), .inl (cA 0, 64, .inl P_heights)), ((ad 17), .inl (cA 2, 64, .inl P_pinned))]) C (c_X2_at ad cA x4 x3 P_wide P_high) gX2_spread_X2_at rfl hde_X2_at ⟨rfl, rfl⟩ (by decide) (by decide) [0] [1, 2] [2, 0, 1] rfl rfl rfl rfl (by decide) rfl (ws2 := fun u => [((ad 15), .inr (2, [.ref (ad 16), .ref (ad 17), .ref (ad 18), .int P_wide, .int P_high])), ((ad 16), .inl (cA 0, 64, .inl P_heights)), ((ad 17), .inl (cA 2, 64, .inl P_pinned))]) (fun _ => rfl) 2 0 rfl rfl rfl (rest := [.ref (ad 17)]) rfl (Nat.le_of_ble_eq_true rfl) dX2_spread_42 (fun r_5 u_5 hp_5 => ?_)
    subst hp_5
    change gW X 0 0 [((ad 15), .inr (2, [.ref (ad 16), .ref (ad 17), .ref (ad 18), .int P_wide, .int P_high])), ((ad 16), .inl (cA 0, 64, .inl P_heights)), ((ad 17), .inl (cA 2, 64, .inl P_pinned))] 5 [(0, .ref (ad 15)), (1, .int x1), (2, .int x2), (3, .int x3), (4, .int x4)] [.int (fnX2_at x4 x3 P_wide P_high), .ref (ad 17)] 45
    refine g_iload C dX2_spread_45 4 rfl ?_
    have key : gW X 0 0 [((ad 15), .inr (2, [.ref (ad 16), .ref (ad 17), .ref (ad 18), .int P_wide, .int P_high])), ((ad 16), .inl (cA 0, 64, .inl P_heights)), ((ad 17), .inl (cA 2, 64, .inl P_pinned))] 5 [(0, .ref (ad 15)), (1, .int x1), (2, .int x2), (3, .int x3), (4, .int x4)] [.int (if x4 = 0 then (1 : Int32) else (if x3 = 0 then (1 : Int32) else (if x4 = (x1 - (1 : Int32)) then (1 : Int32) else (if x3 = (x2 - (1 : Int32)) then (1 : Int32) else (0 : Int32))))), .int (fnX2_at x4 x3 P_wide P_high), .ref (ad 17)] 74 := by
      obtain ⟨hi_10, h⟩ := h
      refine g_zast (ws2 := [((ad 15), .inr (2, [.ref (ad 16), .ref (ad 17), .ref (ad 18), .int P_wide, .int P_high])), ((ad 16), .inl (cA 0, 64, .inl P_heights)), ((ad 17), .inl (cA 2, 64, .inl (upd P_pinned (fnX2_at x4 x3 P_wide P_high).toNatClampNeg (vp_nar .boolean (if x4 = 0 then (1 : Int32) else (if x3 = 0 then (1 : Int32) else (if x4 = (x1 - (1 : Int32)) then (1 : Int32) else (if x3 = (x2 - (1 : Int32)) then (1 : Int32) else (0 : Int32)))))))))]) C 2 2 rfl rfl hi_10 rfl dX2_spread_74 ?_
      refine g_iinc (v := (x4 + 1)) (lv2 := [(0, .ref (ad 15)), (1, .int x1), (2, .int x2), (3, .int x3), (4, .int (x4 + 1))]) C dX2_spread_75 4 rfl (by first | rfl | decide) (by decide) [1, 2, 3, 4, 0] rfl ?_
      refine g_goto (tgt := 28) C dX2_spread_78 (by decide) ?_
      exact g_lv [0, 1, 2, 3, 4] rfl h
    refine g_if_eq (tgt := 69) C dX2_spread_47 (by decide) (fun c_6 => ?_) (fun c_6 => ?_)
    · refine g_iconst C dX2_spread_69 ik_1 ?_
      refine g_goto (tgt := 74) C dX2_spread_70 (by decide) ?_
      exact g_leaf (by simp only [if_pos c_6] at key; first | exact key | (simp only [if_pos c_6]; exact key) | exact absurd rfl c_6)
    · refine g_iload_n C dX2_spread_50 rfl 3 rfl ?_
      have key : gW X 0 0 [((ad 15), .inr (2, [.ref (ad 16), .ref (ad 17), .ref (ad 18), .int P_wide, .int P_high])), ((ad 16), .inl (cA 0, 64, .inl P_heights)), ((ad 17), .inl (cA 2, 64, .inl P_pinned))] 5 [(0, .ref (ad 15)), (1, .int x1), (2, .int x2), (3, .int x3), (4, .int x4)] [.int (if x3 = 0 then (1 : Int32) else (if x4 = (x1 - (1 : Int32)) then (1 : Int32) else (if x3 = (x2 - (1 : Int32)) then (1 : Int32) else (0 : Int32)))), .int (fnX2_at x4 x3 P_wide P_high), .ref (ad 17)] 74 := by
        exact g_leaf (by simp only [if_neg c_6] at key; first | exact key | (simp only [if_neg c_6]; exact key) | exact absurd rfl c_6)
      refine g_if_eq (tgt := 69) C dX2_spread_51 (by decide) (fun c_7 => ?_) (fun c_7 => ?_)
      · refine g_iconst C dX2_spread_69 ik_1 ?_
        refine g_goto (tgt := 74) C dX2_spread_70 (by decide) ?_
        exact g_leaf (by simp only [if_pos c_7] at key; first | exact key | (simp only [if_pos c_7]; exact key) | exact absurd rfl c_7)
      · refine g_iload C dX2_spread_54 4 rfl ?_
        refine g_iload_n C dX2_spread_56 rfl 1 rfl ?_
        refine g_iconst C dX2_spread_57 ik_1 ?_
        refine g_isub C dX2_spread_58 ?_
        have key : gW X 0 0 [((ad 15), .inr (2, [.ref (ad 16), .ref (ad 17), .ref (ad 18), .int P_wide, .int P_high])), ((ad 16), .inl (cA 0, 64, .inl P_heights)), ((ad 17), .inl (cA 2, 64, .inl P_pinned))] 5 [(0, .ref (ad 15)), (1, .int x1), (2, .int x2), (3, .int x3), (4, .int x4)] [.int (if x4 = (x1 - (1 : Int32)) then (1 : Int32) else (if x3 = (x2 - (1 : Int32)) then (1 : Int32) else (0 : Int32))), .int (fnX2_at x4 x3 P_wide P_high), .ref (ad 17)] 74 := by
          exact g_leaf (by simp only [if_neg c_7] at key; first | exact key | (simp only [if_neg c_7]; exact key) | exact absurd rfl c_7)
        refine g_icmp_eq (tgt := 69) C dX2_spread_59 (by decide) (fun c_8 => ?_) (fun c_8 => ?_)
        · refine g_iconst C dX2_spread_69 ik_1 ?_
          refine g_goto (tgt := 74) C dX2_spread_70 (by decide) ?_
          exact g_leaf (by simp only [if_pos c_8] at key; first | exact key | (simp only [if_pos c_8]; exact key) | exact absurd rfl c_8)
        · refine g_iload_n C dX2_spread_62 rfl 3 rfl ?_
          refine g_iload_n C dX2_spread_63 rfl 2 rfl ?_
          refine g_iconst C dX2_spread_64 ik_1 ?_
          refine g_isub C dX2_spread_65 ?_
          have key : gW X 0 0 [((ad 15), .inr (2, [.ref (ad 16), .ref (ad 17), .ref (ad 18), .int P_wide, .int P_high])), ((ad 16), .inl (cA 0, 64, .inl P_heights)), ((ad 17), .inl (cA 2, 64, .inl P_pinned))] 5 [(0, .ref (ad 15)), (1, .int x1), (2, .int x2), (3, .int x3), (4, .int x4)] [.int (if x3 = (x2 - (1 : Int32)) then (1 : Int32) else (0 : Int32)), .int (fnX2_at x4 x3 P_wide P_high), .ref (ad 17)] 74 := by
            exact g_leaf (by simp only [if_neg c_8] at key; first | exact key | (simp only [if_neg c_8]; exact key) | exact absurd rfl c_8)
          refine g_icmp_ne (tgt := 73) C dX2_spread_66 (by decide) (fun c_9 => ?_) (fun c_9 => ?_)
          · refine g_iconst C dX2_spread_73 ik_0 ?_
            exact g_leaf (by simp only [if_neg c_9] at key; first | exact key | (simp only [if_neg c_9]; exact key) | exact absurd rfl c_9)
          · refine g_iconst C dX2_spread_69 ik_1 ?_
            refine g_goto (tgt := 74) C dX2_spread_70 (by decide) ?_
            exact g_leaf (by simp only [if_pos c_9] at key; first | exact key | (simp only [if_pos c_9]; exact key) | exact absurd rfl c_9)
def prX2_spread (p1 : Int32) (p2 : Int32) (P_wide : Int32) (P_high : Int32) (P_heights : Nat → Int32) (P_pinned : Nat → Int32) : Prop := netOK p1 p2
def po_X2_spread (ad : Nat → Nat) (cA : Nat → ClassId) (p1 : Int32) (p2 : Int32) (P_wide : Int32) (P_high : Int32) (P_heights : Nat → Int32) (P_pinned : Nat → Int32) (u : (Int32) × (Int32) × (Nat → Int32) × (Nat → Int32)) : Prop := u.1 = p1 ∧ u.2.1 = p2 ∧ u.2.2.1 = fillA 64 0 P_heights ∧ ∀ y, y < p2.toNatClampNeg → ∀ x, x < p1.toNatClampNeg → u.2.2.2 (8 * y + x) = rimI p1.toNatClampNeg p2.toNatClampNeg x y
set_option maxHeartbeats 4000000 in
set_option maxRecDepth 100000 in
theorem c_X2_spread (ad : Nat → Nat) (cA : Nat → ClassId) (p1 : Int32) (p2 : Int32) (P_wide : Int32) (P_high : Int32) (P_heights : Nat → Int32) (P_pinned : Nat → Int32) (hq : prX2_spread p1 p2 P_wide P_high P_heights P_pinned) : ∀ (l : Launch) (D : va_G), gMv (S := (Int32) × (Int32) × (Nat → Int32) × (Nat → Int32)) l yX2_spread wsX2_spread rmX2_spread D (gT cA) 0 0 [.ref (ad 15), .int p1, .int p2] (wcX2_spread ad cA P_wide P_high P_heights P_pinned) (po_X2_spread ad cA p1 p2 P_wide P_high P_heights P_pinned) (w1X2_spread ad cA) := by
  intro l D
  unfold prX2_spread at hq
  refine g_enterv (cc := cX2_spread) (nL := 5) (ret := none) (by decide) rfl (Nat.le_of_ble_eq_true rfl) rfl (fun X C E => ?_)
  obtain ⟨w, h, hw2, hw, hh2, hh, rfl, rfl⟩ := hq
  refine sgX2_spread_0 C E ⟨(by decide : 64 < 2147483648), ?_⟩
  have hpo : ∀ (pin : Nat → Int32), (∀ y, y < h → ∀ x, x < w → pin (8 * y + x) = rimI w h x y) → po_X2_spread ad cA (nI w) (nI h) P_wide P_high P_heights P_pinned (nI w, nI h, fillA 64 0 P_heights, pin) := fun pin e => by
    refine ⟨rfl, rfl, rfl, ?_⟩
    rw [nI_clamp (by omega), nI_clamp (by omega)]; exact e
  have outer : ∀ y, y ≤ h → ∀ pin, (∀ b, b < y → ∀ x, x < w → pin (8 * b + x) = rimI w h x b) → atX2_spread_20 X ad cA (nI w) (nI h) (nI y) (nI w) (nI h) (fillA 64 0 P_heights) pin := by
    intro y hy
    refine up_loop (P := fun y => ∀ pin, (∀ b, b < y → ∀ x, x < w → pin (8 * b + x) = rimI w h x b) → atX2_spread_20 X ad cA (nI w) (nI h) (nI y) (nI w) (nI h) (fillA 64 0 P_heights) pin) h ?_ (fun y hy ih pin hi => ?_) y hy
    · exact fun pin hi => sgX2_spread_20 C E ⟨fun _ => hpo pin hi, fun c => absurd (i32_le_refl _) c⟩
    · refine sgX2_spread_20 C E ⟨fun c => absurd c (nI_ge hy (by omega)), fun _ => ?_⟩
      have inner : ∀ x, x ≤ w → ∀ pin, ((∀ b, b < y → ∀ x, x < w → pin (8 * b + x) = rimI w h x b) ∧ ∀ a, a < x → pin (8 * y + a) = rimI w h a y) → atX2_spread_28 X ad cA (nI w) (nI h) (nI y) (nI x) (nI w) (nI h) (fillA 64 0 P_heights) pin := by
        intro x hx
        refine up_loop (P := fun x => ∀ pin, ((∀ b, b < y → ∀ x, x < w → pin (8 * b + x) = rimI w h x b) ∧ ∀ a, a < x → pin (8 * y + a) = rimI w h a y) → atX2_spread_28 X ad cA (nI w) (nI h) (nI y) (nI x) (nI w) (nI h) (fillA 64 0 P_heights) pin) w ?_ (fun x hx ih2 pin hi2 => ?_) x hx
        · refine fun pin hi2 => sgX2_spread_28 C E ⟨fun _ => ?_, fun c => absurd (i32_le_refl _) c⟩
          rw [nI_1]
          refine ih pin (fun b hb x hx => ?_)
          rcases Nat.lt_or_ge b y with q | q
          · exact hi2.1 b q x hx
          · have e : b = y := by omega
            rw [e]; exact hi2.2 x hx
        · refine sgX2_spread_28 C E ⟨fun c => absurd c (nI_ge hx (by omega)), fun _ => ?_⟩
          rw [at_eq, nI_clamp (by omega), nI_1, rim_m hw2 hw hh2 hh (by omega) (by omega)]
          refine ⟨vp_in_nI (by omega) (by decide), ih2 _ ⟨fun b hb x' hx' => ?_, fun a ha => ?_⟩⟩
          · rw [upd_n _ _ (by omega)]; exact hi2.1 b hb x' hx'
          · rcases Nat.lt_or_ge a x with q | q
            · rw [upd_n _ _ (by omega)]; exact hi2.2 a q
            · have e : a = x := by omega
              rw [e, upd_s]
      exact inner 0 (Nat.zero_le _) pin ⟨hi, fun a ha => absurd ha (Nat.not_lt_zero a)⟩
  exact outer 0 (Nat.zero_le _) P_pinned (fun b hb => absurd hb (Nat.not_lt_zero b))


abbrev w1X4_in (ad : Nat → Nat) (cA : Nat → ClassId) (u : Unit) : va_W := []
abbrev wcX4_in (ad : Nat → Nat) (cA : Nat → ClassId) : va_W := []
def rmX4_in : Room := { frames := 0, cells := 0, slots := 0, locals := 0 }
abbrev atX4_in_0 (X : gX) (ad : Nat → Nat) (cA : Nat → ClassId) (p1 : Int64) (p2 : Int64) (p3 : Int64) : Prop := gW X 0 0 [] 6 [(0, .long p1), (2, .long p2), (4, .long p3)] [] 0
set_option maxHeartbeats 4000000 in
set_option maxRecDepth 100000 in
theorem sgX4_in_0 {X : gX} {ad : Nat → Nat} {cA : Nat → ClassId} {post : Int32 → (Unit) → Prop} {p1 : Int64} {p2 : Int64} {p3 : Int64} (C : gC X (gT cA) cX4_in 6 RX4 wsX4_in rmX4_in) (E : gEi X (some .boolean) (gT cA) 0 0 post (w1X4_in ad cA)) (h : (p1 < p2 → post (0 : Int32) ()) ∧ (¬ p1 < p2 → (p3 < p1 → post (0 : Int32) ()) ∧ (¬ p3 < p1 → post (1 : Int32) ()))) : atX4_in_0 X ad cA p1 p2 p3 := by
  refine g_lload_n C dX4_in_0 rfl 0 rfl ?_
  refine g_lload_n C dX4_in_1 rfl 1 rfl ?_
  refine g_lcmp_lt (tgt := 17) C dX4_in_2 dX4_in_3 rfl (by decide) (fun c_1 => ?_) (fun c_1 => ?_)
  · replace h := h.1 c_1
    refine g_iconst C dX4_in_17 ik_0 ?_
    exact g_zret C E rfl () h rfl dX4_in_18
  · replace h := h.2 c_1
    refine g_lload_n C dX4_in_6 rfl 0 rfl ?_
    refine g_lload C dX4_in_7 2 rfl ?_
    refine g_lcmp_gt (tgt := 17) C dX4_in_9 dX4_in_10 rfl (by decide) (fun c_2 => ?_) (fun c_2 => ?_)
    · replace h := h.1 c_2
      refine g_iconst C dX4_in_17 ik_0 ?_
      exact g_zret C E rfl () h rfl dX4_in_18
    · replace h := h.2 c_2
      refine g_iconst C dX4_in_13 ik_1 ?_
      refine g_goto (tgt := 18) C dX4_in_14 (by decide) ?_
      exact g_zret C E rfl () h rfl dX4_in_18
def fnX4_in (p1 : Int64) (p2 : Int64) (p3 : Int64) : Bool := (if p1 < p2 then false else (if p3 < p1 then false else true))
set_option maxHeartbeats 4000000 in
set_option maxRecDepth 100000 in
theorem c_X4_in (ad : Nat → Nat) (cA : Nat → ClassId) (p1 : Int64) (p2 : Int64) (p3 : Int64) : ∀ (l : Launch) (D : va_G), gMi (S := Unit) l yX4_in wsX4_in rmX4_in D (gT cA) 0 0 [.long p1, .long p2, .long p3] (wcX4_in ad cA) (fun r _ => r = bI (fnX4_in p1 p2 p3)) (w1X4_in ad cA) := by
  intro l D
  refine g_enteri (cc := cX4_in) (nL := 6) (ret := (some .boolean)) (by decide) rfl (Nat.le_of_ble_eq_true rfl) rfl (fun X C E => sgX4_in_0 C E ?_)
  refine ⟨fun c_3 => ?_, fun c_3 => ?_⟩
  · exact (by unfold fnX4_in; first | rfl | (simp only [if_pos c_3]; done) | (simp only [if_pos c_3]; rfl))
  · refine ⟨fun c_4 => ?_, fun c_4 => ?_⟩
    · exact (by unfold fnX4_in; first | rfl | (simp only [if_neg c_3, if_pos c_4]; done) | (simp only [if_neg c_3, if_pos c_4]; rfl))
    · exact (by unfold fnX4_in; first | rfl | (simp only [if_neg c_3, if_neg c_4]; done) | (simp only [if_neg c_3, if_neg c_4]; rfl))

abbrev w1X4_size (ad : Nat → Nat) (cA : Nat → ClassId) (u : Unit) : va_W := []
abbrev wcX4_size (ad : Nat → Nat) (cA : Nat → ClassId) : va_W := []
def rmX4_size : Room := { frames := 0, cells := 0, slots := 0, locals := 0 }
abbrev atX4_size_0 (X : gX) (ad : Nat → Nat) (cA : Nat → ClassId) (p1 : Int32) : Prop := gW X 0 0 [] 1 [(0, .int p1)] [] 0
set_option maxHeartbeats 4000000 in
set_option maxRecDepth 100000 in
theorem sgX4_size_0 {X : gX} {ad : Nat → Nat} {cA : Nat → ClassId} {post : Int32 → (Unit) → Prop} {p1 : Int32} (C : gC X (gT cA) cX4_size 1 RX4 wsX4_size rmX4_size) (E : gEi X (some .int) (gT cA) 0 0 post (w1X4_size ad cA)) (h : (0 ≤ p1 → post p1 ()) ∧ (¬ 0 ≤ p1 → post (-p1) ())) : atX4_size_0 X ad cA p1 := by
  refine g_iload_n C dX4_size_0 rfl 0 rfl ?_
  refine g_if_ge (tgt := 9) C dX4_size_1 (by decide) (fun c_1 => ?_) (fun c_1 => ?_)
  · replace h := h.1 c_1
    refine g_iload_n C dX4_size_9 rfl 0 rfl ?_
    exact g_iret C E () h rfl dX4_size_10
  · replace h := h.2 c_1
    refine g_iload_n C dX4_size_4 rfl 0 rfl ?_
    refine g_ineg C dX4_size_5 ?_
    refine g_goto (tgt := 10) C dX4_size_6 (by decide) ?_
    exact g_iret C E () h rfl dX4_size_10
def fnX4_size (p1 : Int32) : Int32 := (if 0 ≤ p1 then p1 else (-p1))
set_option maxHeartbeats 4000000 in
set_option maxRecDepth 100000 in
theorem c_X4_size (ad : Nat → Nat) (cA : Nat → ClassId) (p1 : Int32) : ∀ (l : Launch) (D : va_G), gMi (S := Unit) l yX4_size wsX4_size rmX4_size D (gT cA) 0 0 [.int p1] (wcX4_size ad cA) (fun r _ => r = fnX4_size p1) (w1X4_size ad cA) := by
  intro l D
  refine g_enteri (cc := cX4_size) (nL := 1) (ret := (some .int)) (by decide) rfl (Nat.le_of_ble_eq_true rfl) rfl (fun X C E => sgX4_size_0 C E ?_)
  refine ⟨fun c_2 => ?_, fun c_2 => ?_⟩
  · exact (by unfold fnX4_size; first | rfl | (simp only [if_pos c_2]; done) | (simp only [if_pos c_2]; rfl))
  · exact (by unfold fnX4_size; first | rfl | (simp only [if_neg c_2]; done) | (simp only [if_neg c_2]; rfl))

abbrev w1X4_isPoint (ad : Nat → Nat) (cA : Nat → ClassId) (M_thrown : Int32) (M_trace : Int64) (M_found : Int64) (M_foundSet : Int64) (M_foundTimes : Int64) (M_w : Int32) (M_h : Int32) (u : Unit) : va_W := [((ad 19), .inr (4, [.int M_thrown, .long M_trace, .ref (ad 20), .ref (ad 21), .ref (ad 22), .ref (ad 23), .ref (ad 24), .ref (ad 25), .ref (ad 26), .ref (ad 27), .ref (ad 28), .ref (ad 29), .ref (ad 30), .ref (ad 31), .long M_found, .long M_foundSet, .long M_foundTimes, .int M_w, .int M_h, .ref (ad 32), .ref (ad 33), .ref (ad 34)]))]
abbrev wcX4_isPoint (ad : Nat → Nat) (cA : Nat → ClassId) (M_thrown : Int32) (M_trace : Int64) (M_found : Int64) (M_foundSet : Int64) (M_foundTimes : Int64) (M_w : Int32) (M_h : Int32) : va_W := [((ad 19), .inr (4, [.int M_thrown, .long M_trace, .ref (ad 20), .ref (ad 21), .ref (ad 22), .ref (ad 23), .ref (ad 24), .ref (ad 25), .ref (ad 26), .ref (ad 27), .ref (ad 28), .ref (ad 29), .ref (ad 30), .ref (ad 31), .long M_found, .long M_foundSet, .long M_foundTimes, .int M_w, .int M_h, .ref (ad 32), .ref (ad 33), .ref (ad 34)]))]
def rmX4_isPoint : Room := { frames := 1, cells := 0, slots := 0, locals := 25 }
abbrev atX4_isPoint_0 (X : gX) (ad : Nat → Nat) (cA : Nat → ClassId) (p1 : Int32) (p2 : Int32) (M_thrown : Int32) (M_trace : Int64) (M_found : Int64) (M_foundSet : Int64) (M_foundTimes : Int64) (M_w : Int32) (M_h : Int32) : Prop := gW X 0 0 [((ad 19), .inr (4, [.int M_thrown, .long M_trace, .ref (ad 20), .ref (ad 21), .ref (ad 22), .ref (ad 23), .ref (ad 24), .ref (ad 25), .ref (ad 26), .ref (ad 27), .ref (ad 28), .ref (ad 29), .ref (ad 30), .ref (ad 31), .long M_found, .long M_foundSet, .long M_foundTimes, .int M_w, .int M_h, .ref (ad 32), .ref (ad 33), .ref (ad 34)]))] 3 [(0, .ref (ad 19)), (1, .int p1), (2, .int p2)] [] 0
theorem giX4_isPoint_X4 : ∀ w ∈ u_ws RX4 TX4 22, w ∈ wsX4_isPoint := by decide +kernel
theorem gfX4_isPoint_47 : gF wsX4_isPoint RX4 47 4 17 RX4 TX4 22 := ⟨giX4_isPoint_X4, by decide +kernel, rfl, by decide⟩
theorem gfX4_isPoint_51 : gF wsX4_isPoint RX4 51 4 18 RX4 TX4 22 := ⟨giX4_isPoint_X4, by decide +kernel, rfl, by decide⟩
set_option maxHeartbeats 4000000 in
set_option maxRecDepth 100000 in
theorem sgX4_isPoint_0 {X : gX} {ad : Nat → Nat} {cA : Nat → ClassId} {post : Int32 → (Unit) → Prop} {p1 : Int32} {p2 : Int32} {M_thrown : Int32} {M_trace : Int64} {M_found : Int64} {M_foundSet : Int64} {M_foundTimes : Int64} {M_w : Int32} {M_h : Int32} (C : gC X (gT cA) cX4_isPoint 3 RX4 wsX4_isPoint rmX4_isPoint) (E : gEi X (some .boolean) (gT cA) 0 0 post (w1X4_isPoint ad cA M_thrown M_trace M_found M_foundSet M_foundTimes M_w M_h)) (h : ((fnX4_in p1.toInt64 (0 : Int64) ((M_w - (1 : Int32)).toInt64)) = false → post (0 : Int32) ()) ∧ ((fnX4_in p1.toInt64 (0 : Int64) ((M_w - (1 : Int32)).toInt64)) = true → ((fnX4_in p2.toInt64 (0 : Int64) ((M_h - (1 : Int32)).toInt64)) = false → post (0 : Int32) ()) ∧ ((fnX4_in p2.toInt64 (0 : Int64) ((M_h - (1 : Int32)).toInt64)) = true → post (1 : Int32) ()))) : atX4_isPoint_0 X ad cA p1 p2 M_thrown M_trace M_found M_foundSet M_foundTimes M_w M_h := by
  refine g_iload_n C dX4_isPoint_0 rfl 1 rfl ?_
  refine g_i2l C dX4_isPoint_1 ?_
  refine g_lconst C dX4_isPoint_2 lk_0 ?_
  refine g_aload_n C dX4_isPoint_3 rfl 0 rfl ?_
  refine g_get C gfX4_isPoint_47 0 rfl rfl dX4_isPoint_4 ?_
  refine g_iconst C dX4_isPoint_7 ik_1 ?_
  refine g_isub C dX4_isPoint_8 ?_
  refine g_i2l C dX4_isPoint_9 ?_
  refine g_callSi (b := 0) (wr := [((ad 19), .inr (4, [.int M_thrown, .long M_trace, .ref (ad 20), .ref (ad 21), .ref (ad 22), .ref (ad 23), .ref (ad 24), .ref (ad 25), .ref (ad 26), .ref (ad 27), .ref (ad 28), .ref (ad 29), .ref (ad 30), .ref (ad 31), .long M_found, .long M_foundSet, .long M_foundTimes, .int M_w, .int M_h, .ref (ad 32), .ref (ad 33), .ref (ad 34)]))]) C (c_X4_in ad cA p1.toInt64 (0 : Int64) ((M_w - (1 : Int32)).toInt64)) gX4_isPoint_X4_in rfl hde_X4_in ⟨rfl, rfl⟩ (by decide) (by decide) [] [0] [0] rfl rfl rfl rfl (by decide) rfl (ws2 := fun u => [((ad 19), .inr (4, [.int M_thrown, .long M_trace, .ref (ad 20), .ref (ad 21), .ref (ad 22), .ref (ad 23), .ref (ad 24), .ref (ad 25), .ref (ad 26), .ref (ad 27), .ref (ad 28), .ref (ad 29), .ref (ad 30), .ref (ad 31), .long M_found, .long M_foundSet, .long M_foundTimes, .int M_w, .int M_h, .ref (ad 32), .ref (ad 33), .ref (ad 34)]))]) (fun _ => rfl) (rest := []) rfl (Nat.le_of_ble_eq_true rfl) dX4_isPoint_10 (fun r_1 u_1 hp_1 => ?_)
  subst hp_1
  change gW X 0 0 [((ad 19), .inr (4, [.int M_thrown, .long M_trace, .ref (ad 20), .ref (ad 21), .ref (ad 22), .ref (ad 23), .ref (ad 24), .ref (ad 25), .ref (ad 26), .ref (ad 27), .ref (ad 28), .ref (ad 29), .ref (ad 30), .ref (ad 31), .long M_found, .long M_foundSet, .long M_foundTimes, .int M_w, .int M_h, .ref (ad 32), .ref (ad 33), .ref (ad 34)]))] 3 [(0, .ref (ad 19)), (1, .int p1), (2, .int p2)] [.int (bI (fnX4_in p1.toInt64 (0 : Int64) ((M_w - (1 : Int32)).toInt64)))] 13
  refine g_ifeq_b (tgt := 36) C dX4_isPoint_13 (by decide) (fun c_2 => ?_) (fun c_2 => ?_)
  · replace h := h.1 c_2
    refine g_iconst C dX4_isPoint_36 ik_0 ?_
    exact g_zret C E rfl () h rfl dX4_isPoint_37
  · replace h := h.2 c_2
    refine g_iload_n C dX4_isPoint_16 rfl 2 rfl ?_
    refine g_i2l C dX4_isPoint_17 ?_
    refine g_lconst C dX4_isPoint_18 lk_0 ?_
    refine g_aload_n C dX4_isPoint_19 rfl 0 rfl ?_
    refine g_get C gfX4_isPoint_51 0 rfl rfl dX4_isPoint_20 ?_
    refine g_iconst C dX4_isPoint_23 ik_1 ?_
    refine g_isub C dX4_isPoint_24 ?_
    refine g_i2l C dX4_isPoint_25 ?_
    refine g_callSi (b := 0) (wr := [((ad 19), .inr (4, [.int M_thrown, .long M_trace, .ref (ad 20), .ref (ad 21), .ref (ad 22), .ref (ad 23), .ref (ad 24), .ref (ad 25), .ref (ad 26), .ref (ad 27), .ref (ad 28), .ref (ad 29), .ref (ad 30), .ref (ad 31), .long M_found, .long M_foundSet, .long M_foundTimes, .int M_w, .int M_h, .ref (ad 32), .ref (ad 33), .ref (ad 34)]))]) C (c_X4_in ad cA p2.toInt64 (0 : Int64) ((M_h - (1 : Int32)).toInt64)) gX4_isPoint_X4_in rfl hde_X4_in ⟨rfl, rfl⟩ (by decide) (by decide) [] [0] [0] rfl rfl rfl rfl (by decide) rfl (ws2 := fun u => [((ad 19), .inr (4, [.int M_thrown, .long M_trace, .ref (ad 20), .ref (ad 21), .ref (ad 22), .ref (ad 23), .ref (ad 24), .ref (ad 25), .ref (ad 26), .ref (ad 27), .ref (ad 28), .ref (ad 29), .ref (ad 30), .ref (ad 31), .long M_found, .long M_foundSet, .long M_foundTimes, .int M_w, .int M_h, .ref (ad 32), .ref (ad 33), .ref (ad 34)]))]) (fun _ => rfl) (rest := []) rfl (Nat.le_of_ble_eq_true rfl) dX4_isPoint_26 (fun r_3 u_3 hp_3 => ?_)
    subst hp_3
    change gW X 0 0 [((ad 19), .inr (4, [.int M_thrown, .long M_trace, .ref (ad 20), .ref (ad 21), .ref (ad 22), .ref (ad 23), .ref (ad 24), .ref (ad 25), .ref (ad 26), .ref (ad 27), .ref (ad 28), .ref (ad 29), .ref (ad 30), .ref (ad 31), .long M_found, .long M_foundSet, .long M_foundTimes, .int M_w, .int M_h, .ref (ad 32), .ref (ad 33), .ref (ad 34)]))] 3 [(0, .ref (ad 19)), (1, .int p1), (2, .int p2)] [.int (bI (fnX4_in p2.toInt64 (0 : Int64) ((M_h - (1 : Int32)).toInt64)))] 29
    refine g_ifeq_b (tgt := 36) C dX4_isPoint_29 (by decide) (fun c_4 => ?_) (fun c_4 => ?_)
    · replace h := h.1 c_4
      refine g_iconst C dX4_isPoint_36 ik_0 ?_
      exact g_zret C E rfl () h rfl dX4_isPoint_37
    · replace h := h.2 c_4
      refine g_iconst C dX4_isPoint_32 ik_1 ?_
      refine g_goto (tgt := 37) C dX4_isPoint_33 (by decide) ?_
      exact g_zret C E rfl () h rfl dX4_isPoint_37
def fnX4_isPoint (p1 : Int32) (p2 : Int32) (M_thrown : Int32) (M_trace : Int64) (M_found : Int64) (M_foundSet : Int64) (M_foundTimes : Int64) (M_w : Int32) (M_h : Int32) : Bool := (if (fnX4_in p1.toInt64 (0 : Int64) ((M_w - (1 : Int32)).toInt64)) = true then (if (fnX4_in p2.toInt64 (0 : Int64) ((M_h - (1 : Int32)).toInt64)) = true then true else false) else false)
set_option maxHeartbeats 4000000 in
set_option maxRecDepth 100000 in
theorem c_X4_isPoint (ad : Nat → Nat) (cA : Nat → ClassId) (p1 : Int32) (p2 : Int32) (M_thrown : Int32) (M_trace : Int64) (M_found : Int64) (M_foundSet : Int64) (M_foundTimes : Int64) (M_w : Int32) (M_h : Int32) : ∀ (l : Launch) (D : va_G), gMi (S := Unit) l yX4_isPoint wsX4_isPoint rmX4_isPoint D (gT cA) 0 0 [.ref (ad 19), .int p1, .int p2] (wcX4_isPoint ad cA M_thrown M_trace M_found M_foundSet M_foundTimes M_w M_h) (fun r _ => r = bI (fnX4_isPoint p1 p2 M_thrown M_trace M_found M_foundSet M_foundTimes M_w M_h)) (w1X4_isPoint ad cA M_thrown M_trace M_found M_foundSet M_foundTimes M_w M_h) := by
  intro l D
  refine g_enteri (cc := cX4_isPoint) (nL := 3) (ret := (some .boolean)) (by decide) rfl (Nat.le_of_ble_eq_true rfl) rfl (fun X C E => sgX4_isPoint_0 C E ?_)
  refine ⟨fun c_6 => ?_, fun c_6 => ?_⟩
  · exact (by unfold fnX4_isPoint; first | rfl | (simp only [if_neg (show ¬ (fnX4_in p1.toInt64 (0 : Int64) ((M_w - (1 : Int32)).toInt64)) = true from by rw [c_6]; decide)]; done) | (simp only [if_neg (show ¬ (fnX4_in p1.toInt64 (0 : Int64) ((M_w - (1 : Int32)).toInt64)) = true from by rw [c_6]; decide)]; rfl))
  · refine ⟨fun c_8 => ?_, fun c_8 => ?_⟩
    · exact (by unfold fnX4_isPoint; first | rfl | (simp only [if_pos c_6, if_neg (show ¬ (fnX4_in p2.toInt64 (0 : Int64) ((M_h - (1 : Int32)).toInt64)) = true from by rw [c_8]; decide)]; done) | (simp only [if_pos c_6, if_neg (show ¬ (fnX4_in p2.toInt64 (0 : Int64) ((M_h - (1 : Int32)).toInt64)) = true from by rw [c_8]; decide)]; rfl))
    · exact (by unfold fnX4_isPoint; first | rfl | (simp only [if_pos c_6, if_pos c_8]; done) | (simp only [if_pos c_6, if_pos c_8]; rfl))

abbrev w1X4_puts (ad : Nat → Nat) (cA : Nat → ClassId) (M_thrown : Int32) (M_trace : Int64) (M_found : Int64) (M_foundSet : Int64) (M_foundTimes : Int64) (M_w : Int32) (M_h : Int32) (u : (Nat → Int32)) : va_W := [((ad 19), .inr (4, [.int M_thrown, .long M_trace, .ref (ad 20), .ref (ad 21), .ref (ad 22), .ref (ad 23), .ref (ad 24), .ref (ad 25), .ref (ad 26), .ref (ad 27), .ref (ad 28), .ref (ad 29), .ref (ad 30), .ref (ad 31), .long M_found, .long M_foundSet, .long M_foundTimes, .int M_w, .int M_h, .ref (ad 32), .ref (ad 33), .ref (ad 34)])), ((ad 34), .inl (cA 0, 4, .inl u))]
abbrev wcX4_puts (ad : Nat → Nat) (cA : Nat → ClassId) (M_thrown : Int32) (M_trace : Int64) (M_found : Int64) (M_foundSet : Int64) (M_foundTimes : Int64) (M_w : Int32) (M_h : Int32) (M_beside : Nat → Int32) : va_W := [((ad 19), .inr (4, [.int M_thrown, .long M_trace, .ref (ad 20), .ref (ad 21), .ref (ad 22), .ref (ad 23), .ref (ad 24), .ref (ad 25), .ref (ad 26), .ref (ad 27), .ref (ad 28), .ref (ad 29), .ref (ad 30), .ref (ad 31), .long M_found, .long M_foundSet, .long M_foundTimes, .int M_w, .int M_h, .ref (ad 32), .ref (ad 33), .ref (ad 34)])), ((ad 34), .inl (cA 0, 4, .inl M_beside))]
def rmX4_puts : Room := { frames := 0, cells := 0, slots := 0, locals := 0 }
abbrev atX4_puts_0 (X : gX) (ad : Nat → Nat) (cA : Nat → ClassId) (p1 : Int32) (p2 : Int32) (M_thrown : Int32) (M_trace : Int64) (M_found : Int64) (M_foundSet : Int64) (M_foundTimes : Int64) (M_w : Int32) (M_h : Int32) (M_beside : Nat → Int32) : Prop := gW X 0 0 [((ad 19), .inr (4, [.int M_thrown, .long M_trace, .ref (ad 20), .ref (ad 21), .ref (ad 22), .ref (ad 23), .ref (ad 24), .ref (ad 25), .ref (ad 26), .ref (ad 27), .ref (ad 28), .ref (ad 29), .ref (ad 30), .ref (ad 31), .long M_found, .long M_foundSet, .long M_foundTimes, .int M_w, .int M_h, .ref (ad 32), .ref (ad 33), .ref (ad 34)])), ((ad 34), .inl (cA 0, 4, .inl M_beside))] 4 [(0, .ref (ad 19)), (1, .int p1), (2, .int p2)] [] 0
abbrev atX4_puts_2 (X : gX) (ad : Nat → Nat) (cA : Nat → ClassId) (x1 : Int32) (x2 : Int32) (x3 : Int32) (M_thrown : Int32) (M_trace : Int64) (M_found : Int64) (M_foundSet : Int64) (M_foundTimes : Int64) (M_w : Int32) (M_h : Int32) (M_beside : Nat → Int32) : Prop := gW X 0 0 [((ad 19), .inr (4, [.int M_thrown, .long M_trace, .ref (ad 20), .ref (ad 21), .ref (ad 22), .ref (ad 23), .ref (ad 24), .ref (ad 25), .ref (ad 26), .ref (ad 27), .ref (ad 28), .ref (ad 29), .ref (ad 30), .ref (ad 31), .long M_found, .long M_foundSet, .long M_foundTimes, .int M_w, .int M_h, .ref (ad 32), .ref (ad 33), .ref (ad 34)])), ((ad 34), .inl (cA 0, 4, .inl M_beside))] 4 [(0, .ref (ad 19)), (1, .int x1), (2, .int x2), (3, .int x3)] [] 2
theorem giX4_puts_X4 : ∀ w ∈ u_ws RX4 TX4 22, w ∈ wsX4_puts := by decide +kernel
theorem gfX4_puts_61 : gF wsX4_puts RX4 61 4 21 RX4 TX4 22 := ⟨giX4_puts_X4, by decide +kernel, rfl, by decide⟩
set_option maxHeartbeats 4000000 in
set_option maxRecDepth 100000 in
theorem sgX4_puts_0 {X : gX} {ad : Nat → Nat} {cA : Nat → ClassId} {post : Int32 → ((Nat → Int32)) → Prop} {p1 : Int32} {p2 : Int32} {M_thrown : Int32} {M_trace : Int64} {M_found : Int64} {M_foundSet : Int64} {M_foundTimes : Int64} {M_w : Int32} {M_h : Int32} {M_beside : Nat → Int32} (C : gC X (gT cA) cX4_puts 4 RX4 wsX4_puts rmX4_puts) (E : gEi X (some .int) (gT cA) 0 0 post (w1X4_puts ad cA M_thrown M_trace M_found M_foundSet M_foundTimes M_w M_h)) (h : atX4_puts_2 X ad cA p1 p2 p1 M_thrown M_trace M_found M_foundSet M_foundTimes M_w M_h M_beside) : atX4_puts_0 X ad cA p1 p2 M_thrown M_trace M_found M_foundSet M_foundTimes M_w M_h M_beside := by
  refine g_iload_n C dX4_puts_0 rfl 1 rfl ?_
  refine g_istore_n (lv2 := [(0, .ref (ad 19)), (1, .int p1), (2, .int p2), (3, .int p1)]) C dX4_puts_1 rfl (by decide) [1, 2, 3, 0] rfl ?_
  exact g_lv [0, 1, 2, 3] rfl h
set_option maxHeartbeats 4000000 in
set_option maxRecDepth 100000 in
theorem sgX4_puts_2 {X : gX} {ad : Nat → Nat} {cA : Nat → ClassId} {post : Int32 → ((Nat → Int32)) → Prop} {x1 : Int32} {x2 : Int32} {x3 : Int32} {M_thrown : Int32} {M_trace : Int64} {M_found : Int64} {M_foundSet : Int64} {M_foundTimes : Int64} {M_w : Int32} {M_h : Int32} {M_beside : Nat → Int32} (C : gC X (gT cA) cX4_puts 4 RX4 wsX4_puts rmX4_puts) (E : gEi X (some .int) (gT cA) 0 0 post (w1X4_puts ad cA M_thrown M_trace M_found M_foundSet M_foundTimes M_w M_h)) (h : (x3 ≤ 0 → vp_in x3 4 ∧ post (x1 + (1 : Int32)) (upd M_beside x3.toNatClampNeg x2)) ∧ (¬ x3 ≤ 0 → vp_in (x3 - (1 : Int32)) 4 ∧ ((M_beside (x3 - (1 : Int32)).toNatClampNeg) ≤ x2 → vp_in x3 4 ∧ post (x1 + (1 : Int32)) (upd M_beside x3.toNatClampNeg x2)) ∧ (¬ (M_beside (x3 - (1 : Int32)).toNatClampNeg) ≤ x2 → vp_in (x3 - (1 : Int32)) 4 ∧ vp_in x3 4 ∧ atX4_puts_2 X ad cA x1 x2 (x3 + (-1)) M_thrown M_trace M_found M_foundSet M_foundTimes M_w M_h (upd M_beside x3.toNatClampNeg (M_beside (x3 - (1 : Int32)).toNatClampNeg))))) : atX4_puts_2 X ad cA x1 x2 x3 M_thrown M_trace M_found M_foundSet M_foundTimes M_w M_h M_beside := by
  refine g_iload_n C dX4_puts_2 rfl 3 rfl ?_
  refine g_if_le (tgt := 38) C dX4_puts_3 (by decide) (fun c_1 => ?_) (fun c_1 => ?_)
  · replace h := h.1 c_1
    refine g_aload_n C dX4_puts_38 rfl 0 rfl ?_
    refine g_get C gfX4_puts_61 0 rfl rfl dX4_puts_39 ?_
    refine g_iload_n C dX4_puts_42 rfl 3 rfl ?_
    refine g_iload_n C dX4_puts_43 rfl 2 rfl ?_
    obtain ⟨hi_2, h⟩ := h
    refine g_iast (ws2 := [((ad 19), .inr (4, [.int M_thrown, .long M_trace, .ref (ad 20), .ref (ad 21), .ref (ad 22), .ref (ad 23), .ref (ad 24), .ref (ad 25), .ref (ad 26), .ref (ad 27), .ref (ad 28), .ref (ad 29), .ref (ad 30), .ref (ad 31), .long M_found, .long M_foundSet, .long M_foundTimes, .int M_w, .int M_h, .ref (ad 32), .ref (ad 33), .ref (ad 34)])), ((ad 34), .inl (cA 0, 4, .inl (upd M_beside x3.toNatClampNeg x2)))]) C 1 0 rfl rfl hi_2 rfl dX4_puts_44 ?_
    refine g_iload_n C dX4_puts_45 rfl 1 rfl ?_
    refine g_iconst C dX4_puts_46 ik_1 ?_
    refine g_iadd C dX4_puts_47 ?_
    exact g_iret C E (upd M_beside x3.toNatClampNeg x2) h rfl dX4_puts_48
  · replace h := h.2 c_1
    refine g_aload_n C dX4_puts_6 rfl 0 rfl ?_
    refine g_get C gfX4_puts_61 0 rfl rfl dX4_puts_7 ?_
    refine g_iload_n C dX4_puts_10 rfl 3 rfl ?_
    refine g_iconst C dX4_puts_11 ik_1 ?_
    refine g_isub C dX4_puts_12 ?_
    obtain ⟨hi_3, h⟩ := h
    refine g_iald C 1 0 rfl rfl hi_3 dX4_puts_13 ?_
    refine g_iload_n C dX4_puts_14 rfl 2 rfl ?_
    refine g_icmp_le (tgt := 38) C dX4_puts_15 (by decide) (fun c_4 => ?_) (fun c_4 => ?_)
    · replace h := h.1 c_4
      refine g_aload_n C dX4_puts_38 rfl 0 rfl ?_
      refine g_get C gfX4_puts_61 0 rfl rfl dX4_puts_39 ?_
      refine g_iload_n C dX4_puts_42 rfl 3 rfl ?_
      refine g_iload_n C dX4_puts_43 rfl 2 rfl ?_
      obtain ⟨hi_5, h⟩ := h
      refine g_iast (ws2 := [((ad 19), .inr (4, [.int M_thrown, .long M_trace, .ref (ad 20), .ref (ad 21), .ref (ad 22), .ref (ad 23), .ref (ad 24), .ref (ad 25), .ref (ad 26), .ref (ad 27), .ref (ad 28), .ref (ad 29), .ref (ad 30), .ref (ad 31), .long M_found, .long M_foundSet, .long M_foundTimes, .int M_w, .int M_h, .ref (ad 32), .ref (ad 33), .ref (ad 34)])), ((ad 34), .inl (cA 0, 4, .inl (upd M_beside x3.toNatClampNeg x2)))]) C 1 0 rfl rfl hi_5 rfl dX4_puts_44 ?_
      refine g_iload_n C dX4_puts_45 rfl 1 rfl ?_
      refine g_iconst C dX4_puts_46 ik_1 ?_
      refine g_iadd C dX4_puts_47 ?_
      exact g_iret C E (upd M_beside x3.toNatClampNeg x2) h rfl dX4_puts_48
    · replace h := h.2 c_4
      refine g_aload_n C dX4_puts_18 rfl 0 rfl ?_
      refine g_get C gfX4_puts_61 0 rfl rfl dX4_puts_19 ?_
      refine g_iload_n C dX4_puts_22 rfl 3 rfl ?_
      refine g_aload_n C dX4_puts_23 rfl 0 rfl ?_
      refine g_get C gfX4_puts_61 0 rfl rfl dX4_puts_24 ?_
      refine g_iload_n C dX4_puts_27 rfl 3 rfl ?_
      refine g_iconst C dX4_puts_28 ik_1 ?_
      refine g_isub C dX4_puts_29 ?_
      obtain ⟨hi_6, h⟩ := h
      refine g_iald C 1 0 rfl rfl hi_6 dX4_puts_30 ?_
      obtain ⟨hi_7, h⟩ := h
      refine g_iast (ws2 := [((ad 19), .inr (4, [.int M_thrown, .long M_trace, .ref (ad 20), .ref (ad 21), .ref (ad 22), .ref (ad 23), .ref (ad 24), .ref (ad 25), .ref (ad 26), .ref (ad 27), .ref (ad 28), .ref (ad 29), .ref (ad 30), .ref (ad 31), .long M_found, .long M_foundSet, .long M_foundTimes, .int M_w, .int M_h, .ref (ad 32), .ref (ad 33), .ref (ad 34)])), ((ad 34), .inl (cA 0, 4, .inl (upd M_beside x3.toNatClampNeg (M_beside (x3 - (1 : Int32)).toNatClampNeg))))]) C 1 0 rfl rfl hi_7 rfl dX4_puts_31 ?_
      refine g_iinc (v := (x3 + (-1))) (lv2 := [(0, .ref (ad 19)), (1, .int x1), (2, .int x2), (3, .int (x3 + (-1)))]) C dX4_puts_32 3 rfl (by first | rfl | decide) (by decide) [1, 2, 3, 0] rfl ?_
      refine g_goto (tgt := 2) C dX4_puts_35 (by decide) ?_
      exact g_lv [0, 1, 2, 3] rfl h
def prX4_puts (p1 : Int32) (p2 : Int32) (M_thrown : Int32) (M_trace : Int64) (M_found : Int64) (M_foundSet : Int64) (M_foundTimes : Int64) (M_w : Int32) (M_h : Int32) (M_beside : Nat → Int32) : Prop := vp_in p1 4
def po_X4_puts (ad : Nat → Nat) (cA : Nat → ClassId) (p1 : Int32) (p2 : Int32) (M_thrown : Int32) (M_trace : Int64) (M_found : Int64) (M_foundSet : Int64) (M_foundTimes : Int64) (M_w : Int32) (M_h : Int32) (M_beside : Nat → Int32) (r : Int32) (u : (Nat → Int32)) : Prop := r = p1 + 1 ∧ u = insA M_beside p1.toNatClampNeg p2
set_option maxHeartbeats 4000000 in
set_option maxRecDepth 100000 in
theorem c_X4_puts (ad : Nat → Nat) (cA : Nat → ClassId) (p1 : Int32) (p2 : Int32) (M_thrown : Int32) (M_trace : Int64) (M_found : Int64) (M_foundSet : Int64) (M_foundTimes : Int64) (M_w : Int32) (M_h : Int32) (M_beside : Nat → Int32) (hq : prX4_puts p1 p2 M_thrown M_trace M_found M_foundSet M_foundTimes M_w M_h M_beside) : ∀ (l : Launch) (D : va_G), gMi (S := (Nat → Int32)) l yX4_puts wsX4_puts rmX4_puts D (gT cA) 0 0 [.ref (ad 19), .int p1, .int p2] (wcX4_puts ad cA M_thrown M_trace M_found M_foundSet M_foundTimes M_w M_h M_beside) (po_X4_puts ad cA p1 p2 M_thrown M_trace M_found M_foundSet M_foundTimes M_w M_h M_beside) (w1X4_puts ad cA M_thrown M_trace M_found M_foundSet M_foundTimes M_w M_h) := by
  intro l D
  unfold prX4_puts at hq
  refine g_enteri (cc := cX4_puts) (nL := 4) (ret := (some .int)) (by decide) rfl (Nat.le_of_ble_eq_true rfl) rfl (fun X C E => ?_)
  obtain ⟨j, hj, rfl⟩ := vp_in_of hq (by decide)
  refine sgX4_puts_0 C E ?_
  have hpo : ∀ (r : Int32) (u : Nat → Int32), r = nI j + 1 → u = insA M_beside j p2 → po_X4_puts ad cA (nI j) p2 M_thrown M_trace M_found M_foundSet M_foundTimes M_w M_h M_beside r u := fun r u h1 h2 => ⟨h1, by rw [nI_clamp (by omega)]; exact h2⟩
  have loop : ∀ (i : Nat) (g : Nat → Int32), i < 4 → insA g i p2 = insA M_beside j p2 → atX4_puts_2 X ad cA (nI j) p2 (nI i) M_thrown M_trace M_found M_foundSet M_foundTimes M_w M_h g := by
    intro i
    induction i with
    | zero =>
      intro g _ e
      refine sgX4_puts_2 C E ⟨fun _ => ⟨vp_in_nI (by omega) (by decide), hpo _ _ rfl ?_⟩, fun c => absurd (nI_le (Nat.le_refl 0) (by decide)) c⟩
      rw [← e, nI_clamp (by decide)]; rfl
    | succ i ih =>
      intro g hi e
      have e1 : nI (i + 1) - 1 = nI i := nI_pred i
      have hc : vp_in (nI i) 4 := vp_in_nI (by omega) (by decide)
      refine sgX4_puts_2 C E ⟨fun c => absurd c (nI_nle (by omega) (by omega)), fun _ => ?_⟩
      rw [e1, nI_clamp (by omega)]
      refine ⟨hc, fun c => ⟨vp_in_nI (by omega) (by decide), hpo _ _ rfl ?_⟩, fun c => ⟨hc, vp_in_nI (by omega) (by decide), ?_⟩⟩
      · rw [← e, nI_clamp (by omega)]
        show _ = insA g (i + 1) p2
        rw [insA, if_neg (by rw [Int32.not_lt]; exact c)]
      · rw [show nI (i + 1) + (-1) = nI i from pk_m1 i, nI_clamp (by omega)]
        refine ih _ (by omega) ?_
        rw [← e]
        show _ = insA g (i + 1) p2
        rw [insA, if_pos (by rw [← Int32.not_le]; exact c)]
  exact loop j M_beside hj rfl


theorem puts_step {ad : Nat → Nat} {cA : Nat → ClassId} {M_thrown : Int32} {M_trace M_found M_foundSet M_foundTimes : Int64} {M_w M_h : Int32} {q : Nat × (Nat → Int32)} {r v : Int32} {u : Nat → Int32} (hp : po_X4_puts ad cA (nI q.1) v M_thrown M_trace M_found M_foundSet M_foundTimes M_w M_h q.2 r u) (hq4 : q.1 < 4) : r = nI (pst true v q).1 ∧ u = (pst true v q).2 := by
  obtain ⟨h1, h2⟩ := hp
  rw [nI_clamp (by omega)] at h2
  exact ⟨by rw [h1]; exact nI_1 _, h2⟩
theorem m8_eq (x y : Nat) : (8 : Int32) * nI y + nI x = nI (8 * y + x) := by
  show nI 8 * nI y + nI x = _
  rw [pk_mul, nI_add]

abbrev w1X4_stepOf (ad : Nat → Nat) (cA : Nat → ClassId) (M_thrown : Int32) (M_trace : Int64) (M_found : Int64) (M_foundSet : Int64) (M_foundTimes : Int64) (M_w : Int32) (M_h : Int32) (M_height : Nat → Int32) (M_isPinned : Nat → Int32) (u : (Nat → Int32)) : va_W := [((ad 19), .inr (4, [.int M_thrown, .long M_trace, .ref (ad 20), .ref (ad 21), .ref (ad 22), .ref (ad 23), .ref (ad 24), .ref (ad 25), .ref (ad 26), .ref (ad 27), .ref (ad 28), .ref (ad 29), .ref (ad 30), .ref (ad 31), .long M_found, .long M_foundSet, .long M_foundTimes, .int M_w, .int M_h, .ref (ad 32), .ref (ad 33), .ref (ad 34)])), ((ad 32), .inl (cA 0, 64, .inl M_height)), ((ad 33), .inl (cA 2, 64, .inl M_isPinned)), ((ad 34), .inl (cA 0, 4, .inl u))]
abbrev wcX4_stepOf (ad : Nat → Nat) (cA : Nat → ClassId) (M_thrown : Int32) (M_trace : Int64) (M_found : Int64) (M_foundSet : Int64) (M_foundTimes : Int64) (M_w : Int32) (M_h : Int32) (M_height : Nat → Int32) (M_isPinned : Nat → Int32) (M_beside : Nat → Int32) : va_W := [((ad 19), .inr (4, [.int M_thrown, .long M_trace, .ref (ad 20), .ref (ad 21), .ref (ad 22), .ref (ad 23), .ref (ad 24), .ref (ad 25), .ref (ad 26), .ref (ad 27), .ref (ad 28), .ref (ad 29), .ref (ad 30), .ref (ad 31), .long M_found, .long M_foundSet, .long M_foundTimes, .int M_w, .int M_h, .ref (ad 32), .ref (ad 33), .ref (ad 34)])), ((ad 32), .inl (cA 0, 64, .inl M_height)), ((ad 33), .inl (cA 2, 64, .inl M_isPinned)), ((ad 34), .inl (cA 0, 4, .inl M_beside))]
def rmX4_stepOf : Room := { frames := 1, cells := 0, slots := 0, locals := 23 }
abbrev atX4_stepOf_0 (X : gX) (ad : Nat → Nat) (cA : Nat → ClassId) (p1 : Int32) (p2 : Int32) (M_thrown : Int32) (M_trace : Int64) (M_found : Int64) (M_foundSet : Int64) (M_foundTimes : Int64) (M_w : Int32) (M_h : Int32) (M_height : Nat → Int32) (M_isPinned : Nat → Int32) (M_beside : Nat → Int32) : Prop := gW X 0 0 [((ad 19), .inr (4, [.int M_thrown, .long M_trace, .ref (ad 20), .ref (ad 21), .ref (ad 22), .ref (ad 23), .ref (ad 24), .ref (ad 25), .ref (ad 26), .ref (ad 27), .ref (ad 28), .ref (ad 29), .ref (ad 30), .ref (ad 31), .long M_found, .long M_foundSet, .long M_foundTimes, .int M_w, .int M_h, .ref (ad 32), .ref (ad 33), .ref (ad 34)])), ((ad 32), .inl (cA 0, 64, .inl M_height)), ((ad 33), .inl (cA 2, 64, .inl M_isPinned)), ((ad 34), .inl (cA 0, 4, .inl M_beside))] 7 [(0, .ref (ad 19)), (1, .int p1), (2, .int p2)] [] 0
abbrev atX4_stepOf_33 (X : gX) (ad : Nat → Nat) (cA : Nat → ClassId) (x1 : Int32) (x2 : Int32) (x3 : Int32) (y0 : Int32) (M_thrown : Int32) (M_trace : Int64) (M_found : Int64) (M_foundSet : Int64) (M_foundTimes : Int64) (M_w : Int32) (M_h : Int32) (M_height : Nat → Int32) (M_isPinned : Nat → Int32) (M_beside : Nat → Int32) : Prop := gW X 0 0 [((ad 19), .inr (4, [.int M_thrown, .long M_trace, .ref (ad 20), .ref (ad 21), .ref (ad 22), .ref (ad 23), .ref (ad 24), .ref (ad 25), .ref (ad 26), .ref (ad 27), .ref (ad 28), .ref (ad 29), .ref (ad 30), .ref (ad 31), .long M_found, .long M_foundSet, .long M_foundTimes, .int M_w, .int M_h, .ref (ad 32), .ref (ad 33), .ref (ad 34)])), ((ad 32), .inl (cA 0, 64, .inl M_height)), ((ad 33), .inl (cA 2, 64, .inl M_isPinned)), ((ad 34), .inl (cA 0, 4, .inl M_beside))] 7 [(0, .ref (ad 19)), (1, .int x1), (2, .int x2), (3, .int x3)] [.int y0] 33
abbrev atX4_stepOf_64 (X : gX) (ad : Nat → Nat) (cA : Nat → ClassId) (x2 : Int32) (x3 : Int32) (y0 : Int32) (M_thrown : Int32) (M_trace : Int64) (M_found : Int64) (M_foundSet : Int64) (M_foundTimes : Int64) (M_w : Int32) (M_h : Int32) (M_height : Nat → Int32) (M_isPinned : Nat → Int32) (M_beside : Nat → Int32) : Prop := gW X 0 0 [((ad 19), .inr (4, [.int M_thrown, .long M_trace, .ref (ad 20), .ref (ad 21), .ref (ad 22), .ref (ad 23), .ref (ad 24), .ref (ad 25), .ref (ad 26), .ref (ad 27), .ref (ad 28), .ref (ad 29), .ref (ad 30), .ref (ad 31), .long M_found, .long M_foundSet, .long M_foundTimes, .int M_w, .int M_h, .ref (ad 32), .ref (ad 33), .ref (ad 34)])), ((ad 32), .inl (cA 0, 64, .inl M_height)), ((ad 33), .inl (cA 2, 64, .inl M_isPinned)), ((ad 34), .inl (cA 0, 4, .inl M_beside))] 7 [(0, .ref (ad 19)), (2, .int x2), (3, .int x3)] [.int y0] 64
abbrev atX4_stepOf_90 (X : gX) (ad : Nat → Nat) (cA : Nat → ClassId) (x2 : Int32) (x3 : Int32) (y0 : Int32) (M_thrown : Int32) (M_trace : Int64) (M_found : Int64) (M_foundSet : Int64) (M_foundTimes : Int64) (M_w : Int32) (M_h : Int32) (M_height : Nat → Int32) (M_isPinned : Nat → Int32) (M_beside : Nat → Int32) : Prop := gW X 0 0 [((ad 19), .inr (4, [.int M_thrown, .long M_trace, .ref (ad 20), .ref (ad 21), .ref (ad 22), .ref (ad 23), .ref (ad 24), .ref (ad 25), .ref (ad 26), .ref (ad 27), .ref (ad 28), .ref (ad 29), .ref (ad 30), .ref (ad 31), .long M_found, .long M_foundSet, .long M_foundTimes, .int M_w, .int M_h, .ref (ad 32), .ref (ad 33), .ref (ad 34)])), ((ad 32), .inl (cA 0, 64, .inl M_height)), ((ad 33), .inl (cA 2, 64, .inl M_isPinned)), ((ad 34), .inl (cA 0, 4, .inl M_beside))] 7 [(0, .ref (ad 19)), (2, .int x2), (3, .int x3)] [.int y0] 90
abbrev atX4_stepOf_122 (X : gX) (ad : Nat → Nat) (cA : Nat → ClassId) (x3 : Int32) (y0 : Int32) (M_thrown : Int32) (M_trace : Int64) (M_found : Int64) (M_foundSet : Int64) (M_foundTimes : Int64) (M_w : Int32) (M_h : Int32) (M_height : Nat → Int32) (M_isPinned : Nat → Int32) (M_beside : Nat → Int32) : Prop := gW X 0 0 [((ad 19), .inr (4, [.int M_thrown, .long M_trace, .ref (ad 20), .ref (ad 21), .ref (ad 22), .ref (ad 23), .ref (ad 24), .ref (ad 25), .ref (ad 26), .ref (ad 27), .ref (ad 28), .ref (ad 29), .ref (ad 30), .ref (ad 31), .long M_found, .long M_foundSet, .long M_foundTimes, .int M_w, .int M_h, .ref (ad 32), .ref (ad 33), .ref (ad 34)])), ((ad 32), .inl (cA 0, 64, .inl M_height)), ((ad 33), .inl (cA 2, 64, .inl M_isPinned)), ((ad 34), .inl (cA 0, 4, .inl M_beside))] 7 [(0, .ref (ad 19)), (3, .int x3)] [.int y0] 122
theorem giX4_stepOf_X4 : ∀ w ∈ u_ws RX4 TX4 22, w ∈ wsX4_stepOf := by decide +kernel
theorem gfX4_stepOf_54 : gF wsX4_stepOf RX4 54 4 19 RX4 TX4 22 := ⟨giX4_stepOf_X4, by decide +kernel, rfl, by decide⟩
theorem gfX4_stepOf_47 : gF wsX4_stepOf RX4 47 4 17 RX4 TX4 22 := ⟨giX4_stepOf_X4, by decide +kernel, rfl, by decide⟩
theorem gfX4_stepOf_51 : gF wsX4_stepOf RX4 51 4 18 RX4 TX4 22 := ⟨giX4_stepOf_X4, by decide +kernel, rfl, by decide⟩
theorem gfX4_stepOf_61 : gF wsX4_stepOf RX4 61 4 21 RX4 TX4 22 := ⟨giX4_stepOf_X4, by decide +kernel, rfl, by decide⟩
theorem gfX4_stepOf_57 : gF wsX4_stepOf RX4 57 4 20 RX4 TX4 22 := ⟨giX4_stepOf_X4, by decide +kernel, rfl, by decide⟩
set_option maxHeartbeats 4000000 in
set_option maxRecDepth 100000 in
theorem sgX4_stepOf_0 {X : gX} {ad : Nat → Nat} {cA : Nat → ClassId} {post : Int32 → ((Nat → Int32)) → Prop} {p1 : Int32} {p2 : Int32} {M_thrown : Int32} {M_trace : Int64} {M_found : Int64} {M_foundSet : Int64} {M_foundTimes : Int64} {M_w : Int32} {M_h : Int32} {M_height : Nat → Int32} {M_isPinned : Nat → Int32} {M_beside : Nat → Int32} (C : gC X (gT cA) cX4_stepOf 7 RX4 wsX4_stepOf rmX4_stepOf) (E : gEi X (some .int) (gT cA) 0 0 post (w1X4_stepOf ad cA M_thrown M_trace M_found M_foundSet M_foundTimes M_w M_h M_height M_isPinned)) (h : (p1 ≤ 0 → atX4_stepOf_33 X ad cA p1 p2 (((8 : Int32) * p2) + p1) (0 : Int32) M_thrown M_trace M_found M_foundSet M_foundTimes M_w M_h M_height M_isPinned M_beside) ∧ (¬ p1 ≤ 0 → vp_in ((((8 : Int32) * p2) + p1) - (1 : Int32)) 64 ∧ prX4_puts (0 : Int32) (M_height ((((8 : Int32) * p2) + p1) - (1 : Int32)).toNatClampNeg) M_thrown M_trace M_found M_foundSet M_foundTimes M_w M_h M_beside ∧ ∀ (r_4 : Int32) (u4_M_beside : Nat → Int32), po_X4_puts ad cA (0 : Int32) (M_height ((((8 : Int32) * p2) + p1) - (1 : Int32)).toNatClampNeg) M_thrown M_trace M_found M_foundSet M_foundTimes M_w M_h M_beside r_4 u4_M_beside → atX4_stepOf_33 X ad cA p1 p2 (((8 : Int32) * p2) + p1) r_4 M_thrown M_trace M_found M_foundSet M_foundTimes M_w M_h M_height M_isPinned u4_M_beside)) : atX4_stepOf_0 X ad cA p1 p2 M_thrown M_trace M_found M_foundSet M_foundTimes M_w M_h M_height M_isPinned M_beside := by
  refine g_bipush C dX4_stepOf_0 bk_8 ?_
  refine g_iload_n C dX4_stepOf_2 rfl 2 rfl ?_
  refine g_imul C dX4_stepOf_3 ?_
  refine g_iload_n C dX4_stepOf_4 rfl 1 rfl ?_
  refine g_iadd C dX4_stepOf_5 ?_
  refine g_istore_n (lv2 := [(0, .ref (ad 19)), (1, .int p1), (2, .int p2), (3, .int (((8 : Int32) * p2) + p1))]) C dX4_stepOf_6 rfl (by decide) [1, 2, 3, 0] rfl ?_
  refine g_iconst C dX4_stepOf_7 ik_0 ?_
  refine g_istore (lv2 := [(0, .ref (ad 19)), (1, .int p1), (2, .int p2), (3, .int (((8 : Int32) * p2) + p1)), (4, .int (0 : Int32))]) C dX4_stepOf_8 (by decide) [1, 2, 3, 4, 0] rfl ?_
  refine g_iload_n C dX4_stepOf_10 rfl 1 rfl ?_
  refine g_if_le (tgt := 31) C dX4_stepOf_11 (by decide) (fun c_1 => ?_) (fun c_1 => ?_)
  · replace h := h.1 c_1
    refine g_iload C dX4_stepOf_31 4 rfl ?_
    exact g_lv [0, 1, 2, 3] rfl h
  · replace h := h.2 c_1
    refine g_aload_n C dX4_stepOf_14 rfl 0 rfl ?_
    refine g_iload C dX4_stepOf_15 4 rfl ?_
    refine g_aload_n C dX4_stepOf_17 rfl 0 rfl ?_
    refine g_get C gfX4_stepOf_54 0 rfl rfl dX4_stepOf_18 ?_
    refine g_iload_n C dX4_stepOf_21 rfl 3 rfl ?_
    refine g_iconst C dX4_stepOf_22 ik_1 ?_
    refine g_isub C dX4_stepOf_23 ?_
    obtain ⟨hi_2, h⟩ := h
    refine g_iald C 1 0 rfl rfl hi_2 dX4_stepOf_24 ?_
    obtain ⟨hi_3, h⟩ := h
    refine g_callVi (wr := [((ad 32), .inl (cA 0, 64, .inl M_height)), ((ad 33), .inl (cA 2, 64, .inl M_isPinned))]) C (c_X4_puts ad cA (0 : Int32) (M_height ((((8 : Int32) * p2) + p1) - (1 : Int32)).toNatClampNeg) M_thrown M_trace M_found M_foundSet M_foundTimes M_w M_h M_beside hi_3) gX4_stepOf_X4_puts rfl hde_X4_puts ⟨rfl, rfl⟩ (by decide) (by decide) [0, 3] [1, 2] [2, 0, 1, 3] rfl rfl rfl rfl (by decide) rfl (ws2 := fun u => [((ad 19), .inr (4, [.int M_thrown, .long M_trace, .ref (ad 20), .ref (ad 21), .ref (ad 22), .ref (ad 23), .ref (ad 24), .ref (ad 25), .ref (ad 26), .ref (ad 27), .ref (ad 28), .ref (ad 29), .ref (ad 30), .ref (ad 31), .long M_found, .long M_foundSet, .long M_foundTimes, .int M_w, .int M_h, .ref (ad 32), .ref (ad 33), .ref (ad 34)])), ((ad 32), .inl (cA 0, 64, .inl M_height)), ((ad 33), .inl (cA 2, 64, .inl M_isPinned)), ((ad 34), .inl (cA 0, 4, .inl u))]) (fun _ => rfl) 4 0 rfl rfl rfl (rest := []) rfl (Nat.le_of_ble_eq_true rfl) dX4_stepOf_25 (fun r_4 u_4 hp_4 => ?_)
    obtain ⟨u4_M_beside, rfl⟩ : ∃ z, z = u_4 := ⟨_, rfl⟩
    replace h := h r_4 u4_M_beside hp_4
    change gW X 0 0 [((ad 19), .inr (4, [.int M_thrown, .long M_trace, .ref (ad 20), .ref (ad 21), .ref (ad 22), .ref (ad 23), .ref (ad 24), .ref (ad 25), .ref (ad 26), .ref (ad 27), .ref (ad 28), .ref (ad 29), .ref (ad 30), .ref (ad 31), .long M_found, .long M_foundSet, .long M_foundTimes, .int M_w, .int M_h, .ref (ad 32), .ref (ad 33), .ref (ad 34)])), ((ad 32), .inl (cA 0, 64, .inl M_height)), ((ad 33), .inl (cA 2, 64, .inl M_isPinned)), ((ad 34), .inl (cA 0, 4, .inl u4_M_beside))] 7 [(0, .ref (ad 19)), (1, .int p1), (2, .int p2), (3, .int (((8 : Int32) * p2) + p1)), (4, .int (0 : Int32))] [.int r_4] 28
    refine g_goto (tgt := 33) C dX4_stepOf_28 (by decide) ?_
    exact g_lv [0, 1, 2, 3] rfl h
set_option maxHeartbeats 4000000 in
set_option maxRecDepth 100000 in
theorem sgX4_stepOf_33 {X : gX} {ad : Nat → Nat} {cA : Nat → ClassId} {post : Int32 → ((Nat → Int32)) → Prop} {x1 : Int32} {x2 : Int32} {x3 : Int32} {y0 : Int32} {M_thrown : Int32} {M_trace : Int64} {M_found : Int64} {M_foundSet : Int64} {M_foundTimes : Int64} {M_w : Int32} {M_h : Int32} {M_height : Nat → Int32} {M_isPinned : Nat → Int32} {M_beside : Nat → Int32} (C : gC X (gT cA) cX4_stepOf 7 RX4 wsX4_stepOf rmX4_stepOf) (E : gEi X (some .int) (gT cA) 0 0 post (w1X4_stepOf ad cA M_thrown M_trace M_found M_foundSet M_foundTimes M_w M_h M_height M_isPinned)) (h : (M_w ≤ (x1 + (1 : Int32)) → atX4_stepOf_64 X ad cA x2 x3 y0 M_thrown M_trace M_found M_foundSet M_foundTimes M_w M_h M_height M_isPinned M_beside) ∧ (¬ M_w ≤ (x1 + (1 : Int32)) → vp_in (x3 + (1 : Int32)) 64 ∧ prX4_puts y0 (M_height (x3 + (1 : Int32)).toNatClampNeg) M_thrown M_trace M_found M_foundSet M_foundTimes M_w M_h M_beside ∧ ∀ (r_8 : Int32) (u8_M_beside : Nat → Int32), po_X4_puts ad cA y0 (M_height (x3 + (1 : Int32)).toNatClampNeg) M_thrown M_trace M_found M_foundSet M_foundTimes M_w M_h M_beside r_8 u8_M_beside → atX4_stepOf_64 X ad cA x2 x3 r_8 M_thrown M_trace M_found M_foundSet M_foundTimes M_w M_h M_height M_isPinned u8_M_beside)) : atX4_stepOf_33 X ad cA x1 x2 x3 y0 M_thrown M_trace M_found M_foundSet M_foundTimes M_w M_h M_height M_isPinned M_beside := by
  refine g_istore (lv2 := [(0, .ref (ad 19)), (1, .int x1), (2, .int x2), (3, .int x3), (4, .int y0)]) C dX4_stepOf_33 (by decide) [1, 2, 3, 4, 0] rfl ?_
  refine g_iload_n C dX4_stepOf_35 rfl 1 rfl ?_
  refine g_iconst C dX4_stepOf_36 ik_1 ?_
  refine g_iadd C dX4_stepOf_37 ?_
  refine g_aload_n C dX4_stepOf_38 rfl 0 rfl ?_
  refine g_get C gfX4_stepOf_47 0 rfl rfl dX4_stepOf_39 ?_
  refine g_icmp_ge (tgt := 62) C dX4_stepOf_42 (by decide) (fun c_5 => ?_) (fun c_5 => ?_)
  · replace h := h.1 c_5
    refine g_iload C dX4_stepOf_62 4 rfl ?_
    exact g_lv [0, 2, 3] rfl h
  · replace h := h.2 c_5
    refine g_aload_n C dX4_stepOf_45 rfl 0 rfl ?_
    refine g_iload C dX4_stepOf_46 4 rfl ?_
    refine g_aload_n C dX4_stepOf_48 rfl 0 rfl ?_
    refine g_get C gfX4_stepOf_54 0 rfl rfl dX4_stepOf_49 ?_
    refine g_iload_n C dX4_stepOf_52 rfl 3 rfl ?_
    refine g_iconst C dX4_stepOf_53 ik_1 ?_
    refine g_iadd C dX4_stepOf_54 ?_
    obtain ⟨hi_6, h⟩ := h
    refine g_iald C 1 0 rfl rfl hi_6 dX4_stepOf_55 ?_
    obtain ⟨hi_7, h⟩ := h
    refine g_callVi (wr := [((ad 32), .inl (cA 0, 64, .inl M_height)), ((ad 33), .inl (cA 2, 64, .inl M_isPinned))]) C (c_X4_puts ad cA y0 (M_height (x3 + (1 : Int32)).toNatClampNeg) M_thrown M_trace M_found M_foundSet M_foundTimes M_w M_h M_beside hi_7) gX4_stepOf_X4_puts rfl hde_X4_puts ⟨rfl, rfl⟩ (by decide) (by decide) [0, 3] [1, 2] [2, 0, 1, 3] rfl rfl rfl rfl (by decide) rfl (ws2 := fun u => [((ad 19), .inr (4, [.int M_thrown, .long M_trace, .ref (ad 20), .ref (ad 21), .ref (ad 22), .ref (ad 23), .ref (ad 24), .ref (ad 25), .ref (ad 26), .ref (ad 27), .ref (ad 28), .ref (ad 29), .ref (ad 30), .ref (ad 31), .long M_found, .long M_foundSet, .long M_foundTimes, .int M_w, .int M_h, .ref (ad 32), .ref (ad 33), .ref (ad 34)])), ((ad 32), .inl (cA 0, 64, .inl M_height)), ((ad 33), .inl (cA 2, 64, .inl M_isPinned)), ((ad 34), .inl (cA 0, 4, .inl u))]) (fun _ => rfl) 4 0 rfl rfl rfl (rest := []) rfl (Nat.le_of_ble_eq_true rfl) dX4_stepOf_56 (fun r_8 u_8 hp_8 => ?_)
    obtain ⟨u8_M_beside, rfl⟩ : ∃ z, z = u_8 := ⟨_, rfl⟩
    replace h := h r_8 u8_M_beside hp_8
    change gW X 0 0 [((ad 19), .inr (4, [.int M_thrown, .long M_trace, .ref (ad 20), .ref (ad 21), .ref (ad 22), .ref (ad 23), .ref (ad 24), .ref (ad 25), .ref (ad 26), .ref (ad 27), .ref (ad 28), .ref (ad 29), .ref (ad 30), .ref (ad 31), .long M_found, .long M_foundSet, .long M_foundTimes, .int M_w, .int M_h, .ref (ad 32), .ref (ad 33), .ref (ad 34)])), ((ad 32), .inl (cA 0, 64, .inl M_height)), ((ad 33), .inl (cA 2, 64, .inl M_isPinned)), ((ad 34), .inl (cA 0, 4, .inl u8_M_beside))] 7 [(0, .ref (ad 19)), (1, .int x1), (2, .int x2), (3, .int x3), (4, .int y0)] [.int r_8] 59
    refine g_goto (tgt := 64) C dX4_stepOf_59 (by decide) ?_
    exact g_lv [0, 2, 3] rfl h
set_option maxHeartbeats 4000000 in
set_option maxRecDepth 100000 in
theorem sgX4_stepOf_64 {X : gX} {ad : Nat → Nat} {cA : Nat → ClassId} {post : Int32 → ((Nat → Int32)) → Prop} {x2 : Int32} {x3 : Int32} {y0 : Int32} {M_thrown : Int32} {M_trace : Int64} {M_found : Int64} {M_foundSet : Int64} {M_foundTimes : Int64} {M_w : Int32} {M_h : Int32} {M_height : Nat → Int32} {M_isPinned : Nat → Int32} {M_beside : Nat → Int32} (C : gC X (gT cA) cX4_stepOf 7 RX4 wsX4_stepOf rmX4_stepOf) (E : gEi X (some .int) (gT cA) 0 0 post (w1X4_stepOf ad cA M_thrown M_trace M_found M_foundSet M_foundTimes M_w M_h M_height M_isPinned)) (h : (x2 ≤ 0 → atX4_stepOf_90 X ad cA x2 x3 y0 M_thrown M_trace M_found M_foundSet M_foundTimes M_w M_h M_height M_isPinned M_beside) ∧ (¬ x2 ≤ 0 → vp_in (x3 - (8 : Int32)) 64 ∧ prX4_puts y0 (M_height (x3 - (8 : Int32)).toNatClampNeg) M_thrown M_trace M_found M_foundSet M_foundTimes M_w M_h M_beside ∧ ∀ (r_12 : Int32) (u12_M_beside : Nat → Int32), po_X4_puts ad cA y0 (M_height (x3 - (8 : Int32)).toNatClampNeg) M_thrown M_trace M_found M_foundSet M_foundTimes M_w M_h M_beside r_12 u12_M_beside → atX4_stepOf_90 X ad cA x2 x3 r_12 M_thrown M_trace M_found M_foundSet M_foundTimes M_w M_h M_height M_isPinned u12_M_beside)) : atX4_stepOf_64 X ad cA x2 x3 y0 M_thrown M_trace M_found M_foundSet M_foundTimes M_w M_h M_height M_isPinned M_beside := by
  refine g_istore (lv2 := [(0, .ref (ad 19)), (2, .int x2), (3, .int x3), (4, .int y0)]) C dX4_stepOf_64 (by decide) [1, 2, 3, 0] rfl ?_
  refine g_iload_n C dX4_stepOf_66 rfl 1 rfl ?_
  refine g_if_le (tgt := 88) C dX4_stepOf_67 (by decide) (fun c_9 => ?_) (fun c_9 => ?_)
  · replace h := h.1 c_9
    refine g_iload C dX4_stepOf_88 3 rfl ?_
    exact g_lv [0, 1, 2] rfl h
  · replace h := h.2 c_9
    refine g_aload_n C dX4_stepOf_70 rfl 0 rfl ?_
    refine g_iload C dX4_stepOf_71 3 rfl ?_
    refine g_aload_n C dX4_stepOf_73 rfl 0 rfl ?_
    refine g_get C gfX4_stepOf_54 0 rfl rfl dX4_stepOf_74 ?_
    refine g_iload_n C dX4_stepOf_77 rfl 2 rfl ?_
    refine g_bipush C dX4_stepOf_78 bk_8 ?_
    refine g_isub C dX4_stepOf_80 ?_
    obtain ⟨hi_10, h⟩ := h
    refine g_iald C 1 0 rfl rfl hi_10 dX4_stepOf_81 ?_
    obtain ⟨hi_11, h⟩ := h
    refine g_callVi (wr := [((ad 32), .inl (cA 0, 64, .inl M_height)), ((ad 33), .inl (cA 2, 64, .inl M_isPinned))]) C (c_X4_puts ad cA y0 (M_height (x3 - (8 : Int32)).toNatClampNeg) M_thrown M_trace M_found M_foundSet M_foundTimes M_w M_h M_beside hi_11) gX4_stepOf_X4_puts rfl hde_X4_puts ⟨rfl, rfl⟩ (by decide) (by decide) [0, 3] [1, 2] [2, 0, 1, 3] rfl rfl rfl rfl (by decide) rfl (ws2 := fun u => [((ad 19), .inr (4, [.int M_thrown, .long M_trace, .ref (ad 20), .ref (ad 21), .ref (ad 22), .ref (ad 23), .ref (ad 24), .ref (ad 25), .ref (ad 26), .ref (ad 27), .ref (ad 28), .ref (ad 29), .ref (ad 30), .ref (ad 31), .long M_found, .long M_foundSet, .long M_foundTimes, .int M_w, .int M_h, .ref (ad 32), .ref (ad 33), .ref (ad 34)])), ((ad 32), .inl (cA 0, 64, .inl M_height)), ((ad 33), .inl (cA 2, 64, .inl M_isPinned)), ((ad 34), .inl (cA 0, 4, .inl u))]) (fun _ => rfl) 4 0 rfl rfl rfl (rest := []) rfl (Nat.le_of_ble_eq_true rfl) dX4_stepOf_82 (fun r_12 u_12 hp_12 => ?_)
    obtain ⟨u12_M_beside, rfl⟩ : ∃ z, z = u_12 := ⟨_, rfl⟩
    replace h := h r_12 u12_M_beside hp_12
    change gW X 0 0 [((ad 19), .inr (4, [.int M_thrown, .long M_trace, .ref (ad 20), .ref (ad 21), .ref (ad 22), .ref (ad 23), .ref (ad 24), .ref (ad 25), .ref (ad 26), .ref (ad 27), .ref (ad 28), .ref (ad 29), .ref (ad 30), .ref (ad 31), .long M_found, .long M_foundSet, .long M_foundTimes, .int M_w, .int M_h, .ref (ad 32), .ref (ad 33), .ref (ad 34)])), ((ad 32), .inl (cA 0, 64, .inl M_height)), ((ad 33), .inl (cA 2, 64, .inl M_isPinned)), ((ad 34), .inl (cA 0, 4, .inl u12_M_beside))] 7 [(0, .ref (ad 19)), (2, .int x2), (3, .int x3), (4, .int y0)] [.int r_12] 85
    refine g_goto (tgt := 90) C dX4_stepOf_85 (by decide) ?_
    exact g_lv [0, 1, 2] rfl h
set_option maxHeartbeats 4000000 in
set_option maxRecDepth 100000 in
theorem sgX4_stepOf_90 {X : gX} {ad : Nat → Nat} {cA : Nat → ClassId} {post : Int32 → ((Nat → Int32)) → Prop} {x2 : Int32} {x3 : Int32} {y0 : Int32} {M_thrown : Int32} {M_trace : Int64} {M_found : Int64} {M_foundSet : Int64} {M_foundTimes : Int64} {M_w : Int32} {M_h : Int32} {M_height : Nat → Int32} {M_isPinned : Nat → Int32} {M_beside : Nat → Int32} (C : gC X (gT cA) cX4_stepOf 7 RX4 wsX4_stepOf rmX4_stepOf) (E : gEi X (some .int) (gT cA) 0 0 post (w1X4_stepOf ad cA M_thrown M_trace M_found M_foundSet M_foundTimes M_w M_h M_height M_isPinned)) (h : (M_h ≤ (x2 + (1 : Int32)) → atX4_stepOf_122 X ad cA x3 y0 M_thrown M_trace M_found M_foundSet M_foundTimes M_w M_h M_height M_isPinned M_beside) ∧ (¬ M_h ≤ (x2 + (1 : Int32)) → vp_in (x3 + (8 : Int32)) 64 ∧ prX4_puts y0 (M_height (x3 + (8 : Int32)).toNatClampNeg) M_thrown M_trace M_found M_foundSet M_foundTimes M_w M_h M_beside ∧ ∀ (r_16 : Int32) (u16_M_beside : Nat → Int32), po_X4_puts ad cA y0 (M_height (x3 + (8 : Int32)).toNatClampNeg) M_thrown M_trace M_found M_foundSet M_foundTimes M_w M_h M_beside r_16 u16_M_beside → atX4_stepOf_122 X ad cA x3 r_16 M_thrown M_trace M_found M_foundSet M_foundTimes M_w M_h M_height M_isPinned u16_M_beside)) : atX4_stepOf_90 X ad cA x2 x3 y0 M_thrown M_trace M_found M_foundSet M_foundTimes M_w M_h M_height M_isPinned M_beside := by
  refine g_istore (lv2 := [(0, .ref (ad 19)), (2, .int x2), (3, .int x3), (4, .int y0)]) C dX4_stepOf_90 (by decide) [1, 2, 3, 0] rfl ?_
  refine g_iload_n C dX4_stepOf_92 rfl 1 rfl ?_
  refine g_iconst C dX4_stepOf_93 ik_1 ?_
  refine g_iadd C dX4_stepOf_94 ?_
  refine g_aload_n C dX4_stepOf_95 rfl 0 rfl ?_
  refine g_get C gfX4_stepOf_51 0 rfl rfl dX4_stepOf_96 ?_
  refine g_icmp_ge (tgt := 120) C dX4_stepOf_99 (by decide) (fun c_13 => ?_) (fun c_13 => ?_)
  · replace h := h.1 c_13
    refine g_iload C dX4_stepOf_120 3 rfl ?_
    exact g_lv [0, 2] rfl h
  · replace h := h.2 c_13
    refine g_aload_n C dX4_stepOf_102 rfl 0 rfl ?_
    refine g_iload C dX4_stepOf_103 3 rfl ?_
    refine g_aload_n C dX4_stepOf_105 rfl 0 rfl ?_
    refine g_get C gfX4_stepOf_54 0 rfl rfl dX4_stepOf_106 ?_
    refine g_iload_n C dX4_stepOf_109 rfl 2 rfl ?_
    refine g_bipush C dX4_stepOf_110 bk_8 ?_
    refine g_iadd C dX4_stepOf_112 ?_
    obtain ⟨hi_14, h⟩ := h
    refine g_iald C 1 0 rfl rfl hi_14 dX4_stepOf_113 ?_
    obtain ⟨hi_15, h⟩ := h
    refine g_callVi (wr := [((ad 32), .inl (cA 0, 64, .inl M_height)), ((ad 33), .inl (cA 2, 64, .inl M_isPinned))]) C (c_X4_puts ad cA y0 (M_height (x3 + (8 : Int32)).toNatClampNeg) M_thrown M_trace M_found M_foundSet M_foundTimes M_w M_h M_beside hi_15) gX4_stepOf_X4_puts rfl hde_X4_puts ⟨rfl, rfl⟩ (by decide) (by decide) [0, 3] [1, 2] [2, 0, 1, 3] rfl rfl rfl rfl (by decide) rfl (ws2 := fun u => [((ad 19), .inr (4, [.int M_thrown, .long M_trace, .ref (ad 20), .ref (ad 21), .ref (ad 22), .ref (ad 23), .ref (ad 24), .ref (ad 25), .ref (ad 26), .ref (ad 27), .ref (ad 28), .ref (ad 29), .ref (ad 30), .ref (ad 31), .long M_found, .long M_foundSet, .long M_foundTimes, .int M_w, .int M_h, .ref (ad 32), .ref (ad 33), .ref (ad 34)])), ((ad 32), .inl (cA 0, 64, .inl M_height)), ((ad 33), .inl (cA 2, 64, .inl M_isPinned)), ((ad 34), .inl (cA 0, 4, .inl u))]) (fun _ => rfl) 4 0 rfl rfl rfl (rest := []) rfl (Nat.le_of_ble_eq_true rfl) dX4_stepOf_114 (fun r_16 u_16 hp_16 => ?_)
    obtain ⟨u16_M_beside, rfl⟩ : ∃ z, z = u_16 := ⟨_, rfl⟩
    replace h := h r_16 u16_M_beside hp_16
    change gW X 0 0 [((ad 19), .inr (4, [.int M_thrown, .long M_trace, .ref (ad 20), .ref (ad 21), .ref (ad 22), .ref (ad 23), .ref (ad 24), .ref (ad 25), .ref (ad 26), .ref (ad 27), .ref (ad 28), .ref (ad 29), .ref (ad 30), .ref (ad 31), .long M_found, .long M_foundSet, .long M_foundTimes, .int M_w, .int M_h, .ref (ad 32), .ref (ad 33), .ref (ad 34)])), ((ad 32), .inl (cA 0, 64, .inl M_height)), ((ad 33), .inl (cA 2, 64, .inl M_isPinned)), ((ad 34), .inl (cA 0, 4, .inl u16_M_beside))] 7 [(0, .ref (ad 19)), (2, .int x2), (3, .int x3), (4, .int y0)] [.int r_16] 117
    refine g_goto (tgt := 122) C dX4_stepOf_117 (by decide) ?_
    exact g_lv [0, 2] rfl h
set_option maxHeartbeats 4000000 in
set_option maxRecDepth 100000 in
theorem sgX4_stepOf_122 {X : gX} {ad : Nat → Nat} {cA : Nat → ClassId} {post : Int32 → ((Nat → Int32)) → Prop} {x3 : Int32} {y0 : Int32} {M_thrown : Int32} {M_trace : Int64} {M_found : Int64} {M_foundSet : Int64} {M_foundTimes : Int64} {M_w : Int32} {M_h : Int32} {M_height : Nat → Int32} {M_isPinned : Nat → Int32} {M_beside : Nat → Int32} (C : gC X (gT cA) cX4_stepOf 7 RX4 wsX4_stepOf rmX4_stepOf) (E : gEi X (some .int) (gT cA) 0 0 post (w1X4_stepOf ad cA M_thrown M_trace M_found M_foundSet M_foundTimes M_w M_h M_height M_isPinned)) (h : vp_in ((y0 - (1 : Int32)) / (2 : Int32)) 4 ∧ ∀ x5_18 : Int32, x5_18 = (M_beside ((y0 - (1 : Int32)) / (2 : Int32)).toNatClampNeg) → vp_in (y0 / (2 : Int32)) 4 ∧ ∀ x6_20 : Int32, x6_20 = (M_beside (y0 / (2 : Int32)).toNatClampNeg) → vp_in x3 64 ∧ ((M_isPinned x3.toNatClampNeg) = 0 → vp_in x3 64 ∧ (x5_18 ≤ (M_height x3.toNatClampNeg) → vp_in x3 64 ∧ ((M_height x3.toNatClampNeg) ≤ x6_20 → vp_in x3 64 ∧ post (M_height x3.toNatClampNeg) M_beside) ∧ (¬ (M_height x3.toNatClampNeg) ≤ x6_20 → post x6_20 M_beside)) ∧ (¬ x5_18 ≤ (M_height x3.toNatClampNeg) → post x5_18 M_beside)) ∧ (¬ (M_isPinned x3.toNatClampNeg) = 0 → vp_in x3 64 ∧ post (M_height x3.toNatClampNeg) M_beside)) : atX4_stepOf_122 X ad cA x3 y0 M_thrown M_trace M_found M_foundSet M_foundTimes M_w M_h M_height M_isPinned M_beside := by
  refine g_istore (lv2 := [(0, .ref (ad 19)), (3, .int x3), (4, .int y0)]) C dX4_stepOf_122 (by decide) [1, 2, 0] rfl ?_
  refine g_aload_n C dX4_stepOf_124 rfl 0 rfl ?_
  refine g_get C gfX4_stepOf_61 0 rfl rfl dX4_stepOf_125 ?_
  refine g_iload C dX4_stepOf_128 2 rfl ?_
  refine g_iconst C dX4_stepOf_130 ik_1 ?_
  refine g_isub C dX4_stepOf_131 ?_
  refine g_iconst C dX4_stepOf_132 ik_2 ?_
  refine g_idiv C dX4_stepOf_133 (by decide) ?_
  obtain ⟨hi_17, h⟩ := h
  refine g_iald C 3 0 rfl rfl hi_17 dX4_stepOf_134 ?_
  refine g_topi (fun x5_18 ex5_18 => ?_)
  replace h := h x5_18 ex5_18
  refine g_istore (lv2 := [(0, .ref (ad 19)), (3, .int x3), (4, .int y0), (5, .int x5_18)]) C dX4_stepOf_135 (by decide) [1, 2, 3, 0] rfl ?_
  refine g_aload_n C dX4_stepOf_137 rfl 0 rfl ?_
  refine g_get C gfX4_stepOf_61 0 rfl rfl dX4_stepOf_138 ?_
  refine g_iload C dX4_stepOf_141 2 rfl ?_
  refine g_iconst C dX4_stepOf_143 ik_2 ?_
  refine g_idiv C dX4_stepOf_144 (by decide) ?_
  obtain ⟨hi_19, h⟩ := h
  refine g_iald C 3 0 rfl rfl hi_19 dX4_stepOf_145 ?_
  refine g_topi (fun x6_20 ex6_20 => ?_)
  replace h := h x6_20 ex6_20
  refine g_istore (lv2 := [(0, .ref (ad 19)), (3, .int x3), (4, .int y0), (5, .int x5_18), (6, .int x6_20)]) C dX4_stepOf_146 (by decide) [1, 2, 3, 4, 0] rfl ?_
  refine g_aload_n C dX4_stepOf_148 rfl 0 rfl ?_
  refine g_get C gfX4_stepOf_57 0 rfl rfl dX4_stepOf_149 ?_
  refine g_iload_n C dX4_stepOf_152 rfl 1 rfl ?_
  obtain ⟨hi_21, h⟩ := h
  refine g_zald C 2 2 rfl rfl hi_21 dX4_stepOf_153 ?_
  refine g_if_eq (tgt := 166) C dX4_stepOf_154 (by decide) (fun c_22 => ?_) (fun c_22 => ?_)
  · replace h := h.1 c_22
    refine g_aload_n C dX4_stepOf_166 rfl 0 rfl ?_
    refine g_get C gfX4_stepOf_54 0 rfl rfl dX4_stepOf_167 ?_
    refine g_iload_n C dX4_stepOf_170 rfl 1 rfl ?_
    obtain ⟨hi_23, h⟩ := h
    refine g_iald C 1 0 rfl rfl hi_23 dX4_stepOf_171 ?_
    refine g_iload C dX4_stepOf_172 3 rfl ?_
    refine g_icmp_ge (tgt := 182) C dX4_stepOf_174 (by decide) (fun c_24 => ?_) (fun c_24 => ?_)
    · replace h := h.1 c_24
      refine g_aload_n C dX4_stepOf_182 rfl 0 rfl ?_
      refine g_get C gfX4_stepOf_54 0 rfl rfl dX4_stepOf_183 ?_
      refine g_iload_n C dX4_stepOf_186 rfl 1 rfl ?_
      obtain ⟨hi_25, h⟩ := h
      refine g_iald C 1 0 rfl rfl hi_25 dX4_stepOf_187 ?_
      refine g_iload C dX4_stepOf_188 4 rfl ?_
      refine g_icmp_le (tgt := 198) C dX4_stepOf_190 (by decide) (fun c_26 => ?_) (fun c_26 => ?_)
      · replace h := h.1 c_26
        refine g_aload_n C dX4_stepOf_198 rfl 0 rfl ?_
        refine g_get C gfX4_stepOf_54 0 rfl rfl dX4_stepOf_199 ?_
        refine g_iload_n C dX4_stepOf_202 rfl 1 rfl ?_
        obtain ⟨hi_27, h⟩ := h
        refine g_iald C 1 0 rfl rfl hi_27 dX4_stepOf_203 ?_
        exact g_iret C E M_beside h rfl dX4_stepOf_204
      · replace h := h.2 c_26
        refine g_iload C dX4_stepOf_193 4 rfl ?_
        refine g_goto (tgt := 204) C dX4_stepOf_195 (by decide) ?_
        exact g_iret C E M_beside h rfl dX4_stepOf_204
    · replace h := h.2 c_24
      refine g_iload C dX4_stepOf_177 3 rfl ?_
      refine g_goto (tgt := 204) C dX4_stepOf_179 (by decide) ?_
      exact g_iret C E M_beside h rfl dX4_stepOf_204
  · replace h := h.2 c_22
    refine g_aload_n C dX4_stepOf_157 rfl 0 rfl ?_
    refine g_get C gfX4_stepOf_54 0 rfl rfl dX4_stepOf_158 ?_
    refine g_iload_n C dX4_stepOf_161 rfl 1 rfl ?_
    obtain ⟨hi_28, h⟩ := h
    refine g_iald C 1 0 rfl rfl hi_28 dX4_stepOf_162 ?_
    refine g_goto (tgt := 204) C dX4_stepOf_163 (by decide) ?_
    exact g_iret C E M_beside h rfl dX4_stepOf_204
def prX4_stepOf (p1 : Int32) (p2 : Int32) (M_thrown : Int32) (M_trace : Int64) (M_found : Int64) (M_foundSet : Int64) (M_foundTimes : Int64) (M_w : Int32) (M_h : Int32) (M_height : Nat → Int32) (M_isPinned : Nat → Int32) (M_beside : Nat → Int32) : Prop := ∃ (w h x y : Nat), 2 ≤ w ∧ w ≤ 8 ∧ 2 ≤ h ∧ h ≤ 8 ∧ M_w = nI w ∧ M_h = nI h ∧ x < w ∧ y < h ∧ p1 = nI x ∧ p2 = nI y
def po_X4_stepOf (ad : Nat → Nat) (cA : Nat → ClassId) (p1 : Int32) (p2 : Int32) (M_thrown : Int32) (M_trace : Int64) (M_found : Int64) (M_foundSet : Int64) (M_foundTimes : Int64) (M_w : Int32) (M_h : Int32) (M_height : Nat → Int32) (M_isPinned : Nat → Int32) (M_beside : Nat → Int32) (r : Int32) (u : (Nat → Int32)) : Prop := r = stp M_w.toNatClampNeg M_h.toNatClampNeg M_isPinned M_height p1.toNatClampNeg p2.toNatClampNeg
set_option maxHeartbeats 4000000 in
set_option maxRecDepth 100000 in
theorem c_X4_stepOf (ad : Nat → Nat) (cA : Nat → ClassId) (p1 : Int32) (p2 : Int32) (M_thrown : Int32) (M_trace : Int64) (M_found : Int64) (M_foundSet : Int64) (M_foundTimes : Int64) (M_w : Int32) (M_h : Int32) (M_height : Nat → Int32) (M_isPinned : Nat → Int32) (M_beside : Nat → Int32) (hq : prX4_stepOf p1 p2 M_thrown M_trace M_found M_foundSet M_foundTimes M_w M_h M_height M_isPinned M_beside) : ∀ (l : Launch) (D : va_G), gMi (S := (Nat → Int32)) l yX4_stepOf wsX4_stepOf rmX4_stepOf D (gT cA) 0 0 [.ref (ad 19), .int p1, .int p2] (wcX4_stepOf ad cA M_thrown M_trace M_found M_foundSet M_foundTimes M_w M_h M_height M_isPinned M_beside) (po_X4_stepOf ad cA p1 p2 M_thrown M_trace M_found M_foundSet M_foundTimes M_w M_h M_height M_isPinned M_beside) (w1X4_stepOf ad cA M_thrown M_trace M_found M_foundSet M_foundTimes M_w M_h M_height M_isPinned) := by
  intro l D
  unfold prX4_stepOf at hq
  refine g_enteri (cc := cX4_stepOf) (nL := 7) (ret := (some .int)) (by decide) rfl (Nat.le_of_ble_eq_true rfl) rfl (fun X C E => ?_)
  obtain ⟨w, h, x, y, hw2, hw, hh2, hh, rfl, rfl, hx, hy, rfl, rfl⟩ := hq
  have hpo : ∀ (r : Int32) (u : Nat → Int32), r = stp w h M_isPinned M_height x y → po_X4_stepOf ad cA (nI x) (nI y) M_thrown M_trace M_found M_foundSet M_foundTimes (nI w) (nI h) M_height M_isPinned M_beside r u := fun r u e => by
    unfold po_X4_stepOf
    rw [nI_clamp (by omega), nI_clamp (by omega), nI_clamp (by omega), nI_clamp (by omega)]; exact e
  have hin : vp_in (nI (8 * y + x)) 64 := vp_in_nI (by omega) (by decide)
  have k5 : atX4_stepOf_122 X ad cA (nI (8 * y + x)) (nI (stq w h M_height x y M_beside).1) M_thrown M_trace M_found M_foundSet M_foundTimes (nI w) (nI h) M_height M_isPinned (stq w h M_height x y M_beside).2 := by
    have cn := stq_1 hw2 hh2 hx hy M_height M_beside
    have a2 := stp_any hw2 hh2 hx hy M_isPinned M_height M_beside
    generalize stq w h M_height x y M_beside = Q4 at *
    refine sgX4_stepOf_122 C E ?_
    have d1 : (nI Q4.1 - 1) / 2 = nI ((Q4.1 - 1) / 2) := by
      show (nI Q4.1 - nI 1) / nI 2 = _
      rw [pk_sub (by omega), pk_div (by omega) (by decide) (by decide)]
    have d2 : nI Q4.1 / 2 = nI (Q4.1 / 2) := pk_div (by omega) (by decide) (by decide)
    rw [d1, d2, nI_clamp (by omega), nI_clamp (by omega), nI_clamp (by omega)]
    refine ⟨vp_in_nI (by omega) (by decide), fun lo elo => ⟨vp_in_nI (by omega) (by decide), fun hi ehi => ⟨hin, fun c => ⟨hin, fun c1 => ⟨hin, fun c2 => ⟨hin, hpo _ _ ?_⟩, fun c2 => hpo _ _ ?_⟩, fun c1 => hpo _ _ ?_⟩, fun c => ⟨hin, hpo _ _ ?_⟩⟩⟩⟩
    · rw [← a2 c, ← elo, ← ehi]; unfold clp
      rw [if_neg (by rw [Int32.not_lt]; exact c1), if_neg (by rw [Int32.not_lt]; exact c2)]
    · rw [← a2 c, ← elo, ← ehi]; unfold clp
      rw [if_neg (by rw [Int32.not_lt]; exact c1), if_pos (by rw [← Int32.not_le]; exact c2)]
    · rw [← a2 c, ← elo, ← ehi]; unfold clp
      rw [if_pos (by rw [← Int32.not_le]; exact c1)]
    · unfold stp; rw [if_neg c]
  unfold stq at k5
  refine sgX4_stepOf_0 C E ?_
  rw [m8_eq]
  generalize hQ1 : pst (decide (0 < x)) (M_height (8 * y + (x - 1))) (0, M_beside) = Q1 at *
  generalize hQ2 : pst (decide (x + 1 < w)) (M_height (8 * y + (x + 1))) Q1 = Q2 at *
  generalize hQ3 : pst (decide (0 < y)) (M_height (8 * (y - 1) + x)) Q2 = Q3 at *
  have c1 : Q1.1 ≤ 1 := by rw [← hQ1, pst_1]; show 0 + _ ≤ 1; split <;> omega
  have c2 : Q2.1 ≤ 2 := by rw [← hQ2, pst_1]; split <;> omega
  have c3 : Q3.1 ≤ 3 := by rw [← hQ3, pst_1]; split <;> omega
  have k4 : atX4_stepOf_90 X ad cA (nI y) (nI (8 * y + x)) (nI Q3.1) M_thrown M_trace M_found M_foundSet M_foundTimes (nI w) (nI h) M_height M_isPinned Q3.2 := by
    refine sgX4_stepOf_90 C E ⟨fun c => ?_, fun c => ?_⟩ <;> rw [show nI y + 1 = nI (y + 1) from nI_1 y] at c
    · have hb : ¬ y + 1 < h := fun q => absurd c (nI_ge q (by omega))
      rw [decide_eq_false hb] at k5; exact k5
    · have hb : y + 1 < h := Nat.lt_of_not_le (fun q => c (nI_le q (by omega)))
      rw [decide_eq_true hb] at k5
      rw [show nI (8 * y + x) + 8 = nI (8 * (y + 1) + x) from by show _ + nI 8 = _; rw [nI_add]; congr 1; omega, nI_clamp (by omega)]
      refine ⟨vp_in_nI (by omega) (by decide), vp_in_nI (by omega) (by decide), fun r u hr => ?_⟩
      obtain ⟨rfl, rfl⟩ := puts_step hr (by omega)
      exact k5
  have k3 : atX4_stepOf_64 X ad cA (nI y) (nI (8 * y + x)) (nI Q2.1) M_thrown M_trace M_found M_foundSet M_foundTimes (nI w) (nI h) M_height M_isPinned Q2.2 := by
    refine sgX4_stepOf_64 C E ⟨fun c => ?_, fun c => ?_⟩
    · have hb : ¬ 0 < y := fun q => absurd c (nI_nle q (by omega))
      rw [decide_eq_false hb] at hQ3; rw [pst_f] at hQ3; subst hQ3; exact k4
    · have hb : 0 < y := Nat.pos_of_ne_zero (fun q => c (by rw [q]; exact i32_le_refl _))
      rw [decide_eq_true hb] at hQ3
      rw [show nI (8 * y + x) - 8 = nI (8 * (y - 1) + x) from by show _ - nI 8 = _; rw [pk_sub (by omega)]; congr 1; omega, nI_clamp (by omega)]
      refine ⟨vp_in_nI (by omega) (by decide), vp_in_nI (by omega) (by decide), fun r u hr => ?_⟩
      obtain ⟨rfl, rfl⟩ := puts_step hr (by omega)
      rw [hQ3]; exact k4
  have k2 : atX4_stepOf_33 X ad cA (nI x) (nI y) (nI (8 * y + x)) (nI Q1.1) M_thrown M_trace M_found M_foundSet M_foundTimes (nI w) (nI h) M_height M_isPinned Q1.2 := by
    refine sgX4_stepOf_33 C E ⟨fun c => ?_, fun c => ?_⟩ <;> rw [show nI x + 1 = nI (x + 1) from nI_1 x] at c
    · have hb : ¬ x + 1 < w := fun q => absurd c (nI_ge q (by omega))
      rw [decide_eq_false hb] at hQ2; rw [pst_f] at hQ2; subst hQ2; exact k3
    · have hb : x + 1 < w := Nat.lt_of_not_le (fun q => c (nI_le q (by omega)))
      rw [decide_eq_true hb] at hQ2
      rw [show nI (8 * y + x) + 1 = nI (8 * y + (x + 1)) from nI_1 _, nI_clamp (by omega)]
      refine ⟨vp_in_nI (by omega) (by decide), vp_in_nI (by omega) (by decide), fun r u hr => ?_⟩
      obtain ⟨rfl, rfl⟩ := puts_step hr (by omega)
      rw [hQ2]; exact k3
  refine ⟨fun c => ?_, fun c => ?_⟩
  · have hb : ¬ 0 < x := fun q => absurd c (nI_nle q (by omega))
    rw [decide_eq_false hb] at hQ1; rw [pst_f] at hQ1; subst hQ1; exact k2
  · have hb : 0 < x := Nat.pos_of_ne_zero (fun q => c (by rw [q]; exact i32_le_refl _))
    rw [decide_eq_true hb] at hQ1
    rw [show nI (8 * y + x) - 1 = nI (8 * y + (x - 1)) from by show _ - nI 1 = _; rw [pk_sub (by omega)]; congr 1; omega, nI_clamp (by omega)]
    refine ⟨vp_in_nI (by omega) (by decide), vp_in_nI (n := 0) (by omega) (by decide), fun r u hr => ?_⟩
    obtain ⟨rfl, rfl⟩ := puts_step (q := (0, M_beside)) hr (show 0 < 4 by decide)
    rw [hQ1]; exact k2


theorem size_eq (x : Int32) : fnX4_size x = szI x := by
  unfold fnX4_size szI
  rw [← Int32.zero_sub]

abbrev w1X4_slackOf (ad : Nat → Nat) (cA : Nat → ClassId) (M_thrown : Int32) (M_trace : Int64) (M_found : Int64) (M_foundSet : Int64) (M_foundTimes : Int64) (M_w : Int32) (M_h : Int32) (M_height : Nat → Int32) (M_isPinned : Nat → Int32) (u : (Nat → Int32)) : va_W := [((ad 19), .inr (4, [.int M_thrown, .long M_trace, .ref (ad 20), .ref (ad 21), .ref (ad 22), .ref (ad 23), .ref (ad 24), .ref (ad 25), .ref (ad 26), .ref (ad 27), .ref (ad 28), .ref (ad 29), .ref (ad 30), .ref (ad 31), .long M_found, .long M_foundSet, .long M_foundTimes, .int M_w, .int M_h, .ref (ad 32), .ref (ad 33), .ref (ad 34)])), ((ad 32), .inl (cA 0, 64, .inl M_height)), ((ad 33), .inl (cA 2, 64, .inl M_isPinned)), ((ad 34), .inl (cA 0, 4, .inl u))]
abbrev wcX4_slackOf (ad : Nat → Nat) (cA : Nat → ClassId) (M_thrown : Int32) (M_trace : Int64) (M_found : Int64) (M_foundSet : Int64) (M_foundTimes : Int64) (M_w : Int32) (M_h : Int32) (M_height : Nat → Int32) (M_isPinned : Nat → Int32) (M_beside : Nat → Int32) : va_W := [((ad 19), .inr (4, [.int M_thrown, .long M_trace, .ref (ad 20), .ref (ad 21), .ref (ad 22), .ref (ad 23), .ref (ad 24), .ref (ad 25), .ref (ad 26), .ref (ad 27), .ref (ad 28), .ref (ad 29), .ref (ad 30), .ref (ad 31), .long M_found, .long M_foundSet, .long M_foundTimes, .int M_w, .int M_h, .ref (ad 32), .ref (ad 33), .ref (ad 34)])), ((ad 32), .inl (cA 0, 64, .inl M_height)), ((ad 33), .inl (cA 2, 64, .inl M_isPinned)), ((ad 34), .inl (cA 0, 4, .inl M_beside))]
def rmX4_slackOf : Room := { frames := 2, cells := 0, slots := 0, locals := 49 }
abbrev atX4_slackOf_0 (X : gX) (ad : Nat → Nat) (cA : Nat → ClassId) (M_thrown : Int32) (M_trace : Int64) (M_found : Int64) (M_foundSet : Int64) (M_foundTimes : Int64) (M_w : Int32) (M_h : Int32) (M_height : Nat → Int32) (M_isPinned : Nat → Int32) (M_beside : Nat → Int32) : Prop := gW X 0 0 [((ad 19), .inr (4, [.int M_thrown, .long M_trace, .ref (ad 20), .ref (ad 21), .ref (ad 22), .ref (ad 23), .ref (ad 24), .ref (ad 25), .ref (ad 26), .ref (ad 27), .ref (ad 28), .ref (ad 29), .ref (ad 30), .ref (ad 31), .long M_found, .long M_foundSet, .long M_foundTimes, .int M_w, .int M_h, .ref (ad 32), .ref (ad 33), .ref (ad 34)])), ((ad 32), .inl (cA 0, 64, .inl M_height)), ((ad 33), .inl (cA 2, 64, .inl M_isPinned)), ((ad 34), .inl (cA 0, 4, .inl M_beside))] 4 [(0, .ref (ad 19))] [] 0
abbrev atX4_slackOf_4 (X : gX) (ad : Nat → Nat) (cA : Nat → ClassId) (x1 : Int32) (x2 : Int32) (M_thrown : Int32) (M_trace : Int64) (M_found : Int64) (M_foundSet : Int64) (M_foundTimes : Int64) (M_w : Int32) (M_h : Int32) (M_height : Nat → Int32) (M_isPinned : Nat → Int32) (M_beside : Nat → Int32) : Prop := gW X 0 0 [((ad 19), .inr (4, [.int M_thrown, .long M_trace, .ref (ad 20), .ref (ad 21), .ref (ad 22), .ref (ad 23), .ref (ad 24), .ref (ad 25), .ref (ad 26), .ref (ad 27), .ref (ad 28), .ref (ad 29), .ref (ad 30), .ref (ad 31), .long M_found, .long M_foundSet, .long M_foundTimes, .int M_w, .int M_h, .ref (ad 32), .ref (ad 33), .ref (ad 34)])), ((ad 32), .inl (cA 0, 64, .inl M_height)), ((ad 33), .inl (cA 2, 64, .inl M_isPinned)), ((ad 34), .inl (cA 0, 4, .inl M_beside))] 4 [(0, .ref (ad 19)), (1, .int x1), (2, .int x2)] [] 4
abbrev atX4_slackOf_14 (X : gX) (ad : Nat → Nat) (cA : Nat → ClassId) (x1 : Int32) (x2 : Int32) (x3 : Int32) (M_thrown : Int32) (M_trace : Int64) (M_found : Int64) (M_foundSet : Int64) (M_foundTimes : Int64) (M_w : Int32) (M_h : Int32) (M_height : Nat → Int32) (M_isPinned : Nat → Int32) (M_beside : Nat → Int32) : Prop := gW X 0 0 [((ad 19), .inr (4, [.int M_thrown, .long M_trace, .ref (ad 20), .ref (ad 21), .ref (ad 22), .ref (ad 23), .ref (ad 24), .ref (ad 25), .ref (ad 26), .ref (ad 27), .ref (ad 28), .ref (ad 29), .ref (ad 30), .ref (ad 31), .long M_found, .long M_foundSet, .long M_foundTimes, .int M_w, .int M_h, .ref (ad 32), .ref (ad 33), .ref (ad 34)])), ((ad 32), .inl (cA 0, 64, .inl M_height)), ((ad 33), .inl (cA 2, 64, .inl M_isPinned)), ((ad 34), .inl (cA 0, 4, .inl M_beside))] 4 [(0, .ref (ad 19)), (1, .int x1), (2, .int x2), (3, .int x3)] [] 14
theorem giX4_slackOf_X4 : ∀ w ∈ u_ws RX4 TX4 22, w ∈ wsX4_slackOf := by decide +kernel
theorem gfX4_slackOf_51 : gF wsX4_slackOf RX4 51 4 18 RX4 TX4 22 := ⟨giX4_slackOf_X4, by decide +kernel, rfl, by decide⟩
theorem gfX4_slackOf_47 : gF wsX4_slackOf RX4 47 4 17 RX4 TX4 22 := ⟨giX4_slackOf_X4, by decide +kernel, rfl, by decide⟩
theorem gfX4_slackOf_54 : gF wsX4_slackOf RX4 54 4 19 RX4 TX4 22 := ⟨giX4_slackOf_X4, by decide +kernel, rfl, by decide⟩
set_option maxHeartbeats 4000000 in
set_option maxRecDepth 100000 in
theorem sgX4_slackOf_0 {X : gX} {ad : Nat → Nat} {cA : Nat → ClassId} {post : Int32 → ((Nat → Int32)) → Prop} {M_thrown : Int32} {M_trace : Int64} {M_found : Int64} {M_foundSet : Int64} {M_foundTimes : Int64} {M_w : Int32} {M_h : Int32} {M_height : Nat → Int32} {M_isPinned : Nat → Int32} {M_beside : Nat → Int32} (C : gC X (gT cA) cX4_slackOf 4 RX4 wsX4_slackOf rmX4_slackOf) (E : gEi X (some .int) (gT cA) 0 0 post (w1X4_slackOf ad cA M_thrown M_trace M_found M_foundSet M_foundTimes M_w M_h M_height M_isPinned)) (h : atX4_slackOf_4 X ad cA (0 : Int32) (0 : Int32) M_thrown M_trace M_found M_foundSet M_foundTimes M_w M_h M_height M_isPinned M_beside) : atX4_slackOf_0 X ad cA M_thrown M_trace M_found M_foundSet M_foundTimes M_w M_h M_height M_isPinned M_beside := by
  refine g_iconst C dX4_slackOf_0 ik_0 ?_
  refine g_istore_n (lv2 := [(0, .ref (ad 19)), (1, .int (0 : Int32))]) C dX4_slackOf_1 rfl (by decide) [1, 0] rfl ?_
  refine g_iconst C dX4_slackOf_2 ik_0 ?_
  refine g_istore_n (lv2 := [(0, .ref (ad 19)), (1, .int (0 : Int32)), (2, .int (0 : Int32))]) C dX4_slackOf_3 rfl (by decide) [1, 2, 0] rfl ?_
  exact g_lv [0, 1, 2] rfl h
set_option maxHeartbeats 4000000 in
set_option maxRecDepth 100000 in
theorem sgX4_slackOf_4 {X : gX} {ad : Nat → Nat} {cA : Nat → ClassId} {post : Int32 → ((Nat → Int32)) → Prop} {x1 : Int32} {x2 : Int32} {M_thrown : Int32} {M_trace : Int64} {M_found : Int64} {M_foundSet : Int64} {M_foundTimes : Int64} {M_w : Int32} {M_h : Int32} {M_height : Nat → Int32} {M_isPinned : Nat → Int32} {M_beside : Nat → Int32} (C : gC X (gT cA) cX4_slackOf 4 RX4 wsX4_slackOf rmX4_slackOf) (E : gEi X (some .int) (gT cA) 0 0 post (w1X4_slackOf ad cA M_thrown M_trace M_found M_foundSet M_foundTimes M_w M_h M_height M_isPinned)) (h : (M_h ≤ x2 → post x1 M_beside) ∧ (¬ M_h ≤ x2 → atX4_slackOf_14 X ad cA x1 x2 (0 : Int32) M_thrown M_trace M_found M_foundSet M_foundTimes M_w M_h M_height M_isPinned M_beside)) : atX4_slackOf_4 X ad cA x1 x2 M_thrown M_trace M_found M_foundSet M_foundTimes M_w M_h M_height M_isPinned M_beside := by
  refine g_iload_n C dX4_slackOf_4 rfl 2 rfl ?_
  refine g_aload_n C dX4_slackOf_5 rfl 0 rfl ?_
  refine g_get C gfX4_slackOf_51 0 rfl rfl dX4_slackOf_6 ?_
  refine g_icmp_ge (tgt := 58) C dX4_slackOf_9 (by decide) (fun c_1 => ?_) (fun c_1 => ?_)
  · replace h := h.1 c_1
    refine g_iload_n C dX4_slackOf_58 rfl 1 rfl ?_
    exact g_iret C E M_beside h rfl dX4_slackOf_59
  · replace h := h.2 c_1
    refine g_iconst C dX4_slackOf_12 ik_0 ?_
    refine g_istore_n (lv2 := [(0, .ref (ad 19)), (1, .int x1), (2, .int x2), (3, .int (0 : Int32))]) C dX4_slackOf_13 rfl (by decide) [1, 2, 3, 0] rfl ?_
    exact g_lv [0, 1, 2, 3] rfl h
set_option maxHeartbeats 4000000 in
set_option maxRecDepth 100000 in
theorem sgX4_slackOf_14 {X : gX} {ad : Nat → Nat} {cA : Nat → ClassId} {post : Int32 → ((Nat → Int32)) → Prop} {x1 : Int32} {x2 : Int32} {x3 : Int32} {M_thrown : Int32} {M_trace : Int64} {M_found : Int64} {M_foundSet : Int64} {M_foundTimes : Int64} {M_w : Int32} {M_h : Int32} {M_height : Nat → Int32} {M_isPinned : Nat → Int32} {M_beside : Nat → Int32} (C : gC X (gT cA) cX4_slackOf 4 RX4 wsX4_slackOf rmX4_slackOf) (E : gEi X (some .int) (gT cA) 0 0 post (w1X4_slackOf ad cA M_thrown M_trace M_found M_foundSet M_foundTimes M_w M_h M_height M_isPinned)) (h : (M_w ≤ x3 → atX4_slackOf_4 X ad cA x1 (x2 + 1) M_thrown M_trace M_found M_foundSet M_foundTimes M_w M_h M_height M_isPinned M_beside) ∧ (¬ M_w ≤ x3 → prX4_stepOf x3 x2 M_thrown M_trace M_found M_foundSet M_foundTimes M_w M_h M_height M_isPinned M_beside ∧ ∀ (r_4 : Int32) (u4_M_beside : Nat → Int32), po_X4_stepOf ad cA x3 x2 M_thrown M_trace M_found M_foundSet M_foundTimes M_w M_h M_height M_isPinned M_beside r_4 u4_M_beside → vp_in (((8 : Int32) * x2) + x3) 64 ∧ ∀ x1_7 : Int32, x1_7 = (x1 + (fnX4_size (r_4 - (M_height (((8 : Int32) * x2) + x3).toNatClampNeg)))) → atX4_slackOf_14 X ad cA x1_7 x2 (x3 + 1) M_thrown M_trace M_found M_foundSet M_foundTimes M_w M_h M_height M_isPinned u4_M_beside)) : atX4_slackOf_14 X ad cA x1 x2 x3 M_thrown M_trace M_found M_foundSet M_foundTimes M_w M_h M_height M_isPinned M_beside := by
  refine g_iload_n C dX4_slackOf_14 rfl 3 rfl ?_
  refine g_aload_n C dX4_slackOf_15 rfl 0 rfl ?_
  refine g_get C gfX4_slackOf_47 0 rfl rfl dX4_slackOf_16 ?_
  refine g_icmp_ge (tgt := 52) C dX4_slackOf_19 (by decide) (fun c_2 => ?_) (fun c_2 => ?_)
  · replace h := h.1 c_2
    refine g_iinc (v := (x2 + 1)) (lv2 := [(0, .ref (ad 19)), (1, .int x1), (2, .int (x2 + 1)), (3, .int x3)]) C dX4_slackOf_52 2 rfl (by first | rfl | decide) (by decide) [1, 2, 0, 3] rfl ?_
    refine g_goto (tgt := 4) C dX4_slackOf_55 (by decide) ?_
    exact g_lv [0, 1, 2] rfl h
  · replace h := h.2 c_2
    refine g_iload_n C dX4_slackOf_22 rfl 1 rfl ?_
    refine g_aload_n C dX4_slackOf_23 rfl 0 rfl ?_
    refine g_iload_n C dX4_slackOf_24 rfl 3 rfl ?_
    refine g_iload_n C dX4_slackOf_25 rfl 2 rfl ?_
    obtain ⟨hi_3, h⟩ := h
    refine g_callVi (wr := []) C (c_X4_stepOf ad cA x3 x2 M_thrown M_trace M_found M_foundSet M_foundTimes M_w M_h M_height M_isPinned M_beside hi_3) gX4_slackOf_X4_stepOf rfl hde_X4_stepOf ⟨rfl, rfl⟩ (by decide) (by decide) [0, 1, 2, 3] [] [0, 1, 2, 3] rfl rfl rfl rfl (by decide) rfl (ws2 := fun u => [((ad 19), .inr (4, [.int M_thrown, .long M_trace, .ref (ad 20), .ref (ad 21), .ref (ad 22), .ref (ad 23), .ref (ad 24), .ref (ad 25), .ref (ad 26), .ref (ad 27), .ref (ad 28), .ref (ad 29), .ref (ad 30), .ref (ad 31), .long M_found, .long M_foundSet, .long M_foundTimes, .int M_w, .int M_h, .ref (ad 32), .ref (ad 33), .ref (ad 34)])), ((ad 32), .inl (cA 0, 64, .inl M_height)), ((ad 33), .inl (cA 2, 64, .inl M_isPinned)), ((ad 34), .inl (cA 0, 4, .inl u))]) (fun _ => rfl) 4 0 rfl rfl rfl (rest := [.int x1]) rfl (Nat.le_of_ble_eq_true rfl) dX4_slackOf_26 (fun r_4 u_4 hp_4 => ?_)
    obtain ⟨u4_M_beside, rfl⟩ : ∃ z, z = u_4 := ⟨_, rfl⟩
    replace h := h r_4 u4_M_beside hp_4
    change gW X 0 0 [((ad 19), .inr (4, [.int M_thrown, .long M_trace, .ref (ad 20), .ref (ad 21), .ref (ad 22), .ref (ad 23), .ref (ad 24), .ref (ad 25), .ref (ad 26), .ref (ad 27), .ref (ad 28), .ref (ad 29), .ref (ad 30), .ref (ad 31), .long M_found, .long M_foundSet, .long M_foundTimes, .int M_w, .int M_h, .ref (ad 32), .ref (ad 33), .ref (ad 34)])), ((ad 32), .inl (cA 0, 64, .inl M_height)), ((ad 33), .inl (cA 2, 64, .inl M_isPinned)), ((ad 34), .inl (cA 0, 4, .inl u4_M_beside))] 4 [(0, .ref (ad 19)), (1, .int x1), (2, .int x2), (3, .int x3)] [.int r_4, .int x1] 29
    refine g_aload_n C dX4_slackOf_29 rfl 0 rfl ?_
    refine g_get C gfX4_slackOf_54 0 rfl rfl dX4_slackOf_30 ?_
    refine g_bipush C dX4_slackOf_33 bk_8 ?_
    refine g_iload_n C dX4_slackOf_35 rfl 2 rfl ?_
    refine g_imul C dX4_slackOf_36 ?_
    refine g_iload_n C dX4_slackOf_37 rfl 3 rfl ?_
    refine g_iadd C dX4_slackOf_38 ?_
    obtain ⟨hi_5, h⟩ := h
    refine g_iald C 1 0 rfl rfl hi_5 dX4_slackOf_39 ?_
    refine g_isub C dX4_slackOf_40 ?_
    refine g_callSi (b := 0) (wr := [((ad 19), .inr (4, [.int M_thrown, .long M_trace, .ref (ad 20), .ref (ad 21), .ref (ad 22), .ref (ad 23), .ref (ad 24), .ref (ad 25), .ref (ad 26), .ref (ad 27), .ref (ad 28), .ref (ad 29), .ref (ad 30), .ref (ad 31), .long M_found, .long M_foundSet, .long M_foundTimes, .int M_w, .int M_h, .ref (ad 32), .ref (ad 33), .ref (ad 34)])), ((ad 32), .inl (cA 0, 64, .inl M_height)), ((ad 33), .inl (cA 2, 64, .inl M_isPinned)), ((ad 34), .inl (cA 0, 4, .inl u4_M_beside))]) C (c_X4_size ad cA (r_4 - (M_height (((8 : Int32) * x2) + x3).toNatClampNeg))) gX4_slackOf_X4_size rfl hde_X4_size ⟨rfl, rfl⟩ (by decide) (by decide) [] [0, 1, 2, 3] [0, 1, 2, 3] rfl rfl rfl rfl (by decide) rfl (ws2 := fun u => [((ad 19), .inr (4, [.int M_thrown, .long M_trace, .ref (ad 20), .ref (ad 21), .ref (ad 22), .ref (ad 23), .ref (ad 24), .ref (ad 25), .ref (ad 26), .ref (ad 27), .ref (ad 28), .ref (ad 29), .ref (ad 30), .ref (ad 31), .long M_found, .long M_foundSet, .long M_foundTimes, .int M_w, .int M_h, .ref (ad 32), .ref (ad 33), .ref (ad 34)])), ((ad 32), .inl (cA 0, 64, .inl M_height)), ((ad 33), .inl (cA 2, 64, .inl M_isPinned)), ((ad 34), .inl (cA 0, 4, .inl u4_M_beside))]) (fun _ => rfl) (rest := [.int x1]) rfl (Nat.le_of_ble_eq_true rfl) dX4_slackOf_41 (fun r_6 u_6 hp_6 => ?_)
    subst hp_6
    change gW X 0 0 [((ad 19), .inr (4, [.int M_thrown, .long M_trace, .ref (ad 20), .ref (ad 21), .ref (ad 22), .ref (ad 23), .ref (ad 24), .ref (ad 25), .ref (ad 26), .ref (ad 27), .ref (ad 28), .ref (ad 29), .ref (ad 30), .ref (ad 31), .long M_found, .long M_foundSet, .long M_foundTimes, .int M_w, .int M_h, .ref (ad 32), .ref (ad 33), .ref (ad 34)])), ((ad 32), .inl (cA 0, 64, .inl M_height)), ((ad 33), .inl (cA 2, 64, .inl M_isPinned)), ((ad 34), .inl (cA 0, 4, .inl u4_M_beside))] 4 [(0, .ref (ad 19)), (1, .int x1), (2, .int x2), (3, .int x3)] [.int (fnX4_size (r_4 - (M_height (((8 : Int32) * x2) + x3).toNatClampNeg))), .int x1] 44
    refine g_iadd C dX4_slackOf_44 ?_
    refine g_topi (fun x1_7 ex1_7 => ?_)
    replace h := h x1_7 ex1_7
    refine g_istore_n (lv2 := [(0, .ref (ad 19)), (1, .int x1_7), (2, .int x2), (3, .int x3)]) C dX4_slackOf_45 rfl (by decide) [1, 0, 2, 3] rfl ?_
    refine g_iinc (v := (x3 + 1)) (lv2 := [(0, .ref (ad 19)), (1, .int x1_7), (2, .int x2), (3, .int (x3 + 1))]) C dX4_slackOf_46 3 rfl (by first | rfl | decide) (by decide) [1, 2, 3, 0] rfl ?_
    refine g_goto (tgt := 14) C dX4_slackOf_49 (by decide) ?_
    exact g_lv [0, 1, 2, 3] rfl h
def prX4_slackOf (M_thrown : Int32) (M_trace : Int64) (M_found : Int64) (M_foundSet : Int64) (M_foundTimes : Int64) (M_w : Int32) (M_h : Int32) (M_height : Nat → Int32) (M_isPinned : Nat → Int32) (M_beside : Nat → Int32) : Prop := netOK M_w M_h
def po_X4_slackOf (ad : Nat → Nat) (cA : Nat → ClassId) (M_thrown : Int32) (M_trace : Int64) (M_found : Int64) (M_foundSet : Int64) (M_foundTimes : Int64) (M_w : Int32) (M_h : Int32) (M_height : Nat → Int32) (M_isPinned : Nat → Int32) (M_beside : Nat → Int32) (r : Int32) (u : (Nat → Int32)) : Prop := r = chg M_w.toNatClampNeg M_h.toNatClampNeg M_isPinned M_height
set_option maxHeartbeats 4000000 in
set_option maxRecDepth 100000 in
theorem c_X4_slackOf (ad : Nat → Nat) (cA : Nat → ClassId) (M_thrown : Int32) (M_trace : Int64) (M_found : Int64) (M_foundSet : Int64) (M_foundTimes : Int64) (M_w : Int32) (M_h : Int32) (M_height : Nat → Int32) (M_isPinned : Nat → Int32) (M_beside : Nat → Int32) (hq : prX4_slackOf M_thrown M_trace M_found M_foundSet M_foundTimes M_w M_h M_height M_isPinned M_beside) : ∀ (l : Launch) (D : va_G), gMi (S := (Nat → Int32)) l yX4_slackOf wsX4_slackOf rmX4_slackOf D (gT cA) 0 0 [.ref (ad 19)] (wcX4_slackOf ad cA M_thrown M_trace M_found M_foundSet M_foundTimes M_w M_h M_height M_isPinned M_beside) (po_X4_slackOf ad cA M_thrown M_trace M_found M_foundSet M_foundTimes M_w M_h M_height M_isPinned M_beside) (w1X4_slackOf ad cA M_thrown M_trace M_found M_foundSet M_foundTimes M_w M_h M_height M_isPinned) := by
  intro l D
  unfold prX4_slackOf at hq
  refine g_enteri (cc := cX4_slackOf) (nL := 4) (ret := (some .int)) (by decide) rfl (Nat.le_of_ble_eq_true rfl) rfl (fun X C E => ?_)
  obtain ⟨w, h, hw2, hw, hh2, hh, rfl, rfl⟩ := hq
  have hpo : ∀ (r : Int32) (u : Nat → Int32), r = chg w h M_isPinned M_height → po_X4_slackOf ad cA M_thrown M_trace M_found M_foundSet M_foundTimes (nI w) (nI h) M_height M_isPinned M_beside r u := fun r u e => by
    unfold po_X4_slackOf
    rw [nI_clamp (by omega), nI_clamp (by omega)]; exact e
  refine sgX4_slackOf_0 C E ?_
  unfold chg sum2 at hpo
  generalize ht : (fun (y x : Nat) => szI (stp w h M_isPinned M_height x y - M_height (8 * y + x))) = t at hpo
  have outer : ∀ y, y ≤ h → ∀ nr, atX4_slackOf_4 X ad cA (sumI (fun y => sumI (t y) w) y) (nI y) M_thrown M_trace M_found M_foundSet M_foundTimes (nI w) (nI h) M_height M_isPinned nr := by
    intro y hy
    refine up_loop (P := fun y => ∀ nr, atX4_slackOf_4 X ad cA (sumI (fun y => sumI (t y) w) y) (nI y) M_thrown M_trace M_found M_foundSet M_foundTimes (nI w) (nI h) M_height M_isPinned nr) h ?_ (fun y hy ih nr => ?_) y hy
    · exact fun nr => sgX4_slackOf_4 C E ⟨fun _ => hpo _ _ (by rw [← ht]), fun c => absurd (i32_le_refl _) c⟩
    · refine sgX4_slackOf_4 C E ⟨fun c => absurd c (nI_ge hy (by omega)), fun _ => ?_⟩
      have inner : ∀ x, x ≤ w → ∀ nr, atX4_slackOf_14 X ad cA (sumI (fun y => sumI (t y) w) y + sumI (t y) x) (nI y) (nI x) M_thrown M_trace M_found M_foundSet M_foundTimes (nI w) (nI h) M_height M_isPinned nr := by
        intro x hx
        refine up_loop (P := fun x => ∀ nr, atX4_slackOf_14 X ad cA (sumI (fun y => sumI (t y) w) y + sumI (t y) x) (nI y) (nI x) M_thrown M_trace M_found M_foundSet M_foundTimes (nI w) (nI h) M_height M_isPinned nr) w ?_ (fun x hx ih2 nr => ?_) x hx
        · refine fun nr => sgX4_slackOf_14 C E ⟨fun _ => ?_, fun c => absurd (i32_le_refl _) c⟩
          rw [nI_1]; exact ih nr
        · refine sgX4_slackOf_14 C E ⟨fun c => absurd c (nI_ge hx (by omega)), fun _ => ⟨⟨w, h, x, y, hw2, hw, hh2, hh, rfl, rfl, hx, hy, rfl, rfl⟩, fun r u hr => ?_⟩⟩
          unfold po_X4_stepOf at hr
          rw [nI_clamp (by omega), nI_clamp (by omega), nI_clamp (by omega), nI_clamp (by omega)] at hr
          rw [m8_eq, nI_clamp (by omega)]
          refine ⟨vp_in_nI (by omega) (by decide), fun v ev => ?_⟩
          rw [size_eq] at ev
          rw [nI_1, ev, hr]
          have e2 : sumI (fun y => sumI (t y) w) y + sumI (t y) x + szI (stp w h M_isPinned M_height x y - M_height (8 * y + x)) = sumI (fun y => sumI (t y) w) y + sumI (t y) (x + 1) := by
            rw [sumI, ← ht, Int32.add_assoc]
          rw [e2]; exact ih2 u
      have := inner 0 (Nat.zero_le _) nr
      rw [sumI, Int32.add_zero] at this
      exact this
  exact outer 0 (Nat.zero_le _) M_beside


abbrev w1X4_slack (ad : Nat → Nat) (cA : Nat → ClassId) (M_trace : Int64) (M_found : Int64) (M_foundSet : Int64) (M_foundTimes : Int64) (M_w : Int32) (M_h : Int32) (M_height : Nat → Int32) (M_isPinned : Nat → Int32) (u : (Int32) × (Nat → Int32)) : va_W := [((ad 19), .inr (4, [.int u.1, .long M_trace, .ref (ad 20), .ref (ad 21), .ref (ad 22), .ref (ad 23), .ref (ad 24), .ref (ad 25), .ref (ad 26), .ref (ad 27), .ref (ad 28), .ref (ad 29), .ref (ad 30), .ref (ad 31), .long M_found, .long M_foundSet, .long M_foundTimes, .int M_w, .int M_h, .ref (ad 32), .ref (ad 33), .ref (ad 34)])), ((ad 32), .inl (cA 0, 64, .inl M_height)), ((ad 33), .inl (cA 2, 64, .inl M_isPinned)), ((ad 34), .inl (cA 0, 4, .inl u.2))]
abbrev wcX4_slack (ad : Nat → Nat) (cA : Nat → ClassId) (M_thrown : Int32) (M_trace : Int64) (M_found : Int64) (M_foundSet : Int64) (M_foundTimes : Int64) (M_w : Int32) (M_h : Int32) (M_height : Nat → Int32) (M_isPinned : Nat → Int32) (M_beside : Nat → Int32) : va_W := [((ad 19), .inr (4, [.int M_thrown, .long M_trace, .ref (ad 20), .ref (ad 21), .ref (ad 22), .ref (ad 23), .ref (ad 24), .ref (ad 25), .ref (ad 26), .ref (ad 27), .ref (ad 28), .ref (ad 29), .ref (ad 30), .ref (ad 31), .long M_found, .long M_foundSet, .long M_foundTimes, .int M_w, .int M_h, .ref (ad 32), .ref (ad 33), .ref (ad 34)])), ((ad 32), .inl (cA 0, 64, .inl M_height)), ((ad 33), .inl (cA 2, 64, .inl M_isPinned)), ((ad 34), .inl (cA 0, 4, .inl M_beside))]
def rmX4_slack : Room := { frames := 3, cells := 0, slots := 0, locals := 72 }
abbrev atX4_slack_0 (X : gX) (ad : Nat → Nat) (cA : Nat → ClassId) (M_thrown : Int32) (M_trace : Int64) (M_found : Int64) (M_foundSet : Int64) (M_foundTimes : Int64) (M_w : Int32) (M_h : Int32) (M_height : Nat → Int32) (M_isPinned : Nat → Int32) (M_beside : Nat → Int32) : Prop := gW X 0 0 [((ad 19), .inr (4, [.int M_thrown, .long M_trace, .ref (ad 20), .ref (ad 21), .ref (ad 22), .ref (ad 23), .ref (ad 24), .ref (ad 25), .ref (ad 26), .ref (ad 27), .ref (ad 28), .ref (ad 29), .ref (ad 30), .ref (ad 31), .long M_found, .long M_foundSet, .long M_foundTimes, .int M_w, .int M_h, .ref (ad 32), .ref (ad 33), .ref (ad 34)])), ((ad 32), .inl (cA 0, 64, .inl M_height)), ((ad 33), .inl (cA 2, 64, .inl M_isPinned)), ((ad 34), .inl (cA 0, 4, .inl M_beside))] 1 [(0, .ref (ad 19))] [] 0
theorem giX4_slack_X4 : ∀ w ∈ u_ws RX4 TX4 22, w ∈ wsX4_slack := by decide +kernel
theorem gfX4_slack_67 : gF wsX4_slack RX4 67 4 0 RX4 TX4 22 := ⟨giX4_slack_X4, by decide +kernel, rfl, by decide⟩
set_option maxHeartbeats 4000000 in
set_option maxRecDepth 100000 in
theorem sgX4_slack_0 {X : gX} {ad : Nat → Nat} {cA : Nat → ClassId} {post : Int32 → ((Int32) × (Nat → Int32)) → Prop} {M_thrown : Int32} {M_trace : Int64} {M_found : Int64} {M_foundSet : Int64} {M_foundTimes : Int64} {M_w : Int32} {M_h : Int32} {M_height : Nat → Int32} {M_isPinned : Nat → Int32} {M_beside : Nat → Int32} (C : gC X (gT cA) cX4_slack 1 RX4 wsX4_slack rmX4_slack) (E : gEi X (some .int) (gT cA) 0 0 post (w1X4_slack ad cA M_trace M_found M_foundSet M_foundTimes M_w M_h M_height M_isPinned)) (h : prX4_slackOf (0 : Int32) M_trace M_found M_foundSet M_foundTimes M_w M_h M_height M_isPinned M_beside ∧ ∀ (r_2 : Int32) (u2_M_beside : Nat → Int32), po_X4_slackOf ad cA (0 : Int32) M_trace M_found M_foundSet M_foundTimes M_w M_h M_height M_isPinned M_beside r_2 u2_M_beside → post r_2 ((0 : Int32), u2_M_beside)) : atX4_slack_0 X ad cA M_thrown M_trace M_found M_foundSet M_foundTimes M_w M_h M_height M_isPinned M_beside := by
  refine g_aload_n C dX4_slack_0 rfl 0 rfl ?_
  refine g_iconst C dX4_slack_1 ik_0 ?_
  refine g_put (ws2 := [((ad 19), .inr (4, [.int (0 : Int32), .long M_trace, .ref (ad 20), .ref (ad 21), .ref (ad 22), .ref (ad 23), .ref (ad 24), .ref (ad 25), .ref (ad 26), .ref (ad 27), .ref (ad 28), .ref (ad 29), .ref (ad 30), .ref (ad 31), .long M_found, .long M_foundSet, .long M_foundTimes, .int M_w, .int M_h, .ref (ad 32), .ref (ad 33), .ref (ad 34)])), ((ad 32), .inl (cA 0, 64, .inl M_height)), ((ad 33), .inl (cA 2, 64, .inl M_isPinned)), ((ad 34), .inl (cA 0, 4, .inl M_beside))]) C gfX4_slack_67 0 tyX4_ok nmX4 rfl rfl rfl rfl (Nat.le_of_ble_eq_true rfl) rfl dX4_slack_2 ?_
  refine g_aload_n C dX4_slack_5 rfl 0 rfl ?_
  obtain ⟨hi_1, h⟩ := h
  refine g_callVi (wr := []) C (c_X4_slackOf ad cA (0 : Int32) M_trace M_found M_foundSet M_foundTimes M_w M_h M_height M_isPinned M_beside hi_1) gX4_slack_X4_slackOf rfl hde_X4_slackOf ⟨rfl, rfl⟩ (by decide) (by decide) [0, 1, 2, 3] [] [0, 1, 2, 3] rfl rfl rfl rfl (by decide) rfl (ws2 := fun u => [((ad 19), .inr (4, [.int (0 : Int32), .long M_trace, .ref (ad 20), .ref (ad 21), .ref (ad 22), .ref (ad 23), .ref (ad 24), .ref (ad 25), .ref (ad 26), .ref (ad 27), .ref (ad 28), .ref (ad 29), .ref (ad 30), .ref (ad 31), .long M_found, .long M_foundSet, .long M_foundTimes, .int M_w, .int M_h, .ref (ad 32), .ref (ad 33), .ref (ad 34)])), ((ad 32), .inl (cA 0, 64, .inl M_height)), ((ad 33), .inl (cA 2, 64, .inl M_isPinned)), ((ad 34), .inl (cA 0, 4, .inl u))]) (fun _ => rfl) 4 0 rfl rfl rfl (rest := []) rfl (Nat.le_of_ble_eq_true rfl) dX4_slack_6 (fun r_2 u_2 hp_2 => ?_)
  obtain ⟨u2_M_beside, rfl⟩ : ∃ z, z = u_2 := ⟨_, rfl⟩
  replace h := h r_2 u2_M_beside hp_2
  change gW X 0 0 [((ad 19), .inr (4, [.int (0 : Int32), .long M_trace, .ref (ad 20), .ref (ad 21), .ref (ad 22), .ref (ad 23), .ref (ad 24), .ref (ad 25), .ref (ad 26), .ref (ad 27), .ref (ad 28), .ref (ad 29), .ref (ad 30), .ref (ad 31), .long M_found, .long M_foundSet, .long M_foundTimes, .int M_w, .int M_h, .ref (ad 32), .ref (ad 33), .ref (ad 34)])), ((ad 32), .inl (cA 0, 64, .inl M_height)), ((ad 33), .inl (cA 2, 64, .inl M_isPinned)), ((ad 34), .inl (cA 0, 4, .inl u2_M_beside))] 1 [(0, .ref (ad 19))] [.int r_2] 9
  exact g_iret C E ((0 : Int32), u2_M_beside) h rfl dX4_slack_9
def prX4_slack (M_thrown : Int32) (M_trace : Int64) (M_found : Int64) (M_foundSet : Int64) (M_foundTimes : Int64) (M_w : Int32) (M_h : Int32) (M_height : Nat → Int32) (M_isPinned : Nat → Int32) (M_beside : Nat → Int32) : Prop := netOK M_w M_h
def po_X4_slack (ad : Nat → Nat) (cA : Nat → ClassId) (M_thrown : Int32) (M_trace : Int64) (M_found : Int64) (M_foundSet : Int64) (M_foundTimes : Int64) (M_w : Int32) (M_h : Int32) (M_height : Nat → Int32) (M_isPinned : Nat → Int32) (M_beside : Nat → Int32) (r : Int32) (u : (Int32) × (Nat → Int32)) : Prop := r = chg M_w.toNatClampNeg M_h.toNatClampNeg M_isPinned M_height ∧ u.1 = 0
set_option maxHeartbeats 4000000 in
set_option maxRecDepth 100000 in
theorem c_X4_slack (ad : Nat → Nat) (cA : Nat → ClassId) (M_thrown : Int32) (M_trace : Int64) (M_found : Int64) (M_foundSet : Int64) (M_foundTimes : Int64) (M_w : Int32) (M_h : Int32) (M_height : Nat → Int32) (M_isPinned : Nat → Int32) (M_beside : Nat → Int32) (hq : prX4_slack M_thrown M_trace M_found M_foundSet M_foundTimes M_w M_h M_height M_isPinned M_beside) : ∀ (l : Launch) (D : va_G), gMi (S := (Int32) × (Nat → Int32)) l yX4_slack wsX4_slack rmX4_slack D (gT cA) 0 0 [.ref (ad 19)] (wcX4_slack ad cA M_thrown M_trace M_found M_foundSet M_foundTimes M_w M_h M_height M_isPinned M_beside) (po_X4_slack ad cA M_thrown M_trace M_found M_foundSet M_foundTimes M_w M_h M_height M_isPinned M_beside) (w1X4_slack ad cA M_trace M_found M_foundSet M_foundTimes M_w M_h M_height M_isPinned) := by
  intro l D
  unfold prX4_slack at hq
  refine g_enteri (cc := cX4_slack) (nL := 1) (ret := (some .int)) (by decide) rfl (Nat.le_of_ble_eq_true rfl) rfl (fun X C E => ?_)
  refine sgX4_slack_0 C E ⟨hq, fun r u hr => ⟨hr, rfl⟩⟩


abbrev w1X4_drawn (ad : Nat → Nat) (cA : Nat → ClassId) (M_trace : Int64) (M_found : Int64) (M_foundSet : Int64) (M_foundTimes : Int64) (M_w : Int32) (M_h : Int32) (M_height : Nat → Int32) (u : (Int32)) : va_W := [((ad 19), .inr (4, [.int u, .long M_trace, .ref (ad 20), .ref (ad 21), .ref (ad 22), .ref (ad 23), .ref (ad 24), .ref (ad 25), .ref (ad 26), .ref (ad 27), .ref (ad 28), .ref (ad 29), .ref (ad 30), .ref (ad 31), .long M_found, .long M_foundSet, .long M_foundTimes, .int M_w, .int M_h, .ref (ad 32), .ref (ad 33), .ref (ad 34)])), ((ad 32), .inl (cA 0, 64, .inl M_height))]
abbrev wcX4_drawn (ad : Nat → Nat) (cA : Nat → ClassId) (M_thrown : Int32) (M_trace : Int64) (M_found : Int64) (M_foundSet : Int64) (M_foundTimes : Int64) (M_w : Int32) (M_h : Int32) (M_height : Nat → Int32) : va_W := [((ad 19), .inr (4, [.int M_thrown, .long M_trace, .ref (ad 20), .ref (ad 21), .ref (ad 22), .ref (ad 23), .ref (ad 24), .ref (ad 25), .ref (ad 26), .ref (ad 27), .ref (ad 28), .ref (ad 29), .ref (ad 30), .ref (ad 31), .long M_found, .long M_foundSet, .long M_foundTimes, .int M_w, .int M_h, .ref (ad 32), .ref (ad 33), .ref (ad 34)])), ((ad 32), .inl (cA 0, 64, .inl M_height))]
def rmX4_drawn : Room := { frames := 1, cells := 0, slots := 0, locals := 20 }
abbrev atX4_drawn_0 (X : gX) (ad : Nat → Nat) (cA : Nat → ClassId) (M_thrown : Int32) (M_trace : Int64) (M_found : Int64) (M_foundSet : Int64) (M_foundTimes : Int64) (M_w : Int32) (M_h : Int32) (M_height : Nat → Int32) : Prop := gW X 0 0 [((ad 19), .inr (4, [.int M_thrown, .long M_trace, .ref (ad 20), .ref (ad 21), .ref (ad 22), .ref (ad 23), .ref (ad 24), .ref (ad 25), .ref (ad 26), .ref (ad 27), .ref (ad 28), .ref (ad 29), .ref (ad 30), .ref (ad 31), .long M_found, .long M_foundSet, .long M_foundTimes, .int M_w, .int M_h, .ref (ad 32), .ref (ad 33), .ref (ad 34)])), ((ad 32), .inl (cA 0, 64, .inl M_height))] 4 [(0, .ref (ad 19))] [] 0
abbrev atX4_drawn_9 (X : gX) (ad : Nat → Nat) (cA : Nat → ClassId) (x1 : Int32) (x2 : Int32) (M_thrown : Int32) (M_trace : Int64) (M_found : Int64) (M_foundSet : Int64) (M_foundTimes : Int64) (M_w : Int32) (M_h : Int32) (M_height : Nat → Int32) : Prop := gW X 0 0 [((ad 19), .inr (4, [.int M_thrown, .long M_trace, .ref (ad 20), .ref (ad 21), .ref (ad 22), .ref (ad 23), .ref (ad 24), .ref (ad 25), .ref (ad 26), .ref (ad 27), .ref (ad 28), .ref (ad 29), .ref (ad 30), .ref (ad 31), .long M_found, .long M_foundSet, .long M_foundTimes, .int M_w, .int M_h, .ref (ad 32), .ref (ad 33), .ref (ad 34)])), ((ad 32), .inl (cA 0, 64, .inl M_height))] 4 [(0, .ref (ad 19)), (1, .int x1), (2, .int x2)] [] 9
abbrev atX4_drawn_19 (X : gX) (ad : Nat → Nat) (cA : Nat → ClassId) (x1 : Int32) (x2 : Int32) (x3 : Int32) (M_thrown : Int32) (M_trace : Int64) (M_found : Int64) (M_foundSet : Int64) (M_foundTimes : Int64) (M_w : Int32) (M_h : Int32) (M_height : Nat → Int32) : Prop := gW X 0 0 [((ad 19), .inr (4, [.int M_thrown, .long M_trace, .ref (ad 20), .ref (ad 21), .ref (ad 22), .ref (ad 23), .ref (ad 24), .ref (ad 25), .ref (ad 26), .ref (ad 27), .ref (ad 28), .ref (ad 29), .ref (ad 30), .ref (ad 31), .long M_found, .long M_foundSet, .long M_foundTimes, .int M_w, .int M_h, .ref (ad 32), .ref (ad 33), .ref (ad 34)])), ((ad 32), .inl (cA 0, 64, .inl M_height))] 4 [(0, .ref (ad 19)), (1, .int x1), (2, .int x2), (3, .int x3)] [] 19
theorem giX4_drawn_X4 : ∀ w ∈ u_ws RX4 TX4 22, w ∈ wsX4_drawn := by decide +kernel
theorem gfX4_drawn_67 : gF wsX4_drawn RX4 67 4 0 RX4 TX4 22 := ⟨giX4_drawn_X4, by decide +kernel, rfl, by decide⟩
theorem gfX4_drawn_51 : gF wsX4_drawn RX4 51 4 18 RX4 TX4 22 := ⟨giX4_drawn_X4, by decide +kernel, rfl, by decide⟩
theorem gfX4_drawn_47 : gF wsX4_drawn RX4 47 4 17 RX4 TX4 22 := ⟨giX4_drawn_X4, by decide +kernel, rfl, by decide⟩
theorem gfX4_drawn_54 : gF wsX4_drawn RX4 54 4 19 RX4 TX4 22 := ⟨giX4_drawn_X4, by decide +kernel, rfl, by decide⟩
set_option maxHeartbeats 4000000 in
set_option maxRecDepth 100000 in
theorem sgX4_drawn_0 {X : gX} {ad : Nat → Nat} {cA : Nat → ClassId} {post : Int32 → ((Int32)) → Prop} {M_thrown : Int32} {M_trace : Int64} {M_found : Int64} {M_foundSet : Int64} {M_foundTimes : Int64} {M_w : Int32} {M_h : Int32} {M_height : Nat → Int32} (C : gC X (gT cA) cX4_drawn 4 RX4 wsX4_drawn rmX4_drawn) (E : gEi X (some .int) (gT cA) 0 0 post (w1X4_drawn ad cA M_trace M_found M_foundSet M_foundTimes M_w M_h M_height)) (h : atX4_drawn_9 X ad cA (0 : Int32) (0 : Int32) (0 : Int32) M_trace M_found M_foundSet M_foundTimes M_w M_h M_height) : atX4_drawn_0 X ad cA M_thrown M_trace M_found M_foundSet M_foundTimes M_w M_h M_height := by
  refine g_aload_n C dX4_drawn_0 rfl 0 rfl ?_
  refine g_iconst C dX4_drawn_1 ik_0 ?_
  refine g_put (ws2 := [((ad 19), .inr (4, [.int (0 : Int32), .long M_trace, .ref (ad 20), .ref (ad 21), .ref (ad 22), .ref (ad 23), .ref (ad 24), .ref (ad 25), .ref (ad 26), .ref (ad 27), .ref (ad 28), .ref (ad 29), .ref (ad 30), .ref (ad 31), .long M_found, .long M_foundSet, .long M_foundTimes, .int M_w, .int M_h, .ref (ad 32), .ref (ad 33), .ref (ad 34)])), ((ad 32), .inl (cA 0, 64, .inl M_height))]) C gfX4_drawn_67 0 tyX4_ok nmX4 rfl rfl rfl rfl (Nat.le_of_ble_eq_true rfl) rfl dX4_drawn_2 ?_
  refine g_iconst C dX4_drawn_5 ik_0 ?_
  refine g_istore_n (lv2 := [(0, .ref (ad 19)), (1, .int (0 : Int32))]) C dX4_drawn_6 rfl (by decide) [1, 0] rfl ?_
  refine g_iconst C dX4_drawn_7 ik_0 ?_
  refine g_istore_n (lv2 := [(0, .ref (ad 19)), (1, .int (0 : Int32)), (2, .int (0 : Int32))]) C dX4_drawn_8 rfl (by decide) [1, 2, 0] rfl ?_
  exact g_lv [0, 1, 2] rfl h
set_option maxHeartbeats 4000000 in
set_option maxRecDepth 100000 in
theorem sgX4_drawn_9 {X : gX} {ad : Nat → Nat} {cA : Nat → ClassId} {post : Int32 → ((Int32)) → Prop} {x1 : Int32} {x2 : Int32} {M_thrown : Int32} {M_trace : Int64} {M_found : Int64} {M_foundSet : Int64} {M_foundTimes : Int64} {M_w : Int32} {M_h : Int32} {M_height : Nat → Int32} (C : gC X (gT cA) cX4_drawn 4 RX4 wsX4_drawn rmX4_drawn) (E : gEi X (some .int) (gT cA) 0 0 post (w1X4_drawn ad cA M_trace M_found M_foundSet M_foundTimes M_w M_h M_height)) (h : (M_h ≤ x2 → post x1 M_thrown) ∧ (¬ M_h ≤ x2 → atX4_drawn_19 X ad cA x1 x2 (0 : Int32) M_thrown M_trace M_found M_foundSet M_foundTimes M_w M_h M_height)) : atX4_drawn_9 X ad cA x1 x2 M_thrown M_trace M_found M_foundSet M_foundTimes M_w M_h M_height := by
  refine g_iload_n C dX4_drawn_9 rfl 2 rfl ?_
  refine g_aload_n C dX4_drawn_10 rfl 0 rfl ?_
  refine g_get C gfX4_drawn_51 0 rfl rfl dX4_drawn_11 ?_
  refine g_icmp_ge (tgt := 130) C dX4_drawn_14 (by decide) (fun c_1 => ?_) (fun c_1 => ?_)
  · replace h := h.1 c_1
    refine g_iload_n C dX4_drawn_130 rfl 1 rfl ?_
    exact g_iret C E M_thrown h rfl dX4_drawn_131
  · replace h := h.2 c_1
    refine g_iconst C dX4_drawn_17 ik_0 ?_
    refine g_istore_n (lv2 := [(0, .ref (ad 19)), (1, .int x1), (2, .int x2), (3, .int (0 : Int32))]) C dX4_drawn_18 rfl (by decide) [1, 2, 3, 0] rfl ?_
    exact g_lv [0, 1, 2, 3] rfl h
set_option maxHeartbeats 4000000 in
set_option maxRecDepth 100000 in
theorem sgX4_drawn_19 {X : gX} {ad : Nat → Nat} {cA : Nat → ClassId} {post : Int32 → ((Int32)) → Prop} {x1 : Int32} {x2 : Int32} {x3 : Int32} {M_thrown : Int32} {M_trace : Int64} {M_found : Int64} {M_foundSet : Int64} {M_foundTimes : Int64} {M_w : Int32} {M_h : Int32} {M_height : Nat → Int32} (C : gC X (gT cA) cX4_drawn 4 RX4 wsX4_drawn rmX4_drawn) (E : gEi X (some .int) (gT cA) 0 0 post (w1X4_drawn ad cA M_trace M_found M_foundSet M_foundTimes M_w M_h M_height)) (h : (M_w ≤ x3 → atX4_drawn_9 X ad cA x1 (x2 + 1) M_thrown M_trace M_found M_foundSet M_foundTimes M_w M_h M_height) ∧ (¬ M_w ≤ x3 → ((M_w ≤ (x3 + (1 : Int32)) → True) ∧ (¬ M_w ≤ (x3 + (1 : Int32)) → vp_in (((8 : Int32) * x2) + x3) 64 ∧ vp_in ((((8 : Int32) * x2) + x3) + (1 : Int32)) 64)) ∧ ∀ x1_7 : Int32, x1_7 = (x1 + (if M_w ≤ (x3 + (1 : Int32)) then (0 : Int32) else (fnX4_size ((M_height (((8 : Int32) * x2) + x3).toNatClampNeg) - (M_height ((((8 : Int32) * x2) + x3) + (1 : Int32)).toNatClampNeg))))) → ((M_h ≤ (x2 + (1 : Int32)) → True) ∧ (¬ M_h ≤ (x2 + (1 : Int32)) → vp_in (((8 : Int32) * x2) + x3) 64 ∧ vp_in ((((8 : Int32) * x2) + (8 : Int32)) + x3) 64)) ∧ ∀ x1_12 : Int32, x1_12 = (x1_7 + (if M_h ≤ (x2 + (1 : Int32)) then (0 : Int32) else (fnX4_size ((M_height (((8 : Int32) * x2) + x3).toNatClampNeg) - (M_height ((((8 : Int32) * x2) + (8 : Int32)) + x3).toNatClampNeg))))) → atX4_drawn_19 X ad cA x1_12 x2 (x3 + 1) M_thrown M_trace M_found M_foundSet M_foundTimes M_w M_h M_height)) : atX4_drawn_19 X ad cA x1 x2 x3 M_thrown M_trace M_found M_foundSet M_foundTimes M_w M_h M_height := by
  refine g_iload_n C dX4_drawn_19 rfl 3 rfl ?_
  refine g_aload_n C dX4_drawn_20 rfl 0 rfl ?_
  refine g_get C gfX4_drawn_47 0 rfl rfl dX4_drawn_21 ?_
  refine g_icmp_ge (tgt := 124) C dX4_drawn_24 (by decide) (fun c_2 => ?_) (fun c_2 => ?_)
  · replace h := h.1 c_2
    refine g_iinc (v := (x2 + 1)) (lv2 := [(0, .ref (ad 19)), (1, .int x1), (2, .int (x2 + 1)), (3, .int x3)]) C dX4_drawn_124 2 rfl (by first | rfl | decide) (by decide) [1, 2, 0, 3] rfl ?_
    refine g_goto (tgt := 9) C dX4_drawn_127 (by decide) ?_
    exact g_lv [0, 1, 2] rfl h
  · replace h := h.2 c_2
    refine g_iload_n C dX4_drawn_27 rfl 1 rfl ?_
    refine g_iload_n C dX4_drawn_28 rfl 3 rfl ?_
    refine g_iconst C dX4_drawn_29 ik_1 ?_
    refine g_iadd C dX4_drawn_30 ?_
    refine g_aload_n C dX4_drawn_31 rfl 0 rfl ?_
    refine g_get C gfX4_drawn_47 0 rfl rfl dX4_drawn_32 ?_
    obtain ⟨hr_70, h⟩ := h
    have key : gW X 0 0 [((ad 19), .inr (4, [.int M_thrown, .long M_trace, .ref (ad 20), .ref (ad 21), .ref (ad 22), .ref (ad 23), .ref (ad 24), .ref (ad 25), .ref (ad 26), .ref (ad 27), .ref (ad 28), .ref (ad 29), .ref (ad 30), .ref (ad 31), .long M_found, .long M_foundSet, .long M_foundTimes, .int M_w, .int M_h, .ref (ad 32), .ref (ad 33), .ref (ad 34)])), ((ad 32), .inl (cA 0, 64, .inl M_height))] 4 [(0, .ref (ad 19)), (1, .int x1), (2, .int x2), (3, .int x3)] [.int (if M_w ≤ (x3 + (1 : Int32)) then (0 : Int32) else (fnX4_size ((M_height (((8 : Int32) * x2) + x3).toNatClampNeg) - (M_height ((((8 : Int32) * x2) + x3) + (1 : Int32)).toNatClampNeg)))), .int x1] 70 := by
      refine g_iadd C dX4_drawn_70 ?_
      refine g_topi (fun x1_7 ex1_7 => ?_)
      replace h := h x1_7 ex1_7
      refine g_istore_n (lv2 := [(0, .ref (ad 19)), (1, .int x1_7), (2, .int x2), (3, .int x3)]) C dX4_drawn_71 rfl (by decide) [1, 0, 2, 3] rfl ?_
      refine g_iload_n C dX4_drawn_72 rfl 1 rfl ?_
      refine g_iload_n C dX4_drawn_73 rfl 2 rfl ?_
      refine g_iconst C dX4_drawn_74 ik_1 ?_
      refine g_iadd C dX4_drawn_75 ?_
      refine g_aload_n C dX4_drawn_76 rfl 0 rfl ?_
      refine g_get C gfX4_drawn_51 0 rfl rfl dX4_drawn_77 ?_
      obtain ⟨hr_116, h⟩ := h
      have key : gW X 0 0 [((ad 19), .inr (4, [.int M_thrown, .long M_trace, .ref (ad 20), .ref (ad 21), .ref (ad 22), .ref (ad 23), .ref (ad 24), .ref (ad 25), .ref (ad 26), .ref (ad 27), .ref (ad 28), .ref (ad 29), .ref (ad 30), .ref (ad 31), .long M_found, .long M_foundSet, .long M_foundTimes, .int M_w, .int M_h, .ref (ad 32), .ref (ad 33), .ref (ad 34)])), ((ad 32), .inl (cA 0, 64, .inl M_height))] 4 [(0, .ref (ad 19)), (1, .int x1_7), (2, .int x2), (3, .int x3)] [.int (if M_h ≤ (x2 + (1 : Int32)) then (0 : Int32) else (fnX4_size ((M_height (((8 : Int32) * x2) + x3).toNatClampNeg) - (M_height ((((8 : Int32) * x2) + (8 : Int32)) + x3).toNatClampNeg)))), .int x1_7] 116 := by
        refine g_iadd C dX4_drawn_116 ?_
        refine g_topi (fun x1_12 ex1_12 => ?_)
        replace h := h x1_12 ex1_12
        refine g_istore_n (lv2 := [(0, .ref (ad 19)), (1, .int x1_12), (2, .int x2), (3, .int x3)]) C dX4_drawn_117 rfl (by decide) [1, 0, 2, 3] rfl ?_
        refine g_iinc (v := (x3 + 1)) (lv2 := [(0, .ref (ad 19)), (1, .int x1_12), (2, .int x2), (3, .int (x3 + 1))]) C dX4_drawn_118 3 rfl (by first | rfl | decide) (by decide) [1, 2, 3, 0] rfl ?_
        refine g_goto (tgt := 19) C dX4_drawn_121 (by decide) ?_
        exact g_lv [0, 1, 2, 3] rfl h
      replace h := hr_116
      refine g_icmp_ge (tgt := 115) C dX4_drawn_80 (by decide) (fun c_8 => ?_) (fun c_8 => ?_)
      · replace h := h.1 c_8
        refine g_iconst C dX4_drawn_115 ik_0 ?_
        exact g_leaf (by simp only [if_pos c_8] at key; first | exact key | (simp only [if_pos c_8]; exact key) | exact absurd rfl c_8)
      · replace h := h.2 c_8
        refine g_aload_n C dX4_drawn_83 rfl 0 rfl ?_
        refine g_get C gfX4_drawn_54 0 rfl rfl dX4_drawn_84 ?_
        refine g_bipush C dX4_drawn_87 bk_8 ?_
        refine g_iload_n C dX4_drawn_89 rfl 2 rfl ?_
        refine g_imul C dX4_drawn_90 ?_
        refine g_iload_n C dX4_drawn_91 rfl 3 rfl ?_
        refine g_iadd C dX4_drawn_92 ?_
        obtain ⟨hi_9, h⟩ := h
        refine g_iald C 1 0 rfl rfl hi_9 dX4_drawn_93 ?_
        refine g_aload_n C dX4_drawn_94 rfl 0 rfl ?_
        refine g_get C gfX4_drawn_54 0 rfl rfl dX4_drawn_95 ?_
        refine g_bipush C dX4_drawn_98 bk_8 ?_
        refine g_iload_n C dX4_drawn_100 rfl 2 rfl ?_
        refine g_imul C dX4_drawn_101 ?_
        refine g_bipush C dX4_drawn_102 bk_8 ?_
        refine g_iadd C dX4_drawn_104 ?_
        refine g_iload_n C dX4_drawn_105 rfl 3 rfl ?_
        refine g_iadd C dX4_drawn_106 ?_
        have hi_10 := h
        refine g_iald C 1 0 rfl rfl hi_10 dX4_drawn_107 ?_
        refine g_isub C dX4_drawn_108 ?_
        refine g_callSi (b := 0) (wr := [((ad 19), .inr (4, [.int M_thrown, .long M_trace, .ref (ad 20), .ref (ad 21), .ref (ad 22), .ref (ad 23), .ref (ad 24), .ref (ad 25), .ref (ad 26), .ref (ad 27), .ref (ad 28), .ref (ad 29), .ref (ad 30), .ref (ad 31), .long M_found, .long M_foundSet, .long M_foundTimes, .int M_w, .int M_h, .ref (ad 32), .ref (ad 33), .ref (ad 34)])), ((ad 32), .inl (cA 0, 64, .inl M_height))]) C (c_X4_size ad cA ((M_height (((8 : Int32) * x2) + x3).toNatClampNeg) - (M_height ((((8 : Int32) * x2) + (8 : Int32)) + x3).toNatClampNeg))) gX4_drawn_X4_size rfl hde_X4_size ⟨rfl, rfl⟩ (by decide) (by decide) [] [0, 1] [0, 1] rfl rfl rfl rfl (by decide) rfl (ws2 := fun u => [((ad 19), .inr (4, [.int M_thrown, .long M_trace, .ref (ad 20), .ref (ad 21), .ref (ad 22), .ref (ad 23), .ref (ad 24), .ref (ad 25), .ref (ad 26), .ref (ad 27), .ref (ad 28), .ref (ad 29), .ref (ad 30), .ref (ad 31), .long M_found, .long M_foundSet, .long M_foundTimes, .int M_w, .int M_h, .ref (ad 32), .ref (ad 33), .ref (ad 34)])), ((ad 32), .inl (cA 0, 64, .inl M_height))]) (fun _ => rfl) (rest := [.int x1_7]) rfl (Nat.le_of_ble_eq_true rfl) dX4_drawn_109 (fun r_11 u_11 hp_11 => ?_)
        subst hp_11
        change gW X 0 0 [((ad 19), .inr (4, [.int M_thrown, .long M_trace, .ref (ad 20), .ref (ad 21), .ref (ad 22), .ref (ad 23), .ref (ad 24), .ref (ad 25), .ref (ad 26), .ref (ad 27), .ref (ad 28), .ref (ad 29), .ref (ad 30), .ref (ad 31), .long M_found, .long M_foundSet, .long M_foundTimes, .int M_w, .int M_h, .ref (ad 32), .ref (ad 33), .ref (ad 34)])), ((ad 32), .inl (cA 0, 64, .inl M_height))] 4 [(0, .ref (ad 19)), (1, .int x1_7), (2, .int x2), (3, .int x3)] [.int (fnX4_size ((M_height (((8 : Int32) * x2) + x3).toNatClampNeg) - (M_height ((((8 : Int32) * x2) + (8 : Int32)) + x3).toNatClampNeg))), .int x1_7] 112
        refine g_goto (tgt := 116) C dX4_drawn_112 (by decide) ?_
        exact g_leaf (by simp only [if_neg c_8] at key; first | exact key | (simp only [if_neg c_8]; exact key) | exact absurd rfl c_8)
    replace h := hr_70
    refine g_icmp_ge (tgt := 69) C dX4_drawn_35 (by decide) (fun c_3 => ?_) (fun c_3 => ?_)
    · replace h := h.1 c_3
      refine g_iconst C dX4_drawn_69 ik_0 ?_
      exact g_leaf (by simp only [if_pos c_3] at key; first | exact key | (simp only [if_pos c_3]; exact key) | exact absurd rfl c_3)
    · replace h := h.2 c_3
      refine g_aload_n C dX4_drawn_38 rfl 0 rfl ?_
      refine g_get C gfX4_drawn_54 0 rfl rfl dX4_drawn_39 ?_
      refine g_bipush C dX4_drawn_42 bk_8 ?_
      refine g_iload_n C dX4_drawn_44 rfl 2 rfl ?_
      refine g_imul C dX4_drawn_45 ?_
      refine g_iload_n C dX4_drawn_46 rfl 3 rfl ?_
      refine g_iadd C dX4_drawn_47 ?_
      obtain ⟨hi_4, h⟩ := h
      refine g_iald C 1 0 rfl rfl hi_4 dX4_drawn_48 ?_
      refine g_aload_n C dX4_drawn_49 rfl 0 rfl ?_
      refine g_get C gfX4_drawn_54 0 rfl rfl dX4_drawn_50 ?_
      refine g_bipush C dX4_drawn_53 bk_8 ?_
      refine g_iload_n C dX4_drawn_55 rfl 2 rfl ?_
      refine g_imul C dX4_drawn_56 ?_
      refine g_iload_n C dX4_drawn_57 rfl 3 rfl ?_
      refine g_iadd C dX4_drawn_58 ?_
      refine g_iconst C dX4_drawn_59 ik_1 ?_
      refine g_iadd C dX4_drawn_60 ?_
      have hi_5 := h
      refine g_iald C 1 0 rfl rfl hi_5 dX4_drawn_61 ?_
      refine g_isub C dX4_drawn_62 ?_
      refine g_callSi (b := 0) (wr := [((ad 19), .inr (4, [.int M_thrown, .long M_trace, .ref (ad 20), .ref (ad 21), .ref (ad 22), .ref (ad 23), .ref (ad 24), .ref (ad 25), .ref (ad 26), .ref (ad 27), .ref (ad 28), .ref (ad 29), .ref (ad 30), .ref (ad 31), .long M_found, .long M_foundSet, .long M_foundTimes, .int M_w, .int M_h, .ref (ad 32), .ref (ad 33), .ref (ad 34)])), ((ad 32), .inl (cA 0, 64, .inl M_height))]) C (c_X4_size ad cA ((M_height (((8 : Int32) * x2) + x3).toNatClampNeg) - (M_height ((((8 : Int32) * x2) + x3) + (1 : Int32)).toNatClampNeg))) gX4_drawn_X4_size rfl hde_X4_size ⟨rfl, rfl⟩ (by decide) (by decide) [] [0, 1] [0, 1] rfl rfl rfl rfl (by decide) rfl (ws2 := fun u => [((ad 19), .inr (4, [.int M_thrown, .long M_trace, .ref (ad 20), .ref (ad 21), .ref (ad 22), .ref (ad 23), .ref (ad 24), .ref (ad 25), .ref (ad 26), .ref (ad 27), .ref (ad 28), .ref (ad 29), .ref (ad 30), .ref (ad 31), .long M_found, .long M_foundSet, .long M_foundTimes, .int M_w, .int M_h, .ref (ad 32), .ref (ad 33), .ref (ad 34)])), ((ad 32), .inl (cA 0, 64, .inl M_height))]) (fun _ => rfl) (rest := [.int x1]) rfl (Nat.le_of_ble_eq_true rfl) dX4_drawn_63 (fun r_6 u_6 hp_6 => ?_)
      subst hp_6
      change gW X 0 0 [((ad 19), .inr (4, [.int M_thrown, .long M_trace, .ref (ad 20), .ref (ad 21), .ref (ad 22), .ref (ad 23), .ref (ad 24), .ref (ad 25), .ref (ad 26), .ref (ad 27), .ref (ad 28), .ref (ad 29), .ref (ad 30), .ref (ad 31), .long M_found, .long M_foundSet, .long M_foundTimes, .int M_w, .int M_h, .ref (ad 32), .ref (ad 33), .ref (ad 34)])), ((ad 32), .inl (cA 0, 64, .inl M_height))] 4 [(0, .ref (ad 19)), (1, .int x1), (2, .int x2), (3, .int x3)] [.int (fnX4_size ((M_height (((8 : Int32) * x2) + x3).toNatClampNeg) - (M_height ((((8 : Int32) * x2) + x3) + (1 : Int32)).toNatClampNeg))), .int x1] 66
      refine g_goto (tgt := 70) C dX4_drawn_66 (by decide) ?_
      exact g_leaf (by simp only [if_neg c_3] at key; first | exact key | (simp only [if_neg c_3]; exact key) | exact absurd rfl c_3)
def prX4_drawn (M_thrown : Int32) (M_trace : Int64) (M_found : Int64) (M_foundSet : Int64) (M_foundTimes : Int64) (M_w : Int32) (M_h : Int32) (M_height : Nat → Int32) : Prop := netOK M_w M_h
set_option maxHeartbeats 4000000 in
set_option maxRecDepth 100000 in
theorem c_X4_drawn (ad : Nat → Nat) (cA : Nat → ClassId) (M_thrown : Int32) (M_trace : Int64) (M_found : Int64) (M_foundSet : Int64) (M_foundTimes : Int64) (M_w : Int32) (M_h : Int32) (M_height : Nat → Int32) (hq : prX4_drawn M_thrown M_trace M_found M_foundSet M_foundTimes M_w M_h M_height) : ∀ (l : Launch) (D : va_G), gMi (S := (Int32)) l yX4_drawn wsX4_drawn rmX4_drawn D (gT cA) 0 0 [.ref (ad 19)] (wcX4_drawn ad cA M_thrown M_trace M_found M_foundSet M_foundTimes M_w M_h M_height) (fun r u => r = drw M_w.toNatClampNeg M_h.toNatClampNeg M_height ∧ u = 0) (w1X4_drawn ad cA M_trace M_found M_foundSet M_foundTimes M_w M_h M_height) := by
  intro l D
  unfold prX4_drawn at hq
  refine g_enteri (cc := cX4_drawn) (nL := 4) (ret := (some .int)) (by decide) rfl (Nat.le_of_ble_eq_true rfl) rfl (fun X C E => ?_)
  obtain ⟨w, h, hw2, hw, hh2, hh, rfl, rfl⟩ := hq
  rw [nI_clamp (by omega), nI_clamp (by omega)] at E
  refine sgX4_drawn_0 C E ?_
  unfold drw sum2 at E
  generalize ht : (fun (y x : Nat) => (if x + 1 < w then szI (M_height (8 * y + x) - M_height (8 * y + (x + 1))) else 0) + (if y + 1 < h then szI (M_height (8 * y + x) - M_height (8 * (y + 1) + x)) else 0)) = t at E
  have outer : ∀ y, y ≤ h → atX4_drawn_9 X ad cA (sumI (fun y => sumI (t y) w) y) (nI y) 0 M_trace M_found M_foundSet M_foundTimes (nI w) (nI h) M_height := by
    intro y hy
    refine up_loop (P := fun y => atX4_drawn_9 X ad cA (sumI (fun y => sumI (t y) w) y) (nI y) 0 M_trace M_found M_foundSet M_foundTimes (nI w) (nI h) M_height) h ?_ (fun y hy ih => ?_) y hy
    · exact sgX4_drawn_9 C E ⟨fun _ => ⟨by rw [← ht], rfl⟩, fun c => absurd (i32_le_refl _) c⟩
    · refine sgX4_drawn_9 C E ⟨fun c => absurd c (nI_ge hy (by omega)), fun _ => ?_⟩
      have inner : ∀ x, x ≤ w → atX4_drawn_19 X ad cA (sumI (fun y => sumI (t y) w) y + sumI (t y) x) (nI y) (nI x) 0 M_trace M_found M_foundSet M_foundTimes (nI w) (nI h) M_height := by
        intro x hx
        refine up_loop (P := fun x => atX4_drawn_19 X ad cA (sumI (fun y => sumI (t y) w) y + sumI (t y) x) (nI y) (nI x) 0 M_trace M_found M_foundSet M_foundTimes (nI w) (nI h) M_height) w ?_ (fun x hx ih2 => ?_) x hx
        · refine sgX4_drawn_19 C E ⟨fun _ => ?_, fun c => absurd (i32_le_refl _) c⟩
          rw [nI_1]; exact ih
        · refine sgX4_drawn_19 C E ⟨fun c => absurd c (nI_ge hx (by omega)), fun _ => ?_⟩
          have e8 : nI (8 * y) + (8 : Int32) + nI x = nI (8 * (y + 1) + x) := by show _ + nI 8 + _ = _; rw [nI_add, nI_add]; congr 1
          have e9 : (8 : Int32) * nI y = nI (8 * y) := pk_mul 8 y
          have ex : (nI w ≤ nI x + 1) = ¬ (x + 1 < w) := propext (by rw [nI_1, nI_leI (by omega) (by omega)]; omega)
          have ey : (nI h ≤ nI y + 1) = ¬ (y + 1 < h) := propext (by rw [nI_1, nI_leI (by omega) (by omega)]; omega)
          rw [m8_eq, e9, e8, nI_1 (8 * y + x), size_eq, size_eq, nI_clamp (n := 8 * y + x) (by omega), nI_clamp (n := 8 * y + x + 1) (by omega), nI_clamp (n := 8 * (y + 1) + x) (by omega)]
          refine ⟨⟨fun _ => trivial, fun c => ⟨vp_in_nI (by omega) (by decide), vp_in_nI (by rw [ex] at c; omega) (by decide)⟩⟩, fun v1 ev1 => ⟨⟨fun _ => trivial, fun c => ⟨vp_in_nI (by omega) (by decide), vp_in_nI (by rw [ey] at c; omega) (by decide)⟩⟩, fun v2 ev2 => ?_⟩⟩
          rw [nI_1, ev2, ev1]
          have e2 : sumI (fun y => sumI (t y) w) y + sumI (t y) x + (if nI w ≤ nI x + 1 then (0 : Int32) else szI (M_height (8 * y + x) - M_height (8 * y + x + 1))) + (if nI h ≤ nI y + 1 then (0 : Int32) else szI (M_height (8 * y + x) - M_height (8 * (y + 1) + x))) = sumI (fun y => sumI (t y) w) y + sumI (t y) (x + 1) := by
            rw [sumI, ← ht]
            simp only [ex, ey, ite_not, Int32.add_assoc]
            rfl
          rw [e2]; exact ih2
      have := inner 0 (Nat.zero_le _)
      rw [sumI, Int32.add_zero] at this
      exact this
  exact outer 0 (Nat.zero_le _)


abbrev w1X4_pins (ad : Nat → Nat) (cA : Nat → ClassId) (M_thrown : Int32) (M_trace : Int64) (M_found : Int64) (M_foundSet : Int64) (M_foundTimes : Int64) (M_w : Int32) (M_h : Int32) (u : (Nat → Int32) × (Nat → Int32)) : va_W := [((ad 19), .inr (4, [.int M_thrown, .long M_trace, .ref (ad 20), .ref (ad 21), .ref (ad 22), .ref (ad 23), .ref (ad 24), .ref (ad 25), .ref (ad 26), .ref (ad 27), .ref (ad 28), .ref (ad 29), .ref (ad 30), .ref (ad 31), .long M_found, .long M_foundSet, .long M_foundTimes, .int M_w, .int M_h, .ref (ad 32), .ref (ad 33), .ref (ad 34)])), ((ad 32), .inl (cA 0, 64, .inl u.1)), ((ad 33), .inl (cA 2, 64, .inl u.2))]
abbrev wcX4_pins (ad : Nat → Nat) (cA : Nat → ClassId) (M_thrown : Int32) (M_trace : Int64) (M_found : Int64) (M_foundSet : Int64) (M_foundTimes : Int64) (M_w : Int32) (M_h : Int32) (M_height : Nat → Int32) (M_isPinned : Nat → Int32) : va_W := [((ad 19), .inr (4, [.int M_thrown, .long M_trace, .ref (ad 20), .ref (ad 21), .ref (ad 22), .ref (ad 23), .ref (ad 24), .ref (ad 25), .ref (ad 26), .ref (ad 27), .ref (ad 28), .ref (ad 29), .ref (ad 30), .ref (ad 31), .long M_found, .long M_foundSet, .long M_foundTimes, .int M_w, .int M_h, .ref (ad 32), .ref (ad 33), .ref (ad 34)])), ((ad 32), .inl (cA 0, 64, .inl M_height)), ((ad 33), .inl (cA 2, 64, .inl M_isPinned))]
def rmX4_pins : Room := { frames := 0, cells := 0, slots := 0, locals := 0 }
abbrev atX4_pins_0 (X : gX) (ad : Nat → Nat) (cA : Nat → ClassId) (M_thrown : Int32) (M_trace : Int64) (M_found : Int64) (M_foundSet : Int64) (M_foundTimes : Int64) (M_w : Int32) (M_h : Int32) (M_height : Nat → Int32) (M_isPinned : Nat → Int32) : Prop := gW X 0 0 [((ad 19), .inr (4, [.int M_thrown, .long M_trace, .ref (ad 20), .ref (ad 21), .ref (ad 22), .ref (ad 23), .ref (ad 24), .ref (ad 25), .ref (ad 26), .ref (ad 27), .ref (ad 28), .ref (ad 29), .ref (ad 30), .ref (ad 31), .long M_found, .long M_foundSet, .long M_foundTimes, .int M_w, .int M_h, .ref (ad 32), .ref (ad 33), .ref (ad 34)])), ((ad 32), .inl (cA 0, 64, .inl M_height)), ((ad 33), .inl (cA 2, 64, .inl M_isPinned))] 4 [(0, .ref (ad 19))] [] 0
abbrev atX4_pins_2 (X : gX) (ad : Nat → Nat) (cA : Nat → ClassId) (x1 : Int32) (M_thrown : Int32) (M_trace : Int64) (M_found : Int64) (M_foundSet : Int64) (M_foundTimes : Int64) (M_w : Int32) (M_h : Int32) (M_height : Nat → Int32) (M_isPinned : Nat → Int32) : Prop := gW X 0 0 [((ad 19), .inr (4, [.int M_thrown, .long M_trace, .ref (ad 20), .ref (ad 21), .ref (ad 22), .ref (ad 23), .ref (ad 24), .ref (ad 25), .ref (ad 26), .ref (ad 27), .ref (ad 28), .ref (ad 29), .ref (ad 30), .ref (ad 31), .long M_found, .long M_foundSet, .long M_foundTimes, .int M_w, .int M_h, .ref (ad 32), .ref (ad 33), .ref (ad 34)])), ((ad 32), .inl (cA 0, 64, .inl M_height)), ((ad 33), .inl (cA 2, 64, .inl M_isPinned))] 4 [(0, .ref (ad 19)), (1, .int x1)] [] 2
theorem giX4_pins_X4 : ∀ w ∈ u_ws RX4 TX4 22, w ∈ wsX4_pins := by decide +kernel
theorem gfX4_pins_54 : gF wsX4_pins RX4 54 4 19 RX4 TX4 22 := ⟨giX4_pins_X4, by decide +kernel, rfl, by decide⟩
theorem gfX4_pins_57 : gF wsX4_pins RX4 57 4 20 RX4 TX4 22 := ⟨giX4_pins_X4, by decide +kernel, rfl, by decide⟩
theorem gfX4_pins_47 : gF wsX4_pins RX4 47 4 17 RX4 TX4 22 := ⟨giX4_pins_X4, by decide +kernel, rfl, by decide⟩
theorem gfX4_pins_51 : gF wsX4_pins RX4 51 4 18 RX4 TX4 22 := ⟨giX4_pins_X4, by decide +kernel, rfl, by decide⟩
set_option maxHeartbeats 4000000 in
set_option maxRecDepth 100000 in
theorem sgX4_pins_0 {X : gX} {ad : Nat → Nat} {cA : Nat → ClassId} {post : ((Nat → Int32) × (Nat → Int32)) → Prop} {M_thrown : Int32} {M_trace : Int64} {M_found : Int64} {M_foundSet : Int64} {M_foundTimes : Int64} {M_w : Int32} {M_h : Int32} {M_height : Nat → Int32} {M_isPinned : Nat → Int32} (C : gC X (gT cA) cX4_pins 4 RX4 wsX4_pins rmX4_pins) (E : gEv X none (gT cA) 0 0 post (w1X4_pins ad cA M_thrown M_trace M_found M_foundSet M_foundTimes M_w M_h)) (h : atX4_pins_2 X ad cA (0 : Int32) M_thrown M_trace M_found M_foundSet M_foundTimes M_w M_h M_height M_isPinned) : atX4_pins_0 X ad cA M_thrown M_trace M_found M_foundSet M_foundTimes M_w M_h M_height M_isPinned := by
  refine g_iconst C dX4_pins_0 ik_0 ?_
  refine g_istore_n (lv2 := [(0, .ref (ad 19)), (1, .int (0 : Int32))]) C dX4_pins_1 rfl (by decide) [1, 0] rfl ?_
  exact g_lv [0, 1] rfl h
set_option maxHeartbeats 4000000 in
set_option maxRecDepth 100000 in
theorem sgX4_pins_2 {X : gX} {ad : Nat → Nat} {cA : Nat → ClassId} {post : ((Nat → Int32) × (Nat → Int32)) → Prop} {x1 : Int32} {M_thrown : Int32} {M_trace : Int64} {M_found : Int64} {M_foundSet : Int64} {M_foundTimes : Int64} {M_w : Int32} {M_h : Int32} {M_height : Nat → Int32} {M_isPinned : Nat → Int32} (C : gC X (gT cA) cX4_pins 4 RX4 wsX4_pins rmX4_pins) (E : gEv X none (gT cA) 0 0 post (w1X4_pins ad cA M_thrown M_trace M_found M_foundSet M_foundTimes M_w M_h)) (h : ((64 : Int32) ≤ x1 → post (M_height, M_isPinned)) ∧ (¬ (64 : Int32) ≤ x1 → ∀ x2_2 : Int32, x2_2 = (x1 - x1 / (8 : Int32) * (8 : Int32)) → vp_in x1 64 ∧ vp_in x1 64 ∧ atX4_pins_2 X ad cA (x1 + 1) M_thrown M_trace M_found M_foundSet M_foundTimes M_w M_h (upd M_height x1.toNatClampNeg (0 : Int32)) (upd M_isPinned x1.toNatClampNeg (vp_nar .boolean (if x2_2 = 0 then (1 : Int32) else (if (x1 / (8 : Int32)) = 0 then (1 : Int32) else (if x2_2 = (M_w - (1 : Int32)) then (1 : Int32) else (if (x1 / (8 : Int32)) = (M_h - (1 : Int32)) then (1 : Int32) else (0 : Int32))))))))) : atX4_pins_2 X ad cA x1 M_thrown M_trace M_found M_foundSet M_foundTimes M_w M_h M_height M_isPinned := by
  refine g_iload_n C dX4_pins_2 rfl 1 rfl ?_
  refine g_bipush C dX4_pins_3 bk_64 ?_
  refine g_icmp_ge (tgt := 70) C dX4_pins_5 (by decide) (fun c_1 => ?_) (fun c_1 => ?_)
  · replace h := h.1 c_1
    exact g_vret C E (M_height, M_isPinned) h rfl dX4_pins_70
  · replace h := h.2 c_1
    refine g_iload_n C dX4_pins_8 rfl 1 rfl ?_
    refine g_bipush C dX4_pins_9 bk_8 ?_
    refine g_irem C dX4_pins_11 (by decide) ?_
    refine g_topi (fun x2_2 ex2_2 => ?_)
    replace h := h x2_2 ex2_2
    refine g_istore_n (lv2 := [(0, .ref (ad 19)), (1, .int x1), (2, .int x2_2)]) C dX4_pins_12 rfl (by decide) [1, 2, 0] rfl ?_
    refine g_iload_n C dX4_pins_13 rfl 1 rfl ?_
    refine g_bipush C dX4_pins_14 bk_8 ?_
    refine g_idiv C dX4_pins_16 (by decide) ?_
    refine g_istore_n (lv2 := [(0, .ref (ad 19)), (1, .int x1), (2, .int x2_2), (3, .int (x1 / (8 : Int32)))]) C dX4_pins_17 rfl (by decide) [1, 2, 3, 0] rfl ?_
    refine g_aload_n C dX4_pins_18 rfl 0 rfl ?_
    refine g_get C gfX4_pins_54 0 rfl rfl dX4_pins_19 ?_
    refine g_iload_n C dX4_pins_22 rfl 1 rfl ?_
    refine g_iconst C dX4_pins_23 ik_0 ?_
    obtain ⟨hi_3, h⟩ := h
    refine g_iast (ws2 := [((ad 19), .inr (4, [.int M_thrown, .long M_trace, .ref (ad 20), .ref (ad 21), .ref (ad 22), .ref (ad 23), .ref (ad 24), .ref (ad 25), .ref (ad 26), .ref (ad 27), .ref (ad 28), .ref (ad 29), .ref (ad 30), .ref (ad 31), .long M_found, .long M_foundSet, .long M_foundTimes, .int M_w, .int M_h, .ref (ad 32), .ref (ad 33), .ref (ad 34)])), ((ad 32), .inl (cA 0, 64, .inl (upd M_height x1.toNatClampNeg (0 : Int32)))), ((ad 33), .inl (cA 2, 64, .inl M_isPinned))]) C 1 0 rfl rfl hi_3 rfl dX4_pins_24 ?_
    refine g_aload_n C dX4_pins_25 rfl 0 rfl ?_
    refine g_get C gfX4_pins_57 0 rfl rfl dX4_pins_26 ?_
    refine g_iload_n C dX4_pins_29 rfl 1 rfl ?_
    refine g_iload_n C dX4_pins_30 rfl 2 rfl ?_
    have key : gW X 0 0 [((ad 19), .inr (4, [.int M_thrown, .long M_trace, .ref (ad 20), .ref (ad 21), .ref (ad 22), .ref (ad 23), .ref (ad 24), .ref (ad 25), .ref (ad 26), .ref (ad 27), .ref (ad 28), .ref (ad 29), .ref (ad 30), .ref (ad 31), .long M_found, .long M_foundSet, .long M_foundTimes, .int M_w, .int M_h, .ref (ad 32), .ref (ad 33), .ref (ad 34)])), ((ad 32), .inl (cA 0, 64, .inl (upd M_height x1.toNatClampNeg (0 : Int32)))), ((ad 33), .inl (cA 2, 64, .inl M_isPinned))] 4 [(0, .ref (ad 19)), (1, .int x1), (2, .int x2_2), (3, .int (x1 / (8 : Int32)))] [.int (if x2_2 = 0 then (1 : Int32) else (if (x1 / (8 : Int32)) = 0 then (1 : Int32) else (if x2_2 = (M_w - (1 : Int32)) then (1 : Int32) else (if (x1 / (8 : Int32)) = (M_h - (1 : Int32)) then (1 : Int32) else (0 : Int32))))), .int x1, .ref (ad 33)] 63 := by
      obtain ⟨hi_8, h⟩ := h
      refine g_zast (ws2 := [((ad 19), .inr (4, [.int M_thrown, .long M_trace, .ref (ad 20), .ref (ad 21), .ref (ad 22), .ref (ad 23), .ref (ad 24), .ref (ad 25), .ref (ad 26), .ref (ad 27), .ref (ad 28), .ref (ad 29), .ref (ad 30), .ref (ad 31), .long M_found, .long M_foundSet, .long M_foundTimes, .int M_w, .int M_h, .ref (ad 32), .ref (ad 33), .ref (ad 34)])), ((ad 32), .inl (cA 0, 64, .inl (upd M_height x1.toNatClampNeg (0 : Int32)))), ((ad 33), .inl (cA 2, 64, .inl (upd M_isPinned x1.toNatClampNeg (vp_nar .boolean (if x2_2 = 0 then (1 : Int32) else (if (x1 / (8 : Int32)) = 0 then (1 : Int32) else (if x2_2 = (M_w - (1 : Int32)) then (1 : Int32) else (if (x1 / (8 : Int32)) = (M_h - (1 : Int32)) then (1 : Int32) else (0 : Int32)))))))))]) C 2 2 rfl rfl hi_8 rfl dX4_pins_63 ?_
      refine g_iinc (v := (x1 + 1)) (lv2 := [(0, .ref (ad 19)), (1, .int (x1 + 1)), (2, .int x2_2), (3, .int (x1 / (8 : Int32)))]) C dX4_pins_64 1 rfl (by first | rfl | decide) (by decide) [1, 0, 2, 3] rfl ?_
      refine g_goto (tgt := 2) C dX4_pins_67 (by decide) ?_
      exact g_lv [0, 1] rfl h
    refine g_if_eq (tgt := 58) C dX4_pins_31 (by decide) (fun c_4 => ?_) (fun c_4 => ?_)
    · refine g_iconst C dX4_pins_58 ik_1 ?_
      refine g_goto (tgt := 63) C dX4_pins_59 (by decide) ?_
      exact g_leaf (by simp only [if_pos c_4] at key; first | exact key | (simp only [if_pos c_4]; exact key) | exact absurd rfl c_4)
    · refine g_iload_n C dX4_pins_34 rfl 3 rfl ?_
      have key : gW X 0 0 [((ad 19), .inr (4, [.int M_thrown, .long M_trace, .ref (ad 20), .ref (ad 21), .ref (ad 22), .ref (ad 23), .ref (ad 24), .ref (ad 25), .ref (ad 26), .ref (ad 27), .ref (ad 28), .ref (ad 29), .ref (ad 30), .ref (ad 31), .long M_found, .long M_foundSet, .long M_foundTimes, .int M_w, .int M_h, .ref (ad 32), .ref (ad 33), .ref (ad 34)])), ((ad 32), .inl (cA 0, 64, .inl (upd M_height x1.toNatClampNeg (0 : Int32)))), ((ad 33), .inl (cA 2, 64, .inl M_isPinned))] 4 [(0, .ref (ad 19)), (1, .int x1), (2, .int x2_2), (3, .int (x1 / (8 : Int32)))] [.int (if (x1 / (8 : Int32)) = 0 then (1 : Int32) else (if x2_2 = (M_w - (1 : Int32)) then (1 : Int32) else (if (x1 / (8 : Int32)) = (M_h - (1 : Int32)) then (1 : Int32) else (0 : Int32)))), .int x1, .ref (ad 33)] 63 := by
        exact g_leaf (by simp only [if_neg c_4] at key; first | exact key | (simp only [if_neg c_4]; exact key) | exact absurd rfl c_4)
      refine g_if_eq (tgt := 58) C dX4_pins_35 (by decide) (fun c_5 => ?_) (fun c_5 => ?_)
      · refine g_iconst C dX4_pins_58 ik_1 ?_
        refine g_goto (tgt := 63) C dX4_pins_59 (by decide) ?_
        exact g_leaf (by simp only [if_pos c_5] at key; first | exact key | (simp only [if_pos c_5]; exact key) | exact absurd rfl c_5)
      · refine g_iload_n C dX4_pins_38 rfl 2 rfl ?_
        refine g_aload_n C dX4_pins_39 rfl 0 rfl ?_
        refine g_get C gfX4_pins_47 0 rfl rfl dX4_pins_40 ?_
        refine g_iconst C dX4_pins_43 ik_1 ?_
        refine g_isub C dX4_pins_44 ?_
        have key : gW X 0 0 [((ad 19), .inr (4, [.int M_thrown, .long M_trace, .ref (ad 20), .ref (ad 21), .ref (ad 22), .ref (ad 23), .ref (ad 24), .ref (ad 25), .ref (ad 26), .ref (ad 27), .ref (ad 28), .ref (ad 29), .ref (ad 30), .ref (ad 31), .long M_found, .long M_foundSet, .long M_foundTimes, .int M_w, .int M_h, .ref (ad 32), .ref (ad 33), .ref (ad 34)])), ((ad 32), .inl (cA 0, 64, .inl (upd M_height x1.toNatClampNeg (0 : Int32)))), ((ad 33), .inl (cA 2, 64, .inl M_isPinned))] 4 [(0, .ref (ad 19)), (1, .int x1), (2, .int x2_2), (3, .int (x1 / (8 : Int32)))] [.int (if x2_2 = (M_w - (1 : Int32)) then (1 : Int32) else (if (x1 / (8 : Int32)) = (M_h - (1 : Int32)) then (1 : Int32) else (0 : Int32))), .int x1, .ref (ad 33)] 63 := by
          exact g_leaf (by simp only [if_neg c_5] at key; first | exact key | (simp only [if_neg c_5]; exact key) | exact absurd rfl c_5)
        refine g_icmp_eq (tgt := 58) C dX4_pins_45 (by decide) (fun c_6 => ?_) (fun c_6 => ?_)
        · refine g_iconst C dX4_pins_58 ik_1 ?_
          refine g_goto (tgt := 63) C dX4_pins_59 (by decide) ?_
          exact g_leaf (by simp only [if_pos c_6] at key; first | exact key | (simp only [if_pos c_6]; exact key) | exact absurd rfl c_6)
        · refine g_iload_n C dX4_pins_48 rfl 3 rfl ?_
          refine g_aload_n C dX4_pins_49 rfl 0 rfl ?_
          refine g_get C gfX4_pins_51 0 rfl rfl dX4_pins_50 ?_
          refine g_iconst C dX4_pins_53 ik_1 ?_
          refine g_isub C dX4_pins_54 ?_
          have key : gW X 0 0 [((ad 19), .inr (4, [.int M_thrown, .long M_trace, .ref (ad 20), .ref (ad 21), .ref (ad 22), .ref (ad 23), .ref (ad 24), .ref (ad 25), .ref (ad 26), .ref (ad 27), .ref (ad 28), .ref (ad 29), .ref (ad 30), .ref (ad 31), .long M_found, .long M_foundSet, .long M_foundTimes, .int M_w, .int M_h, .ref (ad 32), .ref (ad 33), .ref (ad 34)])), ((ad 32), .inl (cA 0, 64, .inl (upd M_height x1.toNatClampNeg (0 : Int32)))), ((ad 33), .inl (cA 2, 64, .inl M_isPinned))] 4 [(0, .ref (ad 19)), (1, .int x1), (2, .int x2_2), (3, .int (x1 / (8 : Int32)))] [.int (if (x1 / (8 : Int32)) = (M_h - (1 : Int32)) then (1 : Int32) else (0 : Int32)), .int x1, .ref (ad 33)] 63 := by
            exact g_leaf (by simp only [if_neg c_6] at key; first | exact key | (simp only [if_neg c_6]; exact key) | exact absurd rfl c_6)
          refine g_icmp_ne (tgt := 62) C dX4_pins_55 (by decide) (fun c_7 => ?_) (fun c_7 => ?_)
          · refine g_iconst C dX4_pins_62 ik_0 ?_
            exact g_leaf (by simp only [if_neg c_7] at key; first | exact key | (simp only [if_neg c_7]; exact key) | exact absurd rfl c_7)
          · refine g_iconst C dX4_pins_58 ik_1 ?_
            refine g_goto (tgt := 63) C dX4_pins_59 (by decide) ?_
            exact g_leaf (by simp only [if_pos c_7] at key; first | exact key | (simp only [if_pos c_7]; exact key) | exact absurd rfl c_7)
def prX4_pins (M_thrown : Int32) (M_trace : Int64) (M_found : Int64) (M_foundSet : Int64) (M_foundTimes : Int64) (M_w : Int32) (M_h : Int32) (M_height : Nat → Int32) (M_isPinned : Nat → Int32) : Prop := netOK M_w M_h
def po_X4_pins (ad : Nat → Nat) (cA : Nat → ClassId) (M_thrown : Int32) (M_trace : Int64) (M_found : Int64) (M_foundSet : Int64) (M_foundTimes : Int64) (M_w : Int32) (M_h : Int32) (M_height : Nat → Int32) (M_isPinned : Nat → Int32) (u : (Nat → Int32) × (Nat → Int32)) : Prop := u.1 = fillA 64 0 M_height ∧ ∀ y, y < 8 → ∀ x, x < 8 → u.2 (8 * y + x) = rimI M_w.toNatClampNeg M_h.toNatClampNeg x y
set_option maxHeartbeats 4000000 in
set_option maxRecDepth 100000 in
theorem c_X4_pins (ad : Nat → Nat) (cA : Nat → ClassId) (M_thrown : Int32) (M_trace : Int64) (M_found : Int64) (M_foundSet : Int64) (M_foundTimes : Int64) (M_w : Int32) (M_h : Int32) (M_height : Nat → Int32) (M_isPinned : Nat → Int32) (hq : prX4_pins M_thrown M_trace M_found M_foundSet M_foundTimes M_w M_h M_height M_isPinned) : ∀ (l : Launch) (D : va_G), gMv (S := (Nat → Int32) × (Nat → Int32)) l yX4_pins wsX4_pins rmX4_pins D (gT cA) 0 0 [.ref (ad 19)] (wcX4_pins ad cA M_thrown M_trace M_found M_foundSet M_foundTimes M_w M_h M_height M_isPinned) (po_X4_pins ad cA M_thrown M_trace M_found M_foundSet M_foundTimes M_w M_h M_height M_isPinned) (w1X4_pins ad cA M_thrown M_trace M_found M_foundSet M_foundTimes M_w M_h) := by
  intro l D
  unfold prX4_pins at hq
  refine g_enterv (cc := cX4_pins) (nL := 4) (ret := none) (by decide) rfl (Nat.le_of_ble_eq_true rfl) rfl (fun X C E => ?_)
  obtain ⟨w, h, hw2, hw, hh2, hh, rfl, rfl⟩ := hq
  have hpo : ∀ (pin : Nat → Int32), (∀ j, j < 64 → pin j = rimI w h (j % 8) (j / 8)) → po_X4_pins ad cA M_thrown M_trace M_found M_foundSet M_foundTimes (nI w) (nI h) M_height M_isPinned (fillA 64 0 M_height, pin) := fun pin e => by
    refine ⟨rfl, fun y hy x hx => ?_⟩
    rw [nI_clamp (by omega), nI_clamp (by omega)]
    show pin (8 * y + x) = _
    rw [e _ (by omega), show (8 * y + x) % 8 = x by omega, show (8 * y + x) / 8 = y by omega]
  refine sgX4_pins_0 C E ?_
  have loop : ∀ k, k ≤ 64 → ∀ pin, (∀ j, j < k → pin j = rimI w h (j % 8) (j / 8)) → atX4_pins_2 X ad cA (nI k) M_thrown M_trace M_found M_foundSet M_foundTimes (nI w) (nI h) (fillA k 0 M_height) pin := by
    intro k hk
    refine up_loop (P := fun k => ∀ pin, (∀ j, j < k → pin j = rimI w h (j % 8) (j / 8)) → atX4_pins_2 X ad cA (nI k) M_thrown M_trace M_found M_foundSet M_foundTimes (nI w) (nI h) (fillA k 0 M_height) pin) 64 ?_ (fun k hk ih pin hp => ?_) k hk
    · exact fun pin hp => sgX4_pins_2 C E ⟨fun _ => hpo pin hp, fun c => absurd (i32_le_refl _) c⟩
    · refine sgX4_pins_2 C E ⟨fun c => absurd c (nI_ge (b := 64) hk (by decide)), fun _ v ev => ?_⟩
      have e1 : v = nI (k % 8) := by rw [ev]; exact pk_rem (d := 8) (by omega) (by decide) (by decide)
      have e2 : nI k / 8 = nI (k / 8) := pk_div (d := 8) (by omega) (by decide) (by decide)
      rw [e1, e2, nI_clamp (by omega), nI_1, rim_m hw2 hw hh2 hh (by omega) (by omega)]
      refine ⟨vp_in_nI hk (by decide), vp_in_nI hk (by decide), ?_⟩
      have e : upd (fillA k 0 M_height) k 0 = fillA (k + 1) 0 M_height := by
        funext j
        unfold upd fillA
        by_cases h1 : j = k
        · rw [if_pos h1, if_pos (by omega)]
        · rw [if_neg h1]
          by_cases h2 : j < k
          · rw [if_pos h2, if_pos (by omega)]
          · rw [if_neg h2, if_neg (by omega)]
      rw [e]
      refine ih _ (fun j hj => ?_)
      rcases Nat.lt_or_ge j k with q | q
      · rw [upd_n _ _ (by omega)]; exact hp j q
      · have e : j = k := by omega
        rw [e, upd_s]
  have e0 : fillA 0 0 M_height = M_height := by funext j; simp [fillA]
  have := loop 0 (Nat.zero_le _) M_isPinned (fun j hj => absurd hj (Nat.not_lt_zero j))
  rw [e0] at this
  exact this
end
section
/-! sums of whole numbers -/
def sumZ (f : Nat → Int) : Nat → Int
  | 0 => 0
  | n + 1 => sumZ f n + f n
theorem sumZ_congr {f g : Nat → Int} {n : Nat} (h : ∀ i, i < n → f i = g i) : sumZ f n = sumZ g n := by
  induction n with
  | zero => rfl
  | succ n ih => simp only [sumZ]; rw [ih (fun i hi => h i (by omega)), h n (by omega)]
theorem sumZ_add (f g : Nat → Int) (n : Nat) : sumZ (fun i => f i + g i) n = sumZ f n + sumZ g n := by
  induction n with
  | zero => rfl
  | succ n ih => simp only [sumZ]; rw [ih]; omega
theorem sumZ_sub (f g : Nat → Int) (n : Nat) : sumZ (fun i => f i - g i) n = sumZ f n - sumZ g n := by
  induction n with
  | zero => rfl
  | succ n ih => simp only [sumZ]; rw [ih]; omega
theorem sumZ_bd {f : Nat → Int} {n : Nat} {a b : Int} (h : ∀ i, i < n → a ≤ f i ∧ f i ≤ b) : (n : Int) * a ≤ sumZ f n ∧ sumZ f n ≤ (n : Int) * b := by
  induction n with
  | zero => simp [sumZ]
  | succ n ih =>
    have h1 := ih (fun i hi => h i (by omega))
    have h2 := h n (by omega)
    simp only [sumZ]
    have e1 : ((n + 1 : Nat) : Int) * a = (n : Int) * a + a := by rw [Int.natCast_add, Int.add_mul]; simp
    have e2 : ((n + 1 : Nat) : Int) * b = (n : Int) * b + b := by rw [Int.natCast_add, Int.add_mul]; simp
    rw [e1, e2]; omega
theorem sumZ_le {f g : Nat → Int} {n : Nat} (h : ∀ i, i < n → f i ≤ g i) : sumZ f n ≤ sumZ g n := by
  induction n with
  | zero => exact Int.le_refl _
  | succ n ih =>
    have h1 := ih (fun i hi => h i (by omega))
    have h2 := h n (by omega)
    simp only [sumZ]; omega
theorem sumZ_0 (n : Nat) : sumZ (fun _ => 0) n = 0 := by
  induction n with
  | zero => rfl
  | succ n ih => simp only [sumZ]; rw [ih]; rfl
theorem sumZ_nn {f : Nat → Int} {n : Nat} (h : ∀ i, i < n → 0 ≤ f i) : 0 ≤ sumZ f n := by
  have := sumZ_le (f := fun _ => 0) (g := f) h
  rw [sumZ_0] at this; exact this
theorem sumZ_z {f : Nat → Int} {n : Nat} (h : ∀ i, i < n → 0 ≤ f i) (e : sumZ f n = 0) : ∀ i, i < n → f i = 0 := by
  induction n with
  | zero => intro i hi; exact absurd hi (Nat.not_lt_zero i)
  | succ n ih =>
    have h1 := sumZ_nn (fun i hi => h i (Nat.lt_succ_of_lt hi))
    have h2 := h n (by omega)
    simp only [sumZ] at e
    intro i hi
    rcases Nat.lt_or_ge i n with q | q
    · exact ih (fun i hi => h i (by omega)) (by omega) i q
    · have e2 : i = n := by omega
      rw [e2]; omega
theorem sumZ_one {f g : Nat → Int} {n k : Nat} (hk : k < n) (h : ∀ i, i < n → i ≠ k → f i = g i) : sumZ f n = sumZ g n + (f k - g k) := by
  induction n with
  | zero => exact absurd hk (Nat.not_lt_zero k)
  | succ n ih =>
    simp only [sumZ]
    rcases Nat.lt_or_ge k n with q | q
    · rw [ih q (fun i hi hne => h i (by omega) hne), h n (by omega) (by omega)]; omega
    · have e : k = n := by omega
      rw [sumZ_congr (fun i hi => h i (by omega) (by omega)), e]; omega
/-! a long as a set of bits -/
def sb (s : Int64) (c : Nat) : Bool := s.toBitVec.getLsbD c
theorem zb_tb (n : Nat) : (lN n).toBitVec = BitVec.ofNat 64 n := rfl
theorem zb_c : ∀ k, k < 64 → ((nI k).toInt64 &&& 63) = lN k := by decide +kernel
theorem zb_sm : ∀ k, k < 64 → (BitVec.ofNat 64 k).smod 64 = BitVec.ofNat 64 k := by decide +kernel
theorem zb_ext {a b : Int64} (h : ∀ i, i < 64 → sb a i = sb b i) : a = b := Int64.toBitVec_inj.mp (BitVec.eq_of_getLsbD_eq h)
theorem zb_shr (s : Int64) {c : Nat} (hc : c < 64) : (s >>> ((nI c).toInt64 &&& 63)).toBitVec = s.toBitVec.sshiftRight c := by
  rw [zb_c c hc]
  show s.toBitVec.sshiftRight' ((lN c).toBitVec.smod 64) = _
  rw [zb_tb, zb_sm c hc, BitVec.sshiftRight_eq', BitVec.toNat_ofNat, Nat.mod_eq_of_lt (by omega)]
theorem zb_and1 (x : Int64) : (x &&& 1) = 1 ↔ x.toBitVec.getLsbD 0 = true := by
  rw [← Int64.toBitVec_inj, Int64.toBitVec_and, Int64.toBitVec_one, BitVec.and_one_eq_setWidth_ofBool_getLsbD]
  cases x.toBitVec.getLsbD 0 <;> decide
theorem zb_and1' (x : Int64) : (x &&& 1) = if x.toBitVec.getLsbD 0 = true then 1 else 0 := by
  by_cases h : x.toBitVec.getLsbD 0 = true
  · rw [if_pos h]; exact (zb_and1 x).mpr h
  · rw [if_neg h, ← Int64.toBitVec_inj, Int64.toBitVec_and, Int64.toBitVec_one, BitVec.and_one_eq_setWidth_ofBool_getLsbD]
    revert h
    cases x.toBitVec.getLsbD 0 <;> decide
theorem zb_bit (s : Int64) {c : Nat} (hc : c < 64) : (s >>> ((nI c).toInt64 &&& 63)) &&& 1 = 1 ↔ sb s c = true := by
  rw [zb_and1, zb_shr s hc, BitVec.getLsbD_sshiftRight]
  simp [sb, hc]
theorem zb_bit' (s : Int64) {c : Nat} (hc : c < 64) : (s >>> ((nI c).toInt64 &&& 63)) &&& 1 = if sb s c = true then 1 else 0 := by
  rw [zb_and1', zb_shr s hc, BitVec.getLsbD_sshiftRight]
  simp [sb, hc]
theorem zb_shl (n : Nat) {k : Nat} (hk : k < 64) : lN n <<< ((nI k).toInt64 &&& 63) = lN (n * 2 ^ k) := by
  rw [zb_c k hk]
  apply Int64.toBitVec_inj.mp
  rw [Int64.toBitVec_shiftLeft, zb_tb, zb_tb, zb_tb, zb_sm k hk]
  apply BitVec.eq_of_toNat_eq
  rw [BitVec.shiftLeft_eq', BitVec.toNat_shiftLeft, BitVec.toNat_ofNat, BitVec.toNat_ofNat, BitVec.toNat_ofNat, Nat.mod_eq_of_lt (show k < 2 ^ 64 by omega), Nat.shiftLeft_eq, Nat.mul_mod, Nat.mod_mod, ← Nat.mul_mod]
theorem zb_one {k i : Nat} (hk : k < 64) (hi : i < 64) : sb ((1 : Int64) <<< ((nI k).toInt64 &&& 63)) i = decide (i = k) := by
  have e : ((1 : Int64) <<< ((nI k).toInt64 &&& 63)) = lN (1 * 2 ^ k) := zb_shl 1 hk
  rw [e, Nat.one_mul]
  show (BitVec.ofNat 64 (2 ^ k)).getLsbD i = _
  rw [BitVec.getLsbD_ofNat, Nat.testBit_two_pow]
  simp [hi, eq_comm]
theorem zb_every {n i : Nat} (hn : n < 63) (hi : i < 64) : sb (((1 : Int64) <<< ((nI n).toInt64 &&& 63)) - 1) i = decide (i < n) := by
  have e : ((1 : Int64) <<< ((nI n).toInt64 &&& 63)) = lN (1 * 2 ^ n) := zb_shl 1 (by omega)
  have p : 1 ≤ 2 ^ n := Nat.one_le_two_pow
  have e2 : lN (2 ^ n) - (1 : Int64) = lN (2 ^ n - 1) := lN_sub (b := 1) p
  rw [e, Nat.one_mul, e2]
  show (BitVec.ofNat 64 (2 ^ n - 1)).getLsbD i = _
  rw [BitVec.getLsbD_ofNat, Nat.testBit_two_pow_sub_one]
  simp [hi]
theorem zb_or (a b : Int64) (i : Nat) : sb (a ||| b) i = (sb a i || sb b i) := by unfold sb; rw [Int64.toBitVec_or, BitVec.getLsbD_or]
theorem zb_and (a b : Int64) (i : Nat) : sb (a &&& b) i = (sb a i && sb b i) := by unfold sb; rw [Int64.toBitVec_and, BitVec.getLsbD_and]
theorem zb_xor (a b : Int64) (i : Nat) : sb (a ^^^ b) i = (sb a i ^^ sb b i) := by unfold sb; rw [Int64.toBitVec_xor, BitVec.getLsbD_xor]
theorem zb_m1 {i : Nat} (hi : i < 64) : sb (-1) i = true := by
  show (-1#64).getLsbD i = true
  rw [BitVec.neg_one_eq_allOnes, BitVec.getLsbD_allOnes]; exact decide_eq_true hi
theorem zb_0 (i : Nat) : sb 0 i = false := by
  show (0#64).getLsbD i = false
  exact BitVec.getLsbD_zero
/-! the CELLS, as the class has them -/
def rv (s : Nat) : Nat := if s % 2 = 0 then s + 1 else s - 1
def sc (ru : Nat → Int32) (kd k p : Nat) : Int :=
  if kd = 2 ∧ (ru 5).toInt < (ru k).toInt + (if 0 < kd ∧ p % 2 = 1 then (ru 4).toInt else 0) then (ru 5).toInt else (ru k).toInt + (if 0 < kd ∧ p % 2 = 1 then (ru 4).toInt else 0)
def cwA (ru pl : Nat → Int32) (kd c s : Nat) : Int := sc ru kd (s / 2) ((pl (3 * c + s / 2)).toNatClampNeg - s % 2)
def ruOK (ru : Nat → Int32) : Prop := (∀ k, k < 5 → 0 ≤ (ru k).toInt ∧ (ru k).toInt ≤ 9) ∧ 1 ≤ (ru 5).toInt ∧ (ru 5).toInt ≤ 9 ∧ ∃ kd, kd ≤ 2 ∧ ru 6 = nI kd
def grOK (n : Nat) (be pl : Nat → Int32) : Prop := 1 ≤ n ∧ n ≤ 36 ∧ ∀ c, c < n → (∀ k, k < 3 → ∃ p, p < 4 ∧ pl (3 * c + k) = nI p) ∧ ∀ s, s < 6 → be (6 * c + s) = -1 ∨ ∃ d, d < n ∧ d ≠ c ∧ be (6 * c + s) = nI d ∧ be (6 * d + rv s) = nI c ∧ s % 2 ≤ (pl (3 * c + s / 2)).toNatClampNeg ∧ (pl (3 * c + s / 2)).toNatClampNeg - s % 2 = (pl (3 * d + s / 2)).toNatClampNeg - rv s % 2
def ownA (pr ru be : Nat → Int32) (c : Nat) : Int := (pr c).toInt + sumZ (fun s => if be (6 * c + s) = -1 then (ru 3).toInt else 0) 6
def grwA (ru pl be : Nat → Int32) (S : Nat → Bool) (c : Nat) : Int := sumZ (fun s => if be (6 * c + s) = -1 then 0 else if S (be (6 * c + s)).toNatClampNeg = true then -cwA ru pl (ru 6).toNatClampNeg c s else cwA ru pl (ru 6).toNatClampNeg c s) 6
def skcA (ru pl be : Nat → Int32) (S : Nat → Bool) (c : Nat) : Int := sumZ (fun s => if be (6 * c + s) = -1 then (ru 3).toInt else if S (be (6 * c + s)).toNatClampNeg = true then 0 else cwA ru pl (ru 6).toNatClampNeg c s) 6
def sknA (n : Nat) (ru pl be : Nat → Int32) (S : Nat → Bool) : Int := sumZ (fun c => if S c = true then skcA ru pl be S c else 0) n
def prsA (n : Nat) (pr : Nat → Int32) (S : Nat → Bool) : Int := sumZ (fun c => if S c = true then (pr c).toInt else 0) n
def cntA (n : Nat) (P : Nat → Bool) : Nat := match n with
  | 0 => 0
  | n + 1 => cntA n P + (if P n = true then 1 else 0)
theorem cntA_le (n : Nat) (P : Nat → Bool) : cntA n P ≤ n := by
  induction n with
  | zero => exact Nat.le_refl _
  | succ n ih => simp only [cntA]; split <;> omega
theorem sc_bd {ru : Nat → Int32} (h : ruOK ru) {kd k : Nat} (hk : k < 3) (p : Nat) : 0 ≤ sc ru kd k p ∧ sc ru kd k p ≤ 18 := by
  have h1 := h.1 k (by omega)
  have h2 := h.1 4 (by omega)
  have h3 := h.2.1
  have h4 := h.2.2.1
  unfold sc
  (repeat' split) <;> omega
theorem cwA_bd {ru : Nat → Int32} (h : ruOK ru) (pl : Nat → Int32) (kd c : Nat) {s : Nat} (hs : s < 6) : 0 ≤ cwA ru pl kd c s ∧ cwA ru pl kd c s ≤ 18 := sc_bd h (by omega) _
end
section
set_option maxRecDepth 20000 in
theorem ggX0_init_X0_lay : GoodIn wsX0_init wsX0_lay := goodIn_r _ [16, 5, 11, 6, 7, 17, 18, 19, 20, 21, 22, 23, 15, 24, 9, 10, 25, 26, 27, 28, 29, 30, 31] (by decide +kernel) (by decide +kernel)
set_option maxRecDepth 20000 in
theorem gX0_init_X0_lay : GoodIn wsX0_init (wsV RX0 34 RX0 yX0_lay wsX0_lay) := goodIn_app (goodIn_of _ (by decide +kernel)) ggX0_init_X0_lay
theorem dX0_init_0 : decode cX0_init 0 = .ok (.aload_n 0, 1) := by decide +kernel
theorem dX0_init_1 : decode cX0_init 1 = .ok (.invokespecial 3, 3) := by decide +kernel
theorem dX0_init_4 : decode cX0_init 4 = .ok (.aload_n 0, 1) := by decide +kernel
theorem dX0_init_5 : decode cX0_init 5 = .ok (.iconst 3, 1) := by decide +kernel
theorem dX0_init_6 : decode cX0_init 6 = .ok (.newarray .int, 2) := by decide +kernel
theorem dX0_init_8 : decode cX0_init 8 = .ok (.putfield 9, 3) := by decide +kernel
theorem dX0_init_11 : decode cX0_init 11 = .ok (.aload_n 0, 1) := by decide +kernel
theorem dX0_init_12 : decode cX0_init 12 = .ok (.bipush 36, 2) := by decide +kernel
theorem dX0_init_14 : decode cX0_init 14 = .ok (.newarray .int, 2) := by decide +kernel
theorem dX0_init_16 : decode cX0_init 16 = .ok (.putfield 15, 3) := by decide +kernel
theorem dX0_init_19 : decode cX0_init 19 = .ok (.aload_n 0, 1) := by decide +kernel
theorem dX0_init_20 : decode cX0_init 20 = .ok (.bipush 36, 2) := by decide +kernel
theorem dX0_init_22 : decode cX0_init 22 = .ok (.newarray .int, 2) := by decide +kernel
theorem dX0_init_24 : decode cX0_init 24 = .ok (.putfield 18, 3) := by decide +kernel
theorem dX0_init_27 : decode cX0_init 27 = .ok (.aload_n 0, 1) := by decide +kernel
theorem dX0_init_28 : decode cX0_init 28 = .ok (.bipush 7, 2) := by decide +kernel
theorem dX0_init_30 : decode cX0_init 30 = .ok (.newarray .int, 2) := by decide +kernel
theorem dX0_init_32 : decode cX0_init 32 = .ok (.dup, 1) := by decide +kernel
theorem dX0_init_33 : decode cX0_init 33 = .ok (.iconst 0, 1) := by decide +kernel
theorem dX0_init_34 : decode cX0_init 34 = .ok (.iconst 1, 1) := by decide +kernel
theorem dX0_init_35 : decode cX0_init 35 = .ok (.iastore, 1) := by decide +kernel
theorem dX0_init_36 : decode cX0_init 36 = .ok (.dup, 1) := by decide +kernel
theorem dX0_init_37 : decode cX0_init 37 = .ok (.iconst 1, 1) := by decide +kernel
theorem dX0_init_38 : decode cX0_init 38 = .ok (.iconst 1, 1) := by decide +kernel
theorem dX0_init_39 : decode cX0_init 39 = .ok (.iastore, 1) := by decide +kernel
theorem dX0_init_40 : decode cX0_init 40 = .ok (.dup, 1) := by decide +kernel
theorem dX0_init_41 : decode cX0_init 41 = .ok (.iconst 2, 1) := by decide +kernel
theorem dX0_init_42 : decode cX0_init 42 = .ok (.iconst 1, 1) := by decide +kernel
theorem dX0_init_43 : decode cX0_init 43 = .ok (.iastore, 1) := by decide +kernel
theorem dX0_init_44 : decode cX0_init 44 = .ok (.dup, 1) := by decide +kernel
theorem dX0_init_45 : decode cX0_init 45 = .ok (.iconst 3, 1) := by decide +kernel
theorem dX0_init_46 : decode cX0_init 46 = .ok (.iconst 0, 1) := by decide +kernel
theorem dX0_init_47 : decode cX0_init 47 = .ok (.iastore, 1) := by decide +kernel
theorem dX0_init_48 : decode cX0_init 48 = .ok (.dup, 1) := by decide +kernel
theorem dX0_init_49 : decode cX0_init 49 = .ok (.iconst 4, 1) := by decide +kernel
theorem dX0_init_50 : decode cX0_init 50 = .ok (.iconst 0, 1) := by decide +kernel
theorem dX0_init_51 : decode cX0_init 51 = .ok (.iastore, 1) := by decide +kernel
theorem dX0_init_52 : decode cX0_init 52 = .ok (.dup, 1) := by decide +kernel
theorem dX0_init_53 : decode cX0_init 53 = .ok (.iconst 5, 1) := by decide +kernel
theorem dX0_init_54 : decode cX0_init 54 = .ok (.bipush 9, 2) := by decide +kernel
theorem dX0_init_56 : decode cX0_init 56 = .ok (.iastore, 1) := by decide +kernel
theorem dX0_init_57 : decode cX0_init 57 = .ok (.dup, 1) := by decide +kernel
theorem dX0_init_58 : decode cX0_init 58 = .ok (.bipush 6, 2) := by decide +kernel
theorem dX0_init_60 : decode cX0_init 60 = .ok (.iconst 0, 1) := by decide +kernel
theorem dX0_init_61 : decode cX0_init 61 = .ok (.iastore, 1) := by decide +kernel
theorem dX0_init_62 : decode cX0_init 62 = .ok (.putfield 21, 3) := by decide +kernel
theorem dX0_init_65 : decode cX0_init 65 = .ok (.aload_n 0, 1) := by decide +kernel
theorem dX0_init_66 : decode cX0_init 66 = .ok (.bipush 108, 2) := by decide +kernel
theorem dX0_init_68 : decode cX0_init 68 = .ok (.newarray .int, 2) := by decide +kernel
theorem dX0_init_70 : decode cX0_init 70 = .ok (.putfield 24, 3) := by decide +kernel
theorem dX0_init_73 : decode cX0_init 73 = .ok (.aload_n 0, 1) := by decide +kernel
theorem dX0_init_74 : decode cX0_init 74 = .ok (.sipush 216, 3) := by decide +kernel
theorem dX0_init_77 : decode cX0_init 77 = .ok (.newarray .int, 2) := by decide +kernel
theorem dX0_init_79 : decode cX0_init 79 = .ok (.putfield 27, 3) := by decide +kernel
theorem dX0_init_82 : decode cX0_init 82 = .ok (.aload_n 0, 1) := by decide +kernel
theorem dX0_init_83 : decode cX0_init 83 = .ok (.iconst 0, 1) := by decide +kernel
theorem dX0_init_84 : decode cX0_init 84 = .ok (.putfield 30, 3) := by decide +kernel
theorem dX0_init_87 : decode cX0_init 87 = .ok (.aload_n 0, 1) := by decide +kernel
theorem dX0_init_88 : decode cX0_init 88 = .ok (.iconst 3, 1) := by decide +kernel
theorem dX0_init_89 : decode cX0_init 89 = .ok (.iconst 3, 1) := by decide +kernel
theorem dX0_init_90 : decode cX0_init 90 = .ok (.iconst 1, 1) := by decide +kernel
theorem dX0_init_91 : decode cX0_init 91 = .ok (.invokevirtual 34, 3) := by decide +kernel
theorem dX0_init_94 : decode cX0_init 94 = .ok (.return_, 1) := by decide +kernel
set_option maxRecDepth 20000 in
theorem ggX0_lay_J7_fill_53178 : GoodIn wsX0_lay wsJ7_fill_53178 := goodIn_r _ [8] (by decide +kernel) (by decide +kernel)
set_option maxRecDepth 20000 in
theorem gX0_lay_J7_fill_53178 : GoodIn wsX0_lay (va_wsS RX0 38 yJ7_fill_53178 wsJ7_fill_53178) := goodIn_app (goodIn_of _ (by decide +kernel)) ggX0_lay_J7_fill_53178
set_option maxRecDepth 20000 in
theorem ggX0_lay_X0_layAlong : GoodIn wsX0_lay wsX0_layAlong := goodIn_r _ [13, 14, 15, 1, 16, 17, 18, 19, 20, 21, 22] (by decide +kernel) (by decide +kernel)
set_option maxRecDepth 20000 in
theorem gX0_lay_X0_layAlong : GoodIn wsX0_lay (wsV RX0 44 RX0 yX0_layAlong wsX0_layAlong) := goodIn_app (goodIn_of _ (by decide +kernel)) ggX0_lay_X0_layAlong
theorem dX0_lay_0 : decode cX0_lay 0 = .ok (.aload_n 0, 1) := by decide +kernel
theorem dX0_lay_1 : decode cX0_lay 1 = .ok (.getfield 9, 3) := by decide +kernel
theorem dX0_lay_4 : decode cX0_lay 4 = .ok (.iconst 0, 1) := by decide +kernel
theorem dX0_lay_5 : decode cX0_lay 5 = .ok (.iload_n 1, 1) := by decide +kernel
theorem dX0_lay_6 : decode cX0_lay 6 = .ok (.iastore, 1) := by decide +kernel
theorem dX0_lay_7 : decode cX0_lay 7 = .ok (.aload_n 0, 1) := by decide +kernel
theorem dX0_lay_8 : decode cX0_lay 8 = .ok (.getfield 9, 3) := by decide +kernel
theorem dX0_lay_11 : decode cX0_lay 11 = .ok (.iconst 1, 1) := by decide +kernel
theorem dX0_lay_12 : decode cX0_lay 12 = .ok (.iload_n 2, 1) := by decide +kernel
theorem dX0_lay_13 : decode cX0_lay 13 = .ok (.iastore, 1) := by decide +kernel
theorem dX0_lay_14 : decode cX0_lay 14 = .ok (.aload_n 0, 1) := by decide +kernel
theorem dX0_lay_15 : decode cX0_lay 15 = .ok (.getfield 9, 3) := by decide +kernel
theorem dX0_lay_18 : decode cX0_lay 18 = .ok (.iconst 2, 1) := by decide +kernel
theorem dX0_lay_19 : decode cX0_lay 19 = .ok (.iload_n 3, 1) := by decide +kernel
theorem dX0_lay_20 : decode cX0_lay 20 = .ok (.iastore, 1) := by decide +kernel
theorem dX0_lay_21 : decode cX0_lay 21 = .ok (.aload_n 0, 1) := by decide +kernel
theorem dX0_lay_22 : decode cX0_lay 22 = .ok (.iload_n 1, 1) := by decide +kernel
theorem dX0_lay_23 : decode cX0_lay 23 = .ok (.iload_n 2, 1) := by decide +kernel
theorem dX0_lay_24 : decode cX0_lay 24 = .ok (.imul, 1) := by decide +kernel
theorem dX0_lay_25 : decode cX0_lay 25 = .ok (.iload_n 3, 1) := by decide +kernel
theorem dX0_lay_26 : decode cX0_lay 26 = .ok (.imul, 1) := by decide +kernel
theorem dX0_lay_27 : decode cX0_lay 27 = .ok (.putfield 30, 3) := by decide +kernel
theorem dX0_lay_30 : decode cX0_lay 30 = .ok (.aload_n 0, 1) := by decide +kernel
theorem dX0_lay_31 : decode cX0_lay 31 = .ok (.getfield 15, 3) := by decide +kernel
theorem dX0_lay_34 : decode cX0_lay 34 = .ok (.iconst 0, 1) := by decide +kernel
theorem dX0_lay_35 : decode cX0_lay 35 = .ok (.invokestatic 38, 3) := by decide +kernel
theorem dX0_lay_38 : decode cX0_lay 38 = .ok (.aload_n 0, 1) := by decide +kernel
theorem dX0_lay_39 : decode cX0_lay 39 = .ok (.getfield 18, 3) := by decide +kernel
theorem dX0_lay_42 : decode cX0_lay 42 = .ok (.iconst 0, 1) := by decide +kernel
theorem dX0_lay_43 : decode cX0_lay 43 = .ok (.invokestatic 38, 3) := by decide +kernel
theorem dX0_lay_46 : decode cX0_lay 46 = .ok (.iconst 0, 1) := by decide +kernel
theorem dX0_lay_47 : decode cX0_lay 47 = .ok (.istore 4, 2) := by decide +kernel
theorem dX0_lay_49 : decode cX0_lay 49 = .ok (.iconst 0, 1) := by decide +kernel
theorem dX0_lay_50 : decode cX0_lay 50 = .ok (.istore 5, 2) := by decide +kernel
theorem dX0_lay_52 : decode cX0_lay 52 = .ok (.iload 5, 2) := by decide +kernel
theorem dX0_lay_54 : decode cX0_lay 54 = .ok (.iload_n 3, 1) := by decide +kernel
theorem dX0_lay_55 : decode cX0_lay 55 = .ok (.if_icmp .ge 74, 3) := by decide +kernel
theorem dX0_lay_58 : decode cX0_lay 58 = .ok (.iconst 0, 1) := by decide +kernel
theorem dX0_lay_59 : decode cX0_lay 59 = .ok (.istore 6, 2) := by decide +kernel
theorem dX0_lay_61 : decode cX0_lay 61 = .ok (.iload 6, 2) := by decide +kernel
theorem dX0_lay_63 : decode cX0_lay 63 = .ok (.iload_n 2, 1) := by decide +kernel
theorem dX0_lay_64 : decode cX0_lay 64 = .ok (.if_icmp .ge 59, 3) := by decide +kernel
theorem dX0_lay_67 : decode cX0_lay 67 = .ok (.iconst 0, 1) := by decide +kernel
theorem dX0_lay_68 : decode cX0_lay 68 = .ok (.istore 7, 2) := by decide +kernel
theorem dX0_lay_70 : decode cX0_lay 70 = .ok (.iload 7, 2) := by decide +kernel
theorem dX0_lay_72 : decode cX0_lay 72 = .ok (.iload_n 1, 1) := by decide +kernel
theorem dX0_lay_73 : decode cX0_lay 73 = .ok (.if_icmp .ge 44, 3) := by decide +kernel
theorem dX0_lay_76 : decode cX0_lay 76 = .ok (.aload_n 0, 1) := by decide +kernel
theorem dX0_lay_77 : decode cX0_lay 77 = .ok (.iconst 0, 1) := by decide +kernel
theorem dX0_lay_78 : decode cX0_lay 78 = .ok (.iload 4, 2) := by decide +kernel
theorem dX0_lay_80 : decode cX0_lay 80 = .ok (.iload 7, 2) := by decide +kernel
theorem dX0_lay_82 : decode cX0_lay 82 = .ok (.iconst 1, 1) := by decide +kernel
theorem dX0_lay_83 : decode cX0_lay 83 = .ok (.invokevirtual 44, 3) := by decide +kernel
theorem dX0_lay_86 : decode cX0_lay 86 = .ok (.aload_n 0, 1) := by decide +kernel
theorem dX0_lay_87 : decode cX0_lay 87 = .ok (.iconst 1, 1) := by decide +kernel
theorem dX0_lay_88 : decode cX0_lay 88 = .ok (.iload 4, 2) := by decide +kernel
theorem dX0_lay_90 : decode cX0_lay 90 = .ok (.iload 6, 2) := by decide +kernel
theorem dX0_lay_92 : decode cX0_lay 92 = .ok (.iload_n 1, 1) := by decide +kernel
theorem dX0_lay_93 : decode cX0_lay 93 = .ok (.invokevirtual 44, 3) := by decide +kernel
theorem dX0_lay_96 : decode cX0_lay 96 = .ok (.aload_n 0, 1) := by decide +kernel
theorem dX0_lay_97 : decode cX0_lay 97 = .ok (.iconst 2, 1) := by decide +kernel
theorem dX0_lay_98 : decode cX0_lay 98 = .ok (.iload 4, 2) := by decide +kernel
theorem dX0_lay_100 : decode cX0_lay 100 = .ok (.iload 5, 2) := by decide +kernel
theorem dX0_lay_102 : decode cX0_lay 102 = .ok (.iload_n 1, 1) := by decide +kernel
theorem dX0_lay_103 : decode cX0_lay 103 = .ok (.iload_n 2, 1) := by decide +kernel
theorem dX0_lay_104 : decode cX0_lay 104 = .ok (.imul, 1) := by decide +kernel
theorem dX0_lay_105 : decode cX0_lay 105 = .ok (.invokevirtual 44, 3) := by decide +kernel
theorem dX0_lay_108 : decode cX0_lay 108 = .ok (.iinc 4 1, 3) := by decide +kernel
theorem dX0_lay_111 : decode cX0_lay 111 = .ok (.iinc 7 1, 3) := by decide +kernel
theorem dX0_lay_114 : decode cX0_lay 114 = .ok (.goto (-44), 3) := by decide +kernel
theorem dX0_lay_117 : decode cX0_lay 117 = .ok (.iinc 6 1, 3) := by decide +kernel
theorem dX0_lay_120 : decode cX0_lay 120 = .ok (.goto (-59), 3) := by decide +kernel
theorem dX0_lay_123 : decode cX0_lay 123 = .ok (.iinc 5 1, 3) := by decide +kernel
theorem dX0_lay_126 : decode cX0_lay 126 = .ok (.goto (-74), 3) := by decide +kernel
theorem dX0_lay_129 : decode cX0_lay 129 = .ok (.return_, 1) := by decide +kernel
theorem dX0_layAlong_0 : decode cX0_layAlong 0 = .ok (.iload_n 2, 1) := by decide +kernel
theorem dX0_layAlong_1 : decode cX0_layAlong 1 = .ok (.bipush 6, 2) := by decide +kernel
theorem dX0_layAlong_3 : decode cX0_layAlong 3 = .ok (.imul, 1) := by decide +kernel
theorem dX0_layAlong_4 : decode cX0_layAlong 4 = .ok (.iconst 2, 1) := by decide +kernel
theorem dX0_layAlong_5 : decode cX0_layAlong 5 = .ok (.iload_n 1, 1) := by decide +kernel
theorem dX0_layAlong_6 : decode cX0_layAlong 6 = .ok (.imul, 1) := by decide +kernel
theorem dX0_layAlong_7 : decode cX0_layAlong 7 = .ok (.iadd, 1) := by decide +kernel
theorem dX0_layAlong_8 : decode cX0_layAlong 8 = .ok (.istore 5, 2) := by decide +kernel
theorem dX0_layAlong_10 : decode cX0_layAlong 10 = .ok (.aload_n 0, 1) := by decide +kernel
theorem dX0_layAlong_11 : decode cX0_layAlong 11 = .ok (.getfield 24, 3) := by decide +kernel
theorem dX0_layAlong_14 : decode cX0_layAlong 14 = .ok (.iload_n 2, 1) := by decide +kernel
theorem dX0_layAlong_15 : decode cX0_layAlong 15 = .ok (.iconst 3, 1) := by decide +kernel
theorem dX0_layAlong_16 : decode cX0_layAlong 16 = .ok (.imul, 1) := by decide +kernel
theorem dX0_layAlong_17 : decode cX0_layAlong 17 = .ok (.iload_n 1, 1) := by decide +kernel
theorem dX0_layAlong_18 : decode cX0_layAlong 18 = .ok (.iadd, 1) := by decide +kernel
theorem dX0_layAlong_19 : decode cX0_layAlong 19 = .ok (.iload_n 3, 1) := by decide +kernel
theorem dX0_layAlong_20 : decode cX0_layAlong 20 = .ok (.iastore, 1) := by decide +kernel
theorem dX0_layAlong_21 : decode cX0_layAlong 21 = .ok (.aload_n 0, 1) := by decide +kernel
theorem dX0_layAlong_22 : decode cX0_layAlong 22 = .ok (.getfield 27, 3) := by decide +kernel
theorem dX0_layAlong_25 : decode cX0_layAlong 25 = .ok (.iload 5, 2) := by decide +kernel
theorem dX0_layAlong_27 : decode cX0_layAlong 27 = .ok (.iload_n 3, 1) := by decide +kernel
theorem dX0_layAlong_28 : decode cX0_layAlong 28 = .ok (.iconst 1, 1) := by decide +kernel
theorem dX0_layAlong_29 : decode cX0_layAlong 29 = .ok (.iadd, 1) := by decide +kernel
theorem dX0_layAlong_30 : decode cX0_layAlong 30 = .ok (.aload_n 0, 1) := by decide +kernel
theorem dX0_layAlong_31 : decode cX0_layAlong 31 = .ok (.getfield 9, 3) := by decide +kernel
theorem dX0_layAlong_34 : decode cX0_layAlong 34 = .ok (.iload_n 1, 1) := by decide +kernel
theorem dX0_layAlong_35 : decode cX0_layAlong 35 = .ok (.iaload, 1) := by decide +kernel
theorem dX0_layAlong_36 : decode cX0_layAlong 36 = .ok (.if_icmp .ge 10, 3) := by decide +kernel
theorem dX0_layAlong_39 : decode cX0_layAlong 39 = .ok (.iload_n 2, 1) := by decide +kernel
theorem dX0_layAlong_40 : decode cX0_layAlong 40 = .ok (.iload 4, 2) := by decide +kernel
theorem dX0_layAlong_42 : decode cX0_layAlong 42 = .ok (.iadd, 1) := by decide +kernel
theorem dX0_layAlong_43 : decode cX0_layAlong 43 = .ok (.goto 4, 3) := by decide +kernel
theorem dX0_layAlong_46 : decode cX0_layAlong 46 = .ok (.iconst (-1), 1) := by decide +kernel
theorem dX0_layAlong_47 : decode cX0_layAlong 47 = .ok (.iastore, 1) := by decide +kernel
theorem dX0_layAlong_48 : decode cX0_layAlong 48 = .ok (.aload_n 0, 1) := by decide +kernel
theorem dX0_layAlong_49 : decode cX0_layAlong 49 = .ok (.getfield 27, 3) := by decide +kernel
theorem dX0_layAlong_52 : decode cX0_layAlong 52 = .ok (.iload 5, 2) := by decide +kernel
theorem dX0_layAlong_54 : decode cX0_layAlong 54 = .ok (.iconst 1, 1) := by decide +kernel
theorem dX0_layAlong_55 : decode cX0_layAlong 55 = .ok (.iadd, 1) := by decide +kernel
theorem dX0_layAlong_56 : decode cX0_layAlong 56 = .ok (.iload_n 3, 1) := by decide +kernel
theorem dX0_layAlong_57 : decode cX0_layAlong 57 = .ok (.ifCond .le 10, 3) := by decide +kernel
theorem dX0_layAlong_60 : decode cX0_layAlong 60 = .ok (.iload_n 2, 1) := by decide +kernel
theorem dX0_layAlong_61 : decode cX0_layAlong 61 = .ok (.iload 4, 2) := by decide +kernel
theorem dX0_layAlong_63 : decode cX0_layAlong 63 = .ok (.isub, 1) := by decide +kernel
theorem dX0_layAlong_64 : decode cX0_layAlong 64 = .ok (.goto 4, 3) := by decide +kernel
theorem dX0_layAlong_67 : decode cX0_layAlong 67 = .ok (.iconst (-1), 1) := by decide +kernel
theorem dX0_layAlong_68 : decode cX0_layAlong 68 = .ok (.iastore, 1) := by decide +kernel
theorem dX0_layAlong_69 : decode cX0_layAlong 69 = .ok (.return_, 1) := by decide +kernel
theorem dX0_has_0 : decode cX0_has 0 = .ok (.iload_n 1, 1) := by decide +kernel
theorem dX0_has_1 : decode cX0_has 1 = .ok (.ifCond .lt 15, 3) := by decide +kernel
theorem dX0_has_4 : decode cX0_has 4 = .ok (.iload_n 1, 1) := by decide +kernel
theorem dX0_has_5 : decode cX0_has 5 = .ok (.aload_n 0, 1) := by decide +kernel
theorem dX0_has_6 : decode cX0_has 6 = .ok (.getfield 30, 3) := by decide +kernel
theorem dX0_has_9 : decode cX0_has 9 = .ok (.if_icmp .ge 7, 3) := by decide +kernel
theorem dX0_has_12 : decode cX0_has 12 = .ok (.iconst 1, 1) := by decide +kernel
theorem dX0_has_13 : decode cX0_has 13 = .ok (.goto 4, 3) := by decide +kernel
theorem dX0_has_16 : decode cX0_has 16 = .ok (.iconst 0, 1) := by decide +kernel
theorem dX0_has_17 : decode cX0_has 17 = .ok (.ireturn, 1) := by decide +kernel
theorem dX0_every_0 : decode cX0_every 0 = .ok (.lconst 1, 1) := by decide +kernel
theorem dX0_every_1 : decode cX0_every 1 = .ok (.aload_n 0, 1) := by decide +kernel
theorem dX0_every_2 : decode cX0_every 2 = .ok (.getfield 30, 3) := by decide +kernel
theorem dX0_every_5 : decode cX0_every 5 = .ok (.lshl, 1) := by decide +kernel
theorem dX0_every_6 : decode cX0_every 6 = .ok (.lconst 1, 1) := by decide +kernel
theorem dX0_every_7 : decode cX0_every 7 = .ok (.lsub, 1) := by decide +kernel
theorem dX0_every_8 : decode cX0_every 8 = .ok (.lreturn, 1) := by decide +kernel
set_option maxRecDepth 20000 in
theorem ggX0_isSet_X0_every : GoodIn wsX0_isSet wsX0_every := goodIn_r _ [6, 7, 8, 9, 10, 11, 12, 13, 14] (by decide +kernel) (by decide +kernel)
set_option maxRecDepth 20000 in
theorem gX0_isSet_X0_every : GoodIn wsX0_isSet (wsV RX0 48 RX0 yX0_every wsX0_every) := goodIn_app (goodIn_of _ (by decide +kernel)) ggX0_isSet_X0_every
theorem dX0_isSet_0 : decode cX0_isSet 0 = .ok (.lload_n 1, 1) := by decide +kernel
theorem dX0_isSet_1 : decode cX0_isSet 1 = .ok (.aload_n 0, 1) := by decide +kernel
theorem dX0_isSet_2 : decode cX0_isSet 2 = .ok (.invokevirtual 48, 3) := by decide +kernel
theorem dX0_isSet_5 : decode cX0_isSet 5 = .ok (.ldc2_w 52, 3) := by decide +kernel
theorem dX0_isSet_8 : decode cX0_isSet 8 = .ok (.lxor, 1) := by decide +kernel
theorem dX0_isSet_9 : decode cX0_isSet 9 = .ok (.land, 1) := by decide +kernel
theorem dX0_isSet_10 : decode cX0_isSet 10 = .ok (.lconst 0, 1) := by decide +kernel
theorem dX0_isSet_11 : decode cX0_isSet 11 = .ok (.lcmp, 1) := by decide +kernel
theorem dX0_isSet_12 : decode cX0_isSet 12 = .ok (.ifCond .ne 7, 3) := by decide +kernel
theorem dX0_isSet_15 : decode cX0_isSet 15 = .ok (.iconst 1, 1) := by decide +kernel
theorem dX0_isSet_16 : decode cX0_isSet 16 = .ok (.goto 4, 3) := by decide +kernel
theorem dX0_isSet_19 : decode cX0_isSet 19 = .ok (.iconst 0, 1) := by decide +kernel
theorem dX0_isSet_20 : decode cX0_isSet 20 = .ok (.ireturn, 1) := by decide +kernel
theorem dX0_freeCells_0 : decode cX0_freeCells 0 = .ok (.iconst 0, 1) := by decide +kernel
theorem dX0_freeCells_1 : decode cX0_freeCells 1 = .ok (.istore_n 1, 1) := by decide +kernel
theorem dX0_freeCells_2 : decode cX0_freeCells 2 = .ok (.iconst 0, 1) := by decide +kernel
theorem dX0_freeCells_3 : decode cX0_freeCells 3 = .ok (.istore_n 2, 1) := by decide +kernel
theorem dX0_freeCells_4 : decode cX0_freeCells 4 = .ok (.iload_n 2, 1) := by decide +kernel
theorem dX0_freeCells_5 : decode cX0_freeCells 5 = .ok (.aload_n 0, 1) := by decide +kernel
theorem dX0_freeCells_6 : decode cX0_freeCells 6 = .ok (.getfield 30, 3) := by decide +kernel
theorem dX0_freeCells_9 : decode cX0_freeCells 9 = .ok (.if_icmp .ge 21, 3) := by decide +kernel
theorem dX0_freeCells_12 : decode cX0_freeCells 12 = .ok (.aload_n 0, 1) := by decide +kernel
theorem dX0_freeCells_13 : decode cX0_freeCells 13 = .ok (.getfield 15, 3) := by decide +kernel
theorem dX0_freeCells_16 : decode cX0_freeCells 16 = .ok (.iload_n 2, 1) := by decide +kernel
theorem dX0_freeCells_17 : decode cX0_freeCells 17 = .ok (.iaload, 1) := by decide +kernel
theorem dX0_freeCells_18 : decode cX0_freeCells 18 = .ok (.ifCond .ne 6, 3) := by decide +kernel
theorem dX0_freeCells_21 : decode cX0_freeCells 21 = .ok (.iinc 1 1, 3) := by decide +kernel
theorem dX0_freeCells_24 : decode cX0_freeCells 24 = .ok (.iinc 2 1, 3) := by decide +kernel
theorem dX0_freeCells_27 : decode cX0_freeCells 27 = .ok (.goto (-23), 3) := by decide +kernel
theorem dX0_freeCells_30 : decode cX0_freeCells 30 = .ok (.iload_n 1, 1) := by decide +kernel
theorem dX0_freeCells_31 : decode cX0_freeCells 31 = .ok (.ireturn, 1) := by decide +kernel
theorem dX0_sideTowards_0 : decode cX0_sideTowards 0 = .ok (.iconst 0, 1) := by decide +kernel
theorem dX0_sideTowards_1 : decode cX0_sideTowards 1 = .ok (.istore_n 3, 1) := by decide +kernel
theorem dX0_sideTowards_2 : decode cX0_sideTowards 2 = .ok (.iload_n 3, 1) := by decide +kernel
theorem dX0_sideTowards_3 : decode cX0_sideTowards 3 = .ok (.bipush 6, 2) := by decide +kernel
theorem dX0_sideTowards_5 : decode cX0_sideTowards 5 = .ok (.if_icmp .ge 26, 3) := by decide +kernel
theorem dX0_sideTowards_8 : decode cX0_sideTowards 8 = .ok (.aload_n 0, 1) := by decide +kernel
theorem dX0_sideTowards_9 : decode cX0_sideTowards 9 = .ok (.getfield 27, 3) := by decide +kernel
theorem dX0_sideTowards_12 : decode cX0_sideTowards 12 = .ok (.iload_n 1, 1) := by decide +kernel
theorem dX0_sideTowards_13 : decode cX0_sideTowards 13 = .ok (.bipush 6, 2) := by decide +kernel
theorem dX0_sideTowards_15 : decode cX0_sideTowards 15 = .ok (.imul, 1) := by decide +kernel
theorem dX0_sideTowards_16 : decode cX0_sideTowards 16 = .ok (.iload_n 3, 1) := by decide +kernel
theorem dX0_sideTowards_17 : decode cX0_sideTowards 17 = .ok (.iadd, 1) := by decide +kernel
theorem dX0_sideTowards_18 : decode cX0_sideTowards 18 = .ok (.iaload, 1) := by decide +kernel
theorem dX0_sideTowards_19 : decode cX0_sideTowards 19 = .ok (.iload_n 2, 1) := by decide +kernel
theorem dX0_sideTowards_20 : decode cX0_sideTowards 20 = .ok (.if_icmp .ne 5, 3) := by decide +kernel
theorem dX0_sideTowards_23 : decode cX0_sideTowards 23 = .ok (.iload_n 3, 1) := by decide +kernel
theorem dX0_sideTowards_24 : decode cX0_sideTowards 24 = .ok (.ireturn, 1) := by decide +kernel
theorem dX0_sideTowards_25 : decode cX0_sideTowards 25 = .ok (.iinc 3 1, 3) := by decide +kernel
theorem dX0_sideTowards_28 : decode cX0_sideTowards 28 = .ok (.goto (-26), 3) := by decide +kernel
theorem dX0_sideTowards_31 : decode cX0_sideTowards 31 = .ok (.iconst (-1), 1) := by decide +kernel
theorem dX0_sideTowards_32 : decode cX0_sideTowards 32 = .ok (.ireturn, 1) := by decide +kernel
theorem dX0_seamCost_0 : decode cX0_seamCost 0 = .ok (.iload_n 3, 1) := by decide +kernel
theorem dX0_seamCost_1 : decode cX0_seamCost 1 = .ok (.iconst 1, 1) := by decide +kernel
theorem dX0_seamCost_2 : decode cX0_seamCost 2 = .ok (.ishr, 1) := by decide +kernel
theorem dX0_seamCost_3 : decode cX0_seamCost 3 = .ok (.istore 4, 2) := by decide +kernel
theorem dX0_seamCost_5 : decode cX0_seamCost 5 = .ok (.aload_n 0, 1) := by decide +kernel
theorem dX0_seamCost_6 : decode cX0_seamCost 6 = .ok (.getfield 24, 3) := by decide +kernel
theorem dX0_seamCost_9 : decode cX0_seamCost 9 = .ok (.iload_n 2, 1) := by decide +kernel
theorem dX0_seamCost_10 : decode cX0_seamCost 10 = .ok (.iconst 3, 1) := by decide +kernel
theorem dX0_seamCost_11 : decode cX0_seamCost 11 = .ok (.imul, 1) := by decide +kernel
theorem dX0_seamCost_12 : decode cX0_seamCost 12 = .ok (.iload 4, 2) := by decide +kernel
theorem dX0_seamCost_14 : decode cX0_seamCost 14 = .ok (.iadd, 1) := by decide +kernel
theorem dX0_seamCost_15 : decode cX0_seamCost 15 = .ok (.iaload, 1) := by decide +kernel
theorem dX0_seamCost_16 : decode cX0_seamCost 16 = .ok (.iload_n 3, 1) := by decide +kernel
theorem dX0_seamCost_17 : decode cX0_seamCost 17 = .ok (.iconst 1, 1) := by decide +kernel
theorem dX0_seamCost_18 : decode cX0_seamCost 18 = .ok (.iand, 1) := by decide +kernel
theorem dX0_seamCost_19 : decode cX0_seamCost 19 = .ok (.isub, 1) := by decide +kernel
theorem dX0_seamCost_20 : decode cX0_seamCost 20 = .ok (.istore 5, 2) := by decide +kernel
theorem dX0_seamCost_22 : decode cX0_seamCost 22 = .ok (.aload_n 0, 1) := by decide +kernel
theorem dX0_seamCost_23 : decode cX0_seamCost 23 = .ok (.getfield 21, 3) := by decide +kernel
theorem dX0_seamCost_26 : decode cX0_seamCost 26 = .ok (.iload 4, 2) := by decide +kernel
theorem dX0_seamCost_28 : decode cX0_seamCost 28 = .ok (.iaload, 1) := by decide +kernel
theorem dX0_seamCost_29 : decode cX0_seamCost 29 = .ok (.istore 6, 2) := by decide +kernel
theorem dX0_seamCost_31 : decode cX0_seamCost 31 = .ok (.iload_n 1, 1) := by decide +kernel
theorem dX0_seamCost_32 : decode cX0_seamCost 32 = .ok (.iconst 1, 1) := by decide +kernel
theorem dX0_seamCost_33 : decode cX0_seamCost 33 = .ok (.if_icmp .lt 22, 3) := by decide +kernel
theorem dX0_seamCost_36 : decode cX0_seamCost 36 = .ok (.iload 5, 2) := by decide +kernel
theorem dX0_seamCost_38 : decode cX0_seamCost 38 = .ok (.iconst 1, 1) := by decide +kernel
theorem dX0_seamCost_39 : decode cX0_seamCost 39 = .ok (.iand, 1) := by decide +kernel
theorem dX0_seamCost_40 : decode cX0_seamCost 40 = .ok (.iconst 1, 1) := by decide +kernel
theorem dX0_seamCost_41 : decode cX0_seamCost 41 = .ok (.if_icmp .ne 14, 3) := by decide +kernel
theorem dX0_seamCost_44 : decode cX0_seamCost 44 = .ok (.iload 6, 2) := by decide +kernel
theorem dX0_seamCost_46 : decode cX0_seamCost 46 = .ok (.aload_n 0, 1) := by decide +kernel
theorem dX0_seamCost_47 : decode cX0_seamCost 47 = .ok (.getfield 21, 3) := by decide +kernel
theorem dX0_seamCost_50 : decode cX0_seamCost 50 = .ok (.iconst 4, 1) := by decide +kernel
theorem dX0_seamCost_51 : decode cX0_seamCost 51 = .ok (.iaload, 1) := by decide +kernel
theorem dX0_seamCost_52 : decode cX0_seamCost 52 = .ok (.iadd, 1) := by decide +kernel
theorem dX0_seamCost_53 : decode cX0_seamCost 53 = .ok (.istore 6, 2) := by decide +kernel
theorem dX0_seamCost_55 : decode cX0_seamCost 55 = .ok (.iload_n 1, 1) := by decide +kernel
theorem dX0_seamCost_56 : decode cX0_seamCost 56 = .ok (.iconst 2, 1) := by decide +kernel
theorem dX0_seamCost_57 : decode cX0_seamCost 57 = .ok (.if_icmp .lt 17, 3) := by decide +kernel
theorem dX0_seamCost_60 : decode cX0_seamCost 60 = .ok (.iload 6, 2) := by decide +kernel
theorem dX0_seamCost_62 : decode cX0_seamCost 62 = .ok (.aload_n 0, 1) := by decide +kernel
theorem dX0_seamCost_63 : decode cX0_seamCost 63 = .ok (.getfield 21, 3) := by decide +kernel
theorem dX0_seamCost_66 : decode cX0_seamCost 66 = .ok (.iconst 5, 1) := by decide +kernel
theorem dX0_seamCost_67 : decode cX0_seamCost 67 = .ok (.iaload, 1) := by decide +kernel
theorem dX0_seamCost_68 : decode cX0_seamCost 68 = .ok (.invokestatic 54, 3) := by decide +kernel
theorem dX0_seamCost_71 : decode cX0_seamCost 71 = .ok (.goto 5, 3) := by decide +kernel
theorem dX0_seamCost_74 : decode cX0_seamCost 74 = .ok (.iload 6, 2) := by decide +kernel
theorem dX0_seamCost_76 : decode cX0_seamCost 76 = .ok (.ireturn, 1) := by decide +kernel
theorem dX0_ownCost_0 : decode cX0_ownCost 0 = .ok (.aload_n 0, 1) := by decide +kernel
theorem dX0_ownCost_1 : decode cX0_ownCost 1 = .ok (.getfield 18, 3) := by decide +kernel
theorem dX0_ownCost_4 : decode cX0_ownCost 4 = .ok (.iload_n 1, 1) := by decide +kernel
theorem dX0_ownCost_5 : decode cX0_ownCost 5 = .ok (.iaload, 1) := by decide +kernel
theorem dX0_ownCost_6 : decode cX0_ownCost 6 = .ok (.istore_n 2, 1) := by decide +kernel
theorem dX0_ownCost_7 : decode cX0_ownCost 7 = .ok (.iconst 0, 1) := by decide +kernel
theorem dX0_ownCost_8 : decode cX0_ownCost 8 = .ok (.istore_n 3, 1) := by decide +kernel
theorem dX0_ownCost_9 : decode cX0_ownCost 9 = .ok (.iload_n 3, 1) := by decide +kernel
theorem dX0_ownCost_10 : decode cX0_ownCost 10 = .ok (.bipush 6, 2) := by decide +kernel
theorem dX0_ownCost_12 : decode cX0_ownCost 12 = .ok (.if_icmp .ge 33, 3) := by decide +kernel
theorem dX0_ownCost_15 : decode cX0_ownCost 15 = .ok (.aload_n 0, 1) := by decide +kernel
theorem dX0_ownCost_16 : decode cX0_ownCost 16 = .ok (.getfield 27, 3) := by decide +kernel
theorem dX0_ownCost_19 : decode cX0_ownCost 19 = .ok (.iload_n 1, 1) := by decide +kernel
theorem dX0_ownCost_20 : decode cX0_ownCost 20 = .ok (.bipush 6, 2) := by decide +kernel
theorem dX0_ownCost_22 : decode cX0_ownCost 22 = .ok (.imul, 1) := by decide +kernel
theorem dX0_ownCost_23 : decode cX0_ownCost 23 = .ok (.iload_n 3, 1) := by decide +kernel
theorem dX0_ownCost_24 : decode cX0_ownCost 24 = .ok (.iadd, 1) := by decide +kernel
theorem dX0_ownCost_25 : decode cX0_ownCost 25 = .ok (.iaload, 1) := by decide +kernel
theorem dX0_ownCost_26 : decode cX0_ownCost 26 = .ok (.iconst (-1), 1) := by decide +kernel
theorem dX0_ownCost_27 : decode cX0_ownCost 27 = .ok (.if_icmp .ne 12, 3) := by decide +kernel
theorem dX0_ownCost_30 : decode cX0_ownCost 30 = .ok (.iload_n 2, 1) := by decide +kernel
theorem dX0_ownCost_31 : decode cX0_ownCost 31 = .ok (.aload_n 0, 1) := by decide +kernel
theorem dX0_ownCost_32 : decode cX0_ownCost 32 = .ok (.getfield 21, 3) := by decide +kernel
theorem dX0_ownCost_35 : decode cX0_ownCost 35 = .ok (.iconst 3, 1) := by decide +kernel
theorem dX0_ownCost_36 : decode cX0_ownCost 36 = .ok (.iaload, 1) := by decide +kernel
theorem dX0_ownCost_37 : decode cX0_ownCost 37 = .ok (.iadd, 1) := by decide +kernel
theorem dX0_ownCost_38 : decode cX0_ownCost 38 = .ok (.istore_n 2, 1) := by decide +kernel
theorem dX0_ownCost_39 : decode cX0_ownCost 39 = .ok (.iinc 3 1, 3) := by decide +kernel
theorem dX0_ownCost_42 : decode cX0_ownCost 42 = .ok (.goto (-33), 3) := by decide +kernel
theorem dX0_ownCost_45 : decode cX0_ownCost 45 = .ok (.iload_n 2, 1) := by decide +kernel
theorem dX0_ownCost_46 : decode cX0_ownCost 46 = .ok (.ireturn, 1) := by decide +kernel
set_option maxRecDepth 20000 in
theorem ggX0_seamsGrowth_X0_seamCost : GoodIn wsX0_seamsGrowth wsX0_seamCost := goodIn_r _ [7, 8, 2, 9, 10, 11, 12, 16, 17, 18, 19, 20, 21, 22] (by decide +kernel) (by decide +kernel)
set_option maxRecDepth 20000 in
theorem gX0_seamsGrowth_X0_seamCost : GoodIn wsX0_seamsGrowth (wsV RX0 60 RX0 yX0_seamCost wsX0_seamCost) := goodIn_app (goodIn_of _ (by decide +kernel)) ggX0_seamsGrowth_X0_seamCost
set_option maxRecDepth 20000 in
theorem ggX0_seamsGrowth_X0_holds : GoodIn wsX0_seamsGrowth wsX0_holds := goodIn_r _ [15] (by decide +kernel) (by decide +kernel)
set_option maxRecDepth 20000 in
theorem gX0_seamsGrowth_X0_holds : GoodIn wsX0_seamsGrowth (va_wsS RX0 64 yX0_holds wsX0_holds) := goodIn_app (goodIn_of _ (by decide +kernel)) ggX0_seamsGrowth_X0_holds
theorem dX0_seamsGrowth_0 : decode cX0_seamsGrowth 0 = .ok (.iconst 0, 1) := by decide +kernel
theorem dX0_seamsGrowth_1 : decode cX0_seamsGrowth 1 = .ok (.istore 4, 2) := by decide +kernel
theorem dX0_seamsGrowth_3 : decode cX0_seamsGrowth 3 = .ok (.iconst 0, 1) := by decide +kernel
theorem dX0_seamsGrowth_4 : decode cX0_seamsGrowth 4 = .ok (.istore 5, 2) := by decide +kernel
theorem dX0_seamsGrowth_6 : decode cX0_seamsGrowth 6 = .ok (.iload 5, 2) := by decide +kernel
theorem dX0_seamsGrowth_8 : decode cX0_seamsGrowth 8 = .ok (.bipush 6, 2) := by decide +kernel
theorem dX0_seamsGrowth_10 : decode cX0_seamsGrowth 10 = .ok (.if_icmp .ge 67, 3) := by decide +kernel
theorem dX0_seamsGrowth_13 : decode cX0_seamsGrowth 13 = .ok (.aload_n 0, 1) := by decide +kernel
theorem dX0_seamsGrowth_14 : decode cX0_seamsGrowth 14 = .ok (.getfield 27, 3) := by decide +kernel
theorem dX0_seamsGrowth_17 : decode cX0_seamsGrowth 17 = .ok (.iload_n 3, 1) := by decide +kernel
theorem dX0_seamsGrowth_18 : decode cX0_seamsGrowth 18 = .ok (.bipush 6, 2) := by decide +kernel
theorem dX0_seamsGrowth_20 : decode cX0_seamsGrowth 20 = .ok (.imul, 1) := by decide +kernel
theorem dX0_seamsGrowth_21 : decode cX0_seamsGrowth 21 = .ok (.iload 5, 2) := by decide +kernel
theorem dX0_seamsGrowth_23 : decode cX0_seamsGrowth 23 = .ok (.iadd, 1) := by decide +kernel
theorem dX0_seamsGrowth_24 : decode cX0_seamsGrowth 24 = .ok (.iaload, 1) := by decide +kernel
theorem dX0_seamsGrowth_25 : decode cX0_seamsGrowth 25 = .ok (.istore 6, 2) := by decide +kernel
theorem dX0_seamsGrowth_27 : decode cX0_seamsGrowth 27 = .ok (.iload 6, 2) := by decide +kernel
theorem dX0_seamsGrowth_29 : decode cX0_seamsGrowth 29 = .ok (.iconst (-1), 1) := by decide +kernel
theorem dX0_seamsGrowth_30 : decode cX0_seamsGrowth 30 = .ok (.if_icmp .eq 41, 3) := by decide +kernel
theorem dX0_seamsGrowth_33 : decode cX0_seamsGrowth 33 = .ok (.aload_n 0, 1) := by decide +kernel
theorem dX0_seamsGrowth_34 : decode cX0_seamsGrowth 34 = .ok (.aload_n 0, 1) := by decide +kernel
theorem dX0_seamsGrowth_35 : decode cX0_seamsGrowth 35 = .ok (.getfield 21, 3) := by decide +kernel
theorem dX0_seamsGrowth_38 : decode cX0_seamsGrowth 38 = .ok (.bipush 6, 2) := by decide +kernel
theorem dX0_seamsGrowth_40 : decode cX0_seamsGrowth 40 = .ok (.iaload, 1) := by decide +kernel
theorem dX0_seamsGrowth_41 : decode cX0_seamsGrowth 41 = .ok (.iload_n 3, 1) := by decide +kernel
theorem dX0_seamsGrowth_42 : decode cX0_seamsGrowth 42 = .ok (.iload 5, 2) := by decide +kernel
theorem dX0_seamsGrowth_44 : decode cX0_seamsGrowth 44 = .ok (.invokevirtual 60, 3) := by decide +kernel
theorem dX0_seamsGrowth_47 : decode cX0_seamsGrowth 47 = .ok (.istore 7, 2) := by decide +kernel
theorem dX0_seamsGrowth_49 : decode cX0_seamsGrowth 49 = .ok (.iload 4, 2) := by decide +kernel
theorem dX0_seamsGrowth_51 : decode cX0_seamsGrowth 51 = .ok (.lload_n 1, 1) := by decide +kernel
theorem dX0_seamsGrowth_52 : decode cX0_seamsGrowth 52 = .ok (.iload 6, 2) := by decide +kernel
theorem dX0_seamsGrowth_54 : decode cX0_seamsGrowth 54 = .ok (.invokestatic 64, 3) := by decide +kernel
theorem dX0_seamsGrowth_57 : decode cX0_seamsGrowth 57 = .ok (.ifCond .eq 9, 3) := by decide +kernel
theorem dX0_seamsGrowth_60 : decode cX0_seamsGrowth 60 = .ok (.iload 7, 2) := by decide +kernel
theorem dX0_seamsGrowth_62 : decode cX0_seamsGrowth 62 = .ok (.ineg, 1) := by decide +kernel
theorem dX0_seamsGrowth_63 : decode cX0_seamsGrowth 63 = .ok (.goto 5, 3) := by decide +kernel
theorem dX0_seamsGrowth_66 : decode cX0_seamsGrowth 66 = .ok (.iload 7, 2) := by decide +kernel
theorem dX0_seamsGrowth_68 : decode cX0_seamsGrowth 68 = .ok (.iadd, 1) := by decide +kernel
theorem dX0_seamsGrowth_69 : decode cX0_seamsGrowth 69 = .ok (.istore 4, 2) := by decide +kernel
theorem dX0_seamsGrowth_71 : decode cX0_seamsGrowth 71 = .ok (.iinc 5 1, 3) := by decide +kernel
theorem dX0_seamsGrowth_74 : decode cX0_seamsGrowth 74 = .ok (.goto (-68), 3) := by decide +kernel
theorem dX0_seamsGrowth_77 : decode cX0_seamsGrowth 77 = .ok (.iload 4, 2) := by decide +kernel
theorem dX0_seamsGrowth_79 : decode cX0_seamsGrowth 79 = .ok (.ireturn, 1) := by decide +kernel
set_option maxRecDepth 20000 in
theorem ggX0_skinOf_X0_holds : GoodIn wsX0_skinOf wsX0_holds := goodIn_r _ [5] (by decide +kernel) (by decide +kernel)
set_option maxRecDepth 20000 in
theorem gX0_skinOf_X0_holds : GoodIn wsX0_skinOf (va_wsS RX0 64 yX0_holds wsX0_holds) := goodIn_app (goodIn_of _ (by decide +kernel)) ggX0_skinOf_X0_holds
set_option maxRecDepth 20000 in
theorem ggX0_skinOf_X0_skinOfCell : GoodIn wsX0_skinOf wsX0_skinOfCell := goodIn_r _ [9, 10, 11, 2, 3, 4, 5, 12, 13, 14, 15, 16, 17, 18, 19, 20, 21, 22, 23, 24, 25, 26, 27] (by decide +kernel) (by decide +kernel)
set_option maxRecDepth 20000 in
theorem gX0_skinOf_X0_skinOfCell : GoodIn wsX0_skinOf (wsV RX0 68 RX0 yX0_skinOfCell wsX0_skinOfCell) := goodIn_app (goodIn_of _ (by decide +kernel)) ggX0_skinOf_X0_skinOfCell
theorem dX0_skinOf_0 : decode cX0_skinOf 0 = .ok (.lconst 0, 1) := by decide +kernel
theorem dX0_skinOf_1 : decode cX0_skinOf 1 = .ok (.lstore_n 3, 1) := by decide +kernel
theorem dX0_skinOf_2 : decode cX0_skinOf 2 = .ok (.iconst 0, 1) := by decide +kernel
theorem dX0_skinOf_3 : decode cX0_skinOf 3 = .ok (.istore 5, 2) := by decide +kernel
theorem dX0_skinOf_5 : decode cX0_skinOf 5 = .ok (.iload 5, 2) := by decide +kernel
theorem dX0_skinOf_7 : decode cX0_skinOf 7 = .ok (.aload_n 0, 1) := by decide +kernel
theorem dX0_skinOf_8 : decode cX0_skinOf 8 = .ok (.getfield 30, 3) := by decide +kernel
theorem dX0_skinOf_11 : decode cX0_skinOf 11 = .ok (.if_icmp .ge 29, 3) := by decide +kernel
theorem dX0_skinOf_14 : decode cX0_skinOf 14 = .ok (.lload_n 1, 1) := by decide +kernel
theorem dX0_skinOf_15 : decode cX0_skinOf 15 = .ok (.iload 5, 2) := by decide +kernel
theorem dX0_skinOf_17 : decode cX0_skinOf 17 = .ok (.invokestatic 64, 3) := by decide +kernel
theorem dX0_skinOf_20 : decode cX0_skinOf 20 = .ok (.ifCond .eq 14, 3) := by decide +kernel
theorem dX0_skinOf_23 : decode cX0_skinOf 23 = .ok (.lload_n 3, 1) := by decide +kernel
theorem dX0_skinOf_24 : decode cX0_skinOf 24 = .ok (.aload_n 0, 1) := by decide +kernel
theorem dX0_skinOf_25 : decode cX0_skinOf 25 = .ok (.lload_n 1, 1) := by decide +kernel
theorem dX0_skinOf_26 : decode cX0_skinOf 26 = .ok (.iload 5, 2) := by decide +kernel
theorem dX0_skinOf_28 : decode cX0_skinOf 28 = .ok (.invokevirtual 68, 3) := by decide +kernel
theorem dX0_skinOf_31 : decode cX0_skinOf 31 = .ok (.i2l, 1) := by decide +kernel
theorem dX0_skinOf_32 : decode cX0_skinOf 32 = .ok (.ladd, 1) := by decide +kernel
theorem dX0_skinOf_33 : decode cX0_skinOf 33 = .ok (.lstore_n 3, 1) := by decide +kernel
theorem dX0_skinOf_34 : decode cX0_skinOf 34 = .ok (.iinc 5 1, 3) := by decide +kernel
theorem dX0_skinOf_37 : decode cX0_skinOf 37 = .ok (.goto (-32), 3) := by decide +kernel
theorem dX0_skinOf_40 : decode cX0_skinOf 40 = .ok (.lload_n 3, 1) := by decide +kernel
theorem dX0_skinOf_41 : decode cX0_skinOf 41 = .ok (.lreturn, 1) := by decide +kernel
set_option maxRecDepth 20000 in
theorem ggX0_skinOfCell_X0_holds : GoodIn wsX0_skinOfCell wsX0_holds := goodIn_r _ [6] (by decide +kernel) (by decide +kernel)
set_option maxRecDepth 20000 in
theorem gX0_skinOfCell_X0_holds : GoodIn wsX0_skinOfCell (va_wsS RX0 64 yX0_holds wsX0_holds) := goodIn_app (goodIn_of _ (by decide +kernel)) ggX0_skinOfCell_X0_holds
set_option maxRecDepth 20000 in
theorem ggX0_skinOfCell_X0_seamCost : GoodIn wsX0_skinOfCell wsX0_seamCost := goodIn_r _ [10, 11, 2, 12, 13, 14, 15, 16, 17, 18, 19, 20, 21, 22] (by decide +kernel) (by decide +kernel)
set_option maxRecDepth 20000 in
theorem gX0_skinOfCell_X0_seamCost : GoodIn wsX0_skinOfCell (wsV RX0 60 RX0 yX0_seamCost wsX0_seamCost) := goodIn_app (goodIn_of _ (by decide +kernel)) ggX0_skinOfCell_X0_seamCost
theorem dX0_skinOfCell_0 : decode cX0_skinOfCell 0 = .ok (.iconst 0, 1) := by decide +kernel
theorem dX0_skinOfCell_1 : decode cX0_skinOfCell 1 = .ok (.istore 4, 2) := by decide +kernel
theorem dX0_skinOfCell_3 : decode cX0_skinOfCell 3 = .ok (.iconst 0, 1) := by decide +kernel
theorem dX0_skinOfCell_4 : decode cX0_skinOfCell 4 = .ok (.istore 5, 2) := by decide +kernel
theorem dX0_skinOfCell_6 : decode cX0_skinOfCell 6 = .ok (.iload 5, 2) := by decide +kernel
theorem dX0_skinOfCell_8 : decode cX0_skinOfCell 8 = .ok (.bipush 6, 2) := by decide +kernel
theorem dX0_skinOfCell_10 : decode cX0_skinOfCell 10 = .ok (.if_icmp .ge 71, 3) := by decide +kernel
theorem dX0_skinOfCell_13 : decode cX0_skinOfCell 13 = .ok (.aload_n 0, 1) := by decide +kernel
theorem dX0_skinOfCell_14 : decode cX0_skinOfCell 14 = .ok (.getfield 27, 3) := by decide +kernel
theorem dX0_skinOfCell_17 : decode cX0_skinOfCell 17 = .ok (.iload_n 3, 1) := by decide +kernel
theorem dX0_skinOfCell_18 : decode cX0_skinOfCell 18 = .ok (.bipush 6, 2) := by decide +kernel
theorem dX0_skinOfCell_20 : decode cX0_skinOfCell 20 = .ok (.imul, 1) := by decide +kernel
theorem dX0_skinOfCell_21 : decode cX0_skinOfCell 21 = .ok (.iload 5, 2) := by decide +kernel
theorem dX0_skinOfCell_23 : decode cX0_skinOfCell 23 = .ok (.iadd, 1) := by decide +kernel
theorem dX0_skinOfCell_24 : decode cX0_skinOfCell 24 = .ok (.iaload, 1) := by decide +kernel
theorem dX0_skinOfCell_25 : decode cX0_skinOfCell 25 = .ok (.istore 6, 2) := by decide +kernel
theorem dX0_skinOfCell_27 : decode cX0_skinOfCell 27 = .ok (.iload 6, 2) := by decide +kernel
theorem dX0_skinOfCell_29 : decode cX0_skinOfCell 29 = .ok (.iconst (-1), 1) := by decide +kernel
theorem dX0_skinOfCell_30 : decode cX0_skinOfCell 30 = .ok (.if_icmp .ne 17, 3) := by decide +kernel
theorem dX0_skinOfCell_33 : decode cX0_skinOfCell 33 = .ok (.iload 4, 2) := by decide +kernel
theorem dX0_skinOfCell_35 : decode cX0_skinOfCell 35 = .ok (.aload_n 0, 1) := by decide +kernel
theorem dX0_skinOfCell_36 : decode cX0_skinOfCell 36 = .ok (.getfield 21, 3) := by decide +kernel
theorem dX0_skinOfCell_39 : decode cX0_skinOfCell 39 = .ok (.iconst 3, 1) := by decide +kernel
theorem dX0_skinOfCell_40 : decode cX0_skinOfCell 40 = .ok (.iaload, 1) := by decide +kernel
theorem dX0_skinOfCell_41 : decode cX0_skinOfCell 41 = .ok (.iadd, 1) := by decide +kernel
theorem dX0_skinOfCell_42 : decode cX0_skinOfCell 42 = .ok (.istore 4, 2) := by decide +kernel
theorem dX0_skinOfCell_44 : decode cX0_skinOfCell 44 = .ok (.goto 31, 3) := by decide +kernel
theorem dX0_skinOfCell_47 : decode cX0_skinOfCell 47 = .ok (.lload_n 1, 1) := by decide +kernel
theorem dX0_skinOfCell_48 : decode cX0_skinOfCell 48 = .ok (.iload 6, 2) := by decide +kernel
theorem dX0_skinOfCell_50 : decode cX0_skinOfCell 50 = .ok (.invokestatic 64, 3) := by decide +kernel
theorem dX0_skinOfCell_53 : decode cX0_skinOfCell 53 = .ok (.ifCond .ne 22, 3) := by decide +kernel
theorem dX0_skinOfCell_56 : decode cX0_skinOfCell 56 = .ok (.iload 4, 2) := by decide +kernel
theorem dX0_skinOfCell_58 : decode cX0_skinOfCell 58 = .ok (.aload_n 0, 1) := by decide +kernel
theorem dX0_skinOfCell_59 : decode cX0_skinOfCell 59 = .ok (.aload_n 0, 1) := by decide +kernel
theorem dX0_skinOfCell_60 : decode cX0_skinOfCell 60 = .ok (.getfield 21, 3) := by decide +kernel
theorem dX0_skinOfCell_63 : decode cX0_skinOfCell 63 = .ok (.bipush 6, 2) := by decide +kernel
theorem dX0_skinOfCell_65 : decode cX0_skinOfCell 65 = .ok (.iaload, 1) := by decide +kernel
theorem dX0_skinOfCell_66 : decode cX0_skinOfCell 66 = .ok (.iload_n 3, 1) := by decide +kernel
theorem dX0_skinOfCell_67 : decode cX0_skinOfCell 67 = .ok (.iload 5, 2) := by decide +kernel
theorem dX0_skinOfCell_69 : decode cX0_skinOfCell 69 = .ok (.invokevirtual 60, 3) := by decide +kernel
theorem dX0_skinOfCell_72 : decode cX0_skinOfCell 72 = .ok (.iadd, 1) := by decide +kernel
theorem dX0_skinOfCell_73 : decode cX0_skinOfCell 73 = .ok (.istore 4, 2) := by decide +kernel
theorem dX0_skinOfCell_75 : decode cX0_skinOfCell 75 = .ok (.iinc 5 1, 3) := by decide +kernel
theorem dX0_skinOfCell_78 : decode cX0_skinOfCell 78 = .ok (.goto (-72), 3) := by decide +kernel
theorem dX0_skinOfCell_81 : decode cX0_skinOfCell 81 = .ok (.iload 4, 2) := by decide +kernel
theorem dX0_skinOfCell_83 : decode cX0_skinOfCell 83 = .ok (.ireturn, 1) := by decide +kernel
set_option maxRecDepth 20000 in
theorem ggX0_pricesOf_X0_holds : GoodIn wsX0_pricesOf wsX0_holds := goodIn_r _ [6] (by decide +kernel) (by decide +kernel)
set_option maxRecDepth 20000 in
theorem gX0_pricesOf_X0_holds : GoodIn wsX0_pricesOf (va_wsS RX0 64 yX0_holds wsX0_holds) := goodIn_app (goodIn_of _ (by decide +kernel)) ggX0_pricesOf_X0_holds
theorem dX0_pricesOf_0 : decode cX0_pricesOf 0 = .ok (.lconst 0, 1) := by decide +kernel
theorem dX0_pricesOf_1 : decode cX0_pricesOf 1 = .ok (.lstore_n 3, 1) := by decide +kernel
theorem dX0_pricesOf_2 : decode cX0_pricesOf 2 = .ok (.iconst 0, 1) := by decide +kernel
theorem dX0_pricesOf_3 : decode cX0_pricesOf 3 = .ok (.istore 5, 2) := by decide +kernel
theorem dX0_pricesOf_5 : decode cX0_pricesOf 5 = .ok (.iload 5, 2) := by decide +kernel
theorem dX0_pricesOf_7 : decode cX0_pricesOf 7 = .ok (.aload_n 0, 1) := by decide +kernel
theorem dX0_pricesOf_8 : decode cX0_pricesOf 8 = .ok (.getfield 30, 3) := by decide +kernel
theorem dX0_pricesOf_11 : decode cX0_pricesOf 11 = .ok (.if_icmp .ge 29, 3) := by decide +kernel
theorem dX0_pricesOf_14 : decode cX0_pricesOf 14 = .ok (.lload_n 1, 1) := by decide +kernel
theorem dX0_pricesOf_15 : decode cX0_pricesOf 15 = .ok (.iload 5, 2) := by decide +kernel
theorem dX0_pricesOf_17 : decode cX0_pricesOf 17 = .ok (.invokestatic 64, 3) := by decide +kernel
theorem dX0_pricesOf_20 : decode cX0_pricesOf 20 = .ok (.ifCond .eq 14, 3) := by decide +kernel
theorem dX0_pricesOf_23 : decode cX0_pricesOf 23 = .ok (.lload_n 3, 1) := by decide +kernel
theorem dX0_pricesOf_24 : decode cX0_pricesOf 24 = .ok (.aload_n 0, 1) := by decide +kernel
theorem dX0_pricesOf_25 : decode cX0_pricesOf 25 = .ok (.getfield 18, 3) := by decide +kernel
theorem dX0_pricesOf_28 : decode cX0_pricesOf 28 = .ok (.iload 5, 2) := by decide +kernel
theorem dX0_pricesOf_30 : decode cX0_pricesOf 30 = .ok (.iaload, 1) := by decide +kernel
theorem dX0_pricesOf_31 : decode cX0_pricesOf 31 = .ok (.i2l, 1) := by decide +kernel
theorem dX0_pricesOf_32 : decode cX0_pricesOf 32 = .ok (.ladd, 1) := by decide +kernel
theorem dX0_pricesOf_33 : decode cX0_pricesOf 33 = .ok (.lstore_n 3, 1) := by decide +kernel
theorem dX0_pricesOf_34 : decode cX0_pricesOf 34 = .ok (.iinc 5 1, 3) := by decide +kernel
theorem dX0_pricesOf_37 : decode cX0_pricesOf 37 = .ok (.goto (-32), 3) := by decide +kernel
theorem dX0_pricesOf_40 : decode cX0_pricesOf 40 = .ok (.lload_n 3, 1) := by decide +kernel
theorem dX0_pricesOf_41 : decode cX0_pricesOf 41 = .ok (.lreturn, 1) := by decide +kernel
set_option maxRecDepth 20000 in
theorem ggX0_isRight_X0_holds : GoodIn wsX0_isRight wsX0_holds := goodIn_r _ [6] (by decide +kernel) (by decide +kernel)
set_option maxRecDepth 20000 in
theorem gX0_isRight_X0_holds : GoodIn wsX0_isRight (va_wsS RX0 64 yX0_holds wsX0_holds) := goodIn_app (goodIn_of _ (by decide +kernel)) ggX0_isRight_X0_holds
theorem dX0_isRight_0 : decode cX0_isRight 0 = .ok (.iconst 0, 1) := by decide +kernel
theorem dX0_isRight_1 : decode cX0_isRight 1 = .ok (.istore_n 3, 1) := by decide +kernel
theorem dX0_isRight_2 : decode cX0_isRight 2 = .ok (.iload_n 3, 1) := by decide +kernel
theorem dX0_isRight_3 : decode cX0_isRight 3 = .ok (.aload_n 0, 1) := by decide +kernel
theorem dX0_isRight_4 : decode cX0_isRight 4 = .ok (.getfield 30, 3) := by decide +kernel
theorem dX0_isRight_7 : decode cX0_isRight 7 = .ok (.if_icmp .ge 33, 3) := by decide +kernel
theorem dX0_isRight_10 : decode cX0_isRight 10 = .ok (.aload_n 0, 1) := by decide +kernel
theorem dX0_isRight_11 : decode cX0_isRight 11 = .ok (.getfield 15, 3) := by decide +kernel
theorem dX0_isRight_14 : decode cX0_isRight 14 = .ok (.iload_n 3, 1) := by decide +kernel
theorem dX0_isRight_15 : decode cX0_isRight 15 = .ok (.iaload, 1) := by decide +kernel
theorem dX0_isRight_16 : decode cX0_isRight 16 = .ok (.lload_n 1, 1) := by decide +kernel
theorem dX0_isRight_17 : decode cX0_isRight 17 = .ok (.iload_n 3, 1) := by decide +kernel
theorem dX0_isRight_18 : decode cX0_isRight 18 = .ok (.invokestatic 64, 3) := by decide +kernel
theorem dX0_isRight_21 : decode cX0_isRight 21 = .ok (.ifCond .eq 7, 3) := by decide +kernel
theorem dX0_isRight_24 : decode cX0_isRight 24 = .ok (.iconst 2, 1) := by decide +kernel
theorem dX0_isRight_25 : decode cX0_isRight 25 = .ok (.goto 4, 3) := by decide +kernel
theorem dX0_isRight_28 : decode cX0_isRight 28 = .ok (.iconst 1, 1) := by decide +kernel
theorem dX0_isRight_29 : decode cX0_isRight 29 = .ok (.if_icmp .ne 5, 3) := by decide +kernel
theorem dX0_isRight_32 : decode cX0_isRight 32 = .ok (.iconst 0, 1) := by decide +kernel
theorem dX0_isRight_33 : decode cX0_isRight 33 = .ok (.ireturn, 1) := by decide +kernel
theorem dX0_isRight_34 : decode cX0_isRight 34 = .ok (.iinc 3 1, 3) := by decide +kernel
theorem dX0_isRight_37 : decode cX0_isRight 37 = .ok (.goto (-35), 3) := by decide +kernel
theorem dX0_isRight_40 : decode cX0_isRight 40 = .ok (.iconst 1, 1) := by decide +kernel
theorem dX0_isRight_41 : decode cX0_isRight 41 = .ok (.ireturn, 1) := by decide +kernel
theorem dX0_holds_0 : decode cX0_holds 0 = .ok (.lload_n 0, 1) := by decide +kernel
theorem dX0_holds_1 : decode cX0_holds 1 = .ok (.iload_n 2, 1) := by decide +kernel
theorem dX0_holds_2 : decode cX0_holds 2 = .ok (.lshr, 1) := by decide +kernel
theorem dX0_holds_3 : decode cX0_holds 3 = .ok (.lconst 1, 1) := by decide +kernel
theorem dX0_holds_4 : decode cX0_holds 4 = .ok (.land, 1) := by decide +kernel
theorem dX0_holds_5 : decode cX0_holds 5 = .ok (.lconst 1, 1) := by decide +kernel
theorem dX0_holds_6 : decode cX0_holds 6 = .ok (.lcmp, 1) := by decide +kernel
theorem dX0_holds_7 : decode cX0_holds 7 = .ok (.ifCond .ne 7, 3) := by decide +kernel
theorem dX0_holds_10 : decode cX0_holds 10 = .ok (.iconst 1, 1) := by decide +kernel
theorem dX0_holds_11 : decode cX0_holds 11 = .ok (.goto 4, 3) := by decide +kernel
theorem dX0_holds_14 : decode cX0_holds 14 = .ok (.iconst 0, 1) := by decide +kernel
theorem dX0_holds_15 : decode cX0_holds 15 = .ok (.ireturn, 1) := by decide +kernel
end
section
theorem bk_6 : (Int8.ofInt (6)).toInt32 = (6 : Int32) := by decide
theorem hde_X0_every : yX0_every.cls = RX0 ∧ yX0_every.cls ≠ "java/lang/invoke/MethodHandle" ∧ yX0_every.cls ≠ "java/lang/invoke/VarHandle" ∧ (parseMethodDescriptor yX0_every.desc).map (fun d => d.parameters.length) = some 0 := by decide +kernel
theorem hde_X0_holds : yX0_holds.cls ≠ "java/lang/invoke/MethodHandle" ∧ yX0_holds.cls ≠ "java/lang/invoke/VarHandle" ∧ (parseMethodDescriptor yX0_holds.desc).map (fun d => d.parameters.length) = some 2 := by decide +kernel
theorem hde_X0_seamCost : yX0_seamCost.cls = RX0 ∧ yX0_seamCost.cls ≠ "java/lang/invoke/MethodHandle" ∧ yX0_seamCost.cls ≠ "java/lang/invoke/VarHandle" ∧ (parseMethodDescriptor yX0_seamCost.desc).map (fun d => d.parameters.length) = some 3 := by decide +kernel
theorem hde_X0_skinOfCell : yX0_skinOfCell.cls = RX0 ∧ yX0_skinOfCell.cls ≠ "java/lang/invoke/MethodHandle" ∧ yX0_skinOfCell.cls ≠ "java/lang/invoke/VarHandle" ∧ (parseMethodDescriptor yX0_skinOfCell.desc).map (fun d => d.parameters.length) = some 2 := by decide +kernel
abbrev w1X0_has (ad : Nat → Nat) (cA : Nat → ClassId) (C_size : Int32) (u : Unit) : va_W := [((ad 1), .inr (0, [.ref (ad 2), .ref (ad 3), .ref (ad 4), .ref (ad 5), .ref (ad 6), .ref (ad 7), .int C_size]))]
abbrev wcX0_has (ad : Nat → Nat) (cA : Nat → ClassId) (C_size : Int32) : va_W := [((ad 1), .inr (0, [.ref (ad 2), .ref (ad 3), .ref (ad 4), .ref (ad 5), .ref (ad 6), .ref (ad 7), .int C_size]))]
def rmX0_has : Room := { frames := 0, cells := 0, slots := 0, locals := 0 }
abbrev atX0_has_0 (X : gX) (ad : Nat → Nat) (cA : Nat → ClassId) (p1 : Int32) (C_size : Int32) : Prop := gW X 0 0 [((ad 1), .inr (0, [.ref (ad 2), .ref (ad 3), .ref (ad 4), .ref (ad 5), .ref (ad 6), .ref (ad 7), .int C_size]))] 2 [(0, .ref (ad 1)), (1, .int p1)] [] 0
theorem giX0_has_X0 : ∀ w ∈ u_ws RX0 TX0 7, w ∈ wsX0_has := by decide +kernel
theorem gfX0_has_30 : gF wsX0_has RX0 30 0 6 RX0 TX0 7 := ⟨giX0_has_X0, by decide +kernel, rfl, by decide⟩
set_option maxHeartbeats 4000000 in
set_option maxRecDepth 100000 in
theorem sgX0_has_0 {X : gX} {ad : Nat → Nat} {cA : Nat → ClassId} {post : Int32 → (Unit) → Prop} {p1 : Int32} {C_size : Int32} (C : gC X (gT cA) cX0_has 2 RX0 wsX0_has rmX0_has) (E : gEi X (some .boolean) (gT cA) 0 0 post (w1X0_has ad cA C_size)) (h : (p1 < 0 → post (0 : Int32) ()) ∧ (¬ p1 < 0 → (C_size ≤ p1 → post (0 : Int32) ()) ∧ (¬ C_size ≤ p1 → post (1 : Int32) ()))) : atX0_has_0 X ad cA p1 C_size := by
  refine g_iload_n C dX0_has_0 rfl 1 rfl ?_
  refine g_if_lt (tgt := 16) C dX0_has_1 (by decide) (fun c_1 => ?_) (fun c_1 => ?_)
  · replace h := h.1 c_1
    refine g_iconst C dX0_has_16 ik_0 ?_
    exact g_zret C E rfl () h rfl dX0_has_17
  · replace h := h.2 c_1
    refine g_iload_n C dX0_has_4 rfl 1 rfl ?_
    refine g_aload_n C dX0_has_5 rfl 0 rfl ?_
    refine g_get C gfX0_has_30 0 rfl rfl dX0_has_6 ?_
    refine g_icmp_ge (tgt := 16) C dX0_has_9 (by decide) (fun c_2 => ?_) (fun c_2 => ?_)
    · replace h := h.1 c_2
      refine g_iconst C dX0_has_16 ik_0 ?_
      exact g_zret C E rfl () h rfl dX0_has_17
    · replace h := h.2 c_2
      refine g_iconst C dX0_has_12 ik_1 ?_
      refine g_goto (tgt := 17) C dX0_has_13 (by decide) ?_
      exact g_zret C E rfl () h rfl dX0_has_17
def fnX0_has (p1 : Int32) (C_size : Int32) : Bool := (if p1 < 0 then false else (if C_size ≤ p1 then false else true))
set_option maxHeartbeats 4000000 in
set_option maxRecDepth 100000 in
theorem c_X0_has (ad : Nat → Nat) (cA : Nat → ClassId) (p1 : Int32) (C_size : Int32) : ∀ (l : Launch) (D : va_G), gMi (S := Unit) l yX0_has wsX0_has rmX0_has D (gT cA) 0 0 [.ref (ad 1), .int p1] (wcX0_has ad cA C_size) (fun r _ => r = bI (fnX0_has p1 C_size)) (w1X0_has ad cA C_size) := by
  intro l D
  refine g_enteri (cc := cX0_has) (nL := 2) (ret := (some .boolean)) (by decide) rfl (Nat.le_of_ble_eq_true rfl) rfl (fun X C E => sgX0_has_0 C E ?_)
  refine ⟨fun c_3 => ?_, fun c_3 => ?_⟩
  · exact (by unfold fnX0_has; first | rfl | (simp only [if_pos c_3]; done) | (simp only [if_pos c_3]; rfl))
  · refine ⟨fun c_4 => ?_, fun c_4 => ?_⟩
    · exact (by unfold fnX0_has; first | rfl | (simp only [if_neg c_3, if_pos c_4]; done) | (simp only [if_neg c_3, if_pos c_4]; rfl))
    · exact (by unfold fnX0_has; first | rfl | (simp only [if_neg c_3, if_neg c_4]; done) | (simp only [if_neg c_3, if_neg c_4]; rfl))

abbrev w1X0_every (ad : Nat → Nat) (cA : Nat → ClassId) (C_size : Int32) (u : Unit) : va_W := [((ad 1), .inr (0, [.ref (ad 2), .ref (ad 3), .ref (ad 4), .ref (ad 5), .ref (ad 6), .ref (ad 7), .int C_size]))]
abbrev wcX0_every (ad : Nat → Nat) (cA : Nat → ClassId) (C_size : Int32) : va_W := [((ad 1), .inr (0, [.ref (ad 2), .ref (ad 3), .ref (ad 4), .ref (ad 5), .ref (ad 6), .ref (ad 7), .int C_size]))]
def rmX0_every : Room := { frames := 0, cells := 0, slots := 0, locals := 0 }
abbrev atX0_every_0 (X : gX) (ad : Nat → Nat) (cA : Nat → ClassId) (C_size : Int32) : Prop := gW X 0 0 [((ad 1), .inr (0, [.ref (ad 2), .ref (ad 3), .ref (ad 4), .ref (ad 5), .ref (ad 6), .ref (ad 7), .int C_size]))] 1 [(0, .ref (ad 1))] [] 0
theorem giX0_every_X0 : ∀ w ∈ u_ws RX0 TX0 7, w ∈ wsX0_every := by decide +kernel
theorem gfX0_every_30 : gF wsX0_every RX0 30 0 6 RX0 TX0 7 := ⟨giX0_every_X0, by decide +kernel, rfl, by decide⟩
set_option maxHeartbeats 4000000 in
set_option maxRecDepth 100000 in
theorem sgX0_every_0 {X : gX} {ad : Nat → Nat} {cA : Nat → ClassId} {post : Int64 → (Unit) → Prop} {C_size : Int32} (C : gC X (gT cA) cX0_every 1 RX0 wsX0_every rmX0_every) (E : gEl X (some .long) (gT cA) 0 0 post (w1X0_every ad cA C_size)) (h : post (((1 : Int64) <<< (C_size.toInt64 &&& 63)) - (1 : Int64)) ()) : atX0_every_0 X ad cA C_size := by
  refine g_lconst C dX0_every_0 lk_1 ?_
  refine g_aload_n C dX0_every_1 rfl 0 rfl ?_
  refine g_get C gfX0_every_30 0 rfl rfl dX0_every_2 ?_
  refine g_lshl C dX0_every_5 ?_
  refine g_lconst C dX0_every_6 lk_1 ?_
  refine g_lsub C dX0_every_7 ?_
  exact g_lret C E () h rfl dX0_every_8
def fnX0_every (C_size : Int32) : Int64 := (((1 : Int64) <<< (C_size.toInt64 &&& 63)) - (1 : Int64))
set_option maxHeartbeats 4000000 in
set_option maxRecDepth 100000 in
theorem c_X0_every (ad : Nat → Nat) (cA : Nat → ClassId) (C_size : Int32) : ∀ (l : Launch) (D : va_G), gMl (S := Unit) l yX0_every wsX0_every rmX0_every D (gT cA) 0 0 [.ref (ad 1)] (wcX0_every ad cA C_size) (fun r _ => r = fnX0_every C_size) (w1X0_every ad cA C_size) := by
  intro l D
  refine g_enterl (cc := cX0_every) (nL := 1) (ret := (some .long)) (by decide) rfl (Nat.le_of_ble_eq_true rfl) rfl (fun X C E => sgX0_every_0 C E ?_)
  exact (by unfold fnX0_every; first | rfl | (simp only []; done) | (simp only []; rfl))

abbrev w1X0_holds (ad : Nat → Nat) (cA : Nat → ClassId) (u : Unit) : va_W := []
abbrev wcX0_holds (ad : Nat → Nat) (cA : Nat → ClassId) : va_W := []
def rmX0_holds : Room := { frames := 0, cells := 0, slots := 0, locals := 0 }
abbrev atX0_holds_0 (X : gX) (ad : Nat → Nat) (cA : Nat → ClassId) (p1 : Int64) (p2 : Int32) : Prop := gW X 0 0 [] 3 [(0, .long p1), (2, .int p2)] [] 0
set_option maxHeartbeats 4000000 in
set_option maxRecDepth 100000 in
theorem sgX0_holds_0 {X : gX} {ad : Nat → Nat} {cA : Nat → ClassId} {post : Int32 → (Unit) → Prop} {p1 : Int64} {p2 : Int32} (C : gC X (gT cA) cX0_holds 3 RX0 wsX0_holds rmX0_holds) (E : gEi X (some .boolean) (gT cA) 0 0 post (w1X0_holds ad cA)) (h : (¬ ((p1 >>> (p2.toInt64 &&& 63)) &&& (1 : Int64)) = (1 : Int64) → post (0 : Int32) ()) ∧ (((p1 >>> (p2.toInt64 &&& 63)) &&& (1 : Int64)) = (1 : Int64) → post (1 : Int32) ())) : atX0_holds_0 X ad cA p1 p2 := by
  refine g_lload_n C dX0_holds_0 rfl 0 rfl ?_
  refine g_iload_n C dX0_holds_1 rfl 1 rfl ?_
  refine g_lshr C dX0_holds_2 ?_
  refine g_lconst C dX0_holds_3 lk_1 ?_
  refine g_land C dX0_holds_4 ?_
  refine g_lconst C dX0_holds_5 lk_1 ?_
  refine g_lcmp_ne (tgt := 14) C dX0_holds_6 dX0_holds_7 rfl (by decide) (fun c_1 => ?_) (fun c_1 => ?_)
  · replace h := h.1 c_1
    refine g_iconst C dX0_holds_14 ik_0 ?_
    exact g_zret C E rfl () h rfl dX0_holds_15
  · replace h := h.2 c_1
    refine g_iconst C dX0_holds_10 ik_1 ?_
    refine g_goto (tgt := 15) C dX0_holds_11 (by decide) ?_
    exact g_zret C E rfl () h rfl dX0_holds_15
def fnX0_holds (p1 : Int64) (p2 : Int32) : Bool := (if ((p1 >>> (p2.toInt64 &&& 63)) &&& (1 : Int64)) = (1 : Int64) then true else false)
set_option maxHeartbeats 4000000 in
set_option maxRecDepth 100000 in
theorem c_X0_holds (ad : Nat → Nat) (cA : Nat → ClassId) (p1 : Int64) (p2 : Int32) : ∀ (l : Launch) (D : va_G), gMi (S := Unit) l yX0_holds wsX0_holds rmX0_holds D (gT cA) 0 0 [.long p1, .int p2] (wcX0_holds ad cA) (fun r _ => r = bI (fnX0_holds p1 p2)) (w1X0_holds ad cA) := by
  intro l D
  refine g_enteri (cc := cX0_holds) (nL := 3) (ret := (some .boolean)) (by decide) rfl (Nat.le_of_ble_eq_true rfl) rfl (fun X C E => sgX0_holds_0 C E ?_)
  refine ⟨fun c_2 => ?_, fun c_2 => ?_⟩
  · exact (by unfold fnX0_holds; first | rfl | (simp only [if_neg c_2]; done) | (simp only [if_neg c_2]; rfl))
  · exact (by unfold fnX0_holds; first | rfl | (simp only [if_pos c_2]; done) | (simp only [if_pos c_2]; rfl))

abbrev w1X0_isSet (ad : Nat → Nat) (cA : Nat → ClassId) (C_size : Int32) (u : Unit) : va_W := [((ad 1), .inr (0, [.ref (ad 2), .ref (ad 3), .ref (ad 4), .ref (ad 5), .ref (ad 6), .ref (ad 7), .int C_size]))]
abbrev wcX0_isSet (ad : Nat → Nat) (cA : Nat → ClassId) (C_size : Int32) : va_W := [((ad 1), .inr (0, [.ref (ad 2), .ref (ad 3), .ref (ad 4), .ref (ad 5), .ref (ad 6), .ref (ad 7), .int C_size]))]
def rmX0_isSet : Room := { frames := 1, cells := 0, slots := 0, locals := 20 }
abbrev atX0_isSet_0 (X : gX) (ad : Nat → Nat) (cA : Nat → ClassId) (p1 : Int64) (C_size : Int32) : Prop := gW X 0 0 [((ad 1), .inr (0, [.ref (ad 2), .ref (ad 3), .ref (ad 4), .ref (ad 5), .ref (ad 6), .ref (ad 7), .int C_size]))] 3 [(0, .ref (ad 1)), (1, .long p1)] [] 0
theorem cnX0_isSet_52 : Cond.constantLong RX0 52 (-1) ∈ wsX0_isSet := by decide +kernel
set_option maxHeartbeats 4000000 in
set_option maxRecDepth 100000 in
theorem sgX0_isSet_0 {X : gX} {ad : Nat → Nat} {cA : Nat → ClassId} {post : Int32 → (Unit) → Prop} {p1 : Int64} {C_size : Int32} (C : gC X (gT cA) cX0_isSet 3 RX0 wsX0_isSet rmX0_isSet) (E : gEi X (some .boolean) (gT cA) 0 0 post (w1X0_isSet ad cA C_size)) (h : (¬ (p1 &&& ((fnX0_every C_size) ^^^ (-1 : Int64))) = (0 : Int64) → post (0 : Int32) ()) ∧ ((p1 &&& ((fnX0_every C_size) ^^^ (-1 : Int64))) = (0 : Int64) → post (1 : Int32) ())) : atX0_isSet_0 X ad cA p1 C_size := by
  refine g_lload_n C dX0_isSet_0 rfl 1 rfl ?_
  refine g_aload_n C dX0_isSet_1 rfl 0 rfl ?_
  refine g_callVl (wr := []) C (c_X0_every ad cA C_size) gX0_isSet_X0_every rfl hde_X0_every ⟨rfl, rfl⟩ (by decide) (by decide) [0] [] [0] rfl rfl rfl rfl (by decide) rfl (ws2 := fun u => [((ad 1), .inr (0, [.ref (ad 2), .ref (ad 3), .ref (ad 4), .ref (ad 5), .ref (ad 6), .ref (ad 7), .int C_size]))]) (fun _ => rfl) 0 0 rfl rfl rfl (rest := [.long p1]) rfl (Nat.le_of_ble_eq_true rfl) dX0_isSet_2 (fun r_1 u_1 hp_1 => ?_)
  subst hp_1
  change gW X 0 0 [((ad 1), .inr (0, [.ref (ad 2), .ref (ad 3), .ref (ad 4), .ref (ad 5), .ref (ad 6), .ref (ad 7), .int C_size]))] 3 [(0, .ref (ad 1)), (1, .long p1)] [.long (fnX0_every C_size), .long p1] 5
  refine g_ldc2_w C cnX0_isSet_52 dX0_isSet_5 ?_
  refine g_lxor C dX0_isSet_8 ?_
  refine g_land C dX0_isSet_9 ?_
  refine g_lconst C dX0_isSet_10 lk_0 ?_
  refine g_lcmp_ne (tgt := 19) C dX0_isSet_11 dX0_isSet_12 rfl (by decide) (fun c_2 => ?_) (fun c_2 => ?_)
  · replace h := h.1 c_2
    refine g_iconst C dX0_isSet_19 ik_0 ?_
    exact g_zret C E rfl () h rfl dX0_isSet_20
  · replace h := h.2 c_2
    refine g_iconst C dX0_isSet_15 ik_1 ?_
    refine g_goto (tgt := 20) C dX0_isSet_16 (by decide) ?_
    exact g_zret C E rfl () h rfl dX0_isSet_20
def fnX0_isSet (p1 : Int64) (C_size : Int32) : Bool := (if (p1 &&& ((fnX0_every C_size) ^^^ (-1 : Int64))) = (0 : Int64) then true else false)
set_option maxHeartbeats 4000000 in
set_option maxRecDepth 100000 in
theorem c_X0_isSet (ad : Nat → Nat) (cA : Nat → ClassId) (p1 : Int64) (C_size : Int32) : ∀ (l : Launch) (D : va_G), gMi (S := Unit) l yX0_isSet wsX0_isSet rmX0_isSet D (gT cA) 0 0 [.ref (ad 1), .long p1] (wcX0_isSet ad cA C_size) (fun r _ => r = bI (fnX0_isSet p1 C_size)) (w1X0_isSet ad cA C_size) := by
  intro l D
  refine g_enteri (cc := cX0_isSet) (nL := 3) (ret := (some .boolean)) (by decide) rfl (Nat.le_of_ble_eq_true rfl) rfl (fun X C E => sgX0_isSet_0 C E ?_)
  refine ⟨fun c_4 => ?_, fun c_4 => ?_⟩
  · exact (by unfold fnX0_isSet; first | rfl | (simp only [if_neg c_4]; done) | (simp only [if_neg c_4]; rfl))
  · exact (by unfold fnX0_isSet; first | rfl | (simp only [if_pos c_4]; done) | (simp only [if_pos c_4]; rfl))

abbrev w1X0_seamCost (ad : Nat → Nat) (cA : Nat → ClassId) (C_size : Int32) (C_rules : Nat → Int32) (C_places : Nat → Int32) (u : Unit) : va_W := [((ad 1), .inr (0, [.ref (ad 2), .ref (ad 3), .ref (ad 4), .ref (ad 5), .ref (ad 6), .ref (ad 7), .int C_size])), ((ad 5), .inl (cA 0, 7, .inl C_rules)), ((ad 6), .inl (cA 0, 108, .inl C_places))]
abbrev wcX0_seamCost (ad : Nat → Nat) (cA : Nat → ClassId) (C_size : Int32) (C_rules : Nat → Int32) (C_places : Nat → Int32) : va_W := [((ad 1), .inr (0, [.ref (ad 2), .ref (ad 3), .ref (ad 4), .ref (ad 5), .ref (ad 6), .ref (ad 7), .int C_size])), ((ad 5), .inl (cA 0, 7, .inl C_rules)), ((ad 6), .inl (cA 0, 108, .inl C_places))]
def rmX0_seamCost : Room := { frames := 1, cells := 0, slots := 0, locals := 13 }
abbrev atX0_seamCost_0 (X : gX) (ad : Nat → Nat) (cA : Nat → ClassId) (p1 : Int32) (p2 : Int32) (p3 : Int32) (C_size : Int32) (C_rules : Nat → Int32) (C_places : Nat → Int32) : Prop := gW X 0 0 [((ad 1), .inr (0, [.ref (ad 2), .ref (ad 3), .ref (ad 4), .ref (ad 5), .ref (ad 6), .ref (ad 7), .int C_size])), ((ad 5), .inl (cA 0, 7, .inl C_rules)), ((ad 6), .inl (cA 0, 108, .inl C_places))] 7 [(0, .ref (ad 1)), (1, .int p1), (2, .int p2), (3, .int p3)] [] 0
theorem mmX0_seamCost_54a : Cond.methodLink RX0 54 Lib.Math.min.name ∈ wsX0_seamCost := by decide +kernel
theorem mmX0_seamCost_54b : Cond.static Lib.Math.min.name ∈ wsX0_seamCost := by decide +kernel
theorem mmX0_seamCost_54c : Cond.initialized "java/lang/Math" ∈ wsX0_seamCost := by decide +kernel
theorem mmX0_seamCost_54d : Cond.code Lib.Math.min.name Lib.Math.min.code 2 (some .int) ∈ wsX0_seamCost := by decide +kernel
theorem giX0_seamCost_X0 : ∀ w ∈ u_ws RX0 TX0 7, w ∈ wsX0_seamCost := by decide +kernel
theorem gfX0_seamCost_24 : gF wsX0_seamCost RX0 24 0 4 RX0 TX0 7 := ⟨giX0_seamCost_X0, by decide +kernel, rfl, by decide⟩
theorem gfX0_seamCost_21 : gF wsX0_seamCost RX0 21 0 3 RX0 TX0 7 := ⟨giX0_seamCost_X0, by decide +kernel, rfl, by decide⟩
set_option maxHeartbeats 4000000 in
set_option maxRecDepth 100000 in
theorem sgX0_seamCost_0 {X : gX} {ad : Nat → Nat} {cA : Nat → ClassId} {post : Int32 → (Unit) → Prop} {p1 : Int32} {p2 : Int32} {p3 : Int32} {C_size : Int32} {C_rules : Nat → Int32} {C_places : Nat → Int32} (C : gC X (gT cA) cX0_seamCost 7 RX0 wsX0_seamCost rmX0_seamCost) (E : gEi X (some .int) (gT cA) 0 0 post (w1X0_seamCost ad cA C_size C_rules C_places)) (h : vp_in ((p2 * (3 : Int32)) + (p3 >>> ((1 : Int32) &&& 31))) 108 ∧ vp_in (p3 >>> ((1 : Int32) &&& 31)) 7 ∧ ((p1 < (1 : Int32) → True) ∧ (¬ p1 < (1 : Int32) → (¬ (((C_places ((p2 * (3 : Int32)) + (p3 >>> ((1 : Int32) &&& 31))).toNatClampNeg) - (p3 &&& (1 : Int32))) &&& (1 : Int32)) = (1 : Int32) → True) ∧ ((((C_places ((p2 * (3 : Int32)) + (p3 >>> ((1 : Int32) &&& 31))).toNatClampNeg) - (p3 &&& (1 : Int32))) &&& (1 : Int32)) = (1 : Int32) → vp_in (4 : Int32) 7))) ∧ (p1 < (2 : Int32) → post (if p1 < (1 : Int32) then (C_rules (p3 >>> ((1 : Int32) &&& 31)).toNatClampNeg) else (if (((C_places ((p2 * (3 : Int32)) + (p3 >>> ((1 : Int32) &&& 31))).toNatClampNeg) - (p3 &&& (1 : Int32))) &&& (1 : Int32)) = (1 : Int32) then ((C_rules (p3 >>> ((1 : Int32) &&& 31)).toNatClampNeg) + (C_rules (4 : Int32).toNatClampNeg)) else (C_rules (p3 >>> ((1 : Int32) &&& 31)).toNatClampNeg))) ()) ∧ (¬ p1 < (2 : Int32) → vp_in (5 : Int32) 7 ∧ post (if (C_rules (5 : Int32).toNatClampNeg) < (if p1 < (1 : Int32) then (C_rules (p3 >>> ((1 : Int32) &&& 31)).toNatClampNeg) else (if (((C_places ((p2 * (3 : Int32)) + (p3 >>> ((1 : Int32) &&& 31))).toNatClampNeg) - (p3 &&& (1 : Int32))) &&& (1 : Int32)) = (1 : Int32) then ((C_rules (p3 >>> ((1 : Int32) &&& 31)).toNatClampNeg) + (C_rules (4 : Int32).toNatClampNeg)) else (C_rules (p3 >>> ((1 : Int32) &&& 31)).toNatClampNeg))) then (C_rules (5 : Int32).toNatClampNeg) else (if p1 < (1 : Int32) then (C_rules (p3 >>> ((1 : Int32) &&& 31)).toNatClampNeg) else (if (((C_places ((p2 * (3 : Int32)) + (p3 >>> ((1 : Int32) &&& 31))).toNatClampNeg) - (p3 &&& (1 : Int32))) &&& (1 : Int32)) = (1 : Int32) then ((C_rules (p3 >>> ((1 : Int32) &&& 31)).toNatClampNeg) + (C_rules (4 : Int32).toNatClampNeg)) else (C_rules (p3 >>> ((1 : Int32) &&& 31)).toNatClampNeg)))) ())) : atX0_seamCost_0 X ad cA p1 p2 p3 C_size C_rules C_places := by
  refine g_iload_n C dX0_seamCost_0 rfl 3 rfl ?_
  refine g_iconst C dX0_seamCost_1 ik_1 ?_
  refine g_ishr C dX0_seamCost_2 ?_
  refine g_istore (lv2 := [(0, .ref (ad 1)), (1, .int p1), (2, .int p2), (3, .int p3), (4, .int (p3 >>> ((1 : Int32) &&& 31)))]) C dX0_seamCost_3 (by decide) [1, 2, 3, 4, 0] rfl ?_
  refine g_aload_n C dX0_seamCost_5 rfl 0 rfl ?_
  refine g_get C gfX0_seamCost_24 0 rfl rfl dX0_seamCost_6 ?_
  refine g_iload_n C dX0_seamCost_9 rfl 2 rfl ?_
  refine g_iconst C dX0_seamCost_10 ik_3 ?_
  refine g_imul C dX0_seamCost_11 ?_
  refine g_iload C dX0_seamCost_12 4 rfl ?_
  refine g_iadd C dX0_seamCost_14 ?_
  obtain ⟨hi_1, h⟩ := h
  refine g_iald C 2 0 rfl rfl hi_1 dX0_seamCost_15 ?_
  refine g_iload_n C dX0_seamCost_16 rfl 3 rfl ?_
  refine g_iconst C dX0_seamCost_17 ik_1 ?_
  refine g_iand C dX0_seamCost_18 ?_
  refine g_isub C dX0_seamCost_19 ?_
  refine g_istore (lv2 := [(0, .ref (ad 1)), (1, .int p1), (2, .int p2), (3, .int p3), (4, .int (p3 >>> ((1 : Int32) &&& 31))), (5, .int ((C_places ((p2 * (3 : Int32)) + (p3 >>> ((1 : Int32) &&& 31))).toNatClampNeg) - (p3 &&& (1 : Int32))))]) C dX0_seamCost_20 (by decide) [1, 2, 3, 4, 5, 0] rfl ?_
  refine g_aload_n C dX0_seamCost_22 rfl 0 rfl ?_
  refine g_get C gfX0_seamCost_21 0 rfl rfl dX0_seamCost_23 ?_
  refine g_iload C dX0_seamCost_26 4 rfl ?_
  obtain ⟨hi_2, h⟩ := h
  refine g_iald C 1 0 rfl rfl hi_2 dX0_seamCost_28 ?_
  refine g_istore (lv2 := [(0, .ref (ad 1)), (1, .int p1), (2, .int p2), (3, .int p3), (4, .int (p3 >>> ((1 : Int32) &&& 31))), (5, .int ((C_places ((p2 * (3 : Int32)) + (p3 >>> ((1 : Int32) &&& 31))).toNatClampNeg) - (p3 &&& (1 : Int32)))), (6, .int (C_rules (p3 >>> ((1 : Int32) &&& 31)).toNatClampNeg))]) C dX0_seamCost_29 (by decide) [1, 2, 3, 4, 5, 6, 0] rfl ?_
  refine g_iload_n C dX0_seamCost_31 rfl 1 rfl ?_
  refine g_iconst C dX0_seamCost_32 ik_1 ?_
  obtain ⟨hr_55, h⟩ := h
  have key : gW X 0 0 [((ad 1), .inr (0, [.ref (ad 2), .ref (ad 3), .ref (ad 4), .ref (ad 5), .ref (ad 6), .ref (ad 7), .int C_size])), ((ad 5), .inl (cA 0, 7, .inl C_rules)), ((ad 6), .inl (cA 0, 108, .inl C_places))] 7 [(0, .ref (ad 1)), (1, .int p1), (2, .int p2), (3, .int p3), (4, .int (p3 >>> ((1 : Int32) &&& 31))), (5, .int ((C_places ((p2 * (3 : Int32)) + (p3 >>> ((1 : Int32) &&& 31))).toNatClampNeg) - (p3 &&& (1 : Int32)))), (6, .int (if p1 < (1 : Int32) then (C_rules (p3 >>> ((1 : Int32) &&& 31)).toNatClampNeg) else (if (((C_places ((p2 * (3 : Int32)) + (p3 >>> ((1 : Int32) &&& 31))).toNatClampNeg) - (p3 &&& (1 : Int32))) &&& (1 : Int32)) = (1 : Int32) then ((C_rules (p3 >>> ((1 : Int32) &&& 31)).toNatClampNeg) + (C_rules (4 : Int32).toNatClampNeg)) else (C_rules (p3 >>> ((1 : Int32) &&& 31)).toNatClampNeg))))] [] 55 := by
    refine g_iload_n C dX0_seamCost_55 rfl 1 rfl ?_
    refine g_iconst C dX0_seamCost_56 ik_2 ?_
    refine g_icmp_lt (tgt := 74) C dX0_seamCost_57 (by decide) (fun c_6 => ?_) (fun c_6 => ?_)
    · replace h := h.1 c_6
      refine g_iload C dX0_seamCost_74 6 rfl ?_
      exact g_iret C E () h rfl dX0_seamCost_76
    · replace h := h.2 c_6
      refine g_iload C dX0_seamCost_60 6 rfl ?_
      refine g_aload_n C dX0_seamCost_62 rfl 0 rfl ?_
      refine g_get C gfX0_seamCost_21 0 rfl rfl dX0_seamCost_63 ?_
      refine g_iconst C dX0_seamCost_66 ik_5 ?_
      obtain ⟨hi_7, h⟩ := h
      refine g_iald C 1 0 rfl rfl hi_7 dX0_seamCost_67 ?_
      refine g_mmin C mmX0_seamCost_54a mmX0_seamCost_54b mmX0_seamCost_54c mmX0_seamCost_54d (by decide) (Nat.le_of_ble_eq_true rfl) (by decide) (by decide) dX0_seamCost_68 ?_
      refine g_goto (tgt := 76) C dX0_seamCost_71 (by decide) ?_
      exact g_iret C E () h rfl dX0_seamCost_76
  replace h := hr_55
  refine g_icmp_lt (tgt := 55) C dX0_seamCost_33 (by decide) (fun c_3 => ?_) (fun c_3 => ?_)
  · replace h := h.1 c_3
    exact g_leaf (by simp only [if_pos c_3] at key; first | exact key | (simp only [if_pos c_3]; exact key) | exact absurd rfl c_3)
  · replace h := h.2 c_3
    refine g_iload C dX0_seamCost_36 5 rfl ?_
    refine g_iconst C dX0_seamCost_38 ik_1 ?_
    refine g_iand C dX0_seamCost_39 ?_
    refine g_iconst C dX0_seamCost_40 ik_1 ?_
    have hr_55 := h
    have key : gW X 0 0 [((ad 1), .inr (0, [.ref (ad 2), .ref (ad 3), .ref (ad 4), .ref (ad 5), .ref (ad 6), .ref (ad 7), .int C_size])), ((ad 5), .inl (cA 0, 7, .inl C_rules)), ((ad 6), .inl (cA 0, 108, .inl C_places))] 7 [(0, .ref (ad 1)), (1, .int p1), (2, .int p2), (3, .int p3), (4, .int (p3 >>> ((1 : Int32) &&& 31))), (5, .int ((C_places ((p2 * (3 : Int32)) + (p3 >>> ((1 : Int32) &&& 31))).toNatClampNeg) - (p3 &&& (1 : Int32)))), (6, .int (if (((C_places ((p2 * (3 : Int32)) + (p3 >>> ((1 : Int32) &&& 31))).toNatClampNeg) - (p3 &&& (1 : Int32))) &&& (1 : Int32)) = (1 : Int32) then ((C_rules (p3 >>> ((1 : Int32) &&& 31)).toNatClampNeg) + (C_rules (4 : Int32).toNatClampNeg)) else (C_rules (p3 >>> ((1 : Int32) &&& 31)).toNatClampNeg)))] [] 55 := by
      exact g_leaf (by simp only [if_neg c_3] at key; first | exact key | (simp only [if_neg c_3]; exact key) | exact absurd rfl c_3)
    replace h := hr_55
    refine g_icmp_ne (tgt := 55) C dX0_seamCost_41 (by decide) (fun c_4 => ?_) (fun c_4 => ?_)
    · replace h := h.1 c_4
      exact g_leaf (by simp only [if_neg c_4] at key; first | exact key | (simp only [if_neg c_4]; exact key) | exact absurd rfl c_4)
    · replace h := h.2 c_4
      refine g_iload C dX0_seamCost_44 6 rfl ?_
      refine g_aload_n C dX0_seamCost_46 rfl 0 rfl ?_
      refine g_get C gfX0_seamCost_21 0 rfl rfl dX0_seamCost_47 ?_
      refine g_iconst C dX0_seamCost_50 ik_4 ?_
      have hi_5 := h
      refine g_iald C 1 0 rfl rfl hi_5 dX0_seamCost_51 ?_
      refine g_iadd C dX0_seamCost_52 ?_
      refine g_istore (lv2 := [(0, .ref (ad 1)), (1, .int p1), (2, .int p2), (3, .int p3), (4, .int (p3 >>> ((1 : Int32) &&& 31))), (5, .int ((C_places ((p2 * (3 : Int32)) + (p3 >>> ((1 : Int32) &&& 31))).toNatClampNeg) - (p3 &&& (1 : Int32)))), (6, .int ((C_rules (p3 >>> ((1 : Int32) &&& 31)).toNatClampNeg) + (C_rules (4 : Int32).toNatClampNeg)))]) C dX0_seamCost_53 (by decide) [1, 2, 3, 4, 5, 6, 0] rfl ?_
      exact g_leaf (by simp only [if_pos c_4] at key; first | exact key | (simp only [if_pos c_4]; exact key) | exact absurd rfl c_4)
def fnX0_seamCost (p1 : Int32) (p2 : Int32) (p3 : Int32) (C_size : Int32) (C_rules : Nat → Int32) (C_places : Nat → Int32) : Int32 := (if p1 < (2 : Int32) then (if p1 < (1 : Int32) then (C_rules (p3 >>> ((1 : Int32) &&& 31)).toNatClampNeg) else (if (((C_places ((p2 * (3 : Int32)) + (p3 >>> ((1 : Int32) &&& 31))).toNatClampNeg) - (p3 &&& (1 : Int32))) &&& (1 : Int32)) = (1 : Int32) then ((C_rules (p3 >>> ((1 : Int32) &&& 31)).toNatClampNeg) + (C_rules (4 : Int32).toNatClampNeg)) else (C_rules (p3 >>> ((1 : Int32) &&& 31)).toNatClampNeg))) else (if (C_rules (5 : Int32).toNatClampNeg) < (if p1 < (1 : Int32) then (C_rules (p3 >>> ((1 : Int32) &&& 31)).toNatClampNeg) else (if (((C_places ((p2 * (3 : Int32)) + (p3 >>> ((1 : Int32) &&& 31))).toNatClampNeg) - (p3 &&& (1 : Int32))) &&& (1 : Int32)) = (1 : Int32) then ((C_rules (p3 >>> ((1 : Int32) &&& 31)).toNatClampNeg) + (C_rules (4 : Int32).toNatClampNeg)) else (C_rules (p3 >>> ((1 : Int32) &&& 31)).toNatClampNeg))) then (C_rules (5 : Int32).toNatClampNeg) else (if p1 < (1 : Int32) then (C_rules (p3 >>> ((1 : Int32) &&& 31)).toNatClampNeg) else (if (((C_places ((p2 * (3 : Int32)) + (p3 >>> ((1 : Int32) &&& 31))).toNatClampNeg) - (p3 &&& (1 : Int32))) &&& (1 : Int32)) = (1 : Int32) then ((C_rules (p3 >>> ((1 : Int32) &&& 31)).toNatClampNeg) + (C_rules (4 : Int32).toNatClampNeg)) else (C_rules (p3 >>> ((1 : Int32) &&& 31)).toNatClampNeg)))))
def prX0_seamCost (p1 : Int32) (p2 : Int32) (p3 : Int32) (C_size : Int32) (C_rules : Nat → Int32) (C_places : Nat → Int32) : Prop := vp_in ((p2 * (3 : Int32)) + (p3 >>> ((1 : Int32) &&& 31))) 108 ∧ vp_in (p3 >>> ((1 : Int32) &&& 31)) 7 ∧ ((p1 < (1 : Int32) → True) ∧ (¬ p1 < (1 : Int32) → (¬ (((C_places ((p2 * (3 : Int32)) + (p3 >>> ((1 : Int32) &&& 31))).toNatClampNeg) - (p3 &&& (1 : Int32))) &&& (1 : Int32)) = (1 : Int32) → True) ∧ ((((C_places ((p2 * (3 : Int32)) + (p3 >>> ((1 : Int32) &&& 31))).toNatClampNeg) - (p3 &&& (1 : Int32))) &&& (1 : Int32)) = (1 : Int32) → vp_in (4 : Int32) 7))) ∧ (p1 < (2 : Int32) → True) ∧ (¬ p1 < (2 : Int32) → vp_in (5 : Int32) 7)
set_option maxHeartbeats 4000000 in
set_option maxRecDepth 100000 in
theorem c_X0_seamCost (ad : Nat → Nat) (cA : Nat → ClassId) (p1 : Int32) (p2 : Int32) (p3 : Int32) (C_size : Int32) (C_rules : Nat → Int32) (C_places : Nat → Int32) (hq : prX0_seamCost p1 p2 p3 C_size C_rules C_places) : ∀ (l : Launch) (D : va_G), gMi (S := Unit) l yX0_seamCost wsX0_seamCost rmX0_seamCost D (gT cA) 0 0 [.ref (ad 1), .int p1, .int p2, .int p3] (wcX0_seamCost ad cA C_size C_rules C_places) (fun r _ => r = fnX0_seamCost p1 p2 p3 C_size C_rules C_places) (w1X0_seamCost ad cA C_size C_rules C_places) := by
  intro l D
  refine g_enteri (cc := cX0_seamCost) (nL := 7) (ret := (some .int)) (by decide) rfl (Nat.le_of_ble_eq_true rfl) rfl (fun X C E => sgX0_seamCost_0 C E ?_)
  unfold prX0_seamCost at hq
  refine ⟨hq.1, ?_⟩
  replace hq := hq.2
  refine ⟨hq.1, ?_⟩
  replace hq := hq.2
  refine ⟨hq.1, ?_⟩
  replace hq := hq.2
  refine ⟨fun c_13 => ?_, fun c_13 => ?_⟩
  · replace hq := hq.1 c_13
    exact (by unfold fnX0_seamCost; first | rfl | (simp only [if_pos c_13]; done) | (simp only [if_pos c_13]; rfl))
  · replace hq := hq.2 c_13
    refine ⟨hq, ?_⟩
    exact (by unfold fnX0_seamCost; first | rfl | (simp only [if_neg c_13]; done) | (simp only [if_neg c_13]; rfl))

theorem vi_3_7 : vp_in (3 : Int32) 7 := vp_in_nI (n := 3) (by decide) (by decide)
theorem vi_4_7 : vp_in (4 : Int32) 7 := vp_in_nI (n := 4) (by decide) (by decide)
theorem vi_5_7 : vp_in (5 : Int32) 7 := vp_in_nI (n := 5) (by decide) (by decide)
theorem vi_6_7 : vp_in (6 : Int32) 7 := vp_in_nI (n := 6) (by decide) (by decide)
theorem vi_0_3 : vp_in (0 : Int32) 3 := vp_in_nI (n := 0) (by decide) (by decide)
theorem vi_1_3 : vp_in (1 : Int32) 3 := vp_in_nI (n := 1) (by decide) (by decide)
theorem vi_2_3 : vp_in (2 : Int32) 3 := vp_in_nI (n := 2) (by decide) (by decide)
theorem holds_eq (s : Int64) {c : Nat} (hc : c < 64) : fnX0_holds s (nI c) = sb s c := by
  unfold fnX0_holds
  by_cases h : sb s c = true
  · rw [if_pos ((zb_bit s hc).mpr h), h]
  · rw [if_neg (fun q => h ((zb_bit s hc).mp q))]
    cases hh : sb s c
    · rfl
    · exact absurd hh h
theorem every_sb {n i : Nat} (hn : n < 63) (hi : i < 64) : sb (fnX0_every (nI n)) i = decide (i < n) := zb_every hn hi
theorem isSet_eq (s : Int64) {n : Nat} (hn : n ≤ 36) : fnX0_isSet s (nI n) = true ↔ ∀ i, i < 64 → n ≤ i → sb s i = false := by
  unfold fnX0_isSet
  have key : (s &&& (fnX0_every (nI n) ^^^ -1)) = 0 ↔ ∀ i, i < 64 → n ≤ i → sb s i = false := by
    constructor
    · intro h i hi hni
      have h1 := congrArg (fun z => sb z i) h
      simp only [zb_and, zb_xor, every_sb (show n < 63 by omega) hi, zb_m1 hi, zb_0] at h1
      rw [decide_eq_false (by omega)] at h1
      simpa using h1
    · intro h
      apply zb_ext
      intro i hi
      rw [zb_and, zb_xor, every_sb (by omega) hi, zb_m1 hi, zb_0]
      by_cases q : n ≤ i
      · rw [h i hi q]; rfl
      · rw [decide_eq_true (by omega)]; simp
  by_cases q : (s &&& (fnX0_every (nI n) ^^^ -1)) = 0
  · rw [if_pos q]; exact ⟨fun _ => key.mp q, fun _ => rfl⟩
  · rw [if_neg q]; exact ⟨fun h => absurd h (by decide), fun h => absurd (key.mpr h) q⟩
theorem has0_eq (p : Int32) {n : Nat} (hn : n ≤ 36) : fnX0_has p (nI n) = decide (0 ≤ p.toInt ∧ p.toInt < n) := by
  unfold fnX0_has
  have e : (nI n).toInt = n := nI_toInt (by omega)
  simp only [Int32.lt_iff_toInt_lt, Int32.le_iff_toInt_le, e, show (0 : Int32).toInt = 0 from rfl]
  by_cases h1 : p.toInt < 0
  · rw [if_pos h1]; exact (decide_eq_false (by omega)).symm
  · rw [if_neg h1]
    by_cases h2 : (n : Int) ≤ p.toInt
    · rw [if_pos h2]; exact (decide_eq_false (by omega)).symm
    · rw [if_neg h2]; exact (decide_eq_true (by omega)).symm
theorem scost_eq {ru pl : Nat → Int32} (h : ruOK ru) {kd c s p : Nat} (hkd : kd ≤ 2) (hc : c < 36) (hs : s < 6) (hp : p < 4) (ep : pl (3 * c + s / 2) = nI p) (hsp : s % 2 ≤ p) (sz : Int32) : prX0_seamCost (nI kd) (nI c) (nI s) sz ru pl ∧ fnX0_seamCost (nI kd) (nI c) (nI s) sz ru pl = iI (cwA ru pl kd c s) := by
  have e1 : nI s >>> ((1 : Int32) &&& 31) = nI (s / 2) := pk_shrN (k := 1) (by omega) _ (by decide)
  have e2 : nI c * (3 : Int32) + nI (s / 2) = nI (3 * c + s / 2) := by show nI c * nI 3 + _ = _; rw [pk_mul, nI_add, Nat.mul_comm]
  have e3 : nI s &&& (1 : Int32) = nI (s % 2) := pk_andN (k := 1) (by omega) (by decide)
  have e4 : (nI p - nI (s % 2)) &&& (1 : Int32) = nI ((p - s % 2) % 2) := by rw [pk_sub hsp]; exact pk_andN (k := 1) (by omega) (by decide)
  have e5 : (nI ((p - s % 2) % 2) = 1) = ((p - s % 2) % 2 = 1) := propext (nI_eq (b := 1) (by omega) (by decide))
  have e6 : (nI kd < 1) = (¬ 0 < kd) := propext (by rw [show (1 : Int32) = nI 1 from rfl, nI_ltI (by omega) (by decide)]; omega)
  have e7 : (nI kd < 2) = (¬ kd = 2) := propext (by rw [show (2 : Int32) = nI 2 from rfl, nI_ltI (by omega) (by decide)]; omega)
  have c4 : (4 : Int32).toNatClampNeg = 4 := rfl
  have c5 : (5 : Int32).toNatClampNeg = 5 := rfl
  have v1 := h.1 (s / 2) (by omega)
  have v4 := h.1 4 (by omega)
  have v5 := h.2.1
  have v6 := h.2.2.1
  have sum : (ru (s / 2) + ru 4).toInt = (ru (s / 2)).toInt + (ru 4).toInt := toInt_add (by omega) (by omega)
  constructor
  · unfold prX0_seamCost
    rw [e1, e2]
    refine ⟨vp_in_nI (by omega) (by decide), vp_in_nI (by omega) (by decide), ⟨fun _ => trivial, fun _ => ⟨fun _ => trivial, fun _ => vi_4_7⟩⟩, fun _ => trivial, fun _ => vi_5_7⟩
  · unfold fnX0_seamCost cwA sc
    rw [e1, e2, e3, nI_clamp (by omega), nI_clamp (by omega), ep, e4, nI_clamp (by omega)]
    simp only [e5, e6, e7, c4, c5, Int32.lt_iff_toInt_lt]
    rw [← Int32.toInt_inj, toInt_iI (by (repeat' split) <;> omega) (by (repeat' split) <;> omega)]
    by_cases hk0 : 0 < kd <;> by_cases hk2 : kd = 2 <;> by_cases hp1 : (p - s % 2) % 2 = 1 <;> simp only [hk0, hk2, hp1, (eq_true (by decide) : (0 < 2) = True), not_true_eq_false, not_false_eq_true, if_true, if_false, true_and, and_true, false_and, and_false, sum, Int.add_zero]
    all_goals (try (split <;> (try simp only [sum]) <;> omega))
    all_goals (try omega)

abbrev w1X0_freeCells (ad : Nat → Nat) (cA : Nat → ClassId) (C_size : Int32) (C_held : Nat → Int32) (u : Unit) : va_W := [((ad 1), .inr (0, [.ref (ad 2), .ref (ad 3), .ref (ad 4), .ref (ad 5), .ref (ad 6), .ref (ad 7), .int C_size])), ((ad 3), .inl (cA 0, 36, .inl C_held))]
abbrev wcX0_freeCells (ad : Nat → Nat) (cA : Nat → ClassId) (C_size : Int32) (C_held : Nat → Int32) : va_W := [((ad 1), .inr (0, [.ref (ad 2), .ref (ad 3), .ref (ad 4), .ref (ad 5), .ref (ad 6), .ref (ad 7), .int C_size])), ((ad 3), .inl (cA 0, 36, .inl C_held))]
def rmX0_freeCells : Room := { frames := 0, cells := 0, slots := 0, locals := 0 }
abbrev atX0_freeCells_0 (X : gX) (ad : Nat → Nat) (cA : Nat → ClassId) (C_size : Int32) (C_held : Nat → Int32) : Prop := gW X 0 0 [((ad 1), .inr (0, [.ref (ad 2), .ref (ad 3), .ref (ad 4), .ref (ad 5), .ref (ad 6), .ref (ad 7), .int C_size])), ((ad 3), .inl (cA 0, 36, .inl C_held))] 3 [(0, .ref (ad 1))] [] 0
abbrev atX0_freeCells_4 (X : gX) (ad : Nat → Nat) (cA : Nat → ClassId) (x1 : Int32) (x2 : Int32) (C_size : Int32) (C_held : Nat → Int32) : Prop := gW X 0 0 [((ad 1), .inr (0, [.ref (ad 2), .ref (ad 3), .ref (ad 4), .ref (ad 5), .ref (ad 6), .ref (ad 7), .int C_size])), ((ad 3), .inl (cA 0, 36, .inl C_held))] 3 [(0, .ref (ad 1)), (1, .int x1), (2, .int x2)] [] 4
theorem giX0_freeCells_X0 : ∀ w ∈ u_ws RX0 TX0 7, w ∈ wsX0_freeCells := by decide +kernel
theorem gfX0_freeCells_30 : gF wsX0_freeCells RX0 30 0 6 RX0 TX0 7 := ⟨giX0_freeCells_X0, by decide +kernel, rfl, by decide⟩
theorem gfX0_freeCells_15 : gF wsX0_freeCells RX0 15 0 1 RX0 TX0 7 := ⟨giX0_freeCells_X0, by decide +kernel, rfl, by decide⟩
set_option maxHeartbeats 4000000 in
set_option maxRecDepth 100000 in
theorem sgX0_freeCells_0 {X : gX} {ad : Nat → Nat} {cA : Nat → ClassId} {post : Int32 → (Unit) → Prop} {C_size : Int32} {C_held : Nat → Int32} (C : gC X (gT cA) cX0_freeCells 3 RX0 wsX0_freeCells rmX0_freeCells) (E : gEi X (some .int) (gT cA) 0 0 post (w1X0_freeCells ad cA C_size C_held)) (h : atX0_freeCells_4 X ad cA (0 : Int32) (0 : Int32) C_size C_held) : atX0_freeCells_0 X ad cA C_size C_held := by
  refine g_iconst C dX0_freeCells_0 ik_0 ?_
  refine g_istore_n (lv2 := [(0, .ref (ad 1)), (1, .int (0 : Int32))]) C dX0_freeCells_1 rfl (by decide) [1, 0] rfl ?_
  refine g_iconst C dX0_freeCells_2 ik_0 ?_
  refine g_istore_n (lv2 := [(0, .ref (ad 1)), (1, .int (0 : Int32)), (2, .int (0 : Int32))]) C dX0_freeCells_3 rfl (by decide) [1, 2, 0] rfl ?_
  exact g_lv [0, 1, 2] rfl h
set_option maxHeartbeats 4000000 in
set_option maxRecDepth 100000 in
theorem sgX0_freeCells_4 {X : gX} {ad : Nat → Nat} {cA : Nat → ClassId} {post : Int32 → (Unit) → Prop} {x1 : Int32} {x2 : Int32} {C_size : Int32} {C_held : Nat → Int32} (C : gC X (gT cA) cX0_freeCells 3 RX0 wsX0_freeCells rmX0_freeCells) (E : gEi X (some .int) (gT cA) 0 0 post (w1X0_freeCells ad cA C_size C_held)) (h : (C_size ≤ x2 → post x1 ()) ∧ (¬ C_size ≤ x2 → vp_in x2 36 ∧ atX0_freeCells_4 X ad cA (if (C_held x2.toNatClampNeg) = 0 then (x1 + 1) else x1) (x2 + 1) C_size C_held)) : atX0_freeCells_4 X ad cA x1 x2 C_size C_held := by
  refine g_iload_n C dX0_freeCells_4 rfl 2 rfl ?_
  refine g_aload_n C dX0_freeCells_5 rfl 0 rfl ?_
  refine g_get C gfX0_freeCells_30 0 rfl rfl dX0_freeCells_6 ?_
  refine g_icmp_ge (tgt := 30) C dX0_freeCells_9 (by decide) (fun c_1 => ?_) (fun c_1 => ?_)
  · replace h := h.1 c_1
    refine g_iload_n C dX0_freeCells_30 rfl 1 rfl ?_
    exact g_iret C E () h rfl dX0_freeCells_31
  · replace h := h.2 c_1
    refine g_aload_n C dX0_freeCells_12 rfl 0 rfl ?_
    refine g_get C gfX0_freeCells_15 0 rfl rfl dX0_freeCells_13 ?_
    refine g_iload_n C dX0_freeCells_16 rfl 2 rfl ?_
    obtain ⟨hi_2, h⟩ := h
    refine g_iald C 1 0 rfl rfl hi_2 dX0_freeCells_17 ?_
    have key : gW X 0 0 [((ad 1), .inr (0, [.ref (ad 2), .ref (ad 3), .ref (ad 4), .ref (ad 5), .ref (ad 6), .ref (ad 7), .int C_size])), ((ad 3), .inl (cA 0, 36, .inl C_held))] 3 [(0, .ref (ad 1)), (1, .int (if (C_held x2.toNatClampNeg) = 0 then (x1 + 1) else x1)), (2, .int x2)] [] 24 := by
      refine g_iinc (v := (x2 + 1)) (lv2 := [(0, .ref (ad 1)), (1, .int (if (C_held x2.toNatClampNeg) = 0 then (x1 + 1) else x1)), (2, .int (x2 + 1))]) C dX0_freeCells_24 2 rfl (by first | rfl | decide) (by decide) [1, 2, 0] rfl ?_
      refine g_goto (tgt := 4) C dX0_freeCells_27 (by decide) ?_
      exact g_lv [0, 1, 2] rfl h
    refine g_if_ne (tgt := 24) C dX0_freeCells_18 (by decide) (fun c_3 => ?_) (fun c_3 => ?_)
    · exact g_leaf (by simp only [if_neg c_3] at key; first | exact key | (simp only [if_neg c_3]; exact key) | exact absurd rfl c_3)
    · refine g_iinc (v := (x1 + 1)) (lv2 := [(0, .ref (ad 1)), (1, .int (x1 + 1)), (2, .int x2)]) C dX0_freeCells_21 1 rfl (by first | rfl | decide) (by decide) [1, 0, 2] rfl ?_
      exact g_leaf (by simp only [if_pos c_3] at key; first | exact key | (simp only [if_pos c_3]; exact key) | exact absurd rfl c_3)
def prX0_freeCells (C_size : Int32) (C_held : Nat → Int32) : Prop := ∃ n, n ≤ 36 ∧ C_size = nI n
set_option maxHeartbeats 4000000 in
set_option maxRecDepth 100000 in
theorem c_X0_freeCells (ad : Nat → Nat) (cA : Nat → ClassId) (C_size : Int32) (C_held : Nat → Int32) (hq : prX0_freeCells C_size C_held) : ∀ (l : Launch) (D : va_G), gMi (S := Unit) l yX0_freeCells wsX0_freeCells rmX0_freeCells D (gT cA) 0 0 [.ref (ad 1)] (wcX0_freeCells ad cA C_size C_held) (fun r _ => r = nI (cntA C_size.toNatClampNeg (fun c => decide (C_held c = 0)))) (w1X0_freeCells ad cA C_size C_held) := by
  intro l D
  unfold prX0_freeCells at hq
  refine g_enteri (cc := cX0_freeCells) (nL := 3) (ret := (some .int)) (by decide) rfl (Nat.le_of_ble_eq_true rfl) rfl (fun X C E => ?_)
  obtain ⟨n, hn, rfl⟩ := hq
  rw [nI_clamp (by omega)] at E
  refine sgX0_freeCells_0 C E ?_
  have loop : ∀ k, k ≤ n → atX0_freeCells_4 X ad cA (nI (cntA k (fun c => decide (C_held c = 0)))) (nI k) (nI n) C_held := by
    intro k hk
    refine up_loop (P := fun k => atX0_freeCells_4 X ad cA (nI (cntA k (fun c => decide (C_held c = 0)))) (nI k) (nI n) C_held) n ?_ (fun k hk ih => ?_) k hk
    · exact sgX0_freeCells_4 C E ⟨fun _ => rfl, fun c => absurd (i32_le_refl _) c⟩
    · refine sgX0_freeCells_4 C E ⟨fun c => absurd c (nI_ge hk (by omega)), fun _ => ⟨vp_in_nI (by omega) (by decide), ?_⟩⟩
      rw [nI_clamp (by omega), nI_1 k]
      have e : (if C_held k = 0 then (nI (cntA k (fun c => decide (C_held c = 0))) + 1) else nI (cntA k (fun c => decide (C_held c = 0)))) = nI (cntA (k + 1) (fun c => decide (C_held c = 0))) := by
        simp only [cntA]
        by_cases hc : C_held k = 0 <;> simp [hc, nI_1]
      rw [e]; exact ih
  exact loop 0 (Nat.zero_le _)


/-- the first side that leads there, if any -/
def sdA (be : Nat → Int32) (o : Nat) (v : Int32) : Nat → Nat → Int32
  | _, 0 => -1
  | s, k + 1 => if be (6 * o + s) = v then nI s else sdA be o v (s + 1) k

abbrev w1X0_sideTowards (ad : Nat → Nat) (cA : Nat → ClassId) (C_size : Int32) (C_beyond : Nat → Int32) (u : Unit) : va_W := [((ad 1), .inr (0, [.ref (ad 2), .ref (ad 3), .ref (ad 4), .ref (ad 5), .ref (ad 6), .ref (ad 7), .int C_size])), ((ad 7), .inl (cA 0, 216, .inl C_beyond))]
abbrev wcX0_sideTowards (ad : Nat → Nat) (cA : Nat → ClassId) (C_size : Int32) (C_beyond : Nat → Int32) : va_W := [((ad 1), .inr (0, [.ref (ad 2), .ref (ad 3), .ref (ad 4), .ref (ad 5), .ref (ad 6), .ref (ad 7), .int C_size])), ((ad 7), .inl (cA 0, 216, .inl C_beyond))]
def rmX0_sideTowards : Room := { frames := 0, cells := 0, slots := 0, locals := 0 }
abbrev atX0_sideTowards_0 (X : gX) (ad : Nat → Nat) (cA : Nat → ClassId) (p1 : Int32) (p2 : Int32) (C_size : Int32) (C_beyond : Nat → Int32) : Prop := gW X 0 0 [((ad 1), .inr (0, [.ref (ad 2), .ref (ad 3), .ref (ad 4), .ref (ad 5), .ref (ad 6), .ref (ad 7), .int C_size])), ((ad 7), .inl (cA 0, 216, .inl C_beyond))] 4 [(0, .ref (ad 1)), (1, .int p1), (2, .int p2)] [] 0
abbrev atX0_sideTowards_2 (X : gX) (ad : Nat → Nat) (cA : Nat → ClassId) (x1 : Int32) (x2 : Int32) (x3 : Int32) (C_size : Int32) (C_beyond : Nat → Int32) : Prop := gW X 0 0 [((ad 1), .inr (0, [.ref (ad 2), .ref (ad 3), .ref (ad 4), .ref (ad 5), .ref (ad 6), .ref (ad 7), .int C_size])), ((ad 7), .inl (cA 0, 216, .inl C_beyond))] 4 [(0, .ref (ad 1)), (1, .int x1), (2, .int x2), (3, .int x3)] [] 2
theorem giX0_sideTowards_X0 : ∀ w ∈ u_ws RX0 TX0 7, w ∈ wsX0_sideTowards := by decide +kernel
theorem gfX0_sideTowards_27 : gF wsX0_sideTowards RX0 27 0 5 RX0 TX0 7 := ⟨giX0_sideTowards_X0, by decide +kernel, rfl, by decide⟩
set_option maxHeartbeats 4000000 in
set_option maxRecDepth 100000 in
theorem sgX0_sideTowards_0 {X : gX} {ad : Nat → Nat} {cA : Nat → ClassId} {post : Int32 → (Unit) → Prop} {p1 : Int32} {p2 : Int32} {C_size : Int32} {C_beyond : Nat → Int32} (C : gC X (gT cA) cX0_sideTowards 4 RX0 wsX0_sideTowards rmX0_sideTowards) (E : gEi X (some .int) (gT cA) 0 0 post (w1X0_sideTowards ad cA C_size C_beyond)) (h : atX0_sideTowards_2 X ad cA p1 p2 (0 : Int32) C_size C_beyond) : atX0_sideTowards_0 X ad cA p1 p2 C_size C_beyond := by
  refine g_iconst C dX0_sideTowards_0 ik_0 ?_
  refine g_istore_n (lv2 := [(0, .ref (ad 1)), (1, .int p1), (2, .int p2), (3, .int (0 : Int32))]) C dX0_sideTowards_1 rfl (by decide) [1, 2, 3, 0] rfl ?_
  exact g_lv [0, 1, 2, 3] rfl h
set_option maxHeartbeats 4000000 in
set_option maxRecDepth 100000 in
theorem sgX0_sideTowards_2 {X : gX} {ad : Nat → Nat} {cA : Nat → ClassId} {post : Int32 → (Unit) → Prop} {x1 : Int32} {x2 : Int32} {x3 : Int32} {C_size : Int32} {C_beyond : Nat → Int32} (C : gC X (gT cA) cX0_sideTowards 4 RX0 wsX0_sideTowards rmX0_sideTowards) (E : gEi X (some .int) (gT cA) 0 0 post (w1X0_sideTowards ad cA C_size C_beyond)) (h : ((6 : Int32) ≤ x3 → post (-1 : Int32) ()) ∧ (¬ (6 : Int32) ≤ x3 → vp_in ((x1 * (6 : Int32)) + x3) 216 ∧ (¬ (C_beyond ((x1 * (6 : Int32)) + x3).toNatClampNeg) = x2 → atX0_sideTowards_2 X ad cA x1 x2 (x3 + 1) C_size C_beyond) ∧ ((C_beyond ((x1 * (6 : Int32)) + x3).toNatClampNeg) = x2 → post x3 ()))) : atX0_sideTowards_2 X ad cA x1 x2 x3 C_size C_beyond := by
  refine g_iload_n C dX0_sideTowards_2 rfl 3 rfl ?_
  refine g_bipush C dX0_sideTowards_3 bk_6 ?_
  refine g_icmp_ge (tgt := 31) C dX0_sideTowards_5 (by decide) (fun c_1 => ?_) (fun c_1 => ?_)
  · replace h := h.1 c_1
    refine g_iconst C dX0_sideTowards_31 ik_m1 ?_
    exact g_iret C E () h rfl dX0_sideTowards_32
  · replace h := h.2 c_1
    refine g_aload_n C dX0_sideTowards_8 rfl 0 rfl ?_
    refine g_get C gfX0_sideTowards_27 0 rfl rfl dX0_sideTowards_9 ?_
    refine g_iload_n C dX0_sideTowards_12 rfl 1 rfl ?_
    refine g_bipush C dX0_sideTowards_13 bk_6 ?_
    refine g_imul C dX0_sideTowards_15 ?_
    refine g_iload_n C dX0_sideTowards_16 rfl 3 rfl ?_
    refine g_iadd C dX0_sideTowards_17 ?_
    obtain ⟨hi_2, h⟩ := h
    refine g_iald C 1 0 rfl rfl hi_2 dX0_sideTowards_18 ?_
    refine g_iload_n C dX0_sideTowards_19 rfl 2 rfl ?_
    refine g_icmp_ne (tgt := 25) C dX0_sideTowards_20 (by decide) (fun c_3 => ?_) (fun c_3 => ?_)
    · replace h := h.1 c_3
      refine g_iinc (v := (x3 + 1)) (lv2 := [(0, .ref (ad 1)), (1, .int x1), (2, .int x2), (3, .int (x3 + 1))]) C dX0_sideTowards_25 3 rfl (by first | rfl | decide) (by decide) [1, 2, 3, 0] rfl ?_
      refine g_goto (tgt := 2) C dX0_sideTowards_28 (by decide) ?_
      exact g_lv [0, 1, 2, 3] rfl h
    · replace h := h.2 c_3
      refine g_iload_n C dX0_sideTowards_23 rfl 3 rfl ?_
      exact g_iret C E () h rfl dX0_sideTowards_24
def prX0_sideTowards (p1 : Int32) (p2 : Int32) (C_size : Int32) (C_beyond : Nat → Int32) : Prop := vp_in p1 36
set_option maxHeartbeats 4000000 in
set_option maxRecDepth 100000 in
theorem c_X0_sideTowards (ad : Nat → Nat) (cA : Nat → ClassId) (p1 : Int32) (p2 : Int32) (C_size : Int32) (C_beyond : Nat → Int32) (hq : prX0_sideTowards p1 p2 C_size C_beyond) : ∀ (l : Launch) (D : va_G), gMi (S := Unit) l yX0_sideTowards wsX0_sideTowards rmX0_sideTowards D (gT cA) 0 0 [.ref (ad 1), .int p1, .int p2] (wcX0_sideTowards ad cA C_size C_beyond) (fun r _ => r = sdA C_beyond p1.toNatClampNeg p2 0 6) (w1X0_sideTowards ad cA C_size C_beyond) := by
  intro l D
  unfold prX0_sideTowards at hq
  refine g_enteri (cc := cX0_sideTowards) (nL := 4) (ret := (some .int)) (by decide) rfl (Nat.le_of_ble_eq_true rfl) rfl (fun X C E => ?_)
  obtain ⟨o, ho, rfl⟩ := vp_in_of hq (by decide)
  rw [nI_clamp (by omega)] at E
  refine sgX0_sideTowards_0 C E ?_
  have loop : ∀ k s, s + k = 6 → sdA C_beyond o p2 s k = sdA C_beyond o p2 0 6 → atX0_sideTowards_2 X ad cA (nI o) p2 (nI s) C_size C_beyond := by
    intro k
    induction k with
    | zero =>
      intro s hs e
      have e6 : s = 6 := by omega
      refine sgX0_sideTowards_2 C E ⟨fun _ => e, fun c => absurd (by rw [e6]; exact i32_le_refl _) c⟩
    | succ k ih =>
      intro s hs e
      rw [sdA] at e
      refine sgX0_sideTowards_2 C E ⟨fun c => absurd c (nI_ge (b := 6) (by omega) (by decide)), fun _ => ?_⟩
      have e2 : nI o * (6 : Int32) + nI s = nI (6 * o + s) := by show nI o * nI 6 + _ = _; rw [pk_mul, nI_add, Nat.mul_comm]
      rw [e2, nI_clamp (by omega), nI_1]
      refine ⟨vp_in_nI (by omega) (by decide), fun c => ?_, fun c => ?_⟩
      · rw [if_neg c] at e; exact ih (s + 1) (by omega) e
      · rw [if_pos c] at e; exact e
  exact loop 6 0 rfl rfl


abbrev w1X0_ownCost (ad : Nat → Nat) (cA : Nat → ClassId) (C_size : Int32) (C_prices : Nat → Int32) (C_rules : Nat → Int32) (C_beyond : Nat → Int32) (u : Unit) : va_W := [((ad 1), .inr (0, [.ref (ad 2), .ref (ad 3), .ref (ad 4), .ref (ad 5), .ref (ad 6), .ref (ad 7), .int C_size])), ((ad 4), .inl (cA 0, 36, .inl C_prices)), ((ad 5), .inl (cA 0, 7, .inl C_rules)), ((ad 7), .inl (cA 0, 216, .inl C_beyond))]
abbrev wcX0_ownCost (ad : Nat → Nat) (cA : Nat → ClassId) (C_size : Int32) (C_prices : Nat → Int32) (C_rules : Nat → Int32) (C_beyond : Nat → Int32) : va_W := [((ad 1), .inr (0, [.ref (ad 2), .ref (ad 3), .ref (ad 4), .ref (ad 5), .ref (ad 6), .ref (ad 7), .int C_size])), ((ad 4), .inl (cA 0, 36, .inl C_prices)), ((ad 5), .inl (cA 0, 7, .inl C_rules)), ((ad 7), .inl (cA 0, 216, .inl C_beyond))]
def rmX0_ownCost : Room := { frames := 0, cells := 0, slots := 0, locals := 0 }
abbrev atX0_ownCost_0 (X : gX) (ad : Nat → Nat) (cA : Nat → ClassId) (p1 : Int32) (C_size : Int32) (C_prices : Nat → Int32) (C_rules : Nat → Int32) (C_beyond : Nat → Int32) : Prop := gW X 0 0 [((ad 1), .inr (0, [.ref (ad 2), .ref (ad 3), .ref (ad 4), .ref (ad 5), .ref (ad 6), .ref (ad 7), .int C_size])), ((ad 4), .inl (cA 0, 36, .inl C_prices)), ((ad 5), .inl (cA 0, 7, .inl C_rules)), ((ad 7), .inl (cA 0, 216, .inl C_beyond))] 4 [(0, .ref (ad 1)), (1, .int p1)] [] 0
abbrev atX0_ownCost_9 (X : gX) (ad : Nat → Nat) (cA : Nat → ClassId) (x1 : Int32) (x2 : Int32) (x3 : Int32) (C_size : Int32) (C_prices : Nat → Int32) (C_rules : Nat → Int32) (C_beyond : Nat → Int32) : Prop := gW X 0 0 [((ad 1), .inr (0, [.ref (ad 2), .ref (ad 3), .ref (ad 4), .ref (ad 5), .ref (ad 6), .ref (ad 7), .int C_size])), ((ad 4), .inl (cA 0, 36, .inl C_prices)), ((ad 5), .inl (cA 0, 7, .inl C_rules)), ((ad 7), .inl (cA 0, 216, .inl C_beyond))] 4 [(0, .ref (ad 1)), (1, .int x1), (2, .int x2), (3, .int x3)] [] 9
theorem giX0_ownCost_X0 : ∀ w ∈ u_ws RX0 TX0 7, w ∈ wsX0_ownCost := by decide +kernel
theorem gfX0_ownCost_18 : gF wsX0_ownCost RX0 18 0 2 RX0 TX0 7 := ⟨giX0_ownCost_X0, by decide +kernel, rfl, by decide⟩
theorem gfX0_ownCost_27 : gF wsX0_ownCost RX0 27 0 5 RX0 TX0 7 := ⟨giX0_ownCost_X0, by decide +kernel, rfl, by decide⟩
theorem gfX0_ownCost_21 : gF wsX0_ownCost RX0 21 0 3 RX0 TX0 7 := ⟨giX0_ownCost_X0, by decide +kernel, rfl, by decide⟩
set_option maxHeartbeats 4000000 in
set_option maxRecDepth 100000 in
theorem sgX0_ownCost_0 {X : gX} {ad : Nat → Nat} {cA : Nat → ClassId} {post : Int32 → (Unit) → Prop} {p1 : Int32} {C_size : Int32} {C_prices : Nat → Int32} {C_rules : Nat → Int32} {C_beyond : Nat → Int32} (C : gC X (gT cA) cX0_ownCost 4 RX0 wsX0_ownCost rmX0_ownCost) (E : gEi X (some .int) (gT cA) 0 0 post (w1X0_ownCost ad cA C_size C_prices C_rules C_beyond)) (h : vp_in p1 36 ∧ atX0_ownCost_9 X ad cA p1 (C_prices p1.toNatClampNeg) (0 : Int32) C_size C_prices C_rules C_beyond) : atX0_ownCost_0 X ad cA p1 C_size C_prices C_rules C_beyond := by
  refine g_aload_n C dX0_ownCost_0 rfl 0 rfl ?_
  refine g_get C gfX0_ownCost_18 0 rfl rfl dX0_ownCost_1 ?_
  refine g_iload_n C dX0_ownCost_4 rfl 1 rfl ?_
  obtain ⟨hi_1, h⟩ := h
  refine g_iald C 1 0 rfl rfl hi_1 dX0_ownCost_5 ?_
  refine g_istore_n (lv2 := [(0, .ref (ad 1)), (1, .int p1), (2, .int (C_prices p1.toNatClampNeg))]) C dX0_ownCost_6 rfl (by decide) [1, 2, 0] rfl ?_
  refine g_iconst C dX0_ownCost_7 ik_0 ?_
  refine g_istore_n (lv2 := [(0, .ref (ad 1)), (1, .int p1), (2, .int (C_prices p1.toNatClampNeg)), (3, .int (0 : Int32))]) C dX0_ownCost_8 rfl (by decide) [1, 2, 3, 0] rfl ?_
  exact g_lv [0, 1, 2, 3] rfl h
set_option maxHeartbeats 4000000 in
set_option maxRecDepth 100000 in
theorem sgX0_ownCost_9 {X : gX} {ad : Nat → Nat} {cA : Nat → ClassId} {post : Int32 → (Unit) → Prop} {x1 : Int32} {x2 : Int32} {x3 : Int32} {C_size : Int32} {C_prices : Nat → Int32} {C_rules : Nat → Int32} {C_beyond : Nat → Int32} (C : gC X (gT cA) cX0_ownCost 4 RX0 wsX0_ownCost rmX0_ownCost) (E : gEi X (some .int) (gT cA) 0 0 post (w1X0_ownCost ad cA C_size C_prices C_rules C_beyond)) (h : ((6 : Int32) ≤ x3 → post x2 ()) ∧ (¬ (6 : Int32) ≤ x3 → vp_in ((x1 * (6 : Int32)) + x3) 216 ∧ ((¬ (C_beyond ((x1 * (6 : Int32)) + x3).toNatClampNeg) = (-1 : Int32) → True) ∧ ((C_beyond ((x1 * (6 : Int32)) + x3).toNatClampNeg) = (-1 : Int32) → vp_in (3 : Int32) 7)) ∧ atX0_ownCost_9 X ad cA x1 (if (C_beyond ((x1 * (6 : Int32)) + x3).toNatClampNeg) = (-1 : Int32) then (x2 + (C_rules (3 : Int32).toNatClampNeg)) else x2) (x3 + 1) C_size C_prices C_rules C_beyond)) : atX0_ownCost_9 X ad cA x1 x2 x3 C_size C_prices C_rules C_beyond := by
  refine g_iload_n C dX0_ownCost_9 rfl 3 rfl ?_
  refine g_bipush C dX0_ownCost_10 bk_6 ?_
  refine g_icmp_ge (tgt := 45) C dX0_ownCost_12 (by decide) (fun c_2 => ?_) (fun c_2 => ?_)
  · replace h := h.1 c_2
    refine g_iload_n C dX0_ownCost_45 rfl 2 rfl ?_
    exact g_iret C E () h rfl dX0_ownCost_46
  · replace h := h.2 c_2
    refine g_aload_n C dX0_ownCost_15 rfl 0 rfl ?_
    refine g_get C gfX0_ownCost_27 0 rfl rfl dX0_ownCost_16 ?_
    refine g_iload_n C dX0_ownCost_19 rfl 1 rfl ?_
    refine g_bipush C dX0_ownCost_20 bk_6 ?_
    refine g_imul C dX0_ownCost_22 ?_
    refine g_iload_n C dX0_ownCost_23 rfl 3 rfl ?_
    refine g_iadd C dX0_ownCost_24 ?_
    obtain ⟨hi_3, h⟩ := h
    refine g_iald C 3 0 rfl rfl hi_3 dX0_ownCost_25 ?_
    refine g_iconst C dX0_ownCost_26 ik_m1 ?_
    obtain ⟨hr_39, h⟩ := h
    have key : gW X 0 0 [((ad 1), .inr (0, [.ref (ad 2), .ref (ad 3), .ref (ad 4), .ref (ad 5), .ref (ad 6), .ref (ad 7), .int C_size])), ((ad 4), .inl (cA 0, 36, .inl C_prices)), ((ad 5), .inl (cA 0, 7, .inl C_rules)), ((ad 7), .inl (cA 0, 216, .inl C_beyond))] 4 [(0, .ref (ad 1)), (1, .int x1), (2, .int (if (C_beyond ((x1 * (6 : Int32)) + x3).toNatClampNeg) = (-1 : Int32) then (x2 + (C_rules (3 : Int32).toNatClampNeg)) else x2)), (3, .int x3)] [] 39 := by
      refine g_iinc (v := (x3 + 1)) (lv2 := [(0, .ref (ad 1)), (1, .int x1), (2, .int (if (C_beyond ((x1 * (6 : Int32)) + x3).toNatClampNeg) = (-1 : Int32) then (x2 + (C_rules (3 : Int32).toNatClampNeg)) else x2)), (3, .int (x3 + 1))]) C dX0_ownCost_39 3 rfl (by first | rfl | decide) (by decide) [1, 2, 3, 0] rfl ?_
      refine g_goto (tgt := 9) C dX0_ownCost_42 (by decide) ?_
      exact g_lv [0, 1, 2, 3] rfl h
    replace h := hr_39
    refine g_icmp_ne (tgt := 39) C dX0_ownCost_27 (by decide) (fun c_4 => ?_) (fun c_4 => ?_)
    · replace h := h.1 c_4
      exact g_leaf (by simp only [if_neg c_4] at key; first | exact key | (simp only [if_neg c_4]; exact key) | exact absurd rfl c_4)
    · replace h := h.2 c_4
      refine g_iload_n C dX0_ownCost_30 rfl 2 rfl ?_
      refine g_aload_n C dX0_ownCost_31 rfl 0 rfl ?_
      refine g_get C gfX0_ownCost_21 0 rfl rfl dX0_ownCost_32 ?_
      refine g_iconst C dX0_ownCost_35 ik_3 ?_
      have hi_5 := h
      refine g_iald C 2 0 rfl rfl hi_5 dX0_ownCost_36 ?_
      refine g_iadd C dX0_ownCost_37 ?_
      refine g_istore_n (lv2 := [(0, .ref (ad 1)), (1, .int x1), (2, .int (x2 + (C_rules (3 : Int32).toNatClampNeg))), (3, .int x3)]) C dX0_ownCost_38 rfl (by decide) [1, 2, 0, 3] rfl ?_
      exact g_leaf (by simp only [if_pos c_4] at key; first | exact key | (simp only [if_pos c_4]; exact key) | exact absurd rfl c_4)
def prX0_ownCost (p1 : Int32) (C_size : Int32) (C_prices : Nat → Int32) (C_rules : Nat → Int32) (C_beyond : Nat → Int32) : Prop := ∃ c, c < 36 ∧ p1 = nI c
set_option maxHeartbeats 4000000 in
set_option maxRecDepth 100000 in
theorem c_X0_ownCost (ad : Nat → Nat) (cA : Nat → ClassId) (p1 : Int32) (C_size : Int32) (C_prices : Nat → Int32) (C_rules : Nat → Int32) (C_beyond : Nat → Int32) (hq : prX0_ownCost p1 C_size C_prices C_rules C_beyond) : ∀ (l : Launch) (D : va_G), gMi (S := Unit) l yX0_ownCost wsX0_ownCost rmX0_ownCost D (gT cA) 0 0 [.ref (ad 1), .int p1] (wcX0_ownCost ad cA C_size C_prices C_rules C_beyond) (fun r _ => r = iI (ownA C_prices C_rules C_beyond p1.toNatClampNeg)) (w1X0_ownCost ad cA C_size C_prices C_rules C_beyond) := by
  intro l D
  unfold prX0_ownCost at hq
  refine g_enteri (cc := cX0_ownCost) (nL := 4) (ret := (some .int)) (by decide) rfl (Nat.le_of_ble_eq_true rfl) rfl (fun X C E => ?_)
  obtain ⟨c, hc, rfl⟩ := hq
  rw [nI_clamp (by omega)] at E
  refine sgX0_ownCost_0 C E ⟨vp_in_nI hc (by decide), ?_⟩
  rw [nI_clamp (by omega)]
  have loop : ∀ s, s ≤ 6 → atX0_ownCost_9 X ad cA (nI c) (iI ((C_prices c).toInt + sumZ (fun s => if C_beyond (6 * c + s) = -1 then (C_rules 3).toInt else 0) s)) (nI s) C_size C_prices C_rules C_beyond := by
    intro s hs
    refine up_loop (P := fun s => atX0_ownCost_9 X ad cA (nI c) (iI ((C_prices c).toInt + sumZ (fun s => if C_beyond (6 * c + s) = -1 then (C_rules 3).toInt else 0) s)) (nI s) C_size C_prices C_rules C_beyond) 6 ?_ (fun s hs ih => ?_) s hs
    · exact sgX0_ownCost_9 C E ⟨fun _ => rfl, fun c => absurd (i32_le_refl _) c⟩
    · refine sgX0_ownCost_9 C E ⟨fun c => absurd c (nI_ge (b := 6) hs (by decide)), fun _ => ?_⟩
      have e2 : nI c * (6 : Int32) + nI s = nI (6 * c + s) := by show nI c * nI 6 + _ = _; rw [pk_mul, nI_add, Nat.mul_comm]
      rw [e2, nI_clamp (by omega), nI_1]
      refine ⟨vp_in_nI (by omega) (by decide), ⟨fun _ => trivial, fun _ => vi_3_7⟩, ?_⟩
      have e3 : (if C_beyond (6 * c + s) = -1 then iI ((C_prices c).toInt + sumZ (fun s => if C_beyond (6 * c + s) = -1 then (C_rules 3).toInt else 0) s) + C_rules (3 : Int32).toNatClampNeg else iI ((C_prices c).toInt + sumZ (fun s => if C_beyond (6 * c + s) = -1 then (C_rules 3).toInt else 0) s)) = iI ((C_prices c).toInt + sumZ (fun s => if C_beyond (6 * c + s) = -1 then (C_rules 3).toInt else 0) (s + 1)) := by
        simp only [sumZ]
        by_cases hb : C_beyond (6 * c + s) = -1
        · rw [if_pos hb, if_pos hb, ← iI_toInt (C_rules (3 : Int32).toNatClampNeg), iI_add, Int.add_assoc]; rfl
        · rw [if_neg hb, if_neg hb, Int.add_zero]
      rw [e3]; exact ih
  have h0 := loop 0 (Nat.zero_le _)
  rw [sumZ, Int.add_zero, iI_toInt] at h0
  exact h0


abbrev w1X0_seamsGrowth (ad : Nat → Nat) (cA : Nat → ClassId) (C_size : Int32) (C_rules : Nat → Int32) (C_places : Nat → Int32) (C_beyond : Nat → Int32) (u : Unit) : va_W := [((ad 1), .inr (0, [.ref (ad 2), .ref (ad 3), .ref (ad 4), .ref (ad 5), .ref (ad 6), .ref (ad 7), .int C_size])), ((ad 5), .inl (cA 0, 7, .inl C_rules)), ((ad 6), .inl (cA 0, 108, .inl C_places)), ((ad 7), .inl (cA 0, 216, .inl C_beyond))]
abbrev wcX0_seamsGrowth (ad : Nat → Nat) (cA : Nat → ClassId) (C_size : Int32) (C_rules : Nat → Int32) (C_places : Nat → Int32) (C_beyond : Nat → Int32) : va_W := [((ad 1), .inr (0, [.ref (ad 2), .ref (ad 3), .ref (ad 4), .ref (ad 5), .ref (ad 6), .ref (ad 7), .int C_size])), ((ad 5), .inl (cA 0, 7, .inl C_rules)), ((ad 6), .inl (cA 0, 108, .inl C_places)), ((ad 7), .inl (cA 0, 216, .inl C_beyond))]
def rmX0_seamsGrowth : Room := { frames := 2, cells := 0, slots := 0, locals := 39 }
abbrev atX0_seamsGrowth_0 (X : gX) (ad : Nat → Nat) (cA : Nat → ClassId) (p1 : Int64) (p2 : Int32) (C_size : Int32) (C_rules : Nat → Int32) (C_places : Nat → Int32) (C_beyond : Nat → Int32) : Prop := gW X 0 0 [((ad 1), .inr (0, [.ref (ad 2), .ref (ad 3), .ref (ad 4), .ref (ad 5), .ref (ad 6), .ref (ad 7), .int C_size])), ((ad 5), .inl (cA 0, 7, .inl C_rules)), ((ad 6), .inl (cA 0, 108, .inl C_places)), ((ad 7), .inl (cA 0, 216, .inl C_beyond))] 8 [(0, .ref (ad 1)), (1, .long p1), (3, .int p2)] [] 0
abbrev atX0_seamsGrowth_6 (X : gX) (ad : Nat → Nat) (cA : Nat → ClassId) (x1 : Int64) (x3 : Int32) (x4 : Int32) (x5 : Int32) (C_size : Int32) (C_rules : Nat → Int32) (C_places : Nat → Int32) (C_beyond : Nat → Int32) : Prop := gW X 0 0 [((ad 1), .inr (0, [.ref (ad 2), .ref (ad 3), .ref (ad 4), .ref (ad 5), .ref (ad 6), .ref (ad 7), .int C_size])), ((ad 5), .inl (cA 0, 7, .inl C_rules)), ((ad 6), .inl (cA 0, 108, .inl C_places)), ((ad 7), .inl (cA 0, 216, .inl C_beyond))] 8 [(0, .ref (ad 1)), (1, .long x1), (3, .int x3), (4, .int x4), (5, .int x5)] [] 6
theorem giX0_seamsGrowth_X0 : ∀ w ∈ u_ws RX0 TX0 7, w ∈ wsX0_seamsGrowth := by decide +kernel
theorem gfX0_seamsGrowth_27 : gF wsX0_seamsGrowth RX0 27 0 5 RX0 TX0 7 := ⟨giX0_seamsGrowth_X0, by decide +kernel, rfl, by decide⟩
theorem gfX0_seamsGrowth_21 : gF wsX0_seamsGrowth RX0 21 0 3 RX0 TX0 7 := ⟨giX0_seamsGrowth_X0, by decide +kernel, rfl, by decide⟩
set_option maxHeartbeats 4000000 in
set_option maxRecDepth 100000 in
theorem sgX0_seamsGrowth_0 {X : gX} {ad : Nat → Nat} {cA : Nat → ClassId} {post : Int32 → (Unit) → Prop} {p1 : Int64} {p2 : Int32} {C_size : Int32} {C_rules : Nat → Int32} {C_places : Nat → Int32} {C_beyond : Nat → Int32} (C : gC X (gT cA) cX0_seamsGrowth 8 RX0 wsX0_seamsGrowth rmX0_seamsGrowth) (E : gEi X (some .int) (gT cA) 0 0 post (w1X0_seamsGrowth ad cA C_size C_rules C_places C_beyond)) (h : atX0_seamsGrowth_6 X ad cA p1 p2 (0 : Int32) (0 : Int32) C_size C_rules C_places C_beyond) : atX0_seamsGrowth_0 X ad cA p1 p2 C_size C_rules C_places C_beyond := by
  refine g_iconst C dX0_seamsGrowth_0 ik_0 ?_
  refine g_istore (lv2 := [(0, .ref (ad 1)), (1, .long p1), (3, .int p2), (4, .int (0 : Int32))]) C dX0_seamsGrowth_1 (by decide) [1, 2, 3, 0] rfl ?_
  refine g_iconst C dX0_seamsGrowth_3 ik_0 ?_
  refine g_istore (lv2 := [(0, .ref (ad 1)), (1, .long p1), (3, .int p2), (4, .int (0 : Int32)), (5, .int (0 : Int32))]) C dX0_seamsGrowth_4 (by decide) [1, 2, 3, 4, 0] rfl ?_
  exact g_lv [0, 1, 2, 3, 4] rfl h
set_option maxHeartbeats 4000000 in
set_option maxRecDepth 100000 in
theorem sgX0_seamsGrowth_6 {X : gX} {ad : Nat → Nat} {cA : Nat → ClassId} {post : Int32 → (Unit) → Prop} {x1 : Int64} {x3 : Int32} {x4 : Int32} {x5 : Int32} {C_size : Int32} {C_rules : Nat → Int32} {C_places : Nat → Int32} {C_beyond : Nat → Int32} (C : gC X (gT cA) cX0_seamsGrowth 8 RX0 wsX0_seamsGrowth rmX0_seamsGrowth) (E : gEi X (some .int) (gT cA) 0 0 post (w1X0_seamsGrowth ad cA C_size C_rules C_places C_beyond)) (h : ((6 : Int32) ≤ x5 → post x4 ()) ∧ (¬ (6 : Int32) ≤ x5 → vp_in ((x3 * (6 : Int32)) + x5) 216 ∧ ∀ x6_3 : Int32, x6_3 = (C_beyond ((x3 * (6 : Int32)) + x5).toNatClampNeg) → ((x6_3 = (-1 : Int32) → True) ∧ (¬ x6_3 = (-1 : Int32) → vp_in (6 : Int32) 7 ∧ prX0_seamCost (C_rules (6 : Int32).toNatClampNeg) x3 x5 C_size C_rules C_places)) ∧ atX0_seamsGrowth_6 X ad cA x1 x3 (if x6_3 = (-1 : Int32) then x4 else (x4 + (if (fnX0_holds x1 x6_3) = true then (-(fnX0_seamCost (C_rules (6 : Int32).toNatClampNeg) x3 x5 C_size C_rules C_places)) else (fnX0_seamCost (C_rules (6 : Int32).toNatClampNeg) x3 x5 C_size C_rules C_places)))) (x5 + 1) C_size C_rules C_places C_beyond)) : atX0_seamsGrowth_6 X ad cA x1 x3 x4 x5 C_size C_rules C_places C_beyond := by
  refine g_iload C dX0_seamsGrowth_6 4 rfl ?_
  refine g_bipush C dX0_seamsGrowth_8 bk_6 ?_
  refine g_icmp_ge (tgt := 77) C dX0_seamsGrowth_10 (by decide) (fun c_1 => ?_) (fun c_1 => ?_)
  · replace h := h.1 c_1
    refine g_iload C dX0_seamsGrowth_77 3 rfl ?_
    exact g_iret C E () h rfl dX0_seamsGrowth_79
  · replace h := h.2 c_1
    refine g_aload_n C dX0_seamsGrowth_13 rfl 0 rfl ?_
    refine g_get C gfX0_seamsGrowth_27 0 rfl rfl dX0_seamsGrowth_14 ?_
    refine g_iload_n C dX0_seamsGrowth_17 rfl 2 rfl ?_
    refine g_bipush C dX0_seamsGrowth_18 bk_6 ?_
    refine g_imul C dX0_seamsGrowth_20 ?_
    refine g_iload C dX0_seamsGrowth_21 4 rfl ?_
    refine g_iadd C dX0_seamsGrowth_23 ?_
    obtain ⟨hi_2, h⟩ := h
    refine g_iald C 3 0 rfl rfl hi_2 dX0_seamsGrowth_24 ?_
    refine g_topi (fun x6_3 ex6_3 => ?_)
    replace h := h x6_3 ex6_3
    refine g_istore (lv2 := [(0, .ref (ad 1)), (1, .long x1), (3, .int x3), (4, .int x4), (5, .int x5), (6, .int x6_3)]) C dX0_seamsGrowth_25 (by decide) [1, 2, 3, 4, 5, 0] rfl ?_
    refine g_iload C dX0_seamsGrowth_27 5 rfl ?_
    refine g_iconst C dX0_seamsGrowth_29 ik_m1 ?_
    obtain ⟨hr_71, h⟩ := h
    have key : gW X 0 0 [((ad 1), .inr (0, [.ref (ad 2), .ref (ad 3), .ref (ad 4), .ref (ad 5), .ref (ad 6), .ref (ad 7), .int C_size])), ((ad 5), .inl (cA 0, 7, .inl C_rules)), ((ad 6), .inl (cA 0, 108, .inl C_places)), ((ad 7), .inl (cA 0, 216, .inl C_beyond))] 8 [(0, .ref (ad 1)), (1, .long x1), (3, .int x3), (4, .int (if x6_3 = (-1 : Int32) then x4 else (x4 + (if (fnX0_holds x1 x6_3) = true then (-(fnX0_seamCost (C_rules (6 : Int32).toNatClampNeg) x3 x5 C_size C_rules C_places)) else (fnX0_seamCost (C_rules (6 : Int32).toNatClampNeg) x3 x5 C_size C_rules C_places))))), (5, .int x5), (6, .int x6_3)] [] 71 := by
      refine g_iinc (v := (x5 + 1)) (lv2 := [(0, .ref (ad 1)), (1, .long x1), (3, .int x3), (4, .int (if x6_3 = (-1 : Int32) then x4 else (x4 + (if (fnX0_holds x1 x6_3) = true then (-(fnX0_seamCost (C_rules (6 : Int32).toNatClampNeg) x3 x5 C_size C_rules C_places)) else (fnX0_seamCost (C_rules (6 : Int32).toNatClampNeg) x3 x5 C_size C_rules C_places))))), (5, .int (x5 + 1)), (6, .int x6_3)]) C dX0_seamsGrowth_71 4 rfl (by first | rfl | decide) (by decide) [1, 2, 3, 4, 0, 5] rfl ?_
      refine g_goto (tgt := 6) C dX0_seamsGrowth_74 (by decide) ?_
      exact g_lv [0, 1, 2, 3, 4] rfl h
    replace h := hr_71
    refine g_icmp_eq (tgt := 71) C dX0_seamsGrowth_30 (by decide) (fun c_4 => ?_) (fun c_4 => ?_)
    · replace h := h.1 c_4
      exact g_leaf (by simp only [if_pos c_4] at key; first | exact key | (simp only [if_pos c_4]; exact key) | exact absurd rfl c_4)
    · replace h := h.2 c_4
      refine g_aload_n C dX0_seamsGrowth_33 rfl 0 rfl ?_
      refine g_aload_n C dX0_seamsGrowth_34 rfl 0 rfl ?_
      refine g_get C gfX0_seamsGrowth_21 0 rfl rfl dX0_seamsGrowth_35 ?_
      refine g_bipush C dX0_seamsGrowth_38 bk_6 ?_
      obtain ⟨hi_5, h⟩ := h
      refine g_iald C 1 0 rfl rfl hi_5 dX0_seamsGrowth_40 ?_
      refine g_iload_n C dX0_seamsGrowth_41 rfl 2 rfl ?_
      refine g_iload C dX0_seamsGrowth_42 4 rfl ?_
      have hi_6 := h
      refine g_callVi (wr := [((ad 7), .inl (cA 0, 216, .inl C_beyond))]) C (c_X0_seamCost ad cA (C_rules (6 : Int32).toNatClampNeg) x3 x5 C_size C_rules C_places hi_6) gX0_seamsGrowth_X0_seamCost rfl hde_X0_seamCost ⟨rfl, rfl⟩ (by decide) (by decide) [0, 1, 2] [3] [1, 2, 3, 0] rfl rfl rfl rfl (by decide) rfl (ws2 := fun u => [((ad 1), .inr (0, [.ref (ad 2), .ref (ad 3), .ref (ad 4), .ref (ad 5), .ref (ad 6), .ref (ad 7), .int C_size])), ((ad 5), .inl (cA 0, 7, .inl C_rules)), ((ad 6), .inl (cA 0, 108, .inl C_places)), ((ad 7), .inl (cA 0, 216, .inl C_beyond))]) (fun _ => rfl) 0 0 rfl rfl rfl (rest := []) rfl (Nat.le_of_ble_eq_true rfl) dX0_seamsGrowth_44 (fun r_7 u_7 hp_7 => ?_)
      subst hp_7
      change gW X 0 0 [((ad 1), .inr (0, [.ref (ad 2), .ref (ad 3), .ref (ad 4), .ref (ad 5), .ref (ad 6), .ref (ad 7), .int C_size])), ((ad 5), .inl (cA 0, 7, .inl C_rules)), ((ad 6), .inl (cA 0, 108, .inl C_places)), ((ad 7), .inl (cA 0, 216, .inl C_beyond))] 8 [(0, .ref (ad 1)), (1, .long x1), (3, .int x3), (4, .int x4), (5, .int x5), (6, .int x6_3)] [.int (fnX0_seamCost (C_rules (6 : Int32).toNatClampNeg) x3 x5 C_size C_rules C_places)] 47
      refine g_istore (lv2 := [(0, .ref (ad 1)), (1, .long x1), (3, .int x3), (4, .int x4), (5, .int x5), (6, .int x6_3), (7, .int (fnX0_seamCost (C_rules (6 : Int32).toNatClampNeg) x3 x5 C_size C_rules C_places))]) C dX0_seamsGrowth_47 (by decide) [1, 2, 3, 4, 5, 6, 0] rfl ?_
      refine g_iload C dX0_seamsGrowth_49 3 rfl ?_
      refine g_lload_n C dX0_seamsGrowth_51 rfl 1 rfl ?_
      refine g_iload C dX0_seamsGrowth_52 5 rfl ?_
      refine g_callSi (b := 0) (wr := [((ad 1), .inr (0, [.ref (ad 2), .ref (ad 3), .ref (ad 4), .ref (ad 5), .ref (ad 6), .ref (ad 7), .int C_size])), ((ad 5), .inl (cA 0, 7, .inl C_rules)), ((ad 6), .inl (cA 0, 108, .inl C_places)), ((ad 7), .inl (cA 0, 216, .inl C_beyond))]) C (c_X0_holds ad cA x1 x6_3) gX0_seamsGrowth_X0_holds rfl hde_X0_holds ⟨rfl, rfl⟩ (by decide) (by decide) [] [0, 1, 2, 3] [0, 1, 2, 3] rfl rfl rfl rfl (by decide) rfl (ws2 := fun u => [((ad 1), .inr (0, [.ref (ad 2), .ref (ad 3), .ref (ad 4), .ref (ad 5), .ref (ad 6), .ref (ad 7), .int C_size])), ((ad 5), .inl (cA 0, 7, .inl C_rules)), ((ad 6), .inl (cA 0, 108, .inl C_places)), ((ad 7), .inl (cA 0, 216, .inl C_beyond))]) (fun _ => rfl) (rest := [.int x4]) rfl (Nat.le_of_ble_eq_true rfl) dX0_seamsGrowth_54 (fun r_8 u_8 hp_8 => ?_)
      subst hp_8
      change gW X 0 0 [((ad 1), .inr (0, [.ref (ad 2), .ref (ad 3), .ref (ad 4), .ref (ad 5), .ref (ad 6), .ref (ad 7), .int C_size])), ((ad 5), .inl (cA 0, 7, .inl C_rules)), ((ad 6), .inl (cA 0, 108, .inl C_places)), ((ad 7), .inl (cA 0, 216, .inl C_beyond))] 8 [(0, .ref (ad 1)), (1, .long x1), (3, .int x3), (4, .int x4), (5, .int x5), (6, .int x6_3), (7, .int (fnX0_seamCost (C_rules (6 : Int32).toNatClampNeg) x3 x5 C_size C_rules C_places))] [.int (bI (fnX0_holds x1 x6_3)), .int x4] 57
      have key : gW X 0 0 [((ad 1), .inr (0, [.ref (ad 2), .ref (ad 3), .ref (ad 4), .ref (ad 5), .ref (ad 6), .ref (ad 7), .int C_size])), ((ad 5), .inl (cA 0, 7, .inl C_rules)), ((ad 6), .inl (cA 0, 108, .inl C_places)), ((ad 7), .inl (cA 0, 216, .inl C_beyond))] 8 [(0, .ref (ad 1)), (1, .long x1), (3, .int x3), (4, .int x4), (5, .int x5), (6, .int x6_3), (7, .int (fnX0_seamCost (C_rules (6 : Int32).toNatClampNeg) x3 x5 C_size C_rules C_places))] [.int (if (fnX0_holds x1 x6_3) = true then (-(fnX0_seamCost (C_rules (6 : Int32).toNatClampNeg) x3 x5 C_size C_rules C_places)) else (fnX0_seamCost (C_rules (6 : Int32).toNatClampNeg) x3 x5 C_size C_rules C_places)), .int x4] 68 := by
        refine g_iadd C dX0_seamsGrowth_68 ?_
        refine g_istore (lv2 := [(0, .ref (ad 1)), (1, .long x1), (3, .int x3), (4, .int (x4 + (if (fnX0_holds x1 x6_3) = true then (-(fnX0_seamCost (C_rules (6 : Int32).toNatClampNeg) x3 x5 C_size C_rules C_places)) else (fnX0_seamCost (C_rules (6 : Int32).toNatClampNeg) x3 x5 C_size C_rules C_places)))), (5, .int x5), (6, .int x6_3), (7, .int (fnX0_seamCost (C_rules (6 : Int32).toNatClampNeg) x3 x5 C_size C_rules C_places))]) C dX0_seamsGrowth_69 (by decide) [1, 2, 3, 0, 4, 5, 6] rfl ?_
        exact g_lv [0, 1, 2, 3, 4, 5] rfl (by simp only [if_neg c_4] at key; first | exact key | (simp only [if_neg c_4]; exact key))
      refine g_ifeq_b (tgt := 66) C dX0_seamsGrowth_57 (by decide) (fun c_9 => ?_) (fun c_9 => ?_)
      · refine g_iload C dX0_seamsGrowth_66 6 rfl ?_
        exact g_leaf (by simp only [if_neg (show ¬ (fnX0_holds x1 x6_3) = true from by rw [c_9]; decide)] at key; first | exact key | (simp only [if_neg (show ¬ (fnX0_holds x1 x6_3) = true from by rw [c_9]; decide)]; exact key) | exact absurd rfl decide))
      · refine g_iload C dX0_seamsGrowth_60 6 rfl ?_
        refine g_ineg C dX0_seamsGrowth_62 ?_
        refine g_goto (tgt := 68) C dX0_seamsGrowth_63 (by decide) ?_
        exact g_leaf (by simp only [if_pos c_9] at key; first | exact key | (simp only [if_pos c_9]; exact key) | exact absurd rfl c_9)
def prX0_seamsGrowth (p1 : Int64) (p2 : Int32) (C_size : Int32) (C_rules : Nat → Int32) (C_places : Nat → Int32) (C_beyond : Nat → Int32) : Prop := ∃ n c, grOK n C_beyond C_places ∧ ruOK C_rules ∧ c < n ∧ p2 = nI c
set_option maxHeartbeats 4000000 in
set_option maxRecDepth 100000 in
theorem c_X0_seamsGrowth (ad : Nat → Nat) (cA : Nat → ClassId) (p1 : Int64) (p2 : Int32) (C_size : Int32) (C_rules : Nat → Int32) (C_places : Nat → Int32) (C_beyond : Nat → Int32) (hq : prX0_seamsGrowth p1 p2 C_size C_rules C_places C_beyond) : ∀ (l : Launch) (D : va_G), gMi (S := Unit) l yX0_seamsGrowth wsX0_seamsGrowth rmX0_seamsGrowth D (gT cA) 0 0 [.ref (ad 1), .long p1, .int p2] (wcX0_seamsGrowth ad cA C_size C_rules C_places C_beyond) (fun r _ => r = iI (grwA C_rules C_places C_beyond (sb p1) p2.toNatClampNeg)) (w1X0_seamsGrowth ad cA C_size C_rules C_places C_beyond) := by
  intro l D
  unfold prX0_seamsGrowth at hq
  refine g_enteri (cc := cX0_seamsGrowth) (nL := 8) (ret := (some .int)) (by decide) rfl (Nat.le_of_ble_eq_true rfl) rfl (fun X C E => ?_)
  obtain ⟨n, c, hg, hr, hc, rfl⟩ := hq
  rw [nI_clamp (by have := hg.2.1; omega)] at E
  obtain ⟨kd, hkd, ekd⟩ := hr.2.2.2
  have hn := hg.2.1
  obtain ⟨hpl, hbe⟩ := hg.2.2 c hc
  refine sgX0_seamsGrowth_0 C E ?_
  generalize ht : (fun s => if C_beyond (6 * c + s) = -1 then (0 : Int) else if sb p1 (C_beyond (6 * c + s)).toNatClampNeg = true then -cwA C_rules C_places (C_rules 6).toNatClampNeg c s else cwA C_rules C_places (C_rules 6).toNatClampNeg c s) = t at E
  have loop : ∀ s, s ≤ 6 → atX0_seamsGrowth_6 X ad cA p1 (nI c) (iI (sumZ t s)) (nI s) C_size C_rules C_places C_beyond := by
    intro s hs
    refine up_loop (P := fun s => atX0_seamsGrowth_6 X ad cA p1 (nI c) (iI (sumZ t s)) (nI s) C_size C_rules C_places C_beyond) 6 ?_ (fun s hs ih => ?_) s hs
    · exact sgX0_seamsGrowth_6 C E ⟨fun _ => by rw [← ht]; rfl, fun c => absurd (i32_le_refl _) c⟩
    · refine sgX0_seamsGrowth_6 C E ⟨fun c => absurd c (nI_ge (b := 6) hs (by decide)), fun _ => ?_⟩
      have e2 : nI c * (6 : Int32) + nI s = nI (6 * c + s) := by show nI c * nI 6 + _ = _; rw [pk_mul, nI_add, Nat.mul_comm]
      rw [e2, nI_clamp (by omega), nI_1]
      refine ⟨vp_in_nI (by omega) (by decide), fun v ev => ?_⟩
      have r6 : C_rules (6 : Int32).toNatClampNeg = nI kd := ekd
      rw [r6]
      have ekn : (C_rules 6).toNatClampNeg = kd := by rw [ekd]; exact nI_clamp (by omega)
      obtain ⟨p, hp, ep⟩ := hpl (s / 2) (by omega)
      rcases hbe s (by omega) with hb | ⟨d, hd, hdc, hb, hb2, hsp, hcw⟩
      · rw [hb] at ev
        refine ⟨⟨fun _ => trivial, fun c => absurd ev c⟩, ?_⟩
        rw [if_pos ev]
        have tv : t s = 0 := by rw [← ht]; exact if_pos hb
        have e3 : sumZ t (s + 1) = sumZ t s := by rw [sumZ, tv, Int.add_zero]
        rw [← e3]; exact ih
      · rw [hb] at ev
        have hv : ¬ v = -1 := by rw [ev]; exact fun q => absurd (congrArg Int32.toInt q) (by rw [nI_toInt (by omega), show (-1 : Int32).toInt = -1 from rfl]; omega)
        rw [ep, nI_clamp (by omega)] at hsp
        obtain ⟨a1, a2⟩ := scost_eq hr hkd (show c < 36 by omega) (show s < 6 by omega) hp ep hsp C_size
        refine ⟨⟨fun c => absurd c hv, fun _ => ⟨vi_6_7, a1⟩⟩, ?_⟩
        rw [if_neg hv, a2, ev, holds_eq p1 (by omega), iI_neg]
        have tv : t s = (if sb p1 d = true then -cwA C_rules C_places kd c s else cwA C_rules C_places kd c s) := by
          rw [← ht]
          refine (if_neg (by rw [hb, ← ev]; exact hv)).trans ?_
          rw [hb, nI_clamp (by omega), ekn]
        have e3 : sumZ t (s + 1) = sumZ t s + (if sb p1 d = true then -cwA C_rules C_places kd c s else cwA C_rules C_places kd c s) := by rw [sumZ, tv]
        have e4 : iI (sumZ t s) + (if sb p1 d = true then iI (-cwA C_rules C_places kd c s) else iI (cwA C_rules C_places kd c s)) = iI (sumZ t (s + 1)) := by
          rw [e3]; split <;> rw [iI_add]
        rw [e4]; exact ih
  exact loop 0 (Nat.zero_le _)


abbrev w1X0_skinOfCell (ad : Nat → Nat) (cA : Nat → ClassId) (C_size : Int32) (C_rules : Nat → Int32) (C_places : Nat → Int32) (C_beyond : Nat → Int32) (u : Unit) : va_W := [((ad 1), .inr (0, [.ref (ad 2), .ref (ad 3), .ref (ad 4), .ref (ad 5), .ref (ad 6), .ref (ad 7), .int C_size])), ((ad 5), .inl (cA 0, 7, .inl C_rules)), ((ad 6), .inl (cA 0, 108, .inl C_places)), ((ad 7), .inl (cA 0, 216, .inl C_beyond))]
abbrev wcX0_skinOfCell (ad : Nat → Nat) (cA : Nat → ClassId) (C_size : Int32) (C_rules : Nat → Int32) (C_places : Nat → Int32) (C_beyond : Nat → Int32) : va_W := [((ad 1), .inr (0, [.ref (ad 2), .ref (ad 3), .ref (ad 4), .ref (ad 5), .ref (ad 6), .ref (ad 7), .int C_size])), ((ad 5), .inl (cA 0, 7, .inl C_rules)), ((ad 6), .inl (cA 0, 108, .inl C_places)), ((ad 7), .inl (cA 0, 216, .inl C_beyond))]
def rmX0_skinOfCell : Room := { frames := 2, cells := 0, slots := 0, locals := 39 }
abbrev atX0_skinOfCell_0 (X : gX) (ad : Nat → Nat) (cA : Nat → ClassId) (p1 : Int64) (p2 : Int32) (C_size : Int32) (C_rules : Nat → Int32) (C_places : Nat → Int32) (C_beyond : Nat → Int32) : Prop := gW X 0 0 [((ad 1), .inr (0, [.ref (ad 2), .ref (ad 3), .ref (ad 4), .ref (ad 5), .ref (ad 6), .ref (ad 7), .int C_size])), ((ad 5), .inl (cA 0, 7, .inl C_rules)), ((ad 6), .inl (cA 0, 108, .inl C_places)), ((ad 7), .inl (cA 0, 216, .inl C_beyond))] 7 [(0, .ref (ad 1)), (1, .long p1), (3, .int p2)] [] 0
abbrev atX0_skinOfCell_6 (X : gX) (ad : Nat → Nat) (cA : Nat → ClassId) (x1 : Int64) (x3 : Int32) (x4 : Int32) (x5 : Int32) (C_size : Int32) (C_rules : Nat → Int32) (C_places : Nat → Int32) (C_beyond : Nat → Int32) : Prop := gW X 0 0 [((ad 1), .inr (0, [.ref (ad 2), .ref (ad 3), .ref (ad 4), .ref (ad 5), .ref (ad 6), .ref (ad 7), .int C_size])), ((ad 5), .inl (cA 0, 7, .inl C_rules)), ((ad 6), .inl (cA 0, 108, .inl C_places)), ((ad 7), .inl (cA 0, 216, .inl C_beyond))] 7 [(0, .ref (ad 1)), (1, .long x1), (3, .int x3), (4, .int x4), (5, .int x5)] [] 6
theorem giX0_skinOfCell_X0 : ∀ w ∈ u_ws RX0 TX0 7, w ∈ wsX0_skinOfCell := by decide +kernel
theorem gfX0_skinOfCell_27 : gF wsX0_skinOfCell RX0 27 0 5 RX0 TX0 7 := ⟨giX0_skinOfCell_X0, by decide +kernel, rfl, by decide⟩
theorem gfX0_skinOfCell_21 : gF wsX0_skinOfCell RX0 21 0 3 RX0 TX0 7 := ⟨giX0_skinOfCell_X0, by decide +kernel, rfl, by decide⟩
set_option maxHeartbeats 4000000 in
set_option maxRecDepth 100000 in
theorem sgX0_skinOfCell_0 {X : gX} {ad : Nat → Nat} {cA : Nat → ClassId} {post : Int32 → (Unit) → Prop} {p1 : Int64} {p2 : Int32} {C_size : Int32} {C_rules : Nat → Int32} {C_places : Nat → Int32} {C_beyond : Nat → Int32} (C : gC X (gT cA) cX0_skinOfCell 7 RX0 wsX0_skinOfCell rmX0_skinOfCell) (E : gEi X (some .int) (gT cA) 0 0 post (w1X0_skinOfCell ad cA C_size C_rules C_places C_beyond)) (h : atX0_skinOfCell_6 X ad cA p1 p2 (0 : Int32) (0 : Int32) C_size C_rules C_places C_beyond) : atX0_skinOfCell_0 X ad cA p1 p2 C_size C_rules C_places C_beyond := by
  refine g_iconst C dX0_skinOfCell_0 ik_0 ?_
  refine g_istore (lv2 := [(0, .ref (ad 1)), (1, .long p1), (3, .int p2), (4, .int (0 : Int32))]) C dX0_skinOfCell_1 (by decide) [1, 2, 3, 0] rfl ?_
  refine g_iconst C dX0_skinOfCell_3 ik_0 ?_
  refine g_istore (lv2 := [(0, .ref (ad 1)), (1, .long p1), (3, .int p2), (4, .int (0 : Int32)), (5, .int (0 : Int32))]) C dX0_skinOfCell_4 (by decide) [1, 2, 3, 4, 0] rfl ?_
  exact g_lv [0, 1, 2, 3, 4] rfl h
set_option maxHeartbeats 4000000 in
set_option maxRecDepth 100000 in
theorem sgX0_skinOfCell_6 {X : gX} {ad : Nat → Nat} {cA : Nat → ClassId} {post : Int32 → (Unit) → Prop} {x1 : Int64} {x3 : Int32} {x4 : Int32} {x5 : Int32} {C_size : Int32} {C_rules : Nat → Int32} {C_places : Nat → Int32} {C_beyond : Nat → Int32} (C : gC X (gT cA) cX0_skinOfCell 7 RX0 wsX0_skinOfCell rmX0_skinOfCell) (E : gEi X (some .int) (gT cA) 0 0 post (w1X0_skinOfCell ad cA C_size C_rules C_places C_beyond)) (h : ((6 : Int32) ≤ x5 → post x4 ()) ∧ (¬ (6 : Int32) ≤ x5 → vp_in ((x3 * (6 : Int32)) + x5) 216 ∧ ∀ x6_3 : Int32, x6_3 = (C_beyond ((x3 * (6 : Int32)) + x5).toNatClampNeg) → ((¬ x6_3 = (-1 : Int32) → ((fnX0_holds x1 x6_3) = true → True) ∧ ((fnX0_holds x1 x6_3) = false → vp_in (6 : Int32) 7 ∧ prX0_seamCost (C_rules (6 : Int32).toNatClampNeg) x3 x5 C_size C_rules C_places)) ∧ (x6_3 = (-1 : Int32) → vp_in (3 : Int32) 7)) ∧ atX0_skinOfCell_6 X ad cA x1 x3 (if x6_3 = (-1 : Int32) then (x4 + (C_rules (3 : Int32).toNatClampNeg)) else (if (fnX0_holds x1 x6_3) = true then x4 else (x4 + (fnX0_seamCost (C_rules (6 : Int32).toNatClampNeg) x3 x5 C_size C_rules C_places)))) (x5 + 1) C_size C_rules C_places C_beyond)) : atX0_skinOfCell_6 X ad cA x1 x3 x4 x5 C_size C_rules C_places C_beyond := by
  refine g_iload C dX0_skinOfCell_6 4 rfl ?_
  refine g_bipush C dX0_skinOfCell_8 bk_6 ?_
  refine g_icmp_ge (tgt := 81) C dX0_skinOfCell_10 (by decide) (fun c_1 => ?_) (fun c_1 => ?_)
  · replace h := h.1 c_1
    refine g_iload C dX0_skinOfCell_81 3 rfl ?_
    exact g_iret C E () h rfl dX0_skinOfCell_83
  · replace h := h.2 c_1
    refine g_aload_n C dX0_skinOfCell_13 rfl 0 rfl ?_
    refine g_get C gfX0_skinOfCell_27 0 rfl rfl dX0_skinOfCell_14 ?_
    refine g_iload_n C dX0_skinOfCell_17 rfl 2 rfl ?_
    refine g_bipush C dX0_skinOfCell_18 bk_6 ?_
    refine g_imul C dX0_skinOfCell_20 ?_
    refine g_iload C dX0_skinOfCell_21 4 rfl ?_
    refine g_iadd C dX0_skinOfCell_23 ?_
    obtain ⟨hi_2, h⟩ := h
    refine g_iald C 3 0 rfl rfl hi_2 dX0_skinOfCell_24 ?_
    refine g_topi (fun x6_3 ex6_3 => ?_)
    replace h := h x6_3 ex6_3
    refine g_istore (lv2 := [(0, .ref (ad 1)), (1, .long x1), (3, .int x3), (4, .int x4), (5, .int x5), (6, .int x6_3)]) C dX0_skinOfCell_25 (by decide) [1, 2, 3, 4, 5, 0] rfl ?_
    refine g_iload C dX0_skinOfCell_27 5 rfl ?_
    refine g_iconst C dX0_skinOfCell_29 ik_m1 ?_
    obtain ⟨hr_75, h⟩ := h
    have key : gW X 0 0 [((ad 1), .inr (0, [.ref (ad 2), .ref (ad 3), .ref (ad 4), .ref (ad 5), .ref (ad 6), .ref (ad 7), .int C_size])), ((ad 5), .inl (cA 0, 7, .inl C_rules)), ((ad 6), .inl (cA 0, 108, .inl C_places)), ((ad 7), .inl (cA 0, 216, .inl C_beyond))] 7 [(0, .ref (ad 1)), (1, .long x1), (3, .int x3), (4, .int (if x6_3 = (-1 : Int32) then (x4 + (C_rules (3 : Int32).toNatClampNeg)) else (if (fnX0_holds x1 x6_3) = true then x4 else (x4 + (fnX0_seamCost (C_rules (6 : Int32).toNatClampNeg) x3 x5 C_size C_rules C_places))))), (5, .int x5), (6, .int x6_3)] [] 75 := by
      refine g_iinc (v := (x5 + 1)) (lv2 := [(0, .ref (ad 1)), (1, .long x1), (3, .int x3), (4, .int (if x6_3 = (-1 : Int32) then (x4 + (C_rules (3 : Int32).toNatClampNeg)) else (if (fnX0_holds x1 x6_3) = true then x4 else (x4 + (fnX0_seamCost (C_rules (6 : Int32).toNatClampNeg) x3 x5 C_size C_rules C_places))))), (5, .int (x5 + 1)), (6, .int x6_3)]) C dX0_skinOfCell_75 4 rfl (by first | rfl | decide) (by decide) [1, 2, 3, 4, 0, 5] rfl ?_
      refine g_goto (tgt := 6) C dX0_skinOfCell_78 (by decide) ?_
      exact g_lv [0, 1, 2, 3, 4] rfl h
    replace h := hr_75
    refine g_icmp_ne (tgt := 47) C dX0_skinOfCell_30 (by decide) (fun c_4 => ?_) (fun c_4 => ?_)
    · replace h := h.1 c_4
      refine g_lload_n C dX0_skinOfCell_47 rfl 1 rfl ?_
      refine g_iload C dX0_skinOfCell_48 5 rfl ?_
      refine g_callSi (b := 0) (wr := [((ad 1), .inr (0, [.ref (ad 2), .ref (ad 3), .ref (ad 4), .ref (ad 5), .ref (ad 6), .ref (ad 7), .int C_size])), ((ad 5), .inl (cA 0, 7, .inl C_rules)), ((ad 6), .inl (cA 0, 108, .inl C_places)), ((ad 7), .inl (cA 0, 216, .inl C_beyond))]) C (c_X0_holds ad cA x1 x6_3) gX0_skinOfCell_X0_holds rfl hde_X0_holds ⟨rfl, rfl⟩ (by decide) (by decide) [] [0, 1, 2, 3] [0, 1, 2, 3] rfl rfl rfl rfl (by decide) rfl (ws2 := fun u => [((ad 1), .inr (0, [.ref (ad 2), .ref (ad 3), .ref (ad 4), .ref (ad 5), .ref (ad 6), .ref (ad 7), .int C_size])), ((ad 5), .inl (cA 0, 7, .inl C_rules)), ((ad 6), .inl (cA 0, 108, .inl C_places)), ((ad 7), .inl (cA 0, 216, .inl C_beyond))]) (fun _ => rfl) (rest := []) rfl (Nat.le_of_ble_eq_true rfl) dX0_skinOfCell_50 (fun r_5 u_5 hp_5 => ?_)
      subst hp_5
      change gW X 0 0 [((ad 1), .inr (0, [.ref (ad 2), .ref (ad 3), .ref (ad 4), .ref (ad 5), .ref (ad 6), .ref (ad 7), .int C_size])), ((ad 5), .inl (cA 0, 7, .inl C_rules)), ((ad 6), .inl (cA 0, 108, .inl C_places)), ((ad 7), .inl (cA 0, 216, .inl C_beyond))] 7 [(0, .ref (ad 1)), (1, .long x1), (3, .int x3), (4, .int x4), (5, .int x5), (6, .int x6_3)] [.int (bI (fnX0_holds x1 x6_3))] 53
      have hr_75 := h
      have key : gW X 0 0 [((ad 1), .inr (0, [.ref (ad 2), .ref (ad 3), .ref (ad 4), .ref (ad 5), .ref (ad 6), .ref (ad 7), .int C_size])), ((ad 5), .inl (cA 0, 7, .inl C_rules)), ((ad 6), .inl (cA 0, 108, .inl C_places)), ((ad 7), .inl (cA 0, 216, .inl C_beyond))] 7 [(0, .ref (ad 1)), (1, .long x1), (3, .int x3), (4, .int (if (fnX0_holds x1 x6_3) = true then x4 else (x4 + (fnX0_seamCost (C_rules (6 : Int32).toNatClampNeg) x3 x5 C_size C_rules C_places)))), (5, .int x5), (6, .int x6_3)] [] 75 := by
        exact g_leaf (by simp only [if_neg c_4] at key; first | exact key | (simp only [if_neg c_4]; exact key) | exact absurd rfl c_4)
      replace h := hr_75
      refine g_ifne_b (tgt := 75) C dX0_skinOfCell_53 (by decide) (fun c_6 => ?_) (fun c_6 => ?_)
      · replace h := h.1 c_6
        exact g_leaf (by simp only [if_pos c_6] at key; first | exact key | (simp only [if_pos c_6]; exact key) | exact absurd rfl c_6)
      · replace h := h.2 c_6
        refine g_iload C dX0_skinOfCell_56 3 rfl ?_
        refine g_aload_n C dX0_skinOfCell_58 rfl 0 rfl ?_
        refine g_aload_n C dX0_skinOfCell_59 rfl 0 rfl ?_
        refine g_get C gfX0_skinOfCell_21 0 rfl rfl dX0_skinOfCell_60 ?_
        refine g_bipush C dX0_skinOfCell_63 bk_6 ?_
        obtain ⟨hi_7, h⟩ := h
        refine g_iald C 1 0 rfl rfl hi_7 dX0_skinOfCell_65 ?_
        refine g_iload_n C dX0_skinOfCell_66 rfl 2 rfl ?_
        refine g_iload C dX0_skinOfCell_67 4 rfl ?_
        have hi_8 := h
        refine g_callVi (wr := [((ad 7), .inl (cA 0, 216, .inl C_beyond))]) C (c_X0_seamCost ad cA (C_rules (6 : Int32).toNatClampNeg) x3 x5 C_size C_rules C_places hi_8) gX0_skinOfCell_X0_seamCost rfl hde_X0_seamCost ⟨rfl, rfl⟩ (by decide) (by decide) [0, 1, 2] [3] [1, 2, 3, 0] rfl rfl rfl rfl (by decide) rfl (ws2 := fun u => [((ad 1), .inr (0, [.ref (ad 2), .ref (ad 3), .ref (ad 4), .ref (ad 5), .ref (ad 6), .ref (ad 7), .int C_size])), ((ad 5), .inl (cA 0, 7, .inl C_rules)), ((ad 6), .inl (cA 0, 108, .inl C_places)), ((ad 7), .inl (cA 0, 216, .inl C_beyond))]) (fun _ => rfl) 0 0 rfl rfl rfl (rest := [.int x4]) rfl (Nat.le_of_ble_eq_true rfl) dX0_skinOfCell_69 (fun r_9 u_9 hp_9 => ?_)
        subst hp_9
        change gW X 0 0 [((ad 1), .inr (0, [.ref (ad 2), .ref (ad 3), .ref (ad 4), .ref (ad 5), .ref (ad 6), .ref (ad 7), .int C_size])), ((ad 5), .inl (cA 0, 7, .inl C_rules)), ((ad 6), .inl (cA 0, 108, .inl C_places)), ((ad 7), .inl (cA 0, 216, .inl C_beyond))] 7 [(0, .ref (ad 1)), (1, .long x1), (3, .int x3), (4, .int x4), (5, .int x5), (6, .int x6_3)] [.int (fnX0_seamCost (C_rules (6 : Int32).toNatClampNeg) x3 x5 C_size C_rules C_places), .int x4] 72
        refine g_iadd C dX0_skinOfCell_72 ?_
        refine g_istore (lv2 := [(0, .ref (ad 1)), (1, .long x1), (3, .int x3), (4, .int (x4 + (fnX0_seamCost (C_rules (6 : Int32).toNatClampNeg) x3 x5 C_size C_rules C_places))), (5, .int x5), (6, .int x6_3)]) C dX0_skinOfCell_73 (by decide) [1, 2, 3, 0, 4, 5] rfl ?_
        exact g_leaf (by simp only [if_neg (show ¬ (fnX0_holds x1 x6_3) = true from by rw [c_6]; decide)] at key; first | exact key | (simp only [if_neg (show ¬ (fnX0_holds x1 x6_3) = true from by rw [c_6]; decide)]; exact key) | exact absurd rfl decide))
    · replace h := h.2 c_4
      refine g_iload C dX0_skinOfCell_33 3 rfl ?_
      refine g_aload_n C dX0_skinOfCell_35 rfl 0 rfl ?_
      refine g_get C gfX0_skinOfCell_21 0 rfl rfl dX0_skinOfCell_36 ?_
      refine g_iconst C dX0_skinOfCell_39 ik_3 ?_
      have hi_10 := h
      refine g_iald C 1 0 rfl rfl hi_10 dX0_skinOfCell_40 ?_
      refine g_iadd C dX0_skinOfCell_41 ?_
      refine g_istore (lv2 := [(0, .ref (ad 1)), (1, .long x1), (3, .int x3), (4, .int (x4 + (C_rules (3 : Int32).toNatClampNeg))), (5, .int x5), (6, .int x6_3)]) C dX0_skinOfCell_42 (by decide) [1, 2, 3, 0, 4, 5] rfl ?_
      refine g_goto (tgt := 75) C dX0_skinOfCell_44 (by decide) ?_
      exact g_leaf (by simp only [if_pos c_4] at key; first | exact key | (simp only [if_pos c_4]; exact key) | exact absurd rfl c_4)
def prX0_skinOfCell (p1 : Int64) (p2 : Int32) (C_size : Int32) (C_rules : Nat → Int32) (C_places : Nat → Int32) (C_beyond : Nat → Int32) : Prop := ∃ n c, grOK n C_beyond C_places ∧ ruOK C_rules ∧ c < n ∧ p2 = nI c
set_option maxHeartbeats 4000000 in
set_option maxRecDepth 100000 in
theorem c_X0_skinOfCell (ad : Nat → Nat) (cA : Nat → ClassId) (p1 : Int64) (p2 : Int32) (C_size : Int32) (C_rules : Nat → Int32) (C_places : Nat → Int32) (C_beyond : Nat → Int32) (hq : prX0_skinOfCell p1 p2 C_size C_rules C_places C_beyond) : ∀ (l : Launch) (D : va_G), gMi (S := Unit) l yX0_skinOfCell wsX0_skinOfCell rmX0_skinOfCell D (gT cA) 0 0 [.ref (ad 1), .long p1, .int p2] (wcX0_skinOfCell ad cA C_size C_rules C_places C_beyond) (fun r _ => r = iI (skcA C_rules C_places C_beyond (sb p1) p2.toNatClampNeg)) (w1X0_skinOfCell ad cA C_size C_rules C_places C_beyond) := by
  intro l D
  unfold prX0_skinOfCell at hq
  refine g_enteri (cc := cX0_skinOfCell) (nL := 7) (ret := (some .int)) (by decide) rfl (Nat.le_of_ble_eq_true rfl) rfl (fun X C E => ?_)
  obtain ⟨n, c, hg, hr, hc, rfl⟩ := hq
  rw [nI_clamp (by have := hg.2.1; omega)] at E
  obtain ⟨kd, hkd, ekd⟩ := hr.2.2.2
  have hn := hg.2.1
  obtain ⟨hpl, hbe⟩ := hg.2.2 c hc
  refine sgX0_skinOfCell_0 C E ?_
  generalize ht : (fun s => if C_beyond (6 * c + s) = -1 then (C_rules 3).toInt else if sb p1 (C_beyond (6 * c + s)).toNatClampNeg = true then 0 else cwA C_rules C_places (C_rules 6).toNatClampNeg c s) = t at E
  have loop : ∀ s, s ≤ 6 → atX0_skinOfCell_6 X ad cA p1 (nI c) (iI (sumZ t s)) (nI s) C_size C_rules C_places C_beyond := by
    intro s hs
    refine up_loop (P := fun s => atX0_skinOfCell_6 X ad cA p1 (nI c) (iI (sumZ t s)) (nI s) C_size C_rules C_places C_beyond) 6 ?_ (fun s hs ih => ?_) s hs
    · exact sgX0_skinOfCell_6 C E ⟨fun _ => by rw [← ht]; rfl, fun c => absurd (i32_le_refl _) c⟩
    · refine sgX0_skinOfCell_6 C E ⟨fun c => absurd c (nI_ge (b := 6) hs (by decide)), fun _ => ?_⟩
      have e2 : nI c * (6 : Int32) + nI s = nI (6 * c + s) := by show nI c * nI 6 + _ = _; rw [pk_mul, nI_add, Nat.mul_comm]
      rw [e2, nI_clamp (by omega), nI_1]
      refine ⟨vp_in_nI (by omega) (by decide), fun v ev => ?_⟩
      have r6 : C_rules (6 : Int32).toNatClampNeg = nI kd := ekd
      rw [r6]
      have ekn : (C_rules 6).toNatClampNeg = kd := by rw [ekd]; exact nI_clamp (by omega)
      obtain ⟨p, hp, ep⟩ := hpl (s / 2) (by omega)
      rcases hbe s (by omega) with hb | ⟨d, hd, hdc, hb, hb2, hsp, hcw⟩
      · rw [hb] at ev
        refine ⟨⟨fun c => absurd ev c, fun _ => vi_3_7⟩, ?_⟩
        rw [if_pos ev]
        have tv : t s = (C_rules 3).toInt := by rw [← ht]; exact if_pos hb
        have e3 : sumZ t (s + 1) = sumZ t s + (C_rules 3).toInt := by rw [sumZ, tv]
        have e4 : iI (sumZ t s) + C_rules (3 : Int32).toNatClampNeg = iI (sumZ t (s + 1)) := by
          rw [e3, ← iI_add, iI_toInt]; rfl
        rw [e4]; exact ih
      · rw [hb] at ev
        have hv : ¬ v = -1 := by rw [ev]; exact fun q => absurd (congrArg Int32.toInt q) (by rw [nI_toInt (by omega), show (-1 : Int32).toInt = -1 from rfl]; omega)
        rw [ep, nI_clamp (by omega)] at hsp
        obtain ⟨a1, a2⟩ := scost_eq hr hkd (show c < 36 by omega) (show s < 6 by omega) hp ep hsp C_size
        refine ⟨⟨fun _ => ⟨fun _ => trivial, fun _ => ⟨vi_6_7, a1⟩⟩, fun c => absurd c hv⟩, ?_⟩
        rw [if_neg hv, a2, ev, holds_eq p1 (by omega)]
        have tv : t s = (if sb p1 d = true then 0 else cwA C_rules C_places kd c s) := by
          rw [← ht]
          refine (if_neg (by rw [hb, ← ev]; exact hv)).trans ?_
          rw [hb, nI_clamp (by omega), ekn]
        have e3 : sumZ t (s + 1) = sumZ t s + (if sb p1 d = true then 0 else cwA C_rules C_places kd c s) := by rw [sumZ, tv]
        have e4 : (if sb p1 d = true then iI (sumZ t s) else iI (sumZ t s) + iI (cwA C_rules C_places kd c s)) = iI (sumZ t (s + 1)) := by
          rw [e3]; split
          · rw [Int.add_zero]
          · rw [iI_add]
        rw [e4]; exact ih
  exact loop 0 (Nat.zero_le _)


theorem skcA_bd {ru : Nat → Int32} (h : ruOK ru) (pl be : Nat → Int32) (S : Nat → Bool) (c : Nat) : 0 ≤ skcA ru pl be S c ∧ skcA ru pl be S c ≤ 108 := by
  have := sumZ_bd (f := fun s => if be (6 * c + s) = -1 then (ru 3).toInt else if S (be (6 * c + s)).toNatClampNeg = true then 0 else cwA ru pl (ru 6).toNatClampNeg c s) (n := 6) (a := 0) (b := 18) (fun s hs => by
    have h3 := h.1 3 (by omega)
    have h4 := cwA_bd h pl (ru 6).toNatClampNeg c hs
    (repeat' split) <;> omega)
  unfold skcA
  omega

abbrev w1X0_skinOf (ad : Nat → Nat) (cA : Nat → ClassId) (C_size : Int32) (C_rules : Nat → Int32) (C_places : Nat → Int32) (C_beyond : Nat → Int32) (u : Unit) : va_W := [((ad 1), .inr (0, [.ref (ad 2), .ref (ad 3), .ref (ad 4), .ref (ad 5), .ref (ad 6), .ref (ad 7), .int C_size])), ((ad 5), .inl (cA 0, 7, .inl C_rules)), ((ad 6), .inl (cA 0, 108, .inl C_places)), ((ad 7), .inl (cA 0, 216, .inl C_beyond))]
abbrev wcX0_skinOf (ad : Nat → Nat) (cA : Nat → ClassId) (C_size : Int32) (C_rules : Nat → Int32) (C_places : Nat → Int32) (C_beyond : Nat → Int32) : va_W := [((ad 1), .inr (0, [.ref (ad 2), .ref (ad 3), .ref (ad 4), .ref (ad 5), .ref (ad 6), .ref (ad 7), .int C_size])), ((ad 5), .inl (cA 0, 7, .inl C_rules)), ((ad 6), .inl (cA 0, 108, .inl C_places)), ((ad 7), .inl (cA 0, 216, .inl C_beyond))]
def rmX0_skinOf : Room := { frames := 3, cells := 0, slots := 0, locals := 65 }
abbrev atX0_skinOf_0 (X : gX) (ad : Nat → Nat) (cA : Nat → ClassId) (p1 : Int64) (C_size : Int32) (C_rules : Nat → Int32) (C_places : Nat → Int32) (C_beyond : Nat → Int32) : Prop := gW X 0 0 [((ad 1), .inr (0, [.ref (ad 2), .ref (ad 3), .ref (ad 4), .ref (ad 5), .ref (ad 6), .ref (ad 7), .int C_size])), ((ad 5), .inl (cA 0, 7, .inl C_rules)), ((ad 6), .inl (cA 0, 108, .inl C_places)), ((ad 7), .inl (cA 0, 216, .inl C_beyond))] 6 [(0, .ref (ad 1)), (1, .long p1)] [] 0
abbrev atX0_skinOf_5 (X : gX) (ad : Nat → Nat) (cA : Nat → ClassId) (x1 : Int64) (x3 : Int64) (x5 : Int32) (C_size : Int32) (C_rules : Nat → Int32) (C_places : Nat → Int32) (C_beyond : Nat → Int32) : Prop := gW X 0 0 [((ad 1), .inr (0, [.ref (ad 2), .ref (ad 3), .ref (ad 4), .ref (ad 5), .ref (ad 6), .ref (ad 7), .int C_size])), ((ad 5), .inl (cA 0, 7, .inl C_rules)), ((ad 6), .inl (cA 0, 108, .inl C_places)), ((ad 7), .inl (cA 0, 216, .inl C_beyond))] 6 [(0, .ref (ad 1)), (1, .long x1), (3, .long x3), (5, .int x5)] [] 5
theorem giX0_skinOf_X0 : ∀ w ∈ u_ws RX0 TX0 7, w ∈ wsX0_skinOf := by decide +kernel
theorem gfX0_skinOf_30 : gF wsX0_skinOf RX0 30 0 6 RX0 TX0 7 := ⟨giX0_skinOf_X0, by decide +kernel, rfl, by decide⟩
set_option maxHeartbeats 4000000 in
set_option maxRecDepth 100000 in
theorem sgX0_skinOf_0 {X : gX} {ad : Nat → Nat} {cA : Nat → ClassId} {post : Int64 → (Unit) → Prop} {p1 : Int64} {C_size : Int32} {C_rules : Nat → Int32} {C_places : Nat → Int32} {C_beyond : Nat → Int32} (C : gC X (gT cA) cX0_skinOf 6 RX0 wsX0_skinOf rmX0_skinOf) (E : gEl X (some .long) (gT cA) 0 0 post (w1X0_skinOf ad cA C_size C_rules C_places C_beyond)) (h : atX0_skinOf_5 X ad cA p1 (0 : Int64) (0 : Int32) C_size C_rules C_places C_beyond) : atX0_skinOf_0 X ad cA p1 C_size C_rules C_places C_beyond := by
  refine g_lconst C dX0_skinOf_0 lk_0 ?_
  refine g_lstore_n (lv2 := [(0, .ref (ad 1)), (1, .long p1), (3, .long (0 : Int64))]) C dX0_skinOf_1 rfl (by decide) [1, 2, 0] rfl ?_
  refine g_iconst C dX0_skinOf_2 ik_0 ?_
  refine g_istore (lv2 := [(0, .ref (ad 1)), (1, .long p1), (3, .long (0 : Int64)), (5, .int (0 : Int32))]) C dX0_skinOf_3 (by decide) [1, 2, 3, 0] rfl ?_
  exact g_lv [0, 1, 2, 3] rfl h
set_option maxHeartbeats 4000000 in
set_option maxRecDepth 100000 in
theorem sgX0_skinOf_5 {X : gX} {ad : Nat → Nat} {cA : Nat → ClassId} {post : Int64 → (Unit) → Prop} {x1 : Int64} {x3 : Int64} {x5 : Int32} {C_size : Int32} {C_rules : Nat → Int32} {C_places : Nat → Int32} {C_beyond : Nat → Int32} (C : gC X (gT cA) cX0_skinOf 6 RX0 wsX0_skinOf rmX0_skinOf) (E : gEl X (some .long) (gT cA) 0 0 post (w1X0_skinOf ad cA C_size C_rules C_places C_beyond)) (h : (C_size ≤ x5 → post x3 ()) ∧ (¬ C_size ≤ x5 → (((fnX0_holds x1 x5) = false → True) ∧ ((fnX0_holds x1 x5) = true → prX0_skinOfCell x1 x5 C_size C_rules C_places C_beyond)) ∧ atX0_skinOf_5 X ad cA x1 (if (fnX0_holds x1 x5) = true then (x3 + ((iI (skcA C_rules C_places C_beyond (sb x1) x5.toNatClampNeg)).toInt64)) else x3) (x5 + 1) C_size C_rules C_places C_beyond)) : atX0_skinOf_5 X ad cA x1 x3 x5 C_size C_rules C_places C_beyond := by
  refine g_iload C dX0_skinOf_5 3 rfl ?_
  refine g_aload_n C dX0_skinOf_7 rfl 0 rfl ?_
  refine g_get C gfX0_skinOf_30 0 rfl rfl dX0_skinOf_8 ?_
  refine g_icmp_ge (tgt := 40) C dX0_skinOf_11 (by decide) (fun c_1 => ?_) (fun c_1 => ?_)
  · replace h := h.1 c_1
    refine g_lload_n C dX0_skinOf_40 rfl 2 rfl ?_
    exact g_lret C E () h rfl dX0_skinOf_41
  · replace h := h.2 c_1
    refine g_lload_n C dX0_skinOf_14 rfl 1 rfl ?_
    refine g_iload C dX0_skinOf_15 3 rfl ?_
    refine g_callSi (b := 0) (wr := [((ad 1), .inr (0, [.ref (ad 2), .ref (ad 3), .ref (ad 4), .ref (ad 5), .ref (ad 6), .ref (ad 7), .int C_size])), ((ad 5), .inl (cA 0, 7, .inl C_rules)), ((ad 6), .inl (cA 0, 108, .inl C_places)), ((ad 7), .inl (cA 0, 216, .inl C_beyond))]) C (c_X0_holds ad cA x1 x5) gX0_skinOf_X0_holds rfl hde_X0_holds ⟨rfl, rfl⟩ (by decide) (by decide) [] [0, 1, 2, 3] [0, 1, 2, 3] rfl rfl rfl rfl (by decide) rfl (ws2 := fun u => [((ad 1), .inr (0, [.ref (ad 2), .ref (ad 3), .ref (ad 4), .ref (ad 5), .ref (ad 6), .ref (ad 7), .int C_size])), ((ad 5), .inl (cA 0, 7, .inl C_rules)), ((ad 6), .inl (cA 0, 108, .inl C_places)), ((ad 7), .inl (cA 0, 216, .inl C_beyond))]) (fun _ => rfl) (rest := []) rfl (Nat.le_of_ble_eq_true rfl) dX0_skinOf_17 (fun r_2 u_2 hp_2 => ?_)
    subst hp_2
    change gW X 0 0 [((ad 1), .inr (0, [.ref (ad 2), .ref (ad 3), .ref (ad 4), .ref (ad 5), .ref (ad 6), .ref (ad 7), .int C_size])), ((ad 5), .inl (cA 0, 7, .inl C_rules)), ((ad 6), .inl (cA 0, 108, .inl C_places)), ((ad 7), .inl (cA 0, 216, .inl C_beyond))] 6 [(0, .ref (ad 1)), (1, .long x1), (3, .long x3), (5, .int x5)] [.int (bI (fnX0_holds x1 x5))] 20
    obtain ⟨hr_34, h⟩ := h
    have key : gW X 0 0 [((ad 1), .inr (0, [.ref (ad 2), .ref (ad 3), .ref (ad 4), .ref (ad 5), .ref (ad 6), .ref (ad 7), .int C_size])), ((ad 5), .inl (cA 0, 7, .inl C_rules)), ((ad 6), .inl (cA 0, 108, .inl C_places)), ((ad 7), .inl (cA 0, 216, .inl C_beyond))] 6 [(0, .ref (ad 1)), (1, .long x1), (3, .long (if (fnX0_holds x1 x5) = true then (x3 + ((iI (skcA C_rules C_places C_beyond (sb x1) x5.toNatClampNeg)).toInt64)) else x3)), (5, .int x5)] [] 34 := by
      refine g_iinc (v := (x5 + 1)) (lv2 := [(0, .ref (ad 1)), (1, .long x1), (3, .long (if (fnX0_holds x1 x5) = true then (x3 + ((iI (skcA C_rules C_places C_beyond (sb x1) x5.toNatClampNeg)).toInt64)) else x3)), (5, .int (x5 + 1))]) C dX0_skinOf_34 3 rfl (by first | rfl | decide) (by decide) [1, 2, 3, 0] rfl ?_
      refine g_goto (tgt := 5) C dX0_skinOf_37 (by decide) ?_
      exact g_lv [0, 1, 2, 3] rfl h
    replace h := hr_34
    refine g_ifeq_b (tgt := 34) C dX0_skinOf_20 (by decide) (fun c_3 => ?_) (fun c_3 => ?_)
    · replace h := h.1 c_3
      exact g_leaf (by simp only [if_neg (show ¬ (fnX0_holds x1 x5) = true from by rw [c_3]; decide)] at key; first | exact key | (simp only [if_neg (show ¬ (fnX0_holds x1 x5) = true from by rw [c_3]; decide)]; exact key) | exact absurd rfl decide))
    · replace h := h.2 c_3
      refine g_lload_n C dX0_skinOf_23 rfl 2 rfl ?_
      refine g_aload_n C dX0_skinOf_24 rfl 0 rfl ?_
      refine g_lload_n C dX0_skinOf_25 rfl 1 rfl ?_
      refine g_iload C dX0_skinOf_26 3 rfl ?_
      have hi_4 := h
      refine g_callVi (wr := []) C (c_X0_skinOfCell ad cA x1 x5 C_size C_rules C_places C_beyond hi_4) gX0_skinOf_X0_skinOfCell rfl hde_X0_skinOfCell ⟨rfl, rfl⟩ (by decide) (by decide) [0, 1, 2, 3] [] [0, 1, 2, 3] rfl rfl rfl rfl (by decide) rfl (ws2 := fun u => [((ad 1), .inr (0, [.ref (ad 2), .ref (ad 3), .ref (ad 4), .ref (ad 5), .ref (ad 6), .ref (ad 7), .int C_size])), ((ad 5), .inl (cA 0, 7, .inl C_rules)), ((ad 6), .inl (cA 0, 108, .inl C_places)), ((ad 7), .inl (cA 0, 216, .inl C_beyond))]) (fun _ => rfl) 0 0 rfl rfl rfl (rest := [.long x3]) rfl (Nat.le_of_ble_eq_true rfl) dX0_skinOf_28 (fun r_5 u_5 hp_5 => ?_)
      subst hp_5
      change gW X 0 0 [((ad 1), .inr (0, [.ref (ad 2), .ref (ad 3), .ref (ad 4), .ref (ad 5), .ref (ad 6), .ref (ad 7), .int C_size])), ((ad 5), .inl (cA 0, 7, .inl C_rules)), ((ad 6), .inl (cA 0, 108, .inl C_places)), ((ad 7), .inl (cA 0, 216, .inl C_beyond))] 6 [(0, .ref (ad 1)), (1, .long x1), (3, .long x3), (5, .int x5)] [.int (iI (skcA C_rules C_places C_beyond (sb x1) x5.toNatClampNeg)), .long x3] 31
      refine g_i2l C dX0_skinOf_31 ?_
      refine g_ladd C dX0_skinOf_32 ?_
      refine g_lstore_n (lv2 := [(0, .ref (ad 1)), (1, .long x1), (3, .long (x3 + ((iI (skcA C_rules C_places C_beyond (sb x1) x5.toNatClampNeg)).toInt64))), (5, .int x5)]) C dX0_skinOf_33 rfl (by decide) [1, 2, 0, 3] rfl ?_
      exact g_leaf (by simp only [if_pos c_3] at key; first | exact key | (simp only [if_pos c_3]; exact key) | exact absurd rfl c_3)
def prX0_skinOf (p1 : Int64) (C_size : Int32) (C_rules : Nat → Int32) (C_places : Nat → Int32) (C_beyond : Nat → Int32) : Prop := ∃ n, grOK n C_beyond C_places ∧ ruOK C_rules ∧ C_size = nI n
set_option maxHeartbeats 4000000 in
set_option maxRecDepth 100000 in
theorem c_X0_skinOf (ad : Nat → Nat) (cA : Nat → ClassId) (p1 : Int64) (C_size : Int32) (C_rules : Nat → Int32) (C_places : Nat → Int32) (C_beyond : Nat → Int32) (hq : prX0_skinOf p1 C_size C_rules C_places C_beyond) : ∀ (l : Launch) (D : va_G), gMl (S := Unit) l yX0_skinOf wsX0_skinOf rmX0_skinOf D (gT cA) 0 0 [.ref (ad 1), .long p1] (wcX0_skinOf ad cA C_size C_rules C_places C_beyond) (fun r _ => r = lI (sknA C_size.toNatClampNeg C_rules C_places C_beyond (sb p1))) (w1X0_skinOf ad cA C_size C_rules C_places C_beyond) := by
  intro l D
  unfold prX0_skinOf at hq
  refine g_enterl (cc := cX0_skinOf) (nL := 6) (ret := (some .long)) (by decide) rfl (Nat.le_of_ble_eq_true rfl) rfl (fun X C E => ?_)
  obtain ⟨n, hg, hr, rfl⟩ := hq
  have hn := hg.2.1
  rw [nI_clamp (by omega)] at E
  refine sgX0_skinOf_0 C E ?_
  have loop : ∀ k, k ≤ n → atX0_skinOf_5 X ad cA p1 (lI (sumZ (fun c => if sb p1 c = true then skcA C_rules C_places C_beyond (sb p1) c else 0) k)) (nI k) (nI n) C_rules C_places C_beyond := by
    intro k hk
    refine up_loop (P := fun k => atX0_skinOf_5 X ad cA p1 (lI (sumZ (fun c => if sb p1 c = true then skcA C_rules C_places C_beyond (sb p1) c else 0) k)) (nI k) (nI n) C_rules C_places C_beyond) n ?_ (fun k hk ih => ?_) k hk
    · exact sgX0_skinOf_5 C E ⟨fun _ => rfl, fun c => absurd (i32_le_refl _) c⟩
    · refine sgX0_skinOf_5 C E ⟨fun c => absurd c (nI_ge hk (by omega)), fun _ => ?_⟩
      rw [holds_eq p1 (by omega), nI_clamp (by omega), nI_1]
      refine ⟨⟨fun _ => trivial, fun _ => ⟨n, k, hg, hr, hk, rfl⟩⟩, ?_⟩
      have bd := skcA_bd hr C_places C_beyond (sb p1) k
      have e : (if sb p1 k = true then lI (sumZ (fun c => if sb p1 c = true then skcA C_rules C_places C_beyond (sb p1) c else 0) k) + (iI (skcA C_rules C_places C_beyond (sb p1) k)).toInt64 else lI (sumZ (fun c => if sb p1 c = true then skcA C_rules C_places C_beyond (sb p1) c else 0) k)) = lI (sumZ (fun c => if sb p1 c = true then skcA C_rules C_places C_beyond (sb p1) c else 0) (k + 1)) := by
        simp only [sumZ]
        split
        · rw [iI_long (by omega) (by omega), lI_add]
        · rw [Int.add_zero]
      rw [e]; exact ih
  exact loop 0 (Nat.zero_le _)


abbrev w1X0_pricesOf (ad : Nat → Nat) (cA : Nat → ClassId) (C_size : Int32) (C_prices : Nat → Int32) (u : Unit) : va_W := [((ad 1), .inr (0, [.ref (ad 2), .ref (ad 3), .ref (ad 4), .ref (ad 5), .ref (ad 6), .ref (ad 7), .int C_size])), ((ad 4), .inl (cA 0, 36, .inl C_prices))]
abbrev wcX0_pricesOf (ad : Nat → Nat) (cA : Nat → ClassId) (C_size : Int32) (C_prices : Nat → Int32) : va_W := [((ad 1), .inr (0, [.ref (ad 2), .ref (ad 3), .ref (ad 4), .ref (ad 5), .ref (ad 6), .ref (ad 7), .int C_size])), ((ad 4), .inl (cA 0, 36, .inl C_prices))]
def rmX0_pricesOf : Room := { frames := 1, cells := 0, slots := 0, locals := 22 }
abbrev atX0_pricesOf_0 (X : gX) (ad : Nat → Nat) (cA : Nat → ClassId) (p1 : Int64) (C_size : Int32) (C_prices : Nat → Int32) : Prop := gW X 0 0 [((ad 1), .inr (0, [.ref (ad 2), .ref (ad 3), .ref (ad 4), .ref (ad 5), .ref (ad 6), .ref (ad 7), .int C_size])), ((ad 4), .inl (cA 0, 36, .inl C_prices))] 6 [(0, .ref (ad 1)), (1, .long p1)] [] 0
abbrev atX0_pricesOf_5 (X : gX) (ad : Nat → Nat) (cA : Nat → ClassId) (x1 : Int64) (x3 : Int64) (x5 : Int32) (C_size : Int32) (C_prices : Nat → Int32) : Prop := gW X 0 0 [((ad 1), .inr (0, [.ref (ad 2), .ref (ad 3), .ref (ad 4), .ref (ad 5), .ref (ad 6), .ref (ad 7), .int C_size])), ((ad 4), .inl (cA 0, 36, .inl C_prices))] 6 [(0, .ref (ad 1)), (1, .long x1), (3, .long x3), (5, .int x5)] [] 5
theorem giX0_pricesOf_X0 : ∀ w ∈ u_ws RX0 TX0 7, w ∈ wsX0_pricesOf := by decide +kernel
theorem gfX0_pricesOf_30 : gF wsX0_pricesOf RX0 30 0 6 RX0 TX0 7 := ⟨giX0_pricesOf_X0, by decide +kernel, rfl, by decide⟩
theorem gfX0_pricesOf_18 : gF wsX0_pricesOf RX0 18 0 2 RX0 TX0 7 := ⟨giX0_pricesOf_X0, by decide +kernel, rfl, by decide⟩
set_option maxHeartbeats 4000000 in
set_option maxRecDepth 100000 in
theorem sgX0_pricesOf_0 {X : gX} {ad : Nat → Nat} {cA : Nat → ClassId} {post : Int64 → (Unit) → Prop} {p1 : Int64} {C_size : Int32} {C_prices : Nat → Int32} (C : gC X (gT cA) cX0_pricesOf 6 RX0 wsX0_pricesOf rmX0_pricesOf) (E : gEl X (some .long) (gT cA) 0 0 post (w1X0_pricesOf ad cA C_size C_prices)) (h : atX0_pricesOf_5 X ad cA p1 (0 : Int64) (0 : Int32) C_size C_prices) : atX0_pricesOf_0 X ad cA p1 C_size C_prices := by
  refine g_lconst C dX0_pricesOf_0 lk_0 ?_
  refine g_lstore_n (lv2 := [(0, .ref (ad 1)), (1, .long p1), (3, .long (0 : Int64))]) C dX0_pricesOf_1 rfl (by decide) [1, 2, 0] rfl ?_
  refine g_iconst C dX0_pricesOf_2 ik_0 ?_
  refine g_istore (lv2 := [(0, .ref (ad 1)), (1, .long p1), (3, .long (0 : Int64)), (5, .int (0 : Int32))]) C dX0_pricesOf_3 (by decide) [1, 2, 3, 0] rfl ?_
  exact g_lv [0, 1, 2, 3] rfl h
set_option maxHeartbeats 4000000 in
set_option maxRecDepth 100000 in
theorem sgX0_pricesOf_5 {X : gX} {ad : Nat → Nat} {cA : Nat → ClassId} {post : Int64 → (Unit) → Prop} {x1 : Int64} {x3 : Int64} {x5 : Int32} {C_size : Int32} {C_prices : Nat → Int32} (C : gC X (gT cA) cX0_pricesOf 6 RX0 wsX0_pricesOf rmX0_pricesOf) (E : gEl X (some .long) (gT cA) 0 0 post (w1X0_pricesOf ad cA C_size C_prices)) (h : (C_size ≤ x5 → post x3 ()) ∧ (¬ C_size ≤ x5 → (((fnX0_holds x1 x5) = false → True) ∧ ((fnX0_holds x1 x5) = true → vp_in x5 36)) ∧ atX0_pricesOf_5 X ad cA x1 (if (fnX0_holds x1 x5) = true then (x3 + ((C_prices x5.toNatClampNeg).toInt64)) else x3) (x5 + 1) C_size C_prices)) : atX0_pricesOf_5 X ad cA x1 x3 x5 C_size C_prices := by
  refine g_iload C dX0_pricesOf_5 3 rfl ?_
  refine g_aload_n C dX0_pricesOf_7 rfl 0 rfl ?_
  refine g_get C gfX0_pricesOf_30 0 rfl rfl dX0_pricesOf_8 ?_
  refine g_icmp_ge (tgt := 40) C dX0_pricesOf_11 (by decide) (fun c_1 => ?_) (fun c_1 => ?_)
  · replace h := h.1 c_1
    refine g_lload_n C dX0_pricesOf_40 rfl 2 rfl ?_
    exact g_lret C E () h rfl dX0_pricesOf_41
  · replace h := h.2 c_1
    refine g_lload_n C dX0_pricesOf_14 rfl 1 rfl ?_
    refine g_iload C dX0_pricesOf_15 3 rfl ?_
    refine g_callSi (b := 0) (wr := [((ad 1), .inr (0, [.ref (ad 2), .ref (ad 3), .ref (ad 4), .ref (ad 5), .ref (ad 6), .ref (ad 7), .int C_size])), ((ad 4), .inl (cA 0, 36, .inl C_prices))]) C (c_X0_holds ad cA x1 x5) gX0_pricesOf_X0_holds rfl hde_X0_holds ⟨rfl, rfl⟩ (by decide) (by decide) [] [0, 1] [0, 1] rfl rfl rfl rfl (by decide) rfl (ws2 := fun u => [((ad 1), .inr (0, [.ref (ad 2), .ref (ad 3), .ref (ad 4), .ref (ad 5), .ref (ad 6), .ref (ad 7), .int C_size])), ((ad 4), .inl (cA 0, 36, .inl C_prices))]) (fun _ => rfl) (rest := []) rfl (Nat.le_of_ble_eq_true rfl) dX0_pricesOf_17 (fun r_2 u_2 hp_2 => ?_)
    subst hp_2
    change gW X 0 0 [((ad 1), .inr (0, [.ref (ad 2), .ref (ad 3), .ref (ad 4), .ref (ad 5), .ref (ad 6), .ref (ad 7), .int C_size])), ((ad 4), .inl (cA 0, 36, .inl C_prices))] 6 [(0, .ref (ad 1)), (1, .long x1), (3, .long x3), (5, .int x5)] [.int (bI (fnX0_holds x1 x5))] 20
    obtain ⟨hr_34, h⟩ := h
    have key : gW X 0 0 [((ad 1), .inr (0, [.ref (ad 2), .ref (ad 3), .ref (ad 4), .ref (ad 5), .ref (ad 6), .ref (ad 7), .int C_size])), ((ad 4), .inl (cA 0, 36, .inl C_prices))] 6 [(0, .ref (ad 1)), (1, .long x1), (3, .long (if (fnX0_holds x1 x5) = true then (x3 + ((C_prices x5.toNatClampNeg).toInt64)) else x3)), (5, .int x5)] [] 34 := by
      refine g_iinc (v := (x5 + 1)) (lv2 := [(0, .ref (ad 1)), (1, .long x1), (3, .long (if (fnX0_holds x1 x5) = true then (x3 + ((C_prices x5.toNatClampNeg).toInt64)) else x3)), (5, .int (x5 + 1))]) C dX0_pricesOf_34 3 rfl (by first | rfl | decide) (by decide) [1, 2, 3, 0] rfl ?_
      refine g_goto (tgt := 5) C dX0_pricesOf_37 (by decide) ?_
      exact g_lv [0, 1, 2, 3] rfl h
    replace h := hr_34
    refine g_ifeq_b (tgt := 34) C dX0_pricesOf_20 (by decide) (fun c_3 => ?_) (fun c_3 => ?_)
    · replace h := h.1 c_3
      exact g_leaf (by simp only [if_neg (show ¬ (fnX0_holds x1 x5) = true from by rw [c_3]; decide)] at key; first | exact key | (simp only [if_neg (show ¬ (fnX0_holds x1 x5) = true from by rw [c_3]; decide)]; exact key) | exact absurd rfl decide))
    · replace h := h.2 c_3
      refine g_lload_n C dX0_pricesOf_23 rfl 2 rfl ?_
      refine g_aload_n C dX0_pricesOf_24 rfl 0 rfl ?_
      refine g_get C gfX0_pricesOf_18 0 rfl rfl dX0_pricesOf_25 ?_
      refine g_iload C dX0_pricesOf_28 3 rfl ?_
      have hi_4 := h
      refine g_iald C 1 0 rfl rfl hi_4 dX0_pricesOf_30 ?_
      refine g_i2l C dX0_pricesOf_31 ?_
      refine g_ladd C dX0_pricesOf_32 ?_
      refine g_lstore_n (lv2 := [(0, .ref (ad 1)), (1, .long x1), (3, .long (x3 + ((C_prices x5.toNatClampNeg).toInt64))), (5, .int x5)]) C dX0_pricesOf_33 rfl (by decide) [1, 2, 0, 3] rfl ?_
      exact g_leaf (by simp only [if_pos c_3] at key; first | exact key | (simp only [if_pos c_3]; exact key) | exact absurd rfl c_3)
def prX0_pricesOf (p1 : Int64) (C_size : Int32) (C_prices : Nat → Int32) : Prop := ∃ n, n ≤ 36 ∧ C_size = nI n
set_option maxHeartbeats 4000000 in
set_option maxRecDepth 100000 in
theorem c_X0_pricesOf (ad : Nat → Nat) (cA : Nat → ClassId) (p1 : Int64) (C_size : Int32) (C_prices : Nat → Int32) (hq : prX0_pricesOf p1 C_size C_prices) : ∀ (l : Launch) (D : va_G), gMl (S := Unit) l yX0_pricesOf wsX0_pricesOf rmX0_pricesOf D (gT cA) 0 0 [.ref (ad 1), .long p1] (wcX0_pricesOf ad cA C_size C_prices) (fun r _ => r = lI (prsA C_size.toNatClampNeg C_prices (sb p1))) (w1X0_pricesOf ad cA C_size C_prices) := by
  intro l D
  unfold prX0_pricesOf at hq
  refine g_enterl (cc := cX0_pricesOf) (nL := 6) (ret := (some .long)) (by decide) rfl (Nat.le_of_ble_eq_true rfl) rfl (fun X C E => ?_)
  obtain ⟨n, hn, rfl⟩ := hq
  rw [nI_clamp (by omega)] at E
  refine sgX0_pricesOf_0 C E ?_
  have loop : ∀ k, k ≤ n → atX0_pricesOf_5 X ad cA p1 (lI (sumZ (fun c => if sb p1 c = true then (C_prices c).toInt else 0) k)) (nI k) (nI n) C_prices := by
    intro k hk
    refine up_loop (P := fun k => atX0_pricesOf_5 X ad cA p1 (lI (sumZ (fun c => if sb p1 c = true then (C_prices c).toInt else 0) k)) (nI k) (nI n) C_prices) n ?_ (fun k hk ih => ?_) k hk
    · exact sgX0_pricesOf_5 C E ⟨fun _ => rfl, fun c => absurd (i32_le_refl _) c⟩
    · refine sgX0_pricesOf_5 C E ⟨fun c => absurd c (nI_ge hk (by omega)), fun _ => ?_⟩
      rw [holds_eq p1 (by omega), nI_clamp (by omega), nI_1]
      refine ⟨⟨fun _ => trivial, fun _ => vp_in_nI (by omega) (by decide)⟩, ?_⟩
      have e : (if sb p1 k = true then lI (sumZ (fun c => if sb p1 c = true then (C_prices c).toInt else 0) k) + (C_prices k).toInt64 else lI (sumZ (fun c => if sb p1 c = true then (C_prices c).toInt else 0) k)) = lI (sumZ (fun c => if sb p1 c = true then (C_prices c).toInt else 0) (k + 1)) := by
        simp only [sumZ]
        split
        · rw [i2l_lI, lI_add]
        · rw [Int.add_zero]
      rw [e]; exact ih
  exact loop 0 (Nat.zero_le _)


def rgtA (n : Nat) (hd : Nat → Int32) (S : Nat → Bool) : Bool := decide (∀ c, c < n → ¬ hd c = (if S c = true then 2 else 1))

abbrev w1X0_isRight (ad : Nat → Nat) (cA : Nat → ClassId) (C_size : Int32) (C_held : Nat → Int32) (u : Unit) : va_W := [((ad 1), .inr (0, [.ref (ad 2), .ref (ad 3), .ref (ad 4), .ref (ad 5), .ref (ad 6), .ref (ad 7), .int C_size])), ((ad 3), .inl (cA 0, 36, .inl C_held))]
abbrev wcX0_isRight (ad : Nat → Nat) (cA : Nat → ClassId) (C_size : Int32) (C_held : Nat → Int32) : va_W := [((ad 1), .inr (0, [.ref (ad 2), .ref (ad 3), .ref (ad 4), .ref (ad 5), .ref (ad 6), .ref (ad 7), .int C_size])), ((ad 3), .inl (cA 0, 36, .inl C_held))]
def rmX0_isRight : Room := { frames := 1, cells := 0, slots := 0, locals := 22 }
abbrev atX0_isRight_0 (X : gX) (ad : Nat → Nat) (cA : Nat → ClassId) (p1 : Int64) (C_size : Int32) (C_held : Nat → Int32) : Prop := gW X 0 0 [((ad 1), .inr (0, [.ref (ad 2), .ref (ad 3), .ref (ad 4), .ref (ad 5), .ref (ad 6), .ref (ad 7), .int C_size])), ((ad 3), .inl (cA 0, 36, .inl C_held))] 4 [(0, .ref (ad 1)), (1, .long p1)] [] 0
abbrev atX0_isRight_2 (X : gX) (ad : Nat → Nat) (cA : Nat → ClassId) (x1 : Int64) (x3 : Int32) (C_size : Int32) (C_held : Nat → Int32) : Prop := gW X 0 0 [((ad 1), .inr (0, [.ref (ad 2), .ref (ad 3), .ref (ad 4), .ref (ad 5), .ref (ad 6), .ref (ad 7), .int C_size])), ((ad 3), .inl (cA 0, 36, .inl C_held))] 4 [(0, .ref (ad 1)), (1, .long x1), (3, .int x3)] [] 2
theorem giX0_isRight_X0 : ∀ w ∈ u_ws RX0 TX0 7, w ∈ wsX0_isRight := by decide +kernel
theorem gfX0_isRight_30 : gF wsX0_isRight RX0 30 0 6 RX0 TX0 7 := ⟨giX0_isRight_X0, by decide +kernel, rfl, by decide⟩
theorem gfX0_isRight_15 : gF wsX0_isRight RX0 15 0 1 RX0 TX0 7 := ⟨giX0_isRight_X0, by decide +kernel, rfl, by decide⟩
set_option maxHeartbeats 4000000 in
set_option maxRecDepth 100000 in
theorem sgX0_isRight_0 {X : gX} {ad : Nat → Nat} {cA : Nat → ClassId} {post : Int32 → (Unit) → Prop} {p1 : Int64} {C_size : Int32} {C_held : Nat → Int32} (C : gC X (gT cA) cX0_isRight 4 RX0 wsX0_isRight rmX0_isRight) (E : gEi X (some .boolean) (gT cA) 0 0 post (w1X0_isRight ad cA C_size C_held)) (h : atX0_isRight_2 X ad cA p1 (0 : Int32) C_size C_held) : atX0_isRight_0 X ad cA p1 C_size C_held := by
  refine g_iconst C dX0_isRight_0 ik_0 ?_
  refine g_istore_n (lv2 := [(0, .ref (ad 1)), (1, .long p1), (3, .int (0 : Int32))]) C dX0_isRight_1 rfl (by decide) [1, 2, 0] rfl ?_
  exact g_lv [0, 1, 2] rfl h
set_option maxHeartbeats 4000000 in
set_option maxRecDepth 100000 in
theorem sgX0_isRight_2 {X : gX} {ad : Nat → Nat} {cA : Nat → ClassId} {post : Int32 → (Unit) → Prop} {x1 : Int64} {x3 : Int32} {C_size : Int32} {C_held : Nat → Int32} (C : gC X (gT cA) cX0_isRight 4 RX0 wsX0_isRight rmX0_isRight) (E : gEi X (some .boolean) (gT cA) 0 0 post (w1X0_isRight ad cA C_size C_held)) (h : (C_size ≤ x3 → post (1 : Int32) ()) ∧ (¬ C_size ≤ x3 → vp_in x3 36 ∧ (¬ (C_held x3.toNatClampNeg) = (if (fnX0_holds x1 x3) = true then (2 : Int32) else (1 : Int32)) → atX0_isRight_2 X ad cA x1 (x3 + 1) C_size C_held) ∧ ((C_held x3.toNatClampNeg) = (if (fnX0_holds x1 x3) = true then (2 : Int32) else (1 : Int32)) → post (0 : Int32) ()))) : atX0_isRight_2 X ad cA x1 x3 C_size C_held := by
  refine g_iload_n C dX0_isRight_2 rfl 2 rfl ?_
  refine g_aload_n C dX0_isRight_3 rfl 0 rfl ?_
  refine g_get C gfX0_isRight_30 0 rfl rfl dX0_isRight_4 ?_
  refine g_icmp_ge (tgt := 40) C dX0_isRight_7 (by decide) (fun c_1 => ?_) (fun c_1 => ?_)
  · replace h := h.1 c_1
    refine g_iconst C dX0_isRight_40 ik_1 ?_
    exact g_zret C E rfl () h rfl dX0_isRight_41
  · replace h := h.2 c_1
    refine g_aload_n C dX0_isRight_10 rfl 0 rfl ?_
    refine g_get C gfX0_isRight_15 0 rfl rfl dX0_isRight_11 ?_
    refine g_iload_n C dX0_isRight_14 rfl 2 rfl ?_
    obtain ⟨hi_2, h⟩ := h
    refine g_iald C 1 0 rfl rfl hi_2 dX0_isRight_15 ?_
    refine g_lload_n C dX0_isRight_16 rfl 1 rfl ?_
    refine g_iload_n C dX0_isRight_17 rfl 2 rfl ?_
    refine g_callSi (b := 0) (wr := [((ad 1), .inr (0, [.ref (ad 2), .ref (ad 3), .ref (ad 4), .ref (ad 5), .ref (ad 6), .ref (ad 7), .int C_size])), ((ad 3), .inl (cA 0, 36, .inl C_held))]) C (c_X0_holds ad cA x1 x3) gX0_isRight_X0_holds rfl hde_X0_holds ⟨rfl, rfl⟩ (by decide) (by decide) [] [0, 1] [0, 1] rfl rfl rfl rfl (by decide) rfl (ws2 := fun u => [((ad 1), .inr (0, [.ref (ad 2), .ref (ad 3), .ref (ad 4), .ref (ad 5), .ref (ad 6), .ref (ad 7), .int C_size])), ((ad 3), .inl (cA 0, 36, .inl C_held))]) (fun _ => rfl) (rest := [.int (C_held x3.toNatClampNeg)]) rfl (Nat.le_of_ble_eq_true rfl) dX0_isRight_18 (fun r_3 u_3 hp_3 => ?_)
    subst hp_3
    change gW X 0 0 [((ad 1), .inr (0, [.ref (ad 2), .ref (ad 3), .ref (ad 4), .ref (ad 5), .ref (ad 6), .ref (ad 7), .int C_size])), ((ad 3), .inl (cA 0, 36, .inl C_held))] 4 [(0, .ref (ad 1)), (1, .long x1), (3, .int x3)] [.int (bI (fnX0_holds x1 x3)), .int (C_held x3.toNatClampNeg)] 21
    have key : gW X 0 0 [((ad 1), .inr (0, [.ref (ad 2), .ref (ad 3), .ref (ad 4), .ref (ad 5), .ref (ad 6), .ref (ad 7), .int C_size])), ((ad 3), .inl (cA 0, 36, .inl C_held))] 4 [(0, .ref (ad 1)), (1, .long x1), (3, .int x3)] [.int (if (fnX0_holds x1 x3) = true then (2 : Int32) else (1 : Int32)), .int (C_held x3.toNatClampNeg)] 29 := by
      refine g_icmp_ne (tgt := 34) C dX0_isRight_29 (by decide) (fun c_5 => ?_) (fun c_5 => ?_)
      · replace h := h.1 c_5
        refine g_iinc (v := (x3 + 1)) (lv2 := [(0, .ref (ad 1)), (1, .long x1), (3, .int (x3 + 1))]) C dX0_isRight_34 2 rfl (by first | rfl | decide) (by decide) [1, 2, 0] rfl ?_
        refine g_goto (tgt := 2) C dX0_isRight_37 (by decide) ?_
        exact g_lv [0, 1, 2] rfl h
      · replace h := h.2 c_5
        refine g_iconst C dX0_isRight_32 ik_0 ?_
        exact g_zret C E rfl () h rfl dX0_isRight_33
    refine g_ifeq_b (tgt := 28) C dX0_isRight_21 (by decide) (fun c_4 => ?_) (fun c_4 => ?_)
    · refine g_iconst C dX0_isRight_28 ik_1 ?_
      exact g_leaf (by simp only [if_neg (show ¬ (fnX0_holds x1 x3) = true from by rw [c_4]; decide)] at key; first | exact key | (simp only [if_neg (show ¬ (fnX0_holds x1 x3) = true from by rw [c_4]; decide)]; exact key) | exact absurd rfl decide))
    · refine g_iconst C dX0_isRight_24 ik_2 ?_
      refine g_goto (tgt := 29) C dX0_isRight_25 (by decide) ?_
      exact g_leaf (by simp only [if_pos c_4] at key; first | exact key | (simp only [if_pos c_4]; exact key) | exact absurd rfl c_4)
def prX0_isRight (p1 : Int64) (C_size : Int32) (C_held : Nat → Int32) : Prop := ∃ n, n ≤ 36 ∧ C_size = nI n
set_option maxHeartbeats 4000000 in
set_option maxRecDepth 100000 in
theorem c_X0_isRight (ad : Nat → Nat) (cA : Nat → ClassId) (p1 : Int64) (C_size : Int32) (C_held : Nat → Int32) (hq : prX0_isRight p1 C_size C_held) : ∀ (l : Launch) (D : va_G), gMi (S := Unit) l yX0_isRight wsX0_isRight rmX0_isRight D (gT cA) 0 0 [.ref (ad 1), .long p1] (wcX0_isRight ad cA C_size C_held) (fun r _ => r = bI (rgtA C_size.toNatClampNeg C_held (sb p1))) (w1X0_isRight ad cA C_size C_held) := by
  intro l D
  unfold prX0_isRight at hq
  refine g_enteri (cc := cX0_isRight) (nL := 4) (ret := (some .boolean)) (by decide) rfl (Nat.le_of_ble_eq_true rfl) rfl (fun X C E => ?_)
  obtain ⟨n, hn, rfl⟩ := hq
  rw [nI_clamp (by omega)] at E
  refine sgX0_isRight_0 C E ?_
  have loop : ∀ k, k ≤ n → (∀ c, c < k → ¬ C_held c = (if sb p1 c = true then 2 else 1)) → atX0_isRight_2 X ad cA p1 (nI k) (nI n) C_held := by
    intro k hk
    refine up_loop (P := fun k => (∀ c, c < k → ¬ C_held c = (if sb p1 c = true then 2 else 1)) → atX0_isRight_2 X ad cA p1 (nI k) (nI n) C_held) n ?_ (fun k hk ih hi => ?_) k hk
    · intro hi
      refine sgX0_isRight_2 C E ⟨fun _ => ?_, fun c => absurd (i32_le_refl _) c⟩
      rw [rgtA, decide_eq_true hi]; rfl
    · refine sgX0_isRight_2 C E ⟨fun c => absurd c (nI_ge hk (by omega)), fun _ => ?_⟩
      rw [holds_eq p1 (by omega), nI_clamp (by omega), nI_1]
      refine ⟨vp_in_nI (by omega) (by decide), fun c => ih (fun a ha => ?_), fun c => ?_⟩
      · rcases Nat.lt_or_ge a k with q | q
        · exact hi a q
        · have e : a = k := by omega
          rw [e]; exact c
      · rw [rgtA, decide_eq_false (fun q => q k hk c)]; rfl
  exact loop 0 (Nat.zero_le _) (fun c hc => absurd hc (Nat.not_lt_zero c))
end
section
/-! how the BOX lies -/
def bxS (X Y k : Nat) : Nat := if k = 0 then 1 else if k = 1 then X else X * Y
def bxD (X Y Z k : Nat) : Nat := if k = 0 then X else if k = 1 then Y else Z
def bxP (X Y Z c k : Nat) : Nat := c / bxS X Y k % bxD X Y Z k
def dimOK (X Y Z : Nat) : Prop := 1 ≤ X ∧ X ≤ 4 ∧ 1 ≤ Y ∧ Y ≤ 4 ∧ 1 ≤ Z ∧ Z ≤ 4 ∧ X * Y * Z ≤ 36
def geoC (X Y Z : Nat) (pl be : Nat → Int32) (c : Nat) : Prop := ∀ k, k < 3 → pl (3 * c + k) = nI (bxP X Y Z c k) ∧ be (6 * c + 2 * k) = (if bxP X Y Z c k + 1 < bxD X Y Z k then nI (c + bxS X Y k) else -1) ∧ be (6 * c + 2 * k + 1) = (if 0 < bxP X Y Z c k then nI (c - bxS X Y k) else -1)
def geoOK (X Y Z : Nat) (pl be : Nat → Int32) : Prop := ∀ c, c < X * Y * Z → geoC X Y Z pl be c
def allN (n : Nat) (f : Nat → Bool) : Bool := (List.range n).all f
theorem allN_s {n : Nat} {f : Nat → Bool} (h : allN n f = true) {i : Nat} (hi : i < n) : f i = true := List.all_eq_true.mp h i (List.mem_range.mpr hi)
theorem imp_s {a b : Bool} (h : (!a || b) = true) (ha : a = true) : b = true := by cases a <;> simp_all
def geoB (X Y Z c k : Nat) : Bool := decide (bxP X Y Z c k < 4) && decide (bxP X Y Z c k + 1 < bxD X Y Z k → c + bxS X Y k < X * Y * Z ∧ bxP X Y Z (c + bxS X Y k) k = bxP X Y Z c k + 1 ∧ 1 ≤ bxS X Y k) && decide (0 < bxP X Y Z c k → bxS X Y k ≤ c ∧ bxP X Y Z (c - bxS X Y k) k + 1 = bxP X Y Z c k ∧ 1 ≤ bxS X Y k ∧ bxP X Y Z c k < bxD X Y Z k)
set_option maxRecDepth 100000 in
theorem geo_b1 : allN 5 (fun X => allN 5 (fun Y => allN 5 (fun Z => !(decide (1 ≤ X) && decide (1 ≤ Y) && decide (1 ≤ Z) && decide (X * Y * Z ≤ 36)) || allN 36 (fun c => !(decide (c < X * Y * Z)) || allN 3 (fun k => geoB X Y Z c k))))) = true := by decide +kernel
theorem geo_f1 (X : Nat) (hX : X < 5) (Y : Nat) (hY : Y < 5) (Z : Nat) (hZ : Z < 5) (h : 1 ≤ X ∧ 1 ≤ Y ∧ 1 ≤ Z ∧ X * Y * Z ≤ 36) (c : Nat) (hc : c < 36) (hc2 : c < X * Y * Z) (k : Nat) (hk : k < 3) : bxP X Y Z c k < 4 ∧ (bxP X Y Z c k + 1 < bxD X Y Z k → c + bxS X Y k < X * Y * Z ∧ bxP X Y Z (c + bxS X Y k) k = bxP X Y Z c k + 1 ∧ 1 ≤ bxS X Y k) ∧ (0 < bxP X Y Z c k → bxS X Y k ≤ c ∧ bxP X Y Z (c - bxS X Y k) k + 1 = bxP X Y Z c k ∧ 1 ≤ bxS X Y k ∧ bxP X Y Z c k < bxD X Y Z k) := by
  have h1 := allN_s (imp_s (allN_s (imp_s (allN_s (allN_s (allN_s geo_b1 hX) hY) hZ) (by simp [h])) hc) (by simp [hc2])) hk
  unfold geoB at h1
  simp only [Bool.and_eq_true, decide_eq_true_eq] at h1
  exact ⟨h1.1.1, h1.1.2, h1.2⟩
theorem geo_f {X Y Z : Nat} (h : dimOK X Y Z) {c : Nat} (hc : c < X * Y * Z) {k : Nat} (hk : k < 3) : bxP X Y Z c k < 4 ∧ (bxP X Y Z c k + 1 < bxD X Y Z k → c + bxS X Y k < X * Y * Z ∧ bxP X Y Z (c + bxS X Y k) k = bxP X Y Z c k + 1 ∧ 1 ≤ bxS X Y k) ∧ (0 < bxP X Y Z c k → bxS X Y k ≤ c ∧ bxP X Y Z (c - bxS X Y k) k + 1 = bxP X Y Z c k ∧ 1 ≤ bxS X Y k ∧ bxP X Y Z c k < bxD X Y Z k) := by
  obtain ⟨h1, h2, h3, h4, h5, h6, h7⟩ := h
  exact geo_f1 X (by omega) Y (by omega) Z (by omega) ⟨h1, h3, h5, h7⟩ c (by omega) hc k hk
theorem dim_pos {X Y Z : Nat} (h : dimOK X Y Z) : 1 ≤ X * Y * Z := by
  obtain ⟨h1, h2, h3, h4, h5, h6, h7⟩ := h
  exact Nat.mul_pos (Nat.mul_pos h1 h3) h5
theorem geo_gr {X Y Z : Nat} (h : dimOK X Y Z) {pl be : Nat → Int32} (g : geoOK X Y Z pl be) : grOK (X * Y * Z) be pl := by
  have hn := h.2.2.2.2.2.2
  refine ⟨dim_pos h, hn, fun c hc => ⟨fun k hk => ⟨bxP X Y Z c k, (geo_f h hc hk).1, (g c hc k hk).1⟩, fun s hs => ?_⟩⟩
  have hk : s / 2 < 3 := by omega
  obtain ⟨f1, f2, f3⟩ := geo_f h hc hk
  obtain ⟨g1, g2, g3⟩ := g c hc (s / 2) hk
  rcases Nat.mod_two_eq_zero_or_one s with e | e
  · have e1 : 6 * c + 2 * (s / 2) = 6 * c + s := by omega
    have e2 : rv s = 2 * (s / 2) + 1 := by unfold rv; rw [if_pos e]; omega
    rw [e1] at g2
    by_cases q : bxP X Y Z c (s / 2) + 1 < bxD X Y Z (s / 2)
    · rw [if_pos q] at g2
      obtain ⟨a1, a2, a3⟩ := f2 q
      obtain ⟨b1, b2, b3⟩ := g (c + bxS X Y (s / 2)) a1 (s / 2) hk
      rw [a2, if_pos (by omega)] at b3
      refine Or.inr ⟨c + bxS X Y (s / 2), a1, by omega, g2, ?_, by omega, ?_⟩
      · rw [e2, ← Nat.add_assoc, b3]; congr 1; omega
      · rw [g1, b1, a2, nI_clamp (by omega), nI_clamp (by omega), e2, e]; omega
    · rw [if_neg q] at g2; exact Or.inl g2
  · have e1 : 6 * c + 2 * (s / 2) + 1 = 6 * c + s := by omega
    have e2 : rv s = 2 * (s / 2) := by unfold rv; rw [if_neg (by omega)]; omega
    rw [e1] at g3
    by_cases q : 0 < bxP X Y Z c (s / 2)
    · rw [if_pos q] at g3
      obtain ⟨a1, a2, a3, a4⟩ := f3 q
      have a5 : c - bxS X Y (s / 2) < X * Y * Z := by omega
      obtain ⟨b1, b2, b3⟩ := g (c - bxS X Y (s / 2)) a5 (s / 2) hk
      rw [if_pos (by omega)] at b2
      refine Or.inr ⟨c - bxS X Y (s / 2), a5, by omega, g3, ?_, ?_, ?_⟩
      · rw [e2, b2]; congr 1; omega
      · rw [g1, nI_clamp (by omega)]; omega
      · rw [g1, b1, nI_clamp (by omega), nI_clamp (by omega), e2]; omega
    · rw [if_neg q] at g3; exact Or.inl g3
def geoB2 (X Y Z z y x : Nat) : Bool := decide (X * Y * z + X * y + x < X * Y * Z) && decide (bxP X Y Z (X * Y * z + X * y + x) 0 = x) && decide (bxP X Y Z (X * Y * z + X * y + x) 1 = y) && decide (bxP X Y Z (X * Y * z + X * y + x) 2 = z) && decide (0 < x → 1 ≤ X * Y * z + X * y + x) && decide (0 < y → X ≤ X * Y * z + X * y + x) && decide (0 < z → X * Y ≤ X * Y * z + X * y + x) && decide (X * Y ≤ 16)
set_option maxRecDepth 100000 in
theorem geo_b2 : allN 5 (fun X => allN 5 (fun Y => allN 5 (fun Z => allN Z (fun z => allN Y (fun y => allN X (fun x => geoB2 X Y Z z y x)))))) = true := by decide +kernel
theorem geo_f2 (X : Nat) (hX : X < 5) (Y : Nat) (hY : Y < 5) (Z : Nat) (hZ : Z < 5) (h : X * Y * Z ≤ 36) (z : Nat) (hz : z < Z) (y : Nat) (hy : y < Y) (x : Nat) (hx : x < X) : X * Y * z + X * y + x < X * Y * Z ∧ bxP X Y Z (X * Y * z + X * y + x) 0 = x ∧ bxP X Y Z (X * Y * z + X * y + x) 1 = y ∧ bxP X Y Z (X * Y * z + X * y + x) 2 = z ∧ (0 < x → 1 ≤ X * Y * z + X * y + x) ∧ (0 < y → X ≤ X * Y * z + X * y + x) ∧ (0 < z → X * Y ≤ X * Y * z + X * y + x) ∧ X * Y ≤ 16 := by
  have h1 := allN_s (allN_s (allN_s (allN_s (allN_s (allN_s geo_b2 hX) hY) hZ) hz) hy) hx
  unfold geoB2 at h1
  simp only [Bool.and_eq_true, decide_eq_true_eq] at h1
  obtain ⟨⟨⟨⟨⟨⟨⟨a1, a2⟩, a3⟩, a4⟩, a5⟩, a6⟩, a7⟩, a8⟩ := h1
  exact ⟨a1, a2, a3, a4, a5, a6, a7, a8⟩
theorem geo_new {X Y Z c x y z : Nat} {pl be : Nat → Int32} (hx : bxP X Y Z c 0 = x) (hy : bxP X Y Z c 1 = y) (hz : bxP X Y Z c 2 = z) (h : ∀ c', c' < c → geoC X Y Z pl be c') : ∀ c', c' < c + 1 → geoC X Y Z (upd (upd (upd pl (3 * c + 0) (nI x)) (3 * c + 1) (nI y)) (3 * c + 2) (nI z)) (upd (upd (upd (upd (upd (upd be (6 * c + 2 * 0) (if x + 1 < X then nI (c + 1) else -1)) (6 * c + 2 * 0 + 1) (if 0 < x then nI (c - 1) else -1)) (6 * c + 2 * 1) (if y + 1 < Y then nI (c + X) else -1)) (6 * c + 2 * 1 + 1) (if 0 < y then nI (c - X) else -1)) (6 * c + 2 * 2) (if z + 1 < Z then nI (c + X * Y) else -1)) (6 * c + 2 * 2 + 1) (if 0 < z then nI (c - X * Y) else -1)) c' := by
  intro c' hc' k hk
  rcases Nat.lt_or_ge c' c with q | q
  · obtain ⟨g1, g2, g3⟩ := h c' q k hk
    refine ⟨?_, ?_, ?_⟩
    · rw [upd_n _ _ (by omega), upd_n _ _ (by omega), upd_n _ _ (by omega)]; exact g1
    · rw [upd_n _ _ (by omega), upd_n _ _ (by omega), upd_n _ _ (by omega), upd_n _ _ (by omega), upd_n _ _ (by omega), upd_n _ _ (by omega)]; exact g2
    · rw [upd_n _ _ (by omega), upd_n _ _ (by omega), upd_n _ _ (by omega), upd_n _ _ (by omega), upd_n _ _ (by omega), upd_n _ _ (by omega)]; exact g3
  · have e : c' = c := by omega
    subst e
    rcases (show k = 0 ∨ k = 1 ∨ k = 2 by omega) with rfl | rfl | rfl
    · rw [hx]
      refine ⟨?_, ?_, ?_⟩
      · rw [upd_n _ _ (by omega), upd_n _ _ (by omega), upd_s]
      · rw [upd_n _ _ (by omega), upd_n _ _ (by omega), upd_n _ _ (by omega), upd_n _ _ (by omega), upd_n _ _ (by omega), upd_s]; rfl
      · rw [upd_n _ _ (by omega), upd_n _ _ (by omega), upd_n _ _ (by omega), upd_n _ _ (by omega), upd_s]; rfl
    · rw [hy]
      refine ⟨?_, ?_, ?_⟩
      · rw [upd_n _ _ (by omega), upd_s]
      · rw [upd_n _ _ (by omega), upd_n _ _ (by omega), upd_n _ _ (by omega), upd_s]; rfl
      · rw [upd_n _ _ (by omega), upd_n _ _ (by omega), upd_s]; rfl
    · rw [hz]
      refine ⟨?_, ?_, ?_⟩
      · rw [upd_s]
      · rw [upd_n _ _ (by omega), upd_s]; rfl
      · rw [upd_s]; rfl
end
section
theorem hde_X0_layAlong : yX0_layAlong.cls = RX0 ∧ yX0_layAlong.cls ≠ "java/lang/invoke/MethodHandle" ∧ yX0_layAlong.cls ≠ "java/lang/invoke/VarHandle" ∧ (parseMethodDescriptor yX0_layAlong.desc).map (fun d => d.parameters.length) = some 4 := by decide +kernel
abbrev w1X0_layAlong (ad : Nat → Nat) (cA : Nat → ClassId) (C_size : Int32) (C_sides : Nat → Int32) (u : (Nat → Int32) × (Nat → Int32)) : va_W := [((ad 1), .inr (0, [.ref (ad 2), .ref (ad 3), .ref (ad 4), .ref (ad 5), .ref (ad 6), .ref (ad 7), .int C_size])), ((ad 2), .inl (cA 0, 3, .inl C_sides)), ((ad 6), .inl (cA 0, 108, .inl u.1)), ((ad 7), .inl (cA 0, 216, .inl u.2))]
abbrev wcX0_layAlong (ad : Nat → Nat) (cA : Nat → ClassId) (C_size : Int32) (C_sides : Nat → Int32) (C_places : Nat → Int32) (C_beyond : Nat → Int32) : va_W := [((ad 1), .inr (0, [.ref (ad 2), .ref (ad 3), .ref (ad 4), .ref (ad 5), .ref (ad 6), .ref (ad 7), .int C_size])), ((ad 2), .inl (cA 0, 3, .inl C_sides)), ((ad 6), .inl (cA 0, 108, .inl C_places)), ((ad 7), .inl (cA 0, 216, .inl C_beyond))]
def rmX0_layAlong : Room := { frames := 0, cells := 0, slots := 0, locals := 0 }
abbrev atX0_layAlong_0 (X : gX) (ad : Nat → Nat) (cA : Nat → ClassId) (p1 : Int32) (p2 : Int32) (p3 : Int32) (p4 : Int32) (C_size : Int32) (C_sides : Nat → Int32) (C_places : Nat → Int32) (C_beyond : Nat → Int32) : Prop := gW X 0 0 [((ad 1), .inr (0, [.ref (ad 2), .ref (ad 3), .ref (ad 4), .ref (ad 5), .ref (ad 6), .ref (ad 7), .int C_size])), ((ad 2), .inl (cA 0, 3, .inl C_sides)), ((ad 6), .inl (cA 0, 108, .inl C_places)), ((ad 7), .inl (cA 0, 216, .inl C_beyond))] 6 [(0, .ref (ad 1)), (1, .int p1), (2, .int p2), (3, .int p3), (4, .int p4)] [] 0
theorem giX0_layAlong_X0 : ∀ w ∈ u_ws RX0 TX0 7, w ∈ wsX0_layAlong := by decide +kernel
theorem gfX0_layAlong_24 : gF wsX0_layAlong RX0 24 0 4 RX0 TX0 7 := ⟨giX0_layAlong_X0, by decide +kernel, rfl, by decide⟩
theorem gfX0_layAlong_27 : gF wsX0_layAlong RX0 27 0 5 RX0 TX0 7 := ⟨giX0_layAlong_X0, by decide +kernel, rfl, by decide⟩
theorem gfX0_layAlong_9 : gF wsX0_layAlong RX0 9 0 0 RX0 TX0 7 := ⟨giX0_layAlong_X0, by decide +kernel, rfl, by decide⟩
set_option maxHeartbeats 4000000 in
set_option maxRecDepth 100000 in
theorem sgX0_layAlong_0 {X : gX} {ad : Nat → Nat} {cA : Nat → ClassId} {post : ((Nat → Int32) × (Nat → Int32)) → Prop} {p1 : Int32} {p2 : Int32} {p3 : Int32} {p4 : Int32} {C_size : Int32} {C_sides : Nat → Int32} {C_places : Nat → Int32} {C_beyond : Nat → Int32} (C : gC X (gT cA) cX0_layAlong 6 RX0 wsX0_layAlong rmX0_layAlong) (E : gEv X none (gT cA) 0 0 post (w1X0_layAlong ad cA C_size C_sides)) (h : ∀ x5_1 : Int32, x5_1 = ((p2 * (6 : Int32)) + ((2 : Int32) * p1)) → vp_in ((p2 * (3 : Int32)) + p1) 108 ∧ vp_in p1 3 ∧ vp_in x5_1 216 ∧ vp_in (x5_1 + (1 : Int32)) 216 ∧ post ((upd C_places ((p2 * (3 : Int32)) + p1).toNatClampNeg p3), (upd (upd C_beyond x5_1.toNatClampNeg (if (C_sides p1.toNatClampNeg) ≤ (p3 + (1 : Int32)) then (-1 : Int32) else (p2 + p4))) (x5_1 + (1 : Int32)).toNatClampNeg (if p3 ≤ 0 then (-1 : Int32) else (p2 - p4))))) : atX0_layAlong_0 X ad cA p1 p2 p3 p4 C_size C_sides C_places C_beyond := by
  refine g_iload_n C dX0_layAlong_0 rfl 2 rfl ?_
  refine g_bipush C dX0_layAlong_1 bk_6 ?_
  refine g_imul C dX0_layAlong_3 ?_
  refine g_iconst C dX0_layAlong_4 ik_2 ?_
  refine g_iload_n C dX0_layAlong_5 rfl 1 rfl ?_
  refine g_imul C dX0_layAlong_6 ?_
  refine g_iadd C dX0_layAlong_7 ?_
  refine g_topi (fun x5_1 ex5_1 => ?_)
  replace h := h x5_1 ex5_1
  refine g_istore (lv2 := [(0, .ref (ad 1)), (1, .int p1), (2, .int p2), (3, .int p3), (4, .int p4), (5, .int x5_1)]) C dX0_layAlong_8 (by decide) [1, 2, 3, 4, 5, 0] rfl ?_
  refine g_aload_n C dX0_layAlong_10 rfl 0 rfl ?_
  refine g_get C gfX0_layAlong_24 0 rfl rfl dX0_layAlong_11 ?_
  refine g_iload_n C dX0_layAlong_14 rfl 2 rfl ?_
  refine g_iconst C dX0_layAlong_15 ik_3 ?_
  refine g_imul C dX0_layAlong_16 ?_
  refine g_iload_n C dX0_layAlong_17 rfl 1 rfl ?_
  refine g_iadd C dX0_layAlong_18 ?_
  refine g_iload_n C dX0_layAlong_19 rfl 3 rfl ?_
  obtain ⟨hi_2, h⟩ := h
  refine g_iast (ws2 := [((ad 1), .inr (0, [.ref (ad 2), .ref (ad 3), .ref (ad 4), .ref (ad 5), .ref (ad 6), .ref (ad 7), .int C_size])), ((ad 2), .inl (cA 0, 3, .inl C_sides)), ((ad 6), .inl (cA 0, 108, .inl (upd C_places ((p2 * (3 : Int32)) + p1).toNatClampNeg p3))), ((ad 7), .inl (cA 0, 216, .inl C_beyond))]) C 2 0 rfl rfl hi_2 rfl dX0_layAlong_20 ?_
  refine g_aload_n C dX0_layAlong_21 rfl 0 rfl ?_
  refine g_get C gfX0_layAlong_27 0 rfl rfl dX0_layAlong_22 ?_
  refine g_iload C dX0_layAlong_25 5 rfl ?_
  refine g_iload_n C dX0_layAlong_27 rfl 3 rfl ?_
  refine g_iconst C dX0_layAlong_28 ik_1 ?_
  refine g_iadd C dX0_layAlong_29 ?_
  refine g_aload_n C dX0_layAlong_30 rfl 0 rfl ?_
  refine g_get C gfX0_layAlong_9 0 rfl rfl dX0_layAlong_31 ?_
  refine g_iload_n C dX0_layAlong_34 rfl 1 rfl ?_
  obtain ⟨hi_3, h⟩ := h
  refine g_iald C 1 0 rfl rfl hi_3 dX0_layAlong_35 ?_
  have key : gW X 0 0 [((ad 1), .inr (0, [.ref (ad 2), .ref (ad 3), .ref (ad 4), .ref (ad 5), .ref (ad 6), .ref (ad 7), .int C_size])), ((ad 2), .inl (cA 0, 3, .inl C_sides)), ((ad 6), .inl (cA 0, 108, .inl (upd C_places ((p2 * (3 : Int32)) + p1).toNatClampNeg p3))), ((ad 7), .inl (cA 0, 216, .inl C_beyond))] 6 [(0, .ref (ad 1)), (1, .int p1), (2, .int p2), (3, .int p3), (4, .int p4), (5, .int x5_1)] [.int (if (C_sides p1.toNatClampNeg) ≤ (p3 + (1 : Int32)) then (-1 : Int32) else (p2 + p4)), .int x5_1, .ref (ad 7)] 47 := by
    obtain ⟨hi_5, h⟩ := h
    refine g_iast (ws2 := [((ad 1), .inr (0, [.ref (ad 2), .ref (ad 3), .ref (ad 4), .ref (ad 5), .ref (ad 6), .ref (ad 7), .int C_size])), ((ad 2), .inl (cA 0, 3, .inl C_sides)), ((ad 6), .inl (cA 0, 108, .inl (upd C_places ((p2 * (3 : Int32)) + p1).toNatClampNeg p3))), ((ad 7), .inl (cA 0, 216, .inl (upd C_beyond x5_1.toNatClampNeg (if (C_sides p1.toNatClampNeg) ≤ (p3 + (1 : Int32)) then (-1 : Int32) else (p2 + p4)))))]) C 3 0 rfl rfl hi_5 rfl dX0_layAlong_47 ?_
    refine g_aload_n C dX0_layAlong_48 rfl 0 rfl ?_
    refine g_get C gfX0_layAlong_27 0 rfl rfl dX0_layAlong_49 ?_
    refine g_iload C dX0_layAlong_52 5 rfl ?_
    refine g_iconst C dX0_layAlong_54 ik_1 ?_
    refine g_iadd C dX0_layAlong_55 ?_
    refine g_iload_n C dX0_layAlong_56 rfl 3 rfl ?_
    have key : gW X 0 0 [((ad 1), .inr (0, [.ref (ad 2), .ref (ad 3), .ref (ad 4), .ref (ad 5), .ref (ad 6), .ref (ad 7), .int C_size])), ((ad 2), .inl (cA 0, 3, .inl C_sides)), ((ad 6), .inl (cA 0, 108, .inl (upd C_places ((p2 * (3 : Int32)) + p1).toNatClampNeg p3))), ((ad 7), .inl (cA 0, 216, .inl (upd C_beyond x5_1.toNatClampNeg (if (C_sides p1.toNatClampNeg) ≤ (p3 + (1 : Int32)) then (-1 : Int32) else (p2 + p4)))))] 6 [(0, .ref (ad 1)), (1, .int p1), (2, .int p2), (3, .int p3), (4, .int p4), (5, .int x5_1)] [.int (if p3 ≤ 0 then (-1 : Int32) else (p2 - p4)), .int (x5_1 + (1 : Int32)), .ref (ad 7)] 68 := by
      obtain ⟨hi_7, h⟩ := h
      refine g_iast (ws2 := [((ad 1), .inr (0, [.ref (ad 2), .ref (ad 3), .ref (ad 4), .ref (ad 5), .ref (ad 6), .ref (ad 7), .int C_size])), ((ad 2), .inl (cA 0, 3, .inl C_sides)), ((ad 6), .inl (cA 0, 108, .inl (upd C_places ((p2 * (3 : Int32)) + p1).toNatClampNeg p3))), ((ad 7), .inl (cA 0, 216, .inl (upd (upd C_beyond x5_1.toNatClampNeg (if (C_sides p1.toNatClampNeg) ≤ (p3 + (1 : Int32)) then (-1 : Int32) else (p2 + p4))) (x5_1 + (1 : Int32)).toNatClampNeg (if p3 ≤ 0 then (-1 : Int32) else (p2 - p4)))))]) C 3 0 rfl rfl hi_7 rfl dX0_layAlong_68 ?_
      exact g_vret C E ((upd C_places ((p2 * (3 : Int32)) + p1).toNatClampNeg p3), (upd (upd C_beyond x5_1.toNatClampNeg (if (C_sides p1.toNatClampNeg) ≤ (p3 + (1 : Int32)) then (-1 : Int32) else (p2 + p4))) (x5_1 + (1 : Int32)).toNatClampNeg (if p3 ≤ 0 then (-1 : Int32) else (p2 - p4)))) h rfl dX0_layAlong_69
    refine g_if_le (tgt := 67) C dX0_layAlong_57 (by decide) (fun c_6 => ?_) (fun c_6 => ?_)
    · refine g_iconst C dX0_layAlong_67 ik_m1 ?_
      exact g_leaf (by simp only [if_pos c_6] at key; first | exact key | (simp only [if_pos c_6]; exact key) | exact absurd rfl c_6)
    · refine g_iload_n C dX0_layAlong_60 rfl 2 rfl ?_
      refine g_iload C dX0_layAlong_61 4 rfl ?_
      refine g_isub C dX0_layAlong_63 ?_
      refine g_goto (tgt := 68) C dX0_layAlong_64 (by decide) ?_
      exact g_leaf (by simp only [if_neg c_6] at key; first | exact key | (simp only [if_neg c_6]; exact key) | exact absurd rfl c_6)
  refine g_icmp_ge (tgt := 46) C dX0_layAlong_36 (by decide) (fun c_4 => ?_) (fun c_4 => ?_)
  · refine g_iconst C dX0_layAlong_46 ik_m1 ?_
    exact g_leaf (by simp only [if_pos c_4] at key; first | exact key | (simp only [if_pos c_4]; exact key) | exact absurd rfl c_4)
  · refine g_iload_n C dX0_layAlong_39 rfl 2 rfl ?_
    refine g_iload C dX0_layAlong_40 4 rfl ?_
    refine g_iadd C dX0_layAlong_42 ?_
    refine g_goto (tgt := 47) C dX0_layAlong_43 (by decide) ?_
    exact g_leaf (by simp only [if_neg c_4] at key; first | exact key | (simp only [if_neg c_4]; exact key) | exact absurd rfl c_4)
def prX0_layAlong (p1 : Int32) (p2 : Int32) (p3 : Int32) (p4 : Int32) (C_size : Int32) (C_sides : Nat → Int32) (C_places : Nat → Int32) (C_beyond : Nat → Int32) : Prop := ∃ k c p st d : Nat, k < 3 ∧ c < 36 ∧ p < 4 ∧ st ≤ 16 ∧ d ≤ 4 ∧ (0 < p → st ≤ c) ∧ p1 = nI k ∧ p2 = nI c ∧ p3 = nI p ∧ p4 = nI st ∧ C_sides k = nI d
def po_X0_layAlong (ad : Nat → Nat) (cA : Nat → ClassId) (p1 : Int32) (p2 : Int32) (p3 : Int32) (p4 : Int32) (C_size : Int32) (C_sides : Nat → Int32) (C_places : Nat → Int32) (C_beyond : Nat → Int32) (u : (Nat → Int32) × (Nat → Int32)) : Prop := ∀ k c p st d : Nat, k < 3 → c < 36 → p < 4 → st ≤ 16 → d ≤ 4 → (0 < p → st ≤ c) → p1 = nI k → p2 = nI c → p3 = nI p → p4 = nI st → C_sides k = nI d → u.1 = upd C_places (3 * c + k) (nI p) ∧ u.2 = upd (upd C_beyond (6 * c + 2 * k) (if p + 1 < d then nI (c + st) else -1)) (6 * c + 2 * k + 1) (if 0 < p then nI (c - st) else -1)
set_option maxHeartbeats 4000000 in
set_option maxRecDepth 100000 in
theorem c_X0_layAlong (ad : Nat → Nat) (cA : Nat → ClassId) (p1 : Int32) (p2 : Int32) (p3 : Int32) (p4 : Int32) (C_size : Int32) (C_sides : Nat → Int32) (C_places : Nat → Int32) (C_beyond : Nat → Int32) (hq : prX0_layAlong p1 p2 p3 p4 C_size C_sides C_places C_beyond) : ∀ (l : Launch) (D : va_G), gMv (S := (Nat → Int32) × (Nat → Int32)) l yX0_layAlong wsX0_layAlong rmX0_layAlong D (gT cA) 0 0 [.ref (ad 1), .int p1, .int p2, .int p3, .int p4] (wcX0_layAlong ad cA C_size C_sides C_places C_beyond) (po_X0_layAlong ad cA p1 p2 p3 p4 C_size C_sides C_places C_beyond) (w1X0_layAlong ad cA C_size C_sides) := by
  intro l D
  unfold prX0_layAlong at hq
  refine g_enterv (cc := cX0_layAlong) (nL := 6) (ret := none) (by decide) rfl (Nat.le_of_ble_eq_true rfl) rfl (fun X C E => ?_)
  obtain ⟨k, c, p, st, d, hk, hc, hp, hst, hd, hle, rfl, rfl, rfl, rfl, hsd⟩ := hq
  have e1 : nI c * (3 : Int32) + nI k = nI (3 * c + k) := by show nI c * nI 3 + _ = _; rw [pk_mul, nI_add, Nat.mul_comm]
  have e2 : nI c * (6 : Int32) + (2 : Int32) * nI k = nI (6 * c + 2 * k) := by show nI c * nI 6 + nI 2 * _ = _; rw [pk_mul, pk_mul, nI_add, Nat.mul_comm]
  have e3 : nI (6 * c + 2 * k) + (1 : Int32) = nI (6 * c + 2 * k + 1) := nI_1 _
  refine sgX0_layAlong_0 C E ?_
  rw [e1, e2]
  have fin : po_X0_layAlong ad cA (nI k) (nI c) (nI p) (nI st) C_size C_sides C_places C_beyond (upd C_places (3 * c + k) (nI p), upd (upd C_beyond (6 * c + 2 * k) (if p + 1 < d then nI (c + st) else -1)) (6 * c + 2 * k + 1) (if 0 < p then nI (c - st) else -1)) := by
    intro k' c' p' st' d' hk' hc' hp' hst' hd' hle' q1 q2 q3 q4 q5
    rw [nI_eq (by omega) (by omega)] at q1 q2 q3 q4
    subst q1; subst q2; subst q3; subst q4
    rw [hsd, nI_eq (by omega) (by omega)] at q5
    subst q5
    exact ⟨rfl, rfl⟩
  have k1 : (if nI d ≤ nI p + 1 then (-1 : Int32) else nI c + nI st) = (if p + 1 < d then nI (c + st) else -1) := by
    rw [nI_1, nI_add]
    by_cases q : p + 1 < d
    · rw [if_pos q, if_neg (nI_ge q (by omega))]
    · rw [if_neg q, if_pos (nI_le (by omega) (by omega))]
  have k2 : (if nI p ≤ 0 then (-1 : Int32) else nI c - nI st) = (if 0 < p then nI (c - st) else -1) := by
    by_cases q : 0 < p
    · rw [if_pos q, if_neg (nI_nle q (by omega)), pk_sub (hle q)]
    · have e0 : p = 0 := by omega
      rw [if_neg q, e0]; exact if_pos (i32_le_refl _)
  intro x5 ex5
  rw [ex5, e3, nI_clamp (n := 3 * c + k) (by omega), nI_clamp (n := k) (by omega), nI_clamp (n := 6 * c + 2 * k) (by omega), nI_clamp (n := 6 * c + 2 * k + 1) (by omega), hsd, k1, k2]
  exact ⟨vp_in_nI (by omega) (by decide), vp_in_nI (by omega) (by decide), vp_in_nI (by omega) (by decide), vp_in_nI (by omega) (by decide), fin⟩


abbrev w1X0_lay (ad : Nat → Nat) (cA : Nat → ClassId) (u : (Int32) × (Nat → Int32) × (Nat → Int32) × (Nat → Int32) × (Nat → Int32) × (Nat → Int32)) : va_W := [((ad 1), .inr (0, [.ref (ad 2), .ref (ad 3), .ref (ad 4), .ref (ad 5), .ref (ad 6), .ref (ad 7), .int u.1])), ((ad 2), .inl (cA 0, 3, .inl u.2.1)), ((ad 3), .inl (cA 0, 36, .inl u.2.2.1)), ((ad 4), .inl (cA 0, 36, .inl u.2.2.2.1)), ((ad 6), .inl (cA 0, 108, .inl u.2.2.2.2.1)), ((ad 7), .inl (cA 0, 216, .inl u.2.2.2.2.2))]
abbrev wcX0_lay (ad : Nat → Nat) (cA : Nat → ClassId) (C_size : Int32) (C_sides : Nat → Int32) (C_held : Nat → Int32) (C_prices : Nat → Int32) (C_places : Nat → Int32) (C_beyond : Nat → Int32) : va_W := [((ad 1), .inr (0, [.ref (ad 2), .ref (ad 3), .ref (ad 4), .ref (ad 5), .ref (ad 6), .ref (ad 7), .int C_size])), ((ad 2), .inl (cA 0, 3, .inl C_sides)), ((ad 3), .inl (cA 0, 36, .inl C_held)), ((ad 4), .inl (cA 0, 36, .inl C_prices)), ((ad 6), .inl (cA 0, 108, .inl C_places)), ((ad 7), .inl (cA 0, 216, .inl C_beyond))]
def rmX0_lay : Room := { frames := 1, cells := 0, slots := 0, locals := 25 }
abbrev atX0_lay_0 (X : gX) (ad : Nat → Nat) (cA : Nat → ClassId) (p1 : Int32) (p2 : Int32) (p3 : Int32) (C_size : Int32) (C_sides : Nat → Int32) (C_held : Nat → Int32) (C_prices : Nat → Int32) (C_places : Nat → Int32) (C_beyond : Nat → Int32) : Prop := gW X 0 0 [((ad 1), .inr (0, [.ref (ad 2), .ref (ad 3), .ref (ad 4), .ref (ad 5), .ref (ad 6), .ref (ad 7), .int C_size])), ((ad 2), .inl (cA 0, 3, .inl C_sides)), ((ad 3), .inl (cA 0, 36, .inl C_held)), ((ad 4), .inl (cA 0, 36, .inl C_prices)), ((ad 6), .inl (cA 0, 108, .inl C_places)), ((ad 7), .inl (cA 0, 216, .inl C_beyond))] 8 [(0, .ref (ad 1)), (1, .int p1), (2, .int p2), (3, .int p3)] [] 0
abbrev atX0_lay_52 (X : gX) (ad : Nat → Nat) (cA : Nat → ClassId) (x1 : Int32) (x2 : Int32) (x3 : Int32) (x4 : Int32) (x5 : Int32) (C_size : Int32) (C_sides : Nat → Int32) (C_held : Nat → Int32) (C_prices : Nat → Int32) (C_places : Nat → Int32) (C_beyond : Nat → Int32) : Prop := gW X 0 0 [((ad 1), .inr (0, [.ref (ad 2), .ref (ad 3), .ref (ad 4), .ref (ad 5), .ref (ad 6), .ref (ad 7), .int C_size])), ((ad 2), .inl (cA 0, 3, .inl C_sides)), ((ad 3), .inl (cA 0, 36, .inl C_held)), ((ad 4), .inl (cA 0, 36, .inl C_prices)), ((ad 6), .inl (cA 0, 108, .inl C_places)), ((ad 7), .inl (cA 0, 216, .inl C_beyond))] 8 [(0, .ref (ad 1)), (1, .int x1), (2, .int x2), (3, .int x3), (4, .int x4), (5, .int x5)] [] 52
abbrev atX0_lay_61 (X : gX) (ad : Nat → Nat) (cA : Nat → ClassId) (x1 : Int32) (x2 : Int32) (x3 : Int32) (x4 : Int32) (x5 : Int32) (x6 : Int32) (C_size : Int32) (C_sides : Nat → Int32) (C_held : Nat → Int32) (C_prices : Nat → Int32) (C_places : Nat → Int32) (C_beyond : Nat → Int32) : Prop := gW X 0 0 [((ad 1), .inr (0, [.ref (ad 2), .ref (ad 3), .ref (ad 4), .ref (ad 5), .ref (ad 6), .ref (ad 7), .int C_size])), ((ad 2), .inl (cA 0, 3, .inl C_sides)), ((ad 3), .inl (cA 0, 36, .inl C_held)), ((ad 4), .inl (cA 0, 36, .inl C_prices)), ((ad 6), .inl (cA 0, 108, .inl C_places)), ((ad 7), .inl (cA 0, 216, .inl C_beyond))] 8 [(0, .ref (ad 1)), (1, .int x1), (2, .int x2), (3, .int x3), (4, .int x4), (5, .int x5), (6, .int x6)] [] 61
abbrev atX0_lay_70 (X : gX) (ad : Nat → Nat) (cA : Nat → ClassId) (x1 : Int32) (x2 : Int32) (x3 : Int32) (x4 : Int32) (x5 : Int32) (x6 : Int32) (x7 : Int32) (C_size : Int32) (C_sides : Nat → Int32) (C_held : Nat → Int32) (C_prices : Nat → Int32) (C_places : Nat → Int32) (C_beyond : Nat → Int32) : Prop := gW X 0 0 [((ad 1), .inr (0, [.ref (ad 2), .ref (ad 3), .ref (ad 4), .ref (ad 5), .ref (ad 6), .ref (ad 7), .int C_size])), ((ad 2), .inl (cA 0, 3, .inl C_sides)), ((ad 3), .inl (cA 0, 36, .inl C_held)), ((ad 4), .inl (cA 0, 36, .inl C_prices)), ((ad 6), .inl (cA 0, 108, .inl C_places)), ((ad 7), .inl (cA 0, 216, .inl C_beyond))] 8 [(0, .ref (ad 1)), (1, .int x1), (2, .int x2), (3, .int x3), (4, .int x4), (5, .int x5), (6, .int x6), (7, .int x7)] [] 70
theorem giX0_lay_X0 : ∀ w ∈ u_ws RX0 TX0 7, w ∈ wsX0_lay := by decide +kernel
theorem gfX0_lay_9 : gF wsX0_lay RX0 9 0 0 RX0 TX0 7 := ⟨giX0_lay_X0, by decide +kernel, rfl, by decide⟩
theorem gfX0_lay_30 : gF wsX0_lay RX0 30 0 6 RX0 TX0 7 := ⟨giX0_lay_X0, by decide +kernel, rfl, by decide⟩
theorem gfX0_lay_15 : gF wsX0_lay RX0 15 0 1 RX0 TX0 7 := ⟨giX0_lay_X0, by decide +kernel, rfl, by decide⟩
theorem gfX0_lay_18 : gF wsX0_lay RX0 18 0 2 RX0 TX0 7 := ⟨giX0_lay_X0, by decide +kernel, rfl, by decide⟩
set_option maxHeartbeats 4000000 in
set_option maxRecDepth 100000 in
theorem sgX0_lay_0 {X : gX} {ad : Nat → Nat} {cA : Nat → ClassId} {post : ((Int32) × (Nat → Int32) × (Nat → Int32) × (Nat → Int32) × (Nat → Int32) × (Nat → Int32)) → Prop} {p1 : Int32} {p2 : Int32} {p3 : Int32} {C_size : Int32} {C_sides : Nat → Int32} {C_held : Nat → Int32} {C_prices : Nat → Int32} {C_places : Nat → Int32} {C_beyond : Nat → Int32} (C : gC X (gT cA) cX0_lay 8 RX0 wsX0_lay rmX0_lay) (E : gEv X none (gT cA) 0 0 post (w1X0_lay ad cA)) (h : vp_in (0 : Int32) 3 ∧ vp_in (1 : Int32) 3 ∧ vp_in (2 : Int32) 3 ∧ prJ7_fill_53178 (ad 3) 36 (0 : Int32) C_held ∧ prJ7_fill_53178 (ad 4) 36 (0 : Int32) C_prices ∧ atX0_lay_52 X ad cA p1 p2 p3 (0 : Int32) (0 : Int32) ((p1 * p2) * p3) (upd (upd (upd C_sides (0 : Int32).toNatClampNeg p1) (1 : Int32).toNatClampNeg p2) (2 : Int32).toNatClampNeg p3) (fillA 36 (0 : Int32) C_held) (fillA 36 (0 : Int32) C_prices) C_places C_beyond) : atX0_lay_0 X ad cA p1 p2 p3 C_size C_sides C_held C_prices C_places C_beyond := by
  refine g_aload_n C dX0_lay_0 rfl 0 rfl ?_
  refine g_get C gfX0_lay_9 0 rfl rfl dX0_lay_1 ?_
  refine g_iconst C dX0_lay_4 ik_0 ?_
  refine g_iload_n C dX0_lay_5 rfl 1 rfl ?_
  obtain ⟨hi_1, h⟩ := h
  refine g_iast (ws2 := [((ad 1), .inr (0, [.ref (ad 2), .ref (ad 3), .ref (ad 4), .ref (ad 5), .ref (ad 6), .ref (ad 7), .int C_size])), ((ad 2), .inl (cA 0, 3, .inl (upd C_sides (0 : Int32).toNatClampNeg p1))), ((ad 3), .inl (cA 0, 36, .inl C_held)), ((ad 4), .inl (cA 0, 36, .inl C_prices)), ((ad 6), .inl (cA 0, 108, .inl C_places)), ((ad 7), .inl (cA 0, 216, .inl C_beyond))]) C 1 0 rfl rfl hi_1 rfl dX0_lay_6 ?_
  refine g_aload_n C dX0_lay_7 rfl 0 rfl ?_
  refine g_get C gfX0_lay_9 0 rfl rfl dX0_lay_8 ?_
  refine g_iconst C dX0_lay_11 ik_1 ?_
  refine g_iload_n C dX0_lay_12 rfl 2 rfl ?_
  obtain ⟨hi_2, h⟩ := h
  refine g_iast (ws2 := [((ad 1), .inr (0, [.ref (ad 2), .ref (ad 3), .ref (ad 4), .ref (ad 5), .ref (ad 6), .ref (ad 7), .int C_size])), ((ad 2), .inl (cA 0, 3, .inl (upd (upd C_sides (0 : Int32).toNatClampNeg p1) (1 : Int32).toNatClampNeg p2))), ((ad 3), .inl (cA 0, 36, .inl C_held)), ((ad 4), .inl (cA 0, 36, .inl C_prices)), ((ad 6), .inl (cA 0, 108, .inl C_places)), ((ad 7), .inl (cA 0, 216, .inl C_beyond))]) C 1 0 rfl rfl hi_2 rfl dX0_lay_13 ?_
  refine g_aload_n C dX0_lay_14 rfl 0 rfl ?_
  refine g_get C gfX0_lay_9 0 rfl rfl dX0_lay_15 ?_
  refine g_iconst C dX0_lay_18 ik_2 ?_
  refine g_iload_n C dX0_lay_19 rfl 3 rfl ?_
  obtain ⟨hi_3, h⟩ := h
  refine g_iast (ws2 := [((ad 1), .inr (0, [.ref (ad 2), .ref (ad 3), .ref (ad 4), .ref (ad 5), .ref (ad 6), .ref (ad 7), .int C_size])), ((ad 2), .inl (cA 0, 3, .inl (upd (upd (upd C_sides (0 : Int32).toNatClampNeg p1) (1 : Int32).toNatClampNeg p2) (2 : Int32).toNatClampNeg p3))), ((ad 3), .inl (cA 0, 36, .inl C_held)), ((ad 4), .inl (cA 0, 36, .inl C_prices)), ((ad 6), .inl (cA 0, 108, .inl C_places)), ((ad 7), .inl (cA 0, 216, .inl C_beyond))]) C 1 0 rfl rfl hi_3 rfl dX0_lay_20 ?_
  refine g_aload_n C dX0_lay_21 rfl 0 rfl ?_
  refine g_iload_n C dX0_lay_22 rfl 1 rfl ?_
  refine g_iload_n C dX0_lay_23 rfl 2 rfl ?_
  refine g_imul C dX0_lay_24 ?_
  refine g_iload_n C dX0_lay_25 rfl 3 rfl ?_
  refine g_imul C dX0_lay_26 ?_
  refine g_put (ws2 := [((ad 1), .inr (0, [.ref (ad 2), .ref (ad 3), .ref (ad 4), .ref (ad 5), .ref (ad 6), .ref (ad 7), .int ((p1 * p2) * p3)])), ((ad 2), .inl (cA 0, 3, .inl (upd (upd (upd C_sides (0 : Int32).toNatClampNeg p1) (1 : Int32).toNatClampNeg p2) (2 : Int32).toNatClampNeg p3))), ((ad 3), .inl (cA 0, 36, .inl C_held)), ((ad 4), .inl (cA 0, 36, .inl C_prices)), ((ad 6), .inl (cA 0, 108, .inl C_places)), ((ad 7), .inl (cA 0, 216, .inl C_beyond))]) C gfX0_lay_30 0 tyX0_ok nmX0 rfl rfl rfl rfl (Nat.le_of_ble_eq_true rfl) rfl dX0_lay_27 ?_
  refine g_aload_n C dX0_lay_30 rfl 0 rfl ?_
  refine g_get C gfX0_lay_15 0 rfl rfl dX0_lay_31 ?_
  refine g_iconst C dX0_lay_34 ik_0 ?_
  obtain ⟨hi_4, h⟩ := h
  refine g_callSv (b := 0) (wr := [((ad 1), .inr (0, [.ref (ad 2), .ref (ad 3), .ref (ad 4), .ref (ad 5), .ref (ad 6), .ref (ad 7), .int ((p1 * p2) * p3)])), ((ad 2), .inl (cA 0, 3, .inl (upd (upd (upd C_sides (0 : Int32).toNatClampNeg p1) (1 : Int32).toNatClampNeg p2) (2 : Int32).toNatClampNeg p3))), ((ad 4), .inl (cA 0, 36, .inl C_prices)), ((ad 6), .inl (cA 0, 108, .inl C_places)), ((ad 7), .inl (cA 0, 216, .inl C_beyond))]) C (c_J7_fill_53178 ad cA (ad 3) 36 (0 : Int32) C_held hi_4) gX0_lay_J7_fill_53178 rfl hde_J7_fill_53178 ⟨rfl, rfl⟩ (by decide) (by decide) [2] [0, 1, 3, 4, 5] [0, 1, 5, 2, 3, 4] rfl rfl rfl rfl (by decide) rfl (ws2 := fun u => [((ad 1), .inr (0, [.ref (ad 2), .ref (ad 3), .ref (ad 4), .ref (ad 5), .ref (ad 6), .ref (ad 7), .int ((p1 * p2) * p3)])), ((ad 2), .inl (cA 0, 3, .inl (upd (upd (upd C_sides (0 : Int32).toNatClampNeg p1) (1 : Int32).toNatClampNeg p2) (2 : Int32).toNatClampNeg p3))), ((ad 3), .inl (cA 0, 36, .inl u)), ((ad 4), .inl (cA 0, 36, .inl C_prices)), ((ad 6), .inl (cA 0, 108, .inl C_places)), ((ad 7), .inl (cA 0, 216, .inl C_beyond))]) (fun _ => rfl) (rest := []) rfl (Nat.le_of_ble_eq_true rfl) dX0_lay_35 (fun u_5 hp_5 => ?_)
  subst hp_5
  change gW X 0 0 [((ad 1), .inr (0, [.ref (ad 2), .ref (ad 3), .ref (ad 4), .ref (ad 5), .ref (ad 6), .ref (ad 7), .int ((p1 * p2) * p3)])), ((ad 2), .inl (cA 0, 3, .inl (upd (upd (upd C_sides (0 : Int32).toNatClampNeg p1) (1 : Int32).toNatClampNeg p2) (2 : Int32).toNatClampNeg p3))), ((ad 3), .inl (cA 0, 36, .inl (fillA 36 (0 : Int32) C_held))), ((ad 4), .inl (cA 0, 36, .inl C_prices)), ((ad 6), .inl (cA 0, 108, .inl C_places)), ((ad 7), .inl (cA 0, 216, .inl C_beyond))] 8 [(0, .ref (ad 1)), (1, .int p1), (2, .int p2), (3, .int p3)] [] 38
  refine g_aload_n C dX0_lay_38 rfl 0 rfl ?_
  refine g_get C gfX0_lay_18 0 rfl rfl dX0_lay_39 ?_
  refine g_iconst C dX0_lay_42 ik_0 ?_
  obtain ⟨hi_6, h⟩ := h
  refine g_callSv (b := 0) (wr := [((ad 1), .inr (0, [.ref (ad 2), .ref (ad 3), .ref (ad 4), .ref (ad 5), .ref (ad 6), .ref (ad 7), .int ((p1 * p2) * p3)])), ((ad 2), .inl (cA 0, 3, .inl (upd (upd (upd C_sides (0 : Int32).toNatClampNeg p1) (1 : Int32).toNatClampNeg p2) (2 : Int32).toNatClampNeg p3))), ((ad 3), .inl (cA 0, 36, .inl (fillA 36 (0 : Int32) C_held))), ((ad 6), .inl (cA 0, 108, .inl C_places)), ((ad 7), .inl (cA 0, 216, .inl C_beyond))]) C (c_J7_fill_53178 ad cA (ad 4) 36 (0 : Int32) C_prices hi_6) gX0_lay_J7_fill_53178 rfl hde_J7_fill_53178 ⟨rfl, rfl⟩ (by decide) (by decide) [3] [0, 1, 2, 4, 5] [0, 1, 2, 5, 3, 4] rfl rfl rfl rfl (by decide) rfl (ws2 := fun u => [((ad 1), .inr (0, [.ref (ad 2), .ref (ad 3), .ref (ad 4), .ref (ad 5), .ref (ad 6), .ref (ad 7), .int ((p1 * p2) * p3)])), ((ad 2), .inl (cA 0, 3, .inl (upd (upd (upd C_sides (0 : Int32).toNatClampNeg p1) (1 : Int32).toNatClampNeg p2) (2 : Int32).toNatClampNeg p3))), ((ad 3), .inl (cA 0, 36, .inl (fillA 36 (0 : Int32) C_held))), ((ad 4), .inl (cA 0, 36, .inl u)), ((ad 6), .inl (cA 0, 108, .inl C_places)), ((ad 7), .inl (cA 0, 216, .inl C_beyond))]) (fun _ => rfl) (rest := []) rfl (Nat.le_of_ble_eq_true rfl) dX0_lay_43 (fun u_7 hp_7 => ?_)
  subst hp_7
  change gW X 0 0 [((ad 1), .inr (0, [.ref (ad 2), .ref (ad 3), .ref (ad 4), .ref (ad 5), .ref (ad 6), .ref (ad 7), .int ((p1 * p2) * p3)])), ((ad 2), .inl (cA 0, 3, .inl (upd (upd (upd C_sides (0 : Int32).toNatClampNeg p1) (1 : Int32).toNatClampNeg p2) (2 : Int32).toNatClampNeg p3))), ((ad 3), .inl (cA 0, 36, .inl (fillA 36 (0 : Int32) C_held))), ((ad 4), .inl (cA 0, 36, .inl (fillA 36 (0 : Int32) C_prices))), ((ad 6), .inl (cA 0, 108, .inl C_places)), ((ad 7), .inl (cA 0, 216, .inl C_beyond))] 8 [(0, .ref (ad 1)), (1, .int p1), (2, .int p2), (3, .int p3)] [] 46
  refine g_iconst C dX0_lay_46 ik_0 ?_
  refine g_istore (lv2 := [(0, .ref (ad 1)), (1, .int p1), (2, .int p2), (3, .int p3), (4, .int (0 : Int32))]) C dX0_lay_47 (by decide) [1, 2, 3, 4, 0] rfl ?_
  refine g_iconst C dX0_lay_49 ik_0 ?_
  refine g_istore (lv2 := [(0, .ref (ad 1)), (1, .int p1), (2, .int p2), (3, .int p3), (4, .int (0 : Int32)), (5, .int (0 : Int32))]) C dX0_lay_50 (by decide) [1, 2, 3, 4, 5, 0] rfl ?_
  exact g_lv [0, 1, 2, 3, 4, 5] rfl h
set_option maxHeartbeats 4000000 in
set_option maxRecDepth 100000 in
theorem sgX0_lay_52 {X : gX} {ad : Nat → Nat} {cA : Nat → ClassId} {post : ((Int32) × (Nat → Int32) × (Nat → Int32) × (Nat → Int32) × (Nat → Int32) × (Nat → Int32)) → Prop} {x1 : Int32} {x2 : Int32} {x3 : Int32} {x4 : Int32} {x5 : Int32} {C_size : Int32} {C_sides : Nat → Int32} {C_held : Nat → Int32} {C_prices : Nat → Int32} {C_places : Nat → Int32} {C_beyond : Nat → Int32} (C : gC X (gT cA) cX0_lay 8 RX0 wsX0_lay rmX0_lay) (E : gEv X none (gT cA) 0 0 post (w1X0_lay ad cA)) (h : (x3 ≤ x5 → post (C_size, C_sides, C_held, C_prices, C_places, C_beyond)) ∧ (¬ x3 ≤ x5 → atX0_lay_61 X ad cA x1 x2 x3 x4 x5 (0 : Int32) C_size C_sides C_held C_prices C_places C_beyond)) : atX0_lay_52 X ad cA x1 x2 x3 x4 x5 C_size C_sides C_held C_prices C_places C_beyond := by
  refine g_iload C dX0_lay_52 5 rfl ?_
  refine g_iload_n C dX0_lay_54 rfl 3 rfl ?_
  refine g_icmp_ge (tgt := 129) C dX0_lay_55 (by decide) (fun c_8 => ?_) (fun c_8 => ?_)
  · replace h := h.1 c_8
    exact g_vret C E (C_size, C_sides, C_held, C_prices, C_places, C_beyond) h rfl dX0_lay_129
  · replace h := h.2 c_8
    refine g_iconst C dX0_lay_58 ik_0 ?_
    refine g_istore (lv2 := [(0, .ref (ad 1)), (1, .int x1), (2, .int x2), (3, .int x3), (4, .int x4), (5, .int x5), (6, .int (0 : Int32))]) C dX0_lay_59 (by decide) [1, 2, 3, 4, 5, 6, 0] rfl ?_
    exact g_lv [0, 1, 2, 3, 4, 5, 6] rfl h
set_option maxHeartbeats 4000000 in
set_option maxRecDepth 100000 in
theorem sgX0_lay_61 {X : gX} {ad : Nat → Nat} {cA : Nat → ClassId} {post : ((Int32) × (Nat → Int32) × (Nat → Int32) × (Nat → Int32) × (Nat → Int32) × (Nat → Int32)) → Prop} {x1 : Int32} {x2 : Int32} {x3 : Int32} {x4 : Int32} {x5 : Int32} {x6 : Int32} {C_size : Int32} {C_sides : Nat → Int32} {C_held : Nat → Int32} {C_prices : Nat → Int32} {C_places : Nat → Int32} {C_beyond : Nat → Int32} (C : gC X (gT cA) cX0_lay 8 RX0 wsX0_lay rmX0_lay) (E : gEv X none (gT cA) 0 0 post (w1X0_lay ad cA)) (h : (x2 ≤ x6 → atX0_lay_52 X ad cA x1 x2 x3 x4 (x5 + 1) C_size C_sides C_held C_prices C_places C_beyond) ∧ (¬ x2 ≤ x6 → atX0_lay_70 X ad cA x1 x2 x3 x4 x5 x6 (0 : Int32) C_size C_sides C_held C_prices C_places C_beyond)) : atX0_lay_61 X ad cA x1 x2 x3 x4 x5 x6 C_size C_sides C_held C_prices C_places C_beyond := by
  refine g_iload C dX0_lay_61 6 rfl ?_
  refine g_iload_n C dX0_lay_63 rfl 2 rfl ?_
  refine g_icmp_ge (tgt := 123) C dX0_lay_64 (by decide) (fun c_9 => ?_) (fun c_9 => ?_)
  · replace h := h.1 c_9
    refine g_iinc (v := (x5 + 1)) (lv2 := [(0, .ref (ad 1)), (1, .int x1), (2, .int x2), (3, .int x3), (4, .int x4), (5, .int (x5 + 1)), (6, .int x6)]) C dX0_lay_123 5 rfl (by first | rfl | decide) (by decide) [1, 2, 3, 4, 5, 0, 6] rfl ?_
    refine g_goto (tgt := 52) C dX0_lay_126 (by decide) ?_
    exact g_lv [0, 1, 2, 3, 4, 5] rfl h
  · replace h := h.2 c_9
    refine g_iconst C dX0_lay_67 ik_0 ?_
    refine g_istore (lv2 := [(0, .ref (ad 1)), (1, .int x1), (2, .int x2), (3, .int x3), (4, .int x4), (5, .int x5), (6, .int x6), (7, .int (0 : Int32))]) C dX0_lay_68 (by decide) [1, 2, 3, 4, 5, 6, 7, 0] rfl ?_
    exact g_lv [0, 1, 2, 3, 4, 5, 6, 7] rfl h
set_option maxHeartbeats 4000000 in
set_option maxRecDepth 100000 in
theorem sgX0_lay_70 {X : gX} {ad : Nat → Nat} {cA : Nat → ClassId} {post : ((Int32) × (Nat → Int32) × (Nat → Int32) × (Nat → Int32) × (Nat → Int32) × (Nat → Int32)) → Prop} {x1 : Int32} {x2 : Int32} {x3 : Int32} {x4 : Int32} {x5 : Int32} {x6 : Int32} {x7 : Int32} {C_size : Int32} {C_sides : Nat → Int32} {C_held : Nat → Int32} {C_prices : Nat → Int32} {C_places : Nat → Int32} {C_beyond : Nat → Int32} (C : gC X (gT cA) cX0_lay 8 RX0 wsX0_lay rmX0_lay) (E : gEv X none (gT cA) 0 0 post (w1X0_lay ad cA)) (h : (x1 ≤ x7 → atX0_lay_61 X ad cA x1 x2 x3 x4 x5 (x6 + 1) C_size C_sides C_held C_prices C_places C_beyond) ∧ (¬ x1 ≤ x7 → prX0_layAlong (0 : Int32) x4 x7 (1 : Int32) C_size C_sides C_places C_beyond ∧ ∀ (u12_C_places : Nat → Int32) (u12_C_beyond : Nat → Int32), po_X0_layAlong ad cA (0 : Int32) x4 x7 (1 : Int32) C_size C_sides C_places C_beyond (u12_C_places, u12_C_beyond) → prX0_layAlong (1 : Int32) x4 x6 x1 C_size C_sides u12_C_places u12_C_beyond ∧ ∀ (u14_C_places : Nat → Int32) (u14_C_beyond : Nat → Int32), po_X0_layAlong ad cA (1 : Int32) x4 x6 x1 C_size C_sides u12_C_places u12_C_beyond (u14_C_places, u14_C_beyond) → prX0_layAlong (2 : Int32) x4 x5 (x1 * x2) C_size C_sides u14_C_places u14_C_beyond ∧ ∀ (u16_C_places : Nat → Int32) (u16_C_beyond : Nat → Int32), po_X0_layAlong ad cA (2 : Int32) x4 x5 (x1 * x2) C_size C_sides u14_C_places u14_C_beyond (u16_C_places, u16_C_beyond) → atX0_lay_70 X ad cA x1 x2 x3 (x4 + 1) x5 x6 (x7 + 1) C_size C_sides C_held C_prices u16_C_places u16_C_beyond)) : atX0_lay_70 X ad cA x1 x2 x3 x4 x5 x6 x7 C_size C_sides C_held C_prices C_places C_beyond := by
  refine g_iload C dX0_lay_70 7 rfl ?_
  refine g_iload_n C dX0_lay_72 rfl 1 rfl ?_
  refine g_icmp_ge (tgt := 117) C dX0_lay_73 (by decide) (fun c_10 => ?_) (fun c_10 => ?_)
  · replace h := h.1 c_10
    refine g_iinc (v := (x6 + 1)) (lv2 := [(0, .ref (ad 1)), (1, .int x1), (2, .int x2), (3, .int x3), (4, .int x4), (5, .int x5), (6, .int (x6 + 1)), (7, .int x7)]) C dX0_lay_117 6 rfl (by first | rfl | decide) (by decide) [1, 2, 3, 4, 5, 6, 0, 7] rfl ?_
    refine g_goto (tgt := 61) C dX0_lay_120 (by decide) ?_
    exact g_lv [0, 1, 2, 3, 4, 5, 6] rfl h
  · replace h := h.2 c_10
    refine g_aload_n C dX0_lay_76 rfl 0 rfl ?_
    refine g_iconst C dX0_lay_77 ik_0 ?_
    refine g_iload C dX0_lay_78 4 rfl ?_
    refine g_iload C dX0_lay_80 7 rfl ?_
    refine g_iconst C dX0_lay_82 ik_1 ?_
    obtain ⟨hi_11, h⟩ := h
    refine g_callVv (wr := [((ad 3), .inl (cA 0, 36, .inl C_held)), ((ad 4), .inl (cA 0, 36, .inl C_prices))]) C (c_X0_layAlong ad cA (0 : Int32) x4 x7 (1 : Int32) C_size C_sides C_places C_beyond hi_11) gX0_lay_X0_layAlong rfl hde_X0_layAlong ⟨rfl, rfl⟩ (by decide) (by decide) [0, 1, 4, 5] [2, 3] [2, 3, 0, 1, 4, 5] rfl rfl rfl rfl (by decide) rfl (ws2 := fun u => [((ad 1), .inr (0, [.ref (ad 2), .ref (ad 3), .ref (ad 4), .ref (ad 5), .ref (ad 6), .ref (ad 7), .int C_size])), ((ad 2), .inl (cA 0, 3, .inl C_sides)), ((ad 3), .inl (cA 0, 36, .inl C_held)), ((ad 4), .inl (cA 0, 36, .inl C_prices)), ((ad 6), .inl (cA 0, 108, .inl u.1)), ((ad 7), .inl (cA 0, 216, .inl u.2))]) (fun _ => rfl) 0 0 rfl rfl rfl (rest := []) rfl (Nat.le_of_ble_eq_true rfl) dX0_lay_83 (fun u_12 hp_12 => ?_)
    obtain ⟨u12_C_places, u12_C_beyond⟩ := u_12
    replace h := h u12_C_places u12_C_beyond hp_12
    change gW X 0 0 [((ad 1), .inr (0, [.ref (ad 2), .ref (ad 3), .ref (ad 4), .ref (ad 5), .ref (ad 6), .ref (ad 7), .int C_size])), ((ad 2), .inl (cA 0, 3, .inl C_sides)), ((ad 3), .inl (cA 0, 36, .inl C_held)), ((ad 4), .inl (cA 0, 36, .inl C_prices)), ((ad 6), .inl (cA 0, 108, .inl u12_C_places)), ((ad 7), .inl (cA 0, 216, .inl u12_C_beyond))] 8 [(0, .ref (ad 1)), (1, .int x1), (2, .int x2), (3, .int x3), (4, .int x4), (5, .int x5), (6, .int x6), (7, .int x7)] [] 86
    refine g_aload_n C dX0_lay_86 rfl 0 rfl ?_
    refine g_iconst C dX0_lay_87 ik_1 ?_
    refine g_iload C dX0_lay_88 4 rfl ?_
    refine g_iload C dX0_lay_90 6 rfl ?_
    refine g_iload_n C dX0_lay_92 rfl 1 rfl ?_
    obtain ⟨hi_13, h⟩ := h
    refine g_callVv (wr := [((ad 3), .inl (cA 0, 36, .inl C_held)), ((ad 4), .inl (cA 0, 36, .inl C_prices))]) C (c_X0_layAlong ad cA (1 : Int32) x4 x6 x1 C_size C_sides u12_C_places u12_C_beyond hi_13) gX0_lay_X0_layAlong rfl hde_X0_layAlong ⟨rfl, rfl⟩ (by decide) (by decide) [0, 1, 4, 5] [2, 3] [2, 3, 0, 1, 4, 5] rfl rfl rfl rfl (by decide) rfl (ws2 := fun u => [((ad 1), .inr (0, [.ref (ad 2), .ref (ad 3), .ref (ad 4), .ref (ad 5), .ref (ad 6), .ref (ad 7), .int C_size])), ((ad 2), .inl (cA 0, 3, .inl C_sides)), ((ad 3), .inl (cA 0, 36, .inl C_held)), ((ad 4), .inl (cA 0, 36, .inl C_prices)), ((ad 6), .inl (cA 0, 108, .inl u.1)), ((ad 7), .inl (cA 0, 216, .inl u.2))]) (fun _ => rfl) 0 0 rfl rfl rfl (rest := []) rfl (Nat.le_of_ble_eq_true rfl) dX0_lay_93 (fun u_14 hp_14 => ?_)
    obtain ⟨u14_C_places, u14_C_beyond⟩ := u_14
    replace h := h u14_C_places u14_C_beyond hp_14
    change gW X 0 0 [((ad 1), .inr (0, [.ref (ad 2), .ref (ad 3), .ref (ad 4), .ref (ad 5), .ref (ad 6), .ref (ad 7), .int C_size])), ((ad 2), .inl (cA 0, 3, .inl C_sides)), ((ad 3), .inl (cA 0, 36, .inl C_held)), ((ad 4), .inl (cA 0, 36, .inl C_prices)), ((ad 6), .inl (cA 0, 108, .inl u14_C_places)), ((ad 7), .inl (cA 0, 216, .inl u14_C_beyond))] 8 [(0, .ref (ad 1)), (1, .int x1), (2, .int x2), (3, .int x3), (4, .int x4), (5, .int x5), (6, .int x6), (7, .int x7)] [] 96
    refine g_aload_n C dX0_lay_96 rfl 0 rfl ?_
    refine g_iconst C dX0_lay_97 ik_2 ?_
    refine g_iload C dX0_lay_98 4 rfl ?_
    refine g_iload C dX0_lay_100 5 rfl ?_
    refine g_iload_n C dX0_lay_102 rfl 1 rfl ?_
    refine g_iload_n C dX0_lay_103 rfl 2 rfl ?_
    refine g_imul C dX0_lay_104 ?_
    obtain ⟨hi_15, h⟩ := h
    refine g_callVv (wr := [((ad 3), .inl (cA 0, 36, .inl C_held)), ((ad 4), .inl (cA 0, 36, .inl C_prices))]) C (c_X0_layAlong ad cA (2 : Int32) x4 x5 (x1 * x2) C_size C_sides u14_C_places u14_C_beyond hi_15) gX0_lay_X0_layAlong rfl hde_X0_layAlong ⟨rfl, rfl⟩ (by decide) (by decide) [0, 1, 4, 5] [2, 3] [2, 3, 0, 1, 4, 5] rfl rfl rfl rfl (by decide) rfl (ws2 := fun u => [((ad 1), .inr (0, [.ref (ad 2), .ref (ad 3), .ref (ad 4), .ref (ad 5), .ref (ad 6), .ref (ad 7), .int C_size])), ((ad 2), .inl (cA 0, 3, .inl C_sides)), ((ad 3), .inl (cA 0, 36, .inl C_held)), ((ad 4), .inl (cA 0, 36, .inl C_prices)), ((ad 6), .inl (cA 0, 108, .inl u.1)), ((ad 7), .inl (cA 0, 216, .inl u.2))]) (fun _ => rfl) 0 0 rfl rfl rfl (rest := []) rfl (Nat.le_of_ble_eq_true rfl) dX0_lay_105 (fun u_16 hp_16 => ?_)
    obtain ⟨u16_C_places, u16_C_beyond⟩ := u_16
    replace h := h u16_C_places u16_C_beyond hp_16
    change gW X 0 0 [((ad 1), .inr (0, [.ref (ad 2), .ref (ad 3), .ref (ad 4), .ref (ad 5), .ref (ad 6), .ref (ad 7), .int C_size])), ((ad 2), .inl (cA 0, 3, .inl C_sides)), ((ad 3), .inl (cA 0, 36, .inl C_held)), ((ad 4), .inl (cA 0, 36, .inl C_prices)), ((ad 6), .inl (cA 0, 108, .inl u16_C_places)), ((ad 7), .inl (cA 0, 216, .inl u16_C_beyond))] 8 [(0, .ref (ad 1)), (1, .int x1), (2, .int x2), (3, .int x3), (4, .int x4), (5, .int x5), (6, .int x6), (7, .int x7)] [] 108
    refine g_iinc (v := (x4 + 1)) (lv2 := [(0, .ref (ad 1)), (1, .int x1), (2, .int x2), (3, .int x3), (4, .int (x4 + 1)), (5, .int x5), (6, .int x6), (7, .int x7)]) C dX0_lay_108 4 rfl (by first | rfl | decide) (by decide) [1, 2, 3, 4, 0, 5, 6, 7] rfl ?_
    refine g_iinc (v := (x7 + 1)) (lv2 := [(0, .ref (ad 1)), (1, .int x1), (2, .int x2), (3, .int x3), (4, .int (x4 + 1)), (5, .int x5), (6, .int x6), (7, .int (x7 + 1))]) C dX0_lay_111 7 rfl (by first | rfl | decide) (by decide) [1, 2, 3, 4, 5, 6, 7, 0] rfl ?_
    refine g_goto (tgt := 70) C dX0_lay_114 (by decide) ?_
    exact g_lv [0, 1, 2, 3, 4, 5, 6, 7] rfl h
def prX0_lay (p1 : Int32) (p2 : Int32) (p3 : Int32) (C_size : Int32) (C_sides : Nat → Int32) (C_held : Nat → Int32) (C_prices : Nat → Int32) (C_places : Nat → Int32) (C_beyond : Nat → Int32) : Prop := ∃ X Y Z, dimOK X Y Z ∧ p1 = nI X ∧ p2 = nI Y ∧ p3 = nI Z
def po_X0_lay (ad : Nat → Nat) (cA : Nat → ClassId) (p1 : Int32) (p2 : Int32) (p3 : Int32) (C_size : Int32) (C_sides : Nat → Int32) (C_held : Nat → Int32) (C_prices : Nat → Int32) (C_places : Nat → Int32) (C_beyond : Nat → Int32) (u : (Int32) × (Nat → Int32) × (Nat → Int32) × (Nat → Int32) × (Nat → Int32) × (Nat → Int32)) : Prop := ∀ X Y Z, dimOK X Y Z → p1 = nI X → p2 = nI Y → p3 = nI Z → u.1 = nI (X * Y * Z) ∧ u.2.1 = upd (upd (upd C_sides 0 p1) 1 p2) 2 p3 ∧ u.2.2.1 = fillA 36 0 C_held ∧ u.2.2.2.1 = fillA 36 0 C_prices ∧ geoOK X Y Z u.2.2.2.2.1 u.2.2.2.2.2
set_option maxHeartbeats 4000000 in
set_option maxRecDepth 100000 in
theorem c_X0_lay (ad : Nat → Nat) (cA : Nat → ClassId) (p1 : Int32) (p2 : Int32) (p3 : Int32) (C_size : Int32) (C_sides : Nat → Int32) (C_held : Nat → Int32) (C_prices : Nat → Int32) (C_places : Nat → Int32) (C_beyond : Nat → Int32) (hq : prX0_lay p1 p2 p3 C_size C_sides C_held C_prices C_places C_beyond) : ∀ (l : Launch) (D : va_G), gMv (S := (Int32) × (Nat → Int32) × (Nat → Int32) × (Nat → Int32) × (Nat → Int32) × (Nat → Int32)) l yX0_lay wsX0_lay rmX0_lay D (gT cA) 0 0 [.ref (ad 1), .int p1, .int p2, .int p3] (wcX0_lay ad cA C_size C_sides C_held C_prices C_places C_beyond) (po_X0_lay ad cA p1 p2 p3 C_size C_sides C_held C_prices C_places C_beyond) (w1X0_lay ad cA) := by
  intro l D
  unfold prX0_lay at hq
  refine g_enterv (cc := cX0_lay) (nL := 8) (ret := none) (by decide) rfl (Nat.le_of_ble_eq_true rfl) rfl (fun X C E => ?_)
  obtain ⟨X', Y, Z, hdm, rfl, rfl, rfl⟩ := hq
  have hdm' := hdm
  obtain ⟨hX1, hX4, hY1, hY4, hZ1, hZ4, hV⟩ := hdm
  have hsz : nI X' * nI Y * nI Z = nI (X' * Y * Z) := by rw [pk_mul, pk_mul]
  refine sgX0_lay_0 C E ⟨vi_0_3, vi_1_3, vi_2_3, (by decide : 36 < 2147483648), (by decide : 36 < 2147483648), ?_⟩
  rw [hsz]
  show atX0_lay_52 X ad cA (nI X') (nI Y) (nI Z) 0 0 (nI (X' * Y * Z)) (upd (upd (upd C_sides 0 (nI X')) 1 (nI Y)) 2 (nI Z)) (fillA 36 0 C_held) (fillA 36 0 C_prices) C_places C_beyond
  have fin : ∀ pl be, geoOK X' Y Z pl be → po_X0_lay ad cA (nI X') (nI Y) (nI Z) C_size C_sides C_held C_prices C_places C_beyond (nI (X' * Y * Z), upd (upd (upd C_sides 0 (nI X')) 1 (nI Y)) 2 (nI Z), fillA 36 0 C_held, fillA 36 0 C_prices, pl, be) := by
    intro pl be hg X2 Y2 Z2 hd2 q1 q2 q3
    obtain ⟨gX1, gX4, gY1, gY4, gZ1, gZ4, gV⟩ := hd2
    rw [nI_eq (by omega) (by omega)] at q1 q2 q3
    subst q1; subst q2; subst q3
    exact ⟨rfl, rfl, rfl, rfl, hg⟩
  have s0 : (upd (upd (upd C_sides 0 (nI X')) 1 (nI Y)) 2 (nI Z)) 0 = nI X' := rfl
  have s1 : (upd (upd (upd C_sides 0 (nI X')) 1 (nI Y)) 2 (nI Z)) 1 = nI Y := rfl
  have s2 : (upd (upd (upd C_sides 0 (nI X')) 1 (nI Y)) 2 (nI Z)) 2 = nI Z := rfl
  generalize upd (upd (upd C_sides 0 (nI X')) 1 (nI Y)) 2 (nI Z) = sd at *
  generalize fillA 36 0 C_held = hd at *
  generalize fillA 36 0 C_prices = pr at *
  have outer : ∀ z, z ≤ Z → ∀ pl be, (∀ c, c < X' * Y * z → geoC X' Y Z pl be c) → atX0_lay_52 X ad cA (nI X') (nI Y) (nI Z) (nI (X' * Y * z)) (nI z) (nI (X' * Y * Z)) sd hd pr pl be := by
    intro z hz
    refine up_loop (P := fun z => ∀ pl be, (∀ c, c < X' * Y * z → geoC X' Y Z pl be c) → atX0_lay_52 X ad cA (nI X') (nI Y) (nI Z) (nI (X' * Y * z)) (nI z) (nI (X' * Y * Z)) sd hd pr pl be) Z ?_ (fun z hz ih pl be hg => ?_) z hz
    · exact fun pl be hg => sgX0_lay_52 C E ⟨fun _ => fin pl be hg, fun c => absurd (i32_le_refl _) c⟩
    · refine sgX0_lay_52 C E ⟨fun c => absurd c (nI_ge hz (by omega)), fun _ => ?_⟩
      have mid : ∀ y, y ≤ Y → ∀ pl be, (∀ c, c < X' * Y * z + X' * y → geoC X' Y Z pl be c) → atX0_lay_61 X ad cA (nI X') (nI Y) (nI Z) (nI (X' * Y * z + X' * y)) (nI z) (nI y) (nI (X' * Y * Z)) sd hd pr pl be := by
        intro y hy
        refine up_loop (P := fun y => ∀ pl be, (∀ c, c < X' * Y * z + X' * y → geoC X' Y Z pl be c) → atX0_lay_61 X ad cA (nI X') (nI Y) (nI Z) (nI (X' * Y * z + X' * y)) (nI z) (nI y) (nI (X' * Y * Z)) sd hd pr pl be) Y ?_ (fun y hy ih2 pl be hg2 => ?_) y hy
        · refine fun pl be hg2 => sgX0_lay_61 C E ⟨fun _ => ?_, fun c => absurd (i32_le_refl _) c⟩
          have e : X' * Y * z + X' * Y = X' * Y * (z + 1) := by rw [Nat.mul_succ]
          rw [e] at hg2 ⊢
          rw [nI_1 z]; exact ih pl be hg2
        · refine sgX0_lay_61 C E ⟨fun c => absurd c (nI_ge hy (by omega)), fun _ => ?_⟩
          have inner : ∀ x, x ≤ X' → ∀ pl be, (∀ c, c < X' * Y * z + X' * y + x → geoC X' Y Z pl be c) → atX0_lay_70 X ad cA (nI X') (nI Y) (nI Z) (nI (X' * Y * z + X' * y + x)) (nI z) (nI y) (nI x) (nI (X' * Y * Z)) sd hd pr pl be := by
            intro x hx
            refine up_loop (P := fun x => ∀ pl be, (∀ c, c < X' * Y * z + X' * y + x → geoC X' Y Z pl be c) → atX0_lay_70 X ad cA (nI X') (nI Y) (nI Z) (nI (X' * Y * z + X' * y + x)) (nI z) (nI y) (nI x) (nI (X' * Y * Z)) sd hd pr pl be) X' ?_ (fun x hx ih3 pl be hg3 => ?_) x hx
            · refine fun pl be hg3 => sgX0_lay_70 C E ⟨fun _ => ?_, fun c => absurd (i32_le_refl _) c⟩
              have e : X' * Y * z + X' * y + X' = X' * Y * z + X' * (y + 1) := by rw [Nat.mul_succ, Nat.add_assoc]
              rw [e] at hg3 ⊢
              rw [nI_1 y]; exact ih2 pl be hg3
            · obtain ⟨f1, f2, f3, f4, f5, f6, f7, f8⟩ := geo_f2 X' (by omega) Y (by omega) Z (by omega) hV z hz y hy x hx
              generalize hcc : X' * Y * z + X' * y + x = cc at *
              refine sgX0_lay_70 C E ⟨fun c => absurd c (nI_ge hx (by omega)), fun _ => ?_⟩
              have c36 : cc < 36 := by omega
              rw [pk_mul X' Y]
              refine ⟨⟨0, cc, x, 1, X', by decide, c36, by omega, by decide, hX4, f5, rfl, rfl, rfl, rfl, s0⟩, fun pl1 be1 q1 => ?_⟩
              obtain ⟨q1a, q1b⟩ := q1 0 cc x 1 X' (by decide) c36 (by omega) (by decide) hX4 f5 rfl rfl rfl rfl s0
              refine ⟨⟨1, cc, y, X', Y, by decide, c36, by omega, by omega, hY4, f6, rfl, rfl, rfl, rfl, s1⟩, fun pl2 be2 q2 => ?_⟩
              obtain ⟨q2a, q2b⟩ := q2 1 cc y X' Y (by decide) c36 (by omega) (by omega) hY4 f6 rfl rfl rfl rfl s1
              refine ⟨⟨2, cc, z, X' * Y, Z, by decide, c36, by omega, f8, hZ4, f7, rfl, rfl, rfl, rfl, s2⟩, fun pl3 be3 q3 => ?_⟩
              obtain ⟨q3a, q3b⟩ := q3 2 cc z (X' * Y) Z (by decide) c36 (by omega) f8 hZ4 f7 rfl rfl rfl rfl s2
              have hnew := geo_new f2 f3 f4 hg3
              dsimp only at q1a q1b q2a q2b q3a q3b
              rw [← q1a, ← q1b, ← q2a, ← q2b, ← q3a, ← q3b] at hnew
              rw [nI_1 cc, nI_1 x]
              have e4 : X' * Y * z + X' * y + (x + 1) = cc + 1 := by rw [← hcc]; rfl
              have ih4 := ih3 pl3 be3
              rw [e4] at ih4
              exact ih4 hnew
          exact inner 0 (Nat.zero_le _) pl be hg2
      exact mid 0 (Nat.zero_le _) pl be hg
  have := outer 0 (Nat.zero_le _) C_places C_beyond (fun c hc => by rw [Nat.mul_zero] at hc; exact absurd hc (Nat.not_lt_zero c))
  rw [Nat.mul_zero] at this
  exact this
end
section
/-! a search by layers, purely -/
def vis (cb : Nat → Int32) (c : Nat) : Bool := decide (¬ cb c = -1)
theorem vis_t {cb : Nat → Int32} {c : Nat} : vis cb c = true ↔ ¬ cb c = -1 := by unfold vis; exact decide_eq_true_iff
theorem vis_f {cb : Nat → Int32} {c : Nat} : vis cb c = false ↔ cb c = -1 := by
  unfold vis; rw [decide_eq_false_iff_not, Classical.not_not]
theorem cntA_congr {P Q : Nat → Bool} {n : Nat} (h : ∀ c, c < n → P c = Q c) : cntA n P = cntA n Q := by
  induction n with
  | zero => rfl
  | succ n ih => simp only [cntA]; rw [ih (fun c hc => h c (by omega)), h n (by omega)]
theorem cntA_lt {P : Nat → Bool} {n d : Nat} (hd : d < n) (hp : P d = false) : cntA n P < n := by
  induction n with
  | zero => exact absurd hd (Nat.not_lt_zero d)
  | succ n ih =>
    simp only [cntA]
    rcases Nat.lt_or_ge d n with q | q
    · have := ih q; split <;> omega
    · have e : d = n := by omega
      subst e
      have := cntA_le d P
      rw [hp, if_neg (by decide)]; omega
theorem cntA_up {P Q : Nat → Bool} {n d : Nat} (hd : d < n) (hp : P d = false) (hq : Q d = true) (h : ∀ c, c < n → c ≠ d → P c = Q c) : cntA n Q = cntA n P + 1 := by
  induction n with
  | zero => exact absurd hd (Nat.not_lt_zero d)
  | succ n ih =>
    simp only [cntA]
    rcases Nat.lt_or_ge d n with q | q
    · rw [ih q (fun c hc hne => h c (by omega) hne), h n (by omega) (by omega)]; omega
    · have e : d = n := by omega
      subst e
      rw [cntA_congr (fun c hc => (h c (by omega) (by omega)).symm), hp, hq]; simp
theorem n1_ne {d : Nat} (hd : d < 36) : ¬ nI d = -1 := fun q => absurd (congrArg Int32.toInt q) (by rw [nI_toInt (by omega), show (-1 : Int32).toInt = -1 from rfl]; omega)
theorem vis_upd {cb : Nat → Int32} {d s : Nat} (hs : s < 36) (c : Nat) : vis (upd cb d (nI s)) c = true ↔ c = d ∨ vis cb c = true := by
  by_cases e : c = d
  · rw [e, vis_t, upd_s]; exact ⟨fun _ => Or.inl rfl, fun _ => n1_ne hs⟩
  · rw [vis_t, upd_n _ _ e, ← vis_t]; exact ⟨Or.inr, fun h => h.resolve_left e⟩
def bPar (n : Nat) (E : Nat → Nat → Nat → Prop) (src : Nat → Prop) (cf cb : Nat → Int32) (rk : Nat → Nat) (c : Nat) : Prop := (cb c = 6 ∧ src c) ∨ ∃ f s, f < n ∧ s < 6 ∧ E f s c ∧ cf c = nI f ∧ cb c = nI s ∧ vis cb f = true ∧ rk f < rk c
def bDone (E : Nat → Nat → Nat → Prop) (dn : Nat → Prop) (cb : Nat → Int32) (c : Nat) : Prop := dn c ∧ ∀ s, s < 6 → ∀ d, E c s d → vis cb d = true
def BI (n : Nat) (E : Nat → Nat → Nat → Prop) (src dn ex : Nat → Prop) (hd tl : Nat) (cf cb q : Nat → Int32) (rk : Nat → Nat) : Prop :=
  tl = cntA n (vis cb) ∧ (∀ j, j < tl → ∃ c, c < n ∧ q j = nI c ∧ vis cb c = true) ∧ (∀ c, c < n → vis cb c = true → bDone E dn cb c ∨ (∃ j, hd ≤ j ∧ j < tl ∧ q j = nI c) ∨ ex c) ∧ (∀ c, c < n → src c → vis cb c = true) ∧ (∀ c, c < n → vis cb c = true → rk c < tl ∧ bPar n E src cf cb rk c)
theorem BI_le {n : Nat} {E : Nat → Nat → Nat → Prop} {src dn ex : Nat → Prop} {hd tl : Nat} {cf cb q : Nat → Int32} {rk : Nat → Nat} (h : BI n E src dn ex hd tl cf cb q rk) : tl ≤ n := by rw [h.1]; exact cntA_le _ _
/-- a new cell joins the queue -/
theorem BI_add {n : Nat} {E : Nat → Nat → Nat → Prop} {src dn ex : Nat → Prop} {hd tl : Nat} {cf cb q : Nat → Int32} {rk : Nat → Nat} (hn : n ≤ 36) (h : BI n E src dn ex hd tl cf cb q rk) (hh : hd ≤ tl) {c0 s d : Nat} (hc0 : c0 < n) (hs : s < 6) (hd2 : d < n) (hE : E c0 s d) (hv0 : vis cb c0 = true) (hvd : vis cb d = false) : tl < n ∧ BI n E src dn ex hd (tl + 1) (upd cf d (nI c0)) (upd cb d (nI s)) (upd q tl (nI d)) (fun c => if c = d then tl else rk c) := by
  obtain ⟨a1, a2, a3, a4, a5⟩ := h
  have hcd : ∀ c, vis cb c = true → c ≠ d := fun c hc e => by rw [e, hvd] at hc; exact absurd hc (by decide)
  have mono : ∀ c, vis cb c = true → vis (upd cb d (nI s)) c = true := fun c hc => (vis_upd (by omega) c).mpr (Or.inr hc)
  have hlt : tl < n := by rw [a1]; exact cntA_lt hd2 hvd
  refine ⟨hlt, ?_, ?_, ?_, ?_, ?_⟩
  · rw [a1]
    refine (cntA_up hd2 hvd ((vis_upd (by omega) d).mpr (Or.inl rfl)) (fun c hc hne => ?_)).symm
    unfold vis; rw [upd_n _ _ hne]
  · intro j hj
    rcases Nat.lt_or_ge j tl with q1 | q1
    · obtain ⟨c, h1, h2, h3⟩ := a2 j q1
      exact ⟨c, h1, by rw [upd_n _ _ (by omega)]; exact h2, mono c h3⟩
    · have e : j = tl := by omega
      exact ⟨d, hd2, by rw [e, upd_s], (vis_upd (by omega) d).mpr (Or.inl rfl)⟩
  · intro c hc hv
    rcases (vis_upd (by omega) c).mp hv with e | hv
    · exact Or.inr (Or.inl ⟨tl, hh, by omega, by rw [e, upd_s]⟩)
    · rcases a3 c hc hv with ⟨b1, b2⟩ | ⟨j, b1, b2, b3⟩ | b
      · exact Or.inl ⟨b1, fun s' hs' d' hE' => mono d' (b2 s' hs' d' hE')⟩
      · exact Or.inr (Or.inl ⟨j, b1, by omega, by rw [upd_n _ _ (by omega)]; exact b3⟩)
      · exact Or.inr (Or.inr b)
  · intro c hc hsrc; exact mono c (a4 c hc hsrc)
  · intro c hc hv
    rcases (vis_upd (by omega) c).mp hv with e | hv
    · subst e
      refine ⟨by show (if c = c then tl else rk c) < tl + 1; rw [if_pos rfl]; omega, Or.inr ⟨c0, s, hc0, hs, hE, upd_s _ _ _, upd_s _ _ _, mono c0 hv0, ?_⟩⟩
      show (if c0 = c then tl else rk c0) < (if c = c then tl else rk c)
      rw [if_neg (hcd c0 hv0), if_pos rfl]; exact (a5 c0 hc0 hv0).1
    · have hne := hcd c hv
      obtain ⟨b1, b2⟩ := a5 c hc hv
      refine ⟨by show (if c = d then tl else rk c) < tl + 1; rw [if_neg hne]; omega, ?_⟩
      rcases b2 with ⟨c1, c2⟩ | ⟨f, s', c1, c2, c3, c4, c5, c6, c7⟩
      · exact Or.inl ⟨by rw [upd_n _ _ hne]; exact c1, c2⟩
      · refine Or.inr ⟨f, s', c1, c2, c3, by rw [upd_n _ _ hne]; exact c4, by rw [upd_n _ _ hne]; exact c5, mono f c6, ?_⟩
        show (if f = d then tl else rk f) < (if c = d then tl else rk c)
        rw [if_neg (hcd f c6), if_neg hne]; exact c7
/-- the head of the queue is taken: its cell is under way -/
theorem BI_take {n : Nat} {E : Nat → Nat → Nat → Prop} {src dn : Nat → Prop} {hd tl : Nat} {cf cb q : Nat → Int32} {rk : Nat → Nat} (hn : n ≤ 36) (h : BI n E src dn (fun _ => False) hd tl cf cb q rk) {c0 : Nat} (hc : c0 < n) (hq : q hd = nI c0) : BI n E src dn (fun c => c = c0) (hd + 1) tl cf cb q rk := by
  obtain ⟨a1, a2, a3, a4, a5⟩ := h
  refine ⟨a1, a2, fun c hcn hv => ?_, a4, a5⟩
  rcases a3 c hcn hv with b | ⟨j, b1, b2, b3⟩ | b
  · exact Or.inl b
  · rcases Nat.lt_or_ge hd j with g | g
    · exact Or.inr (Or.inl ⟨j, g, b2, b3⟩)
    · have e : j = hd := by omega
      rw [e, hq, nI_eq (by omega) (by omega)] at b3
      exact Or.inr (Or.inr b3.symm)
  · exact absurd b id
/-- .. and done -/
theorem BI_put {n : Nat} {E : Nat → Nat → Nat → Prop} {src dn : Nat → Prop} {hd tl : Nat} {cf cb q : Nat → Int32} {rk : Nat → Nat} {c0 : Nat} (h : BI n E src dn (fun c => c = c0) hd tl cf cb q rk) (hd0 : bDone E dn cb c0) : BI n E src dn (fun _ => False) hd tl cf cb q rk := by
  obtain ⟨a1, a2, a3, a4, a5⟩ := h
  refine ⟨a1, a2, fun c hcn hv => ?_, a4, a5⟩
  rcases a3 c hcn hv with b | b | b
  · exact Or.inl b
  · exact Or.inr (Or.inl b)
  · rw [b]; exact Or.inl hd0
/-- how a search begins -/
def stO (n : Nat) (src : Nat → Prop) (tl : Nat) (cb q : Nat → Int32) : Prop := tl = cntA n (vis cb) ∧ (∀ c, c < n → (src c ∧ cb c = 6) ∨ (¬ src c ∧ cb c = -1)) ∧ (∀ j, j < tl → ∃ c, c < n ∧ q j = nI c ∧ src c) ∧ (∀ c, c < n → src c → ∃ j, j < tl ∧ q j = nI c)
theorem BI_start {n : Nat} {E : Nat → Nat → Nat → Prop} {src dn : Nat → Prop} {tl : Nat} {cf cb q : Nat → Int32} (h : stO n src tl cb q) : BI n E src dn (fun _ => False) 0 tl cf cb q (fun _ => 0) := by
  obtain ⟨a1, a2, a3, a4⟩ := h
  have hv : ∀ c, c < n → (vis cb c = true ↔ src c) := fun c hc => by
    rw [vis_t]
    rcases a2 c hc with ⟨b1, b2⟩ | ⟨b1, b2⟩
    · rw [b2]; exact ⟨fun _ => b1, fun _ => by decide⟩
    · exact ⟨fun q => absurd b2 q, fun q => absurd q b1⟩
  refine ⟨a1, fun j hj => ?_, fun c hc hvc => ?_, fun c hc hs => (hv c hc).mpr hs, fun c hc hvc => ?_⟩
  · obtain ⟨c, h1, h2, h3⟩ := a3 j hj
    exact ⟨c, h1, h2, (hv c h1).mpr h3⟩
  · obtain ⟨j, h1, h2⟩ := a4 c hc ((hv c hc).mp hvc)
    exact Or.inr (Or.inl ⟨j, Nat.zero_le _, h1, h2⟩)
  · have hs := (hv c hc).mp hvc
    obtain ⟨j, h1, h2⟩ := a4 c hc hs
    refine ⟨by show 0 < tl; omega, Or.inl ⟨?_, hs⟩⟩
    rcases a2 c hc with ⟨b1, b2⟩ | ⟨b1, b2⟩
    · exact b2
    · exact absurd hs b1
end
