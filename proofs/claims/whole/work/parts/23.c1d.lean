theorem bk_16 : (Int8.ofInt (16)).toInt32 = (16 : Int32) := by decide
theorem bk_63 : (Int8.ofInt (63)).toInt32 = (63 : Int32) := by decide
theorem bk_12 : (Int8.ofInt (12)).toInt32 = (12 : Int32) := by decide
theorem hde_J6_bitCount_0f7a4 : yJ6_bitCount_0f7a4.cls ≠ "java/lang/invoke/MethodHandle" ∧ yJ6_bitCount_0f7a4.cls ≠ "java/lang/invoke/VarHandle" ∧ (parseMethodDescriptor yJ6_bitCount_0f7a4.desc).map (fun d => d.parameters.length) = some 1 := by decide +kernel
theorem hde_X0_seamsGrowth : yX0_seamsGrowth.cls = RX0 ∧ yX0_seamsGrowth.cls ≠ "java/lang/invoke/MethodHandle" ∧ yX0_seamsGrowth.cls ≠ "java/lang/invoke/VarHandle" ∧ (parseMethodDescriptor yX0_seamsGrowth.desc).map (fun d => d.parameters.length) = some 2 := by decide +kernel
theorem hde_X1_queueOpen : yX1_queueOpen.cls = RX1 ∧ yX1_queueOpen.cls ≠ "java/lang/invoke/MethodHandle" ∧ yX1_queueOpen.cls ≠ "java/lang/invoke/VarHandle" ∧ (parseMethodDescriptor yX1_queueOpen.desc).map (fun d => d.parameters.length) = some 0 := by decide +kernel
abbrev w1J6_bitCount_0f7a4 (ad : Nat → Nat) (cA : Nat → ClassId) (u : Unit) : va_W := []
abbrev wcJ6_bitCount_0f7a4 (ad : Nat → Nat) (cA : Nat → ClassId) : va_W := []
def rmJ6_bitCount_0f7a4 : Room := { frames := 0, cells := 0, slots := 0, locals := 0 }
abbrev atJ6_bitCount_0f7a4_0 (X : gX) (ad : Nat → Nat) (cA : Nat → ClassId) (p1 : Int32) : Prop := gW X 0 0 [] 1 [(0, .int p1)] [] 0
theorem cnJ6_bitCount_0f7a4_265 : Cond.constant RJ6 265 (1431655765) ∈ wsJ6_bitCount_0f7a4 := by decide +kernel
theorem cnJ6_bitCount_0f7a4_266 : Cond.constant RJ6 266 (858993459) ∈ wsJ6_bitCount_0f7a4 := by decide +kernel
theorem cnJ6_bitCount_0f7a4_267 : Cond.constant RJ6 267 (252645135) ∈ wsJ6_bitCount_0f7a4 := by decide +kernel
set_option maxHeartbeats 4000000 in
set_option maxRecDepth 100000 in
theorem sgJ6_bitCount_0f7a4_0 {X : gX} {ad : Nat → Nat} {cA : Nat → ClassId} {post : Int32 → (Unit) → Prop} {p1 : Int32} (C : gC X (gT cA) cJ6_bitCount_0f7a4 1 RJ6 wsJ6_bitCount_0f7a4 rmJ6_bitCount_0f7a4) (E : gEi X (some .int) (gT cA) 0 0 post (w1J6_bitCount_0f7a4 ad cA)) (h : post ((((((((p1 - (((p1.toUInt32 >>> ((1 : Int32).toUInt32 &&& Int32.toUInt32 31)).toInt32) &&& (1431655765 : Int32))) &&& (858993459 : Int32)) + ((((p1 - (((p1.toUInt32 >>> ((1 : Int32).toUInt32 &&& Int32.toUInt32 31)).toInt32) &&& (1431655765 : Int32))).toUInt32 >>> ((2 : Int32).toUInt32 &&& Int32.toUInt32 31)).toInt32) &&& (858993459 : Int32))) + (((((p1 - (((p1.toUInt32 >>> ((1 : Int32).toUInt32 &&& Int32.toUInt32 31)).toInt32) &&& (1431655765 : Int32))) &&& (858993459 : Int32)) + ((((p1 - (((p1.toUInt32 >>> ((1 : Int32).toUInt32 &&& Int32.toUInt32 31)).toInt32) &&& (1431655765 : Int32))).toUInt32 >>> ((2 : Int32).toUInt32 &&& Int32.toUInt32 31)).toInt32) &&& (858993459 : Int32))).toUInt32 >>> ((4 : Int32).toUInt32 &&& Int32.toUInt32 31)).toInt32)) &&& (252645135 : Int32)) + (((((((p1 - (((p1.toUInt32 >>> ((1 : Int32).toUInt32 &&& Int32.toUInt32 31)).toInt32) &&& (1431655765 : Int32))) &&& (858993459 : Int32)) + ((((p1 - (((p1.toUInt32 >>> ((1 : Int32).toUInt32 &&& Int32.toUInt32 31)).toInt32) &&& (1431655765 : Int32))).toUInt32 >>> ((2 : Int32).toUInt32 &&& Int32.toUInt32 31)).toInt32) &&& (858993459 : Int32))) + (((((p1 - (((p1.toUInt32 >>> ((1 : Int32).toUInt32 &&& Int32.toUInt32 31)).toInt32) &&& (1431655765 : Int32))) &&& (858993459 : Int32)) + ((((p1 - (((p1.toUInt32 >>> ((1 : Int32).toUInt32 &&& Int32.toUInt32 31)).toInt32) &&& (1431655765 : Int32))).toUInt32 >>> ((2 : Int32).toUInt32 &&& Int32.toUInt32 31)).toInt32) &&& (858993459 : Int32))).toUInt32 >>> ((4 : Int32).toUInt32 &&& Int32.toUInt32 31)).toInt32)) &&& (252645135 : Int32)).toUInt32 >>> ((8 : Int32).toUInt32 &&& Int32.toUInt32 31)).toInt32)) + ((((((((p1 - (((p1.toUInt32 >>> ((1 : Int32).toUInt32 &&& Int32.toUInt32 31)).toInt32) &&& (1431655765 : Int32))) &&& (858993459 : Int32)) + ((((p1 - (((p1.toUInt32 >>> ((1 : Int32).toUInt32 &&& Int32.toUInt32 31)).toInt32) &&& (1431655765 : Int32))).toUInt32 >>> ((2 : Int32).toUInt32 &&& Int32.toUInt32 31)).toInt32) &&& (858993459 : Int32))) + (((((p1 - (((p1.toUInt32 >>> ((1 : Int32).toUInt32 &&& Int32.toUInt32 31)).toInt32) &&& (1431655765 : Int32))) &&& (858993459 : Int32)) + ((((p1 - (((p1.toUInt32 >>> ((1 : Int32).toUInt32 &&& Int32.toUInt32 31)).toInt32) &&& (1431655765 : Int32))).toUInt32 >>> ((2 : Int32).toUInt32 &&& Int32.toUInt32 31)).toInt32) &&& (858993459 : Int32))).toUInt32 >>> ((4 : Int32).toUInt32 &&& Int32.toUInt32 31)).toInt32)) &&& (252645135 : Int32)) + (((((((p1 - (((p1.toUInt32 >>> ((1 : Int32).toUInt32 &&& Int32.toUInt32 31)).toInt32) &&& (1431655765 : Int32))) &&& (858993459 : Int32)) + ((((p1 - (((p1.toUInt32 >>> ((1 : Int32).toUInt32 &&& Int32.toUInt32 31)).toInt32) &&& (1431655765 : Int32))).toUInt32 >>> ((2 : Int32).toUInt32 &&& Int32.toUInt32 31)).toInt32) &&& (858993459 : Int32))) + (((((p1 - (((p1.toUInt32 >>> ((1 : Int32).toUInt32 &&& Int32.toUInt32 31)).toInt32) &&& (1431655765 : Int32))) &&& (858993459 : Int32)) + ((((p1 - (((p1.toUInt32 >>> ((1 : Int32).toUInt32 &&& Int32.toUInt32 31)).toInt32) &&& (1431655765 : Int32))).toUInt32 >>> ((2 : Int32).toUInt32 &&& Int32.toUInt32 31)).toInt32) &&& (858993459 : Int32))).toUInt32 >>> ((4 : Int32).toUInt32 &&& Int32.toUInt32 31)).toInt32)) &&& (252645135 : Int32)).toUInt32 >>> ((8 : Int32).toUInt32 &&& Int32.toUInt32 31)).toInt32)).toUInt32 >>> ((16 : Int32).toUInt32 &&& Int32.toUInt32 31)).toInt32)) &&& (63 : Int32)) ()) : atJ6_bitCount_0f7a4_0 X ad cA p1 := by
  refine g_iload_n C dJ6_bitCount_0f7a4_0 rfl 0 rfl ?_
  refine g_iload_n C dJ6_bitCount_0f7a4_1 rfl 0 rfl ?_
  refine g_iconst C dJ6_bitCount_0f7a4_2 ik_1 ?_
  refine g_iushr C dJ6_bitCount_0f7a4_3 ?_
  refine g_ldc_w C cnJ6_bitCount_0f7a4_265 dJ6_bitCount_0f7a4_4 ?_
  refine g_iand C dJ6_bitCount_0f7a4_7 ?_
  refine g_isub C dJ6_bitCount_0f7a4_8 ?_
  refine g_istore_n (lv2 := [(0, .int (p1 - (((p1.toUInt32 >>> ((1 : Int32).toUInt32 &&& Int32.toUInt32 31)).toInt32) &&& (1431655765 : Int32))))]) C dJ6_bitCount_0f7a4_9 rfl (by decide) [0] rfl ?_
  refine g_iload_n C dJ6_bitCount_0f7a4_10 rfl 0 rfl ?_
  refine g_ldc_w C cnJ6_bitCount_0f7a4_266 dJ6_bitCount_0f7a4_11 ?_
  refine g_iand C dJ6_bitCount_0f7a4_14 ?_
  refine g_iload_n C dJ6_bitCount_0f7a4_15 rfl 0 rfl ?_
  refine g_iconst C dJ6_bitCount_0f7a4_16 ik_2 ?_
  refine g_iushr C dJ6_bitCount_0f7a4_17 ?_
  refine g_ldc_w C cnJ6_bitCount_0f7a4_266 dJ6_bitCount_0f7a4_18 ?_
  refine g_iand C dJ6_bitCount_0f7a4_21 ?_
  refine g_iadd C dJ6_bitCount_0f7a4_22 ?_
  refine g_istore_n (lv2 := [(0, .int (((p1 - (((p1.toUInt32 >>> ((1 : Int32).toUInt32 &&& Int32.toUInt32 31)).toInt32) &&& (1431655765 : Int32))) &&& (858993459 : Int32)) + ((((p1 - (((p1.toUInt32 >>> ((1 : Int32).toUInt32 &&& Int32.toUInt32 31)).toInt32) &&& (1431655765 : Int32))).toUInt32 >>> ((2 : Int32).toUInt32 &&& Int32.toUInt32 31)).toInt32) &&& (858993459 : Int32))))]) C dJ6_bitCount_0f7a4_23 rfl (by decide) [0] rfl ?_
  refine g_iload_n C dJ6_bitCount_0f7a4_24 rfl 0 rfl ?_
  refine g_iload_n C dJ6_bitCount_0f7a4_25 rfl 0 rfl ?_
  refine g_iconst C dJ6_bitCount_0f7a4_26 ik_4 ?_
  refine g_iushr C dJ6_bitCount_0f7a4_27 ?_
  refine g_iadd C dJ6_bitCount_0f7a4_28 ?_
  refine g_ldc_w C cnJ6_bitCount_0f7a4_267 dJ6_bitCount_0f7a4_29 ?_
  refine g_iand C dJ6_bitCount_0f7a4_32 ?_
  refine g_istore_n (lv2 := [(0, .int (((((p1 - (((p1.toUInt32 >>> ((1 : Int32).toUInt32 &&& Int32.toUInt32 31)).toInt32) &&& (1431655765 : Int32))) &&& (858993459 : Int32)) + ((((p1 - (((p1.toUInt32 >>> ((1 : Int32).toUInt32 &&& Int32.toUInt32 31)).toInt32) &&& (1431655765 : Int32))).toUInt32 >>> ((2 : Int32).toUInt32 &&& Int32.toUInt32 31)).toInt32) &&& (858993459 : Int32))) + (((((p1 - (((p1.toUInt32 >>> ((1 : Int32).toUInt32 &&& Int32.toUInt32 31)).toInt32) &&& (1431655765 : Int32))) &&& (858993459 : Int32)) + ((((p1 - (((p1.toUInt32 >>> ((1 : Int32).toUInt32 &&& Int32.toUInt32 31)).toInt32) &&& (1431655765 : Int32))).toUInt32 >>> ((2 : Int32).toUInt32 &&& Int32.toUInt32 31)).toInt32) &&& (858993459 : Int32))).toUInt32 >>> ((4 : Int32).toUInt32 &&& Int32.toUInt32 31)).toInt32)) &&& (252645135 : Int32)))]) C dJ6_bitCount_0f7a4_33 rfl (by decide) [0] rfl ?_
  refine g_iload_n C dJ6_bitCount_0f7a4_34 rfl 0 rfl ?_
  refine g_iload_n C dJ6_bitCount_0f7a4_35 rfl 0 rfl ?_
  refine g_bipush C dJ6_bitCount_0f7a4_36 bk_8 ?_
  refine g_iushr C dJ6_bitCount_0f7a4_38 ?_
  refine g_iadd C dJ6_bitCount_0f7a4_39 ?_
  refine g_istore_n (lv2 := [(0, .int ((((((p1 - (((p1.toUInt32 >>> ((1 : Int32).toUInt32 &&& Int32.toUInt32 31)).toInt32) &&& (1431655765 : Int32))) &&& (858993459 : Int32)) + ((((p1 - (((p1.toUInt32 >>> ((1 : Int32).toUInt32 &&& Int32.toUInt32 31)).toInt32) &&& (1431655765 : Int32))).toUInt32 >>> ((2 : Int32).toUInt32 &&& Int32.toUInt32 31)).toInt32) &&& (858993459 : Int32))) + (((((p1 - (((p1.toUInt32 >>> ((1 : Int32).toUInt32 &&& Int32.toUInt32 31)).toInt32) &&& (1431655765 : Int32))) &&& (858993459 : Int32)) + ((((p1 - (((p1.toUInt32 >>> ((1 : Int32).toUInt32 &&& Int32.toUInt32 31)).toInt32) &&& (1431655765 : Int32))).toUInt32 >>> ((2 : Int32).toUInt32 &&& Int32.toUInt32 31)).toInt32) &&& (858993459 : Int32))).toUInt32 >>> ((4 : Int32).toUInt32 &&& Int32.toUInt32 31)).toInt32)) &&& (252645135 : Int32)) + (((((((p1 - (((p1.toUInt32 >>> ((1 : Int32).toUInt32 &&& Int32.toUInt32 31)).toInt32) &&& (1431655765 : Int32))) &&& (858993459 : Int32)) + ((((p1 - (((p1.toUInt32 >>> ((1 : Int32).toUInt32 &&& Int32.toUInt32 31)).toInt32) &&& (1431655765 : Int32))).toUInt32 >>> ((2 : Int32).toUInt32 &&& Int32.toUInt32 31)).toInt32) &&& (858993459 : Int32))) + (((((p1 - (((p1.toUInt32 >>> ((1 : Int32).toUInt32 &&& Int32.toUInt32 31)).toInt32) &&& (1431655765 : Int32))) &&& (858993459 : Int32)) + ((((p1 - (((p1.toUInt32 >>> ((1 : Int32).toUInt32 &&& Int32.toUInt32 31)).toInt32) &&& (1431655765 : Int32))).toUInt32 >>> ((2 : Int32).toUInt32 &&& Int32.toUInt32 31)).toInt32) &&& (858993459 : Int32))).toUInt32 >>> ((4 : Int32).toUInt32 &&& Int32.toUInt32 31)).toInt32)) &&& (252645135 : Int32)).toUInt32 >>> ((8 : Int32).toUInt32 &&& Int32.toUInt32 31)).toInt32)))]) C dJ6_bitCount_0f7a4_40 rfl (by decide) [0] rfl ?_
  refine g_iload_n C dJ6_bitCount_0f7a4_41 rfl 0 rfl ?_
  refine g_iload_n C dJ6_bitCount_0f7a4_42 rfl 0 rfl ?_
  refine g_bipush C dJ6_bitCount_0f7a4_43 bk_16 ?_
  refine g_iushr C dJ6_bitCount_0f7a4_45 ?_
  refine g_iadd C dJ6_bitCount_0f7a4_46 ?_
  refine g_istore_n (lv2 := [(0, .int (((((((p1 - (((p1.toUInt32 >>> ((1 : Int32).toUInt32 &&& Int32.toUInt32 31)).toInt32) &&& (1431655765 : Int32))) &&& (858993459 : Int32)) + ((((p1 - (((p1.toUInt32 >>> ((1 : Int32).toUInt32 &&& Int32.toUInt32 31)).toInt32) &&& (1431655765 : Int32))).toUInt32 >>> ((2 : Int32).toUInt32 &&& Int32.toUInt32 31)).toInt32) &&& (858993459 : Int32))) + (((((p1 - (((p1.toUInt32 >>> ((1 : Int32).toUInt32 &&& Int32.toUInt32 31)).toInt32) &&& (1431655765 : Int32))) &&& (858993459 : Int32)) + ((((p1 - (((p1.toUInt32 >>> ((1 : Int32).toUInt32 &&& Int32.toUInt32 31)).toInt32) &&& (1431655765 : Int32))).toUInt32 >>> ((2 : Int32).toUInt32 &&& Int32.toUInt32 31)).toInt32) &&& (858993459 : Int32))).toUInt32 >>> ((4 : Int32).toUInt32 &&& Int32.toUInt32 31)).toInt32)) &&& (252645135 : Int32)) + (((((((p1 - (((p1.toUInt32 >>> ((1 : Int32).toUInt32 &&& Int32.toUInt32 31)).toInt32) &&& (1431655765 : Int32))) &&& (858993459 : Int32)) + ((((p1 - (((p1.toUInt32 >>> ((1 : Int32).toUInt32 &&& Int32.toUInt32 31)).toInt32) &&& (1431655765 : Int32))).toUInt32 >>> ((2 : Int32).toUInt32 &&& Int32.toUInt32 31)).toInt32) &&& (858993459 : Int32))) + (((((p1 - (((p1.toUInt32 >>> ((1 : Int32).toUInt32 &&& Int32.toUInt32 31)).toInt32) &&& (1431655765 : Int32))) &&& (858993459 : Int32)) + ((((p1 - (((p1.toUInt32 >>> ((1 : Int32).toUInt32 &&& Int32.toUInt32 31)).toInt32) &&& (1431655765 : Int32))).toUInt32 >>> ((2 : Int32).toUInt32 &&& Int32.toUInt32 31)).toInt32) &&& (858993459 : Int32))).toUInt32 >>> ((4 : Int32).toUInt32 &&& Int32.toUInt32 31)).toInt32)) &&& (252645135 : Int32)).toUInt32 >>> ((8 : Int32).toUInt32 &&& Int32.toUInt32 31)).toInt32)) + ((((((((p1 - (((p1.toUInt32 >>> ((1 : Int32).toUInt32 &&& Int32.toUInt32 31)).toInt32) &&& (1431655765 : Int32))) &&& (858993459 : Int32)) + ((((p1 - (((p1.toUInt32 >>> ((1 : Int32).toUInt32 &&& Int32.toUInt32 31)).toInt32) &&& (1431655765 : Int32))).toUInt32 >>> ((2 : Int32).toUInt32 &&& Int32.toUInt32 31)).toInt32) &&& (858993459 : Int32))) + (((((p1 - (((p1.toUInt32 >>> ((1 : Int32).toUInt32 &&& Int32.toUInt32 31)).toInt32) &&& (1431655765 : Int32))) &&& (858993459 : Int32)) + ((((p1 - (((p1.toUInt32 >>> ((1 : Int32).toUInt32 &&& Int32.toUInt32 31)).toInt32) &&& (1431655765 : Int32))).toUInt32 >>> ((2 : Int32).toUInt32 &&& Int32.toUInt32 31)).toInt32) &&& (858993459 : Int32))).toUInt32 >>> ((4 : Int32).toUInt32 &&& Int32.toUInt32 31)).toInt32)) &&& (252645135 : Int32)) + (((((((p1 - (((p1.toUInt32 >>> ((1 : Int32).toUInt32 &&& Int32.toUInt32 31)).toInt32) &&& (1431655765 : Int32))) &&& (858993459 : Int32)) + ((((p1 - (((p1.toUInt32 >>> ((1 : Int32).toUInt32 &&& Int32.toUInt32 31)).toInt32) &&& (1431655765 : Int32))).toUInt32 >>> ((2 : Int32).toUInt32 &&& Int32.toUInt32 31)).toInt32) &&& (858993459 : Int32))) + (((((p1 - (((p1.toUInt32 >>> ((1 : Int32).toUInt32 &&& Int32.toUInt32 31)).toInt32) &&& (1431655765 : Int32))) &&& (858993459 : Int32)) + ((((p1 - (((p1.toUInt32 >>> ((1 : Int32).toUInt32 &&& Int32.toUInt32 31)).toInt32) &&& (1431655765 : Int32))).toUInt32 >>> ((2 : Int32).toUInt32 &&& Int32.toUInt32 31)).toInt32) &&& (858993459 : Int32))).toUInt32 >>> ((4 : Int32).toUInt32 &&& Int32.toUInt32 31)).toInt32)) &&& (252645135 : Int32)).toUInt32 >>> ((8 : Int32).toUInt32 &&& Int32.toUInt32 31)).toInt32)).toUInt32 >>> ((16 : Int32).toUInt32 &&& Int32.toUInt32 31)).toInt32)))]) C dJ6_bitCount_0f7a4_47 rfl (by decide) [0] rfl ?_
  refine g_iload_n C dJ6_bitCount_0f7a4_48 rfl 0 rfl ?_
  refine g_bipush C dJ6_bitCount_0f7a4_49 bk_63 ?_
  refine g_iand C dJ6_bitCount_0f7a4_51 ?_
  exact g_iret C E () h rfl dJ6_bitCount_0f7a4_52
def fnJ6_bitCount_0f7a4 (p1 : Int32) : Int32 := ((((((((p1 - (((p1.toUInt32 >>> ((1 : Int32).toUInt32 &&& Int32.toUInt32 31)).toInt32) &&& (1431655765 : Int32))) &&& (858993459 : Int32)) + ((((p1 - (((p1.toUInt32 >>> ((1 : Int32).toUInt32 &&& Int32.toUInt32 31)).toInt32) &&& (1431655765 : Int32))).toUInt32 >>> ((2 : Int32).toUInt32 &&& Int32.toUInt32 31)).toInt32) &&& (858993459 : Int32))) + (((((p1 - (((p1.toUInt32 >>> ((1 : Int32).toUInt32 &&& Int32.toUInt32 31)).toInt32) &&& (1431655765 : Int32))) &&& (858993459 : Int32)) + ((((p1 - (((p1.toUInt32 >>> ((1 : Int32).toUInt32 &&& Int32.toUInt32 31)).toInt32) &&& (1431655765 : Int32))).toUInt32 >>> ((2 : Int32).toUInt32 &&& Int32.toUInt32 31)).toInt32) &&& (858993459 : Int32))).toUInt32 >>> ((4 : Int32).toUInt32 &&& Int32.toUInt32 31)).toInt32)) &&& (252645135 : Int32)) + (((((((p1 - (((p1.toUInt32 >>> ((1 : Int32).toUInt32 &&& Int32.toUInt32 31)).toInt32) &&& (1431655765 : Int32))) &&& (858993459 : Int32)) + ((((p1 - (((p1.toUInt32 >>> ((1 : Int32).toUInt32 &&& Int32.toUInt32 31)).toInt32) &&& (1431655765 : Int32))).toUInt32 >>> ((2 : Int32).toUInt32 &&& Int32.toUInt32 31)).toInt32) &&& (858993459 : Int32))) + (((((p1 - (((p1.toUInt32 >>> ((1 : Int32).toUInt32 &&& Int32.toUInt32 31)).toInt32) &&& (1431655765 : Int32))) &&& (858993459 : Int32)) + ((((p1 - (((p1.toUInt32 >>> ((1 : Int32).toUInt32 &&& Int32.toUInt32 31)).toInt32) &&& (1431655765 : Int32))).toUInt32 >>> ((2 : Int32).toUInt32 &&& Int32.toUInt32 31)).toInt32) &&& (858993459 : Int32))).toUInt32 >>> ((4 : Int32).toUInt32 &&& Int32.toUInt32 31)).toInt32)) &&& (252645135 : Int32)).toUInt32 >>> ((8 : Int32).toUInt32 &&& Int32.toUInt32 31)).toInt32)) + ((((((((p1 - (((p1.toUInt32 >>> ((1 : Int32).toUInt32 &&& Int32.toUInt32 31)).toInt32) &&& (1431655765 : Int32))) &&& (858993459 : Int32)) + ((((p1 - (((p1.toUInt32 >>> ((1 : Int32).toUInt32 &&& Int32.toUInt32 31)).toInt32) &&& (1431655765 : Int32))).toUInt32 >>> ((2 : Int32).toUInt32 &&& Int32.toUInt32 31)).toInt32) &&& (858993459 : Int32))) + (((((p1 - (((p1.toUInt32 >>> ((1 : Int32).toUInt32 &&& Int32.toUInt32 31)).toInt32) &&& (1431655765 : Int32))) &&& (858993459 : Int32)) + ((((p1 - (((p1.toUInt32 >>> ((1 : Int32).toUInt32 &&& Int32.toUInt32 31)).toInt32) &&& (1431655765 : Int32))).toUInt32 >>> ((2 : Int32).toUInt32 &&& Int32.toUInt32 31)).toInt32) &&& (858993459 : Int32))).toUInt32 >>> ((4 : Int32).toUInt32 &&& Int32.toUInt32 31)).toInt32)) &&& (252645135 : Int32)) + (((((((p1 - (((p1.toUInt32 >>> ((1 : Int32).toUInt32 &&& Int32.toUInt32 31)).toInt32) &&& (1431655765 : Int32))) &&& (858993459 : Int32)) + ((((p1 - (((p1.toUInt32 >>> ((1 : Int32).toUInt32 &&& Int32.toUInt32 31)).toInt32) &&& (1431655765 : Int32))).toUInt32 >>> ((2 : Int32).toUInt32 &&& Int32.toUInt32 31)).toInt32) &&& (858993459 : Int32))) + (((((p1 - (((p1.toUInt32 >>> ((1 : Int32).toUInt32 &&& Int32.toUInt32 31)).toInt32) &&& (1431655765 : Int32))) &&& (858993459 : Int32)) + ((((p1 - (((p1.toUInt32 >>> ((1 : Int32).toUInt32 &&& Int32.toUInt32 31)).toInt32) &&& (1431655765 : Int32))).toUInt32 >>> ((2 : Int32).toUInt32 &&& Int32.toUInt32 31)).toInt32) &&& (858993459 : Int32))).toUInt32 >>> ((4 : Int32).toUInt32 &&& Int32.toUInt32 31)).toInt32)) &&& (252645135 : Int32)).toUInt32 >>> ((8 : Int32).toUInt32 &&& Int32.toUInt32 31)).toInt32)).toUInt32 >>> ((16 : Int32).toUInt32 &&& Int32.toUInt32 31)).toInt32)) &&& (63 : Int32))
set_option maxHeartbeats 4000000 in
set_option maxRecDepth 100000 in
theorem c_J6_bitCount_0f7a4 (ad : Nat → Nat) (cA : Nat → ClassId) (p1 : Int32) : ∀ (l : Launch) (D : va_G), gMi (S := Unit) l yJ6_bitCount_0f7a4 wsJ6_bitCount_0f7a4 rmJ6_bitCount_0f7a4 D (gT cA) 0 0 [.int p1] (wcJ6_bitCount_0f7a4 ad cA) (fun r _ => r = fnJ6_bitCount_0f7a4 p1) (w1J6_bitCount_0f7a4 ad cA) := by
  intro l D
  refine g_enteri (cc := cJ6_bitCount_0f7a4) (nL := 1) (ret := (some .int)) (by decide) rfl (Nat.le_of_ble_eq_true rfl) rfl (fun X C E => sgJ6_bitCount_0f7a4_0 C E ?_)
  exact (by unfold fnJ6_bitCount_0f7a4; first | rfl | (simp only []; done) | (simp only []; rfl))

set_option maxRecDepth 100000 in
theorem bc_b : allN 4096 (fun t => decide (t = 0) || decide (fnJ6_bitCount_0f7a4 ((nI t &&& (-(nI t))) - 1) = nI (tzf 12 t))) = true := by decide +kernel
theorem bc_eq {t : Nat} (h0 : 0 < t) (ht : t < 4096) : fnJ6_bitCount_0f7a4 ((nI t &&& (-(nI t))) - 1) = nI (tzf 12 t) := by
  have h := allN_s bc_b ht
  simp only [Bool.or_eq_true, decide_eq_true_eq] at h
  exact h.resolve_left (by omega)
theorem sh1_b : ∀ m, m < 13 → (1 : Int32) <<< (nI m &&& 31) = nI (2 ^ m) := by decide +kernel
def opnC (lo hi : Int64) (c : Nat) : Bool := sb hi c && !sb lo c

abbrev w1X1_queueOpen (ad : Nat → Nat) (cA : Nat → ClassId) (C_size : Int32) (F_queued : Int32) (F_settled : Int32) (F_settledRise : Int32) (F_amount : Int64) (F_lowest : Int64) (F_highest : Int64) (u : (Nat → Int32)) : va_W := [((ad 1), .inr (0, [.ref (ad 2), .ref (ad 3), .ref (ad 4), .ref (ad 5), .ref (ad 6), .ref (ad 7), .int C_size])), ((ad 8), .inr (1, [.ref (ad 1), .ref (ad 9), .ref (ad 10), .ref (ad 11), .ref (ad 12), .ref (ad 13), .ref (ad 14), .int F_queued, .int F_settled, .int F_settledRise, .long F_amount, .long F_lowest, .long F_highest])), ((ad 14), .inl (cA 0, 36, .inl u))]
abbrev wcX1_queueOpen (ad : Nat → Nat) (cA : Nat → ClassId) (C_size : Int32) (F_queued : Int32) (F_settled : Int32) (F_settledRise : Int32) (F_amount : Int64) (F_lowest : Int64) (F_highest : Int64) (F_queue : Nat → Int32) : va_W := [((ad 1), .inr (0, [.ref (ad 2), .ref (ad 3), .ref (ad 4), .ref (ad 5), .ref (ad 6), .ref (ad 7), .int C_size])), ((ad 8), .inr (1, [.ref (ad 1), .ref (ad 9), .ref (ad 10), .ref (ad 11), .ref (ad 12), .ref (ad 13), .ref (ad 14), .int F_queued, .int F_settled, .int F_settledRise, .long F_amount, .long F_lowest, .long F_highest])), ((ad 14), .inl (cA 0, 36, .inl F_queue))]
def rmX1_queueOpen : Room := { frames := 1, cells := 0, slots := 0, locals := 22 }
abbrev atX1_queueOpen_0 (X : gX) (ad : Nat → Nat) (cA : Nat → ClassId) (C_size : Int32) (F_queued : Int32) (F_settled : Int32) (F_settledRise : Int32) (F_amount : Int64) (F_lowest : Int64) (F_highest : Int64) (F_queue : Nat → Int32) : Prop := gW X 0 0 [((ad 1), .inr (0, [.ref (ad 2), .ref (ad 3), .ref (ad 4), .ref (ad 5), .ref (ad 6), .ref (ad 7), .int C_size])), ((ad 8), .inr (1, [.ref (ad 1), .ref (ad 9), .ref (ad 10), .ref (ad 11), .ref (ad 12), .ref (ad 13), .ref (ad 14), .int F_queued, .int F_settled, .int F_settledRise, .long F_amount, .long F_lowest, .long F_highest])), ((ad 14), .inl (cA 0, 36, .inl F_queue))] 3 [(0, .ref (ad 8))] [] 0
abbrev atX1_queueOpen_4 (X : gX) (ad : Nat → Nat) (cA : Nat → ClassId) (x1 : Int32) (x2 : Int32) (C_size : Int32) (F_queued : Int32) (F_settled : Int32) (F_settledRise : Int32) (F_amount : Int64) (F_lowest : Int64) (F_highest : Int64) (F_queue : Nat → Int32) : Prop := gW X 0 0 [((ad 1), .inr (0, [.ref (ad 2), .ref (ad 3), .ref (ad 4), .ref (ad 5), .ref (ad 6), .ref (ad 7), .int C_size])), ((ad 8), .inr (1, [.ref (ad 1), .ref (ad 9), .ref (ad 10), .ref (ad 11), .ref (ad 12), .ref (ad 13), .ref (ad 14), .int F_queued, .int F_settled, .int F_settledRise, .long F_amount, .long F_lowest, .long F_highest])), ((ad 14), .inl (cA 0, 36, .inl F_queue))] 3 [(0, .ref (ad 8)), (1, .int x1), (2, .int x2)] [] 4
theorem cnX1_queueOpen_80 : Cond.constantLong RX1 80 (-1) ∈ wsX1_queueOpen := by decide +kernel
theorem giX1_queueOpen_X1 : ∀ w ∈ u_ws RX1 TX1 13, w ∈ wsX1_queueOpen := by decide +kernel
theorem gfX1_queueOpen_12 : gF wsX1_queueOpen RX1 12 1 0 RX1 TX1 13 := ⟨giX1_queueOpen_X1, by decide +kernel, rfl, by decide⟩
theorem giX1_queueOpen_X0 : ∀ w ∈ u_ws RX0 TX0 7, w ∈ wsX1_queueOpen := by decide +kernel
theorem gfX1_queueOpen_82 : gF wsX1_queueOpen RX1 82 0 6 RX0 TX0 7 := ⟨giX1_queueOpen_X0, by decide +kernel, rfl, by decide⟩
theorem gfX1_queueOpen_55 : gF wsX1_queueOpen RX1 55 1 12 RX1 TX1 13 := ⟨giX1_queueOpen_X1, by decide +kernel, rfl, by decide⟩
theorem gfX1_queueOpen_52 : gF wsX1_queueOpen RX1 52 1 11 RX1 TX1 13 := ⟨giX1_queueOpen_X1, by decide +kernel, rfl, by decide⟩
theorem gfX1_queueOpen_34 : gF wsX1_queueOpen RX1 34 1 6 RX1 TX1 13 := ⟨giX1_queueOpen_X1, by decide +kernel, rfl, by decide⟩
set_option maxHeartbeats 4000000 in
set_option maxRecDepth 100000 in
theorem sgX1_queueOpen_0 {X : gX} {ad : Nat → Nat} {cA : Nat → ClassId} {post : Int32 → ((Nat → Int32)) → Prop} {C_size : Int32} {F_queued : Int32} {F_settled : Int32} {F_settledRise : Int32} {F_amount : Int64} {F_lowest : Int64} {F_highest : Int64} {F_queue : Nat → Int32} (C : gC X (gT cA) cX1_queueOpen 3 RX1 wsX1_queueOpen rmX1_queueOpen) (E : gEi X (some .int) (gT cA) 0 0 post (w1X1_queueOpen ad cA C_size F_queued F_settled F_settledRise F_amount F_lowest F_highest)) (h : atX1_queueOpen_4 X ad cA (0 : Int32) (0 : Int32) C_size F_queued F_settled F_settledRise F_amount F_lowest F_highest F_queue) : atX1_queueOpen_0 X ad cA C_size F_queued F_settled F_settledRise F_amount F_lowest F_highest F_queue := by
  refine g_iconst C dX1_queueOpen_0 ik_0 ?_
  refine g_istore_n (lv2 := [(0, .ref (ad 8)), (1, .int (0 : Int32))]) C dX1_queueOpen_1 rfl (by decide) [1, 0] rfl ?_
  refine g_iconst C dX1_queueOpen_2 ik_0 ?_
  refine g_istore_n (lv2 := [(0, .ref (ad 8)), (1, .int (0 : Int32)), (2, .int (0 : Int32))]) C dX1_queueOpen_3 rfl (by decide) [1, 2, 0] rfl ?_
  exact g_lv [0, 1, 2] rfl h
set_option maxHeartbeats 4000000 in
set_option maxRecDepth 100000 in
theorem sgX1_queueOpen_4 {X : gX} {ad : Nat → Nat} {cA : Nat → ClassId} {post : Int32 → ((Nat → Int32)) → Prop} {x1 : Int32} {x2 : Int32} {C_size : Int32} {F_queued : Int32} {F_settled : Int32} {F_settledRise : Int32} {F_amount : Int64} {F_lowest : Int64} {F_highest : Int64} {F_queue : Nat → Int32} (C : gC X (gT cA) cX1_queueOpen 3 RX1 wsX1_queueOpen rmX1_queueOpen) (E : gEi X (some .int) (gT cA) 0 0 post (w1X1_queueOpen ad cA C_size F_queued F_settled F_settledRise F_amount F_lowest F_highest)) (h : (C_size ≤ x2 → post x1 F_queue) ∧ (¬ C_size ≤ x2 → ((fnX0_holds (F_highest &&& (F_lowest ^^^ (-1 : Int64))) x2) = false → atX1_queueOpen_4 X ad cA x1 (x2 + 1) C_size F_queued F_settled F_settledRise F_amount F_lowest F_highest F_queue) ∧ ((fnX0_holds (F_highest &&& (F_lowest ^^^ (-1 : Int64))) x2) = true → ((12 : Int32) ≤ x1 → atX1_queueOpen_4 X ad cA x1 (x2 + 1) C_size F_queued F_settled F_settledRise F_amount F_lowest F_highest F_queue) ∧ (¬ (12 : Int32) ≤ x1 → vp_in x1 36 ∧ atX1_queueOpen_4 X ad cA (x1 + 1) (x2 + 1) C_size F_queued F_settled F_settledRise F_amount F_lowest F_highest (upd F_queue x1.toNatClampNeg x2))))) : atX1_queueOpen_4 X ad cA x1 x2 C_size F_queued F_settled F_settledRise F_amount F_lowest F_highest F_queue := by
  refine g_iload_n C dX1_queueOpen_4 rfl 2 rfl ?_
  refine g_aload_n C dX1_queueOpen_5 rfl 0 rfl ?_
  refine g_get C gfX1_queueOpen_12 1 rfl rfl dX1_queueOpen_6 ?_
  refine g_get C gfX1_queueOpen_82 0 rfl rfl dX1_queueOpen_9 ?_
  refine g_icmp_ge (tgt := 57) C dX1_queueOpen_12 (by decide) (fun c_1 => ?_) (fun c_1 => ?_)
  · replace h := h.1 c_1
    refine g_iload_n C dX1_queueOpen_57 rfl 1 rfl ?_
    exact g_iret C E F_queue h rfl dX1_queueOpen_58
  · replace h := h.2 c_1
    refine g_aload_n C dX1_queueOpen_15 rfl 0 rfl ?_
    refine g_get C gfX1_queueOpen_55 1 rfl rfl dX1_queueOpen_16 ?_
    refine g_aload_n C dX1_queueOpen_19 rfl 0 rfl ?_
    refine g_get C gfX1_queueOpen_52 1 rfl rfl dX1_queueOpen_20 ?_
    refine g_ldc2_w C cnX1_queueOpen_80 dX1_queueOpen_23 ?_
    refine g_lxor C dX1_queueOpen_26 ?_
    refine g_land C dX1_queueOpen_27 ?_
    refine g_iload_n C dX1_queueOpen_28 rfl 2 rfl ?_
    refine g_callSi (b := 0) (wr := [((ad 1), .inr (0, [.ref (ad 2), .ref (ad 3), .ref (ad 4), .ref (ad 5), .ref (ad 6), .ref (ad 7), .int C_size])), ((ad 8), .inr (1, [.ref (ad 1), .ref (ad 9), .ref (ad 10), .ref (ad 11), .ref (ad 12), .ref (ad 13), .ref (ad 14), .int F_queued, .int F_settled, .int F_settledRise, .long F_amount, .long F_lowest, .long F_highest])), ((ad 14), .inl (cA 0, 36, .inl F_queue))]) C (c_X0_holds ad cA (F_highest &&& (F_lowest ^^^ (-1 : Int64))) x2) gX1_queueOpen_X0_holds rfl hde_X0_holds ⟨rfl, rfl⟩ (by decide) (by decide) [] [0, 1, 2] [0, 1, 2] rfl rfl rfl rfl (by decide) rfl (ws2 := fun u => [((ad 1), .inr (0, [.ref (ad 2), .ref (ad 3), .ref (ad 4), .ref (ad 5), .ref (ad 6), .ref (ad 7), .int C_size])), ((ad 8), .inr (1, [.ref (ad 1), .ref (ad 9), .ref (ad 10), .ref (ad 11), .ref (ad 12), .ref (ad 13), .ref (ad 14), .int F_queued, .int F_settled, .int F_settledRise, .long F_amount, .long F_lowest, .long F_highest])), ((ad 14), .inl (cA 0, 36, .inl F_queue))]) (fun _ => rfl) (rest := []) rfl (Nat.le_of_ble_eq_true rfl) dX1_queueOpen_29 (fun r_2 u_2 hp_2 => ?_)
    subst hp_2
    change gW X 0 0 [((ad 1), .inr (0, [.ref (ad 2), .ref (ad 3), .ref (ad 4), .ref (ad 5), .ref (ad 6), .ref (ad 7), .int C_size])), ((ad 8), .inr (1, [.ref (ad 1), .ref (ad 9), .ref (ad 10), .ref (ad 11), .ref (ad 12), .ref (ad 13), .ref (ad 14), .int F_queued, .int F_settled, .int F_settledRise, .long F_amount, .long F_lowest, .long F_highest])), ((ad 14), .inl (cA 0, 36, .inl F_queue))] 3 [(0, .ref (ad 8)), (1, .int x1), (2, .int x2)] [.int (bI (fnX0_holds (F_highest &&& (F_lowest ^^^ (-1 : Int64))) x2))] 32
    refine g_ifeq_b (tgt := 51) C dX1_queueOpen_32 (by decide) (fun c_3 => ?_) (fun c_3 => ?_)
    · replace h := h.1 c_3
      refine g_iinc (v := (x2 + 1)) (lv2 := [(0, .ref (ad 8)), (1, .int x1), (2, .int (x2 + 1))]) C dX1_queueOpen_51 2 rfl (by first | rfl | decide) (by decide) [1, 2, 0] rfl ?_
      refine g_goto (tgt := 4) C dX1_queueOpen_54 (by decide) ?_
      exact g_lv [0, 1, 2] rfl h
    · replace h := h.2 c_3
      refine g_iload_n C dX1_queueOpen_35 rfl 1 rfl ?_
      refine g_bipush C dX1_queueOpen_36 bk_12 ?_
      refine g_icmp_ge (tgt := 51) C dX1_queueOpen_38 (by decide) (fun c_4 => ?_) (fun c_4 => ?_)
      · replace h := h.1 c_4
        refine g_iinc (v := (x2 + 1)) (lv2 := [(0, .ref (ad 8)), (1, .int x1), (2, .int (x2 + 1))]) C dX1_queueOpen_51 2 rfl (by first | rfl | decide) (by decide) [1, 2, 0] rfl ?_
        refine g_goto (tgt := 4) C dX1_queueOpen_54 (by decide) ?_
        exact g_lv [0, 1, 2] rfl h
      · replace h := h.2 c_4
        refine g_aload_n C dX1_queueOpen_41 rfl 0 rfl ?_
        refine g_get C gfX1_queueOpen_34 1 rfl rfl dX1_queueOpen_42 ?_
        refine g_iload_n C dX1_queueOpen_45 rfl 1 rfl ?_
        refine g_iinc (v := (x1 + 1)) (lv2 := [(0, .ref (ad 8)), (1, .int (x1 + 1)), (2, .int x2)]) C dX1_queueOpen_46 1 rfl (by first | rfl | decide) (by decide) [1, 0, 2] rfl ?_
        refine g_iload_n C dX1_queueOpen_49 rfl 2 rfl ?_
        obtain ⟨hi_5, h⟩ := h
        refine g_iast (ws2 := [((ad 1), .inr (0, [.ref (ad 2), .ref (ad 3), .ref (ad 4), .ref (ad 5), .ref (ad 6), .ref (ad 7), .int C_size])), ((ad 8), .inr (1, [.ref (ad 1), .ref (ad 9), .ref (ad 10), .ref (ad 11), .ref (ad 12), .ref (ad 13), .ref (ad 14), .int F_queued, .int F_settled, .int F_settledRise, .long F_amount, .long F_lowest, .long F_highest])), ((ad 14), .inl (cA 0, 36, .inl (upd F_queue x1.toNatClampNeg x2)))]) C 2 0 rfl rfl hi_5 rfl dX1_queueOpen_50 ?_
        refine g_iinc (v := (x2 + 1)) (lv2 := [(0, .ref (ad 8)), (1, .int (x1 + 1)), (2, .int (x2 + 1))]) C dX1_queueOpen_51 2 rfl (by first | rfl | decide) (by decide) [1, 2, 0] rfl ?_
        refine g_goto (tgt := 4) C dX1_queueOpen_54 (by decide) ?_
        exact g_lv [0, 1, 2] rfl h
def prX1_queueOpen (n : Nat) (C_size : Int32) (F_queued : Int32) (F_settled : Int32) (F_settledRise : Int32) (F_amount : Int64) (F_lowest : Int64) (F_highest : Int64) (F_queue : Nat → Int32) : Prop := n ≤ 36 ∧ C_size = nI n ∧ cntA n (opnC F_lowest F_highest) ≤ 12
def po_X1_queueOpen (ad : Nat → Nat) (cA : Nat → ClassId) (n : Nat) (C_size : Int32) (F_queued : Int32) (F_settled : Int32) (F_settledRise : Int32) (F_amount : Int64) (F_lowest : Int64) (F_highest : Int64) (F_queue : Nat → Int32) (r : Int32) (u : (Nat → Int32)) : Prop := ∃ Q : Nat → Nat, r = nI (cntA n (opnC F_lowest F_highest)) ∧ (∀ j, j < cntA n (opnC F_lowest F_highest) → u j = nI (Q j) ∧ Q j < n ∧ opnC F_lowest F_highest (Q j) = true) ∧ (∀ i j, i < cntA n (opnC F_lowest F_highest) → j < cntA n (opnC F_lowest F_highest) → Q i = Q j → i = j) ∧ ∀ c, c < n → opnC F_lowest F_highest c = true → ∃ j, j < cntA n (opnC F_lowest F_highest) ∧ Q j = c
set_option maxHeartbeats 4000000 in
set_option maxRecDepth 100000 in
theorem c_X1_queueOpen (ad : Nat → Nat) (cA : Nat → ClassId) (n : Nat) (C_size : Int32) (F_queued : Int32) (F_settled : Int32) (F_settledRise : Int32) (F_amount : Int64) (F_lowest : Int64) (F_highest : Int64) (F_queue : Nat → Int32) (hq : prX1_queueOpen n C_size F_queued F_settled F_settledRise F_amount F_lowest F_highest F_queue) : ∀ (l : Launch) (D : va_G), gMi (S := (Nat → Int32)) l yX1_queueOpen wsX1_queueOpen rmX1_queueOpen D (gT cA) 0 0 [.ref (ad 8)] (wcX1_queueOpen ad cA C_size F_queued F_settled F_settledRise F_amount F_lowest F_highest F_queue) (po_X1_queueOpen ad cA n C_size F_queued F_settled F_settledRise F_amount F_lowest F_highest F_queue) (w1X1_queueOpen ad cA C_size F_queued F_settled F_settledRise F_amount F_lowest F_highest) := by
  intro l D
  unfold prX1_queueOpen at hq
  refine g_enteri (cc := cX1_queueOpen) (nL := 3) (ret := (some .int)) (by decide) rfl (Nat.le_of_ble_eq_true rfl) rfl (fun X C E => ?_)
  obtain ⟨hn, rfl, h12⟩ := hq
  refine sgX1_queueOpen_0 C E ?_
  have hmono : ∀ k, k ≤ n → cntA k (opnC F_lowest F_highest) ≤ cntA n (opnC F_lowest F_highest) := by
    intro k hk
    refine up_loop (P := fun k => cntA k (opnC F_lowest F_highest) ≤ cntA n (opnC F_lowest F_highest)) n (Nat.le_refl _) (fun k hk ih => ?_) k hk
    simp only [cntA] at ih; omega
  have ho : ∀ c, c < 64 → fnX0_holds (F_highest &&& (F_lowest ^^^ (-1 : Int64))) (nI c) = opnC F_lowest F_highest c := fun c hc => by
    rw [holds_eq _ hc, zb_and, zb_xor, zb_m1 hc]; unfold opnC; simp
  have loop : ∀ k, k ≤ n → ∀ (q : Nat → Int32) (Q : Nat → Nat), (∀ j, j < cntA k (opnC F_lowest F_highest) → q j = nI (Q j) ∧ Q j < k ∧ opnC F_lowest F_highest (Q j) = true) → (∀ i j, i < cntA k (opnC F_lowest F_highest) → j < cntA k (opnC F_lowest F_highest) → Q i = Q j → i = j) → (∀ c, c < k → opnC F_lowest F_highest c = true → ∃ j, j < cntA k (opnC F_lowest F_highest) ∧ Q j = c) → atX1_queueOpen_4 X ad cA (nI (cntA k (opnC F_lowest F_highest))) (nI k) (nI n) F_queued F_settled F_settledRise F_amount F_lowest F_highest q := by
    intro k hk
    refine up_loop (P := fun k => ∀ (q : Nat → Int32) (Q : Nat → Nat), (∀ j, j < cntA k (opnC F_lowest F_highest) → q j = nI (Q j) ∧ Q j < k ∧ opnC F_lowest F_highest (Q j) = true) → (∀ i j, i < cntA k (opnC F_lowest F_highest) → j < cntA k (opnC F_lowest F_highest) → Q i = Q j → i = j) → (∀ c, c < k → opnC F_lowest F_highest c = true → ∃ j, j < cntA k (opnC F_lowest F_highest) ∧ Q j = c) → atX1_queueOpen_4 X ad cA (nI (cntA k (opnC F_lowest F_highest))) (nI k) (nI n) F_queued F_settled F_settledRise F_amount F_lowest F_highest q) n ?_ (fun k hk ih q Q h1 h2 h3 => ?_) k hk
    · exact fun q Q h1 h2 h3 => sgX1_queueOpen_4 C E ⟨fun _ => ⟨Q, rfl, h1, h2, h3⟩, fun c => absurd (i32_le_refl _) c⟩
    · have hm := hmono (k + 1) hk
      refine sgX1_queueOpen_4 C E ⟨fun c => absurd c (nI_ge hk (by omega)), fun _ => ?_⟩
      rw [ho k (by omega), nI_1 k]
      refine ⟨fun c => ?_, fun c => ?_⟩
      · have e : cntA (k + 1) (opnC F_lowest F_highest) = cntA k (opnC F_lowest F_highest) := by simp only [cntA, c]; rfl
        have ih2 := ih q Q
        rw [e] at ih2
        refine ih2 (fun j hj => ⟨(h1 j hj).1, by have := (h1 j hj).2.1; omega, (h1 j hj).2.2⟩) h2 (fun x hx hxo => ?_)
        rcases Nat.lt_or_ge x k with g | g
        · exact h3 x g hxo
        · have e2 : x = k := by omega
          rw [e2, c] at hxo; exact absurd hxo (by decide)
      · have e : cntA (k + 1) (opnC F_lowest F_highest) = cntA k (opnC F_lowest F_highest) + 1 := by simp only [cntA, c]; rfl
        refine ⟨fun c2 => absurd c2 (nI_ge (b := 12) (by omega) (by decide)), fun _ => ⟨vp_in_nI (by omega) (by decide), ?_⟩⟩
        rw [nI_clamp (by omega), nI_1 (cntA k (opnC F_lowest F_highest))]
        have ih2 := ih (upd q (cntA k (opnC F_lowest F_highest)) (nI k)) (fun j => if j = cntA k (opnC F_lowest F_highest) then k else Q j)
        rw [e] at ih2
        refine ih2 (fun j hj => ?_) (fun i j hi hj hij => ?_) (fun x hx hxo => ?_)
        · by_cases g : j = cntA k (opnC F_lowest F_highest)
          · show upd q _ _ j = nI (if _ then _ else _) ∧ (if _ then _ else _) < k + 1 ∧ opnC F_lowest F_highest (if _ then _ else _) = true
            rw [if_pos g, g, upd_s]; exact ⟨rfl, by omega, c⟩
          · show upd q _ _ j = nI (if _ then _ else _) ∧ (if _ then _ else _) < k + 1 ∧ opnC F_lowest F_highest (if _ then _ else _) = true
            rw [if_neg g, upd_n _ _ g]
            have := h1 j (by omega)
            exact ⟨this.1, by omega, this.2.2⟩
        · have hij : (if i = cntA k (opnC F_lowest F_highest) then k else Q i) = (if j = cntA k (opnC F_lowest F_highest) then k else Q j) := hij
          by_cases g1 : i = cntA k (opnC F_lowest F_highest) <;> by_cases g2 : j = cntA k (opnC F_lowest F_highest)
          · omega
          · rw [if_pos g1, if_neg g2] at hij
            have := (h1 j (by omega)).2.1; omega
          · rw [if_neg g1, if_pos g2] at hij
            have := (h1 i (by omega)).2.1; omega
          · rw [if_neg g1, if_neg g2] at hij
            exact h2 i j (by omega) (by omega) hij
        · rcases Nat.lt_or_ge x k with g | g
          · obtain ⟨j, j1, j2⟩ := h3 x g hxo
            exact ⟨j, by omega, by show (if _ then _ else _) = x; rw [if_neg (by omega)]; exact j2⟩
          · have e2 : x = k := by omega
            exact ⟨cntA k (opnC F_lowest F_highest), by omega, by show (if _ then _ else _) = x; rw [if_pos rfl, e2]⟩
  exact loop 0 (Nat.zero_le _) F_queue (fun _ => 0) (fun j hj => absurd hj (Nat.not_lt_zero j)) (fun i j hi => absurd hi (Nat.not_lt_zero i)) (fun c hc => absurd hc (Nat.not_lt_zero c))


/-- a least set, as a number -/
def isSol (n : Nat) (be pl ru pr hd : Nat → Int32) (a : Int) (s : Int64) : Prop := rgtP n hd (sb s) ∧ Ef n be pl ru pr 0 (sb s) = a ∧ ∀ i, i < 64 → n ≤ i → sb s i = false
def isV (lo : Int64) (Q : Nat → Nat) (m w : Nat) (s : Int64) : Prop := (∀ j, j < m → sb s (Q j) = w.testBit j) ∧ ∀ i, i < 64 → (∀ j, j < m → Q j ≠ i) → sb s i = sb lo i
theorem isV_uniq {lo : Int64} {Q : Nat → Nat} {m w : Nat} {s s2 : Int64} (h1 : isV lo Q m w s) (h2 : isV lo Q m w s2) : s = s2 := by
  apply zb_ext
  intro i hi
  by_cases q : ∃ j, j < m ∧ Q j = i
  · obtain ⟨j, g1, g2⟩ := q
    rw [← g2, h1.1 j g1, h2.1 j g1]
  · have q' : ∀ j, j < m → Q j ≠ i := fun j hj e => q ⟨j, hj, e⟩
    rw [h1.2 i hi q', h2.2 i hi q']
theorem isV_step {lo : Int64} {Q : Nat → Nat} {m w : Nat} {s : Int64} (h : isV lo Q m w s) (hinj : ∀ i j, i < m → j < m → Q i = Q j → i = j) (hQ : ∀ j, j < m → Q j < 64) {k : Nat} (hk : k < m) : isV lo Q m (w ^^^ 2 ^ k) (s ^^^ ((1 : Int64) <<< ((nI (Q k)).toInt64 &&& 63))) := by
  refine ⟨fun j hj => ?_, fun i hi hni => ?_⟩
  · rw [zb_xor, zb_one (hQ k hk) (hQ j hj), h.1 j hj, Nat.testBit_xor, Nat.testBit_two_pow]
    congr 1
    rw [decide_eq_decide]
    exact ⟨fun e => (hinj j k hj hk e).symm, fun e => by rw [e]⟩
  · rw [zb_xor, zb_one (hQ k hk) hi, h.2 i hi hni, decide_eq_false (fun e => hni k hk e.symm), Bool.xor_false]

abbrev w1X1_leastSets (ad : Nat → Nat) (cA : Nat → ClassId) (C_size : Int32) (C_prices : Nat → Int32) (C_rules : Nat → Int32) (C_places : Nat → Int32) (C_beyond : Nat → Int32) (F_queued : Int32) (F_settled : Int32) (F_settledRise : Int32) (F_amount : Int64) (F_lowest : Int64) (F_highest : Int64) (u : (Nat → Int32)) : va_W := [((ad 1), .inr (0, [.ref (ad 2), .ref (ad 3), .ref (ad 4), .ref (ad 5), .ref (ad 6), .ref (ad 7), .int C_size])), ((ad 4), .inl (cA 0, 36, .inl C_prices)), ((ad 5), .inl (cA 0, 7, .inl C_rules)), ((ad 6), .inl (cA 0, 108, .inl C_places)), ((ad 7), .inl (cA 0, 216, .inl C_beyond)), ((ad 8), .inr (1, [.ref (ad 1), .ref (ad 9), .ref (ad 10), .ref (ad 11), .ref (ad 12), .ref (ad 13), .ref (ad 14), .int F_queued, .int F_settled, .int F_settledRise, .long F_amount, .long F_lowest, .long F_highest])), ((ad 14), .inl (cA 0, 36, .inl u))]
abbrev wcX1_leastSets (ad : Nat → Nat) (cA : Nat → ClassId) (C_size : Int32) (C_prices : Nat → Int32) (C_rules : Nat → Int32) (C_places : Nat → Int32) (C_beyond : Nat → Int32) (F_queued : Int32) (F_settled : Int32) (F_settledRise : Int32) (F_amount : Int64) (F_lowest : Int64) (F_highest : Int64) (F_queue : Nat → Int32) : va_W := [((ad 1), .inr (0, [.ref (ad 2), .ref (ad 3), .ref (ad 4), .ref (ad 5), .ref (ad 6), .ref (ad 7), .int C_size])), ((ad 4), .inl (cA 0, 36, .inl C_prices)), ((ad 5), .inl (cA 0, 7, .inl C_rules)), ((ad 6), .inl (cA 0, 108, .inl C_places)), ((ad 7), .inl (cA 0, 216, .inl C_beyond)), ((ad 8), .inr (1, [.ref (ad 1), .ref (ad 9), .ref (ad 10), .ref (ad 11), .ref (ad 12), .ref (ad 13), .ref (ad 14), .int F_queued, .int F_settled, .int F_settledRise, .long F_amount, .long F_lowest, .long F_highest])), ((ad 14), .inl (cA 0, 36, .inl F_queue))]
def rmX1_leastSets : Room := { frames := 3, cells := 0, slots := 0, locals := 66 }
abbrev atX1_leastSets_0 (X : gX) (ad : Nat → Nat) (cA : Nat → ClassId) (C_size : Int32) (C_prices : Nat → Int32) (C_rules : Nat → Int32) (C_places : Nat → Int32) (C_beyond : Nat → Int32) (F_queued : Int32) (F_settled : Int32) (F_settledRise : Int32) (F_amount : Int64) (F_lowest : Int64) (F_highest : Int64) (F_queue : Nat → Int32) : Prop := gW X 0 0 [((ad 1), .inr (0, [.ref (ad 2), .ref (ad 3), .ref (ad 4), .ref (ad 5), .ref (ad 6), .ref (ad 7), .int C_size])), ((ad 4), .inl (cA 0, 36, .inl C_prices)), ((ad 5), .inl (cA 0, 7, .inl C_rules)), ((ad 6), .inl (cA 0, 108, .inl C_places)), ((ad 7), .inl (cA 0, 216, .inl C_beyond)), ((ad 8), .inr (1, [.ref (ad 1), .ref (ad 9), .ref (ad 10), .ref (ad 11), .ref (ad 12), .ref (ad 13), .ref (ad 14), .int F_queued, .int F_settled, .int F_settledRise, .long F_amount, .long F_lowest, .long F_highest])), ((ad 14), .inl (cA 0, 36, .inl F_queue))] 9 [(0, .ref (ad 8))] [] 0
abbrev atX1_leastSets_19 (X : gX) (ad : Nat → Nat) (cA : Nat → ClassId) (x1 : Int32) (x2 : Int64) (x4 : Int32) (x5 : Int32) (x6 : Int32) (C_size : Int32) (C_prices : Nat → Int32) (C_rules : Nat → Int32) (C_places : Nat → Int32) (C_beyond : Nat → Int32) (F_queued : Int32) (F_settled : Int32) (F_settledRise : Int32) (F_amount : Int64) (F_lowest : Int64) (F_highest : Int64) (F_queue : Nat → Int32) : Prop := gW X 0 0 [((ad 1), .inr (0, [.ref (ad 2), .ref (ad 3), .ref (ad 4), .ref (ad 5), .ref (ad 6), .ref (ad 7), .int C_size])), ((ad 4), .inl (cA 0, 36, .inl C_prices)), ((ad 5), .inl (cA 0, 7, .inl C_rules)), ((ad 6), .inl (cA 0, 108, .inl C_places)), ((ad 7), .inl (cA 0, 216, .inl C_beyond)), ((ad 8), .inr (1, [.ref (ad 1), .ref (ad 9), .ref (ad 10), .ref (ad 11), .ref (ad 12), .ref (ad 13), .ref (ad 14), .int F_queued, .int F_settled, .int F_settledRise, .long F_amount, .long F_lowest, .long F_highest])), ((ad 14), .inl (cA 0, 36, .inl F_queue))] 9 [(0, .ref (ad 8)), (1, .int x1), (2, .long x2), (4, .int x4), (5, .int x5), (6, .int x6)] [] 19
theorem giX1_leastSets_X1 : ∀ w ∈ u_ws RX1 TX1 13, w ∈ wsX1_leastSets := by decide +kernel
theorem gfX1_leastSets_52 : gF wsX1_leastSets RX1 52 1 11 RX1 TX1 13 := ⟨giX1_leastSets_X1, by decide +kernel, rfl, by decide⟩
theorem gfX1_leastSets_34 : gF wsX1_leastSets RX1 34 1 6 RX1 TX1 13 := ⟨giX1_leastSets_X1, by decide +kernel, rfl, by decide⟩
theorem gfX1_leastSets_12 : gF wsX1_leastSets RX1 12 1 0 RX1 TX1 13 := ⟨giX1_leastSets_X1, by decide +kernel, rfl, by decide⟩
set_option maxHeartbeats 4000000 in
set_option maxRecDepth 100000 in
theorem sgX1_leastSets_0 {X : gX} {ad : Nat → Nat} {cA : Nat → ClassId} {post : Int32 → ((Nat → Int32)) → Prop} {C_size : Int32} {C_prices : Nat → Int32} {C_rules : Nat → Int32} {C_places : Nat → Int32} {C_beyond : Nat → Int32} {F_queued : Int32} {F_settled : Int32} {F_settledRise : Int32} {F_amount : Int64} {F_lowest : Int64} {F_highest : Int64} {F_queue : Nat → Int32} (C : gC X (gT cA) cX1_leastSets 9 RX1 wsX1_leastSets rmX1_leastSets) (E : gEi X (some .int) (gT cA) 0 0 post (w1X1_leastSets ad cA C_size C_prices C_rules C_places C_beyond F_queued F_settled F_settledRise F_amount F_lowest F_highest)) (h : ∃ (n_1 : Nat), prX1_queueOpen n_1 C_size F_queued F_settled F_settledRise F_amount F_lowest F_highest F_queue ∧ ∀ (r_3 : Int32) (u3_F_queue : Nat → Int32), po_X1_queueOpen ad cA n_1 C_size F_queued F_settled F_settledRise F_amount F_lowest F_highest F_queue r_3 u3_F_queue → atX1_leastSets_19 X ad cA r_3 F_lowest (0 : Int32) (1 : Int32) (1 : Int32) C_size C_prices C_rules C_places C_beyond F_queued F_settled F_settledRise F_amount F_lowest F_highest u3_F_queue) : atX1_leastSets_0 X ad cA C_size C_prices C_rules C_places C_beyond F_queued F_settled F_settledRise F_amount F_lowest F_highest F_queue := by
  refine g_aload_n C dX1_leastSets_0 rfl 0 rfl ?_
  obtain ⟨n_1, h⟩ := h
  obtain ⟨hi_2, h⟩ := h
  refine g_callVi (wr := [((ad 4), .inl (cA 0, 36, .inl C_prices)), ((ad 5), .inl (cA 0, 7, .inl C_rules)), ((ad 6), .inl (cA 0, 108, .inl C_places)), ((ad 7), .inl (cA 0, 216, .inl C_beyond))]) C (c_X1_queueOpen ad cA n_1 C_size F_queued F_settled F_settledRise F_amount F_lowest F_highest F_queue hi_2) gX1_leastSets_X1_queueOpen rfl hde_X1_queueOpen ⟨rfl, rfl⟩ (by decide) (by decide) [0, 5, 6] [1, 2, 3, 4] [4, 0, 1, 2, 3, 5, 6] rfl rfl rfl rfl (by decide) rfl (ws2 := fun u => [((ad 1), .inr (0, [.ref (ad 2), .ref (ad 3), .ref (ad 4), .ref (ad 5), .ref (ad 6), .ref (ad 7), .int C_size])), ((ad 4), .inl (cA 0, 36, .inl C_prices)), ((ad 5), .inl (cA 0, 7, .inl C_rules)), ((ad 6), .inl (cA 0, 108, .inl C_places)), ((ad 7), .inl (cA 0, 216, .inl C_beyond)), ((ad 8), .inr (1, [.ref (ad 1), .ref (ad 9), .ref (ad 10), .ref (ad 11), .ref (ad 12), .ref (ad 13), .ref (ad 14), .int F_queued, .int F_settled, .int F_settledRise, .long F_amount, .long F_lowest, .long F_highest])), ((ad 14), .inl (cA 0, 36, .inl u))]) (fun _ => rfl) 1 1 rfl rfl rfl (rest := []) rfl (Nat.le_of_ble_eq_true rfl) dX1_leastSets_1 (fun r_3 u_3 hp_3 => ?_)
  obtain ⟨u3_F_queue, rfl⟩ : ∃ z, z = u_3 := ⟨_, rfl⟩
  replace h := h r_3 u3_F_queue hp_3
  change gW X 0 0 [((ad 1), .inr (0, [.ref (ad 2), .ref (ad 3), .ref (ad 4), .ref (ad 5), .ref (ad 6), .ref (ad 7), .int C_size])), ((ad 4), .inl (cA 0, 36, .inl C_prices)), ((ad 5), .inl (cA 0, 7, .inl C_rules)), ((ad 6), .inl (cA 0, 108, .inl C_places)), ((ad 7), .inl (cA 0, 216, .inl C_beyond)), ((ad 8), .inr (1, [.ref (ad 1), .ref (ad 9), .ref (ad 10), .ref (ad 11), .ref (ad 12), .ref (ad 13), .ref (ad 14), .int F_queued, .int F_settled, .int F_settledRise, .long F_amount, .long F_lowest, .long F_highest])), ((ad 14), .inl (cA 0, 36, .inl u3_F_queue))] 9 [(0, .ref (ad 8))] [.int r_3] 4
  refine g_istore_n (lv2 := [(0, .ref (ad 8)), (1, .int r_3)]) C dX1_leastSets_4 rfl (by decide) [1, 0] rfl ?_
  refine g_aload_n C dX1_leastSets_5 rfl 0 rfl ?_
  refine g_get C gfX1_leastSets_52 5 rfl rfl dX1_leastSets_6 ?_
  refine g_lstore_n (lv2 := [(0, .ref (ad 8)), (1, .int r_3), (2, .long F_lowest)]) C dX1_leastSets_9 rfl (by decide) [1, 2, 0] rfl ?_
  refine g_iconst C dX1_leastSets_10 ik_0 ?_
  refine g_istore (lv2 := [(0, .ref (ad 8)), (1, .int r_3), (2, .long F_lowest), (4, .int (0 : Int32))]) C dX1_leastSets_11 (by decide) [1, 2, 3, 0] rfl ?_
  refine g_iconst C dX1_leastSets_13 ik_1 ?_
  refine g_istore (lv2 := [(0, .ref (ad 8)), (1, .int r_3), (2, .long F_lowest), (4, .int (0 : Int32)), (5, .int (1 : Int32))]) C dX1_leastSets_14 (by decide) [1, 2, 3, 4, 0] rfl ?_
  refine g_iconst C dX1_leastSets_16 ik_1 ?_
  refine g_istore (lv2 := [(0, .ref (ad 8)), (1, .int r_3), (2, .long F_lowest), (4, .int (0 : Int32)), (5, .int (1 : Int32)), (6, .int (1 : Int32))]) C dX1_leastSets_17 (by decide) [1, 2, 3, 4, 5, 0] rfl ?_
  exact g_lv [0, 1, 2, 3, 4, 5] rfl h
set_option maxHeartbeats 4000000 in
set_option maxRecDepth 100000 in
theorem sgX1_leastSets_19 {X : gX} {ad : Nat → Nat} {cA : Nat → ClassId} {post : Int32 → ((Nat → Int32)) → Prop} {x1 : Int32} {x2 : Int64} {x4 : Int32} {x5 : Int32} {x6 : Int32} {C_size : Int32} {C_prices : Nat → Int32} {C_rules : Nat → Int32} {C_places : Nat → Int32} {C_beyond : Nat → Int32} {F_queued : Int32} {F_settled : Int32} {F_settledRise : Int32} {F_amount : Int64} {F_lowest : Int64} {F_highest : Int64} {F_queue : Nat → Int32} (C : gC X (gT cA) cX1_leastSets 9 RX1 wsX1_leastSets rmX1_leastSets) (E : gEi X (some .int) (gT cA) 0 0 post (w1X1_leastSets ad cA C_size C_prices C_rules C_places C_beyond F_queued F_settled F_settledRise F_amount F_lowest F_highest)) (h : (((1 : Int32) <<< (x1 &&& 31)) ≤ x6 → post x5 F_queue) ∧ (¬ ((1 : Int32) <<< (x1 &&& 31)) ≤ x6 → vp_in (fnJ6_bitCount_0f7a4 ((x6 &&& (-x6)) - (1 : Int32))) 36 ∧ ∀ x7_7 : Int32, x7_7 = (F_queue (fnJ6_bitCount_0f7a4 ((x6 &&& (-x6)) - (1 : Int32))).toNatClampNeg) → prX0_ownCost x7_7 C_size C_prices C_rules C_beyond ∧ prX0_seamsGrowth x2 x7_7 C_size C_rules C_places C_beyond ∧ ∀ x8_12 : Int32, x8_12 = ((iI (ownA C_prices C_rules C_beyond x7_7.toNatClampNeg)) + (iI (grwA C_rules C_places C_beyond (sb x2) x7_7.toNatClampNeg))) → ∀ x4_15 : Int32, x4_15 = (x4 + (if (fnX0_holds x2 x7_7) = true then (-x8_12) else x8_12)) → ∀ x2_16 : Int64, x2_16 = (x2 ^^^ ((1 : Int64) <<< (x7_7.toInt64 &&& 63))) → atX1_leastSets_19 X ad cA x1 x2_16 x4_15 (if x4_15 = 0 then (x5 + 1) else x5) (x6 + 1) C_size C_prices C_rules C_places C_beyond F_queued F_settled F_settledRise F_amount F_lowest F_highest F_queue)) : atX1_leastSets_19 X ad cA x1 x2 x4 x5 x6 C_size C_prices C_rules C_places C_beyond F_queued F_settled F_settledRise F_amount F_lowest F_highest F_queue := by
  refine g_iload C dX1_leastSets_19 5 rfl ?_
  refine g_iconst C dX1_leastSets_21 ik_1 ?_
  refine g_iload_n C dX1_leastSets_22 rfl 1 rfl ?_
  refine g_ishl C dX1_leastSets_23 ?_
  refine g_icmp_ge (tgt := 110) C dX1_leastSets_24 (by decide) (fun c_4 => ?_) (fun c_4 => ?_)
  · replace h := h.1 c_4
    refine g_iload C dX1_leastSets_110 4 rfl ?_
    exact g_iret C E F_queue h rfl dX1_leastSets_112
  · replace h := h.2 c_4
    refine g_aload_n C dX1_leastSets_27 rfl 0 rfl ?_
    refine g_get C gfX1_leastSets_34 5 rfl rfl dX1_leastSets_28 ?_
    refine g_iload C dX1_leastSets_31 5 rfl ?_
    refine g_iload C dX1_leastSets_33 5 rfl ?_
    refine g_ineg C dX1_leastSets_35 ?_
    refine g_iand C dX1_leastSets_36 ?_
    refine g_iconst C dX1_leastSets_37 ik_1 ?_
    refine g_isub C dX1_leastSets_38 ?_
    refine g_callSi (b := 0) (wr := [((ad 1), .inr (0, [.ref (ad 2), .ref (ad 3), .ref (ad 4), .ref (ad 5), .ref (ad 6), .ref (ad 7), .int C_size])), ((ad 4), .inl (cA 0, 36, .inl C_prices)), ((ad 5), .inl (cA 0, 7, .inl C_rules)), ((ad 6), .inl (cA 0, 108, .inl C_places)), ((ad 7), .inl (cA 0, 216, .inl C_beyond)), ((ad 8), .inr (1, [.ref (ad 1), .ref (ad 9), .ref (ad 10), .ref (ad 11), .ref (ad 12), .ref (ad 13), .ref (ad 14), .int F_queued, .int F_settled, .int F_settledRise, .long F_amount, .long F_lowest, .long F_highest])), ((ad 14), .inl (cA 0, 36, .inl F_queue))]) C (c_J6_bitCount_0f7a4 ad cA ((x6 &&& (-x6)) - (1 : Int32))) gX1_leastSets_J6_bitCount_0f7a4 rfl hde_J6_bitCount_0f7a4 ⟨rfl, rfl⟩ (by decide) (by decide) [] [0, 1, 2, 3, 4, 5, 6] [0, 1, 2, 3, 4, 5, 6] rfl rfl rfl rfl (by decide) rfl (ws2 := fun u => [((ad 1), .inr (0, [.ref (ad 2), .ref (ad 3), .ref (ad 4), .ref (ad 5), .ref (ad 6), .ref (ad 7), .int C_size])), ((ad 4), .inl (cA 0, 36, .inl C_prices)), ((ad 5), .inl (cA 0, 7, .inl C_rules)), ((ad 6), .inl (cA 0, 108, .inl C_places)), ((ad 7), .inl (cA 0, 216, .inl C_beyond)), ((ad 8), .inr (1, [.ref (ad 1), .ref (ad 9), .ref (ad 10), .ref (ad 11), .ref (ad 12), .ref (ad 13), .ref (ad 14), .int F_queued, .int F_settled, .int F_settledRise, .long F_amount, .long F_lowest, .long F_highest])), ((ad 14), .inl (cA 0, 36, .inl F_queue))]) (fun _ => rfl) (rest := [.ref (ad 14)]) rfl (Nat.le_of_ble_eq_true rfl) dX1_leastSets_39 (fun r_5 u_5 hp_5 => ?_)
    subst hp_5
    change gW X 0 0 [((ad 1), .inr (0, [.ref (ad 2), .ref (ad 3), .ref (ad 4), .ref (ad 5), .ref (ad 6), .ref (ad 7), .int C_size])), ((ad 4), .inl (cA 0, 36, .inl C_prices)), ((ad 5), .inl (cA 0, 7, .inl C_rules)), ((ad 6), .inl (cA 0, 108, .inl C_places)), ((ad 7), .inl (cA 0, 216, .inl C_beyond)), ((ad 8), .inr (1, [.ref (ad 1), .ref (ad 9), .ref (ad 10), .ref (ad 11), .ref (ad 12), .ref (ad 13), .ref (ad 14), .int F_queued, .int F_settled, .int F_settledRise, .long F_amount, .long F_lowest, .long F_highest])), ((ad 14), .inl (cA 0, 36, .inl F_queue))] 9 [(0, .ref (ad 8)), (1, .int x1), (2, .long x2), (4, .int x4), (5, .int x5), (6, .int x6)] [.int (fnJ6_bitCount_0f7a4 ((x6 &&& (-x6)) - (1 : Int32))), .ref (ad 14)] 42
    obtain ⟨hi_6, h⟩ := h
    refine g_iald C 6 0 rfl rfl hi_6 dX1_leastSets_42 ?_
    refine g_topi (fun x7_7 ex7_7 => ?_)
    replace h := h x7_7 ex7_7
    refine g_istore (lv2 := [(0, .ref (ad 8)), (1, .int x1), (2, .long x2), (4, .int x4), (5, .int x5), (6, .int x6), (7, .int x7_7)]) C dX1_leastSets_43 (by decide) [1, 2, 3, 4, 5, 6, 0] rfl ?_
    refine g_aload_n C dX1_leastSets_45 rfl 0 rfl ?_
    refine g_get C gfX1_leastSets_12 5 rfl rfl dX1_leastSets_46 ?_
    refine g_iload C dX1_leastSets_49 6 rfl ?_
    obtain ⟨hi_8, h⟩ := h
    refine g_callVi (wr := [((ad 6), .inl (cA 0, 108, .inl C_places)), ((ad 8), .inr (1, [.ref (ad 1), .ref (ad 9), .ref (ad 10), .ref (ad 11), .ref (ad 12), .ref (ad 13), .ref (ad 14), .int F_queued, .int F_settled, .int F_settledRise, .long F_amount, .long F_lowest, .long F_highest])), ((ad 14), .inl (cA 0, 36, .inl F_queue))]) C (c_X0_ownCost ad cA x7_7 C_size C_prices C_rules C_beyond hi_8) gX1_leastSets_X0_ownCost rfl hde_X0_ownCost ⟨rfl, rfl⟩ (by decide) (by decide) [0, 1, 2, 4] [3, 5, 6] [3, 4, 5, 0, 6, 1, 2] rfl rfl rfl rfl (by decide) rfl (ws2 := fun u => [((ad 1), .inr (0, [.ref (ad 2), .ref (ad 3), .ref (ad 4), .ref (ad 5), .ref (ad 6), .ref (ad 7), .int C_size])), ((ad 4), .inl (cA 0, 36, .inl C_prices)), ((ad 5), .inl (cA 0, 7, .inl C_rules)), ((ad 6), .inl (cA 0, 108, .inl C_places)), ((ad 7), .inl (cA 0, 216, .inl C_beyond)), ((ad 8), .inr (1, [.ref (ad 1), .ref (ad 9), .ref (ad 10), .ref (ad 11), .ref (ad 12), .ref (ad 13), .ref (ad 14), .int F_queued, .int F_settled, .int F_settledRise, .long F_amount, .long F_lowest, .long F_highest])), ((ad 14), .inl (cA 0, 36, .inl F_queue))]) (fun _ => rfl) 0 0 rfl rfl rfl (rest := []) rfl (Nat.le_of_ble_eq_true rfl) dX1_leastSets_51 (fun r_9 u_9 hp_9 => ?_)
    subst hp_9
    change gW X 0 0 [((ad 1), .inr (0, [.ref (ad 2), .ref (ad 3), .ref (ad 4), .ref (ad 5), .ref (ad 6), .ref (ad 7), .int C_size])), ((ad 4), .inl (cA 0, 36, .inl C_prices)), ((ad 5), .inl (cA 0, 7, .inl C_rules)), ((ad 6), .inl (cA 0, 108, .inl C_places)), ((ad 7), .inl (cA 0, 216, .inl C_beyond)), ((ad 8), .inr (1, [.ref (ad 1), .ref (ad 9), .ref (ad 10), .ref (ad 11), .ref (ad 12), .ref (ad 13), .ref (ad 14), .int F_queued, .int F_settled, .int F_settledRise, .long F_amount, .long F_lowest, .long F_highest])), ((ad 14), .inl (cA 0, 36, .inl F_queue))] 9 [(0, .ref (ad 8)), (1, .int x1), (2, .long x2), (4, .int x4), (5, .int x5), (6, .int x6), (7, .int x7_7)] [.int (iI (ownA C_prices C_rules C_beyond x7_7.toNatClampNeg))] 54
    refine g_aload_n C dX1_leastSets_54 rfl 0 rfl ?_
    refine g_get C gfX1_leastSets_12 5 rfl rfl dX1_leastSets_55 ?_
    refine g_lload_n C dX1_leastSets_58 rfl 2 rfl ?_
    refine g_iload C dX1_leastSets_59 6 rfl ?_
    obtain ⟨hi_10, h⟩ := h
    refine g_callVi (wr := [((ad 4), .inl (cA 0, 36, .inl C_prices)), ((ad 8), .inr (1, [.ref (ad 1), .ref (ad 9), .ref (ad 10), .ref (ad 11), .ref (ad 12), .ref (ad 13), .ref (ad 14), .int F_queued, .int F_settled, .int F_settledRise, .long F_amount, .long F_lowest, .long F_highest])), ((ad 14), .inl (cA 0, 36, .inl F_queue))]) C (c_X0_seamsGrowth ad cA x2 x7_7 C_size C_rules C_places C_beyond hi_10) gX1_leastSets_X0_seamsGrowth rfl hde_X0_seamsGrowth ⟨rfl, rfl⟩ (by decide) (by decide) [0, 2, 3, 4] [1, 5, 6] [3, 0, 4, 5, 6, 1, 2] rfl rfl rfl rfl (by decide) rfl (ws2 := fun u => [((ad 1), .inr (0, [.ref (ad 2), .ref (ad 3), .ref (ad 4), .ref (ad 5), .ref (ad 6), .ref (ad 7), .int C_size])), ((ad 4), .inl (cA 0, 36, .inl C_prices)), ((ad 5), .inl (cA 0, 7, .inl C_rules)), ((ad 6), .inl (cA 0, 108, .inl C_places)), ((ad 7), .inl (cA 0, 216, .inl C_beyond)), ((ad 8), .inr (1, [.ref (ad 1), .ref (ad 9), .ref (ad 10), .ref (ad 11), .ref (ad 12), .ref (ad 13), .ref (ad 14), .int F_queued, .int F_settled, .int F_settledRise, .long F_amount, .long F_lowest, .long F_highest])), ((ad 14), .inl (cA 0, 36, .inl F_queue))]) (fun _ => rfl) 0 0 rfl rfl rfl (rest := [.int (iI (ownA C_prices C_rules C_beyond x7_7.toNatClampNeg))]) rfl (Nat.le_of_ble_eq_true rfl) dX1_leastSets_61 (fun r_11 u_11 hp_11 => ?_)
    subst hp_11
    change gW X 0 0 [((ad 1), .inr (0, [.ref (ad 2), .ref (ad 3), .ref (ad 4), .ref (ad 5), .ref (ad 6), .ref (ad 7), .int C_size])), ((ad 4), .inl (cA 0, 36, .inl C_prices)), ((ad 5), .inl (cA 0, 7, .inl C_rules)), ((ad 6), .inl (cA 0, 108, .inl C_places)), ((ad 7), .inl (cA 0, 216, .inl C_beyond)), ((ad 8), .inr (1, [.ref (ad 1), .ref (ad 9), .ref (ad 10), .ref (ad 11), .ref (ad 12), .ref (ad 13), .ref (ad 14), .int F_queued, .int F_settled, .int F_settledRise, .long F_amount, .long F_lowest, .long F_highest])), ((ad 14), .inl (cA 0, 36, .inl F_queue))] 9 [(0, .ref (ad 8)), (1, .int x1), (2, .long x2), (4, .int x4), (5, .int x5), (6, .int x6), (7, .int x7_7)] [.int (iI (grwA C_rules C_places C_beyond (sb x2) x7_7.toNatClampNeg)), .int (iI (ownA C_prices C_rules C_beyond x7_7.toNatClampNeg))] 64
    refine g_iadd C dX1_leastSets_64 ?_
    refine g_topi (fun x8_12 ex8_12 => ?_)
    replace h := h x8_12 ex8_12
    refine g_istore (lv2 := [(0, .ref (ad 8)), (1, .int x1), (2, .long x2), (4, .int x4), (5, .int x5), (6, .int x6), (7, .int x7_7), (8, .int x8_12)]) C dX1_leastSets_65 (by decide) [1, 2, 3, 4, 5, 6, 7, 0] rfl ?_
    refine g_iload C dX1_leastSets_67 3 rfl ?_
    refine g_lload_n C dX1_leastSets_69 rfl 2 rfl ?_
    refine g_iload C dX1_leastSets_70 6 rfl ?_
    refine g_callSi (b := 0) (wr := [((ad 1), .inr (0, [.ref (ad 2), .ref (ad 3), .ref (ad 4), .ref (ad 5), .ref (ad 6), .ref (ad 7), .int C_size])), ((ad 4), .inl (cA 0, 36, .inl C_prices)), ((ad 5), .inl (cA 0, 7, .inl C_rules)), ((ad 6), .inl (cA 0, 108, .inl C_places)), ((ad 7), .inl (cA 0, 216, .inl C_beyond)), ((ad 8), .inr (1, [.ref (ad 1), .ref (ad 9), .ref (ad 10), .ref (ad 11), .ref (ad 12), .ref (ad 13), .ref (ad 14), .int F_queued, .int F_settled, .int F_settledRise, .long F_amount, .long F_lowest, .long F_highest])), ((ad 14), .inl (cA 0, 36, .inl F_queue))]) C (c_X0_holds ad cA x2 x7_7) gX1_leastSets_X0_holds rfl hde_X0_holds ⟨rfl, rfl⟩ (by decide) (by decide) [] [0, 1, 2, 3, 4, 5, 6] [0, 1, 2, 3, 4, 5, 6] rfl rfl rfl rfl (by decide) rfl (ws2 := fun u => [((ad 1), .inr (0, [.ref (ad 2), .ref (ad 3), .ref (ad 4), .ref (ad 5), .ref (ad 6), .ref (ad 7), .int C_size])), ((ad 4), .inl (cA 0, 36, .inl C_prices)), ((ad 5), .inl (cA 0, 7, .inl C_rules)), ((ad 6), .inl (cA 0, 108, .inl C_places)), ((ad 7), .inl (cA 0, 216, .inl C_beyond)), ((ad 8), .inr (1, [.ref (ad 1), .ref (ad 9), .ref (ad 10), .ref (ad 11), .ref (ad 12), .ref (ad 13), .ref (ad 14), .int F_queued, .int F_settled, .int F_settledRise, .long F_amount, .long F_lowest, .long F_highest])), ((ad 14), .inl (cA 0, 36, .inl F_queue))]) (fun _ => rfl) (rest := [.int x4]) rfl (Nat.le_of_ble_eq_true rfl) dX1_leastSets_72 (fun r_13 u_13 hp_13 => ?_)
    subst hp_13
    change gW X 0 0 [((ad 1), .inr (0, [.ref (ad 2), .ref (ad 3), .ref (ad 4), .ref (ad 5), .ref (ad 6), .ref (ad 7), .int C_size])), ((ad 4), .inl (cA 0, 36, .inl C_prices)), ((ad 5), .inl (cA 0, 7, .inl C_rules)), ((ad 6), .inl (cA 0, 108, .inl C_places)), ((ad 7), .inl (cA 0, 216, .inl C_beyond)), ((ad 8), .inr (1, [.ref (ad 1), .ref (ad 9), .ref (ad 10), .ref (ad 11), .ref (ad 12), .ref (ad 13), .ref (ad 14), .int F_queued, .int F_settled, .int F_settledRise, .long F_amount, .long F_lowest, .long F_highest])), ((ad 14), .inl (cA 0, 36, .inl F_queue))] 9 [(0, .ref (ad 8)), (1, .int x1), (2, .long x2), (4, .int x4), (5, .int x5), (6, .int x6), (7, .int x7_7), (8, .int x8_12)] [.int (bI (fnX0_holds x2 x7_7)), .int x4] 75
    have key : gW X 0 0 [((ad 1), .inr (0, [.ref (ad 2), .ref (ad 3), .ref (ad 4), .ref (ad 5), .ref (ad 6), .ref (ad 7), .int C_size])), ((ad 4), .inl (cA 0, 36, .inl C_prices)), ((ad 5), .inl (cA 0, 7, .inl C_rules)), ((ad 6), .inl (cA 0, 108, .inl C_places)), ((ad 7), .inl (cA 0, 216, .inl C_beyond)), ((ad 8), .inr (1, [.ref (ad 1), .ref (ad 9), .ref (ad 10), .ref (ad 11), .ref (ad 12), .ref (ad 13), .ref (ad 14), .int F_queued, .int F_settled, .int F_settledRise, .long F_amount, .long F_lowest, .long F_highest])), ((ad 14), .inl (cA 0, 36, .inl F_queue))] 9 [(0, .ref (ad 8)), (1, .int x1), (2, .long x2), (4, .int x4), (5, .int x5), (6, .int x6), (7, .int x7_7), (8, .int x8_12)] [.int (if (fnX0_holds x2 x7_7) = true then (-x8_12) else x8_12), .int x4] 86 := by
      refine g_iadd C dX1_leastSets_86 ?_
      refine g_topi (fun x4_15 ex4_15 => ?_)
      replace h := h x4_15 ex4_15
      refine g_istore (lv2 := [(0, .ref (ad 8)), (1, .int x1), (2, .long x2), (4, .int x4_15), (5, .int x5), (6, .int x6), (7, .int x7_7), (8, .int x8_12)]) C dX1_leastSets_87 (by decide) [1, 2, 3, 0, 4, 5, 6, 7] rfl ?_
      refine g_lload_n C dX1_leastSets_89 rfl 2 rfl ?_
      refine g_lconst C dX1_leastSets_90 lk_1 ?_
      refine g_iload C dX1_leastSets_91 6 rfl ?_
      refine g_lshl C dX1_leastSets_93 ?_
      refine g_lxor C dX1_leastSets_94 ?_
      refine g_topl (fun x2_16 ex2_16 => ?_)
      replace h := h x2_16 ex2_16
      refine g_lstore_n (lv2 := [(0, .ref (ad 8)), (1, .int x1), (2, .long x2_16), (4, .int x4_15), (5, .int x5), (6, .int x6), (7, .int x7_7), (8, .int x8_12)]) C dX1_leastSets_95 rfl (by decide) [1, 2, 0, 3, 4, 5, 6, 7] rfl ?_
      refine g_iload C dX1_leastSets_96 3 rfl ?_
      have key : gW X 0 0 [((ad 1), .inr (0, [.ref (ad 2), .ref (ad 3), .ref (ad 4), .ref (ad 5), .ref (ad 6), .ref (ad 7), .int C_size])), ((ad 4), .inl (cA 0, 36, .inl C_prices)), ((ad 5), .inl (cA 0, 7, .inl C_rules)), ((ad 6), .inl (cA 0, 108, .inl C_places)), ((ad 7), .inl (cA 0, 216, .inl C_beyond)), ((ad 8), .inr (1, [.ref (ad 1), .ref (ad 9), .ref (ad 10), .ref (ad 11), .ref (ad 12), .ref (ad 13), .ref (ad 14), .int F_queued, .int F_settled, .int F_settledRise, .long F_amount, .long F_lowest, .long F_highest])), ((ad 14), .inl (cA 0, 36, .inl F_queue))] 9 [(0, .ref (ad 8)), (1, .int x1), (2, .long x2_16), (4, .int x4_15), (5, .int (if x4_15 = 0 then (x5 + 1) else x5)), (6, .int x6), (7, .int x7_7), (8, .int x8_12)] [] 104 := by
        refine g_iinc (v := (x6 + 1)) (lv2 := [(0, .ref (ad 8)), (1, .int x1), (2, .long x2_16), (4, .int x4_15), (5, .int (if x4_15 = 0 then (x5 + 1) else x5)), (6, .int (x6 + 1)), (7, .int x7_7), (8, .int x8_12)]) C dX1_leastSets_104 5 rfl (by first | rfl | decide) (by decide) [1, 2, 3, 4, 5, 0, 6, 7] rfl ?_
        refine g_goto (tgt := 19) C dX1_leastSets_107 (by decide) ?_
        exact g_lv [0, 1, 2, 3, 4, 5] rfl h
      refine g_if_ne (tgt := 104) C dX1_leastSets_98 (by decide) (fun c_17 => ?_) (fun c_17 => ?_)
      · exact g_leaf (by simp only [if_neg c_17] at key; first | exact key | (simp only [if_neg c_17]; exact key) | exact absurd rfl c_17)
      · refine g_iinc (v := (x5 + 1)) (lv2 := [(0, .ref (ad 8)), (1, .int x1), (2, .long x2_16), (4, .int x4_15), (5, .int (x5 + 1)), (6, .int x6), (7, .int x7_7), (8, .int x8_12)]) C dX1_leastSets_101 4 rfl (by first | rfl | decide) (by decide) [1, 2, 3, 4, 0, 5, 6, 7] rfl ?_
        exact g_leaf (by simp only [if_pos c_17] at key; first | exact key | (simp only [if_pos c_17]; exact key) | exact absurd rfl c_17)
    refine g_ifeq_b (tgt := 84) C dX1_leastSets_75 (by decide) (fun c_14 => ?_) (fun c_14 => ?_)
    · refine g_iload C dX1_leastSets_84 7 rfl ?_
      exact g_leaf (by simp only [if_neg (show ¬ (fnX0_holds x2 x7_7) = true from by rw [c_14]; decide)] at key; first | exact key | (simp only [if_neg (show ¬ (fnX0_holds x2 x7_7) = true from by rw [c_14]; decide)]; exact key))
    · refine g_iload C dX1_leastSets_78 7 rfl ?_
      refine g_ineg C dX1_leastSets_80 ?_
      refine g_goto (tgt := 86) C dX1_leastSets_81 (by decide) ?_
      exact g_leaf (by simp only [if_pos c_14] at key; first | exact key | (simp only [if_pos c_14]; exact key) | exact absurd rfl c_14)
def prX1_leastSets (n : Nat) (hd : Nat → Int32) (a : Int) (C_size : Int32) (C_prices : Nat → Int32) (C_rules : Nat → Int32) (C_places : Nat → Int32) (C_beyond : Nat → Int32) (F_queued : Int32) (F_settled : Int32) (F_settledRise : Int32) (F_amount : Int64) (F_lowest : Int64) (F_highest : Int64) (F_queue : Nat → Int32) : Prop := grOK n C_beyond C_places ∧ ruOK C_rules ∧ prOK n C_prices ∧ C_size = nI n ∧ cntA n (opnC F_lowest F_highest) ≤ 12 ∧ -100000 ≤ a ∧ a ≤ 100000 ∧ (rgtP n hd (sb F_lowest) ∧ Ef n C_beyond C_places C_rules C_prices 0 (sb F_lowest) = a ∧ ∀ S, rgtP n hd S → Ef n C_beyond C_places C_rules C_prices 0 S = a → ∀ c, c < n → sb F_lowest c = true → S c = true) ∧ (rgtP n hd (sb F_highest) ∧ ∀ S, rgtP n hd S → Ef n C_beyond C_places C_rules C_prices 0 S = a → ∀ c, c < n → S c = true → sb F_highest c = true) ∧ ∀ i, i < 64 → n ≤ i → sb F_lowest i = false ∧ sb F_highest i = false
def po_X1_leastSets (ad : Nat → Nat) (cA : Nat → ClassId) (n : Nat) (hd : Nat → Int32) (a : Int) (C_size : Int32) (C_prices : Nat → Int32) (C_rules : Nat → Int32) (C_places : Nat → Int32) (C_beyond : Nat → Int32) (F_queued : Int32) (F_settled : Int32) (F_settledRise : Int32) (F_amount : Int64) (F_lowest : Int64) (F_highest : Int64) (F_queue : Nat → Int32) (r : Int32) (u : (Nat → Int32)) : Prop := ∃ L : List Int64, L.Nodup ∧ (∀ s, s ∈ L ↔ isSol n C_beyond C_places C_rules C_prices hd a s) ∧ L.length ≤ 4096 ∧ r = nI L.length
set_option maxHeartbeats 4000000 in
set_option maxRecDepth 100000 in
theorem c_X1_leastSets (ad : Nat → Nat) (cA : Nat → ClassId) (n : Nat) (hd : Nat → Int32) (a : Int) (C_size : Int32) (C_prices : Nat → Int32) (C_rules : Nat → Int32) (C_places : Nat → Int32) (C_beyond : Nat → Int32) (F_queued : Int32) (F_settled : Int32) (F_settledRise : Int32) (F_amount : Int64) (F_lowest : Int64) (F_highest : Int64) (F_queue : Nat → Int32) (hq : prX1_leastSets n hd a C_size C_prices C_rules C_places C_beyond F_queued F_settled F_settledRise F_amount F_lowest F_highest F_queue) : ∀ (l : Launch) (D : va_G), gMi (S := (Nat → Int32)) l yX1_leastSets wsX1_leastSets rmX1_leastSets D (gT cA) 0 0 [.ref (ad 8)] (wcX1_leastSets ad cA C_size C_prices C_rules C_places C_beyond F_queued F_settled F_settledRise F_amount F_lowest F_highest F_queue) (po_X1_leastSets ad cA n hd a C_size C_prices C_rules C_places C_beyond F_queued F_settled F_settledRise F_amount F_lowest F_highest F_queue) (w1X1_leastSets ad cA C_size C_prices C_rules C_places C_beyond F_queued F_settled F_settledRise F_amount F_lowest F_highest) := by
  intro l D
  unfold prX1_leastSets at hq
  refine g_enteri (cc := cX1_leastSets) (nL := 9) (ret := (some .int)) (by decide) rfl (Nat.le_of_ble_eq_true rfl) rfl (fun X C E => ?_)
  obtain ⟨hg, hr, hp, rfl, h12, ha1, ha2, ⟨lo1, lo2, lo3⟩, ⟨hi1, hi2⟩, hout⟩ := hq
  have hn := hg.2.1
  have lohi : ∀ c, c < n → sb F_lowest c = true → sb F_highest c = true := fun c hc h => hi2 _ lo1 lo2 c hc h
  refine sgX1_leastSets_0 C E ⟨n, ⟨hn, rfl, h12⟩, fun r q hq2 => ?_⟩
  obtain ⟨Q, rfl, hQ1, hQ2, hQ3⟩ := hq2
  generalize hm : cntA n (opnC F_lowest F_highest) = m at *
  have hQ64 : ∀ j, j < m → Q j < 64 := fun j hj => by have := (hQ1 j hj).2.1; omega
  have hpw : 2 ^ m ≤ 4096 := Nat.pow_le_pow_right (n := 2) (by decide) h12
  have hp1 : 1 ≤ 2 ^ m := Nat.one_le_two_pow
  -- a set between the two is right
  have between : ∀ (w : Nat) (s : Int64), isV F_lowest Q m w s → rgtP n hd (sb s) ∧ ∀ i, i < 64 → n ≤ i → sb s i = false := by
    intro w s hv
    refine ⟨fun c hc => ?_, fun i hi hni => ?_⟩
    · by_cases g : ∃ j, j < m ∧ Q j = c
      · obtain ⟨j, g1, g2⟩ := g
        have h3 := (hQ1 j g1).2.2
        rw [g2] at h3
        unfold opnC at h3
        simp only [Bool.and_eq_true, Bool.not_eq_true'] at h3
        have b1 := lo1 c hc
        have b2 := hi1 c hc
        rw [h3.2, if_neg (by decide)] at b1
        rw [h3.1, if_pos rfl] at b2
        split
        · exact b2
        · exact b1
      · rw [hv.2 c (by omega) (fun j hj e => g ⟨j, hj, e⟩)]; exact lo1 c hc
    · rw [hv.2 i hi (fun j hj e => by have := (hQ1 j hj).2.1; omega)]; exact (hout i hi hni).1
  have solV : ∀ s, isSol n C_beyond C_places C_rules C_prices hd a s ↔ ∃ i, i < 2 ^ m ∧ isV F_lowest Q m (gry i) s ∧ Ef n C_beyond C_places C_rules C_prices 0 (sb s) = a := by
    intro s
    constructor
    · intro ⟨s1, s2, s3⟩
      -- the number of the open cells that it has
      have hw : ∃ w, w < 2 ^ m ∧ ∀ j, j < m → w.testBit j = sb s (Q j) := by
        have hx : ∀ k, k ≤ m → ∃ w, w < 2 ^ k ∧ ∀ j, j < k → w.testBit j = sb s (Q j) := by
          intro k
          induction k with
          | zero => intro _; exact ⟨0, by decide, fun j hj => absurd hj (Nat.not_lt_zero j)⟩
          | succ k ih =>
            intro hk
            obtain ⟨w, w1, w2⟩ := ih (by omega)
            cases hs : sb s (Q k)
            · refine ⟨w, by rw [Nat.pow_succ]; omega, fun j hj => ?_⟩
              rcases Nat.lt_or_ge j k with g | g
              · exact w2 j g
              · have e : j = k := by omega
                rw [e, hs]; exact Nat.testBit_lt_two_pow w1
            · refine ⟨2 ^ k + w, by rw [Nat.pow_succ]; omega, fun j hj => ?_⟩
              rcases Nat.lt_or_ge j k with g | g
              · rw [Nat.testBit_two_pow_add_gt g]; exact w2 j g
              · have e : j = k := by omega
                rw [e, hs, Nat.testBit_two_pow_add_eq, Nat.testBit_lt_two_pow w1]; rfl
        exact hx m (Nat.le_refl m)
      obtain ⟨w, w1, w2⟩ := hw
      refine ⟨igr w, (gry_m h12 w1).2.1, ?_, s2⟩
      rw [(igr_gry (show w < 4096 by omega)).2]
      refine ⟨fun j hj => (w2 j hj).symm, fun i hi hni => ?_⟩
      rcases Nat.lt_or_ge i n with g | g
      · have nop : ¬ opnC F_lowest F_highest i = true := fun q => by
          obtain ⟨j, j1, j2⟩ := hQ3 i g q
          exact hni j j1 j2
        unfold opnC at nop
        cases h1 : sb F_lowest i
        · cases h2 : sb s i
          · rfl
          · have := hi2 (sb s) s1 s2 i g h2
            rw [this, h1] at nop; exact absurd rfl nop
        · exact lo3 (sb s) s1 s2 i g h1
      · rw [s3 i hi g, (hout i hi g).1]
    · intro ⟨i, i1, i2, i3⟩
      obtain ⟨b1, b2⟩ := between _ _ i2
      exact ⟨b1, i3, b2⟩
  have loop : ∀ (k t : Nat) (s : Int64) (L : List Int64), t + k = 2 ^ m → 1 ≤ t → isV F_lowest Q m (gry (t - 1)) s → L.Nodup → L.length ≤ t → (∀ x, x ∈ L ↔ ∃ i, i < t ∧ isV F_lowest Q m (gry i) x ∧ Ef n C_beyond C_places C_rules C_prices 0 (sb x) = a) → atX1_leastSets_19 X ad cA (nI m) s (iI (Ef n C_beyond C_places C_rules C_prices 0 (sb s) - a)) (nI L.length) (nI t) (nI n) C_prices C_rules C_places C_beyond F_queued F_settled F_settledRise F_amount F_lowest F_highest q := by
    intro k
    induction k with
    | zero =>
      intro t s L ht h1 hv hnd hll hL
      have et : t = 2 ^ m := by omega
      refine sgX1_leastSets_19 C E ⟨fun _ => ⟨L, hnd, fun x => ?_, by omega, rfl⟩, fun c => absurd (by rw [sh1_b m (by omega), et]; exact i32_le_refl _) c⟩
      rw [hL x, solV x, et]
    | succ k ih =>
      intro t s L ht h1 hv hnd hll hL
      have htm : t < 2 ^ m := by omega
      obtain ⟨gm1, gm2, gm3⟩ := gry_m h12 htm
      obtain ⟨tz1, tz2⟩ := gm3 (by omega)
      refine sgX1_leastSets_19 C E ⟨fun c => absurd c (by rw [sh1_b m (by omega)]; exact nI_ge htm (by omega)), fun _ => ?_⟩
      rw [bc_eq (by omega) (by omega), nI_clamp (n := tzf 12 t) (by omega), nI_1 t]
      refine ⟨vp_in_nI (by omega) (by decide), fun d ed => ?_⟩
      obtain ⟨q1, q2, q3⟩ := hQ1 _ tz1
      rw [q1] at ed
      subst ed
      rw [nI_clamp (n := Q (tzf 12 t)) (by omega), holds_eq s (by omega)]
      generalize hd0 : Q (tzf 12 t) = d at *
      have ob := ownA_bd hp hr C_beyond q2
      have gb := grwA_bd hr C_beyond C_places (sb s) d
      refine ⟨⟨d, by omega, rfl⟩, ⟨n, d, hg, hr, q2, rfl⟩, fun gv egv v4 ev4 s2 es2 => ?_⟩
      have hv2 : isV F_lowest Q m (gry t) s2 := by
        rw [tz2, es2, ← hd0]; exact isV_step hv hQ2 hQ64 tz1
      have sb2 : ∀ c, c < n → c ≠ d → sb s2 c = sb s c := fun c hc hne => by
        rw [es2, zb_xor, zb_one (by omega) (by omega), decide_eq_false hne, Bool.xor_false]
      have sbd : sb s2 d = !sb s d := by
        rw [es2, zb_xor, zb_one (by omega) (by omega), decide_eq_true rfl, Bool.xor_true]
      have eb := Ef_bd (be := C_beyond) (pl := C_places) hn hr hp (rise := 0) (by omega) (by omega) (sb s)
      have eb2 := Ef_bd (be := C_beyond) (pl := C_places) hn hr hp (rise := 0) (by omega) (by omega) (sb s2)
      have hv4 : v4 = iI (Ef n C_beyond C_places C_rules C_prices 0 (sb s2) - a) := by
        rw [ev4, egv, iI_add]
        cases hs : sb s d
        · rw [hs] at sbd
          rw [if_neg (by decide), iI_add, Ef_add hg 0 q2 hs sbd sb2]
          congr 1; omega
        · rw [hs] at sbd
          rw [if_pos rfl, iI_neg, iI_add, Ef_add hg 0 q2 sbd hs (fun c hc hne => (sb2 c hc hne).symm), grwA_congr hg C_rules q2 (fun c hc hne => (sb2 c hc hne).symm)]
          congr 1; omega
      have z : (v4 = 0) ↔ Ef n C_beyond C_places C_rules C_prices 0 (sb s2) = a := by
        rw [hv4, ← Int32.toInt_inj, toInt_iI (by omega) (by omega), show (0 : Int32).toInt = 0 from rfl]; omega
      have notin : s2 ∉ L := fun hx => by
        obtain ⟨i, i1, i2, i3⟩ := (hL s2).mp hx
        have e : gry i = gry t := by
          apply Nat.eq_of_testBit_eq
          intro j
          rcases Nat.lt_or_ge j m with g | g
          · rw [← i2.1 j g, ← hv2.1 j g]
          · have b1 := (gry_m h12 (show i < 2 ^ m by omega)).1
            have pm : 2 ^ m ≤ 2 ^ j := Nat.pow_le_pow_right (by decide) g
            rw [Nat.testBit_lt_two_pow (by omega), Nat.testBit_lt_two_pow (by omega)]
        have e2 := congrArg igr e
        rw [(igr_gry (show i < 4096 by omega)).1, (igr_gry (show t < 4096 by omega)).1] at e2
        omega
      rw [hv4] at z ⊢
      by_cases hz : iI (Ef n C_beyond C_places C_rules C_prices 0 (sb s2) - a) = 0
      · rw [if_pos hz, show nI L.length + 1 = nI (s2 :: L).length from nI_1 _]
        refine ih (t + 1) s2 (s2 :: L) (by omega) (by omega) hv2 (List.nodup_cons.mpr ⟨notin, hnd⟩) (by simp only [List.length_cons]; omega) (fun x => ?_)
        rw [List.mem_cons, hL x]
        constructor
        · rintro (e | ⟨i, i1, i2, i3⟩)
          · rw [e]; exact ⟨t, by omega, hv2, z.mp hz⟩
          · exact ⟨i, by omega, i2, i3⟩
        · intro ⟨i, i1, i2, i3⟩
          rcases Nat.lt_or_ge i t with g | g
          · exact Or.inr ⟨i, g, i2, i3⟩
          · have e : i = t := by omega
            rw [e] at i2; exact Or.inl (isV_uniq i2 hv2)
      · rw [if_neg hz]
        refine ih (t + 1) s2 L (by omega) (by omega) hv2 hnd (by omega) (fun x => ?_)
        rw [hL x]
        constructor
        · intro ⟨i, i1, i2, i3⟩; exact ⟨i, by omega, i2, i3⟩
        · intro ⟨i, i1, i2, i3⟩
          rcases Nat.lt_or_ge i t with g | g
          · exact ⟨i, g, i2, i3⟩
          · have e : i = t := by omega
            rw [e] at i2
            rw [isV_uniq i2 hv2] at i3
            exact absurd (z.mpr i3) hz
  have hv0 : isV F_lowest Q m (gry 0) F_lowest := by
    refine ⟨fun j hj => ?_, fun i hi hni => rfl⟩
    have h3 := (hQ1 j hj).2.2
    unfold opnC at h3
    simp only [Bool.and_eq_true, Bool.not_eq_true'] at h3
    rw [h3.2]; show false = (0 : Nat).testBit j; rw [Nat.zero_testBit]
  have h0 := loop (2 ^ m - 1) 1 F_lowest [F_lowest] (by omega) (Nat.le_refl 1) hv0 (by simp) (by simp) (fun x => ?_)
  · rw [lo2, Int.sub_self] at h0
    exact h0
  · rw [List.mem_singleton]
    constructor
    · intro e; rw [e]; exact ⟨0, by omega, hv0, lo2⟩
    · intro ⟨i, i1, i2, i3⟩
      have e : i = 0 := by omega
      rw [e] at i2; exact isV_uniq i2 hv0

