theorem bk_32 : (Int8.ofInt (32)).toInt32 = (32 : Int32) := by decide
theorem bk_127 : (Int8.ofInt (127)).toInt32 = (127 : Int32) := by decide
theorem bk_m20 : (Int8.ofInt (-20)).toInt32 = (-20 : Int32) := by decide
theorem bk_20 : (Int8.ofInt (20)).toInt32 = (20 : Int32) := by decide
theorem bk_m60 : (Int8.ofInt (-60)).toInt32 = (-60 : Int32) := by decide
theorem bk_60 : (Int8.ofInt (60)).toInt32 = (60 : Int32) := by decide
theorem bk_m100 : (Int8.ofInt (-100)).toInt32 = (-100 : Int32) := by decide
theorem bk_100 : (Int8.ofInt (100)).toInt32 = (100 : Int32) := by decide
theorem bk_50 : (Int8.ofInt (50)).toInt32 = (50 : Int32) := by decide
theorem hde_J13_bitCount_95d88 : yJ13_bitCount_95d88.cls ≠ "java/lang/invoke/MethodHandle" ∧ yJ13_bitCount_95d88.cls ≠ "java/lang/invoke/VarHandle" ∧ (parseMethodDescriptor yJ13_bitCount_95d88.desc).map (fun d => d.parameters.length) = some 1 := by decide +kernel
theorem hde_X0_freeCells : yX0_freeCells.cls = RX0 ∧ yX0_freeCells.cls ≠ "java/lang/invoke/MethodHandle" ∧ yX0_freeCells.cls ≠ "java/lang/invoke/VarHandle" ∧ (parseMethodDescriptor yX0_freeCells.desc).map (fun d => d.parameters.length) = some 0 := by decide +kernel
theorem hde_X0_has : yX0_has.cls = RX0 ∧ yX0_has.cls ≠ "java/lang/invoke/MethodHandle" ∧ yX0_has.cls ≠ "java/lang/invoke/VarHandle" ∧ (parseMethodDescriptor yX0_has.desc).map (fun d => d.parameters.length) = some 1 := by decide +kernel
theorem hde_X0_isRight : yX0_isRight.cls = RX0 ∧ yX0_isRight.cls ≠ "java/lang/invoke/MethodHandle" ∧ yX0_isRight.cls ≠ "java/lang/invoke/VarHandle" ∧ (parseMethodDescriptor yX0_isRight.desc).map (fun d => d.parameters.length) = some 1 := by decide +kernel
theorem hde_X0_isSet : yX0_isSet.cls = RX0 ∧ yX0_isSet.cls ≠ "java/lang/invoke/MethodHandle" ∧ yX0_isSet.cls ≠ "java/lang/invoke/VarHandle" ∧ (parseMethodDescriptor yX0_isSet.desc).map (fun d => d.parameters.length) = some 1 := by decide +kernel
theorem hde_X0_lay : yX0_lay.cls = RX0 ∧ yX0_lay.cls ≠ "java/lang/invoke/MethodHandle" ∧ yX0_lay.cls ≠ "java/lang/invoke/VarHandle" ∧ (parseMethodDescriptor yX0_lay.desc).map (fun d => d.parameters.length) = some 3 := by decide +kernel
theorem hde_X0_pricesOf : yX0_pricesOf.cls = RX0 ∧ yX0_pricesOf.cls ≠ "java/lang/invoke/MethodHandle" ∧ yX0_pricesOf.cls ≠ "java/lang/invoke/VarHandle" ∧ (parseMethodDescriptor yX0_pricesOf.desc).map (fun d => d.parameters.length) = some 1 := by decide +kernel
theorem hde_X0_sideTowards : yX0_sideTowards.cls = RX0 ∧ yX0_sideTowards.cls ≠ "java/lang/invoke/MethodHandle" ∧ yX0_sideTowards.cls ≠ "java/lang/invoke/VarHandle" ∧ (parseMethodDescriptor yX0_sideTowards.desc).map (fun d => d.parameters.length) = some 2 := by decide +kernel
theorem hde_X0_skinOf : yX0_skinOf.cls = RX0 ∧ yX0_skinOf.cls ≠ "java/lang/invoke/MethodHandle" ∧ yX0_skinOf.cls ≠ "java/lang/invoke/VarHandle" ∧ (parseMethodDescriptor yX0_skinOf.desc).map (fun d => d.parameters.length) = some 1 := by decide +kernel
theorem hde_X1_forget : yX1_forget.cls = RX1 ∧ yX1_forget.cls ≠ "java/lang/invoke/MethodHandle" ∧ yX1_forget.cls ≠ "java/lang/invoke/VarHandle" ∧ (parseMethodDescriptor yX1_forget.desc).map (fun d => d.parameters.length) = some 0 := by decide +kernel
theorem hde_X1_leastSets : yX1_leastSets.cls = RX1 ∧ yX1_leastSets.cls ≠ "java/lang/invoke/MethodHandle" ∧ yX1_leastSets.cls ≠ "java/lang/invoke/VarHandle" ∧ (parseMethodDescriptor yX1_leastSets.desc).map (fun d => d.parameters.length) = some 0 := by decide +kernel
theorem hde_X1_settle : yX1_settle.cls = RX1 ∧ yX1_settle.cls ≠ "java/lang/invoke/MethodHandle" ∧ yX1_settle.cls ≠ "java/lang/invoke/VarHandle" ∧ (parseMethodDescriptor yX1_settle.desc).map (fun d => d.parameters.length) = some 1 := by decide +kernel
theorem hde_X2_isAtRest : yX2_isAtRest.cls = RX2 ∧ yX2_isAtRest.cls ≠ "java/lang/invoke/MethodHandle" ∧ yX2_isAtRest.cls ≠ "java/lang/invoke/VarHandle" ∧ (parseMethodDescriptor yX2_isAtRest.desc).map (fun d => d.parameters.length) = some 0 := by decide +kernel
theorem hde_X2_pins : yX2_pins.cls = RX2 ∧ yX2_pins.cls ≠ "java/lang/invoke/MethodHandle" ∧ yX2_pins.cls ≠ "java/lang/invoke/VarHandle" ∧ (parseMethodDescriptor yX2_pins.desc).map (fun d => d.parameters.length) = some 0 := by decide +kernel
theorem hde_X2_spread : yX2_spread.cls = RX2 ∧ yX2_spread.cls ≠ "java/lang/invoke/MethodHandle" ∧ yX2_spread.cls ≠ "java/lang/invoke/VarHandle" ∧ (parseMethodDescriptor yX2_spread.desc).map (fun d => d.parameters.length) = some 2 := by decide +kernel
theorem hde_X2_stepAtEach : yX2_stepAtEach.cls = RX2 ∧ yX2_stepAtEach.cls ≠ "java/lang/invoke/MethodHandle" ∧ yX2_stepAtEach.cls ≠ "java/lang/invoke/VarHandle" ∧ (parseMethodDescriptor yX2_stepAtEach.desc).map (fun d => d.parameters.length) = some 0 := by decide +kernel
theorem hde_X2_sumOfDifferences : yX2_sumOfDifferences.cls = RX2 ∧ yX2_sumOfDifferences.cls ≠ "java/lang/invoke/MethodHandle" ∧ yX2_sumOfDifferences.cls ≠ "java/lang/invoke/VarHandle" ∧ (parseMethodDescriptor yX2_sumOfDifferences.desc).map (fun d => d.parameters.length) = some 0 := by decide +kernel
theorem hde_X3_within : yX3_within.cls ≠ "java/lang/invoke/MethodHandle" ∧ yX3_within.cls ≠ "java/lang/invoke/VarHandle" ∧ (parseMethodDescriptor yX3_within.desc).map (fun d => d.parameters.length) = some 3 := by decide +kernel
abbrev w1J13_bitCount_95d88 (ad : Nat → Nat) (cA : Nat → ClassId) (u : Unit) : va_W := []
abbrev wcJ13_bitCount_95d88 (ad : Nat → Nat) (cA : Nat → ClassId) : va_W := []
def rmJ13_bitCount_95d88 : Room := { frames := 0, cells := 0, slots := 0, locals := 0 }
abbrev atJ13_bitCount_95d88_0 (X : gX) (ad : Nat → Nat) (cA : Nat → ClassId) (p1 : Int64) : Prop := gW X 0 0 [] 2 [(0, .long p1)] [] 0
theorem cnJ13_bitCount_95d88_314 : Cond.constantLong RJ13 314 (6148914691236517205) ∈ wsJ13_bitCount_95d88 := by decide +kernel
theorem cnJ13_bitCount_95d88_316 : Cond.constantLong RJ13 316 (3689348814741910323) ∈ wsJ13_bitCount_95d88 := by decide +kernel
theorem cnJ13_bitCount_95d88_318 : Cond.constantLong RJ13 318 (1085102592571150095) ∈ wsJ13_bitCount_95d88 := by decide +kernel
set_option maxHeartbeats 4000000 in
set_option maxRecDepth 100000 in
theorem sgJ13_bitCount_95d88_0 {X : gX} {ad : Nat → Nat} {cA : Nat → ClassId} {post : Int32 → (Unit) → Prop} {p1 : Int64} (C : gC X (gT cA) cJ13_bitCount_95d88 2 RJ13 wsJ13_bitCount_95d88 rmJ13_bitCount_95d88) (E : gEi X (some .int) (gT cA) 0 0 post (w1J13_bitCount_95d88 ad cA)) (h : post ((((((((((p1 - (((p1.toUInt64 >>> ((1 : Int32).toInt64.toUInt64 &&& Int64.toUInt64 63)).toInt64) &&& (6148914691236517205 : Int64))) &&& (3689348814741910323 : Int64)) + ((((p1 - (((p1.toUInt64 >>> ((1 : Int32).toInt64.toUInt64 &&& Int64.toUInt64 63)).toInt64) &&& (6148914691236517205 : Int64))).toUInt64 >>> ((2 : Int32).toInt64.toUInt64 &&& Int64.toUInt64 63)).toInt64) &&& (3689348814741910323 : Int64))) + (((((p1 - (((p1.toUInt64 >>> ((1 : Int32).toInt64.toUInt64 &&& Int64.toUInt64 63)).toInt64) &&& (6148914691236517205 : Int64))) &&& (3689348814741910323 : Int64)) + ((((p1 - (((p1.toUInt64 >>> ((1 : Int32).toInt64.toUInt64 &&& Int64.toUInt64 63)).toInt64) &&& (6148914691236517205 : Int64))).toUInt64 >>> ((2 : Int32).toInt64.toUInt64 &&& Int64.toUInt64 63)).toInt64) &&& (3689348814741910323 : Int64))).toUInt64 >>> ((4 : Int32).toInt64.toUInt64 &&& Int64.toUInt64 63)).toInt64)) &&& (1085102592571150095 : Int64)) + (((((((p1 - (((p1.toUInt64 >>> ((1 : Int32).toInt64.toUInt64 &&& Int64.toUInt64 63)).toInt64) &&& (6148914691236517205 : Int64))) &&& (3689348814741910323 : Int64)) + ((((p1 - (((p1.toUInt64 >>> ((1 : Int32).toInt64.toUInt64 &&& Int64.toUInt64 63)).toInt64) &&& (6148914691236517205 : Int64))).toUInt64 >>> ((2 : Int32).toInt64.toUInt64 &&& Int64.toUInt64 63)).toInt64) &&& (3689348814741910323 : Int64))) + (((((p1 - (((p1.toUInt64 >>> ((1 : Int32).toInt64.toUInt64 &&& Int64.toUInt64 63)).toInt64) &&& (6148914691236517205 : Int64))) &&& (3689348814741910323 : Int64)) + ((((p1 - (((p1.toUInt64 >>> ((1 : Int32).toInt64.toUInt64 &&& Int64.toUInt64 63)).toInt64) &&& (6148914691236517205 : Int64))).toUInt64 >>> ((2 : Int32).toInt64.toUInt64 &&& Int64.toUInt64 63)).toInt64) &&& (3689348814741910323 : Int64))).toUInt64 >>> ((4 : Int32).toInt64.toUInt64 &&& Int64.toUInt64 63)).toInt64)) &&& (1085102592571150095 : Int64)).toUInt64 >>> ((8 : Int32).toInt64.toUInt64 &&& Int64.toUInt64 63)).toInt64)) + ((((((((p1 - (((p1.toUInt64 >>> ((1 : Int32).toInt64.toUInt64 &&& Int64.toUInt64 63)).toInt64) &&& (6148914691236517205 : Int64))) &&& (3689348814741910323 : Int64)) + ((((p1 - (((p1.toUInt64 >>> ((1 : Int32).toInt64.toUInt64 &&& Int64.toUInt64 63)).toInt64) &&& (6148914691236517205 : Int64))).toUInt64 >>> ((2 : Int32).toInt64.toUInt64 &&& Int64.toUInt64 63)).toInt64) &&& (3689348814741910323 : Int64))) + (((((p1 - (((p1.toUInt64 >>> ((1 : Int32).toInt64.toUInt64 &&& Int64.toUInt64 63)).toInt64) &&& (6148914691236517205 : Int64))) &&& (3689348814741910323 : Int64)) + ((((p1 - (((p1.toUInt64 >>> ((1 : Int32).toInt64.toUInt64 &&& Int64.toUInt64 63)).toInt64) &&& (6148914691236517205 : Int64))).toUInt64 >>> ((2 : Int32).toInt64.toUInt64 &&& Int64.toUInt64 63)).toInt64) &&& (3689348814741910323 : Int64))).toUInt64 >>> ((4 : Int32).toInt64.toUInt64 &&& Int64.toUInt64 63)).toInt64)) &&& (1085102592571150095 : Int64)) + (((((((p1 - (((p1.toUInt64 >>> ((1 : Int32).toInt64.toUInt64 &&& Int64.toUInt64 63)).toInt64) &&& (6148914691236517205 : Int64))) &&& (3689348814741910323 : Int64)) + ((((p1 - (((p1.toUInt64 >>> ((1 : Int32).toInt64.toUInt64 &&& Int64.toUInt64 63)).toInt64) &&& (6148914691236517205 : Int64))).toUInt64 >>> ((2 : Int32).toInt64.toUInt64 &&& Int64.toUInt64 63)).toInt64) &&& (3689348814741910323 : Int64))) + (((((p1 - (((p1.toUInt64 >>> ((1 : Int32).toInt64.toUInt64 &&& Int64.toUInt64 63)).toInt64) &&& (6148914691236517205 : Int64))) &&& (3689348814741910323 : Int64)) + ((((p1 - (((p1.toUInt64 >>> ((1 : Int32).toInt64.toUInt64 &&& Int64.toUInt64 63)).toInt64) &&& (6148914691236517205 : Int64))).toUInt64 >>> ((2 : Int32).toInt64.toUInt64 &&& Int64.toUInt64 63)).toInt64) &&& (3689348814741910323 : Int64))).toUInt64 >>> ((4 : Int32).toInt64.toUInt64 &&& Int64.toUInt64 63)).toInt64)) &&& (1085102592571150095 : Int64)).toUInt64 >>> ((8 : Int32).toInt64.toUInt64 &&& Int64.toUInt64 63)).toInt64)).toUInt64 >>> ((16 : Int32).toInt64.toUInt64 &&& Int64.toUInt64 63)).toInt64)) + (((((((((p1 - (((p1.toUInt64 >>> ((1 : Int32).toInt64.toUInt64 &&& Int64.toUInt64 63)).toInt64) &&& (6148914691236517205 : Int64))) &&& (3689348814741910323 : Int64)) + ((((p1 - (((p1.toUInt64 >>> ((1 : Int32).toInt64.toUInt64 &&& Int64.toUInt64 63)).toInt64) &&& (6148914691236517205 : Int64))).toUInt64 >>> ((2 : Int32).toInt64.toUInt64 &&& Int64.toUInt64 63)).toInt64) &&& (3689348814741910323 : Int64))) + (((((p1 - (((p1.toUInt64 >>> ((1 : Int32).toInt64.toUInt64 &&& Int64.toUInt64 63)).toInt64) &&& (6148914691236517205 : Int64))) &&& (3689348814741910323 : Int64)) + ((((p1 - (((p1.toUInt64 >>> ((1 : Int32).toInt64.toUInt64 &&& Int64.toUInt64 63)).toInt64) &&& (6148914691236517205 : Int64))).toUInt64 >>> ((2 : Int32).toInt64.toUInt64 &&& Int64.toUInt64 63)).toInt64) &&& (3689348814741910323 : Int64))).toUInt64 >>> ((4 : Int32).toInt64.toUInt64 &&& Int64.toUInt64 63)).toInt64)) &&& (1085102592571150095 : Int64)) + (((((((p1 - (((p1.toUInt64 >>> ((1 : Int32).toInt64.toUInt64 &&& Int64.toUInt64 63)).toInt64) &&& (6148914691236517205 : Int64))) &&& (3689348814741910323 : Int64)) + ((((p1 - (((p1.toUInt64 >>> ((1 : Int32).toInt64.toUInt64 &&& Int64.toUInt64 63)).toInt64) &&& (6148914691236517205 : Int64))).toUInt64 >>> ((2 : Int32).toInt64.toUInt64 &&& Int64.toUInt64 63)).toInt64) &&& (3689348814741910323 : Int64))) + (((((p1 - (((p1.toUInt64 >>> ((1 : Int32).toInt64.toUInt64 &&& Int64.toUInt64 63)).toInt64) &&& (6148914691236517205 : Int64))) &&& (3689348814741910323 : Int64)) + ((((p1 - (((p1.toUInt64 >>> ((1 : Int32).toInt64.toUInt64 &&& Int64.toUInt64 63)).toInt64) &&& (6148914691236517205 : Int64))).toUInt64 >>> ((2 : Int32).toInt64.toUInt64 &&& Int64.toUInt64 63)).toInt64) &&& (3689348814741910323 : Int64))).toUInt64 >>> ((4 : Int32).toInt64.toUInt64 &&& Int64.toUInt64 63)).toInt64)) &&& (1085102592571150095 : Int64)).toUInt64 >>> ((8 : Int32).toInt64.toUInt64 &&& Int64.toUInt64 63)).toInt64)) + ((((((((p1 - (((p1.toUInt64 >>> ((1 : Int32).toInt64.toUInt64 &&& Int64.toUInt64 63)).toInt64) &&& (6148914691236517205 : Int64))) &&& (3689348814741910323 : Int64)) + ((((p1 - (((p1.toUInt64 >>> ((1 : Int32).toInt64.toUInt64 &&& Int64.toUInt64 63)).toInt64) &&& (6148914691236517205 : Int64))).toUInt64 >>> ((2 : Int32).toInt64.toUInt64 &&& Int64.toUInt64 63)).toInt64) &&& (3689348814741910323 : Int64))) + (((((p1 - (((p1.toUInt64 >>> ((1 : Int32).toInt64.toUInt64 &&& Int64.toUInt64 63)).toInt64) &&& (6148914691236517205 : Int64))) &&& (3689348814741910323 : Int64)) + ((((p1 - (((p1.toUInt64 >>> ((1 : Int32).toInt64.toUInt64 &&& Int64.toUInt64 63)).toInt64) &&& (6148914691236517205 : Int64))).toUInt64 >>> ((2 : Int32).toInt64.toUInt64 &&& Int64.toUInt64 63)).toInt64) &&& (3689348814741910323 : Int64))).toUInt64 >>> ((4 : Int32).toInt64.toUInt64 &&& Int64.toUInt64 63)).toInt64)) &&& (1085102592571150095 : Int64)) + (((((((p1 - (((p1.toUInt64 >>> ((1 : Int32).toInt64.toUInt64 &&& Int64.toUInt64 63)).toInt64) &&& (6148914691236517205 : Int64))) &&& (3689348814741910323 : Int64)) + ((((p1 - (((p1.toUInt64 >>> ((1 : Int32).toInt64.toUInt64 &&& Int64.toUInt64 63)).toInt64) &&& (6148914691236517205 : Int64))).toUInt64 >>> ((2 : Int32).toInt64.toUInt64 &&& Int64.toUInt64 63)).toInt64) &&& (3689348814741910323 : Int64))) + (((((p1 - (((p1.toUInt64 >>> ((1 : Int32).toInt64.toUInt64 &&& Int64.toUInt64 63)).toInt64) &&& (6148914691236517205 : Int64))) &&& (3689348814741910323 : Int64)) + ((((p1 - (((p1.toUInt64 >>> ((1 : Int32).toInt64.toUInt64 &&& Int64.toUInt64 63)).toInt64) &&& (6148914691236517205 : Int64))).toUInt64 >>> ((2 : Int32).toInt64.toUInt64 &&& Int64.toUInt64 63)).toInt64) &&& (3689348814741910323 : Int64))).toUInt64 >>> ((4 : Int32).toInt64.toUInt64 &&& Int64.toUInt64 63)).toInt64)) &&& (1085102592571150095 : Int64)).toUInt64 >>> ((8 : Int32).toInt64.toUInt64 &&& Int64.toUInt64 63)).toInt64)).toUInt64 >>> ((16 : Int32).toInt64.toUInt64 &&& Int64.toUInt64 63)).toInt64)).toUInt64 >>> ((32 : Int32).toInt64.toUInt64 &&& Int64.toUInt64 63)).toInt64)).toInt32) &&& (127 : Int32)) ()) : atJ13_bitCount_95d88_0 X ad cA p1 := by
  refine g_lload_n C dJ13_bitCount_95d88_0 rfl 0 rfl ?_
  refine g_lload_n C dJ13_bitCount_95d88_1 rfl 0 rfl ?_
  refine g_iconst C dJ13_bitCount_95d88_2 ik_1 ?_
  refine g_lushr C dJ13_bitCount_95d88_3 ?_
  refine g_ldc2_w C cnJ13_bitCount_95d88_314 dJ13_bitCount_95d88_4 ?_
  refine g_land C dJ13_bitCount_95d88_7 ?_
  refine g_lsub C dJ13_bitCount_95d88_8 ?_
  refine g_lstore_n (lv2 := [(0, .long (p1 - (((p1.toUInt64 >>> ((1 : Int32).toInt64.toUInt64 &&& Int64.toUInt64 63)).toInt64) &&& (6148914691236517205 : Int64))))]) C dJ13_bitCount_95d88_9 rfl (by decide) [0] rfl ?_
  refine g_lload_n C dJ13_bitCount_95d88_10 rfl 0 rfl ?_
  refine g_ldc2_w C cnJ13_bitCount_95d88_316 dJ13_bitCount_95d88_11 ?_
  refine g_land C dJ13_bitCount_95d88_14 ?_
  refine g_lload_n C dJ13_bitCount_95d88_15 rfl 0 rfl ?_
  refine g_iconst C dJ13_bitCount_95d88_16 ik_2 ?_
  refine g_lushr C dJ13_bitCount_95d88_17 ?_
  refine g_ldc2_w C cnJ13_bitCount_95d88_316 dJ13_bitCount_95d88_18 ?_
  refine g_land C dJ13_bitCount_95d88_21 ?_
  refine g_ladd C dJ13_bitCount_95d88_22 ?_
  refine g_lstore_n (lv2 := [(0, .long (((p1 - (((p1.toUInt64 >>> ((1 : Int32).toInt64.toUInt64 &&& Int64.toUInt64 63)).toInt64) &&& (6148914691236517205 : Int64))) &&& (3689348814741910323 : Int64)) + ((((p1 - (((p1.toUInt64 >>> ((1 : Int32).toInt64.toUInt64 &&& Int64.toUInt64 63)).toInt64) &&& (6148914691236517205 : Int64))).toUInt64 >>> ((2 : Int32).toInt64.toUInt64 &&& Int64.toUInt64 63)).toInt64) &&& (3689348814741910323 : Int64))))]) C dJ13_bitCount_95d88_23 rfl (by decide) [0] rfl ?_
  refine g_lload_n C dJ13_bitCount_95d88_24 rfl 0 rfl ?_
  refine g_lload_n C dJ13_bitCount_95d88_25 rfl 0 rfl ?_
  refine g_iconst C dJ13_bitCount_95d88_26 ik_4 ?_
  refine g_lushr C dJ13_bitCount_95d88_27 ?_
  refine g_ladd C dJ13_bitCount_95d88_28 ?_
  refine g_ldc2_w C cnJ13_bitCount_95d88_318 dJ13_bitCount_95d88_29 ?_
  refine g_land C dJ13_bitCount_95d88_32 ?_
  refine g_lstore_n (lv2 := [(0, .long (((((p1 - (((p1.toUInt64 >>> ((1 : Int32).toInt64.toUInt64 &&& Int64.toUInt64 63)).toInt64) &&& (6148914691236517205 : Int64))) &&& (3689348814741910323 : Int64)) + ((((p1 - (((p1.toUInt64 >>> ((1 : Int32).toInt64.toUInt64 &&& Int64.toUInt64 63)).toInt64) &&& (6148914691236517205 : Int64))).toUInt64 >>> ((2 : Int32).toInt64.toUInt64 &&& Int64.toUInt64 63)).toInt64) &&& (3689348814741910323 : Int64))) + (((((p1 - (((p1.toUInt64 >>> ((1 : Int32).toInt64.toUInt64 &&& Int64.toUInt64 63)).toInt64) &&& (6148914691236517205 : Int64))) &&& (3689348814741910323 : Int64)) + ((((p1 - (((p1.toUInt64 >>> ((1 : Int32).toInt64.toUInt64 &&& Int64.toUInt64 63)).toInt64) &&& (6148914691236517205 : Int64))).toUInt64 >>> ((2 : Int32).toInt64.toUInt64 &&& Int64.toUInt64 63)).toInt64) &&& (3689348814741910323 : Int64))).toUInt64 >>> ((4 : Int32).toInt64.toUInt64 &&& Int64.toUInt64 63)).toInt64)) &&& (1085102592571150095 : Int64)))]) C dJ13_bitCount_95d88_33 rfl (by decide) [0] rfl ?_
  refine g_lload_n C dJ13_bitCount_95d88_34 rfl 0 rfl ?_
  refine g_lload_n C dJ13_bitCount_95d88_35 rfl 0 rfl ?_
  refine g_bipush C dJ13_bitCount_95d88_36 bk_8 ?_
  refine g_lushr C dJ13_bitCount_95d88_38 ?_
  refine g_ladd C dJ13_bitCount_95d88_39 ?_
  refine g_lstore_n (lv2 := [(0, .long ((((((p1 - (((p1.toUInt64 >>> ((1 : Int32).toInt64.toUInt64 &&& Int64.toUInt64 63)).toInt64) &&& (6148914691236517205 : Int64))) &&& (3689348814741910323 : Int64)) + ((((p1 - (((p1.toUInt64 >>> ((1 : Int32).toInt64.toUInt64 &&& Int64.toUInt64 63)).toInt64) &&& (6148914691236517205 : Int64))).toUInt64 >>> ((2 : Int32).toInt64.toUInt64 &&& Int64.toUInt64 63)).toInt64) &&& (3689348814741910323 : Int64))) + (((((p1 - (((p1.toUInt64 >>> ((1 : Int32).toInt64.toUInt64 &&& Int64.toUInt64 63)).toInt64) &&& (6148914691236517205 : Int64))) &&& (3689348814741910323 : Int64)) + ((((p1 - (((p1.toUInt64 >>> ((1 : Int32).toInt64.toUInt64 &&& Int64.toUInt64 63)).toInt64) &&& (6148914691236517205 : Int64))).toUInt64 >>> ((2 : Int32).toInt64.toUInt64 &&& Int64.toUInt64 63)).toInt64) &&& (3689348814741910323 : Int64))).toUInt64 >>> ((4 : Int32).toInt64.toUInt64 &&& Int64.toUInt64 63)).toInt64)) &&& (1085102592571150095 : Int64)) + (((((((p1 - (((p1.toUInt64 >>> ((1 : Int32).toInt64.toUInt64 &&& Int64.toUInt64 63)).toInt64) &&& (6148914691236517205 : Int64))) &&& (3689348814741910323 : Int64)) + ((((p1 - (((p1.toUInt64 >>> ((1 : Int32).toInt64.toUInt64 &&& Int64.toUInt64 63)).toInt64) &&& (6148914691236517205 : Int64))).toUInt64 >>> ((2 : Int32).toInt64.toUInt64 &&& Int64.toUInt64 63)).toInt64) &&& (3689348814741910323 : Int64))) + (((((p1 - (((p1.toUInt64 >>> ((1 : Int32).toInt64.toUInt64 &&& Int64.toUInt64 63)).toInt64) &&& (6148914691236517205 : Int64))) &&& (3689348814741910323 : Int64)) + ((((p1 - (((p1.toUInt64 >>> ((1 : Int32).toInt64.toUInt64 &&& Int64.toUInt64 63)).toInt64) &&& (6148914691236517205 : Int64))).toUInt64 >>> ((2 : Int32).toInt64.toUInt64 &&& Int64.toUInt64 63)).toInt64) &&& (3689348814741910323 : Int64))).toUInt64 >>> ((4 : Int32).toInt64.toUInt64 &&& Int64.toUInt64 63)).toInt64)) &&& (1085102592571150095 : Int64)).toUInt64 >>> ((8 : Int32).toInt64.toUInt64 &&& Int64.toUInt64 63)).toInt64)))]) C dJ13_bitCount_95d88_40 rfl (by decide) [0] rfl ?_
  refine g_lload_n C dJ13_bitCount_95d88_41 rfl 0 rfl ?_
  refine g_lload_n C dJ13_bitCount_95d88_42 rfl 0 rfl ?_
  refine g_bipush C dJ13_bitCount_95d88_43 bk_16 ?_
  refine g_lushr C dJ13_bitCount_95d88_45 ?_
  refine g_ladd C dJ13_bitCount_95d88_46 ?_
  refine g_lstore_n (lv2 := [(0, .long (((((((p1 - (((p1.toUInt64 >>> ((1 : Int32).toInt64.toUInt64 &&& Int64.toUInt64 63)).toInt64) &&& (6148914691236517205 : Int64))) &&& (3689348814741910323 : Int64)) + ((((p1 - (((p1.toUInt64 >>> ((1 : Int32).toInt64.toUInt64 &&& Int64.toUInt64 63)).toInt64) &&& (6148914691236517205 : Int64))).toUInt64 >>> ((2 : Int32).toInt64.toUInt64 &&& Int64.toUInt64 63)).toInt64) &&& (3689348814741910323 : Int64))) + (((((p1 - (((p1.toUInt64 >>> ((1 : Int32).toInt64.toUInt64 &&& Int64.toUInt64 63)).toInt64) &&& (6148914691236517205 : Int64))) &&& (3689348814741910323 : Int64)) + ((((p1 - (((p1.toUInt64 >>> ((1 : Int32).toInt64.toUInt64 &&& Int64.toUInt64 63)).toInt64) &&& (6148914691236517205 : Int64))).toUInt64 >>> ((2 : Int32).toInt64.toUInt64 &&& Int64.toUInt64 63)).toInt64) &&& (3689348814741910323 : Int64))).toUInt64 >>> ((4 : Int32).toInt64.toUInt64 &&& Int64.toUInt64 63)).toInt64)) &&& (1085102592571150095 : Int64)) + (((((((p1 - (((p1.toUInt64 >>> ((1 : Int32).toInt64.toUInt64 &&& Int64.toUInt64 63)).toInt64) &&& (6148914691236517205 : Int64))) &&& (3689348814741910323 : Int64)) + ((((p1 - (((p1.toUInt64 >>> ((1 : Int32).toInt64.toUInt64 &&& Int64.toUInt64 63)).toInt64) &&& (6148914691236517205 : Int64))).toUInt64 >>> ((2 : Int32).toInt64.toUInt64 &&& Int64.toUInt64 63)).toInt64) &&& (3689348814741910323 : Int64))) + (((((p1 - (((p1.toUInt64 >>> ((1 : Int32).toInt64.toUInt64 &&& Int64.toUInt64 63)).toInt64) &&& (6148914691236517205 : Int64))) &&& (3689348814741910323 : Int64)) + ((((p1 - (((p1.toUInt64 >>> ((1 : Int32).toInt64.toUInt64 &&& Int64.toUInt64 63)).toInt64) &&& (6148914691236517205 : Int64))).toUInt64 >>> ((2 : Int32).toInt64.toUInt64 &&& Int64.toUInt64 63)).toInt64) &&& (3689348814741910323 : Int64))).toUInt64 >>> ((4 : Int32).toInt64.toUInt64 &&& Int64.toUInt64 63)).toInt64)) &&& (1085102592571150095 : Int64)).toUInt64 >>> ((8 : Int32).toInt64.toUInt64 &&& Int64.toUInt64 63)).toInt64)) + ((((((((p1 - (((p1.toUInt64 >>> ((1 : Int32).toInt64.toUInt64 &&& Int64.toUInt64 63)).toInt64) &&& (6148914691236517205 : Int64))) &&& (3689348814741910323 : Int64)) + ((((p1 - (((p1.toUInt64 >>> ((1 : Int32).toInt64.toUInt64 &&& Int64.toUInt64 63)).toInt64) &&& (6148914691236517205 : Int64))).toUInt64 >>> ((2 : Int32).toInt64.toUInt64 &&& Int64.toUInt64 63)).toInt64) &&& (3689348814741910323 : Int64))) + (((((p1 - (((p1.toUInt64 >>> ((1 : Int32).toInt64.toUInt64 &&& Int64.toUInt64 63)).toInt64) &&& (6148914691236517205 : Int64))) &&& (3689348814741910323 : Int64)) + ((((p1 - (((p1.toUInt64 >>> ((1 : Int32).toInt64.toUInt64 &&& Int64.toUInt64 63)).toInt64) &&& (6148914691236517205 : Int64))).toUInt64 >>> ((2 : Int32).toInt64.toUInt64 &&& Int64.toUInt64 63)).toInt64) &&& (3689348814741910323 : Int64))).toUInt64 >>> ((4 : Int32).toInt64.toUInt64 &&& Int64.toUInt64 63)).toInt64)) &&& (1085102592571150095 : Int64)) + (((((((p1 - (((p1.toUInt64 >>> ((1 : Int32).toInt64.toUInt64 &&& Int64.toUInt64 63)).toInt64) &&& (6148914691236517205 : Int64))) &&& (3689348814741910323 : Int64)) + ((((p1 - (((p1.toUInt64 >>> ((1 : Int32).toInt64.toUInt64 &&& Int64.toUInt64 63)).toInt64) &&& (6148914691236517205 : Int64))).toUInt64 >>> ((2 : Int32).toInt64.toUInt64 &&& Int64.toUInt64 63)).toInt64) &&& (3689348814741910323 : Int64))) + (((((p1 - (((p1.toUInt64 >>> ((1 : Int32).toInt64.toUInt64 &&& Int64.toUInt64 63)).toInt64) &&& (6148914691236517205 : Int64))) &&& (3689348814741910323 : Int64)) + ((((p1 - (((p1.toUInt64 >>> ((1 : Int32).toInt64.toUInt64 &&& Int64.toUInt64 63)).toInt64) &&& (6148914691236517205 : Int64))).toUInt64 >>> ((2 : Int32).toInt64.toUInt64 &&& Int64.toUInt64 63)).toInt64) &&& (3689348814741910323 : Int64))).toUInt64 >>> ((4 : Int32).toInt64.toUInt64 &&& Int64.toUInt64 63)).toInt64)) &&& (1085102592571150095 : Int64)).toUInt64 >>> ((8 : Int32).toInt64.toUInt64 &&& Int64.toUInt64 63)).toInt64)).toUInt64 >>> ((16 : Int32).toInt64.toUInt64 &&& Int64.toUInt64 63)).toInt64)))]) C dJ13_bitCount_95d88_47 rfl (by decide) [0] rfl ?_
  refine g_lload_n C dJ13_bitCount_95d88_48 rfl 0 rfl ?_
  refine g_lload_n C dJ13_bitCount_95d88_49 rfl 0 rfl ?_
  refine g_bipush C dJ13_bitCount_95d88_50 bk_32 ?_
  refine g_lushr C dJ13_bitCount_95d88_52 ?_
  refine g_ladd C dJ13_bitCount_95d88_53 ?_
  refine g_lstore_n (lv2 := [(0, .long ((((((((p1 - (((p1.toUInt64 >>> ((1 : Int32).toInt64.toUInt64 &&& Int64.toUInt64 63)).toInt64) &&& (6148914691236517205 : Int64))) &&& (3689348814741910323 : Int64)) + ((((p1 - (((p1.toUInt64 >>> ((1 : Int32).toInt64.toUInt64 &&& Int64.toUInt64 63)).toInt64) &&& (6148914691236517205 : Int64))).toUInt64 >>> ((2 : Int32).toInt64.toUInt64 &&& Int64.toUInt64 63)).toInt64) &&& (3689348814741910323 : Int64))) + (((((p1 - (((p1.toUInt64 >>> ((1 : Int32).toInt64.toUInt64 &&& Int64.toUInt64 63)).toInt64) &&& (6148914691236517205 : Int64))) &&& (3689348814741910323 : Int64)) + ((((p1 - (((p1.toUInt64 >>> ((1 : Int32).toInt64.toUInt64 &&& Int64.toUInt64 63)).toInt64) &&& (6148914691236517205 : Int64))).toUInt64 >>> ((2 : Int32).toInt64.toUInt64 &&& Int64.toUInt64 63)).toInt64) &&& (3689348814741910323 : Int64))).toUInt64 >>> ((4 : Int32).toInt64.toUInt64 &&& Int64.toUInt64 63)).toInt64)) &&& (1085102592571150095 : Int64)) + (((((((p1 - (((p1.toUInt64 >>> ((1 : Int32).toInt64.toUInt64 &&& Int64.toUInt64 63)).toInt64) &&& (6148914691236517205 : Int64))) &&& (3689348814741910323 : Int64)) + ((((p1 - (((p1.toUInt64 >>> ((1 : Int32).toInt64.toUInt64 &&& Int64.toUInt64 63)).toInt64) &&& (6148914691236517205 : Int64))).toUInt64 >>> ((2 : Int32).toInt64.toUInt64 &&& Int64.toUInt64 63)).toInt64) &&& (3689348814741910323 : Int64))) + (((((p1 - (((p1.toUInt64 >>> ((1 : Int32).toInt64.toUInt64 &&& Int64.toUInt64 63)).toInt64) &&& (6148914691236517205 : Int64))) &&& (3689348814741910323 : Int64)) + ((((p1 - (((p1.toUInt64 >>> ((1 : Int32).toInt64.toUInt64 &&& Int64.toUInt64 63)).toInt64) &&& (6148914691236517205 : Int64))).toUInt64 >>> ((2 : Int32).toInt64.toUInt64 &&& Int64.toUInt64 63)).toInt64) &&& (3689348814741910323 : Int64))).toUInt64 >>> ((4 : Int32).toInt64.toUInt64 &&& Int64.toUInt64 63)).toInt64)) &&& (1085102592571150095 : Int64)).toUInt64 >>> ((8 : Int32).toInt64.toUInt64 &&& Int64.toUInt64 63)).toInt64)) + ((((((((p1 - (((p1.toUInt64 >>> ((1 : Int32).toInt64.toUInt64 &&& Int64.toUInt64 63)).toInt64) &&& (6148914691236517205 : Int64))) &&& (3689348814741910323 : Int64)) + ((((p1 - (((p1.toUInt64 >>> ((1 : Int32).toInt64.toUInt64 &&& Int64.toUInt64 63)).toInt64) &&& (6148914691236517205 : Int64))).toUInt64 >>> ((2 : Int32).toInt64.toUInt64 &&& Int64.toUInt64 63)).toInt64) &&& (3689348814741910323 : Int64))) + (((((p1 - (((p1.toUInt64 >>> ((1 : Int32).toInt64.toUInt64 &&& Int64.toUInt64 63)).toInt64) &&& (6148914691236517205 : Int64))) &&& (3689348814741910323 : Int64)) + ((((p1 - (((p1.toUInt64 >>> ((1 : Int32).toInt64.toUInt64 &&& Int64.toUInt64 63)).toInt64) &&& (6148914691236517205 : Int64))).toUInt64 >>> ((2 : Int32).toInt64.toUInt64 &&& Int64.toUInt64 63)).toInt64) &&& (3689348814741910323 : Int64))).toUInt64 >>> ((4 : Int32).toInt64.toUInt64 &&& Int64.toUInt64 63)).toInt64)) &&& (1085102592571150095 : Int64)) + (((((((p1 - (((p1.toUInt64 >>> ((1 : Int32).toInt64.toUInt64 &&& Int64.toUInt64 63)).toInt64) &&& (6148914691236517205 : Int64))) &&& (3689348814741910323 : Int64)) + ((((p1 - (((p1.toUInt64 >>> ((1 : Int32).toInt64.toUInt64 &&& Int64.toUInt64 63)).toInt64) &&& (6148914691236517205 : Int64))).toUInt64 >>> ((2 : Int32).toInt64.toUInt64 &&& Int64.toUInt64 63)).toInt64) &&& (3689348814741910323 : Int64))) + (((((p1 - (((p1.toUInt64 >>> ((1 : Int32).toInt64.toUInt64 &&& Int64.toUInt64 63)).toInt64) &&& (6148914691236517205 : Int64))) &&& (3689348814741910323 : Int64)) + ((((p1 - (((p1.toUInt64 >>> ((1 : Int32).toInt64.toUInt64 &&& Int64.toUInt64 63)).toInt64) &&& (6148914691236517205 : Int64))).toUInt64 >>> ((2 : Int32).toInt64.toUInt64 &&& Int64.toUInt64 63)).toInt64) &&& (3689348814741910323 : Int64))).toUInt64 >>> ((4 : Int32).toInt64.toUInt64 &&& Int64.toUInt64 63)).toInt64)) &&& (1085102592571150095 : Int64)).toUInt64 >>> ((8 : Int32).toInt64.toUInt64 &&& Int64.toUInt64 63)).toInt64)).toUInt64 >>> ((16 : Int32).toInt64.toUInt64 &&& Int64.toUInt64 63)).toInt64)) + (((((((((p1 - (((p1.toUInt64 >>> ((1 : Int32).toInt64.toUInt64 &&& Int64.toUInt64 63)).toInt64) &&& (6148914691236517205 : Int64))) &&& (3689348814741910323 : Int64)) + ((((p1 - (((p1.toUInt64 >>> ((1 : Int32).toInt64.toUInt64 &&& Int64.toUInt64 63)).toInt64) &&& (6148914691236517205 : Int64))).toUInt64 >>> ((2 : Int32).toInt64.toUInt64 &&& Int64.toUInt64 63)).toInt64) &&& (3689348814741910323 : Int64))) + (((((p1 - (((p1.toUInt64 >>> ((1 : Int32).toInt64.toUInt64 &&& Int64.toUInt64 63)).toInt64) &&& (6148914691236517205 : Int64))) &&& (3689348814741910323 : Int64)) + ((((p1 - (((p1.toUInt64 >>> ((1 : Int32).toInt64.toUInt64 &&& Int64.toUInt64 63)).toInt64) &&& (6148914691236517205 : Int64))).toUInt64 >>> ((2 : Int32).toInt64.toUInt64 &&& Int64.toUInt64 63)).toInt64) &&& (3689348814741910323 : Int64))).toUInt64 >>> ((4 : Int32).toInt64.toUInt64 &&& Int64.toUInt64 63)).toInt64)) &&& (1085102592571150095 : Int64)) + (((((((p1 - (((p1.toUInt64 >>> ((1 : Int32).toInt64.toUInt64 &&& Int64.toUInt64 63)).toInt64) &&& (6148914691236517205 : Int64))) &&& (3689348814741910323 : Int64)) + ((((p1 - (((p1.toUInt64 >>> ((1 : Int32).toInt64.toUInt64 &&& Int64.toUInt64 63)).toInt64) &&& (6148914691236517205 : Int64))).toUInt64 >>> ((2 : Int32).toInt64.toUInt64 &&& Int64.toUInt64 63)).toInt64) &&& (3689348814741910323 : Int64))) + (((((p1 - (((p1.toUInt64 >>> ((1 : Int32).toInt64.toUInt64 &&& Int64.toUInt64 63)).toInt64) &&& (6148914691236517205 : Int64))) &&& (3689348814741910323 : Int64)) + ((((p1 - (((p1.toUInt64 >>> ((1 : Int32).toInt64.toUInt64 &&& Int64.toUInt64 63)).toInt64) &&& (6148914691236517205 : Int64))).toUInt64 >>> ((2 : Int32).toInt64.toUInt64 &&& Int64.toUInt64 63)).toInt64) &&& (3689348814741910323 : Int64))).toUInt64 >>> ((4 : Int32).toInt64.toUInt64 &&& Int64.toUInt64 63)).toInt64)) &&& (1085102592571150095 : Int64)).toUInt64 >>> ((8 : Int32).toInt64.toUInt64 &&& Int64.toUInt64 63)).toInt64)) + ((((((((p1 - (((p1.toUInt64 >>> ((1 : Int32).toInt64.toUInt64 &&& Int64.toUInt64 63)).toInt64) &&& (6148914691236517205 : Int64))) &&& (3689348814741910323 : Int64)) + ((((p1 - (((p1.toUInt64 >>> ((1 : Int32).toInt64.toUInt64 &&& Int64.toUInt64 63)).toInt64) &&& (6148914691236517205 : Int64))).toUInt64 >>> ((2 : Int32).toInt64.toUInt64 &&& Int64.toUInt64 63)).toInt64) &&& (3689348814741910323 : Int64))) + (((((p1 - (((p1.toUInt64 >>> ((1 : Int32).toInt64.toUInt64 &&& Int64.toUInt64 63)).toInt64) &&& (6148914691236517205 : Int64))) &&& (3689348814741910323 : Int64)) + ((((p1 - (((p1.toUInt64 >>> ((1 : Int32).toInt64.toUInt64 &&& Int64.toUInt64 63)).toInt64) &&& (6148914691236517205 : Int64))).toUInt64 >>> ((2 : Int32).toInt64.toUInt64 &&& Int64.toUInt64 63)).toInt64) &&& (3689348814741910323 : Int64))).toUInt64 >>> ((4 : Int32).toInt64.toUInt64 &&& Int64.toUInt64 63)).toInt64)) &&& (1085102592571150095 : Int64)) + (((((((p1 - (((p1.toUInt64 >>> ((1 : Int32).toInt64.toUInt64 &&& Int64.toUInt64 63)).toInt64) &&& (6148914691236517205 : Int64))) &&& (3689348814741910323 : Int64)) + ((((p1 - (((p1.toUInt64 >>> ((1 : Int32).toInt64.toUInt64 &&& Int64.toUInt64 63)).toInt64) &&& (6148914691236517205 : Int64))).toUInt64 >>> ((2 : Int32).toInt64.toUInt64 &&& Int64.toUInt64 63)).toInt64) &&& (3689348814741910323 : Int64))) + (((((p1 - (((p1.toUInt64 >>> ((1 : Int32).toInt64.toUInt64 &&& Int64.toUInt64 63)).toInt64) &&& (6148914691236517205 : Int64))) &&& (3689348814741910323 : Int64)) + ((((p1 - (((p1.toUInt64 >>> ((1 : Int32).toInt64.toUInt64 &&& Int64.toUInt64 63)).toInt64) &&& (6148914691236517205 : Int64))).toUInt64 >>> ((2 : Int32).toInt64.toUInt64 &&& Int64.toUInt64 63)).toInt64) &&& (3689348814741910323 : Int64))).toUInt64 >>> ((4 : Int32).toInt64.toUInt64 &&& Int64.toUInt64 63)).toInt64)) &&& (1085102592571150095 : Int64)).toUInt64 >>> ((8 : Int32).toInt64.toUInt64 &&& Int64.toUInt64 63)).toInt64)).toUInt64 >>> ((16 : Int32).toInt64.toUInt64 &&& Int64.toUInt64 63)).toInt64)).toUInt64 >>> ((32 : Int32).toInt64.toUInt64 &&& Int64.toUInt64 63)).toInt64)))]) C dJ13_bitCount_95d88_54 rfl (by decide) [0] rfl ?_
  refine g_lload_n C dJ13_bitCount_95d88_55 rfl 0 rfl ?_
  refine g_l2i C dJ13_bitCount_95d88_56 ?_
  refine g_bipush C dJ13_bitCount_95d88_57 bk_127 ?_
  refine g_iand C dJ13_bitCount_95d88_59 ?_
  exact g_iret C E () h rfl dJ13_bitCount_95d88_60
def fnJ13_bitCount_95d88 (p1 : Int64) : Int32 := ((((((((((p1 - (((p1.toUInt64 >>> ((1 : Int32).toInt64.toUInt64 &&& Int64.toUInt64 63)).toInt64) &&& (6148914691236517205 : Int64))) &&& (3689348814741910323 : Int64)) + ((((p1 - (((p1.toUInt64 >>> ((1 : Int32).toInt64.toUInt64 &&& Int64.toUInt64 63)).toInt64) &&& (6148914691236517205 : Int64))).toUInt64 >>> ((2 : Int32).toInt64.toUInt64 &&& Int64.toUInt64 63)).toInt64) &&& (3689348814741910323 : Int64))) + (((((p1 - (((p1.toUInt64 >>> ((1 : Int32).toInt64.toUInt64 &&& Int64.toUInt64 63)).toInt64) &&& (6148914691236517205 : Int64))) &&& (3689348814741910323 : Int64)) + ((((p1 - (((p1.toUInt64 >>> ((1 : Int32).toInt64.toUInt64 &&& Int64.toUInt64 63)).toInt64) &&& (6148914691236517205 : Int64))).toUInt64 >>> ((2 : Int32).toInt64.toUInt64 &&& Int64.toUInt64 63)).toInt64) &&& (3689348814741910323 : Int64))).toUInt64 >>> ((4 : Int32).toInt64.toUInt64 &&& Int64.toUInt64 63)).toInt64)) &&& (1085102592571150095 : Int64)) + (((((((p1 - (((p1.toUInt64 >>> ((1 : Int32).toInt64.toUInt64 &&& Int64.toUInt64 63)).toInt64) &&& (6148914691236517205 : Int64))) &&& (3689348814741910323 : Int64)) + ((((p1 - (((p1.toUInt64 >>> ((1 : Int32).toInt64.toUInt64 &&& Int64.toUInt64 63)).toInt64) &&& (6148914691236517205 : Int64))).toUInt64 >>> ((2 : Int32).toInt64.toUInt64 &&& Int64.toUInt64 63)).toInt64) &&& (3689348814741910323 : Int64))) + (((((p1 - (((p1.toUInt64 >>> ((1 : Int32).toInt64.toUInt64 &&& Int64.toUInt64 63)).toInt64) &&& (6148914691236517205 : Int64))) &&& (3689348814741910323 : Int64)) + ((((p1 - (((p1.toUInt64 >>> ((1 : Int32).toInt64.toUInt64 &&& Int64.toUInt64 63)).toInt64) &&& (6148914691236517205 : Int64))).toUInt64 >>> ((2 : Int32).toInt64.toUInt64 &&& Int64.toUInt64 63)).toInt64) &&& (3689348814741910323 : Int64))).toUInt64 >>> ((4 : Int32).toInt64.toUInt64 &&& Int64.toUInt64 63)).toInt64)) &&& (1085102592571150095 : Int64)).toUInt64 >>> ((8 : Int32).toInt64.toUInt64 &&& Int64.toUInt64 63)).toInt64)) + ((((((((p1 - (((p1.toUInt64 >>> ((1 : Int32).toInt64.toUInt64 &&& Int64.toUInt64 63)).toInt64) &&& (6148914691236517205 : Int64))) &&& (3689348814741910323 : Int64)) + ((((p1 - (((p1.toUInt64 >>> ((1 : Int32).toInt64.toUInt64 &&& Int64.toUInt64 63)).toInt64) &&& (6148914691236517205 : Int64))).toUInt64 >>> ((2 : Int32).toInt64.toUInt64 &&& Int64.toUInt64 63)).toInt64) &&& (3689348814741910323 : Int64))) + (((((p1 - (((p1.toUInt64 >>> ((1 : Int32).toInt64.toUInt64 &&& Int64.toUInt64 63)).toInt64) &&& (6148914691236517205 : Int64))) &&& (3689348814741910323 : Int64)) + ((((p1 - (((p1.toUInt64 >>> ((1 : Int32).toInt64.toUInt64 &&& Int64.toUInt64 63)).toInt64) &&& (6148914691236517205 : Int64))).toUInt64 >>> ((2 : Int32).toInt64.toUInt64 &&& Int64.toUInt64 63)).toInt64) &&& (3689348814741910323 : Int64))).toUInt64 >>> ((4 : Int32).toInt64.toUInt64 &&& Int64.toUInt64 63)).toInt64)) &&& (1085102592571150095 : Int64)) + (((((((p1 - (((p1.toUInt64 >>> ((1 : Int32).toInt64.toUInt64 &&& Int64.toUInt64 63)).toInt64) &&& (6148914691236517205 : Int64))) &&& (3689348814741910323 : Int64)) + ((((p1 - (((p1.toUInt64 >>> ((1 : Int32).toInt64.toUInt64 &&& Int64.toUInt64 63)).toInt64) &&& (6148914691236517205 : Int64))).toUInt64 >>> ((2 : Int32).toInt64.toUInt64 &&& Int64.toUInt64 63)).toInt64) &&& (3689348814741910323 : Int64))) + (((((p1 - (((p1.toUInt64 >>> ((1 : Int32).toInt64.toUInt64 &&& Int64.toUInt64 63)).toInt64) &&& (6148914691236517205 : Int64))) &&& (3689348814741910323 : Int64)) + ((((p1 - (((p1.toUInt64 >>> ((1 : Int32).toInt64.toUInt64 &&& Int64.toUInt64 63)).toInt64) &&& (6148914691236517205 : Int64))).toUInt64 >>> ((2 : Int32).toInt64.toUInt64 &&& Int64.toUInt64 63)).toInt64) &&& (3689348814741910323 : Int64))).toUInt64 >>> ((4 : Int32).toInt64.toUInt64 &&& Int64.toUInt64 63)).toInt64)) &&& (1085102592571150095 : Int64)).toUInt64 >>> ((8 : Int32).toInt64.toUInt64 &&& Int64.toUInt64 63)).toInt64)).toUInt64 >>> ((16 : Int32).toInt64.toUInt64 &&& Int64.toUInt64 63)).toInt64)) + (((((((((p1 - (((p1.toUInt64 >>> ((1 : Int32).toInt64.toUInt64 &&& Int64.toUInt64 63)).toInt64) &&& (6148914691236517205 : Int64))) &&& (3689348814741910323 : Int64)) + ((((p1 - (((p1.toUInt64 >>> ((1 : Int32).toInt64.toUInt64 &&& Int64.toUInt64 63)).toInt64) &&& (6148914691236517205 : Int64))).toUInt64 >>> ((2 : Int32).toInt64.toUInt64 &&& Int64.toUInt64 63)).toInt64) &&& (3689348814741910323 : Int64))) + (((((p1 - (((p1.toUInt64 >>> ((1 : Int32).toInt64.toUInt64 &&& Int64.toUInt64 63)).toInt64) &&& (6148914691236517205 : Int64))) &&& (3689348814741910323 : Int64)) + ((((p1 - (((p1.toUInt64 >>> ((1 : Int32).toInt64.toUInt64 &&& Int64.toUInt64 63)).toInt64) &&& (6148914691236517205 : Int64))).toUInt64 >>> ((2 : Int32).toInt64.toUInt64 &&& Int64.toUInt64 63)).toInt64) &&& (3689348814741910323 : Int64))).toUInt64 >>> ((4 : Int32).toInt64.toUInt64 &&& Int64.toUInt64 63)).toInt64)) &&& (1085102592571150095 : Int64)) + (((((((p1 - (((p1.toUInt64 >>> ((1 : Int32).toInt64.toUInt64 &&& Int64.toUInt64 63)).toInt64) &&& (6148914691236517205 : Int64))) &&& (3689348814741910323 : Int64)) + ((((p1 - (((p1.toUInt64 >>> ((1 : Int32).toInt64.toUInt64 &&& Int64.toUInt64 63)).toInt64) &&& (6148914691236517205 : Int64))).toUInt64 >>> ((2 : Int32).toInt64.toUInt64 &&& Int64.toUInt64 63)).toInt64) &&& (3689348814741910323 : Int64))) + (((((p1 - (((p1.toUInt64 >>> ((1 : Int32).toInt64.toUInt64 &&& Int64.toUInt64 63)).toInt64) &&& (6148914691236517205 : Int64))) &&& (3689348814741910323 : Int64)) + ((((p1 - (((p1.toUInt64 >>> ((1 : Int32).toInt64.toUInt64 &&& Int64.toUInt64 63)).toInt64) &&& (6148914691236517205 : Int64))).toUInt64 >>> ((2 : Int32).toInt64.toUInt64 &&& Int64.toUInt64 63)).toInt64) &&& (3689348814741910323 : Int64))).toUInt64 >>> ((4 : Int32).toInt64.toUInt64 &&& Int64.toUInt64 63)).toInt64)) &&& (1085102592571150095 : Int64)).toUInt64 >>> ((8 : Int32).toInt64.toUInt64 &&& Int64.toUInt64 63)).toInt64)) + ((((((((p1 - (((p1.toUInt64 >>> ((1 : Int32).toInt64.toUInt64 &&& Int64.toUInt64 63)).toInt64) &&& (6148914691236517205 : Int64))) &&& (3689348814741910323 : Int64)) + ((((p1 - (((p1.toUInt64 >>> ((1 : Int32).toInt64.toUInt64 &&& Int64.toUInt64 63)).toInt64) &&& (6148914691236517205 : Int64))).toUInt64 >>> ((2 : Int32).toInt64.toUInt64 &&& Int64.toUInt64 63)).toInt64) &&& (3689348814741910323 : Int64))) + (((((p1 - (((p1.toUInt64 >>> ((1 : Int32).toInt64.toUInt64 &&& Int64.toUInt64 63)).toInt64) &&& (6148914691236517205 : Int64))) &&& (3689348814741910323 : Int64)) + ((((p1 - (((p1.toUInt64 >>> ((1 : Int32).toInt64.toUInt64 &&& Int64.toUInt64 63)).toInt64) &&& (6148914691236517205 : Int64))).toUInt64 >>> ((2 : Int32).toInt64.toUInt64 &&& Int64.toUInt64 63)).toInt64) &&& (3689348814741910323 : Int64))).toUInt64 >>> ((4 : Int32).toInt64.toUInt64 &&& Int64.toUInt64 63)).toInt64)) &&& (1085102592571150095 : Int64)) + (((((((p1 - (((p1.toUInt64 >>> ((1 : Int32).toInt64.toUInt64 &&& Int64.toUInt64 63)).toInt64) &&& (6148914691236517205 : Int64))) &&& (3689348814741910323 : Int64)) + ((((p1 - (((p1.toUInt64 >>> ((1 : Int32).toInt64.toUInt64 &&& Int64.toUInt64 63)).toInt64) &&& (6148914691236517205 : Int64))).toUInt64 >>> ((2 : Int32).toInt64.toUInt64 &&& Int64.toUInt64 63)).toInt64) &&& (3689348814741910323 : Int64))) + (((((p1 - (((p1.toUInt64 >>> ((1 : Int32).toInt64.toUInt64 &&& Int64.toUInt64 63)).toInt64) &&& (6148914691236517205 : Int64))) &&& (3689348814741910323 : Int64)) + ((((p1 - (((p1.toUInt64 >>> ((1 : Int32).toInt64.toUInt64 &&& Int64.toUInt64 63)).toInt64) &&& (6148914691236517205 : Int64))).toUInt64 >>> ((2 : Int32).toInt64.toUInt64 &&& Int64.toUInt64 63)).toInt64) &&& (3689348814741910323 : Int64))).toUInt64 >>> ((4 : Int32).toInt64.toUInt64 &&& Int64.toUInt64 63)).toInt64)) &&& (1085102592571150095 : Int64)).toUInt64 >>> ((8 : Int32).toInt64.toUInt64 &&& Int64.toUInt64 63)).toInt64)).toUInt64 >>> ((16 : Int32).toInt64.toUInt64 &&& Int64.toUInt64 63)).toInt64)).toUInt64 >>> ((32 : Int32).toInt64.toUInt64 &&& Int64.toUInt64 63)).toInt64)).toInt32) &&& (127 : Int32))
set_option maxHeartbeats 4000000 in
set_option maxRecDepth 100000 in
theorem c_J13_bitCount_95d88 (ad : Nat → Nat) (cA : Nat → ClassId) (p1 : Int64) : ∀ (l : Launch) (D : va_G), gMi (S := Unit) l yJ13_bitCount_95d88 wsJ13_bitCount_95d88 rmJ13_bitCount_95d88 D (gT cA) 0 0 [.long p1] (wcJ13_bitCount_95d88 ad cA) (fun r _ => r = fnJ13_bitCount_95d88 p1) (w1J13_bitCount_95d88 ad cA) := by
  intro l D
  refine g_enteri (cc := cJ13_bitCount_95d88) (nL := 2) (ret := (some .int)) (by decide) rfl (Nat.le_of_ble_eq_true rfl) rfl (fun X C E => sgJ13_bitCount_95d88_0 C E ?_)
  exact (by unfold fnJ13_bitCount_95d88; first | rfl | (simp only []; done) | (simp only []; rfl))

abbrev w1X3_within (ad : Nat → Nat) (cA : Nat → ClassId) (u : Unit) : va_W := []
abbrev wcX3_within (ad : Nat → Nat) (cA : Nat → ClassId) : va_W := []
def rmX3_within : Room := { frames := 0, cells := 0, slots := 0, locals := 0 }
abbrev atX3_within_0 (X : gX) (ad : Nat → Nat) (cA : Nat → ClassId) (p1 : Int32) (p2 : Int32) (p3 : Int32) : Prop := gW X 0 0 [] 3 [(0, .int p1), (1, .int p2), (2, .int p3)] [] 0
set_option maxHeartbeats 4000000 in
set_option maxRecDepth 100000 in
theorem sgX3_within_0 {X : gX} {ad : Nat → Nat} {cA : Nat → ClassId} {post : Int32 → (Unit) → Prop} {p1 : Int32} {p2 : Int32} {p3 : Int32} (C : gC X (gT cA) cX3_within 3 RX3 wsX3_within rmX3_within) (E : gEi X (some .boolean) (gT cA) 0 0 post (w1X3_within ad cA)) (h : (p1 < p2 → post (0 : Int32) ()) ∧ (¬ p1 < p2 → (p3 < p1 → post (0 : Int32) ()) ∧ (¬ p3 < p1 → post (1 : Int32) ()))) : atX3_within_0 X ad cA p1 p2 p3 := by
  refine g_iload_n C dX3_within_0 rfl 0 rfl ?_
  refine g_iload_n C dX3_within_1 rfl 1 rfl ?_
  refine g_icmp_lt (tgt := 14) C dX3_within_2 (by decide) (fun c_1 => ?_) (fun c_1 => ?_)
  · replace h := h.1 c_1
    refine g_iconst C dX3_within_14 ik_0 ?_
    exact g_zret C E rfl () h rfl dX3_within_15
  · replace h := h.2 c_1
    refine g_iload_n C dX3_within_5 rfl 0 rfl ?_
    refine g_iload_n C dX3_within_6 rfl 2 rfl ?_
    refine g_icmp_gt (tgt := 14) C dX3_within_7 (by decide) (fun c_2 => ?_) (fun c_2 => ?_)
    · replace h := h.1 c_2
      refine g_iconst C dX3_within_14 ik_0 ?_
      exact g_zret C E rfl () h rfl dX3_within_15
    · replace h := h.2 c_2
      refine g_iconst C dX3_within_10 ik_1 ?_
      refine g_goto (tgt := 15) C dX3_within_11 (by decide) ?_
      exact g_zret C E rfl () h rfl dX3_within_15
def fnX3_within (p1 : Int32) (p2 : Int32) (p3 : Int32) : Bool := (if p1 < p2 then false else (if p3 < p1 then false else true))
set_option maxHeartbeats 4000000 in
set_option maxRecDepth 100000 in
theorem c_X3_within (ad : Nat → Nat) (cA : Nat → ClassId) (p1 : Int32) (p2 : Int32) (p3 : Int32) : ∀ (l : Launch) (D : va_G), gMi (S := Unit) l yX3_within wsX3_within rmX3_within D (gT cA) 0 0 [.int p1, .int p2, .int p3] (wcX3_within ad cA) (fun r _ => r = bI (fnX3_within p1 p2 p3)) (w1X3_within ad cA) := by
  intro l D
  refine g_enteri (cc := cX3_within) (nL := 3) (ret := (some .boolean)) (by decide) rfl (Nat.le_of_ble_eq_true rfl) rfl (fun X C E => sgX3_within_0 C E ?_)
  refine ⟨fun c_3 => ?_, fun c_3 => ?_⟩
  · exact (by unfold fnX3_within; first | rfl | (simp only [if_pos c_3]; done) | (simp only [if_pos c_3]; rfl))
  · refine ⟨fun c_4 => ?_, fun c_4 => ?_⟩
    · exact (by unfold fnX3_within; first | rfl | (simp only [if_neg c_3, if_pos c_4]; done) | (simp only [if_neg c_3, if_pos c_4]; rfl))
    · exact (by unfold fnX3_within; first | rfl | (simp only [if_neg c_3, if_neg c_4]; done) | (simp only [if_neg c_3, if_neg c_4]; rfl))

theorem bcL_fn (x : Int64) : fnJ13_bitCount_95d88 x = nI (cntA 64 (sb x)) := bcL_eq x
theorem wi_eq (p a b : Int32) : fnX3_within p a b = true ↔ a.toInt ≤ p.toInt ∧ p.toInt ≤ b.toInt := by
  unfold fnX3_within
  simp only [Int32.lt_iff_toInt_lt]
  by_cases h1 : p.toInt < a.toInt
  · rw [if_pos h1]; exact ⟨fun q => absurd q (by decide), fun q => absurd h1 (by omega)⟩
  · rw [if_neg h1]
    by_cases h2 : b.toInt < p.toInt
    · rw [if_pos h2]; exact ⟨fun q => absurd q (by decide), fun q => absurd h2 (by omega)⟩
    · rw [if_neg h2]; exact ⟨fun _ => by omega, fun _ => rfl⟩
theorem wi_t {p a b : Int32} (h : fnX3_within p a b = true) : a.toInt ≤ p.toInt ∧ p.toInt ≤ b.toInt := (wi_eq p a b).mp h
theorem wi_f {p a b : Int32} (h : fnX3_within p a b = false) : ¬ (a.toInt ≤ p.toInt ∧ p.toInt ≤ b.toInt) := bt_f (wi_eq p a b) h
theorem isS0_eq (s : Int64) {n : Nat} (hn : n ≤ 36) : fnX0_isSet s (nI n) = isS n s := by
  rw [Bool.eq_iff_iff, isSet_eq s hn, isS_t]
theorem has2_eq {w h : Nat} (hw : w ≤ 8) (hh : h ≤ 8) (x y : Int32) : fnX2_has x y (nI w) (nI h) = true ↔ ptOK (nI w) (nI h) x y := by
  unfold fnX2_has ptOK
  have e1 : (nI w).toInt = w := nI_toInt (by omega)
  have e2 : (nI h).toInt = h := nI_toInt (by omega)
  simp only [Int32.lt_iff_toInt_lt, Int32.le_iff_toInt_le, show (0 : Int32).toInt = 0 from rfl]
  by_cases c1 : x.toInt < 0
  · rw [if_pos c1]; exact ⟨fun q => absurd q (by decide), fun q => absurd c1 (by omega)⟩
  · rw [if_neg c1]
    by_cases c2 : (nI w).toInt ≤ x.toInt
    · rw [if_pos c2]; exact ⟨fun q => absurd q (by decide), fun q => absurd c2 (by omega)⟩
    · rw [if_neg c2]
      by_cases c3 : y.toInt < 0
      · rw [if_pos c3]; exact ⟨fun q => absurd q (by decide), fun q => absurd c3 (by omega)⟩
      · rw [if_neg c3]
        by_cases c4 : (nI h).toInt ≤ y.toInt
        · rw [if_pos c4]; exact ⟨fun q => absurd q (by decide), fun q => absurd c4 (by omega)⟩
        · rw [if_neg c4]; exact ⟨fun _ => by omega, fun _ => rfl⟩
def chOK (n : Nat) (be pl ru pr hd : Nat → Int32) (st ri : Int32) (am lo hi : Int64) : Prop := ¬ st = 0 → setOK n be pl ru pr hd ri.toInt am lo hi
theorem sdA_c (be : Nat → Int32) (o : Nat) (v : Int32) : ∀ (k s : Nat), (∃ s', s ≤ s' ∧ s' < s + k ∧ sdA be o v s k = nI s' ∧ be (6 * o + s') = v) ∨ (sdA be o v s k = -1 ∧ ∀ s', s ≤ s' → s' < s + k → ¬ be (6 * o + s') = v) := by
  intro k
  induction k with
  | zero => intro s; exact Or.inr ⟨rfl, fun s' h1 h2 => absurd h2 (by omega)⟩
  | succ k ih =>
    intro s
    rw [sdA]
    by_cases q : be (6 * o + s) = v
    · rw [if_pos q]; exact Or.inl ⟨s, Nat.le_refl s, by omega, rfl, q⟩
    · rw [if_neg q]
      rcases ih (s + 1) with ⟨s', h1, h2, h3, h4⟩ | ⟨h1, h2⟩
      · exact Or.inl ⟨s', by omega, by omega, h3, h4⟩
      · refine Or.inr ⟨h1, fun s' g1 g2 => ?_⟩
        by_cases e : s' = s
        · rw [e]; exact q
        · exact h2 s' (by omega) (by omega)
theorem mk_eq : ∀ k, k < 3 → (mkR k).toInt64 = mkC k := by decide +kernel
theorem rim_sum : ∀ w, w < 9 → 2 ≤ w → ∀ h, h < 9 → 2 ≤ h → nI w * nI h - pns w h (fun j => rimI w h (j % 8) (j / 8)) = (nI w - 2) * (nI h - 2) := by decide +kernel

abbrev w1X3_box (ad : Nat → Nat) (cA : Nat → ClassId) (S_asked : Int64) (F_queued : Int32) (F_settledRise : Int32) (F_amount : Int64) (F_lowest : Int64) (F_highest : Int64) (u : (Int32) × (Nat → Int32) × (Nat → Int32) × (Nat → Int32) × (Nat → Int32) × (Nat → Int32) × (Int32)) : va_W := [((ad 0), .inr (3, [.ref (ad 8), .ref (ad 1), .ref (ad 15), .long S_asked])), ((ad 1), .inr (0, [.ref (ad 2), .ref (ad 3), .ref (ad 4), .ref (ad 5), .ref (ad 6), .ref (ad 7), .int u.1])), ((ad 2), .inl (cA 0, 3, .inl u.2.1)), ((ad 3), .inl (cA 0, 36, .inl u.2.2.1)), ((ad 4), .inl (cA 0, 36, .inl u.2.2.2.1)), ((ad 6), .inl (cA 0, 108, .inl u.2.2.2.2.1)), ((ad 7), .inl (cA 0, 216, .inl u.2.2.2.2.2.1)), ((ad 8), .inr (1, [.ref (ad 1), .ref (ad 9), .ref (ad 10), .ref (ad 11), .ref (ad 12), .ref (ad 13), .ref (ad 14), .int F_queued, .int u.2.2.2.2.2.2, .int F_settledRise, .long F_amount, .long F_lowest, .long F_highest]))]
abbrev wcX3_box (ad : Nat → Nat) (cA : Nat → ClassId) (S_asked : Int64) (C_size : Int32) (C_sides : Nat → Int32) (C_held : Nat → Int32) (C_prices : Nat → Int32) (C_places : Nat → Int32) (C_beyond : Nat → Int32) (F_queued : Int32) (F_settled : Int32) (F_settledRise : Int32) (F_amount : Int64) (F_lowest : Int64) (F_highest : Int64) : va_W := [((ad 0), .inr (3, [.ref (ad 8), .ref (ad 1), .ref (ad 15), .long S_asked])), ((ad 1), .inr (0, [.ref (ad 2), .ref (ad 3), .ref (ad 4), .ref (ad 5), .ref (ad 6), .ref (ad 7), .int C_size])), ((ad 2), .inl (cA 0, 3, .inl C_sides)), ((ad 3), .inl (cA 0, 36, .inl C_held)), ((ad 4), .inl (cA 0, 36, .inl C_prices)), ((ad 6), .inl (cA 0, 108, .inl C_places)), ((ad 7), .inl (cA 0, 216, .inl C_beyond)), ((ad 8), .inr (1, [.ref (ad 1), .ref (ad 9), .ref (ad 10), .ref (ad 11), .ref (ad 12), .ref (ad 13), .ref (ad 14), .int F_queued, .int F_settled, .int F_settledRise, .long F_amount, .long F_lowest, .long F_highest]))]
def rmX3_box : Room := { frames := 2, cells := 0, slots := 0, locals := 52 }
abbrev atX3_box_0 (X : gX) (ad : Nat → Nat) (cA : Nat → ClassId) (p1 : Int32) (p2 : Int32) (p3 : Int32) (S_asked : Int64) (C_size : Int32) (C_sides : Nat → Int32) (C_held : Nat → Int32) (C_prices : Nat → Int32) (C_places : Nat → Int32) (C_beyond : Nat → Int32) (F_queued : Int32) (F_settled : Int32) (F_settledRise : Int32) (F_amount : Int64) (F_lowest : Int64) (F_highest : Int64) : Prop := gW X 0 0 [((ad 0), .inr (3, [.ref (ad 8), .ref (ad 1), .ref (ad 15), .long S_asked])), ((ad 1), .inr (0, [.ref (ad 2), .ref (ad 3), .ref (ad 4), .ref (ad 5), .ref (ad 6), .ref (ad 7), .int C_size])), ((ad 2), .inl (cA 0, 3, .inl C_sides)), ((ad 3), .inl (cA 0, 36, .inl C_held)), ((ad 4), .inl (cA 0, 36, .inl C_prices)), ((ad 6), .inl (cA 0, 108, .inl C_places)), ((ad 7), .inl (cA 0, 216, .inl C_beyond)), ((ad 8), .inr (1, [.ref (ad 1), .ref (ad 9), .ref (ad 10), .ref (ad 11), .ref (ad 12), .ref (ad 13), .ref (ad 14), .int F_queued, .int F_settled, .int F_settledRise, .long F_amount, .long F_lowest, .long F_highest]))] 4 [(0, .ref (ad 0)), (1, .int p1), (2, .int p2), (3, .int p3)] [] 0
theorem giX3_box_X3 : ∀ w ∈ u_ws RX3 TX3 4, w ∈ wsX3_box := by decide +kernel
theorem gfX3_box_20 : gF wsX3_box RX3 20 3 1 RX3 TX3 4 := ⟨giX3_box_X3, by decide +kernel, rfl, by decide⟩
theorem gfX3_box_10 : gF wsX3_box RX3 10 3 0 RX3 TX3 4 := ⟨giX3_box_X3, by decide +kernel, rfl, by decide⟩
theorem giX3_box_X0 : ∀ w ∈ u_ws RX0 TX0 7, w ∈ wsX3_box := by decide +kernel
theorem gfX3_box_45 : gF wsX3_box RX3 45 0 6 RX0 TX0 7 := ⟨giX3_box_X0, by decide +kernel, rfl, by decide⟩
set_option maxHeartbeats 4000000 in
set_option maxRecDepth 100000 in
theorem sgX3_box_0 {X : gX} {ad : Nat → Nat} {cA : Nat → ClassId} {post : Int32 → ((Int32) × (Nat → Int32) × (Nat → Int32) × (Nat → Int32) × (Nat → Int32) × (Nat → Int32) × (Int32)) → Prop} {p1 : Int32} {p2 : Int32} {p3 : Int32} {S_asked : Int64} {C_size : Int32} {C_sides : Nat → Int32} {C_held : Nat → Int32} {C_prices : Nat → Int32} {C_places : Nat → Int32} {C_beyond : Nat → Int32} {F_queued : Int32} {F_settled : Int32} {F_settledRise : Int32} {F_amount : Int64} {F_lowest : Int64} {F_highest : Int64} (C : gC X (gT cA) cX3_box 4 RX3 wsX3_box rmX3_box) (E : gEi X (some .int) (gT cA) 0 0 post (w1X3_box ad cA S_asked F_queued F_settledRise F_amount F_lowest F_highest)) (h : ((fnX3_within p1 (1 : Int32) (4 : Int32)) = false → post (-1 : Int32) (C_size, C_sides, C_held, C_prices, C_places, C_beyond, F_settled)) ∧ ((fnX3_within p1 (1 : Int32) (4 : Int32)) = true → ((fnX3_within p2 (1 : Int32) (4 : Int32)) = false → post (-1 : Int32) (C_size, C_sides, C_held, C_prices, C_places, C_beyond, F_settled)) ∧ ((fnX3_within p2 (1 : Int32) (4 : Int32)) = true → ((fnX3_within p3 (1 : Int32) (4 : Int32)) = false → post (-1 : Int32) (C_size, C_sides, C_held, C_prices, C_places, C_beyond, F_settled)) ∧ ((fnX3_within p3 (1 : Int32) (4 : Int32)) = true → (((p1 * p2) * p3) ≤ (36 : Int32) → prX0_lay p1 p2 p3 C_size C_sides C_held C_prices C_places C_beyond ∧ ∀ (u9_C_size : Int32) (u9_C_sides : Nat → Int32) (u9_C_held : Nat → Int32) (u9_C_prices : Nat → Int32) (u9_C_places : Nat → Int32) (u9_C_beyond : Nat → Int32), po_X0_lay ad cA p1 p2 p3 C_size C_sides C_held C_prices C_places C_beyond (u9_C_size, u9_C_sides, u9_C_held, u9_C_prices, u9_C_places, u9_C_beyond) → post u9_C_size (u9_C_size, u9_C_sides, u9_C_held, u9_C_prices, u9_C_places, u9_C_beyond, (fuX1_forget F_queued F_settled F_settledRise F_amount F_lowest F_highest))) ∧ (¬ ((p1 * p2) * p3) ≤ (36 : Int32) → post (-1 : Int32) (C_size, C_sides, C_held, C_prices, C_places, C_beyond, F_settled)))))) : atX3_box_0 X ad cA p1 p2 p3 S_asked C_size C_sides C_held C_prices C_places C_beyond F_queued F_settled F_settledRise F_amount F_lowest F_highest := by
  refine g_iload_n C dX3_box_0 rfl 1 rfl ?_
  refine g_iconst C dX3_box_1 ik_1 ?_
  refine g_iconst C dX3_box_2 ik_4 ?_
  refine g_callSi (b := 0) (wr := [((ad 0), .inr (3, [.ref (ad 8), .ref (ad 1), .ref (ad 15), .long S_asked])), ((ad 1), .inr (0, [.ref (ad 2), .ref (ad 3), .ref (ad 4), .ref (ad 5), .ref (ad 6), .ref (ad 7), .int C_size])), ((ad 2), .inl (cA 0, 3, .inl C_sides)), ((ad 3), .inl (cA 0, 36, .inl C_held)), ((ad 4), .inl (cA 0, 36, .inl C_prices)), ((ad 6), .inl (cA 0, 108, .inl C_places)), ((ad 7), .inl (cA 0, 216, .inl C_beyond)), ((ad 8), .inr (1, [.ref (ad 1), .ref (ad 9), .ref (ad 10), .ref (ad 11), .ref (ad 12), .ref (ad 13), .ref (ad 14), .int F_queued, .int F_settled, .int F_settledRise, .long F_amount, .long F_lowest, .long F_highest]))]) C (c_X3_within ad cA p1 (1 : Int32) (4 : Int32)) gX3_box_X3_within rfl hde_X3_within ⟨rfl, rfl⟩ (by decide) (by decide) [] [0, 1, 2, 3, 4, 5, 6, 7] [0, 1, 2, 3, 4, 5, 6, 7] rfl rfl rfl rfl (by decide) rfl (ws2 := fun u => [((ad 0), .inr (3, [.ref (ad 8), .ref (ad 1), .ref (ad 15), .long S_asked])), ((ad 1), .inr (0, [.ref (ad 2), .ref (ad 3), .ref (ad 4), .ref (ad 5), .ref (ad 6), .ref (ad 7), .int C_size])), ((ad 2), .inl (cA 0, 3, .inl C_sides)), ((ad 3), .inl (cA 0, 36, .inl C_held)), ((ad 4), .inl (cA 0, 36, .inl C_prices)), ((ad 6), .inl (cA 0, 108, .inl C_places)), ((ad 7), .inl (cA 0, 216, .inl C_beyond)), ((ad 8), .inr (1, [.ref (ad 1), .ref (ad 9), .ref (ad 10), .ref (ad 11), .ref (ad 12), .ref (ad 13), .ref (ad 14), .int F_queued, .int F_settled, .int F_settledRise, .long F_amount, .long F_lowest, .long F_highest]))]) (fun _ => rfl) (rest := []) rfl (Nat.le_of_ble_eq_true rfl) dX3_box_3 (fun r_1 u_1 hp_1 => ?_)
  subst hp_1
  change gW X 0 0 [((ad 0), .inr (3, [.ref (ad 8), .ref (ad 1), .ref (ad 15), .long S_asked])), ((ad 1), .inr (0, [.ref (ad 2), .ref (ad 3), .ref (ad 4), .ref (ad 5), .ref (ad 6), .ref (ad 7), .int C_size])), ((ad 2), .inl (cA 0, 3, .inl C_sides)), ((ad 3), .inl (cA 0, 36, .inl C_held)), ((ad 4), .inl (cA 0, 36, .inl C_prices)), ((ad 6), .inl (cA 0, 108, .inl C_places)), ((ad 7), .inl (cA 0, 216, .inl C_beyond)), ((ad 8), .inr (1, [.ref (ad 1), .ref (ad 9), .ref (ad 10), .ref (ad 11), .ref (ad 12), .ref (ad 13), .ref (ad 14), .int F_queued, .int F_settled, .int F_settledRise, .long F_amount, .long F_lowest, .long F_highest]))] 4 [(0, .ref (ad 0)), (1, .int p1), (2, .int p2), (3, .int p3)] [.int (bI (fnX3_within p1 (1 : Int32) (4 : Int32)))] 6
  refine g_ifeq_b (tgt := 37) C dX3_box_6 (by decide) (fun c_2 => ?_) (fun c_2 => ?_)
  · replace h := h.1 c_2
    refine g_iconst C dX3_box_37 ik_m1 ?_
    exact g_iret C E (C_size, C_sides, C_held, C_prices, C_places, C_beyond, F_settled) h rfl dX3_box_38
  · replace h := h.2 c_2
    refine g_iload_n C dX3_box_9 rfl 2 rfl ?_
    refine g_iconst C dX3_box_10 ik_1 ?_
    refine g_iconst C dX3_box_11 ik_4 ?_
    refine g_callSi (b := 0) (wr := [((ad 0), .inr (3, [.ref (ad 8), .ref (ad 1), .ref (ad 15), .long S_asked])), ((ad 1), .inr (0, [.ref (ad 2), .ref (ad 3), .ref (ad 4), .ref (ad 5), .ref (ad 6), .ref (ad 7), .int C_size])), ((ad 2), .inl (cA 0, 3, .inl C_sides)), ((ad 3), .inl (cA 0, 36, .inl C_held)), ((ad 4), .inl (cA 0, 36, .inl C_prices)), ((ad 6), .inl (cA 0, 108, .inl C_places)), ((ad 7), .inl (cA 0, 216, .inl C_beyond)), ((ad 8), .inr (1, [.ref (ad 1), .ref (ad 9), .ref (ad 10), .ref (ad 11), .ref (ad 12), .ref (ad 13), .ref (ad 14), .int F_queued, .int F_settled, .int F_settledRise, .long F_amount, .long F_lowest, .long F_highest]))]) C (c_X3_within ad cA p2 (1 : Int32) (4 : Int32)) gX3_box_X3_within rfl hde_X3_within ⟨rfl, rfl⟩ (by decide) (by decide) [] [0, 1, 2, 3, 4, 5, 6, 7] [0, 1, 2, 3, 4, 5, 6, 7] rfl rfl rfl rfl (by decide) rfl (ws2 := fun u => [((ad 0), .inr (3, [.ref (ad 8), .ref (ad 1), .ref (ad 15), .long S_asked])), ((ad 1), .inr (0, [.ref (ad 2), .ref (ad 3), .ref (ad 4), .ref (ad 5), .ref (ad 6), .ref (ad 7), .int C_size])), ((ad 2), .inl (cA 0, 3, .inl C_sides)), ((ad 3), .inl (cA 0, 36, .inl C_held)), ((ad 4), .inl (cA 0, 36, .inl C_prices)), ((ad 6), .inl (cA 0, 108, .inl C_places)), ((ad 7), .inl (cA 0, 216, .inl C_beyond)), ((ad 8), .inr (1, [.ref (ad 1), .ref (ad 9), .ref (ad 10), .ref (ad 11), .ref (ad 12), .ref (ad 13), .ref (ad 14), .int F_queued, .int F_settled, .int F_settledRise, .long F_amount, .long F_lowest, .long F_highest]))]) (fun _ => rfl) (rest := []) rfl (Nat.le_of_ble_eq_true rfl) dX3_box_12 (fun r_3 u_3 hp_3 => ?_)
    subst hp_3
    change gW X 0 0 [((ad 0), .inr (3, [.ref (ad 8), .ref (ad 1), .ref (ad 15), .long S_asked])), ((ad 1), .inr (0, [.ref (ad 2), .ref (ad 3), .ref (ad 4), .ref (ad 5), .ref (ad 6), .ref (ad 7), .int C_size])), ((ad 2), .inl (cA 0, 3, .inl C_sides)), ((ad 3), .inl (cA 0, 36, .inl C_held)), ((ad 4), .inl (cA 0, 36, .inl C_prices)), ((ad 6), .inl (cA 0, 108, .inl C_places)), ((ad 7), .inl (cA 0, 216, .inl C_beyond)), ((ad 8), .inr (1, [.ref (ad 1), .ref (ad 9), .ref (ad 10), .ref (ad 11), .ref (ad 12), .ref (ad 13), .ref (ad 14), .int F_queued, .int F_settled, .int F_settledRise, .long F_amount, .long F_lowest, .long F_highest]))] 4 [(0, .ref (ad 0)), (1, .int p1), (2, .int p2), (3, .int p3)] [.int (bI (fnX3_within p2 (1 : Int32) (4 : Int32)))] 15
    refine g_ifeq_b (tgt := 37) C dX3_box_15 (by decide) (fun c_4 => ?_) (fun c_4 => ?_)
    · replace h := h.1 c_4
      refine g_iconst C dX3_box_37 ik_m1 ?_
      exact g_iret C E (C_size, C_sides, C_held, C_prices, C_places, C_beyond, F_settled) h rfl dX3_box_38
    · replace h := h.2 c_4
      refine g_iload_n C dX3_box_18 rfl 3 rfl ?_
      refine g_iconst C dX3_box_19 ik_1 ?_
      refine g_iconst C dX3_box_20 ik_4 ?_
      refine g_callSi (b := 0) (wr := [((ad 0), .inr (3, [.ref (ad 8), .ref (ad 1), .ref (ad 15), .long S_asked])), ((ad 1), .inr (0, [.ref (ad 2), .ref (ad 3), .ref (ad 4), .ref (ad 5), .ref (ad 6), .ref (ad 7), .int C_size])), ((ad 2), .inl (cA 0, 3, .inl C_sides)), ((ad 3), .inl (cA 0, 36, .inl C_held)), ((ad 4), .inl (cA 0, 36, .inl C_prices)), ((ad 6), .inl (cA 0, 108, .inl C_places)), ((ad 7), .inl (cA 0, 216, .inl C_beyond)), ((ad 8), .inr (1, [.ref (ad 1), .ref (ad 9), .ref (ad 10), .ref (ad 11), .ref (ad 12), .ref (ad 13), .ref (ad 14), .int F_queued, .int F_settled, .int F_settledRise, .long F_amount, .long F_lowest, .long F_highest]))]) C (c_X3_within ad cA p3 (1 : Int32) (4 : Int32)) gX3_box_X3_within rfl hde_X3_within ⟨rfl, rfl⟩ (by decide) (by decide) [] [0, 1, 2, 3, 4, 5, 6, 7] [0, 1, 2, 3, 4, 5, 6, 7] rfl rfl rfl rfl (by decide) rfl (ws2 := fun u => [((ad 0), .inr (3, [.ref (ad 8), .ref (ad 1), .ref (ad 15), .long S_asked])), ((ad 1), .inr (0, [.ref (ad 2), .ref (ad 3), .ref (ad 4), .ref (ad 5), .ref (ad 6), .ref (ad 7), .int C_size])), ((ad 2), .inl (cA 0, 3, .inl C_sides)), ((ad 3), .inl (cA 0, 36, .inl C_held)), ((ad 4), .inl (cA 0, 36, .inl C_prices)), ((ad 6), .inl (cA 0, 108, .inl C_places)), ((ad 7), .inl (cA 0, 216, .inl C_beyond)), ((ad 8), .inr (1, [.ref (ad 1), .ref (ad 9), .ref (ad 10), .ref (ad 11), .ref (ad 12), .ref (ad 13), .ref (ad 14), .int F_queued, .int F_settled, .int F_settledRise, .long F_amount, .long F_lowest, .long F_highest]))]) (fun _ => rfl) (rest := []) rfl (Nat.le_of_ble_eq_true rfl) dX3_box_21 (fun r_5 u_5 hp_5 => ?_)
      subst hp_5
      change gW X 0 0 [((ad 0), .inr (3, [.ref (ad 8), .ref (ad 1), .ref (ad 15), .long S_asked])), ((ad 1), .inr (0, [.ref (ad 2), .ref (ad 3), .ref (ad 4), .ref (ad 5), .ref (ad 6), .ref (ad 7), .int C_size])), ((ad 2), .inl (cA 0, 3, .inl C_sides)), ((ad 3), .inl (cA 0, 36, .inl C_held)), ((ad 4), .inl (cA 0, 36, .inl C_prices)), ((ad 6), .inl (cA 0, 108, .inl C_places)), ((ad 7), .inl (cA 0, 216, .inl C_beyond)), ((ad 8), .inr (1, [.ref (ad 1), .ref (ad 9), .ref (ad 10), .ref (ad 11), .ref (ad 12), .ref (ad 13), .ref (ad 14), .int F_queued, .int F_settled, .int F_settledRise, .long F_amount, .long F_lowest, .long F_highest]))] 4 [(0, .ref (ad 0)), (1, .int p1), (2, .int p2), (3, .int p3)] [.int (bI (fnX3_within p3 (1 : Int32) (4 : Int32)))] 24
      refine g_ifeq_b (tgt := 37) C dX3_box_24 (by decide) (fun c_6 => ?_) (fun c_6 => ?_)
      · replace h := h.1 c_6
        refine g_iconst C dX3_box_37 ik_m1 ?_
        exact g_iret C E (C_size, C_sides, C_held, C_prices, C_places, C_beyond, F_settled) h rfl dX3_box_38
      · replace h := h.2 c_6
        refine g_iload_n C dX3_box_27 rfl 1 rfl ?_
        refine g_iload_n C dX3_box_28 rfl 2 rfl ?_
        refine g_imul C dX3_box_29 ?_
        refine g_iload_n C dX3_box_30 rfl 3 rfl ?_
        refine g_imul C dX3_box_31 ?_
        refine g_bipush C dX3_box_32 bk_36 ?_
        refine g_icmp_le (tgt := 39) C dX3_box_34 (by decide) (fun c_7 => ?_) (fun c_7 => ?_)
        · replace h := h.1 c_7
          refine g_aload_n C dX3_box_39 rfl 0 rfl ?_
          refine g_get C gfX3_box_20 0 rfl rfl dX3_box_40 ?_
          refine g_iload_n C dX3_box_43 rfl 1 rfl ?_
          refine g_iload_n C dX3_box_44 rfl 2 rfl ?_
          refine g_iload_n C dX3_box_45 rfl 3 rfl ?_
          obtain ⟨hi_8, h⟩ := h
          refine g_callVv (wr := [((ad 0), .inr (3, [.ref (ad 8), .ref (ad 1), .ref (ad 15), .long S_asked])), ((ad 8), .inr (1, [.ref (ad 1), .ref (ad 9), .ref (ad 10), .ref (ad 11), .ref (ad 12), .ref (ad 13), .ref (ad 14), .int F_queued, .int F_settled, .int F_settledRise, .long F_amount, .long F_lowest, .long F_highest]))]) C (c_X0_lay ad cA p1 p2 p3 C_size C_sides C_held C_prices C_places C_beyond hi_8) gX3_box_X0_lay rfl hde_X0_lay ⟨rfl, rfl⟩ (by decide) (by decide) [1, 2, 3, 4, 5, 6] [0, 7] [0, 2, 3, 4, 5, 6, 7, 1] rfl rfl rfl rfl (by decide) rfl (ws2 := fun u => [((ad 0), .inr (3, [.ref (ad 8), .ref (ad 1), .ref (ad 15), .long S_asked])), ((ad 1), .inr (0, [.ref (ad 2), .ref (ad 3), .ref (ad 4), .ref (ad 5), .ref (ad 6), .ref (ad 7), .int u.1])), ((ad 2), .inl (cA 0, 3, .inl u.2.1)), ((ad 3), .inl (cA 0, 36, .inl u.2.2.1)), ((ad 4), .inl (cA 0, 36, .inl u.2.2.2.1)), ((ad 6), .inl (cA 0, 108, .inl u.2.2.2.2.1)), ((ad 7), .inl (cA 0, 216, .inl u.2.2.2.2.2)), ((ad 8), .inr (1, [.ref (ad 1), .ref (ad 9), .ref (ad 10), .ref (ad 11), .ref (ad 12), .ref (ad 13), .ref (ad 14), .int F_queued, .int F_settled, .int F_settledRise, .long F_amount, .long F_lowest, .long F_highest]))]) (fun _ => rfl) 0 0 rfl rfl rfl (rest := []) rfl (Nat.le_of_ble_eq_true rfl) dX3_box_46 (fun u_9 hp_9 => ?_)
          obtain ⟨u9_C_size, u9_C_sides, u9_C_held, u9_C_prices, u9_C_places, u9_C_beyond⟩ := u_9
          replace h := h u9_C_size u9_C_sides u9_C_held u9_C_prices u9_C_places u9_C_beyond hp_9
          change gW X 0 0 [((ad 0), .inr (3, [.ref (ad 8), .ref (ad 1), .ref (ad 15), .long S_asked])), ((ad 1), .inr (0, [.ref (ad 2), .ref (ad 3), .ref (ad 4), .ref (ad 5), .ref (ad 6), .ref (ad 7), .int u9_C_size])), ((ad 2), .inl (cA 0, 3, .inl u9_C_sides)), ((ad 3), .inl (cA 0, 36, .inl u9_C_held)), ((ad 4), .inl (cA 0, 36, .inl u9_C_prices)), ((ad 6), .inl (cA 0, 108, .inl u9_C_places)), ((ad 7), .inl (cA 0, 216, .inl u9_C_beyond)), ((ad 8), .inr (1, [.ref (ad 1), .ref (ad 9), .ref (ad 10), .ref (ad 11), .ref (ad 12), .ref (ad 13), .ref (ad 14), .int F_queued, .int F_settled, .int F_settledRise, .long F_amount, .long F_lowest, .long F_highest]))] 4 [(0, .ref (ad 0)), (1, .int p1), (2, .int p2), (3, .int p3)] [] 49
          refine g_aload_n C dX3_box_49 rfl 0 rfl ?_
          refine g_get C gfX3_box_10 0 rfl rfl dX3_box_50 ?_
          refine g_callVv (wr := [((ad 0), .inr (3, [.ref (ad 8), .ref (ad 1), .ref (ad 15), .long S_asked])), ((ad 1), .inr (0, [.ref (ad 2), .ref (ad 3), .ref (ad 4), .ref (ad 5), .ref (ad 6), .ref (ad 7), .int u9_C_size])), ((ad 2), .inl (cA 0, 3, .inl u9_C_sides)), ((ad 3), .inl (cA 0, 36, .inl u9_C_held)), ((ad 4), .inl (cA 0, 36, .inl u9_C_prices)), ((ad 6), .inl (cA 0, 108, .inl u9_C_places)), ((ad 7), .inl (cA 0, 216, .inl u9_C_beyond))]) C (c_X1_forget ad cA F_queued F_settled F_settledRise F_amount F_lowest F_highest) gX3_box_X1_forget rfl hde_X1_forget ⟨rfl, rfl⟩ (by decide) (by decide) [7] [0, 1, 2, 3, 4, 5, 6] [0, 1, 2, 3, 4, 5, 6, 7] rfl rfl rfl rfl (by decide) rfl (ws2 := fun u => [((ad 0), .inr (3, [.ref (ad 8), .ref (ad 1), .ref (ad 15), .long S_asked])), ((ad 1), .inr (0, [.ref (ad 2), .ref (ad 3), .ref (ad 4), .ref (ad 5), .ref (ad 6), .ref (ad 7), .int u9_C_size])), ((ad 2), .inl (cA 0, 3, .inl u9_C_sides)), ((ad 3), .inl (cA 0, 36, .inl u9_C_held)), ((ad 4), .inl (cA 0, 36, .inl u9_C_prices)), ((ad 6), .inl (cA 0, 108, .inl u9_C_places)), ((ad 7), .inl (cA 0, 216, .inl u9_C_beyond)), ((ad 8), .inr (1, [.ref (ad 1), .ref (ad 9), .ref (ad 10), .ref (ad 11), .ref (ad 12), .ref (ad 13), .ref (ad 14), .int F_queued, .int u, .int F_settledRise, .long F_amount, .long F_lowest, .long F_highest]))]) (fun _ => rfl) 1 0 rfl rfl rfl (rest := []) rfl (Nat.le_of_ble_eq_true rfl) dX3_box_53 (fun u_10 hp_10 => ?_)
          subst hp_10
          change gW X 0 0 [((ad 0), .inr (3, [.ref (ad 8), .ref (ad 1), .ref (ad 15), .long S_asked])), ((ad 1), .inr (0, [.ref (ad 2), .ref (ad 3), .ref (ad 4), .ref (ad 5), .ref (ad 6), .ref (ad 7), .int u9_C_size])), ((ad 2), .inl (cA 0, 3, .inl u9_C_sides)), ((ad 3), .inl (cA 0, 36, .inl u9_C_held)), ((ad 4), .inl (cA 0, 36, .inl u9_C_prices)), ((ad 6), .inl (cA 0, 108, .inl u9_C_places)), ((ad 7), .inl (cA 0, 216, .inl u9_C_beyond)), ((ad 8), .inr (1, [.ref (ad 1), .ref (ad 9), .ref (ad 10), .ref (ad 11), .ref (ad 12), .ref (ad 13), .ref (ad 14), .int F_queued, .int (fuX1_forget F_queued F_settled F_settledRise F_amount F_lowest F_highest), .int F_settledRise, .long F_amount, .long F_lowest, .long F_highest]))] 4 [(0, .ref (ad 0)), (1, .int p1), (2, .int p2), (3, .int p3)] [] 56
          refine g_aload_n C dX3_box_56 rfl 0 rfl ?_
          refine g_get C gfX3_box_20 0 rfl rfl dX3_box_57 ?_
          refine g_get C gfX3_box_45 1 rfl rfl dX3_box_60 ?_
          exact g_iret C E (u9_C_size, u9_C_sides, u9_C_held, u9_C_prices, u9_C_places, u9_C_beyond, (fuX1_forget F_queued F_settled F_settledRise F_amount F_lowest F_highest)) h rfl dX3_box_63
        · replace h := h.2 c_7
          refine g_iconst C dX3_box_37 ik_m1 ?_
          exact g_iret C E (C_size, C_sides, C_held, C_prices, C_places, C_beyond, F_settled) h rfl dX3_box_38
def po_X3_box (ad : Nat → Nat) (cA : Nat → ClassId) (p1 : Int32) (p2 : Int32) (p3 : Int32) (S_asked : Int64) (C_size : Int32) (C_sides : Nat → Int32) (C_held : Nat → Int32) (C_prices : Nat → Int32) (C_places : Nat → Int32) (C_beyond : Nat → Int32) (F_queued : Int32) (F_settled : Int32) (F_settledRise : Int32) (F_amount : Int64) (F_lowest : Int64) (F_highest : Int64) (r : Int32) (u : (Int32) × (Nat → Int32) × (Nat → Int32) × (Nat → Int32) × (Nat → Int32) × (Nat → Int32) × (Int32)) : Prop := (∀ X Y Z, dimOK X Y Z → p1 = nI X → p2 = nI Y → p3 = nI Z → r = p1 * p2 * p3 ∧ u.1 = nI (X * Y * Z) ∧ u.2.1 = sd3 C_sides p1 p2 p3 ∧ u.2.2.1 = fillA 36 0 C_held ∧ u.2.2.2.1 = fillA 36 0 C_prices ∧ geoOK X Y Z u.2.2.2.2.1 u.2.2.2.2.2.1 ∧ u.2.2.2.2.2.2 = 0) ∧ (¬ boxOK p1 p2 p3 → r = -1 ∧ u = (C_size, C_sides, C_held, C_prices, C_places, C_beyond, F_settled))
set_option maxHeartbeats 4000000 in
set_option maxRecDepth 100000 in
theorem c_X3_box (ad : Nat → Nat) (cA : Nat → ClassId) (p1 : Int32) (p2 : Int32) (p3 : Int32) (S_asked : Int64) (C_size : Int32) (C_sides : Nat → Int32) (C_held : Nat → Int32) (C_prices : Nat → Int32) (C_places : Nat → Int32) (C_beyond : Nat → Int32) (F_queued : Int32) (F_settled : Int32) (F_settledRise : Int32) (F_amount : Int64) (F_lowest : Int64) (F_highest : Int64) : ∀ (l : Launch) (D : va_G), gMi (S := (Int32) × (Nat → Int32) × (Nat → Int32) × (Nat → Int32) × (Nat → Int32) × (Nat → Int32) × (Int32)) l yX3_box wsX3_box rmX3_box D (gT cA) 0 0 [.ref (ad 0), .int p1, .int p2, .int p3] (wcX3_box ad cA S_asked C_size C_sides C_held C_prices C_places C_beyond F_queued F_settled F_settledRise F_amount F_lowest F_highest) (po_X3_box ad cA p1 p2 p3 S_asked C_size C_sides C_held C_prices C_places C_beyond F_queued F_settled F_settledRise F_amount F_lowest F_highest) (w1X3_box ad cA S_asked F_queued F_settledRise F_amount F_lowest F_highest) := by
  intro l D
  refine g_enteri (cc := cX3_box) (nL := 4) (ret := (some .int)) (by decide) rfl (Nat.le_of_ble_eq_true rfl) rfl (fun X C E => ?_)
  have no : ¬ boxOK p1 p2 p3 → po_X3_box ad cA p1 p2 p3 S_asked C_size C_sides C_held C_prices C_places C_beyond F_queued F_settled F_settledRise F_amount F_lowest F_highest (-1) (C_size, C_sides, C_held, C_prices, C_places, C_beyond, F_settled) := fun h => ⟨fun X Y Z h1 h2 h3 h4 => absurd ⟨X, Y, Z, h1, h2, h3, h4⟩ h, fun _ => ⟨rfl, rfl⟩⟩
  refine sgX3_box_0 C E ⟨fun c => no (fun q => ?_), fun c1 => ⟨fun c => no (fun q => ?_), fun c2 => ⟨fun c => no (fun q => ?_), fun c3 => ⟨fun c4 => ?_, fun c => no (fun q => ?_)⟩⟩⟩⟩
  · exact wi_f c ((box_iff _ _ _).mp q).1
  · exact wi_f c ((box_iff _ _ _).mp q).2.1
  · exact wi_f c ((box_iff _ _ _).mp q).2.2.1
  · have hb : boxOK p1 p2 p3 := (box_iff _ _ _).mpr ⟨wi_t c1, wi_t c2, wi_t c3, c4⟩
    refine ⟨hb, fun sz sd hd pr pl be h => ⟨fun X Y Z h1 h2 h3 h4 => ?_, fun q => absurd hb q⟩⟩
    obtain ⟨e1, e2, e3, e4, e5⟩ := h X Y Z h1 h2 h3 h4
    dsimp only at e1 e2 e3 e4 e5
    refine ⟨?_, e1, e2, e3, e4, e5, rfl⟩
    rw [e1, h2, h3, h4, pk_mul, pk_mul]
  · exact c ((box_iff _ _ _).mp q).2.2.2


abbrev w1X3_hold (ad : Nat → Nat) (cA : Nat → ClassId) (S_asked : Int64) (C_size : Int32) (F_queued : Int32) (F_settledRise : Int32) (F_amount : Int64) (F_lowest : Int64) (F_highest : Int64) (u : (Nat → Int32) × (Int32)) : va_W := [((ad 0), .inr (3, [.ref (ad 8), .ref (ad 1), .ref (ad 15), .long S_asked])), ((ad 1), .inr (0, [.ref (ad 2), .ref (ad 3), .ref (ad 4), .ref (ad 5), .ref (ad 6), .ref (ad 7), .int C_size])), ((ad 3), .inl (cA 0, 36, .inl u.1)), ((ad 8), .inr (1, [.ref (ad 1), .ref (ad 9), .ref (ad 10), .ref (ad 11), .ref (ad 12), .ref (ad 13), .ref (ad 14), .int F_queued, .int u.2, .int F_settledRise, .long F_amount, .long F_lowest, .long F_highest]))]
abbrev wcX3_hold (ad : Nat → Nat) (cA : Nat → ClassId) (S_asked : Int64) (C_size : Int32) (C_held : Nat → Int32) (F_queued : Int32) (F_settled : Int32) (F_settledRise : Int32) (F_amount : Int64) (F_lowest : Int64) (F_highest : Int64) : va_W := [((ad 0), .inr (3, [.ref (ad 8), .ref (ad 1), .ref (ad 15), .long S_asked])), ((ad 1), .inr (0, [.ref (ad 2), .ref (ad 3), .ref (ad 4), .ref (ad 5), .ref (ad 6), .ref (ad 7), .int C_size])), ((ad 3), .inl (cA 0, 36, .inl C_held)), ((ad 8), .inr (1, [.ref (ad 1), .ref (ad 9), .ref (ad 10), .ref (ad 11), .ref (ad 12), .ref (ad 13), .ref (ad 14), .int F_queued, .int F_settled, .int F_settledRise, .long F_amount, .long F_lowest, .long F_highest]))]
def rmX3_hold : Room := { frames := 1, cells := 0, slots := 0, locals := 22 }
abbrev atX3_hold_0 (X : gX) (ad : Nat → Nat) (cA : Nat → ClassId) (p1 : Int32) (p2 : Int32) (S_asked : Int64) (C_size : Int32) (C_held : Nat → Int32) (F_queued : Int32) (F_settled : Int32) (F_settledRise : Int32) (F_amount : Int64) (F_lowest : Int64) (F_highest : Int64) : Prop := gW X 0 0 [((ad 0), .inr (3, [.ref (ad 8), .ref (ad 1), .ref (ad 15), .long S_asked])), ((ad 1), .inr (0, [.ref (ad 2), .ref (ad 3), .ref (ad 4), .ref (ad 5), .ref (ad 6), .ref (ad 7), .int C_size])), ((ad 3), .inl (cA 0, 36, .inl C_held)), ((ad 8), .inr (1, [.ref (ad 1), .ref (ad 9), .ref (ad 10), .ref (ad 11), .ref (ad 12), .ref (ad 13), .ref (ad 14), .int F_queued, .int F_settled, .int F_settledRise, .long F_amount, .long F_lowest, .long F_highest]))] 4 [(0, .ref (ad 0)), (1, .int p1), (2, .int p2)] [] 0
theorem giX3_hold_X3 : ∀ w ∈ u_ws RX3 TX3 4, w ∈ wsX3_hold := by decide +kernel
theorem gfX3_hold_20 : gF wsX3_hold RX3 20 3 1 RX3 TX3 4 := ⟨giX3_hold_X3, by decide +kernel, rfl, by decide⟩
theorem giX3_hold_X0 : ∀ w ∈ u_ws RX0 TX0 7, w ∈ wsX3_hold := by decide +kernel
theorem gfX3_hold_53 : gF wsX3_hold RX3 53 0 1 RX0 TX0 7 := ⟨giX3_hold_X0, by decide +kernel, rfl, by decide⟩
theorem gfX3_hold_10 : gF wsX3_hold RX3 10 3 0 RX3 TX3 4 := ⟨giX3_hold_X3, by decide +kernel, rfl, by decide⟩
set_option maxHeartbeats 4000000 in
set_option maxRecDepth 100000 in
theorem sgX3_hold_0 {X : gX} {ad : Nat → Nat} {cA : Nat → ClassId} {post : Int32 → ((Nat → Int32) × (Int32)) → Prop} {p1 : Int32} {p2 : Int32} {S_asked : Int64} {C_size : Int32} {C_held : Nat → Int32} {F_queued : Int32} {F_settled : Int32} {F_settledRise : Int32} {F_amount : Int64} {F_lowest : Int64} {F_highest : Int64} (C : gC X (gT cA) cX3_hold 4 RX3 wsX3_hold rmX3_hold) (E : gEi X (some .int) (gT cA) 0 0 post (w1X3_hold ad cA S_asked C_size F_queued F_settledRise F_amount F_lowest F_highest)) (h : ((fnX0_has p1 C_size) = false → post (-1 : Int32) (C_held, F_settled)) ∧ ((fnX0_has p1 C_size) = true → ((fnX3_within p2 (0 : Int32) (2 : Int32)) = true → vp_in p1 36 ∧ vp_in p1 36 ∧ post (C_held p1.toNatClampNeg) ((upd C_held p1.toNatClampNeg p2), (fuX1_forget F_queued F_settled F_settledRise F_amount F_lowest F_highest))) ∧ ((fnX3_within p2 (0 : Int32) (2 : Int32)) = false → post (-1 : Int32) (C_held, F_settled)))) : atX3_hold_0 X ad cA p1 p2 S_asked C_size C_held F_queued F_settled F_settledRise F_amount F_lowest F_highest := by
  refine g_aload_n C dX3_hold_0 rfl 0 rfl ?_
  refine g_get C gfX3_hold_20 0 rfl rfl dX3_hold_1 ?_
  refine g_iload_n C dX3_hold_4 rfl 1 rfl ?_
  refine g_callVi (wr := [((ad 0), .inr (3, [.ref (ad 8), .ref (ad 1), .ref (ad 15), .long S_asked])), ((ad 3), .inl (cA 0, 36, .inl C_held)), ((ad 8), .inr (1, [.ref (ad 1), .ref (ad 9), .ref (ad 10), .ref (ad 11), .ref (ad 12), .ref (ad 13), .ref (ad 14), .int F_queued, .int F_settled, .int F_settledRise, .long F_amount, .long F_lowest, .long F_highest]))]) C (c_X0_has ad cA p1 C_size) gX3_hold_X0_has rfl hde_X0_has ⟨rfl, rfl⟩ (by decide) (by decide) [1] [0, 2, 3] [0, 3, 1, 2] rfl rfl rfl rfl (by decide) rfl (ws2 := fun u => [((ad 0), .inr (3, [.ref (ad 8), .ref (ad 1), .ref (ad 15), .long S_asked])), ((ad 1), .inr (0, [.ref (ad 2), .ref (ad 3), .ref (ad 4), .ref (ad 5), .ref (ad 6), .ref (ad 7), .int C_size])), ((ad 3), .inl (cA 0, 36, .inl C_held)), ((ad 8), .inr (1, [.ref (ad 1), .ref (ad 9), .ref (ad 10), .ref (ad 11), .ref (ad 12), .ref (ad 13), .ref (ad 14), .int F_queued, .int F_settled, .int F_settledRise, .long F_amount, .long F_lowest, .long F_highest]))]) (fun _ => rfl) 0 0 rfl rfl rfl (rest := []) rfl (Nat.le_of_ble_eq_true rfl) dX3_hold_5 (fun r_1 u_1 hp_1 => ?_)
  subst hp_1
  change gW X 0 0 [((ad 0), .inr (3, [.ref (ad 8), .ref (ad 1), .ref (ad 15), .long S_asked])), ((ad 1), .inr (0, [.ref (ad 2), .ref (ad 3), .ref (ad 4), .ref (ad 5), .ref (ad 6), .ref (ad 7), .int C_size])), ((ad 3), .inl (cA 0, 36, .inl C_held)), ((ad 8), .inr (1, [.ref (ad 1), .ref (ad 9), .ref (ad 10), .ref (ad 11), .ref (ad 12), .ref (ad 13), .ref (ad 14), .int F_queued, .int F_settled, .int F_settledRise, .long F_amount, .long F_lowest, .long F_highest]))] 4 [(0, .ref (ad 0)), (1, .int p1), (2, .int p2)] [.int (bI (fnX0_has p1 C_size))] 8
  refine g_ifeq_b (tgt := 20) C dX3_hold_8 (by decide) (fun c_2 => ?_) (fun c_2 => ?_)
  · replace h := h.1 c_2
    refine g_iconst C dX3_hold_20 ik_m1 ?_
    exact g_iret C E (C_held, F_settled) h rfl dX3_hold_21
  · replace h := h.2 c_2
    refine g_iload_n C dX3_hold_11 rfl 2 rfl ?_
    refine g_iconst C dX3_hold_12 ik_0 ?_
    refine g_iconst C dX3_hold_13 ik_2 ?_
    refine g_callSi (b := 0) (wr := [((ad 0), .inr (3, [.ref (ad 8), .ref (ad 1), .ref (ad 15), .long S_asked])), ((ad 1), .inr (0, [.ref (ad 2), .ref (ad 3), .ref (ad 4), .ref (ad 5), .ref (ad 6), .ref (ad 7), .int C_size])), ((ad 3), .inl (cA 0, 36, .inl C_held)), ((ad 8), .inr (1, [.ref (ad 1), .ref (ad 9), .ref (ad 10), .ref (ad 11), .ref (ad 12), .ref (ad 13), .ref (ad 14), .int F_queued, .int F_settled, .int F_settledRise, .long F_amount, .long F_lowest, .long F_highest]))]) C (c_X3_within ad cA p2 (0 : Int32) (2 : Int32)) gX3_hold_X3_within rfl hde_X3_within ⟨rfl, rfl⟩ (by decide) (by decide) [] [0, 1, 2, 3] [0, 1, 2, 3] rfl rfl rfl rfl (by decide) rfl (ws2 := fun u => [((ad 0), .inr (3, [.ref (ad 8), .ref (ad 1), .ref (ad 15), .long S_asked])), ((ad 1), .inr (0, [.ref (ad 2), .ref (ad 3), .ref (ad 4), .ref (ad 5), .ref (ad 6), .ref (ad 7), .int C_size])), ((ad 3), .inl (cA 0, 36, .inl C_held)), ((ad 8), .inr (1, [.ref (ad 1), .ref (ad 9), .ref (ad 10), .ref (ad 11), .ref (ad 12), .ref (ad 13), .ref (ad 14), .int F_queued, .int F_settled, .int F_settledRise, .long F_amount, .long F_lowest, .long F_highest]))]) (fun _ => rfl) (rest := []) rfl (Nat.le_of_ble_eq_true rfl) dX3_hold_14 (fun r_3 u_3 hp_3 => ?_)
    subst hp_3
    change gW X 0 0 [((ad 0), .inr (3, [.ref (ad 8), .ref (ad 1), .ref (ad 15), .long S_asked])), ((ad 1), .inr (0, [.ref (ad 2), .ref (ad 3), .ref (ad 4), .ref (ad 5), .ref (ad 6), .ref (ad 7), .int C_size])), ((ad 3), .inl (cA 0, 36, .inl C_held)), ((ad 8), .inr (1, [.ref (ad 1), .ref (ad 9), .ref (ad 10), .ref (ad 11), .ref (ad 12), .ref (ad 13), .ref (ad 14), .int F_queued, .int F_settled, .int F_settledRise, .long F_amount, .long F_lowest, .long F_highest]))] 4 [(0, .ref (ad 0)), (1, .int p1), (2, .int p2)] [.int (bI (fnX3_within p2 (0 : Int32) (2 : Int32)))] 17
    refine g_ifne_b (tgt := 22) C dX3_hold_17 (by decide) (fun c_4 => ?_) (fun c_4 => ?_)
    · replace h := h.1 c_4
      refine g_aload_n C dX3_hold_22 rfl 0 rfl ?_
      refine g_get C gfX3_hold_20 0 rfl rfl dX3_hold_23 ?_
      refine g_get C gfX3_hold_53 1 rfl rfl dX3_hold_26 ?_
      refine g_iload_n C dX3_hold_29 rfl 1 rfl ?_
      obtain ⟨hi_5, h⟩ := h
      refine g_iald C 2 0 rfl rfl hi_5 dX3_hold_30 ?_
      refine g_istore_n (lv2 := [(0, .ref (ad 0)), (1, .int p1), (2, .int p2), (3, .int (C_held p1.toNatClampNeg))]) C dX3_hold_31 rfl (by decide) [1, 2, 3, 0] rfl ?_
      refine g_aload_n C dX3_hold_32 rfl 0 rfl ?_
      refine g_get C gfX3_hold_20 0 rfl rfl dX3_hold_33 ?_
      refine g_get C gfX3_hold_53 1 rfl rfl dX3_hold_36 ?_
      refine g_iload_n C dX3_hold_39 rfl 1 rfl ?_
      refine g_iload_n C dX3_hold_40 rfl 2 rfl ?_
      obtain ⟨hi_6, h⟩ := h
      refine g_iast (ws2 := [((ad 0), .inr (3, [.ref (ad 8), .ref (ad 1), .ref (ad 15), .long S_asked])), ((ad 1), .inr (0, [.ref (ad 2), .ref (ad 3), .ref (ad 4), .ref (ad 5), .ref (ad 6), .ref (ad 7), .int C_size])), ((ad 3), .inl (cA 0, 36, .inl (upd C_held p1.toNatClampNeg p2))), ((ad 8), .inr (1, [.ref (ad 1), .ref (ad 9), .ref (ad 10), .ref (ad 11), .ref (ad 12), .ref (ad 13), .ref (ad 14), .int F_queued, .int F_settled, .int F_settledRise, .long F_amount, .long F_lowest, .long F_highest]))]) C 2 0 rfl rfl hi_6 rfl dX3_hold_41 ?_
      refine g_aload_n C dX3_hold_42 rfl 0 rfl ?_
      refine g_get C gfX3_hold_10 0 rfl rfl dX3_hold_43 ?_
      refine g_callVv (wr := [((ad 0), .inr (3, [.ref (ad 8), .ref (ad 1), .ref (ad 15), .long S_asked])), ((ad 1), .inr (0, [.ref (ad 2), .ref (ad 3), .ref (ad 4), .ref (ad 5), .ref (ad 6), .ref (ad 7), .int C_size])), ((ad 3), .inl (cA 0, 36, .inl (upd C_held p1.toNatClampNeg p2)))]) C (c_X1_forget ad cA F_queued F_settled F_settledRise F_amount F_lowest F_highest) gX3_hold_X1_forget rfl hde_X1_forget ⟨rfl, rfl⟩ (by decide) (by decide) [3] [0, 1, 2] [0, 1, 2, 3] rfl rfl rfl rfl (by decide) rfl (ws2 := fun u => [((ad 0), .inr (3, [.ref (ad 8), .ref (ad 1), .ref (ad 15), .long S_asked])), ((ad 1), .inr (0, [.ref (ad 2), .ref (ad 3), .ref (ad 4), .ref (ad 5), .ref (ad 6), .ref (ad 7), .int C_size])), ((ad 3), .inl (cA 0, 36, .inl (upd C_held p1.toNatClampNeg p2))), ((ad 8), .inr (1, [.ref (ad 1), .ref (ad 9), .ref (ad 10), .ref (ad 11), .ref (ad 12), .ref (ad 13), .ref (ad 14), .int F_queued, .int u, .int F_settledRise, .long F_amount, .long F_lowest, .long F_highest]))]) (fun _ => rfl) 1 0 rfl rfl rfl (rest := []) rfl (Nat.le_of_ble_eq_true rfl) dX3_hold_46 (fun u_7 hp_7 => ?_)
      subst hp_7
      change gW X 0 0 [((ad 0), .inr (3, [.ref (ad 8), .ref (ad 1), .ref (ad 15), .long S_asked])), ((ad 1), .inr (0, [.ref (ad 2), .ref (ad 3), .ref (ad 4), .ref (ad 5), .ref (ad 6), .ref (ad 7), .int C_size])), ((ad 3), .inl (cA 0, 36, .inl (upd C_held p1.toNatClampNeg p2))), ((ad 8), .inr (1, [.ref (ad 1), .ref (ad 9), .ref (ad 10), .ref (ad 11), .ref (ad 12), .ref (ad 13), .ref (ad 14), .int F_queued, .int (fuX1_forget F_queued F_settled F_settledRise F_amount F_lowest F_highest), .int F_settledRise, .long F_amount, .long F_lowest, .long F_highest]))] 4 [(0, .ref (ad 0)), (1, .int p1), (2, .int p2), (3, .int (C_held p1.toNatClampNeg))] [] 49
      refine g_iload_n C dX3_hold_49 rfl 3 rfl ?_
      exact g_iret C E ((upd C_held p1.toNatClampNeg p2), (fuX1_forget F_queued F_settled F_settledRise F_amount F_lowest F_highest)) h rfl dX3_hold_50
    · replace h := h.2 c_4
      refine g_iconst C dX3_hold_20 ik_m1 ?_
      exact g_iret C E (C_held, F_settled) h rfl dX3_hold_21
def prX3_hold (dx : Nat) (dy : Nat) (dz : Nat) (p1 : Int32) (p2 : Int32) (S_asked : Int64) (C_size : Int32) (C_held : Nat → Int32) (F_queued : Int32) (F_settled : Int32) (F_settledRise : Int32) (F_amount : Int64) (F_lowest : Int64) (F_highest : Int64) : Prop := dimOK dx dy dz ∧ C_size = nI (dx * dy * dz)
def po_X3_hold (ad : Nat → Nat) (cA : Nat → ClassId) (dx : Nat) (dy : Nat) (dz : Nat) (p1 : Int32) (p2 : Int32) (S_asked : Int64) (C_size : Int32) (C_held : Nat → Int32) (F_queued : Int32) (F_settled : Int32) (F_settledRise : Int32) (F_amount : Int64) (F_lowest : Int64) (F_highest : Int64) (r : Int32) (u : (Nat → Int32) × (Int32)) : Prop := ((0 ≤ p1.toInt ∧ p1.toInt < (dx * dy * dz : Nat)) ∧ (0 ≤ p2.toInt ∧ p2.toInt ≤ 2) → r = C_held p1.toNatClampNeg ∧ u = (upd C_held p1.toNatClampNeg p2, 0)) ∧ (¬ ((0 ≤ p1.toInt ∧ p1.toInt < (dx * dy * dz : Nat)) ∧ (0 ≤ p2.toInt ∧ p2.toInt ≤ 2)) → r = -1 ∧ u = (C_held, F_settled))
set_option maxHeartbeats 4000000 in
set_option maxRecDepth 100000 in
theorem c_X3_hold (ad : Nat → Nat) (cA : Nat → ClassId) (dx : Nat) (dy : Nat) (dz : Nat) (p1 : Int32) (p2 : Int32) (S_asked : Int64) (C_size : Int32) (C_held : Nat → Int32) (F_queued : Int32) (F_settled : Int32) (F_settledRise : Int32) (F_amount : Int64) (F_lowest : Int64) (F_highest : Int64) (hq : prX3_hold dx dy dz p1 p2 S_asked C_size C_held F_queued F_settled F_settledRise F_amount F_lowest F_highest) : ∀ (l : Launch) (D : va_G), gMi (S := (Nat → Int32) × (Int32)) l yX3_hold wsX3_hold rmX3_hold D (gT cA) 0 0 [.ref (ad 0), .int p1, .int p2] (wcX3_hold ad cA S_asked C_size C_held F_queued F_settled F_settledRise F_amount F_lowest F_highest) (po_X3_hold ad cA dx dy dz p1 p2 S_asked C_size C_held F_queued F_settled F_settledRise F_amount F_lowest F_highest) (w1X3_hold ad cA S_asked C_size F_queued F_settledRise F_amount F_lowest F_highest) := by
  intro l D
  unfold prX3_hold at hq
  refine g_enteri (cc := cX3_hold) (nL := 4) (ret := (some .int)) (by decide) rfl (Nat.le_of_ble_eq_true rfl) rfl (fun X C E => ?_)
  obtain ⟨hd, rfl⟩ := hq
  have hV := hd.2.2.2.2.2.2
  refine sgX3_hold_0 C E ?_
  rw [has0_eq p1 hV]
  refine ⟨fun c => ⟨fun q => absurd q.1 (of_decide_eq_false c), fun _ => ⟨rfl, rfl⟩⟩, fun c => ?_⟩
  have c' := of_decide_eq_true c
  obtain ⟨j, hj, rfl⟩ := i_nat (n := 35) c'.1 (by omega)
  have v : vp_in (nI j) 36 := vp_in_nI (by omega) (by decide)
  exact ⟨fun c2 => ⟨v, v, fun _ => ⟨rfl, rfl⟩, fun q => absurd ⟨c', wi_t c2⟩ q⟩, fun c2 => ⟨fun q => absurd q.2 (wi_f c2), fun _ => ⟨rfl, rfl⟩⟩⟩


abbrev w1X3_price (ad : Nat → Nat) (cA : Nat → ClassId) (S_asked : Int64) (C_size : Int32) (F_queued : Int32) (F_settledRise : Int32) (F_amount : Int64) (F_lowest : Int64) (F_highest : Int64) (u : (Nat → Int32) × (Int32)) : va_W := [((ad 0), .inr (3, [.ref (ad 8), .ref (ad 1), .ref (ad 15), .long S_asked])), ((ad 1), .inr (0, [.ref (ad 2), .ref (ad 3), .ref (ad 4), .ref (ad 5), .ref (ad 6), .ref (ad 7), .int C_size])), ((ad 4), .inl (cA 0, 36, .inl u.1)), ((ad 8), .inr (1, [.ref (ad 1), .ref (ad 9), .ref (ad 10), .ref (ad 11), .ref (ad 12), .ref (ad 13), .ref (ad 14), .int F_queued, .int u.2, .int F_settledRise, .long F_amount, .long F_lowest, .long F_highest]))]
abbrev wcX3_price (ad : Nat → Nat) (cA : Nat → ClassId) (S_asked : Int64) (C_size : Int32) (C_prices : Nat → Int32) (F_queued : Int32) (F_settled : Int32) (F_settledRise : Int32) (F_amount : Int64) (F_lowest : Int64) (F_highest : Int64) : va_W := [((ad 0), .inr (3, [.ref (ad 8), .ref (ad 1), .ref (ad 15), .long S_asked])), ((ad 1), .inr (0, [.ref (ad 2), .ref (ad 3), .ref (ad 4), .ref (ad 5), .ref (ad 6), .ref (ad 7), .int C_size])), ((ad 4), .inl (cA 0, 36, .inl C_prices)), ((ad 8), .inr (1, [.ref (ad 1), .ref (ad 9), .ref (ad 10), .ref (ad 11), .ref (ad 12), .ref (ad 13), .ref (ad 14), .int F_queued, .int F_settled, .int F_settledRise, .long F_amount, .long F_lowest, .long F_highest]))]
def rmX3_price : Room := { frames := 1, cells := 0, slots := 0, locals := 22 }
abbrev atX3_price_0 (X : gX) (ad : Nat → Nat) (cA : Nat → ClassId) (p1 : Int32) (p2 : Int32) (S_asked : Int64) (C_size : Int32) (C_prices : Nat → Int32) (F_queued : Int32) (F_settled : Int32) (F_settledRise : Int32) (F_amount : Int64) (F_lowest : Int64) (F_highest : Int64) : Prop := gW X 0 0 [((ad 0), .inr (3, [.ref (ad 8), .ref (ad 1), .ref (ad 15), .long S_asked])), ((ad 1), .inr (0, [.ref (ad 2), .ref (ad 3), .ref (ad 4), .ref (ad 5), .ref (ad 6), .ref (ad 7), .int C_size])), ((ad 4), .inl (cA 0, 36, .inl C_prices)), ((ad 8), .inr (1, [.ref (ad 1), .ref (ad 9), .ref (ad 10), .ref (ad 11), .ref (ad 12), .ref (ad 13), .ref (ad 14), .int F_queued, .int F_settled, .int F_settledRise, .long F_amount, .long F_lowest, .long F_highest]))] 4 [(0, .ref (ad 0)), (1, .int p1), (2, .int p2)] [] 0
theorem cnX3_price_57 : Cond.constant RX3 57 (-1000000) ∈ wsX3_price := by decide +kernel
theorem giX3_price_X3 : ∀ w ∈ u_ws RX3 TX3 4, w ∈ wsX3_price := by decide +kernel
theorem gfX3_price_20 : gF wsX3_price RX3 20 3 1 RX3 TX3 4 := ⟨giX3_price_X3, by decide +kernel, rfl, by decide⟩
theorem giX3_price_X0 : ∀ w ∈ u_ws RX0 TX0 7, w ∈ wsX3_price := by decide +kernel
theorem gfX3_price_58 : gF wsX3_price RX3 58 0 2 RX0 TX0 7 := ⟨giX3_price_X0, by decide +kernel, rfl, by decide⟩
theorem gfX3_price_10 : gF wsX3_price RX3 10 3 0 RX3 TX3 4 := ⟨giX3_price_X3, by decide +kernel, rfl, by decide⟩
set_option maxHeartbeats 4000000 in
set_option maxRecDepth 100000 in
theorem sgX3_price_0 {X : gX} {ad : Nat → Nat} {cA : Nat → ClassId} {post : Int32 → ((Nat → Int32) × (Int32)) → Prop} {p1 : Int32} {p2 : Int32} {S_asked : Int64} {C_size : Int32} {C_prices : Nat → Int32} {F_queued : Int32} {F_settled : Int32} {F_settledRise : Int32} {F_amount : Int64} {F_lowest : Int64} {F_highest : Int64} (C : gC X (gT cA) cX3_price 4 RX3 wsX3_price rmX3_price) (E : gEi X (some .int) (gT cA) 0 0 post (w1X3_price ad cA S_asked C_size F_queued F_settledRise F_amount F_lowest F_highest)) (h : ((fnX0_has p1 C_size) = false → post (-1000000 : Int32) (C_prices, F_settled)) ∧ ((fnX0_has p1 C_size) = true → ((fnX3_within p2 (-20 : Int32) (20 : Int32)) = true → vp_in p1 36 ∧ vp_in p1 36 ∧ post (C_prices p1.toNatClampNeg) ((upd C_prices p1.toNatClampNeg p2), (fuX1_forget F_queued F_settled F_settledRise F_amount F_lowest F_highest))) ∧ ((fnX3_within p2 (-20 : Int32) (20 : Int32)) = false → post (-1000000 : Int32) (C_prices, F_settled)))) : atX3_price_0 X ad cA p1 p2 S_asked C_size C_prices F_queued F_settled F_settledRise F_amount F_lowest F_highest := by
  refine g_aload_n C dX3_price_0 rfl 0 rfl ?_
  refine g_get C gfX3_price_20 0 rfl rfl dX3_price_1 ?_
  refine g_iload_n C dX3_price_4 rfl 1 rfl ?_
  refine g_callVi (wr := [((ad 0), .inr (3, [.ref (ad 8), .ref (ad 1), .ref (ad 15), .long S_asked])), ((ad 4), .inl (cA 0, 36, .inl C_prices)), ((ad 8), .inr (1, [.ref (ad 1), .ref (ad 9), .ref (ad 10), .ref (ad 11), .ref (ad 12), .ref (ad 13), .ref (ad 14), .int F_queued, .int F_settled, .int F_settledRise, .long F_amount, .long F_lowest, .long F_highest]))]) C (c_X0_has ad cA p1 C_size) gX3_price_X0_has rfl hde_X0_has ⟨rfl, rfl⟩ (by decide) (by decide) [1] [0, 2, 3] [0, 3, 1, 2] rfl rfl rfl rfl (by decide) rfl (ws2 := fun u => [((ad 0), .inr (3, [.ref (ad 8), .ref (ad 1), .ref (ad 15), .long S_asked])), ((ad 1), .inr (0, [.ref (ad 2), .ref (ad 3), .ref (ad 4), .ref (ad 5), .ref (ad 6), .ref (ad 7), .int C_size])), ((ad 4), .inl (cA 0, 36, .inl C_prices)), ((ad 8), .inr (1, [.ref (ad 1), .ref (ad 9), .ref (ad 10), .ref (ad 11), .ref (ad 12), .ref (ad 13), .ref (ad 14), .int F_queued, .int F_settled, .int F_settledRise, .long F_amount, .long F_lowest, .long F_highest]))]) (fun _ => rfl) 0 0 rfl rfl rfl (rest := []) rfl (Nat.le_of_ble_eq_true rfl) dX3_price_5 (fun r_1 u_1 hp_1 => ?_)
  subst hp_1
  change gW X 0 0 [((ad 0), .inr (3, [.ref (ad 8), .ref (ad 1), .ref (ad 15), .long S_asked])), ((ad 1), .inr (0, [.ref (ad 2), .ref (ad 3), .ref (ad 4), .ref (ad 5), .ref (ad 6), .ref (ad 7), .int C_size])), ((ad 4), .inl (cA 0, 36, .inl C_prices)), ((ad 8), .inr (1, [.ref (ad 1), .ref (ad 9), .ref (ad 10), .ref (ad 11), .ref (ad 12), .ref (ad 13), .ref (ad 14), .int F_queued, .int F_settled, .int F_settledRise, .long F_amount, .long F_lowest, .long F_highest]))] 4 [(0, .ref (ad 0)), (1, .int p1), (2, .int p2)] [.int (bI (fnX0_has p1 C_size))] 8
  refine g_ifeq_b (tgt := 22) C dX3_price_8 (by decide) (fun c_2 => ?_) (fun c_2 => ?_)
  · replace h := h.1 c_2
    refine g_ldc C cnX3_price_57 dX3_price_22 ?_
    exact g_iret C E (C_prices, F_settled) h rfl dX3_price_24
  · replace h := h.2 c_2
    refine g_iload_n C dX3_price_11 rfl 2 rfl ?_
    refine g_bipush C dX3_price_12 bk_m20 ?_
    refine g_bipush C dX3_price_14 bk_20 ?_
    refine g_callSi (b := 0) (wr := [((ad 0), .inr (3, [.ref (ad 8), .ref (ad 1), .ref (ad 15), .long S_asked])), ((ad 1), .inr (0, [.ref (ad 2), .ref (ad 3), .ref (ad 4), .ref (ad 5), .ref (ad 6), .ref (ad 7), .int C_size])), ((ad 4), .inl (cA 0, 36, .inl C_prices)), ((ad 8), .inr (1, [.ref (ad 1), .ref (ad 9), .ref (ad 10), .ref (ad 11), .ref (ad 12), .ref (ad 13), .ref (ad 14), .int F_queued, .int F_settled, .int F_settledRise, .long F_amount, .long F_lowest, .long F_highest]))]) C (c_X3_within ad cA p2 (-20 : Int32) (20 : Int32)) gX3_price_X3_within rfl hde_X3_within ⟨rfl, rfl⟩ (by decide) (by decide) [] [0, 1, 2, 3] [0, 1, 2, 3] rfl rfl rfl rfl (by decide) rfl (ws2 := fun u => [((ad 0), .inr (3, [.ref (ad 8), .ref (ad 1), .ref (ad 15), .long S_asked])), ((ad 1), .inr (0, [.ref (ad 2), .ref (ad 3), .ref (ad 4), .ref (ad 5), .ref (ad 6), .ref (ad 7), .int C_size])), ((ad 4), .inl (cA 0, 36, .inl C_prices)), ((ad 8), .inr (1, [.ref (ad 1), .ref (ad 9), .ref (ad 10), .ref (ad 11), .ref (ad 12), .ref (ad 13), .ref (ad 14), .int F_queued, .int F_settled, .int F_settledRise, .long F_amount, .long F_lowest, .long F_highest]))]) (fun _ => rfl) (rest := []) rfl (Nat.le_of_ble_eq_true rfl) dX3_price_16 (fun r_3 u_3 hp_3 => ?_)
    subst hp_3
    change gW X 0 0 [((ad 0), .inr (3, [.ref (ad 8), .ref (ad 1), .ref (ad 15), .long S_asked])), ((ad 1), .inr (0, [.ref (ad 2), .ref (ad 3), .ref (ad 4), .ref (ad 5), .ref (ad 6), .ref (ad 7), .int C_size])), ((ad 4), .inl (cA 0, 36, .inl C_prices)), ((ad 8), .inr (1, [.ref (ad 1), .ref (ad 9), .ref (ad 10), .ref (ad 11), .ref (ad 12), .ref (ad 13), .ref (ad 14), .int F_queued, .int F_settled, .int F_settledRise, .long F_amount, .long F_lowest, .long F_highest]))] 4 [(0, .ref (ad 0)), (1, .int p1), (2, .int p2)] [.int (bI (fnX3_within p2 (-20 : Int32) (20 : Int32)))] 19
    refine g_ifne_b (tgt := 25) C dX3_price_19 (by decide) (fun c_4 => ?_) (fun c_4 => ?_)
    · replace h := h.1 c_4
      refine g_aload_n C dX3_price_25 rfl 0 rfl ?_
      refine g_get C gfX3_price_20 0 rfl rfl dX3_price_26 ?_
      refine g_get C gfX3_price_58 1 rfl rfl dX3_price_29 ?_
      refine g_iload_n C dX3_price_32 rfl 1 rfl ?_
      obtain ⟨hi_5, h⟩ := h
      refine g_iald C 2 0 rfl rfl hi_5 dX3_price_33 ?_
      refine g_istore_n (lv2 := [(0, .ref (ad 0)), (1, .int p1), (2, .int p2), (3, .int (C_prices p1.toNatClampNeg))]) C dX3_price_34 rfl (by decide) [1, 2, 3, 0] rfl ?_
      refine g_aload_n C dX3_price_35 rfl 0 rfl ?_
      refine g_get C gfX3_price_20 0 rfl rfl dX3_price_36 ?_
      refine g_get C gfX3_price_58 1 rfl rfl dX3_price_39 ?_
      refine g_iload_n C dX3_price_42 rfl 1 rfl ?_
      refine g_iload_n C dX3_price_43 rfl 2 rfl ?_
      obtain ⟨hi_6, h⟩ := h
      refine g_iast (ws2 := [((ad 0), .inr (3, [.ref (ad 8), .ref (ad 1), .ref (ad 15), .long S_asked])), ((ad 1), .inr (0, [.ref (ad 2), .ref (ad 3), .ref (ad 4), .ref (ad 5), .ref (ad 6), .ref (ad 7), .int C_size])), ((ad 4), .inl (cA 0, 36, .inl (upd C_prices p1.toNatClampNeg p2))), ((ad 8), .inr (1, [.ref (ad 1), .ref (ad 9), .ref (ad 10), .ref (ad 11), .ref (ad 12), .ref (ad 13), .ref (ad 14), .int F_queued, .int F_settled, .int F_settledRise, .long F_amount, .long F_lowest, .long F_highest]))]) C 2 0 rfl rfl hi_6 rfl dX3_price_44 ?_
      refine g_aload_n C dX3_price_45 rfl 0 rfl ?_
      refine g_get C gfX3_price_10 0 rfl rfl dX3_price_46 ?_
      refine g_callVv (wr := [((ad 0), .inr (3, [.ref (ad 8), .ref (ad 1), .ref (ad 15), .long S_asked])), ((ad 1), .inr (0, [.ref (ad 2), .ref (ad 3), .ref (ad 4), .ref (ad 5), .ref (ad 6), .ref (ad 7), .int C_size])), ((ad 4), .inl (cA 0, 36, .inl (upd C_prices p1.toNatClampNeg p2)))]) C (c_X1_forget ad cA F_queued F_settled F_settledRise F_amount F_lowest F_highest) gX3_price_X1_forget rfl hde_X1_forget ⟨rfl, rfl⟩ (by decide) (by decide) [3] [0, 1, 2] [0, 1, 2, 3] rfl rfl rfl rfl (by decide) rfl (ws2 := fun u => [((ad 0), .inr (3, [.ref (ad 8), .ref (ad 1), .ref (ad 15), .long S_asked])), ((ad 1), .inr (0, [.ref (ad 2), .ref (ad 3), .ref (ad 4), .ref (ad 5), .ref (ad 6), .ref (ad 7), .int C_size])), ((ad 4), .inl (cA 0, 36, .inl (upd C_prices p1.toNatClampNeg p2))), ((ad 8), .inr (1, [.ref (ad 1), .ref (ad 9), .ref (ad 10), .ref (ad 11), .ref (ad 12), .ref (ad 13), .ref (ad 14), .int F_queued, .int u, .int F_settledRise, .long F_amount, .long F_lowest, .long F_highest]))]) (fun _ => rfl) 1 0 rfl rfl rfl (rest := []) rfl (Nat.le_of_ble_eq_true rfl) dX3_price_49 (fun u_7 hp_7 => ?_)
      subst hp_7
      change gW X 0 0 [((ad 0), .inr (3, [.ref (ad 8), .ref (ad 1), .ref (ad 15), .long S_asked])), ((ad 1), .inr (0, [.ref (ad 2), .ref (ad 3), .ref (ad 4), .ref (ad 5), .ref (ad 6), .ref (ad 7), .int C_size])), ((ad 4), .inl (cA 0, 36, .inl (upd C_prices p1.toNatClampNeg p2))), ((ad 8), .inr (1, [.ref (ad 1), .ref (ad 9), .ref (ad 10), .ref (ad 11), .ref (ad 12), .ref (ad 13), .ref (ad 14), .int F_queued, .int (fuX1_forget F_queued F_settled F_settledRise F_amount F_lowest F_highest), .int F_settledRise, .long F_amount, .long F_lowest, .long F_highest]))] 4 [(0, .ref (ad 0)), (1, .int p1), (2, .int p2), (3, .int (C_prices p1.toNatClampNeg))] [] 52
      refine g_iload_n C dX3_price_52 rfl 3 rfl ?_
      exact g_iret C E ((upd C_prices p1.toNatClampNeg p2), (fuX1_forget F_queued F_settled F_settledRise F_amount F_lowest F_highest)) h rfl dX3_price_53
    · replace h := h.2 c_4
      refine g_ldc C cnX3_price_57 dX3_price_22 ?_
      exact g_iret C E (C_prices, F_settled) h rfl dX3_price_24
def prX3_price (dx : Nat) (dy : Nat) (dz : Nat) (p1 : Int32) (p2 : Int32) (S_asked : Int64) (C_size : Int32) (C_prices : Nat → Int32) (F_queued : Int32) (F_settled : Int32) (F_settledRise : Int32) (F_amount : Int64) (F_lowest : Int64) (F_highest : Int64) : Prop := dimOK dx dy dz ∧ C_size = nI (dx * dy * dz)
def po_X3_price (ad : Nat → Nat) (cA : Nat → ClassId) (dx : Nat) (dy : Nat) (dz : Nat) (p1 : Int32) (p2 : Int32) (S_asked : Int64) (C_size : Int32) (C_prices : Nat → Int32) (F_queued : Int32) (F_settled : Int32) (F_settledRise : Int32) (F_amount : Int64) (F_lowest : Int64) (F_highest : Int64) (r : Int32) (u : (Nat → Int32) × (Int32)) : Prop := ((0 ≤ p1.toInt ∧ p1.toInt < (dx * dy * dz : Nat)) ∧ (-20 ≤ p2.toInt ∧ p2.toInt ≤ 20) → r = C_prices p1.toNatClampNeg ∧ u = (upd C_prices p1.toNatClampNeg p2, 0)) ∧ (¬ ((0 ≤ p1.toInt ∧ p1.toInt < (dx * dy * dz : Nat)) ∧ (-20 ≤ p2.toInt ∧ p2.toInt ≤ 20)) → r = -1000000 ∧ u = (C_prices, F_settled))
set_option maxHeartbeats 4000000 in
set_option maxRecDepth 100000 in
theorem c_X3_price (ad : Nat → Nat) (cA : Nat → ClassId) (dx : Nat) (dy : Nat) (dz : Nat) (p1 : Int32) (p2 : Int32) (S_asked : Int64) (C_size : Int32) (C_prices : Nat → Int32) (F_queued : Int32) (F_settled : Int32) (F_settledRise : Int32) (F_amount : Int64) (F_lowest : Int64) (F_highest : Int64) (hq : prX3_price dx dy dz p1 p2 S_asked C_size C_prices F_queued F_settled F_settledRise F_amount F_lowest F_highest) : ∀ (l : Launch) (D : va_G), gMi (S := (Nat → Int32) × (Int32)) l yX3_price wsX3_price rmX3_price D (gT cA) 0 0 [.ref (ad 0), .int p1, .int p2] (wcX3_price ad cA S_asked C_size C_prices F_queued F_settled F_settledRise F_amount F_lowest F_highest) (po_X3_price ad cA dx dy dz p1 p2 S_asked C_size C_prices F_queued F_settled F_settledRise F_amount F_lowest F_highest) (w1X3_price ad cA S_asked C_size F_queued F_settledRise F_amount F_lowest F_highest) := by
  intro l D
  unfold prX3_price at hq
  refine g_enteri (cc := cX3_price) (nL := 4) (ret := (some .int)) (by decide) rfl (Nat.le_of_ble_eq_true rfl) rfl (fun X C E => ?_)
  obtain ⟨hd, rfl⟩ := hq
  have hV := hd.2.2.2.2.2.2
  refine sgX3_price_0 C E ?_
  rw [has0_eq p1 hV]
  refine ⟨fun c => ⟨fun q => absurd q.1 (of_decide_eq_false c), fun _ => ⟨rfl, rfl⟩⟩, fun c => ?_⟩
  have c' := of_decide_eq_true c
  obtain ⟨j, hj, rfl⟩ := i_nat (n := 35) c'.1 (by omega)
  have v : vp_in (nI j) 36 := vp_in_nI (by omega) (by decide)
  exact ⟨fun c2 => ⟨v, v, fun _ => ⟨rfl, rfl⟩, fun q => absurd ⟨c', wi_t c2⟩ q⟩, fun c2 => ⟨fun q => absurd q.2 (wi_f c2), fun _ => ⟨rfl, rfl⟩⟩⟩


abbrev w1X3_set (ad : Nat → Nat) (cA : Nat → ClassId) (S_asked : Int64) (C_size : Int32) (F_queued : Int32) (F_settledRise : Int32) (F_amount : Int64) (F_lowest : Int64) (F_highest : Int64) (u : (Nat → Int32) × (Int32)) : va_W := [((ad 0), .inr (3, [.ref (ad 8), .ref (ad 1), .ref (ad 15), .long S_asked])), ((ad 1), .inr (0, [.ref (ad 2), .ref (ad 3), .ref (ad 4), .ref (ad 5), .ref (ad 6), .ref (ad 7), .int C_size])), ((ad 5), .inl (cA 0, 7, .inl u.1)), ((ad 8), .inr (1, [.ref (ad 1), .ref (ad 9), .ref (ad 10), .ref (ad 11), .ref (ad 12), .ref (ad 13), .ref (ad 14), .int F_queued, .int u.2, .int F_settledRise, .long F_amount, .long F_lowest, .long F_highest]))]
abbrev wcX3_set (ad : Nat → Nat) (cA : Nat → ClassId) (S_asked : Int64) (C_size : Int32) (C_rules : Nat → Int32) (F_queued : Int32) (F_settled : Int32) (F_settledRise : Int32) (F_amount : Int64) (F_lowest : Int64) (F_highest : Int64) : va_W := [((ad 0), .inr (3, [.ref (ad 8), .ref (ad 1), .ref (ad 15), .long S_asked])), ((ad 1), .inr (0, [.ref (ad 2), .ref (ad 3), .ref (ad 4), .ref (ad 5), .ref (ad 6), .ref (ad 7), .int C_size])), ((ad 5), .inl (cA 0, 7, .inl C_rules)), ((ad 8), .inr (1, [.ref (ad 1), .ref (ad 9), .ref (ad 10), .ref (ad 11), .ref (ad 12), .ref (ad 13), .ref (ad 14), .int F_queued, .int F_settled, .int F_settledRise, .long F_amount, .long F_lowest, .long F_highest]))]
def rmX3_set : Room := { frames := 1, cells := 0, slots := 0, locals := 22 }
abbrev atX3_set_0 (X : gX) (ad : Nat → Nat) (cA : Nat → ClassId) (p1 : Int32) (p2 : Int32) (S_asked : Int64) (C_size : Int32) (C_rules : Nat → Int32) (F_queued : Int32) (F_settled : Int32) (F_settledRise : Int32) (F_amount : Int64) (F_lowest : Int64) (F_highest : Int64) : Prop := gW X 0 0 [((ad 0), .inr (3, [.ref (ad 8), .ref (ad 1), .ref (ad 15), .long S_asked])), ((ad 1), .inr (0, [.ref (ad 2), .ref (ad 3), .ref (ad 4), .ref (ad 5), .ref (ad 6), .ref (ad 7), .int C_size])), ((ad 5), .inl (cA 0, 7, .inl C_rules)), ((ad 8), .inr (1, [.ref (ad 1), .ref (ad 9), .ref (ad 10), .ref (ad 11), .ref (ad 12), .ref (ad 13), .ref (ad 14), .int F_queued, .int F_settled, .int F_settledRise, .long F_amount, .long F_lowest, .long F_highest]))] 4 [(0, .ref (ad 0)), (1, .int p1), (2, .int p2)] [] 0
theorem sfX3_set_61 : Cond.fieldLink RX3 61 "SkinBox" "LOWEST_RULE" "[I" ∈ wsX3_set := by decide +kernel
theorem sfX3_set_64 : Cond.fieldLink RX3 64 "SkinBox" "HIGHEST_RULE" "[I" ∈ wsX3_set := by decide +kernel
theorem giX3_set_X3 : ∀ w ∈ u_ws RX3 TX3 4, w ∈ wsX3_set := by decide +kernel
theorem gfX3_set_20 : gF wsX3_set RX3 20 3 1 RX3 TX3 4 := ⟨giX3_set_X3, by decide +kernel, rfl, by decide⟩
theorem giX3_set_X0 : ∀ w ∈ u_ws RX0 TX0 7, w ∈ wsX3_set := by decide +kernel
theorem gfX3_set_67 : gF wsX3_set RX3 67 0 3 RX0 TX0 7 := ⟨giX3_set_X0, by decide +kernel, rfl, by decide⟩
theorem gfX3_set_10 : gF wsX3_set RX3 10 3 0 RX3 TX3 4 := ⟨giX3_set_X3, by decide +kernel, rfl, by decide⟩
set_option maxHeartbeats 4000000 in
set_option maxRecDepth 100000 in
theorem sgX3_set_0 {X : gX} {ad : Nat → Nat} {cA : Nat → ClassId} {post : Int32 → ((Nat → Int32) × (Int32)) → Prop} {p1 : Int32} {p2 : Int32} {S_asked : Int64} {C_size : Int32} {C_rules : Nat → Int32} {F_queued : Int32} {F_settled : Int32} {F_settledRise : Int32} {F_amount : Int64} {F_lowest : Int64} {F_highest : Int64} (C : gC X (gT cA) cX3_set 4 RX3 wsX3_set rmX3_set) (E : gEi X (some .int) (gT cA) 0 0 post (w1X3_set ad cA S_asked C_size F_queued F_settledRise F_amount F_lowest F_highest)) {tz : Nat → Nat} (Z : gZ X tz) (h : ((fnX3_within p1 (0 : Int32) (6 : Int32)) = false → post (-1 : Int32) (C_rules, F_settled)) ∧ ((fnX3_within p1 (0 : Int32) (6 : Int32)) = true → vp_in p1 7 ∧ vp_in p1 7 ∧ ((fnX3_within p2 (lowR p1.toNatClampNeg) (hgR p1.toNatClampNeg)) = true → vp_in p1 7 ∧ vp_in p1 7 ∧ post (C_rules p1.toNatClampNeg) ((upd C_rules p1.toNatClampNeg p2), (fuX1_forget F_queued F_settled F_settledRise F_amount F_lowest F_highest))) ∧ ((fnX3_within p2 (lowR p1.toNatClampNeg) (hgR p1.toNatClampNeg)) = false → post (-1 : Int32) (C_rules, F_settled)))) : atX3_set_0 X ad cA p1 p2 S_asked C_size C_rules F_queued F_settled F_settledRise F_amount F_lowest F_highest := by
  refine g_iload_n C dX3_set_0 rfl 1 rfl ?_
  refine g_iconst C dX3_set_1 ik_0 ?_
  refine g_bipush C dX3_set_2 bk_6 ?_
  refine g_callSi (b := 0) (wr := [((ad 0), .inr (3, [.ref (ad 8), .ref (ad 1), .ref (ad 15), .long S_asked])), ((ad 1), .inr (0, [.ref (ad 2), .ref (ad 3), .ref (ad 4), .ref (ad 5), .ref (ad 6), .ref (ad 7), .int C_size])), ((ad 5), .inl (cA 0, 7, .inl C_rules)), ((ad 8), .inr (1, [.ref (ad 1), .ref (ad 9), .ref (ad 10), .ref (ad 11), .ref (ad 12), .ref (ad 13), .ref (ad 14), .int F_queued, .int F_settled, .int F_settledRise, .long F_amount, .long F_lowest, .long F_highest]))]) C (c_X3_within ad cA p1 (0 : Int32) (6 : Int32)) gX3_set_X3_within rfl hde_X3_within ⟨rfl, rfl⟩ (by decide) (by decide) [] [0, 1, 2, 3] [0, 1, 2, 3] rfl rfl rfl rfl (by decide) rfl (ws2 := fun u => [((ad 0), .inr (3, [.ref (ad 8), .ref (ad 1), .ref (ad 15), .long S_asked])), ((ad 1), .inr (0, [.ref (ad 2), .ref (ad 3), .ref (ad 4), .ref (ad 5), .ref (ad 6), .ref (ad 7), .int C_size])), ((ad 5), .inl (cA 0, 7, .inl C_rules)), ((ad 8), .inr (1, [.ref (ad 1), .ref (ad 9), .ref (ad 10), .ref (ad 11), .ref (ad 12), .ref (ad 13), .ref (ad 14), .int F_queued, .int F_settled, .int F_settledRise, .long F_amount, .long F_lowest, .long F_highest]))]) (fun _ => rfl) (rest := []) rfl (Nat.le_of_ble_eq_true rfl) dX3_set_4 (fun r_1 u_1 hp_1 => ?_)
  subst hp_1
  change gW X 0 0 [((ad 0), .inr (3, [.ref (ad 8), .ref (ad 1), .ref (ad 15), .long S_asked])), ((ad 1), .inr (0, [.ref (ad 2), .ref (ad 3), .ref (ad 4), .ref (ad 5), .ref (ad 6), .ref (ad 7), .int C_size])), ((ad 5), .inl (cA 0, 7, .inl C_rules)), ((ad 8), .inr (1, [.ref (ad 1), .ref (ad 9), .ref (ad 10), .ref (ad 11), .ref (ad 12), .ref (ad 13), .ref (ad 14), .int F_queued, .int F_settled, .int F_settledRise, .long F_amount, .long F_lowest, .long F_highest]))] 4 [(0, .ref (ad 0)), (1, .int p1), (2, .int p2)] [.int (bI (fnX3_within p1 (0 : Int32) (6 : Int32)))] 7
  refine g_ifeq_b (tgt := 27) C dX3_set_7 (by decide) (fun c_2 => ?_) (fun c_2 => ?_)
  · replace h := h.1 c_2
    refine g_iconst C dX3_set_27 ik_m1 ?_
    exact g_iret C E (C_rules, F_settled) h rfl dX3_set_28
  · replace h := h.2 c_2
    refine g_iload_n C dX3_set_10 rfl 2 rfl ?_
    refine g_gets0 C Z sfX3_set_61 dX3_set_11 ?_
    refine g_iload_n C dX3_set_14 rfl 1 rfl ?_
    obtain ⟨hi_3, h⟩ := h
    refine g_tald0 C Z hi_3 dX3_set_15 ?_
    refine g_gets1 C Z sfX3_set_64 dX3_set_16 ?_
    refine g_iload_n C dX3_set_19 rfl 1 rfl ?_
    obtain ⟨hi_4, h⟩ := h
    refine g_tald1 C Z hi_4 dX3_set_20 ?_
    refine g_callSi (b := 0) (wr := [((ad 0), .inr (3, [.ref (ad 8), .ref (ad 1), .ref (ad 15), .long S_asked])), ((ad 1), .inr (0, [.ref (ad 2), .ref (ad 3), .ref (ad 4), .ref (ad 5), .ref (ad 6), .ref (ad 7), .int C_size])), ((ad 5), .inl (cA 0, 7, .inl C_rules)), ((ad 8), .inr (1, [.ref (ad 1), .ref (ad 9), .ref (ad 10), .ref (ad 11), .ref (ad 12), .ref (ad 13), .ref (ad 14), .int F_queued, .int F_settled, .int F_settledRise, .long F_amount, .long F_lowest, .long F_highest]))]) C (c_X3_within ad cA p2 (lowR p1.toNatClampNeg) (hgR p1.toNatClampNeg)) gX3_set_X3_within rfl hde_X3_within ⟨rfl, rfl⟩ (by decide) (by decide) [] [0, 1, 2, 3] [0, 1, 2, 3] rfl rfl rfl rfl (by decide) rfl (ws2 := fun u => [((ad 0), .inr (3, [.ref (ad 8), .ref (ad 1), .ref (ad 15), .long S_asked])), ((ad 1), .inr (0, [.ref (ad 2), .ref (ad 3), .ref (ad 4), .ref (ad 5), .ref (ad 6), .ref (ad 7), .int C_size])), ((ad 5), .inl (cA 0, 7, .inl C_rules)), ((ad 8), .inr (1, [.ref (ad 1), .ref (ad 9), .ref (ad 10), .ref (ad 11), .ref (ad 12), .ref (ad 13), .ref (ad 14), .int F_queued, .int F_settled, .int F_settledRise, .long F_amount, .long F_lowest, .long F_highest]))]) (fun _ => rfl) (rest := []) rfl (Nat.le_of_ble_eq_true rfl) dX3_set_21 (fun r_5 u_5 hp_5 => ?_)
    subst hp_5
    change gW X 0 0 [((ad 0), .inr (3, [.ref (ad 8), .ref (ad 1), .ref (ad 15), .long S_asked])), ((ad 1), .inr (0, [.ref (ad 2), .ref (ad 3), .ref (ad 4), .ref (ad 5), .ref (ad 6), .ref (ad 7), .int C_size])), ((ad 5), .inl (cA 0, 7, .inl C_rules)), ((ad 8), .inr (1, [.ref (ad 1), .ref (ad 9), .ref (ad 10), .ref (ad 11), .ref (ad 12), .ref (ad 13), .ref (ad 14), .int F_queued, .int F_settled, .int F_settledRise, .long F_amount, .long F_lowest, .long F_highest]))] 4 [(0, .ref (ad 0)), (1, .int p1), (2, .int p2)] [.int (bI (fnX3_within p2 (lowR p1.toNatClampNeg) (hgR p1.toNatClampNeg)))] 24
    refine g_ifne_b (tgt := 29) C dX3_set_24 (by decide) (fun c_6 => ?_) (fun c_6 => ?_)
    · replace h := h.1 c_6
      refine g_aload_n C dX3_set_29 rfl 0 rfl ?_
      refine g_get C gfX3_set_20 0 rfl rfl dX3_set_30 ?_
      refine g_get C gfX3_set_67 1 rfl rfl dX3_set_33 ?_
      refine g_iload_n C dX3_set_36 rfl 1 rfl ?_
      obtain ⟨hi_7, h⟩ := h
      refine g_iald C 2 0 rfl rfl hi_7 dX3_set_37 ?_
      refine g_istore_n (lv2 := [(0, .ref (ad 0)), (1, .int p1), (2, .int p2), (3, .int (C_rules p1.toNatClampNeg))]) C dX3_set_38 rfl (by decide) [1, 2, 3, 0] rfl ?_
      refine g_aload_n C dX3_set_39 rfl 0 rfl ?_
      refine g_get C gfX3_set_20 0 rfl rfl dX3_set_40 ?_
      refine g_get C gfX3_set_67 1 rfl rfl dX3_set_43 ?_
      refine g_iload_n C dX3_set_46 rfl 1 rfl ?_
      refine g_iload_n C dX3_set_47 rfl 2 rfl ?_
      obtain ⟨hi_8, h⟩ := h
      refine g_iast (ws2 := [((ad 0), .inr (3, [.ref (ad 8), .ref (ad 1), .ref (ad 15), .long S_asked])), ((ad 1), .inr (0, [.ref (ad 2), .ref (ad 3), .ref (ad 4), .ref (ad 5), .ref (ad 6), .ref (ad 7), .int C_size])), ((ad 5), .inl (cA 0, 7, .inl (upd C_rules p1.toNatClampNeg p2))), ((ad 8), .inr (1, [.ref (ad 1), .ref (ad 9), .ref (ad 10), .ref (ad 11), .ref (ad 12), .ref (ad 13), .ref (ad 14), .int F_queued, .int F_settled, .int F_settledRise, .long F_amount, .long F_lowest, .long F_highest]))]) C 2 0 rfl rfl hi_8 rfl dX3_set_48 ?_
      refine g_aload_n C dX3_set_49 rfl 0 rfl ?_
      refine g_get C gfX3_set_10 0 rfl rfl dX3_set_50 ?_
      refine g_callVv (wr := [((ad 0), .inr (3, [.ref (ad 8), .ref (ad 1), .ref (ad 15), .long S_asked])), ((ad 1), .inr (0, [.ref (ad 2), .ref (ad 3), .ref (ad 4), .ref (ad 5), .ref (ad 6), .ref (ad 7), .int C_size])), ((ad 5), .inl (cA 0, 7, .inl (upd C_rules p1.toNatClampNeg p2)))]) C (c_X1_forget ad cA F_queued F_settled F_settledRise F_amount F_lowest F_highest) gX3_set_X1_forget rfl hde_X1_forget ⟨rfl, rfl⟩ (by decide) (by decide) [3] [0, 1, 2] [0, 1, 2, 3] rfl rfl rfl rfl (by decide) rfl (ws2 := fun u => [((ad 0), .inr (3, [.ref (ad 8), .ref (ad 1), .ref (ad 15), .long S_asked])), ((ad 1), .inr (0, [.ref (ad 2), .ref (ad 3), .ref (ad 4), .ref (ad 5), .ref (ad 6), .ref (ad 7), .int C_size])), ((ad 5), .inl (cA 0, 7, .inl (upd C_rules p1.toNatClampNeg p2))), ((ad 8), .inr (1, [.ref (ad 1), .ref (ad 9), .ref (ad 10), .ref (ad 11), .ref (ad 12), .ref (ad 13), .ref (ad 14), .int F_queued, .int u, .int F_settledRise, .long F_amount, .long F_lowest, .long F_highest]))]) (fun _ => rfl) 1 0 rfl rfl rfl (rest := []) rfl (Nat.le_of_ble_eq_true rfl) dX3_set_53 (fun u_9 hp_9 => ?_)
      subst hp_9
      change gW X 0 0 [((ad 0), .inr (3, [.ref (ad 8), .ref (ad 1), .ref (ad 15), .long S_asked])), ((ad 1), .inr (0, [.ref (ad 2), .ref (ad 3), .ref (ad 4), .ref (ad 5), .ref (ad 6), .ref (ad 7), .int C_size])), ((ad 5), .inl (cA 0, 7, .inl (upd C_rules p1.toNatClampNeg p2))), ((ad 8), .inr (1, [.ref (ad 1), .ref (ad 9), .ref (ad 10), .ref (ad 11), .ref (ad 12), .ref (ad 13), .ref (ad 14), .int F_queued, .int (fuX1_forget F_queued F_settled F_settledRise F_amount F_lowest F_highest), .int F_settledRise, .long F_amount, .long F_lowest, .long F_highest]))] 4 [(0, .ref (ad 0)), (1, .int p1), (2, .int p2), (3, .int (C_rules p1.toNatClampNeg))] [] 56
      refine g_iload_n C dX3_set_56 rfl 3 rfl ?_
      exact g_iret C E ((upd C_rules p1.toNatClampNeg p2), (fuX1_forget F_queued F_settled F_settledRise F_amount F_lowest F_highest)) h rfl dX3_set_57
    · replace h := h.2 c_6
      refine g_iconst C dX3_set_27 ik_m1 ?_
      exact g_iret C E (C_rules, F_settled) h rfl dX3_set_28
def po_X3_set (ad : Nat → Nat) (cA : Nat → ClassId) (p1 : Int32) (p2 : Int32) (S_asked : Int64) (C_size : Int32) (C_rules : Nat → Int32) (F_queued : Int32) (F_settled : Int32) (F_settledRise : Int32) (F_amount : Int64) (F_lowest : Int64) (F_highest : Int64) (r : Int32) (u : (Nat → Int32) × (Int32)) : Prop := ((0 ≤ p1.toInt ∧ p1.toInt ≤ 6) ∧ ((lowR p1.toNatClampNeg).toInt ≤ p2.toInt ∧ p2.toInt ≤ (hgR p1.toNatClampNeg).toInt) → r = C_rules p1.toNatClampNeg ∧ u = (upd C_rules p1.toNatClampNeg p2, 0)) ∧ (¬ ((0 ≤ p1.toInt ∧ p1.toInt ≤ 6) ∧ ((lowR p1.toNatClampNeg).toInt ≤ p2.toInt ∧ p2.toInt ≤ (hgR p1.toNatClampNeg).toInt)) → r = -1 ∧ u = (C_rules, F_settled))
set_option maxHeartbeats 4000000 in
set_option maxRecDepth 100000 in
theorem c_X3_set (ad : Nat → Nat) (cA : Nat → ClassId) (p1 : Int32) (p2 : Int32) (S_asked : Int64) (C_size : Int32) (C_rules : Nat → Int32) (F_queued : Int32) (F_settled : Int32) (F_settledRise : Int32) (F_amount : Int64) (F_lowest : Int64) (F_highest : Int64) (tz : Nat → Nat) : ∀ (l : Launch) (D : va_G), gMiZ (S := (Nat → Int32) × (Int32)) l yX3_set wsX3_set rmX3_set D (gT cA) 0 0 [.ref (ad 0), .int p1, .int p2] (wcX3_set ad cA S_asked C_size C_rules F_queued F_settled F_settledRise F_amount F_lowest F_highest) tz (po_X3_set ad cA p1 p2 S_asked C_size C_rules F_queued F_settled F_settledRise F_amount F_lowest F_highest) (w1X3_set ad cA S_asked C_size F_queued F_settledRise F_amount F_lowest F_highest) := by
  intro l D
  refine g_enteriZ (cc := cX3_set) (nL := 4) (ret := (some .int)) (by decide) rfl (Nat.le_of_ble_eq_true rfl) rfl (fun X C E Z => ?_)
  refine sgX3_set_0 C E Z ⟨fun c => ⟨fun q => absurd q.1 (wi_f c), fun _ => ⟨rfl, rfl⟩⟩, fun c => ?_⟩
  have c' : 0 ≤ p1.toInt ∧ p1.toInt ≤ 6 := wi_t c
  obtain ⟨j, hj, rfl⟩ := i_nat (n := 6) c'.1 c'.2
  have v : vp_in (nI j) 7 := vp_in_nI (by omega) (by decide)
  exact ⟨v, v, fun c2 => ⟨v, v, fun _ => ⟨rfl, rfl⟩, fun q => absurd ⟨c', wi_t c2⟩ q⟩, fun c2 => ⟨fun q => absurd q.2 (wi_f c2), fun _ => ⟨rfl, rfl⟩⟩⟩


abbrev w1X3_cost (ad : Nat → Nat) (cA : Nat → ClassId) (C_size : Int32) (C_rules : Nat → Int32) (C_places : Nat → Int32) (C_beyond : Nat → Int32) (u : (Int64)) : va_W := [((ad 0), .inr (3, [.ref (ad 8), .ref (ad 1), .ref (ad 15), .long u])), ((ad 1), .inr (0, [.ref (ad 2), .ref (ad 3), .ref (ad 4), .ref (ad 5), .ref (ad 6), .ref (ad 7), .int C_size])), ((ad 5), .inl (cA 0, 7, .inl C_rules)), ((ad 6), .inl (cA 0, 108, .inl C_places)), ((ad 7), .inl (cA 0, 216, .inl C_beyond))]
abbrev wcX3_cost (ad : Nat → Nat) (cA : Nat → ClassId) (S_asked : Int64) (C_size : Int32) (C_rules : Nat → Int32) (C_places : Nat → Int32) (C_beyond : Nat → Int32) : va_W := [((ad 0), .inr (3, [.ref (ad 8), .ref (ad 1), .ref (ad 15), .long S_asked])), ((ad 1), .inr (0, [.ref (ad 2), .ref (ad 3), .ref (ad 4), .ref (ad 5), .ref (ad 6), .ref (ad 7), .int C_size])), ((ad 5), .inl (cA 0, 7, .inl C_rules)), ((ad 6), .inl (cA 0, 108, .inl C_places)), ((ad 7), .inl (cA 0, 216, .inl C_beyond))]
def rmX3_cost : Room := { frames := 2, cells := 0, slots := 0, locals := 39 }
abbrev atX3_cost_0 (X : gX) (ad : Nat → Nat) (cA : Nat → ClassId) (p1 : Int32) (p2 : Int32) (p3 : Int32) (S_asked : Int64) (C_size : Int32) (C_rules : Nat → Int32) (C_places : Nat → Int32) (C_beyond : Nat → Int32) : Prop := gW X 0 0 [((ad 0), .inr (3, [.ref (ad 8), .ref (ad 1), .ref (ad 15), .long S_asked])), ((ad 1), .inr (0, [.ref (ad 2), .ref (ad 3), .ref (ad 4), .ref (ad 5), .ref (ad 6), .ref (ad 7), .int C_size])), ((ad 5), .inl (cA 0, 7, .inl C_rules)), ((ad 6), .inl (cA 0, 108, .inl C_places)), ((ad 7), .inl (cA 0, 216, .inl C_beyond))] 5 [(0, .ref (ad 0)), (1, .int p1), (2, .int p2), (3, .int p3)] [] 0
theorem sfX3_cost_74 : Cond.fieldLink RX3 74 "SkinBox" "MARKS" "[I" ∈ wsX3_cost := by decide +kernel
theorem giX3_cost_X3 : ∀ w ∈ u_ws RX3 TX3 4, w ∈ wsX3_cost := by decide +kernel
theorem gfX3_cost_20 : gF wsX3_cost RX3 20 3 1 RX3 TX3 4 := ⟨giX3_cost_X3, by decide +kernel, rfl, by decide⟩
theorem gfX3_cost_28 : gF wsX3_cost RX3 28 3 3 RX3 TX3 4 := ⟨giX3_cost_X3, by decide +kernel, rfl, by decide⟩
set_option maxHeartbeats 4000000 in
set_option maxRecDepth 100000 in
theorem sgX3_cost_0 {X : gX} {ad : Nat → Nat} {cA : Nat → ClassId} {post : Int32 → ((Int64)) → Prop} {p1 : Int32} {p2 : Int32} {p3 : Int32} {S_asked : Int64} {C_size : Int32} {C_rules : Nat → Int32} {C_places : Nat → Int32} {C_beyond : Nat → Int32} (C : gC X (gT cA) cX3_cost 5 RX3 wsX3_cost rmX3_cost) (E : gEi X (some .int) (gT cA) 0 0 post (w1X3_cost ad cA C_size C_rules C_places C_beyond)) {tz : Nat → Nat} (Z : gZ X tz) (h : ((fnX3_within p1 (0 : Int32) (2 : Int32)) = false → post (-1 : Int32) S_asked) ∧ ((fnX3_within p1 (0 : Int32) (2 : Int32)) = true → ((fnX0_has p2 C_size) = false → post (-1 : Int32) S_asked) ∧ ((fnX0_has p2 C_size) = true → ((fnX0_has p3 C_size) = true → prX0_sideTowards p2 p3 C_size C_beyond ∧ ∀ x4_9 : Int32, x4_9 = (sdA C_beyond p2.toNatClampNeg p3 0 6) → (¬ x4_9 = (-1 : Int32) → vp_in p1 3 ∧ prX0_seamCost p1 p2 x4_9 C_size C_rules C_places ∧ post (fnX0_seamCost p1 p2 x4_9 C_size C_rules C_places) (S_asked + ((mkR p1.toNatClampNeg).toInt64))) ∧ (x4_9 = (-1 : Int32) → post (-1 : Int32) S_asked)) ∧ ((fnX0_has p3 C_size) = false → post (-1 : Int32) S_asked)))) : atX3_cost_0 X ad cA p1 p2 p3 S_asked C_size C_rules C_places C_beyond := by
  refine g_iload_n C dX3_cost_0 rfl 1 rfl ?_
  refine g_iconst C dX3_cost_1 ik_0 ?_
  refine g_iconst C dX3_cost_2 ik_2 ?_
  refine g_callSi (b := 0) (wr := [((ad 0), .inr (3, [.ref (ad 8), .ref (ad 1), .ref (ad 15), .long S_asked])), ((ad 1), .inr (0, [.ref (ad 2), .ref (ad 3), .ref (ad 4), .ref (ad 5), .ref (ad 6), .ref (ad 7), .int C_size])), ((ad 5), .inl (cA 0, 7, .inl C_rules)), ((ad 6), .inl (cA 0, 108, .inl C_places)), ((ad 7), .inl (cA 0, 216, .inl C_beyond))]) C (c_X3_within ad cA p1 (0 : Int32) (2 : Int32)) gX3_cost_X3_within rfl hde_X3_within ⟨rfl, rfl⟩ (by decide) (by decide) [] [0, 1, 2, 3, 4] [0, 1, 2, 3, 4] rfl rfl rfl rfl (by decide) rfl (ws2 := fun u => [((ad 0), .inr (3, [.ref (ad 8), .ref (ad 1), .ref (ad 15), .long S_asked])), ((ad 1), .inr (0, [.ref (ad 2), .ref (ad 3), .ref (ad 4), .ref (ad 5), .ref (ad 6), .ref (ad 7), .int C_size])), ((ad 5), .inl (cA 0, 7, .inl C_rules)), ((ad 6), .inl (cA 0, 108, .inl C_places)), ((ad 7), .inl (cA 0, 216, .inl C_beyond))]) (fun _ => rfl) (rest := []) rfl (Nat.le_of_ble_eq_true rfl) dX3_cost_3 (fun r_1 u_1 hp_1 => ?_)
  subst hp_1
  change gW X 0 0 [((ad 0), .inr (3, [.ref (ad 8), .ref (ad 1), .ref (ad 15), .long S_asked])), ((ad 1), .inr (0, [.ref (ad 2), .ref (ad 3), .ref (ad 4), .ref (ad 5), .ref (ad 6), .ref (ad 7), .int C_size])), ((ad 5), .inl (cA 0, 7, .inl C_rules)), ((ad 6), .inl (cA 0, 108, .inl C_places)), ((ad 7), .inl (cA 0, 216, .inl C_beyond))] 5 [(0, .ref (ad 0)), (1, .int p1), (2, .int p2), (3, .int p3)] [.int (bI (fnX3_within p1 (0 : Int32) (2 : Int32)))] 6
  refine g_ifeq_b (tgt := 31) C dX3_cost_6 (by decide) (fun c_2 => ?_) (fun c_2 => ?_)
  · replace h := h.1 c_2
    refine g_iconst C dX3_cost_31 ik_m1 ?_
    exact g_iret C E S_asked h rfl dX3_cost_32
  · replace h := h.2 c_2
    refine g_aload_n C dX3_cost_9 rfl 0 rfl ?_
    refine g_get C gfX3_cost_20 0 rfl rfl dX3_cost_10 ?_
    refine g_iload_n C dX3_cost_13 rfl 2 rfl ?_
    refine g_callVi (wr := [((ad 0), .inr (3, [.ref (ad 8), .ref (ad 1), .ref (ad 15), .long S_asked])), ((ad 5), .inl (cA 0, 7, .inl C_rules)), ((ad 6), .inl (cA 0, 108, .inl C_places)), ((ad 7), .inl (cA 0, 216, .inl C_beyond))]) C (c_X0_has ad cA p2 C_size) gX3_cost_X0_has rfl hde_X0_has ⟨rfl, rfl⟩ (by decide) (by decide) [1] [0, 2, 3, 4] [0, 4, 1, 2, 3] rfl rfl rfl rfl (by decide) rfl (ws2 := fun u => [((ad 0), .inr (3, [.ref (ad 8), .ref (ad 1), .ref (ad 15), .long S_asked])), ((ad 1), .inr (0, [.ref (ad 2), .ref (ad 3), .ref (ad 4), .ref (ad 5), .ref (ad 6), .ref (ad 7), .int C_size])), ((ad 5), .inl (cA 0, 7, .inl C_rules)), ((ad 6), .inl (cA 0, 108, .inl C_places)), ((ad 7), .inl (cA 0, 216, .inl C_beyond))]) (fun _ => rfl) 0 0 rfl rfl rfl (rest := []) rfl (Nat.le_of_ble_eq_true rfl) dX3_cost_14 (fun r_3 u_3 hp_3 => ?_)
    subst hp_3
    change gW X 0 0 [((ad 0), .inr (3, [.ref (ad 8), .ref (ad 1), .ref (ad 15), .long S_asked])), ((ad 1), .inr (0, [.ref (ad 2), .ref (ad 3), .ref (ad 4), .ref (ad 5), .ref (ad 6), .ref (ad 7), .int C_size])), ((ad 5), .inl (cA 0, 7, .inl C_rules)), ((ad 6), .inl (cA 0, 108, .inl C_places)), ((ad 7), .inl (cA 0, 216, .inl C_beyond))] 5 [(0, .ref (ad 0)), (1, .int p1), (2, .int p2), (3, .int p3)] [.int (bI (fnX0_has p2 C_size))] 17
    refine g_ifeq_b (tgt := 31) C dX3_cost_17 (by decide) (fun c_4 => ?_) (fun c_4 => ?_)
    · replace h := h.1 c_4
      refine g_iconst C dX3_cost_31 ik_m1 ?_
      exact g_iret C E S_asked h rfl dX3_cost_32
    · replace h := h.2 c_4
      refine g_aload_n C dX3_cost_20 rfl 0 rfl ?_
      refine g_get C gfX3_cost_20 0 rfl rfl dX3_cost_21 ?_
      refine g_iload_n C dX3_cost_24 rfl 3 rfl ?_
      refine g_callVi (wr := [((ad 0), .inr (3, [.ref (ad 8), .ref (ad 1), .ref (ad 15), .long S_asked])), ((ad 5), .inl (cA 0, 7, .inl C_rules)), ((ad 6), .inl (cA 0, 108, .inl C_places)), ((ad 7), .inl (cA 0, 216, .inl C_beyond))]) C (c_X0_has ad cA p3 C_size) gX3_cost_X0_has rfl hde_X0_has ⟨rfl, rfl⟩ (by decide) (by decide) [1] [0, 2, 3, 4] [0, 4, 1, 2, 3] rfl rfl rfl rfl (by decide) rfl (ws2 := fun u => [((ad 0), .inr (3, [.ref (ad 8), .ref (ad 1), .ref (ad 15), .long S_asked])), ((ad 1), .inr (0, [.ref (ad 2), .ref (ad 3), .ref (ad 4), .ref (ad 5), .ref (ad 6), .ref (ad 7), .int C_size])), ((ad 5), .inl (cA 0, 7, .inl C_rules)), ((ad 6), .inl (cA 0, 108, .inl C_places)), ((ad 7), .inl (cA 0, 216, .inl C_beyond))]) (fun _ => rfl) 0 0 rfl rfl rfl (rest := []) rfl (Nat.le_of_ble_eq_true rfl) dX3_cost_25 (fun r_5 u_5 hp_5 => ?_)
      subst hp_5
      change gW X 0 0 [((ad 0), .inr (3, [.ref (ad 8), .ref (ad 1), .ref (ad 15), .long S_asked])), ((ad 1), .inr (0, [.ref (ad 2), .ref (ad 3), .ref (ad 4), .ref (ad 5), .ref (ad 6), .ref (ad 7), .int C_size])), ((ad 5), .inl (cA 0, 7, .inl C_rules)), ((ad 6), .inl (cA 0, 108, .inl C_places)), ((ad 7), .inl (cA 0, 216, .inl C_beyond))] 5 [(0, .ref (ad 0)), (1, .int p1), (2, .int p2), (3, .int p3)] [.int (bI (fnX0_has p3 C_size))] 28
      refine g_ifne_b (tgt := 33) C dX3_cost_28 (by decide) (fun c_6 => ?_) (fun c_6 => ?_)
      · replace h := h.1 c_6
        refine g_aload_n C dX3_cost_33 rfl 0 rfl ?_
        refine g_get C gfX3_cost_20 0 rfl rfl dX3_cost_34 ?_
        refine g_iload_n C dX3_cost_37 rfl 2 rfl ?_
        refine g_iload_n C dX3_cost_38 rfl 3 rfl ?_
        obtain ⟨hi_7, h⟩ := h
        refine g_callVi (wr := [((ad 0), .inr (3, [.ref (ad 8), .ref (ad 1), .ref (ad 15), .long S_asked])), ((ad 5), .inl (cA 0, 7, .inl C_rules)), ((ad 6), .inl (cA 0, 108, .inl C_places))]) C (c_X0_sideTowards ad cA p2 p3 C_size C_beyond hi_7) gX3_cost_X0_sideTowards rfl hde_X0_sideTowards ⟨rfl, rfl⟩ (by decide) (by decide) [1, 4] [0, 2, 3] [0, 3, 1, 2, 4] rfl rfl rfl rfl (by decide) rfl (ws2 := fun u => [((ad 0), .inr (3, [.ref (ad 8), .ref (ad 1), .ref (ad 15), .long S_asked])), ((ad 1), .inr (0, [.ref (ad 2), .ref (ad 3), .ref (ad 4), .ref (ad 5), .ref (ad 6), .ref (ad 7), .int C_size])), ((ad 5), .inl (cA 0, 7, .inl C_rules)), ((ad 6), .inl (cA 0, 108, .inl C_places)), ((ad 7), .inl (cA 0, 216, .inl C_beyond))]) (fun _ => rfl) 0 0 rfl rfl rfl (rest := []) rfl (Nat.le_of_ble_eq_true rfl) dX3_cost_39 (fun r_8 u_8 hp_8 => ?_)
        subst hp_8
        change gW X 0 0 [((ad 0), .inr (3, [.ref (ad 8), .ref (ad 1), .ref (ad 15), .long S_asked])), ((ad 1), .inr (0, [.ref (ad 2), .ref (ad 3), .ref (ad 4), .ref (ad 5), .ref (ad 6), .ref (ad 7), .int C_size])), ((ad 5), .inl (cA 0, 7, .inl C_rules)), ((ad 6), .inl (cA 0, 108, .inl C_places)), ((ad 7), .inl (cA 0, 216, .inl C_beyond))] 5 [(0, .ref (ad 0)), (1, .int p1), (2, .int p2), (3, .int p3)] [.int (sdA C_beyond p2.toNatClampNeg p3 0 6)] 42
        refine g_topi (fun x4_9 ex4_9 => ?_)
        replace h := h x4_9 ex4_9
        refine g_istore (lv2 := [(0, .ref (ad 0)), (1, .int p1), (2, .int p2), (3, .int p3), (4, .int x4_9)]) C dX3_cost_42 (by decide) [1, 2, 3, 4, 0] rfl ?_
        refine g_iload C dX3_cost_44 4 rfl ?_
        refine g_iconst C dX3_cost_46 ik_m1 ?_
        refine g_icmp_ne (tgt := 52) C dX3_cost_47 (by decide) (fun c_10 => ?_) (fun c_10 => ?_)
        · replace h := h.1 c_10
          refine g_aload_n C dX3_cost_52 rfl 0 rfl ?_
          refine g_dup C dX3_cost_53 rfl ?_
          refine g_get C gfX3_cost_28 0 rfl rfl dX3_cost_54 ?_
          refine g_gets2 C Z sfX3_cost_74 dX3_cost_57 ?_
          refine g_iload_n C dX3_cost_60 rfl 1 rfl ?_
          obtain ⟨hi_11, h⟩ := h
          refine g_tald2 C Z hi_11 dX3_cost_61 ?_
          refine g_i2l C dX3_cost_62 ?_
          refine g_ladd C dX3_cost_63 ?_
          refine g_put (ws2 := [((ad 0), .inr (3, [.ref (ad 8), .ref (ad 1), .ref (ad 15), .long (S_asked + ((mkR p1.toNatClampNeg).toInt64))])), ((ad 1), .inr (0, [.ref (ad 2), .ref (ad 3), .ref (ad 4), .ref (ad 5), .ref (ad 6), .ref (ad 7), .int C_size])), ((ad 5), .inl (cA 0, 7, .inl C_rules)), ((ad 6), .inl (cA 0, 108, .inl C_places)), ((ad 7), .inl (cA 0, 216, .inl C_beyond))]) C gfX3_cost_28 0 tyX3_ok nmX3 rfl rfl rfl rfl (Nat.le_of_ble_eq_true rfl) rfl dX3_cost_64 ?_
          refine g_aload_n C dX3_cost_67 rfl 0 rfl ?_
          refine g_get C gfX3_cost_20 0 rfl rfl dX3_cost_68 ?_
          refine g_iload_n C dX3_cost_71 rfl 1 rfl ?_
          refine g_iload_n C dX3_cost_72 rfl 2 rfl ?_
          refine g_iload C dX3_cost_73 4 rfl ?_
          obtain ⟨hi_12, h⟩ := h
          refine g_callVi (wr := [((ad 0), .inr (3, [.ref (ad 8), .ref (ad 1), .ref (ad 15), .long (S_asked + ((mkR p1.toNatClampNeg).toInt64))])), ((ad 7), .inl (cA 0, 216, .inl C_beyond))]) C (c_X0_seamCost ad cA p1 p2 x4_9 C_size C_rules C_places hi_12) gX3_cost_X0_seamCost rfl hde_X0_seamCost ⟨rfl, rfl⟩ (by decide) (by decide) [1, 2, 3] [0, 4] [0, 2, 3, 4, 1] rfl rfl rfl rfl (by decide) rfl (ws2 := fun u => [((ad 0), .inr (3, [.ref (ad 8), .ref (ad 1), .ref (ad 15), .long (S_asked + ((mkR p1.toNatClampNeg).toInt64))])), ((ad 1), .inr (0, [.ref (ad 2), .ref (ad 3), .ref (ad 4), .ref (ad 5), .ref (ad 6), .ref (ad 7), .int C_size])), ((ad 5), .inl (cA 0, 7, .inl C_rules)), ((ad 6), .inl (cA 0, 108, .inl C_places)), ((ad 7), .inl (cA 0, 216, .inl C_beyond))]) (fun _ => rfl) 0 0 rfl rfl rfl (rest := []) rfl (Nat.le_of_ble_eq_true rfl) dX3_cost_75 (fun r_13 u_13 hp_13 => ?_)
          subst hp_13
          change gW X 0 0 [((ad 0), .inr (3, [.ref (ad 8), .ref (ad 1), .ref (ad 15), .long (S_asked + ((mkR p1.toNatClampNeg).toInt64))])), ((ad 1), .inr (0, [.ref (ad 2), .ref (ad 3), .ref (ad 4), .ref (ad 5), .ref (ad 6), .ref (ad 7), .int C_size])), ((ad 5), .inl (cA 0, 7, .inl C_rules)), ((ad 6), .inl (cA 0, 108, .inl C_places)), ((ad 7), .inl (cA 0, 216, .inl C_beyond))] 5 [(0, .ref (ad 0)), (1, .int p1), (2, .int p2), (3, .int p3), (4, .int x4_9)] [.int (fnX0_seamCost p1 p2 x4_9 C_size C_rules C_places)] 78
          exact g_iret C E (S_asked + ((mkR p1.toNatClampNeg).toInt64)) h rfl dX3_cost_78
        · replace h := h.2 c_10
          refine g_iconst C dX3_cost_50 ik_m1 ?_
          exact g_iret C E S_asked h rfl dX3_cost_51
      · replace h := h.2 c_6
        refine g_iconst C dX3_cost_31 ik_m1 ?_
        exact g_iret C E S_asked h rfl dX3_cost_32
def prX3_cost (dx : Nat) (dy : Nat) (dz : Nat) (p1 : Int32) (p2 : Int32) (p3 : Int32) (S_asked : Int64) (C_size : Int32) (C_rules : Nat → Int32) (C_places : Nat → Int32) (C_beyond : Nat → Int32) : Prop := dimOK dx dy dz ∧ C_size = nI (dx * dy * dz) ∧ geoOK dx dy dz C_places C_beyond ∧ ruOK C_rules
def po_X3_cost (ad : Nat → Nat) (cA : Nat → ClassId) (dx : Nat) (dy : Nat) (dz : Nat) (p1 : Int32) (p2 : Int32) (p3 : Int32) (S_asked : Int64) (C_size : Int32) (C_rules : Nat → Int32) (C_places : Nat → Int32) (C_beyond : Nat → Int32) (r : Int32) (u : (Int64)) : Prop := (∀ kd a b, kd ≤ 2 → a < dx * dy * dz → b < dx * dy * dz → p1 = nI kd → p2 = nI a → p3 = nI b → cstR dx dy dz C_rules S_asked kd a b r u) ∧ (¬ ((0 ≤ p1.toInt ∧ p1.toInt ≤ 2) ∧ (0 ≤ p2.toInt ∧ p2.toInt < (dx * dy * dz : Nat)) ∧ (0 ≤ p3.toInt ∧ p3.toInt < (dx * dy * dz : Nat))) → r = -1 ∧ u = S_asked)
set_option maxHeartbeats 4000000 in
set_option maxRecDepth 100000 in
theorem c_X3_cost (ad : Nat → Nat) (cA : Nat → ClassId) (dx : Nat) (dy : Nat) (dz : Nat) (p1 : Int32) (p2 : Int32) (p3 : Int32) (S_asked : Int64) (C_size : Int32) (C_rules : Nat → Int32) (C_places : Nat → Int32) (C_beyond : Nat → Int32) (tz : Nat → Nat) (hq : prX3_cost dx dy dz p1 p2 p3 S_asked C_size C_rules C_places C_beyond) : ∀ (l : Launch) (D : va_G), gMiZ (S := (Int64)) l yX3_cost wsX3_cost rmX3_cost D (gT cA) 0 0 [.ref (ad 0), .int p1, .int p2, .int p3] (wcX3_cost ad cA S_asked C_size C_rules C_places C_beyond) tz (po_X3_cost ad cA dx dy dz p1 p2 p3 S_asked C_size C_rules C_places C_beyond) (w1X3_cost ad cA C_size C_rules C_places C_beyond) := by
  intro l D
  unfold prX3_cost at hq
  refine g_enteriZ (cc := cX3_cost) (nL := 5) (ret := (some .int)) (by decide) rfl (Nat.le_of_ble_eq_true rfl) rfl (fun X C E Z => ?_)
  obtain ⟨hd, rfl, hg, hr⟩ := hq
  have hV := hd.2.2.2.2.2.2
  refine sgX3_cost_0 C E Z ?_
  rw [has0_eq p2 hV, has0_eq p3 hV]
  have no : ∀ (q : ¬ ((0 ≤ p1.toInt ∧ p1.toInt ≤ 2) ∧ (0 ≤ p2.toInt ∧ p2.toInt < (dx * dy * dz : Nat)) ∧ (0 ≤ p3.toInt ∧ p3.toInt < (dx * dy * dz : Nat)))), po_X3_cost ad cA dx dy dz p1 p2 p3 S_asked (nI (dx * dy * dz)) C_rules C_places C_beyond (-1) S_asked := fun q => by
    refine ⟨fun kd a b h1 h2 h3 e1 e2 e3 => absurd ?_ q, fun _ => ⟨rfl, rfl⟩⟩
    rw [e1, e2, e3, nI_toInt (by omega), nI_toInt (by omega), nI_toInt (by omega)]; omega
  refine ⟨fun c => no (fun q => wi_f c q.1), fun c1 => ⟨fun c => no (fun q => of_decide_eq_false c q.2.1), fun c2 => ⟨fun c3 => ?_, fun c => no (fun q => of_decide_eq_false c q.2.2)⟩⟩⟩
  have g2 := of_decide_eq_true c2
  have g3 := of_decide_eq_true c3
  have g1' : 0 ≤ p1.toInt ∧ p1.toInt ≤ 2 := wi_t c1
  obtain ⟨kd, hkd, rfl⟩ := i_nat (n := 2) g1'.1 g1'.2
  obtain ⟨a, ha, rfl⟩ := i_nat (n := dx * dy * dz - 1) g2.1 (by omega)
  obtain ⟨b, hb, rfl⟩ := i_nat (n := dx * dy * dz - 1) g3.1 (by omega)
  have hp := dim_pos hd
  have ha' : a < dx * dy * dz := by omega
  have hb' : b < dx * dy * dz := by omega
  have yes : ∀ r t, cstR dx dy dz C_rules S_asked kd a b r t → po_X3_cost ad cA dx dy dz (nI kd) (nI a) (nI b) S_asked (nI (dx * dy * dz)) C_rules C_places C_beyond r t := fun r t h => by
    refine ⟨fun kd' a' b' h1 h2 h3 e1 e2 e3 => ?_, fun q => absurd ⟨g1', g2, g3⟩ q⟩
    rw [nI_eq (by omega) (by omega)] at e1 e2 e3
    subst e1; subst e2; subst e3; exact h
  refine ⟨vp_in_nI (by omega) (by decide), fun x e => ?_⟩
  rw [nI_clamp (by omega)] at e
  rcases sdA_c C_beyond a (nI b) 6 0 with ⟨s, _, hs, e1, e2⟩ | ⟨e1, e2⟩
  · rw [e1] at e
    subst e
    refine ⟨fun _ => ?_, fun c => absurd c (n1_ne (by omega))⟩
    have hs6 : s < 6 := by omega
    have hk : s / 2 < 3 := by omega
    obtain ⟨gp, go, gb⟩ := hg a ha' (s / 2) hk
    obtain ⟨f1, f2, f3⟩ := geo_f hd ha' hk
    have bs := bxS_le hd (s / 2)
    -- the seam that was found
    obtain ⟨hsp, c0, d0, hcd, hsm, hpl⟩ : s % 2 ≤ bxP dx dy dz a (s / 2) ∧ ∃ c0 d0, ((c0 = a ∧ d0 = b) ∨ (c0 = b ∧ d0 = a)) ∧ seam dx dy dz (s / 2) c0 d0 ∧ bxP dx dy dz a (s / 2) - s % 2 = bxP dx dy dz c0 (s / 2) := by
      rcases Nat.mod_two_eq_zero_or_one s with z | z
      · rw [show 6 * a + 2 * (s / 2) = 6 * a + s by omega, e2] at go
        by_cases q : bxP dx dy dz a (s / 2) + 1 < bxD dx dy dz (s / 2)
        · rw [if_pos q, nI_eq (by omega) (by omega)] at go
          exact ⟨by omega, a, b, Or.inl ⟨rfl, rfl⟩, ⟨hk, q, go⟩, by omega⟩
        · rw [if_neg q] at go; exact absurd go (n1_ne (by omega))
      · rw [show 6 * a + 2 * (s / 2) + 1 = 6 * a + s by omega, e2] at gb
        by_cases q : 0 < bxP dx dy dz a (s / 2)
        · rw [if_pos q, nI_eq (by omega) (by omega)] at gb
          obtain ⟨z1, z2, z3, z4⟩ := f3 q
          rw [← gb] at z2
          exact ⟨by omega, b, a, Or.inr ⟨rfl, rfl⟩, ⟨hk, by omega, by omega⟩, by omega⟩
        · rw [if_neg q] at gb; exact absurd gb (n1_ne (by omega))
    obtain ⟨y1, y2⟩ := scost_eq hr hkd (show a < 36 by omega) hs6 f1 gp hsp (nI (dx * dy * dz))
    refine ⟨vp_in_nI (by omega) (by decide), y1, yes _ _ ⟨fun k c d h hsm2 => ?_, fun h => absurd hsm (h _ _ _ hcd)⟩⟩
    have o1 := bxS_pos hd k
    have o2 := bxS_pos hd (s / 2)
    have ed := hsm.2.2
    have ed2 := hsm2.2.2
    have ec : c = c0 ∧ d = d0 := by omega
    obtain ⟨rfl, rfl⟩ := ec
    have ek := seam_u hd hsm2 hsm
    subst ek
    refine ⟨?_, ?_⟩
    · rw [y2]
      unfold cwA
      rw [gp, nI_clamp (by omega), hpl]
    · rw [nI_clamp (by omega), mk_eq kd (by omega)]
  · rw [e1] at e
    subst e
    refine ⟨fun c => absurd rfl c, fun _ => yes _ _ ⟨fun k c d h hsm => ?_, fun _ => ⟨rfl, rfl⟩⟩⟩
    exfalso
    obtain ⟨hk, q1, q2⟩ := hsm
    have bs := bxS_le hd k
    rcases h with ⟨rfl, rfl⟩ | ⟨rfl, rfl⟩
    · obtain ⟨gp, go, gb⟩ := hg c ha' k hk
      rw [if_pos q1, ← q2] at go
      exact e2 (2 * k) (by omega) (by omega) go
    · obtain ⟨gp, go, gb⟩ := hg d ha' k hk
      obtain ⟨z1, z2, z3⟩ := (geo_f hd hb' hk).2.1 q1
      rw [← q2] at z2
      rw [if_pos (by omega), show d - bxS dx dy k = c by omega] at gb
      exact e2 (2 * k + 1) (by omega) (by omega) gb


abbrev w1X3_skin (ad : Nat → Nat) (cA : Nat → ClassId) (S_asked : Int64) (C_size : Int32) (C_rules : Nat → Int32) (C_places : Nat → Int32) (C_beyond : Nat → Int32) (u : Unit) : va_W := [((ad 0), .inr (3, [.ref (ad 8), .ref (ad 1), .ref (ad 15), .long S_asked])), ((ad 1), .inr (0, [.ref (ad 2), .ref (ad 3), .ref (ad 4), .ref (ad 5), .ref (ad 6), .ref (ad 7), .int C_size])), ((ad 5), .inl (cA 0, 7, .inl C_rules)), ((ad 6), .inl (cA 0, 108, .inl C_places)), ((ad 7), .inl (cA 0, 216, .inl C_beyond))]
abbrev wcX3_skin (ad : Nat → Nat) (cA : Nat → ClassId) (S_asked : Int64) (C_size : Int32) (C_rules : Nat → Int32) (C_places : Nat → Int32) (C_beyond : Nat → Int32) : va_W := [((ad 0), .inr (3, [.ref (ad 8), .ref (ad 1), .ref (ad 15), .long S_asked])), ((ad 1), .inr (0, [.ref (ad 2), .ref (ad 3), .ref (ad 4), .ref (ad 5), .ref (ad 6), .ref (ad 7), .int C_size])), ((ad 5), .inl (cA 0, 7, .inl C_rules)), ((ad 6), .inl (cA 0, 108, .inl C_places)), ((ad 7), .inl (cA 0, 216, .inl C_beyond))]
def rmX3_skin : Room := { frames := 4, cells := 0, slots := 0, locals := 90 }
abbrev atX3_skin_0 (X : gX) (ad : Nat → Nat) (cA : Nat → ClassId) (p1 : Int64) (S_asked : Int64) (C_size : Int32) (C_rules : Nat → Int32) (C_places : Nat → Int32) (C_beyond : Nat → Int32) : Prop := gW X 0 0 [((ad 0), .inr (3, [.ref (ad 8), .ref (ad 1), .ref (ad 15), .long S_asked])), ((ad 1), .inr (0, [.ref (ad 2), .ref (ad 3), .ref (ad 4), .ref (ad 5), .ref (ad 6), .ref (ad 7), .int C_size])), ((ad 5), .inl (cA 0, 7, .inl C_rules)), ((ad 6), .inl (cA 0, 108, .inl C_places)), ((ad 7), .inl (cA 0, 216, .inl C_beyond))] 3 [(0, .ref (ad 0)), (1, .long p1)] [] 0
theorem cnX3_skin_89 : Cond.constantLong RX3 89 (-1) ∈ wsX3_skin := by decide +kernel
theorem giX3_skin_X3 : ∀ w ∈ u_ws RX3 TX3 4, w ∈ wsX3_skin := by decide +kernel
theorem gfX3_skin_20 : gF wsX3_skin RX3 20 3 1 RX3 TX3 4 := ⟨giX3_skin_X3, by decide +kernel, rfl, by decide⟩
set_option maxHeartbeats 4000000 in
set_option maxRecDepth 100000 in
theorem sgX3_skin_0 {X : gX} {ad : Nat → Nat} {cA : Nat → ClassId} {post : Int64 → (Unit) → Prop} {p1 : Int64} {S_asked : Int64} {C_size : Int32} {C_rules : Nat → Int32} {C_places : Nat → Int32} {C_beyond : Nat → Int32} (C : gC X (gT cA) cX3_skin 3 RX3 wsX3_skin rmX3_skin) (E : gEl X (some .long) (gT cA) 0 0 post (w1X3_skin ad cA S_asked C_size C_rules C_places C_beyond)) (h : ((fnX0_isSet p1 C_size) = false → post (-1 : Int64) ()) ∧ ((fnX0_isSet p1 C_size) = true → prX0_skinOf p1 C_size C_rules C_places C_beyond ∧ post (lI (sknA C_size.toNatClampNeg C_rules C_places C_beyond (sb p1))) ())) : atX3_skin_0 X ad cA p1 S_asked C_size C_rules C_places C_beyond := by
  refine g_aload_n C dX3_skin_0 rfl 0 rfl ?_
  refine g_get C gfX3_skin_20 0 rfl rfl dX3_skin_1 ?_
  refine g_lload_n C dX3_skin_4 rfl 1 rfl ?_
  refine g_callVi (wr := [((ad 0), .inr (3, [.ref (ad 8), .ref (ad 1), .ref (ad 15), .long S_asked])), ((ad 5), .inl (cA 0, 7, .inl C_rules)), ((ad 6), .inl (cA 0, 108, .inl C_places)), ((ad 7), .inl (cA 0, 216, .inl C_beyond))]) C (c_X0_isSet ad cA p1 C_size) gX3_skin_X0_isSet rfl hde_X0_isSet ⟨rfl, rfl⟩ (by decide) (by decide) [1] [0, 2, 3, 4] [0, 4, 1, 2, 3] rfl rfl rfl rfl (by decide) rfl (ws2 := fun u => [((ad 0), .inr (3, [.ref (ad 8), .ref (ad 1), .ref (ad 15), .long S_asked])), ((ad 1), .inr (0, [.ref (ad 2), .ref (ad 3), .ref (ad 4), .ref (ad 5), .ref (ad 6), .ref (ad 7), .int C_size])), ((ad 5), .inl (cA 0, 7, .inl C_rules)), ((ad 6), .inl (cA 0, 108, .inl C_places)), ((ad 7), .inl (cA 0, 216, .inl C_beyond))]) (fun _ => rfl) 0 0 rfl rfl rfl (rest := []) rfl (Nat.le_of_ble_eq_true rfl) dX3_skin_5 (fun r_1 u_1 hp_1 => ?_)
  subst hp_1
  change gW X 0 0 [((ad 0), .inr (3, [.ref (ad 8), .ref (ad 1), .ref (ad 15), .long S_asked])), ((ad 1), .inr (0, [.ref (ad 2), .ref (ad 3), .ref (ad 4), .ref (ad 5), .ref (ad 6), .ref (ad 7), .int C_size])), ((ad 5), .inl (cA 0, 7, .inl C_rules)), ((ad 6), .inl (cA 0, 108, .inl C_places)), ((ad 7), .inl (cA 0, 216, .inl C_beyond))] 3 [(0, .ref (ad 0)), (1, .long p1)] [.int (bI (fnX0_isSet p1 C_size))] 8
  refine g_ifeq_b (tgt := 22) C dX3_skin_8 (by decide) (fun c_2 => ?_) (fun c_2 => ?_)
  · replace h := h.1 c_2
    refine g_ldc2_w C cnX3_skin_89 dX3_skin_22 ?_
    exact g_lret C E () h rfl dX3_skin_25
  · replace h := h.2 c_2
    refine g_aload_n C dX3_skin_11 rfl 0 rfl ?_
    refine g_get C gfX3_skin_20 0 rfl rfl dX3_skin_12 ?_
    refine g_lload_n C dX3_skin_15 rfl 1 rfl ?_
    obtain ⟨hi_3, h⟩ := h
    refine g_callVl (wr := [((ad 0), .inr (3, [.ref (ad 8), .ref (ad 1), .ref (ad 15), .long S_asked]))]) C (c_X0_skinOf ad cA p1 C_size C_rules C_places C_beyond hi_3) gX3_skin_X0_skinOf rfl hde_X0_skinOf ⟨rfl, rfl⟩ (by decide) (by decide) [1, 2, 3, 4] [0] [0, 1, 2, 3, 4] rfl rfl rfl rfl (by decide) rfl (ws2 := fun u => [((ad 0), .inr (3, [.ref (ad 8), .ref (ad 1), .ref (ad 15), .long S_asked])), ((ad 1), .inr (0, [.ref (ad 2), .ref (ad 3), .ref (ad 4), .ref (ad 5), .ref (ad 6), .ref (ad 7), .int C_size])), ((ad 5), .inl (cA 0, 7, .inl C_rules)), ((ad 6), .inl (cA 0, 108, .inl C_places)), ((ad 7), .inl (cA 0, 216, .inl C_beyond))]) (fun _ => rfl) 0 0 rfl rfl rfl (rest := []) rfl (Nat.le_of_ble_eq_true rfl) dX3_skin_16 (fun r_4 u_4 hp_4 => ?_)
    subst hp_4
    change gW X 0 0 [((ad 0), .inr (3, [.ref (ad 8), .ref (ad 1), .ref (ad 15), .long S_asked])), ((ad 1), .inr (0, [.ref (ad 2), .ref (ad 3), .ref (ad 4), .ref (ad 5), .ref (ad 6), .ref (ad 7), .int C_size])), ((ad 5), .inl (cA 0, 7, .inl C_rules)), ((ad 6), .inl (cA 0, 108, .inl C_places)), ((ad 7), .inl (cA 0, 216, .inl C_beyond))] 3 [(0, .ref (ad 0)), (1, .long p1)] [.long (lI (sknA C_size.toNatClampNeg C_rules C_places C_beyond (sb p1)))] 19
    refine g_goto (tgt := 25) C dX3_skin_19 (by decide) ?_
    exact g_lret C E () h rfl dX3_skin_25
def prX3_skin (dx : Nat) (dy : Nat) (dz : Nat) (p1 : Int64) (S_asked : Int64) (C_size : Int32) (C_rules : Nat → Int32) (C_places : Nat → Int32) (C_beyond : Nat → Int32) : Prop := dimOK dx dy dz ∧ C_size = nI (dx * dy * dz) ∧ geoOK dx dy dz C_places C_beyond ∧ ruOK C_rules
def po_X3_skin (ad : Nat → Nat) (cA : Nat → ClassId) (dx : Nat) (dy : Nat) (dz : Nat) (p1 : Int64) (S_asked : Int64) (C_size : Int32) (C_rules : Nat → Int32) (C_places : Nat → Int32) (C_beyond : Nat → Int32) (r : Int64) (u : Unit) : Prop := r = (if isS (dx * dy * dz) p1 = true then lI (skZ dx dy dz C_rules (sb p1)) else -1)
set_option maxHeartbeats 4000000 in
set_option maxRecDepth 100000 in
theorem c_X3_skin (ad : Nat → Nat) (cA : Nat → ClassId) (dx : Nat) (dy : Nat) (dz : Nat) (p1 : Int64) (S_asked : Int64) (C_size : Int32) (C_rules : Nat → Int32) (C_places : Nat → Int32) (C_beyond : Nat → Int32) (hq : prX3_skin dx dy dz p1 S_asked C_size C_rules C_places C_beyond) : ∀ (l : Launch) (D : va_G), gMl (S := Unit) l yX3_skin wsX3_skin rmX3_skin D (gT cA) 0 0 [.ref (ad 0), .long p1] (wcX3_skin ad cA S_asked C_size C_rules C_places C_beyond) (po_X3_skin ad cA dx dy dz p1 S_asked C_size C_rules C_places C_beyond) (w1X3_skin ad cA S_asked C_size C_rules C_places C_beyond) := by
  intro l D
  unfold prX3_skin at hq
  refine g_enterl (cc := cX3_skin) (nL := 3) (ret := (some .long)) (by decide) rfl (Nat.le_of_ble_eq_true rfl) rfl (fun X C E => ?_)
  obtain ⟨hd, rfl, hg, hr⟩ := hq
  have hV := hd.2.2.2.2.2.2
  refine sgX3_skin_0 C E ?_
  rw [isS0_eq p1 hV, nI_clamp (by omega), skn_EZ hd hg]
  refine ⟨fun c => ?_, fun c => ⟨⟨_, geo_gr hd hg, hr, rfl⟩, ?_⟩⟩
  · show _ = _; rw [c]; rfl
  · show _ = _; rw [c]; rfl


abbrev w1X3_all (ad : Nat → Nat) (cA : Nat → ClassId) (S_asked : Int64) (C_size : Int32) (C_prices : Nat → Int32) (C_rules : Nat → Int32) (C_places : Nat → Int32) (C_beyond : Nat → Int32) (u : Unit) : va_W := [((ad 0), .inr (3, [.ref (ad 8), .ref (ad 1), .ref (ad 15), .long S_asked])), ((ad 1), .inr (0, [.ref (ad 2), .ref (ad 3), .ref (ad 4), .ref (ad 5), .ref (ad 6), .ref (ad 7), .int C_size])), ((ad 4), .inl (cA 0, 36, .inl C_prices)), ((ad 5), .inl (cA 0, 7, .inl C_rules)), ((ad 6), .inl (cA 0, 108, .inl C_places)), ((ad 7), .inl (cA 0, 216, .inl C_beyond))]
abbrev wcX3_all (ad : Nat → Nat) (cA : Nat → ClassId) (S_asked : Int64) (C_size : Int32) (C_prices : Nat → Int32) (C_rules : Nat → Int32) (C_places : Nat → Int32) (C_beyond : Nat → Int32) : va_W := [((ad 0), .inr (3, [.ref (ad 8), .ref (ad 1), .ref (ad 15), .long S_asked])), ((ad 1), .inr (0, [.ref (ad 2), .ref (ad 3), .ref (ad 4), .ref (ad 5), .ref (ad 6), .ref (ad 7), .int C_size])), ((ad 4), .inl (cA 0, 36, .inl C_prices)), ((ad 5), .inl (cA 0, 7, .inl C_rules)), ((ad 6), .inl (cA 0, 108, .inl C_places)), ((ad 7), .inl (cA 0, 216, .inl C_beyond))]
def rmX3_all : Room := { frames := 4, cells := 0, slots := 0, locals := 90 }
abbrev atX3_all_0 (X : gX) (ad : Nat → Nat) (cA : Nat → ClassId) (p1 : Int64) (S_asked : Int64) (C_size : Int32) (C_prices : Nat → Int32) (C_rules : Nat → Int32) (C_places : Nat → Int32) (C_beyond : Nat → Int32) : Prop := gW X 0 0 [((ad 0), .inr (3, [.ref (ad 8), .ref (ad 1), .ref (ad 15), .long S_asked])), ((ad 1), .inr (0, [.ref (ad 2), .ref (ad 3), .ref (ad 4), .ref (ad 5), .ref (ad 6), .ref (ad 7), .int C_size])), ((ad 4), .inl (cA 0, 36, .inl C_prices)), ((ad 5), .inl (cA 0, 7, .inl C_rules)), ((ad 6), .inl (cA 0, 108, .inl C_places)), ((ad 7), .inl (cA 0, 216, .inl C_beyond))] 3 [(0, .ref (ad 0)), (1, .long p1)] [] 0
theorem cnX3_all_94 : Cond.constantLong RX3 94 (-1000000) ∈ wsX3_all := by decide +kernel
theorem giX3_all_X3 : ∀ w ∈ u_ws RX3 TX3 4, w ∈ wsX3_all := by decide +kernel
theorem gfX3_all_20 : gF wsX3_all RX3 20 3 1 RX3 TX3 4 := ⟨giX3_all_X3, by decide +kernel, rfl, by decide⟩
set_option maxHeartbeats 4000000 in
set_option maxRecDepth 100000 in
theorem sgX3_all_0 {X : gX} {ad : Nat → Nat} {cA : Nat → ClassId} {post : Int64 → (Unit) → Prop} {p1 : Int64} {S_asked : Int64} {C_size : Int32} {C_prices : Nat → Int32} {C_rules : Nat → Int32} {C_places : Nat → Int32} {C_beyond : Nat → Int32} (C : gC X (gT cA) cX3_all 3 RX3 wsX3_all rmX3_all) (E : gEl X (some .long) (gT cA) 0 0 post (w1X3_all ad cA S_asked C_size C_prices C_rules C_places C_beyond)) (h : ((fnX0_isSet p1 C_size) = false → post (-1000000 : Int64) ()) ∧ ((fnX0_isSet p1 C_size) = true → prX0_skinOf p1 C_size C_rules C_places C_beyond ∧ prX0_pricesOf p1 C_size C_prices ∧ post ((lI (sknA C_size.toNatClampNeg C_rules C_places C_beyond (sb p1))) + (lI (prsA C_size.toNatClampNeg C_prices (sb p1)))) ())) : atX3_all_0 X ad cA p1 S_asked C_size C_prices C_rules C_places C_beyond := by
  refine g_aload_n C dX3_all_0 rfl 0 rfl ?_
  refine g_get C gfX3_all_20 0 rfl rfl dX3_all_1 ?_
  refine g_lload_n C dX3_all_4 rfl 1 rfl ?_
  refine g_callVi (wr := [((ad 0), .inr (3, [.ref (ad 8), .ref (ad 1), .ref (ad 15), .long S_asked])), ((ad 4), .inl (cA 0, 36, .inl C_prices)), ((ad 5), .inl (cA 0, 7, .inl C_rules)), ((ad 6), .inl (cA 0, 108, .inl C_places)), ((ad 7), .inl (cA 0, 216, .inl C_beyond))]) C (c_X0_isSet ad cA p1 C_size) gX3_all_X0_isSet rfl hde_X0_isSet ⟨rfl, rfl⟩ (by decide) (by decide) [1] [0, 2, 3, 4, 5] [0, 5, 1, 2, 3, 4] rfl rfl rfl rfl (by decide) rfl (ws2 := fun u => [((ad 0), .inr (3, [.ref (ad 8), .ref (ad 1), .ref (ad 15), .long S_asked])), ((ad 1), .inr (0, [.ref (ad 2), .ref (ad 3), .ref (ad 4), .ref (ad 5), .ref (ad 6), .ref (ad 7), .int C_size])), ((ad 4), .inl (cA 0, 36, .inl C_prices)), ((ad 5), .inl (cA 0, 7, .inl C_rules)), ((ad 6), .inl (cA 0, 108, .inl C_places)), ((ad 7), .inl (cA 0, 216, .inl C_beyond))]) (fun _ => rfl) 0 0 rfl rfl rfl (rest := []) rfl (Nat.le_of_ble_eq_true rfl) dX3_all_5 (fun r_1 u_1 hp_1 => ?_)
  subst hp_1
  change gW X 0 0 [((ad 0), .inr (3, [.ref (ad 8), .ref (ad 1), .ref (ad 15), .long S_asked])), ((ad 1), .inr (0, [.ref (ad 2), .ref (ad 3), .ref (ad 4), .ref (ad 5), .ref (ad 6), .ref (ad 7), .int C_size])), ((ad 4), .inl (cA 0, 36, .inl C_prices)), ((ad 5), .inl (cA 0, 7, .inl C_rules)), ((ad 6), .inl (cA 0, 108, .inl C_places)), ((ad 7), .inl (cA 0, 216, .inl C_beyond))] 3 [(0, .ref (ad 0)), (1, .long p1)] [.int (bI (fnX0_isSet p1 C_size))] 8
  refine g_ifeq_b (tgt := 31) C dX3_all_8 (by decide) (fun c_2 => ?_) (fun c_2 => ?_)
  · replace h := h.1 c_2
    refine g_ldc2_w C cnX3_all_94 dX3_all_31 ?_
    exact g_lret C E () h rfl dX3_all_34
  · replace h := h.2 c_2
    refine g_aload_n C dX3_all_11 rfl 0 rfl ?_
    refine g_get C gfX3_all_20 0 rfl rfl dX3_all_12 ?_
    refine g_lload_n C dX3_all_15 rfl 1 rfl ?_
    obtain ⟨hi_3, h⟩ := h
    refine g_callVl (wr := [((ad 0), .inr (3, [.ref (ad 8), .ref (ad 1), .ref (ad 15), .long S_asked])), ((ad 4), .inl (cA 0, 36, .inl C_prices))]) C (c_X0_skinOf ad cA p1 C_size C_rules C_places C_beyond hi_3) gX3_all_X0_skinOf rfl hde_X0_skinOf ⟨rfl, rfl⟩ (by decide) (by decide) [1, 3, 4, 5] [0, 2] [0, 2, 1, 3, 4, 5] rfl rfl rfl rfl (by decide) rfl (ws2 := fun u => [((ad 0), .inr (3, [.ref (ad 8), .ref (ad 1), .ref (ad 15), .long S_asked])), ((ad 1), .inr (0, [.ref (ad 2), .ref (ad 3), .ref (ad 4), .ref (ad 5), .ref (ad 6), .ref (ad 7), .int C_size])), ((ad 4), .inl (cA 0, 36, .inl C_prices)), ((ad 5), .inl (cA 0, 7, .inl C_rules)), ((ad 6), .inl (cA 0, 108, .inl C_places)), ((ad 7), .inl (cA 0, 216, .inl C_beyond))]) (fun _ => rfl) 0 0 rfl rfl rfl (rest := []) rfl (Nat.le_of_ble_eq_true rfl) dX3_all_16 (fun r_4 u_4 hp_4 => ?_)
    subst hp_4
    change gW X 0 0 [((ad 0), .inr (3, [.ref (ad 8), .ref (ad 1), .ref (ad 15), .long S_asked])), ((ad 1), .inr (0, [.ref (ad 2), .ref (ad 3), .ref (ad 4), .ref (ad 5), .ref (ad 6), .ref (ad 7), .int C_size])), ((ad 4), .inl (cA 0, 36, .inl C_prices)), ((ad 5), .inl (cA 0, 7, .inl C_rules)), ((ad 6), .inl (cA 0, 108, .inl C_places)), ((ad 7), .inl (cA 0, 216, .inl C_beyond))] 3 [(0, .ref (ad 0)), (1, .long p1)] [.long (lI (sknA C_size.toNatClampNeg C_rules C_places C_beyond (sb p1)))] 19
    refine g_aload_n C dX3_all_19 rfl 0 rfl ?_
    refine g_get C gfX3_all_20 0 rfl rfl dX3_all_20 ?_
    refine g_lload_n C dX3_all_23 rfl 1 rfl ?_
    obtain ⟨hi_5, h⟩ := h
    refine g_callVl (wr := [((ad 0), .inr (3, [.ref (ad 8), .ref (ad 1), .ref (ad 15), .long S_asked])), ((ad 5), .inl (cA 0, 7, .inl C_rules)), ((ad 6), .inl (cA 0, 108, .inl C_places)), ((ad 7), .inl (cA 0, 216, .inl C_beyond))]) C (c_X0_pricesOf ad cA p1 C_size C_prices hi_5) gX3_all_X0_pricesOf rfl hde_X0_pricesOf ⟨rfl, rfl⟩ (by decide) (by decide) [1, 2] [0, 3, 4, 5] [0, 4, 5, 1, 2, 3] rfl rfl rfl rfl (by decide) rfl (ws2 := fun u => [((ad 0), .inr (3, [.ref (ad 8), .ref (ad 1), .ref (ad 15), .long S_asked])), ((ad 1), .inr (0, [.ref (ad 2), .ref (ad 3), .ref (ad 4), .ref (ad 5), .ref (ad 6), .ref (ad 7), .int C_size])), ((ad 4), .inl (cA 0, 36, .inl C_prices)), ((ad 5), .inl (cA 0, 7, .inl C_rules)), ((ad 6), .inl (cA 0, 108, .inl C_places)), ((ad 7), .inl (cA 0, 216, .inl C_beyond))]) (fun _ => rfl) 0 0 rfl rfl rfl (rest := [.long (lI (sknA C_size.toNatClampNeg C_rules C_places C_beyond (sb p1)))]) rfl (Nat.le_of_ble_eq_true rfl) dX3_all_24 (fun r_6 u_6 hp_6 => ?_)
    subst hp_6
    change gW X 0 0 [((ad 0), .inr (3, [.ref (ad 8), .ref (ad 1), .ref (ad 15), .long S_asked])), ((ad 1), .inr (0, [.ref (ad 2), .ref (ad 3), .ref (ad 4), .ref (ad 5), .ref (ad 6), .ref (ad 7), .int C_size])), ((ad 4), .inl (cA 0, 36, .inl C_prices)), ((ad 5), .inl (cA 0, 7, .inl C_rules)), ((ad 6), .inl (cA 0, 108, .inl C_places)), ((ad 7), .inl (cA 0, 216, .inl C_beyond))] 3 [(0, .ref (ad 0)), (1, .long p1)] [.long (lI (prsA C_size.toNatClampNeg C_prices (sb p1))), .long (lI (sknA C_size.toNatClampNeg C_rules C_places C_beyond (sb p1)))] 27
    refine g_ladd C dX3_all_27 ?_
    refine g_goto (tgt := 34) C dX3_all_28 (by decide) ?_
    exact g_lret C E () h rfl dX3_all_34
def prX3_all (dx : Nat) (dy : Nat) (dz : Nat) (p1 : Int64) (S_asked : Int64) (C_size : Int32) (C_prices : Nat → Int32) (C_rules : Nat → Int32) (C_places : Nat → Int32) (C_beyond : Nat → Int32) : Prop := dimOK dx dy dz ∧ C_size = nI (dx * dy * dz) ∧ geoOK dx dy dz C_places C_beyond ∧ ruOK C_rules
def po_X3_all (ad : Nat → Nat) (cA : Nat → ClassId) (dx : Nat) (dy : Nat) (dz : Nat) (p1 : Int64) (S_asked : Int64) (C_size : Int32) (C_prices : Nat → Int32) (C_rules : Nat → Int32) (C_places : Nat → Int32) (C_beyond : Nat → Int32) (r : Int64) (u : Unit) : Prop := r = (if isS (dx * dy * dz) p1 = true then lI (skZ dx dy dz C_rules (sb p1) + prsA (dx * dy * dz) C_prices (sb p1)) else -1000000)
set_option maxHeartbeats 4000000 in
set_option maxRecDepth 100000 in
theorem c_X3_all (ad : Nat → Nat) (cA : Nat → ClassId) (dx : Nat) (dy : Nat) (dz : Nat) (p1 : Int64) (S_asked : Int64) (C_size : Int32) (C_prices : Nat → Int32) (C_rules : Nat → Int32) (C_places : Nat → Int32) (C_beyond : Nat → Int32) (hq : prX3_all dx dy dz p1 S_asked C_size C_prices C_rules C_places C_beyond) : ∀ (l : Launch) (D : va_G), gMl (S := Unit) l yX3_all wsX3_all rmX3_all D (gT cA) 0 0 [.ref (ad 0), .long p1] (wcX3_all ad cA S_asked C_size C_prices C_rules C_places C_beyond) (po_X3_all ad cA dx dy dz p1 S_asked C_size C_prices C_rules C_places C_beyond) (w1X3_all ad cA S_asked C_size C_prices C_rules C_places C_beyond) := by
  intro l D
  unfold prX3_all at hq
  refine g_enterl (cc := cX3_all) (nL := 3) (ret := (some .long)) (by decide) rfl (Nat.le_of_ble_eq_true rfl) rfl (fun X C E => ?_)
  obtain ⟨hd, rfl, hg, hr⟩ := hq
  have hV := hd.2.2.2.2.2.2
  refine sgX3_all_0 C E ?_
  rw [isS0_eq p1 hV, nI_clamp (by omega), skn_EZ hd hg, lI_add]
  refine ⟨fun c => ?_, fun c => ⟨⟨_, geo_gr hd hg, hr, rfl⟩, ⟨_, hV, rfl⟩, ?_⟩⟩
  · show _ = _; rw [c]; rfl
  · show _ = _; rw [c]; rfl


abbrev w1X3_right (ad : Nat → Nat) (cA : Nat → ClassId) (S_asked : Int64) (C_size : Int32) (C_held : Nat → Int32) (u : Unit) : va_W := [((ad 0), .inr (3, [.ref (ad 8), .ref (ad 1), .ref (ad 15), .long S_asked])), ((ad 1), .inr (0, [.ref (ad 2), .ref (ad 3), .ref (ad 4), .ref (ad 5), .ref (ad 6), .ref (ad 7), .int C_size])), ((ad 3), .inl (cA 0, 36, .inl C_held))]
abbrev wcX3_right (ad : Nat → Nat) (cA : Nat → ClassId) (S_asked : Int64) (C_size : Int32) (C_held : Nat → Int32) : va_W := [((ad 0), .inr (3, [.ref (ad 8), .ref (ad 1), .ref (ad 15), .long S_asked])), ((ad 1), .inr (0, [.ref (ad 2), .ref (ad 3), .ref (ad 4), .ref (ad 5), .ref (ad 6), .ref (ad 7), .int C_size])), ((ad 3), .inl (cA 0, 36, .inl C_held))]
def rmX3_right : Room := { frames := 2, cells := 0, slots := 0, locals := 45 }
abbrev atX3_right_0 (X : gX) (ad : Nat → Nat) (cA : Nat → ClassId) (p1 : Int64) (S_asked : Int64) (C_size : Int32) (C_held : Nat → Int32) : Prop := gW X 0 0 [((ad 0), .inr (3, [.ref (ad 8), .ref (ad 1), .ref (ad 15), .long S_asked])), ((ad 1), .inr (0, [.ref (ad 2), .ref (ad 3), .ref (ad 4), .ref (ad 5), .ref (ad 6), .ref (ad 7), .int C_size])), ((ad 3), .inl (cA 0, 36, .inl C_held))] 3 [(0, .ref (ad 0)), (1, .long p1)] [] 0
theorem giX3_right_X3 : ∀ w ∈ u_ws RX3 TX3 4, w ∈ wsX3_right := by decide +kernel
theorem gfX3_right_20 : gF wsX3_right RX3 20 3 1 RX3 TX3 4 := ⟨giX3_right_X3, by decide +kernel, rfl, by decide⟩
set_option maxHeartbeats 4000000 in
set_option maxRecDepth 100000 in
theorem sgX3_right_0 {X : gX} {ad : Nat → Nat} {cA : Nat → ClassId} {post : Int32 → (Unit) → Prop} {p1 : Int64} {S_asked : Int64} {C_size : Int32} {C_held : Nat → Int32} (C : gC X (gT cA) cX3_right 3 RX3 wsX3_right rmX3_right) (E : gEi X (some .int) (gT cA) 0 0 post (w1X3_right ad cA S_asked C_size C_held)) (h : ((fnX0_isSet p1 C_size) = true → prX0_isRight p1 C_size C_held ∧ ((rgtA C_size.toNatClampNeg C_held (sb p1)) = false → post (0 : Int32) ()) ∧ ((rgtA C_size.toNatClampNeg C_held (sb p1)) = true → post (1 : Int32) ())) ∧ ((fnX0_isSet p1 C_size) = false → post (-1 : Int32) ())) : atX3_right_0 X ad cA p1 S_asked C_size C_held := by
  refine g_aload_n C dX3_right_0 rfl 0 rfl ?_
  refine g_get C gfX3_right_20 0 rfl rfl dX3_right_1 ?_
  refine g_lload_n C dX3_right_4 rfl 1 rfl ?_
  refine g_callVi (wr := [((ad 0), .inr (3, [.ref (ad 8), .ref (ad 1), .ref (ad 15), .long S_asked])), ((ad 3), .inl (cA 0, 36, .inl C_held))]) C (c_X0_isSet ad cA p1 C_size) gX3_right_X0_isSet rfl hde_X0_isSet ⟨rfl, rfl⟩ (by decide) (by decide) [1] [0, 2] [0, 2, 1] rfl rfl rfl rfl (by decide) rfl (ws2 := fun u => [((ad 0), .inr (3, [.ref (ad 8), .ref (ad 1), .ref (ad 15), .long S_asked])), ((ad 1), .inr (0, [.ref (ad 2), .ref (ad 3), .ref (ad 4), .ref (ad 5), .ref (ad 6), .ref (ad 7), .int C_size])), ((ad 3), .inl (cA 0, 36, .inl C_held))]) (fun _ => rfl) 0 0 rfl rfl rfl (rest := []) rfl (Nat.le_of_ble_eq_true rfl) dX3_right_5 (fun r_1 u_1 hp_1 => ?_)
  subst hp_1
  change gW X 0 0 [((ad 0), .inr (3, [.ref (ad 8), .ref (ad 1), .ref (ad 15), .long S_asked])), ((ad 1), .inr (0, [.ref (ad 2), .ref (ad 3), .ref (ad 4), .ref (ad 5), .ref (ad 6), .ref (ad 7), .int C_size])), ((ad 3), .inl (cA 0, 36, .inl C_held))] 3 [(0, .ref (ad 0)), (1, .long p1)] [.int (bI (fnX0_isSet p1 C_size))] 8
  refine g_ifne_b (tgt := 13) C dX3_right_8 (by decide) (fun c_2 => ?_) (fun c_2 => ?_)
  · replace h := h.1 c_2
    refine g_aload_n C dX3_right_13 rfl 0 rfl ?_
    refine g_get C gfX3_right_20 0 rfl rfl dX3_right_14 ?_
    refine g_lload_n C dX3_right_17 rfl 1 rfl ?_
    obtain ⟨hi_3, h⟩ := h
    refine g_callVi (wr := [((ad 0), .inr (3, [.ref (ad 8), .ref (ad 1), .ref (ad 15), .long S_asked]))]) C (c_X0_isRight ad cA p1 C_size C_held hi_3) gX3_right_X0_isRight rfl hde_X0_isRight ⟨rfl, rfl⟩ (by decide) (by decide) [1, 2] [0] [0, 1, 2] rfl rfl rfl rfl (by decide) rfl (ws2 := fun u => [((ad 0), .inr (3, [.ref (ad 8), .ref (ad 1), .ref (ad 15), .long S_asked])), ((ad 1), .inr (0, [.ref (ad 2), .ref (ad 3), .ref (ad 4), .ref (ad 5), .ref (ad 6), .ref (ad 7), .int C_size])), ((ad 3), .inl (cA 0, 36, .inl C_held))]) (fun _ => rfl) 0 0 rfl rfl rfl (rest := []) rfl (Nat.le_of_ble_eq_true rfl) dX3_right_18 (fun r_4 u_4 hp_4 => ?_)
    subst hp_4
    change gW X 0 0 [((ad 0), .inr (3, [.ref (ad 8), .ref (ad 1), .ref (ad 15), .long S_asked])), ((ad 1), .inr (0, [.ref (ad 2), .ref (ad 3), .ref (ad 4), .ref (ad 5), .ref (ad 6), .ref (ad 7), .int C_size])), ((ad 3), .inl (cA 0, 36, .inl C_held))] 3 [(0, .ref (ad 0)), (1, .long p1)] [.int (bI (rgtA C_size.toNatClampNeg C_held (sb p1)))] 21
    refine g_ifeq_b (tgt := 28) C dX3_right_21 (by decide) (fun c_5 => ?_) (fun c_5 => ?_)
    · replace h := h.1 c_5
      refine g_iconst C dX3_right_28 ik_0 ?_
      exact g_iret C E () h rfl dX3_right_29
    · replace h := h.2 c_5
      refine g_iconst C dX3_right_24 ik_1 ?_
      refine g_goto (tgt := 29) C dX3_right_25 (by decide) ?_
      exact g_iret C E () h rfl dX3_right_29
  · replace h := h.2 c_2
    refine g_iconst C dX3_right_11 ik_m1 ?_
    exact g_iret C E () h rfl dX3_right_12
def prX3_right (dx : Nat) (dy : Nat) (dz : Nat) (p1 : Int64) (S_asked : Int64) (C_size : Int32) (C_held : Nat → Int32) : Prop := dimOK dx dy dz ∧ C_size = nI (dx * dy * dz)
def po_X3_right (ad : Nat → Nat) (cA : Nat → ClassId) (dx : Nat) (dy : Nat) (dz : Nat) (p1 : Int64) (S_asked : Int64) (C_size : Int32) (C_held : Nat → Int32) (r : Int32) (u : Unit) : Prop := r = (if isS (dx * dy * dz) p1 = true then bI (rgtA (dx * dy * dz) C_held (sb p1)) else -1)
set_option maxHeartbeats 4000000 in
set_option maxRecDepth 100000 in
theorem c_X3_right (ad : Nat → Nat) (cA : Nat → ClassId) (dx : Nat) (dy : Nat) (dz : Nat) (p1 : Int64) (S_asked : Int64) (C_size : Int32) (C_held : Nat → Int32) (hq : prX3_right dx dy dz p1 S_asked C_size C_held) : ∀ (l : Launch) (D : va_G), gMi (S := Unit) l yX3_right wsX3_right rmX3_right D (gT cA) 0 0 [.ref (ad 0), .long p1] (wcX3_right ad cA S_asked C_size C_held) (po_X3_right ad cA dx dy dz p1 S_asked C_size C_held) (w1X3_right ad cA S_asked C_size C_held) := by
  intro l D
  unfold prX3_right at hq
  refine g_enteri (cc := cX3_right) (nL := 3) (ret := (some .int)) (by decide) rfl (Nat.le_of_ble_eq_true rfl) rfl (fun X C E => ?_)
  obtain ⟨hd, rfl⟩ := hq
  have hV := hd.2.2.2.2.2.2
  refine sgX3_right_0 C E ?_
  rw [isS0_eq p1 hV, nI_clamp (by omega)]
  refine ⟨fun c => ⟨⟨_, hV, rfl⟩, fun c2 => ?_, fun c2 => ?_⟩, fun c => ?_⟩
  · show _ = _; rw [c, c2]; rfl
  · show _ = _; rw [c, c2]; rfl
  · show _ = _; rw [c]; rfl


abbrev w1X3_least (ad : Nat → Nat) (cA : Nat → ClassId) (S_asked : Int64) (C_size : Int32) (C_held : Nat → Int32) (C_prices : Nat → Int32) (C_rules : Nat → Int32) (C_places : Nat → Int32) (C_beyond : Nat → Int32) (u : (Int32) × (Int32) × (Int64) × (Int64) × (Int64) × (Nat → Int32) × (Nat → Int32) × (Nat → Int32) × (Nat → Int32) × (Nat → Int32) × (Nat → Int32) × (Int32)) : va_W := [((ad 0), .inr (3, [.ref (ad 8), .ref (ad 1), .ref (ad 15), .long S_asked])), ((ad 1), .inr (0, [.ref (ad 2), .ref (ad 3), .ref (ad 4), .ref (ad 5), .ref (ad 6), .ref (ad 7), .int C_size])), ((ad 3), .inl (cA 0, 36, .inl C_held)), ((ad 4), .inl (cA 0, 36, .inl C_prices)), ((ad 5), .inl (cA 0, 7, .inl C_rules)), ((ad 6), .inl (cA 0, 108, .inl C_places)), ((ad 7), .inl (cA 0, 216, .inl C_beyond)), ((ad 8), .inr (1, [.ref (ad 1), .ref (ad 9), .ref (ad 10), .ref (ad 11), .ref (ad 12), .ref (ad 13), .ref (ad 14), .int u.2.2.2.2.2.2.2.2.2.2.2, .int u.1, .int u.2.1, .long u.2.2.1, .long u.2.2.2.1, .long u.2.2.2.2.1])), ((ad 9), .inl (cA 0, 36, .inl u.2.2.2.2.2.1)), ((ad 10), .inl (cA 0, 36, .inl u.2.2.2.2.2.2.1)), ((ad 11), .inl (cA 0, 216, .inl u.2.2.2.2.2.2.2.1)), ((ad 12), .inl (cA 0, 36, .inl u.2.2.2.2.2.2.2.2.1)), ((ad 13), .inl (cA 0, 36, .inl u.2.2.2.2.2.2.2.2.2.1)), ((ad 14), .inl (cA 0, 36, .inl u.2.2.2.2.2.2.2.2.2.2.1))]
abbrev wcX3_least (ad : Nat → Nat) (cA : Nat → ClassId) (S_asked : Int64) (C_size : Int32) (C_held : Nat → Int32) (C_prices : Nat → Int32) (C_rules : Nat → Int32) (C_places : Nat → Int32) (C_beyond : Nat → Int32) (F_queued : Int32) (F_settled : Int32) (F_settledRise : Int32) (F_amount : Int64) (F_lowest : Int64) (F_highest : Int64) (F_springs : Nat → Int32) (F_drains : Nat → Int32) (F_passes : Nat → Int32) (F_cameFrom : Nat → Int32) (F_cameBy : Nat → Int32) (F_queue : Nat → Int32) : va_W := [((ad 0), .inr (3, [.ref (ad 8), .ref (ad 1), .ref (ad 15), .long S_asked])), ((ad 1), .inr (0, [.ref (ad 2), .ref (ad 3), .ref (ad 4), .ref (ad 5), .ref (ad 6), .ref (ad 7), .int C_size])), ((ad 3), .inl (cA 0, 36, .inl C_held)), ((ad 4), .inl (cA 0, 36, .inl C_prices)), ((ad 5), .inl (cA 0, 7, .inl C_rules)), ((ad 6), .inl (cA 0, 108, .inl C_places)), ((ad 7), .inl (cA 0, 216, .inl C_beyond)), ((ad 8), .inr (1, [.ref (ad 1), .ref (ad 9), .ref (ad 10), .ref (ad 11), .ref (ad 12), .ref (ad 13), .ref (ad 14), .int F_queued, .int F_settled, .int F_settledRise, .long F_amount, .long F_lowest, .long F_highest])), ((ad 9), .inl (cA 0, 36, .inl F_springs)), ((ad 10), .inl (cA 0, 36, .inl F_drains)), ((ad 11), .inl (cA 0, 216, .inl F_passes)), ((ad 12), .inl (cA 0, 36, .inl F_cameFrom)), ((ad 13), .inl (cA 0, 36, .inl F_cameBy)), ((ad 14), .inl (cA 0, 36, .inl F_queue))]
def rmX3_least : Room := { frames := 4, cells := 0, slots := 0, locals := 91 }
abbrev atX3_least_0 (X : gX) (ad : Nat → Nat) (cA : Nat → ClassId) (S_asked : Int64) (C_size : Int32) (C_held : Nat → Int32) (C_prices : Nat → Int32) (C_rules : Nat → Int32) (C_places : Nat → Int32) (C_beyond : Nat → Int32) (F_queued : Int32) (F_settled : Int32) (F_settledRise : Int32) (F_amount : Int64) (F_lowest : Int64) (F_highest : Int64) (F_springs : Nat → Int32) (F_drains : Nat → Int32) (F_passes : Nat → Int32) (F_cameFrom : Nat → Int32) (F_cameBy : Nat → Int32) (F_queue : Nat → Int32) : Prop := gW X 0 0 [((ad 0), .inr (3, [.ref (ad 8), .ref (ad 1), .ref (ad 15), .long S_asked])), ((ad 1), .inr (0, [.ref (ad 2), .ref (ad 3), .ref (ad 4), .ref (ad 5), .ref (ad 6), .ref (ad 7), .int C_size])), ((ad 3), .inl (cA 0, 36, .inl C_held)), ((ad 4), .inl (cA 0, 36, .inl C_prices)), ((ad 5), .inl (cA 0, 7, .inl C_rules)), ((ad 6), .inl (cA 0, 108, .inl C_places)), ((ad 7), .inl (cA 0, 216, .inl C_beyond)), ((ad 8), .inr (1, [.ref (ad 1), .ref (ad 9), .ref (ad 10), .ref (ad 11), .ref (ad 12), .ref (ad 13), .ref (ad 14), .int F_queued, .int F_settled, .int F_settledRise, .long F_amount, .long F_lowest, .long F_highest])), ((ad 9), .inl (cA 0, 36, .inl F_springs)), ((ad 10), .inl (cA 0, 36, .inl F_drains)), ((ad 11), .inl (cA 0, 216, .inl F_passes)), ((ad 12), .inl (cA 0, 36, .inl F_cameFrom)), ((ad 13), .inl (cA 0, 36, .inl F_cameBy)), ((ad 14), .inl (cA 0, 36, .inl F_queue))] 1 [(0, .ref (ad 0))] [] 0
theorem giX3_least_X3 : ∀ w ∈ u_ws RX3 TX3 4, w ∈ wsX3_least := by decide +kernel
theorem gfX3_least_10 : gF wsX3_least RX3 10 3 0 RX3 TX3 4 := ⟨giX3_least_X3, by decide +kernel, rfl, by decide⟩
theorem giX3_least_X1 : ∀ w ∈ u_ws RX1 TX1 13, w ∈ wsX3_least := by decide +kernel
theorem gfX3_least_103 : gF wsX3_least RX3 103 1 10 RX1 TX1 13 := ⟨giX3_least_X1, by decide +kernel, rfl, by decide⟩
set_option maxHeartbeats 4000000 in
set_option maxRecDepth 100000 in
theorem sgX3_least_0 {X : gX} {ad : Nat → Nat} {cA : Nat → ClassId} {post : Int64 → ((Int32) × (Int32) × (Int64) × (Int64) × (Int64) × (Nat → Int32) × (Nat → Int32) × (Nat → Int32) × (Nat → Int32) × (Nat → Int32) × (Nat → Int32) × (Int32)) → Prop} {S_asked : Int64} {C_size : Int32} {C_held : Nat → Int32} {C_prices : Nat → Int32} {C_rules : Nat → Int32} {C_places : Nat → Int32} {C_beyond : Nat → Int32} {F_queued : Int32} {F_settled : Int32} {F_settledRise : Int32} {F_amount : Int64} {F_lowest : Int64} {F_highest : Int64} {F_springs : Nat → Int32} {F_drains : Nat → Int32} {F_passes : Nat → Int32} {F_cameFrom : Nat → Int32} {F_cameBy : Nat → Int32} {F_queue : Nat → Int32} (C : gC X (gT cA) cX3_least 1 RX3 wsX3_least rmX3_least) (E : gEl X (some .long) (gT cA) 0 0 post (w1X3_least ad cA S_asked C_size C_held C_prices C_rules C_places C_beyond)) (h : ∃ (n_1 : Nat), prX1_settle n_1 (0 : Int32) C_size C_held C_prices C_rules C_places C_beyond F_queued F_settled F_settledRise F_amount F_lowest F_highest F_springs F_drains F_passes F_cameFrom F_cameBy F_queue ∧ ∀ (u3_F_settled : Int32) (u3_F_settledRise : Int32) (u3_F_amount : Int64) (u3_F_lowest : Int64) (u3_F_highest : Int64) (u3_F_springs : Nat → Int32) (u3_F_drains : Nat → Int32) (u3_F_passes : Nat → Int32) (u3_F_cameFrom : Nat → Int32) (u3_F_cameBy : Nat → Int32) (u3_F_queue : Nat → Int32) (u3_F_queued : Int32), po_X1_settle ad cA n_1 (0 : Int32) C_size C_held C_prices C_rules C_places C_beyond F_queued F_settled F_settledRise F_amount F_lowest F_highest F_springs F_drains F_passes F_cameFrom F_cameBy F_queue (u3_F_settled, u3_F_settledRise, u3_F_amount, u3_F_lowest, u3_F_highest, u3_F_springs, u3_F_drains, u3_F_passes, u3_F_cameFrom, u3_F_cameBy, u3_F_queue, u3_F_queued) → post u3_F_amount (u3_F_settled, u3_F_settledRise, u3_F_amount, u3_F_lowest, u3_F_highest, u3_F_springs, u3_F_drains, u3_F_passes, u3_F_cameFrom, u3_F_cameBy, u3_F_queue, u3_F_queued)) : atX3_least_0 X ad cA S_asked C_size C_held C_prices C_rules C_places C_beyond F_queued F_settled F_settledRise F_amount F_lowest F_highest F_springs F_drains F_passes F_cameFrom F_cameBy F_queue := by
  refine g_aload_n C dX3_least_0 rfl 0 rfl ?_
  refine g_get C gfX3_least_10 0 rfl rfl dX3_least_1 ?_
  refine g_iconst C dX3_least_4 ik_0 ?_
  obtain ⟨n_1, h⟩ := h
  obtain ⟨hi_2, h⟩ := h
  refine g_callVv (wr := [((ad 0), .inr (3, [.ref (ad 8), .ref (ad 1), .ref (ad 15), .long S_asked]))]) C (c_X1_settle ad cA n_1 (0 : Int32) C_size C_held C_prices C_rules C_places C_beyond F_queued F_settled F_settledRise F_amount F_lowest F_highest F_springs F_drains F_passes F_cameFrom F_cameBy F_queue hi_2) gX3_least_X1_settle rfl hde_X1_settle ⟨rfl, rfl⟩ (by decide) (by decide) [1, 2, 3, 4, 5, 6, 7, 8, 9, 10, 11, 12, 13] [0] [0, 1, 2, 3, 4, 5, 6, 7, 8, 9, 10, 11, 12, 13] rfl rfl rfl rfl (by decide) rfl (ws2 := fun u => [((ad 0), .inr (3, [.ref (ad 8), .ref (ad 1), .ref (ad 15), .long S_asked])), ((ad 1), .inr (0, [.ref (ad 2), .ref (ad 3), .ref (ad 4), .ref (ad 5), .ref (ad 6), .ref (ad 7), .int C_size])), ((ad 3), .inl (cA 0, 36, .inl C_held)), ((ad 4), .inl (cA 0, 36, .inl C_prices)), ((ad 5), .inl (cA 0, 7, .inl C_rules)), ((ad 6), .inl (cA 0, 108, .inl C_places)), ((ad 7), .inl (cA 0, 216, .inl C_beyond)), ((ad 8), .inr (1, [.ref (ad 1), .ref (ad 9), .ref (ad 10), .ref (ad 11), .ref (ad 12), .ref (ad 13), .ref (ad 14), .int u.2.2.2.2.2.2.2.2.2.2.2, .int u.1, .int u.2.1, .long u.2.2.1, .long u.2.2.2.1, .long u.2.2.2.2.1])), ((ad 9), .inl (cA 0, 36, .inl u.2.2.2.2.2.1)), ((ad 10), .inl (cA 0, 36, .inl u.2.2.2.2.2.2.1)), ((ad 11), .inl (cA 0, 216, .inl u.2.2.2.2.2.2.2.1)), ((ad 12), .inl (cA 0, 36, .inl u.2.2.2.2.2.2.2.2.1)), ((ad 13), .inl (cA 0, 36, .inl u.2.2.2.2.2.2.2.2.2.1)), ((ad 14), .inl (cA 0, 36, .inl u.2.2.2.2.2.2.2.2.2.2.1))]) (fun _ => rfl) 1 6 rfl rfl rfl (rest := []) rfl (Nat.le_of_ble_eq_true rfl) dX3_least_5 (fun u_3 hp_3 => ?_)
  obtain ⟨u3_F_settled, u3_F_settledRise, u3_F_amount, u3_F_lowest, u3_F_highest, u3_F_springs, u3_F_drains, u3_F_passes, u3_F_cameFrom, u3_F_cameBy, u3_F_queue, u3_F_queued⟩ := u_3
  replace h := h u3_F_settled u3_F_settledRise u3_F_amount u3_F_lowest u3_F_highest u3_F_springs u3_F_drains u3_F_passes u3_F_cameFrom u3_F_cameBy u3_F_queue u3_F_queued hp_3
  change gW X 0 0 [((ad 0), .inr (3, [.ref (ad 8), .ref (ad 1), .ref (ad 15), .long S_asked])), ((ad 1), .inr (0, [.ref (ad 2), .ref (ad 3), .ref (ad 4), .ref (ad 5), .ref (ad 6), .ref (ad 7), .int C_size])), ((ad 3), .inl (cA 0, 36, .inl C_held)), ((ad 4), .inl (cA 0, 36, .inl C_prices)), ((ad 5), .inl (cA 0, 7, .inl C_rules)), ((ad 6), .inl (cA 0, 108, .inl C_places)), ((ad 7), .inl (cA 0, 216, .inl C_beyond)), ((ad 8), .inr (1, [.ref (ad 1), .ref (ad 9), .ref (ad 10), .ref (ad 11), .ref (ad 12), .ref (ad 13), .ref (ad 14), .int u3_F_queued, .int u3_F_settled, .int u3_F_settledRise, .long u3_F_amount, .long u3_F_lowest, .long u3_F_highest])), ((ad 9), .inl (cA 0, 36, .inl u3_F_springs)), ((ad 10), .inl (cA 0, 36, .inl u3_F_drains)), ((ad 11), .inl (cA 0, 216, .inl u3_F_passes)), ((ad 12), .inl (cA 0, 36, .inl u3_F_cameFrom)), ((ad 13), .inl (cA 0, 36, .inl u3_F_cameBy)), ((ad 14), .inl (cA 0, 36, .inl u3_F_queue))] 1 [(0, .ref (ad 0))] [] 8
  refine g_aload_n C dX3_least_8 rfl 0 rfl ?_
  refine g_get C gfX3_least_10 0 rfl rfl dX3_least_9 ?_
  refine g_get C gfX3_least_103 7 rfl rfl dX3_least_12 ?_
  exact g_lret C E (u3_F_settled, u3_F_settledRise, u3_F_amount, u3_F_lowest, u3_F_highest, u3_F_springs, u3_F_drains, u3_F_passes, u3_F_cameFrom, u3_F_cameBy, u3_F_queue, u3_F_queued) h rfl dX3_least_15
def prX3_least (dx : Nat) (dy : Nat) (dz : Nat) (S_asked : Int64) (C_size : Int32) (C_held : Nat → Int32) (C_prices : Nat → Int32) (C_rules : Nat → Int32) (C_places : Nat → Int32) (C_beyond : Nat → Int32) (F_queued : Int32) (F_settled : Int32) (F_settledRise : Int32) (F_amount : Int64) (F_lowest : Int64) (F_highest : Int64) (F_springs : Nat → Int32) (F_drains : Nat → Int32) (F_passes : Nat → Int32) (F_cameFrom : Nat → Int32) (F_cameBy : Nat → Int32) (F_queue : Nat → Int32) : Prop := dimOK dx dy dz ∧ C_size = nI (dx * dy * dz) ∧ geoOK dx dy dz C_places C_beyond ∧ ruOK C_rules ∧ prOK (dx * dy * dz) C_prices ∧ hdOK (dx * dy * dz) C_held ∧ chOK (dx * dy * dz) C_beyond C_places C_rules C_prices C_held F_settled F_settledRise F_amount F_lowest F_highest
def po_X3_least (ad : Nat → Nat) (cA : Nat → ClassId) (dx : Nat) (dy : Nat) (dz : Nat) (S_asked : Int64) (C_size : Int32) (C_held : Nat → Int32) (C_prices : Nat → Int32) (C_rules : Nat → Int32) (C_places : Nat → Int32) (C_beyond : Nat → Int32) (F_queued : Int32) (F_settled : Int32) (F_settledRise : Int32) (F_amount : Int64) (F_lowest : Int64) (F_highest : Int64) (F_springs : Nat → Int32) (F_drains : Nat → Int32) (F_passes : Nat → Int32) (F_cameFrom : Nat → Int32) (F_cameBy : Nat → Int32) (F_queue : Nat → Int32) (r : Int64) (u : (Int32) × (Int32) × (Int64) × (Int64) × (Int64) × (Nat → Int32) × (Nat → Int32) × (Nat → Int32) × (Nat → Int32) × (Nat → Int32) × (Nat → Int32) × (Int32)) : Prop := setOK (dx * dy * dz) C_beyond C_places C_rules C_prices C_held 0 u.2.2.1 u.2.2.2.1 u.2.2.2.2.1 ∧ chOK (dx * dy * dz) C_beyond C_places C_rules C_prices C_held u.1 u.2.1 u.2.2.1 u.2.2.2.1 u.2.2.2.2.1 ∧ r = u.2.2.1
set_option maxHeartbeats 4000000 in
set_option maxRecDepth 100000 in
theorem c_X3_least (ad : Nat → Nat) (cA : Nat → ClassId) (dx : Nat) (dy : Nat) (dz : Nat) (S_asked : Int64) (C_size : Int32) (C_held : Nat → Int32) (C_prices : Nat → Int32) (C_rules : Nat → Int32) (C_places : Nat → Int32) (C_beyond : Nat → Int32) (F_queued : Int32) (F_settled : Int32) (F_settledRise : Int32) (F_amount : Int64) (F_lowest : Int64) (F_highest : Int64) (F_springs : Nat → Int32) (F_drains : Nat → Int32) (F_passes : Nat → Int32) (F_cameFrom : Nat → Int32) (F_cameBy : Nat → Int32) (F_queue : Nat → Int32) (hq : prX3_least dx dy dz S_asked C_size C_held C_prices C_rules C_places C_beyond F_queued F_settled F_settledRise F_amount F_lowest F_highest F_springs F_drains F_passes F_cameFrom F_cameBy F_queue) : ∀ (l : Launch) (D : va_G), gMl (S := (Int32) × (Int32) × (Int64) × (Int64) × (Int64) × (Nat → Int32) × (Nat → Int32) × (Nat → Int32) × (Nat → Int32) × (Nat → Int32) × (Nat → Int32) × (Int32)) l yX3_least wsX3_least rmX3_least D (gT cA) 0 0 [.ref (ad 0)] (wcX3_least ad cA S_asked C_size C_held C_prices C_rules C_places C_beyond F_queued F_settled F_settledRise F_amount F_lowest F_highest F_springs F_drains F_passes F_cameFrom F_cameBy F_queue) (po_X3_least ad cA dx dy dz S_asked C_size C_held C_prices C_rules C_places C_beyond F_queued F_settled F_settledRise F_amount F_lowest F_highest F_springs F_drains F_passes F_cameFrom F_cameBy F_queue) (w1X3_least ad cA S_asked C_size C_held C_prices C_rules C_places C_beyond) := by
  intro l D
  unfold prX3_least at hq
  refine g_enterl (cc := cX3_least) (nL := 1) (ret := (some .long)) (by decide) rfl (Nat.le_of_ble_eq_true rfl) rfl (fun X C E => ?_)
  obtain ⟨hd, rfl, hg, hr, hp, hh, hch⟩ := hq
  have hV := hd.2.2.2.2.2.2
  refine sgX3_least_0 C E ⟨dx * dy * dz, ⟨geo_gr hd hg, hr, hp, hh, rfl, by decide, by decide, hch⟩, fun st ri am lo hi s1 s2 s3 s4 s5 s6 s7 hs => ?_⟩
  obtain ⟨a1, a2, a3⟩ := hs
  dsimp only at a1 a2 a3
  exact ⟨a3, fun _ => by rw [a2]; exact a3, rfl⟩


abbrev w1X3_film (ad : Nat → Nat) (cA : Nat → ClassId) (S_asked : Int64) (C_size : Int32) (C_held : Nat → Int32) (C_prices : Nat → Int32) (C_rules : Nat → Int32) (C_places : Nat → Int32) (C_beyond : Nat → Int32) (u : (Int32) × (Int32) × (Int64) × (Int64) × (Int64) × (Nat → Int32) × (Nat → Int32) × (Nat → Int32) × (Nat → Int32) × (Nat → Int32) × (Nat → Int32) × (Int32)) : va_W := [((ad 0), .inr (3, [.ref (ad 8), .ref (ad 1), .ref (ad 15), .long S_asked])), ((ad 1), .inr (0, [.ref (ad 2), .ref (ad 3), .ref (ad 4), .ref (ad 5), .ref (ad 6), .ref (ad 7), .int C_size])), ((ad 3), .inl (cA 0, 36, .inl C_held)), ((ad 4), .inl (cA 0, 36, .inl C_prices)), ((ad 5), .inl (cA 0, 7, .inl C_rules)), ((ad 6), .inl (cA 0, 108, .inl C_places)), ((ad 7), .inl (cA 0, 216, .inl C_beyond)), ((ad 8), .inr (1, [.ref (ad 1), .ref (ad 9), .ref (ad 10), .ref (ad 11), .ref (ad 12), .ref (ad 13), .ref (ad 14), .int u.2.2.2.2.2.2.2.2.2.2.2, .int u.1, .int u.2.1, .long u.2.2.1, .long u.2.2.2.1, .long u.2.2.2.2.1])), ((ad 9), .inl (cA 0, 36, .inl u.2.2.2.2.2.1)), ((ad 10), .inl (cA 0, 36, .inl u.2.2.2.2.2.2.1)), ((ad 11), .inl (cA 0, 216, .inl u.2.2.2.2.2.2.2.1)), ((ad 12), .inl (cA 0, 36, .inl u.2.2.2.2.2.2.2.2.1)), ((ad 13), .inl (cA 0, 36, .inl u.2.2.2.2.2.2.2.2.2.1)), ((ad 14), .inl (cA 0, 36, .inl u.2.2.2.2.2.2.2.2.2.2.1))]
abbrev wcX3_film (ad : Nat → Nat) (cA : Nat → ClassId) (S_asked : Int64) (C_size : Int32) (C_held : Nat → Int32) (C_prices : Nat → Int32) (C_rules : Nat → Int32) (C_places : Nat → Int32) (C_beyond : Nat → Int32) (F_queued : Int32) (F_settled : Int32) (F_settledRise : Int32) (F_amount : Int64) (F_lowest : Int64) (F_highest : Int64) (F_springs : Nat → Int32) (F_drains : Nat → Int32) (F_passes : Nat → Int32) (F_cameFrom : Nat → Int32) (F_cameBy : Nat → Int32) (F_queue : Nat → Int32) : va_W := [((ad 0), .inr (3, [.ref (ad 8), .ref (ad 1), .ref (ad 15), .long S_asked])), ((ad 1), .inr (0, [.ref (ad 2), .ref (ad 3), .ref (ad 4), .ref (ad 5), .ref (ad 6), .ref (ad 7), .int C_size])), ((ad 3), .inl (cA 0, 36, .inl C_held)), ((ad 4), .inl (cA 0, 36, .inl C_prices)), ((ad 5), .inl (cA 0, 7, .inl C_rules)), ((ad 6), .inl (cA 0, 108, .inl C_places)), ((ad 7), .inl (cA 0, 216, .inl C_beyond)), ((ad 8), .inr (1, [.ref (ad 1), .ref (ad 9), .ref (ad 10), .ref (ad 11), .ref (ad 12), .ref (ad 13), .ref (ad 14), .int F_queued, .int F_settled, .int F_settledRise, .long F_amount, .long F_lowest, .long F_highest])), ((ad 9), .inl (cA 0, 36, .inl F_springs)), ((ad 10), .inl (cA 0, 36, .inl F_drains)), ((ad 11), .inl (cA 0, 216, .inl F_passes)), ((ad 12), .inl (cA 0, 36, .inl F_cameFrom)), ((ad 13), .inl (cA 0, 36, .inl F_cameBy)), ((ad 14), .inl (cA 0, 36, .inl F_queue))]
def rmX3_film : Room := { frames := 4, cells := 0, slots := 0, locals := 91 }
abbrev atX3_film_0 (X : gX) (ad : Nat → Nat) (cA : Nat → ClassId) (p1 : Int32) (S_asked : Int64) (C_size : Int32) (C_held : Nat → Int32) (C_prices : Nat → Int32) (C_rules : Nat → Int32) (C_places : Nat → Int32) (C_beyond : Nat → Int32) (F_queued : Int32) (F_settled : Int32) (F_settledRise : Int32) (F_amount : Int64) (F_lowest : Int64) (F_highest : Int64) (F_springs : Nat → Int32) (F_drains : Nat → Int32) (F_passes : Nat → Int32) (F_cameFrom : Nat → Int32) (F_cameBy : Nat → Int32) (F_queue : Nat → Int32) : Prop := gW X 0 0 [((ad 0), .inr (3, [.ref (ad 8), .ref (ad 1), .ref (ad 15), .long S_asked])), ((ad 1), .inr (0, [.ref (ad 2), .ref (ad 3), .ref (ad 4), .ref (ad 5), .ref (ad 6), .ref (ad 7), .int C_size])), ((ad 3), .inl (cA 0, 36, .inl C_held)), ((ad 4), .inl (cA 0, 36, .inl C_prices)), ((ad 5), .inl (cA 0, 7, .inl C_rules)), ((ad 6), .inl (cA 0, 108, .inl C_places)), ((ad 7), .inl (cA 0, 216, .inl C_beyond)), ((ad 8), .inr (1, [.ref (ad 1), .ref (ad 9), .ref (ad 10), .ref (ad 11), .ref (ad 12), .ref (ad 13), .ref (ad 14), .int F_queued, .int F_settled, .int F_settledRise, .long F_amount, .long F_lowest, .long F_highest])), ((ad 9), .inl (cA 0, 36, .inl F_springs)), ((ad 10), .inl (cA 0, 36, .inl F_drains)), ((ad 11), .inl (cA 0, 216, .inl F_passes)), ((ad 12), .inl (cA 0, 36, .inl F_cameFrom)), ((ad 13), .inl (cA 0, 36, .inl F_cameBy)), ((ad 14), .inl (cA 0, 36, .inl F_queue))] 2 [(0, .ref (ad 0)), (1, .int p1)] [] 0
theorem cnX3_film_89 : Cond.constantLong RX3 89 (-1) ∈ wsX3_film := by decide +kernel
theorem giX3_film_X3 : ∀ w ∈ u_ws RX3 TX3 4, w ∈ wsX3_film := by decide +kernel
theorem gfX3_film_10 : gF wsX3_film RX3 10 3 0 RX3 TX3 4 := ⟨giX3_film_X3, by decide +kernel, rfl, by decide⟩
theorem giX3_film_X1 : ∀ w ∈ u_ws RX1 TX1 13, w ∈ wsX3_film := by decide +kernel
theorem gfX3_film_109 : gF wsX3_film RX3 109 1 12 RX1 TX1 13 := ⟨giX3_film_X1, by decide +kernel, rfl, by decide⟩
theorem gfX3_film_106 : gF wsX3_film RX3 106 1 11 RX1 TX1 13 := ⟨giX3_film_X1, by decide +kernel, rfl, by decide⟩
set_option maxHeartbeats 4000000 in
set_option maxRecDepth 100000 in
theorem sgX3_film_0 {X : gX} {ad : Nat → Nat} {cA : Nat → ClassId} {post : Int64 → ((Int32) × (Int32) × (Int64) × (Int64) × (Int64) × (Nat → Int32) × (Nat → Int32) × (Nat → Int32) × (Nat → Int32) × (Nat → Int32) × (Nat → Int32) × (Int32)) → Prop} {p1 : Int32} {S_asked : Int64} {C_size : Int32} {C_held : Nat → Int32} {C_prices : Nat → Int32} {C_rules : Nat → Int32} {C_places : Nat → Int32} {C_beyond : Nat → Int32} {F_queued : Int32} {F_settled : Int32} {F_settledRise : Int32} {F_amount : Int64} {F_lowest : Int64} {F_highest : Int64} {F_springs : Nat → Int32} {F_drains : Nat → Int32} {F_passes : Nat → Int32} {F_cameFrom : Nat → Int32} {F_cameBy : Nat → Int32} {F_queue : Nat → Int32} (C : gC X (gT cA) cX3_film 2 RX3 wsX3_film rmX3_film) (E : gEl X (some .long) (gT cA) 0 0 post (w1X3_film ad cA S_asked C_size C_held C_prices C_rules C_places C_beyond)) (h : ((fnX3_within p1 (0 : Int32) (1 : Int32)) = true → ∃ (n_3 : Nat), prX1_settle n_3 (0 : Int32) C_size C_held C_prices C_rules C_places C_beyond F_queued F_settled F_settledRise F_amount F_lowest F_highest F_springs F_drains F_passes F_cameFrom F_cameBy F_queue ∧ ∀ (u5_F_settled : Int32) (u5_F_settledRise : Int32) (u5_F_amount : Int64) (u5_F_lowest : Int64) (u5_F_highest : Int64) (u5_F_springs : Nat → Int32) (u5_F_drains : Nat → Int32) (u5_F_passes : Nat → Int32) (u5_F_cameFrom : Nat → Int32) (u5_F_cameBy : Nat → Int32) (u5_F_queue : Nat → Int32) (u5_F_queued : Int32), po_X1_settle ad cA n_3 (0 : Int32) C_size C_held C_prices C_rules C_places C_beyond F_queued F_settled F_settledRise F_amount F_lowest F_highest F_springs F_drains F_passes F_cameFrom F_cameBy F_queue (u5_F_settled, u5_F_settledRise, u5_F_amount, u5_F_lowest, u5_F_highest, u5_F_springs, u5_F_drains, u5_F_passes, u5_F_cameFrom, u5_F_cameBy, u5_F_queue, u5_F_queued) → (¬ p1 = 0 → post u5_F_highest (u5_F_settled, u5_F_settledRise, u5_F_amount, u5_F_lowest, u5_F_highest, u5_F_springs, u5_F_drains, u5_F_passes, u5_F_cameFrom, u5_F_cameBy, u5_F_queue, u5_F_queued)) ∧ (p1 = 0 → post u5_F_lowest (u5_F_settled, u5_F_settledRise, u5_F_amount, u5_F_lowest, u5_F_highest, u5_F_springs, u5_F_drains, u5_F_passes, u5_F_cameFrom, u5_F_cameBy, u5_F_queue, u5_F_queued))) ∧ ((fnX3_within p1 (0 : Int32) (1 : Int32)) = false → post (-1 : Int64) (F_settled, F_settledRise, F_amount, F_lowest, F_highest, F_springs, F_drains, F_passes, F_cameFrom, F_cameBy, F_queue, F_queued))) : atX3_film_0 X ad cA p1 S_asked C_size C_held C_prices C_rules C_places C_beyond F_queued F_settled F_settledRise F_amount F_lowest F_highest F_springs F_drains F_passes F_cameFrom F_cameBy F_queue := by
  refine g_iload_n C dX3_film_0 rfl 1 rfl ?_
  refine g_iconst C dX3_film_1 ik_0 ?_
  refine g_iconst C dX3_film_2 ik_1 ?_
  refine g_callSi (b := 0) (wr := [((ad 0), .inr (3, [.ref (ad 8), .ref (ad 1), .ref (ad 15), .long S_asked])), ((ad 1), .inr (0, [.ref (ad 2), .ref (ad 3), .ref (ad 4), .ref (ad 5), .ref (ad 6), .ref (ad 7), .int C_size])), ((ad 3), .inl (cA 0, 36, .inl C_held)), ((ad 4), .inl (cA 0, 36, .inl C_prices)), ((ad 5), .inl (cA 0, 7, .inl C_rules)), ((ad 6), .inl (cA 0, 108, .inl C_places)), ((ad 7), .inl (cA 0, 216, .inl C_beyond)), ((ad 8), .inr (1, [.ref (ad 1), .ref (ad 9), .ref (ad 10), .ref (ad 11), .ref (ad 12), .ref (ad 13), .ref (ad 14), .int F_queued, .int F_settled, .int F_settledRise, .long F_amount, .long F_lowest, .long F_highest])), ((ad 9), .inl (cA 0, 36, .inl F_springs)), ((ad 10), .inl (cA 0, 36, .inl F_drains)), ((ad 11), .inl (cA 0, 216, .inl F_passes)), ((ad 12), .inl (cA 0, 36, .inl F_cameFrom)), ((ad 13), .inl (cA 0, 36, .inl F_cameBy)), ((ad 14), .inl (cA 0, 36, .inl F_queue))]) C (c_X3_within ad cA p1 (0 : Int32) (1 : Int32)) gX3_film_X3_within rfl hde_X3_within ⟨rfl, rfl⟩ (by decide) (by decide) [] [0, 1, 2, 3, 4, 5, 6, 7, 8, 9, 10, 11, 12, 13] [0, 1, 2, 3, 4, 5, 6, 7, 8, 9, 10, 11, 12, 13] rfl rfl rfl rfl (by decide) rfl (ws2 := fun u => [((ad 0), .inr (3, [.ref (ad 8), .ref (ad 1), .ref (ad 15), .long S_asked])), ((ad 1), .inr (0, [.ref (ad 2), .ref (ad 3), .ref (ad 4), .ref (ad 5), .ref (ad 6), .ref (ad 7), .int C_size])), ((ad 3), .inl (cA 0, 36, .inl C_held)), ((ad 4), .inl (cA 0, 36, .inl C_prices)), ((ad 5), .inl (cA 0, 7, .inl C_rules)), ((ad 6), .inl (cA 0, 108, .inl C_places)), ((ad 7), .inl (cA 0, 216, .inl C_beyond)), ((ad 8), .inr (1, [.ref (ad 1), .ref (ad 9), .ref (ad 10), .ref (ad 11), .ref (ad 12), .ref (ad 13), .ref (ad 14), .int F_queued, .int F_settled, .int F_settledRise, .long F_amount, .long F_lowest, .long F_highest])), ((ad 9), .inl (cA 0, 36, .inl F_springs)), ((ad 10), .inl (cA 0, 36, .inl F_drains)), ((ad 11), .inl (cA 0, 216, .inl F_passes)), ((ad 12), .inl (cA 0, 36, .inl F_cameFrom)), ((ad 13), .inl (cA 0, 36, .inl F_cameBy)), ((ad 14), .inl (cA 0, 36, .inl F_queue))]) (fun _ => rfl) (rest := []) rfl (Nat.le_of_ble_eq_true rfl) dX3_film_3 (fun r_1 u_1 hp_1 => ?_)
  subst hp_1
  change gW X 0 0 [((ad 0), .inr (3, [.ref (ad 8), .ref (ad 1), .ref (ad 15), .long S_asked])), ((ad 1), .inr (0, [.ref (ad 2), .ref (ad 3), .ref (ad 4), .ref (ad 5), .ref (ad 6), .ref (ad 7), .int C_size])), ((ad 3), .inl (cA 0, 36, .inl C_held)), ((ad 4), .inl (cA 0, 36, .inl C_prices)), ((ad 5), .inl (cA 0, 7, .inl C_rules)), ((ad 6), .inl (cA 0, 108, .inl C_places)), ((ad 7), .inl (cA 0, 216, .inl C_beyond)), ((ad 8), .inr (1, [.ref (ad 1), .ref (ad 9), .ref (ad 10), .ref (ad 11), .ref (ad 12), .ref (ad 13), .ref (ad 14), .int F_queued, .int F_settled, .int F_settledRise, .long F_amount, .long F_lowest, .long F_highest])), ((ad 9), .inl (cA 0, 36, .inl F_springs)), ((ad 10), .inl (cA 0, 36, .inl F_drains)), ((ad 11), .inl (cA 0, 216, .inl F_passes)), ((ad 12), .inl (cA 0, 36, .inl F_cameFrom)), ((ad 13), .inl (cA 0, 36, .inl F_cameBy)), ((ad 14), .inl (cA 0, 36, .inl F_queue))] 2 [(0, .ref (ad 0)), (1, .int p1)] [.int (bI (fnX3_within p1 (0 : Int32) (1 : Int32)))] 6
  refine g_ifne_b (tgt := 13) C dX3_film_6 (by decide) (fun c_2 => ?_) (fun c_2 => ?_)
  · replace h := h.1 c_2
    refine g_aload_n C dX3_film_13 rfl 0 rfl ?_
    refine g_get C gfX3_film_10 0 rfl rfl dX3_film_14 ?_
    refine g_iconst C dX3_film_17 ik_0 ?_
    obtain ⟨n_3, h⟩ := h
    obtain ⟨hi_4, h⟩ := h
    refine g_callVv (wr := [((ad 0), .inr (3, [.ref (ad 8), .ref (ad 1), .ref (ad 15), .long S_asked]))]) C (c_X1_settle ad cA n_3 (0 : Int32) C_size C_held C_prices C_rules C_places C_beyond F_queued F_settled F_settledRise F_amount F_lowest F_highest F_springs F_drains F_passes F_cameFrom F_cameBy F_queue hi_4) gX3_film_X1_settle rfl hde_X1_settle ⟨rfl, rfl⟩ (by decide) (by decide) [1, 2, 3, 4, 5, 6, 7, 8, 9, 10, 11, 12, 13] [0] [0, 1, 2, 3, 4, 5, 6, 7, 8, 9, 10, 11, 12, 13] rfl rfl rfl rfl (by decide) rfl (ws2 := fun u => [((ad 0), .inr (3, [.ref (ad 8), .ref (ad 1), .ref (ad 15), .long S_asked])), ((ad 1), .inr (0, [.ref (ad 2), .ref (ad 3), .ref (ad 4), .ref (ad 5), .ref (ad 6), .ref (ad 7), .int C_size])), ((ad 3), .inl (cA 0, 36, .inl C_held)), ((ad 4), .inl (cA 0, 36, .inl C_prices)), ((ad 5), .inl (cA 0, 7, .inl C_rules)), ((ad 6), .inl (cA 0, 108, .inl C_places)), ((ad 7), .inl (cA 0, 216, .inl C_beyond)), ((ad 8), .inr (1, [.ref (ad 1), .ref (ad 9), .ref (ad 10), .ref (ad 11), .ref (ad 12), .ref (ad 13), .ref (ad 14), .int u.2.2.2.2.2.2.2.2.2.2.2, .int u.1, .int u.2.1, .long u.2.2.1, .long u.2.2.2.1, .long u.2.2.2.2.1])), ((ad 9), .inl (cA 0, 36, .inl u.2.2.2.2.2.1)), ((ad 10), .inl (cA 0, 36, .inl u.2.2.2.2.2.2.1)), ((ad 11), .inl (cA 0, 216, .inl u.2.2.2.2.2.2.2.1)), ((ad 12), .inl (cA 0, 36, .inl u.2.2.2.2.2.2.2.2.1)), ((ad 13), .inl (cA 0, 36, .inl u.2.2.2.2.2.2.2.2.2.1)), ((ad 14), .inl (cA 0, 36, .inl u.2.2.2.2.2.2.2.2.2.2.1))]) (fun _ => rfl) 1 6 rfl rfl rfl (rest := []) rfl (Nat.le_of_ble_eq_true rfl) dX3_film_18 (fun u_5 hp_5 => ?_)
    obtain ⟨u5_F_settled, u5_F_settledRise, u5_F_amount, u5_F_lowest, u5_F_highest, u5_F_springs, u5_F_drains, u5_F_passes, u5_F_cameFrom, u5_F_cameBy, u5_F_queue, u5_F_queued⟩ := u_5
    replace h := h u5_F_settled u5_F_settledRise u5_F_amount u5_F_lowest u5_F_highest u5_F_springs u5_F_drains u5_F_passes u5_F_cameFrom u5_F_cameBy u5_F_queue u5_F_queued hp_5
    change gW X 0 0 [((ad 0), .inr (3, [.ref (ad 8), .ref (ad 1), .ref (ad 15), .long S_asked])), ((ad 1), .inr (0, [.ref (ad 2), .ref (ad 3), .ref (ad 4), .ref (ad 5), .ref (ad 6), .ref (ad 7), .int C_size])), ((ad 3), .inl (cA 0, 36, .inl C_held)), ((ad 4), .inl (cA 0, 36, .inl C_prices)), ((ad 5), .inl (cA 0, 7, .inl C_rules)), ((ad 6), .inl (cA 0, 108, .inl C_places)), ((ad 7), .inl (cA 0, 216, .inl C_beyond)), ((ad 8), .inr (1, [.ref (ad 1), .ref (ad 9), .ref (ad 10), .ref (ad 11), .ref (ad 12), .ref (ad 13), .ref (ad 14), .int u5_F_queued, .int u5_F_settled, .int u5_F_settledRise, .long u5_F_amount, .long u5_F_lowest, .long u5_F_highest])), ((ad 9), .inl (cA 0, 36, .inl u5_F_springs)), ((ad 10), .inl (cA 0, 36, .inl u5_F_drains)), ((ad 11), .inl (cA 0, 216, .inl u5_F_passes)), ((ad 12), .inl (cA 0, 36, .inl u5_F_cameFrom)), ((ad 13), .inl (cA 0, 36, .inl u5_F_cameBy)), ((ad 14), .inl (cA 0, 36, .inl u5_F_queue))] 2 [(0, .ref (ad 0)), (1, .int p1)] [] 21
    refine g_iload_n C dX3_film_21 rfl 1 rfl ?_
    refine g_if_ne (tgt := 35) C dX3_film_22 (by decide) (fun c_6 => ?_) (fun c_6 => ?_)
    · replace h := h.1 c_6
      refine g_aload_n C dX3_film_35 rfl 0 rfl ?_
      refine g_get C gfX3_film_10 0 rfl rfl dX3_film_36 ?_
      refine g_get C gfX3_film_109 7 rfl rfl dX3_film_39 ?_
      exact g_lret C E (u5_F_settled, u5_F_settledRise, u5_F_amount, u5_F_lowest, u5_F_highest, u5_F_springs, u5_F_drains, u5_F_passes, u5_F_cameFrom, u5_F_cameBy, u5_F_queue, u5_F_queued) h rfl dX3_film_42
    · replace h := h.2 c_6
      refine g_aload_n C dX3_film_25 rfl 0 rfl ?_
      refine g_get C gfX3_film_10 0 rfl rfl dX3_film_26 ?_
      refine g_get C gfX3_film_106 7 rfl rfl dX3_film_29 ?_
      refine g_goto (tgt := 42) C dX3_film_32 (by decide) ?_
      exact g_lret C E (u5_F_settled, u5_F_settledRise, u5_F_amount, u5_F_lowest, u5_F_highest, u5_F_springs, u5_F_drains, u5_F_passes, u5_F_cameFrom, u5_F_cameBy, u5_F_queue, u5_F_queued) h rfl dX3_film_42
  · replace h := h.2 c_2
    refine g_ldc2_w C cnX3_film_89 dX3_film_9 ?_
    exact g_lret C E (F_settled, F_settledRise, F_amount, F_lowest, F_highest, F_springs, F_drains, F_passes, F_cameFrom, F_cameBy, F_queue, F_queued) h rfl dX3_film_12
def prX3_film (dx : Nat) (dy : Nat) (dz : Nat) (p1 : Int32) (S_asked : Int64) (C_size : Int32) (C_held : Nat → Int32) (C_prices : Nat → Int32) (C_rules : Nat → Int32) (C_places : Nat → Int32) (C_beyond : Nat → Int32) (F_queued : Int32) (F_settled : Int32) (F_settledRise : Int32) (F_amount : Int64) (F_lowest : Int64) (F_highest : Int64) (F_springs : Nat → Int32) (F_drains : Nat → Int32) (F_passes : Nat → Int32) (F_cameFrom : Nat → Int32) (F_cameBy : Nat → Int32) (F_queue : Nat → Int32) : Prop := dimOK dx dy dz ∧ C_size = nI (dx * dy * dz) ∧ geoOK dx dy dz C_places C_beyond ∧ ruOK C_rules ∧ prOK (dx * dy * dz) C_prices ∧ hdOK (dx * dy * dz) C_held ∧ chOK (dx * dy * dz) C_beyond C_places C_rules C_prices C_held F_settled F_settledRise F_amount F_lowest F_highest
def po_X3_film (ad : Nat → Nat) (cA : Nat → ClassId) (dx : Nat) (dy : Nat) (dz : Nat) (p1 : Int32) (S_asked : Int64) (C_size : Int32) (C_held : Nat → Int32) (C_prices : Nat → Int32) (C_rules : Nat → Int32) (C_places : Nat → Int32) (C_beyond : Nat → Int32) (F_queued : Int32) (F_settled : Int32) (F_settledRise : Int32) (F_amount : Int64) (F_lowest : Int64) (F_highest : Int64) (F_springs : Nat → Int32) (F_drains : Nat → Int32) (F_passes : Nat → Int32) (F_cameFrom : Nat → Int32) (F_cameBy : Nat → Int32) (F_queue : Nat → Int32) (r : Int64) (u : (Int32) × (Int32) × (Int64) × (Int64) × (Int64) × (Nat → Int32) × (Nat → Int32) × (Nat → Int32) × (Nat → Int32) × (Nat → Int32) × (Nat → Int32) × (Int32)) : Prop := ((0 ≤ p1.toInt ∧ p1.toInt ≤ 1) → setOK (dx * dy * dz) C_beyond C_places C_rules C_prices C_held 0 u.2.2.1 u.2.2.2.1 u.2.2.2.2.1 ∧ chOK (dx * dy * dz) C_beyond C_places C_rules C_prices C_held u.1 u.2.1 u.2.2.1 u.2.2.2.1 u.2.2.2.2.1 ∧ r = (if p1 = 0 then u.2.2.2.1 else u.2.2.2.2.1)) ∧ (¬ (0 ≤ p1.toInt ∧ p1.toInt ≤ 1) → r = -1 ∧ u.1 = F_settled ∧ u.2.1 = F_settledRise ∧ u.2.2.1 = F_amount ∧ u.2.2.2.1 = F_lowest ∧ u.2.2.2.2.1 = F_highest)
set_option maxHeartbeats 4000000 in
set_option maxRecDepth 100000 in
theorem c_X3_film (ad : Nat → Nat) (cA : Nat → ClassId) (dx : Nat) (dy : Nat) (dz : Nat) (p1 : Int32) (S_asked : Int64) (C_size : Int32) (C_held : Nat → Int32) (C_prices : Nat → Int32) (C_rules : Nat → Int32) (C_places : Nat → Int32) (C_beyond : Nat → Int32) (F_queued : Int32) (F_settled : Int32) (F_settledRise : Int32) (F_amount : Int64) (F_lowest : Int64) (F_highest : Int64) (F_springs : Nat → Int32) (F_drains : Nat → Int32) (F_passes : Nat → Int32) (F_cameFrom : Nat → Int32) (F_cameBy : Nat → Int32) (F_queue : Nat → Int32) (hq : prX3_film dx dy dz p1 S_asked C_size C_held C_prices C_rules C_places C_beyond F_queued F_settled F_settledRise F_amount F_lowest F_highest F_springs F_drains F_passes F_cameFrom F_cameBy F_queue) : ∀ (l : Launch) (D : va_G), gMl (S := (Int32) × (Int32) × (Int64) × (Int64) × (Int64) × (Nat → Int32) × (Nat → Int32) × (Nat → Int32) × (Nat → Int32) × (Nat → Int32) × (Nat → Int32) × (Int32)) l yX3_film wsX3_film rmX3_film D (gT cA) 0 0 [.ref (ad 0), .int p1] (wcX3_film ad cA S_asked C_size C_held C_prices C_rules C_places C_beyond F_queued F_settled F_settledRise F_amount F_lowest F_highest F_springs F_drains F_passes F_cameFrom F_cameBy F_queue) (po_X3_film ad cA dx dy dz p1 S_asked C_size C_held C_prices C_rules C_places C_beyond F_queued F_settled F_settledRise F_amount F_lowest F_highest F_springs F_drains F_passes F_cameFrom F_cameBy F_queue) (w1X3_film ad cA S_asked C_size C_held C_prices C_rules C_places C_beyond) := by
  intro l D
  unfold prX3_film at hq
  refine g_enterl (cc := cX3_film) (nL := 2) (ret := (some .long)) (by decide) rfl (Nat.le_of_ble_eq_true rfl) rfl (fun X C E => ?_)
  obtain ⟨hd, rfl, hg, hr, hp, hh, hch⟩ := hq
  have hV := hd.2.2.2.2.2.2
  refine sgX3_film_0 C E ⟨fun c => ⟨dx * dy * dz, ⟨geo_gr hd hg, hr, hp, hh, rfl, by decide, by decide, hch⟩, fun st ri am lo hi s1 s2 s3 s4 s5 s6 s7 hs => ?_⟩, fun c => ⟨fun q => absurd q (wi_f c), fun _ => ⟨rfl, rfl, rfl, rfl, rfl, rfl⟩⟩⟩
  obtain ⟨a1, a2, a3⟩ := hs
  dsimp only at a1 a2 a3
  refine ⟨fun c2 => ⟨fun _ => ⟨a3, fun _ => by rw [a2]; exact a3, ?_⟩, fun q => absurd (wi_t c) q⟩, fun c2 => ⟨fun _ => ⟨a3, fun _ => by rw [a2]; exact a3, ?_⟩, fun q => absurd (wi_t c) q⟩⟩
  · rw [if_neg c2]
  · rw [if_pos c2]


abbrev w1X3_room (ad : Nat → Nat) (cA : Nat → ClassId) (S_asked : Int64) (C_size : Int32) (C_held : Nat → Int32) (C_prices : Nat → Int32) (C_rules : Nat → Int32) (C_places : Nat → Int32) (C_beyond : Nat → Int32) (u : (Int32) × (Int32) × (Int64) × (Int64) × (Int64) × (Nat → Int32) × (Nat → Int32) × (Nat → Int32) × (Nat → Int32) × (Nat → Int32) × (Nat → Int32) × (Int32)) : va_W := [((ad 0), .inr (3, [.ref (ad 8), .ref (ad 1), .ref (ad 15), .long S_asked])), ((ad 1), .inr (0, [.ref (ad 2), .ref (ad 3), .ref (ad 4), .ref (ad 5), .ref (ad 6), .ref (ad 7), .int C_size])), ((ad 3), .inl (cA 0, 36, .inl C_held)), ((ad 4), .inl (cA 0, 36, .inl C_prices)), ((ad 5), .inl (cA 0, 7, .inl C_rules)), ((ad 6), .inl (cA 0, 108, .inl C_places)), ((ad 7), .inl (cA 0, 216, .inl C_beyond)), ((ad 8), .inr (1, [.ref (ad 1), .ref (ad 9), .ref (ad 10), .ref (ad 11), .ref (ad 12), .ref (ad 13), .ref (ad 14), .int u.2.2.2.2.2.2.2.2.2.2.2, .int u.1, .int u.2.1, .long u.2.2.1, .long u.2.2.2.1, .long u.2.2.2.2.1])), ((ad 9), .inl (cA 0, 36, .inl u.2.2.2.2.2.1)), ((ad 10), .inl (cA 0, 36, .inl u.2.2.2.2.2.2.1)), ((ad 11), .inl (cA 0, 216, .inl u.2.2.2.2.2.2.2.1)), ((ad 12), .inl (cA 0, 36, .inl u.2.2.2.2.2.2.2.2.1)), ((ad 13), .inl (cA 0, 36, .inl u.2.2.2.2.2.2.2.2.2.1)), ((ad 14), .inl (cA 0, 36, .inl u.2.2.2.2.2.2.2.2.2.2.1))]
abbrev wcX3_room (ad : Nat → Nat) (cA : Nat → ClassId) (S_asked : Int64) (C_size : Int32) (C_held : Nat → Int32) (C_prices : Nat → Int32) (C_rules : Nat → Int32) (C_places : Nat → Int32) (C_beyond : Nat → Int32) (F_queued : Int32) (F_settled : Int32) (F_settledRise : Int32) (F_amount : Int64) (F_lowest : Int64) (F_highest : Int64) (F_springs : Nat → Int32) (F_drains : Nat → Int32) (F_passes : Nat → Int32) (F_cameFrom : Nat → Int32) (F_cameBy : Nat → Int32) (F_queue : Nat → Int32) : va_W := [((ad 0), .inr (3, [.ref (ad 8), .ref (ad 1), .ref (ad 15), .long S_asked])), ((ad 1), .inr (0, [.ref (ad 2), .ref (ad 3), .ref (ad 4), .ref (ad 5), .ref (ad 6), .ref (ad 7), .int C_size])), ((ad 3), .inl (cA 0, 36, .inl C_held)), ((ad 4), .inl (cA 0, 36, .inl C_prices)), ((ad 5), .inl (cA 0, 7, .inl C_rules)), ((ad 6), .inl (cA 0, 108, .inl C_places)), ((ad 7), .inl (cA 0, 216, .inl C_beyond)), ((ad 8), .inr (1, [.ref (ad 1), .ref (ad 9), .ref (ad 10), .ref (ad 11), .ref (ad 12), .ref (ad 13), .ref (ad 14), .int F_queued, .int F_settled, .int F_settledRise, .long F_amount, .long F_lowest, .long F_highest])), ((ad 9), .inl (cA 0, 36, .inl F_springs)), ((ad 10), .inl (cA 0, 36, .inl F_drains)), ((ad 11), .inl (cA 0, 216, .inl F_passes)), ((ad 12), .inl (cA 0, 36, .inl F_cameFrom)), ((ad 13), .inl (cA 0, 36, .inl F_cameBy)), ((ad 14), .inl (cA 0, 36, .inl F_queue))]
def rmX3_room : Room := { frames := 4, cells := 0, slots := 0, locals := 91 }
abbrev atX3_room_0 (X : gX) (ad : Nat → Nat) (cA : Nat → ClassId) (p1 : Int32) (p2 : Int32) (S_asked : Int64) (C_size : Int32) (C_held : Nat → Int32) (C_prices : Nat → Int32) (C_rules : Nat → Int32) (C_places : Nat → Int32) (C_beyond : Nat → Int32) (F_queued : Int32) (F_settled : Int32) (F_settledRise : Int32) (F_amount : Int64) (F_lowest : Int64) (F_highest : Int64) (F_springs : Nat → Int32) (F_drains : Nat → Int32) (F_passes : Nat → Int32) (F_cameFrom : Nat → Int32) (F_cameBy : Nat → Int32) (F_queue : Nat → Int32) : Prop := gW X 0 0 [((ad 0), .inr (3, [.ref (ad 8), .ref (ad 1), .ref (ad 15), .long S_asked])), ((ad 1), .inr (0, [.ref (ad 2), .ref (ad 3), .ref (ad 4), .ref (ad 5), .ref (ad 6), .ref (ad 7), .int C_size])), ((ad 3), .inl (cA 0, 36, .inl C_held)), ((ad 4), .inl (cA 0, 36, .inl C_prices)), ((ad 5), .inl (cA 0, 7, .inl C_rules)), ((ad 6), .inl (cA 0, 108, .inl C_places)), ((ad 7), .inl (cA 0, 216, .inl C_beyond)), ((ad 8), .inr (1, [.ref (ad 1), .ref (ad 9), .ref (ad 10), .ref (ad 11), .ref (ad 12), .ref (ad 13), .ref (ad 14), .int F_queued, .int F_settled, .int F_settledRise, .long F_amount, .long F_lowest, .long F_highest])), ((ad 9), .inl (cA 0, 36, .inl F_springs)), ((ad 10), .inl (cA 0, 36, .inl F_drains)), ((ad 11), .inl (cA 0, 216, .inl F_passes)), ((ad 12), .inl (cA 0, 36, .inl F_cameFrom)), ((ad 13), .inl (cA 0, 36, .inl F_cameBy)), ((ad 14), .inl (cA 0, 36, .inl F_queue))] 3 [(0, .ref (ad 0)), (1, .int p1), (2, .int p2)] [] 0
theorem giX3_room_X3 : ∀ w ∈ u_ws RX3 TX3 4, w ∈ wsX3_room := by decide +kernel
theorem gfX3_room_10 : gF wsX3_room RX3 10 3 0 RX3 TX3 4 := ⟨giX3_room_X3, by decide +kernel, rfl, by decide⟩
theorem giX3_room_X1 : ∀ w ∈ u_ws RX1 TX1 13, w ∈ wsX3_room := by decide +kernel
theorem gfX3_room_109 : gF wsX3_room RX3 109 1 12 RX1 TX1 13 := ⟨giX3_room_X1, by decide +kernel, rfl, by decide⟩
theorem gfX3_room_106 : gF wsX3_room RX3 106 1 11 RX1 TX1 13 := ⟨giX3_room_X1, by decide +kernel, rfl, by decide⟩
set_option maxHeartbeats 4000000 in
set_option maxRecDepth 100000 in
theorem sgX3_room_0 {X : gX} {ad : Nat → Nat} {cA : Nat → ClassId} {post : Int32 → ((Int32) × (Int32) × (Int64) × (Int64) × (Int64) × (Nat → Int32) × (Nat → Int32) × (Nat → Int32) × (Nat → Int32) × (Nat → Int32) × (Nat → Int32) × (Int32)) → Prop} {p1 : Int32} {p2 : Int32} {S_asked : Int64} {C_size : Int32} {C_held : Nat → Int32} {C_prices : Nat → Int32} {C_rules : Nat → Int32} {C_places : Nat → Int32} {C_beyond : Nat → Int32} {F_queued : Int32} {F_settled : Int32} {F_settledRise : Int32} {F_amount : Int64} {F_lowest : Int64} {F_highest : Int64} {F_springs : Nat → Int32} {F_drains : Nat → Int32} {F_passes : Nat → Int32} {F_cameFrom : Nat → Int32} {F_cameBy : Nat → Int32} {F_queue : Nat → Int32} (C : gC X (gT cA) cX3_room 3 RX3 wsX3_room rmX3_room) (E : gEi X (some .int) (gT cA) 0 0 post (w1X3_room ad cA S_asked C_size C_held C_prices C_rules C_places C_beyond)) (h : ((fnX3_within p1 (-60 : Int32) (60 : Int32)) = false → post (-1 : Int32) (F_settled, F_settledRise, F_amount, F_lowest, F_highest, F_springs, F_drains, F_passes, F_cameFrom, F_cameBy, F_queue, F_queued)) ∧ ((fnX3_within p1 (-60 : Int32) (60 : Int32)) = true → ((fnX3_within p2 (0 : Int32) (1 : Int32)) = true → ∃ (n_5 : Nat), prX1_settle n_5 p1 C_size C_held C_prices C_rules C_places C_beyond F_queued F_settled F_settledRise F_amount F_lowest F_highest F_springs F_drains F_passes F_cameFrom F_cameBy F_queue ∧ ∀ (u7_F_settled : Int32) (u7_F_settledRise : Int32) (u7_F_amount : Int64) (u7_F_lowest : Int64) (u7_F_highest : Int64) (u7_F_springs : Nat → Int32) (u7_F_drains : Nat → Int32) (u7_F_passes : Nat → Int32) (u7_F_cameFrom : Nat → Int32) (u7_F_cameBy : Nat → Int32) (u7_F_queue : Nat → Int32) (u7_F_queued : Int32), po_X1_settle ad cA n_5 p1 C_size C_held C_prices C_rules C_places C_beyond F_queued F_settled F_settledRise F_amount F_lowest F_highest F_springs F_drains F_passes F_cameFrom F_cameBy F_queue (u7_F_settled, u7_F_settledRise, u7_F_amount, u7_F_lowest, u7_F_highest, u7_F_springs, u7_F_drains, u7_F_passes, u7_F_cameFrom, u7_F_cameBy, u7_F_queue, u7_F_queued) → post (fnJ13_bitCount_95d88 (if p2 = 0 then u7_F_lowest else u7_F_highest)) (u7_F_settled, u7_F_settledRise, u7_F_amount, u7_F_lowest, u7_F_highest, u7_F_springs, u7_F_drains, u7_F_passes, u7_F_cameFrom, u7_F_cameBy, u7_F_queue, u7_F_queued)) ∧ ((fnX3_within p2 (0 : Int32) (1 : Int32)) = false → post (-1 : Int32) (F_settled, F_settledRise, F_amount, F_lowest, F_highest, F_springs, F_drains, F_passes, F_cameFrom, F_cameBy, F_queue, F_queued)))) : atX3_room_0 X ad cA p1 p2 S_asked C_size C_held C_prices C_rules C_places C_beyond F_queued F_settled F_settledRise F_amount F_lowest F_highest F_springs F_drains F_passes F_cameFrom F_cameBy F_queue := by
  refine g_iload_n C dX3_room_0 rfl 1 rfl ?_
  refine g_bipush C dX3_room_1 bk_m60 ?_
  refine g_bipush C dX3_room_3 bk_60 ?_
  refine g_callSi (b := 0) (wr := [((ad 0), .inr (3, [.ref (ad 8), .ref (ad 1), .ref (ad 15), .long S_asked])), ((ad 1), .inr (0, [.ref (ad 2), .ref (ad 3), .ref (ad 4), .ref (ad 5), .ref (ad 6), .ref (ad 7), .int C_size])), ((ad 3), .inl (cA 0, 36, .inl C_held)), ((ad 4), .inl (cA 0, 36, .inl C_prices)), ((ad 5), .inl (cA 0, 7, .inl C_rules)), ((ad 6), .inl (cA 0, 108, .inl C_places)), ((ad 7), .inl (cA 0, 216, .inl C_beyond)), ((ad 8), .inr (1, [.ref (ad 1), .ref (ad 9), .ref (ad 10), .ref (ad 11), .ref (ad 12), .ref (ad 13), .ref (ad 14), .int F_queued, .int F_settled, .int F_settledRise, .long F_amount, .long F_lowest, .long F_highest])), ((ad 9), .inl (cA 0, 36, .inl F_springs)), ((ad 10), .inl (cA 0, 36, .inl F_drains)), ((ad 11), .inl (cA 0, 216, .inl F_passes)), ((ad 12), .inl (cA 0, 36, .inl F_cameFrom)), ((ad 13), .inl (cA 0, 36, .inl F_cameBy)), ((ad 14), .inl (cA 0, 36, .inl F_queue))]) C (c_X3_within ad cA p1 (-60 : Int32) (60 : Int32)) gX3_room_X3_within rfl hde_X3_within ⟨rfl, rfl⟩ (by decide) (by decide) [] [0, 1, 2, 3, 4, 5, 6, 7, 8, 9, 10, 11, 12, 13] [0, 1, 2, 3, 4, 5, 6, 7, 8, 9, 10, 11, 12, 13] rfl rfl rfl rfl (by decide) rfl (ws2 := fun u => [((ad 0), .inr (3, [.ref (ad 8), .ref (ad 1), .ref (ad 15), .long S_asked])), ((ad 1), .inr (0, [.ref (ad 2), .ref (ad 3), .ref (ad 4), .ref (ad 5), .ref (ad 6), .ref (ad 7), .int C_size])), ((ad 3), .inl (cA 0, 36, .inl C_held)), ((ad 4), .inl (cA 0, 36, .inl C_prices)), ((ad 5), .inl (cA 0, 7, .inl C_rules)), ((ad 6), .inl (cA 0, 108, .inl C_places)), ((ad 7), .inl (cA 0, 216, .inl C_beyond)), ((ad 8), .inr (1, [.ref (ad 1), .ref (ad 9), .ref (ad 10), .ref (ad 11), .ref (ad 12), .ref (ad 13), .ref (ad 14), .int F_queued, .int F_settled, .int F_settledRise, .long F_amount, .long F_lowest, .long F_highest])), ((ad 9), .inl (cA 0, 36, .inl F_springs)), ((ad 10), .inl (cA 0, 36, .inl F_drains)), ((ad 11), .inl (cA 0, 216, .inl F_passes)), ((ad 12), .inl (cA 0, 36, .inl F_cameFrom)), ((ad 13), .inl (cA 0, 36, .inl F_cameBy)), ((ad 14), .inl (cA 0, 36, .inl F_queue))]) (fun _ => rfl) (rest := []) rfl (Nat.le_of_ble_eq_true rfl) dX3_room_5 (fun r_1 u_1 hp_1 => ?_)
  subst hp_1
  change gW X 0 0 [((ad 0), .inr (3, [.ref (ad 8), .ref (ad 1), .ref (ad 15), .long S_asked])), ((ad 1), .inr (0, [.ref (ad 2), .ref (ad 3), .ref (ad 4), .ref (ad 5), .ref (ad 6), .ref (ad 7), .int C_size])), ((ad 3), .inl (cA 0, 36, .inl C_held)), ((ad 4), .inl (cA 0, 36, .inl C_prices)), ((ad 5), .inl (cA 0, 7, .inl C_rules)), ((ad 6), .inl (cA 0, 108, .inl C_places)), ((ad 7), .inl (cA 0, 216, .inl C_beyond)), ((ad 8), .inr (1, [.ref (ad 1), .ref (ad 9), .ref (ad 10), .ref (ad 11), .ref (ad 12), .ref (ad 13), .ref (ad 14), .int F_queued, .int F_settled, .int F_settledRise, .long F_amount, .long F_lowest, .long F_highest])), ((ad 9), .inl (cA 0, 36, .inl F_springs)), ((ad 10), .inl (cA 0, 36, .inl F_drains)), ((ad 11), .inl (cA 0, 216, .inl F_passes)), ((ad 12), .inl (cA 0, 36, .inl F_cameFrom)), ((ad 13), .inl (cA 0, 36, .inl F_cameBy)), ((ad 14), .inl (cA 0, 36, .inl F_queue))] 3 [(0, .ref (ad 0)), (1, .int p1), (2, .int p2)] [.int (bI (fnX3_within p1 (-60 : Int32) (60 : Int32)))] 8
  refine g_ifeq_b (tgt := 20) C dX3_room_8 (by decide) (fun c_2 => ?_) (fun c_2 => ?_)
  · replace h := h.1 c_2
    refine g_iconst C dX3_room_20 ik_m1 ?_
    exact g_iret C E (F_settled, F_settledRise, F_amount, F_lowest, F_highest, F_springs, F_drains, F_passes, F_cameFrom, F_cameBy, F_queue, F_queued) h rfl dX3_room_21
  · replace h := h.2 c_2
    refine g_iload_n C dX3_room_11 rfl 2 rfl ?_
    refine g_iconst C dX3_room_12 ik_0 ?_
    refine g_iconst C dX3_room_13 ik_1 ?_
    refine g_callSi (b := 0) (wr := [((ad 0), .inr (3, [.ref (ad 8), .ref (ad 1), .ref (ad 15), .long S_asked])), ((ad 1), .inr (0, [.ref (ad 2), .ref (ad 3), .ref (ad 4), .ref (ad 5), .ref (ad 6), .ref (ad 7), .int C_size])), ((ad 3), .inl (cA 0, 36, .inl C_held)), ((ad 4), .inl (cA 0, 36, .inl C_prices)), ((ad 5), .inl (cA 0, 7, .inl C_rules)), ((ad 6), .inl (cA 0, 108, .inl C_places)), ((ad 7), .inl (cA 0, 216, .inl C_beyond)), ((ad 8), .inr (1, [.ref (ad 1), .ref (ad 9), .ref (ad 10), .ref (ad 11), .ref (ad 12), .ref (ad 13), .ref (ad 14), .int F_queued, .int F_settled, .int F_settledRise, .long F_amount, .long F_lowest, .long F_highest])), ((ad 9), .inl (cA 0, 36, .inl F_springs)), ((ad 10), .inl (cA 0, 36, .inl F_drains)), ((ad 11), .inl (cA 0, 216, .inl F_passes)), ((ad 12), .inl (cA 0, 36, .inl F_cameFrom)), ((ad 13), .inl (cA 0, 36, .inl F_cameBy)), ((ad 14), .inl (cA 0, 36, .inl F_queue))]) C (c_X3_within ad cA p2 (0 : Int32) (1 : Int32)) gX3_room_X3_within rfl hde_X3_within ⟨rfl, rfl⟩ (by decide) (by decide) [] [0, 1, 2, 3, 4, 5, 6, 7, 8, 9, 10, 11, 12, 13] [0, 1, 2, 3, 4, 5, 6, 7, 8, 9, 10, 11, 12, 13] rfl rfl rfl rfl (by decide) rfl (ws2 := fun u => [((ad 0), .inr (3, [.ref (ad 8), .ref (ad 1), .ref (ad 15), .long S_asked])), ((ad 1), .inr (0, [.ref (ad 2), .ref (ad 3), .ref (ad 4), .ref (ad 5), .ref (ad 6), .ref (ad 7), .int C_size])), ((ad 3), .inl (cA 0, 36, .inl C_held)), ((ad 4), .inl (cA 0, 36, .inl C_prices)), ((ad 5), .inl (cA 0, 7, .inl C_rules)), ((ad 6), .inl (cA 0, 108, .inl C_places)), ((ad 7), .inl (cA 0, 216, .inl C_beyond)), ((ad 8), .inr (1, [.ref (ad 1), .ref (ad 9), .ref (ad 10), .ref (ad 11), .ref (ad 12), .ref (ad 13), .ref (ad 14), .int F_queued, .int F_settled, .int F_settledRise, .long F_amount, .long F_lowest, .long F_highest])), ((ad 9), .inl (cA 0, 36, .inl F_springs)), ((ad 10), .inl (cA 0, 36, .inl F_drains)), ((ad 11), .inl (cA 0, 216, .inl F_passes)), ((ad 12), .inl (cA 0, 36, .inl F_cameFrom)), ((ad 13), .inl (cA 0, 36, .inl F_cameBy)), ((ad 14), .inl (cA 0, 36, .inl F_queue))]) (fun _ => rfl) (rest := []) rfl (Nat.le_of_ble_eq_true rfl) dX3_room_14 (fun r_3 u_3 hp_3 => ?_)
    subst hp_3
    change gW X 0 0 [((ad 0), .inr (3, [.ref (ad 8), .ref (ad 1), .ref (ad 15), .long S_asked])), ((ad 1), .inr (0, [.ref (ad 2), .ref (ad 3), .ref (ad 4), .ref (ad 5), .ref (ad 6), .ref (ad 7), .int C_size])), ((ad 3), .inl (cA 0, 36, .inl C_held)), ((ad 4), .inl (cA 0, 36, .inl C_prices)), ((ad 5), .inl (cA 0, 7, .inl C_rules)), ((ad 6), .inl (cA 0, 108, .inl C_places)), ((ad 7), .inl (cA 0, 216, .inl C_beyond)), ((ad 8), .inr (1, [.ref (ad 1), .ref (ad 9), .ref (ad 10), .ref (ad 11), .ref (ad 12), .ref (ad 13), .ref (ad 14), .int F_queued, .int F_settled, .int F_settledRise, .long F_amount, .long F_lowest, .long F_highest])), ((ad 9), .inl (cA 0, 36, .inl F_springs)), ((ad 10), .inl (cA 0, 36, .inl F_drains)), ((ad 11), .inl (cA 0, 216, .inl F_passes)), ((ad 12), .inl (cA 0, 36, .inl F_cameFrom)), ((ad 13), .inl (cA 0, 36, .inl F_cameBy)), ((ad 14), .inl (cA 0, 36, .inl F_queue))] 3 [(0, .ref (ad 0)), (1, .int p1), (2, .int p2)] [.int (bI (fnX3_within p2 (0 : Int32) (1 : Int32)))] 17
    refine g_ifne_b (tgt := 22) C dX3_room_17 (by decide) (fun c_4 => ?_) (fun c_4 => ?_)
    · replace h := h.1 c_4
      refine g_aload_n C dX3_room_22 rfl 0 rfl ?_
      refine g_get C gfX3_room_10 0 rfl rfl dX3_room_23 ?_
      refine g_iload_n C dX3_room_26 rfl 1 rfl ?_
      obtain ⟨n_5, h⟩ := h
      obtain ⟨hi_6, h⟩ := h
      refine g_callVv (wr := [((ad 0), .inr (3, [.ref (ad 8), .ref (ad 1), .ref (ad 15), .long S_asked]))]) C (c_X1_settle ad cA n_5 p1 C_size C_held C_prices C_rules C_places C_beyond F_queued F_settled F_settledRise F_amount F_lowest F_highest F_springs F_drains F_passes F_cameFrom F_cameBy F_queue hi_6) gX3_room_X1_settle rfl hde_X1_settle ⟨rfl, rfl⟩ (by decide) (by decide) [1, 2, 3, 4, 5, 6, 7, 8, 9, 10, 11, 12, 13] [0] [0, 1, 2, 3, 4, 5, 6, 7, 8, 9, 10, 11, 12, 13] rfl rfl rfl rfl (by decide) rfl (ws2 := fun u => [((ad 0), .inr (3, [.ref (ad 8), .ref (ad 1), .ref (ad 15), .long S_asked])), ((ad 1), .inr (0, [.ref (ad 2), .ref (ad 3), .ref (ad 4), .ref (ad 5), .ref (ad 6), .ref (ad 7), .int C_size])), ((ad 3), .inl (cA 0, 36, .inl C_held)), ((ad 4), .inl (cA 0, 36, .inl C_prices)), ((ad 5), .inl (cA 0, 7, .inl C_rules)), ((ad 6), .inl (cA 0, 108, .inl C_places)), ((ad 7), .inl (cA 0, 216, .inl C_beyond)), ((ad 8), .inr (1, [.ref (ad 1), .ref (ad 9), .ref (ad 10), .ref (ad 11), .ref (ad 12), .ref (ad 13), .ref (ad 14), .int u.2.2.2.2.2.2.2.2.2.2.2, .int u.1, .int u.2.1, .long u.2.2.1, .long u.2.2.2.1, .long u.2.2.2.2.1])), ((ad 9), .inl (cA 0, 36, .inl u.2.2.2.2.2.1)), ((ad 10), .inl (cA 0, 36, .inl u.2.2.2.2.2.2.1)), ((ad 11), .inl (cA 0, 216, .inl u.2.2.2.2.2.2.2.1)), ((ad 12), .inl (cA 0, 36, .inl u.2.2.2.2.2.2.2.2.1)), ((ad 13), .inl (cA 0, 36, .inl u.2.2.2.2.2.2.2.2.2.1)), ((ad 14), .inl (cA 0, 36, .inl u.2.2.2.2.2.2.2.2.2.2.1))]) (fun _ => rfl) 1 6 rfl rfl rfl (rest := []) rfl (Nat.le_of_ble_eq_true rfl) dX3_room_27 (fun u_7 hp_7 => ?_)
      obtain ⟨u7_F_settled, u7_F_settledRise, u7_F_amount, u7_F_lowest, u7_F_highest, u7_F_springs, u7_F_drains, u7_F_passes, u7_F_cameFrom, u7_F_cameBy, u7_F_queue, u7_F_queued⟩ := u_7
      replace h := h u7_F_settled u7_F_settledRise u7_F_amount u7_F_lowest u7_F_highest u7_F_springs u7_F_drains u7_F_passes u7_F_cameFrom u7_F_cameBy u7_F_queue u7_F_queued hp_7
      change gW X 0 0 [((ad 0), .inr (3, [.ref (ad 8), .ref (ad 1), .ref (ad 15), .long S_asked])), ((ad 1), .inr (0, [.ref (ad 2), .ref (ad 3), .ref (ad 4), .ref (ad 5), .ref (ad 6), .ref (ad 7), .int C_size])), ((ad 3), .inl (cA 0, 36, .inl C_held)), ((ad 4), .inl (cA 0, 36, .inl C_prices)), ((ad 5), .inl (cA 0, 7, .inl C_rules)), ((ad 6), .inl (cA 0, 108, .inl C_places)), ((ad 7), .inl (cA 0, 216, .inl C_beyond)), ((ad 8), .inr (1, [.ref (ad 1), .ref (ad 9), .ref (ad 10), .ref (ad 11), .ref (ad 12), .ref (ad 13), .ref (ad 14), .int u7_F_queued, .int u7_F_settled, .int u7_F_settledRise, .long u7_F_amount, .long u7_F_lowest, .long u7_F_highest])), ((ad 9), .inl (cA 0, 36, .inl u7_F_springs)), ((ad 10), .inl (cA 0, 36, .inl u7_F_drains)), ((ad 11), .inl (cA 0, 216, .inl u7_F_passes)), ((ad 12), .inl (cA 0, 36, .inl u7_F_cameFrom)), ((ad 13), .inl (cA 0, 36, .inl u7_F_cameBy)), ((ad 14), .inl (cA 0, 36, .inl u7_F_queue))] 3 [(0, .ref (ad 0)), (1, .int p1), (2, .int p2)] [] 30
      refine g_iload_n C dX3_room_30 rfl 2 rfl ?_
      have key : gW X 0 0 [((ad 0), .inr (3, [.ref (ad 8), .ref (ad 1), .ref (ad 15), .long S_asked])), ((ad 1), .inr (0, [.ref (ad 2), .ref (ad 3), .ref (ad 4), .ref (ad 5), .ref (ad 6), .ref (ad 7), .int C_size])), ((ad 3), .inl (cA 0, 36, .inl C_held)), ((ad 4), .inl (cA 0, 36, .inl C_prices)), ((ad 5), .inl (cA 0, 7, .inl C_rules)), ((ad 6), .inl (cA 0, 108, .inl C_places)), ((ad 7), .inl (cA 0, 216, .inl C_beyond)), ((ad 8), .inr (1, [.ref (ad 1), .ref (ad 9), .ref (ad 10), .ref (ad 11), .ref (ad 12), .ref (ad 13), .ref (ad 14), .int u7_F_queued, .int u7_F_settled, .int u7_F_settledRise, .long u7_F_amount, .long u7_F_lowest, .long u7_F_highest])), ((ad 9), .inl (cA 0, 36, .inl u7_F_springs)), ((ad 10), .inl (cA 0, 36, .inl u7_F_drains)), ((ad 11), .inl (cA 0, 216, .inl u7_F_passes)), ((ad 12), .inl (cA 0, 36, .inl u7_F_cameFrom)), ((ad 13), .inl (cA 0, 36, .inl u7_F_cameBy)), ((ad 14), .inl (cA 0, 36, .inl u7_F_queue))] 3 [(0, .ref (ad 0)), (1, .int p1), (2, .int p2)] [.long (if p2 = 0 then u7_F_lowest else u7_F_highest)] 51 := by
        refine g_callSi (b := 0) (wr := [((ad 0), .inr (3, [.ref (ad 8), .ref (ad 1), .ref (ad 15), .long S_asked])), ((ad 1), .inr (0, [.ref (ad 2), .ref (ad 3), .ref (ad 4), .ref (ad 5), .ref (ad 6), .ref (ad 7), .int C_size])), ((ad 3), .inl (cA 0, 36, .inl C_held)), ((ad 4), .inl (cA 0, 36, .inl C_prices)), ((ad 5), .inl (cA 0, 7, .inl C_rules)), ((ad 6), .inl (cA 0, 108, .inl C_places)), ((ad 7), .inl (cA 0, 216, .inl C_beyond)), ((ad 8), .inr (1, [.ref (ad 1), .ref (ad 9), .ref (ad 10), .ref (ad 11), .ref (ad 12), .ref (ad 13), .ref (ad 14), .int u7_F_queued, .int u7_F_settled, .int u7_F_settledRise, .long u7_F_amount, .long u7_F_lowest, .long u7_F_highest])), ((ad 9), .inl (cA 0, 36, .inl u7_F_springs)), ((ad 10), .inl (cA 0, 36, .inl u7_F_drains)), ((ad 11), .inl (cA 0, 216, .inl u7_F_passes)), ((ad 12), .inl (cA 0, 36, .inl u7_F_cameFrom)), ((ad 13), .inl (cA 0, 36, .inl u7_F_cameBy)), ((ad 14), .inl (cA 0, 36, .inl u7_F_queue))]) C (c_J13_bitCount_95d88 ad cA (if p2 = 0 then u7_F_lowest else u7_F_highest)) gX3_room_J13_bitCount_95d88 rfl hde_J13_bitCount_95d88 ⟨rfl, rfl⟩ (by decide) (by decide) [] [0, 1, 2, 3, 4, 5, 6, 7, 8, 9, 10, 11, 12, 13] [0, 1, 2, 3, 4, 5, 6, 7, 8, 9, 10, 11, 12, 13] rfl rfl rfl rfl (by decide) rfl (ws2 := fun u => [((ad 0), .inr (3, [.ref (ad 8), .ref (ad 1), .ref (ad 15), .long S_asked])), ((ad 1), .inr (0, [.ref (ad 2), .ref (ad 3), .ref (ad 4), .ref (ad 5), .ref (ad 6), .ref (ad 7), .int C_size])), ((ad 3), .inl (cA 0, 36, .inl C_held)), ((ad 4), .inl (cA 0, 36, .inl C_prices)), ((ad 5), .inl (cA 0, 7, .inl C_rules)), ((ad 6), .inl (cA 0, 108, .inl C_places)), ((ad 7), .inl (cA 0, 216, .inl C_beyond)), ((ad 8), .inr (1, [.ref (ad 1), .ref (ad 9), .ref (ad 10), .ref (ad 11), .ref (ad 12), .ref (ad 13), .ref (ad 14), .int u7_F_queued, .int u7_F_settled, .int u7_F_settledRise, .long u7_F_amount, .long u7_F_lowest, .long u7_F_highest])), ((ad 9), .inl (cA 0, 36, .inl u7_F_springs)), ((ad 10), .inl (cA 0, 36, .inl u7_F_drains)), ((ad 11), .inl (cA 0, 216, .inl u7_F_passes)), ((ad 12), .inl (cA 0, 36, .inl u7_F_cameFrom)), ((ad 13), .inl (cA 0, 36, .inl u7_F_cameBy)), ((ad 14), .inl (cA 0, 36, .inl u7_F_queue))]) (fun _ => rfl) (rest := []) rfl (Nat.le_of_ble_eq_true rfl) dX3_room_51 (fun r_9 u_9 hp_9 => ?_)
        subst hp_9
        change gW X 0 0 [((ad 0), .inr (3, [.ref (ad 8), .ref (ad 1), .ref (ad 15), .long S_asked])), ((ad 1), .inr (0, [.ref (ad 2), .ref (ad 3), .ref (ad 4), .ref (ad 5), .ref (ad 6), .ref (ad 7), .int C_size])), ((ad 3), .inl (cA 0, 36, .inl C_held)), ((ad 4), .inl (cA 0, 36, .inl C_prices)), ((ad 5), .inl (cA 0, 7, .inl C_rules)), ((ad 6), .inl (cA 0, 108, .inl C_places)), ((ad 7), .inl (cA 0, 216, .inl C_beyond)), ((ad 8), .inr (1, [.ref (ad 1), .ref (ad 9), .ref (ad 10), .ref (ad 11), .ref (ad 12), .ref (ad 13), .ref (ad 14), .int u7_F_queued, .int u7_F_settled, .int u7_F_settledRise, .long u7_F_amount, .long u7_F_lowest, .long u7_F_highest])), ((ad 9), .inl (cA 0, 36, .inl u7_F_springs)), ((ad 10), .inl (cA 0, 36, .inl u7_F_drains)), ((ad 11), .inl (cA 0, 216, .inl u7_F_passes)), ((ad 12), .inl (cA 0, 36, .inl u7_F_cameFrom)), ((ad 13), .inl (cA 0, 36, .inl u7_F_cameBy)), ((ad 14), .inl (cA 0, 36, .inl u7_F_queue))] 3 [(0, .ref (ad 0)), (1, .int p1), (2, .int p2)] [.int (fnJ13_bitCount_95d88 (if p2 = 0 then u7_F_lowest else u7_F_highest))] 54
        exact g_iret C E (u7_F_settled, u7_F_settledRise, u7_F_amount, u7_F_lowest, u7_F_highest, u7_F_springs, u7_F_drains, u7_F_passes, u7_F_cameFrom, u7_F_cameBy, u7_F_queue, u7_F_queued) h rfl dX3_room_54
      refine g_if_ne (tgt := 44) C dX3_room_31 (by decide) (fun c_8 => ?_) (fun c_8 => ?_)
      · refine g_aload_n C dX3_room_44 rfl 0 rfl ?_
        refine g_get C gfX3_room_10 0 rfl rfl dX3_room_45 ?_
        refine g_get C gfX3_room_109 7 rfl rfl dX3_room_48 ?_
        exact g_leaf (by simp only [if_neg c_8] at key; first | exact key | (simp only [if_neg c_8]; exact key) | exact absurd rfl c_8)
      · refine g_aload_n C dX3_room_34 rfl 0 rfl ?_
        refine g_get C gfX3_room_10 0 rfl rfl dX3_room_35 ?_
        refine g_get C gfX3_room_106 7 rfl rfl dX3_room_38 ?_
        refine g_goto (tgt := 51) C dX3_room_41 (by decide) ?_
        exact g_leaf (by simp only [if_pos c_8] at key; first | exact key | (simp only [if_pos c_8]; exact key) | exact absurd rfl c_8)
    · replace h := h.2 c_4
      refine g_iconst C dX3_room_20 ik_m1 ?_
      exact g_iret C E (F_settled, F_settledRise, F_amount, F_lowest, F_highest, F_springs, F_drains, F_passes, F_cameFrom, F_cameBy, F_queue, F_queued) h rfl dX3_room_21
def prX3_room (dx : Nat) (dy : Nat) (dz : Nat) (p1 : Int32) (p2 : Int32) (S_asked : Int64) (C_size : Int32) (C_held : Nat → Int32) (C_prices : Nat → Int32) (C_rules : Nat → Int32) (C_places : Nat → Int32) (C_beyond : Nat → Int32) (F_queued : Int32) (F_settled : Int32) (F_settledRise : Int32) (F_amount : Int64) (F_lowest : Int64) (F_highest : Int64) (F_springs : Nat → Int32) (F_drains : Nat → Int32) (F_passes : Nat → Int32) (F_cameFrom : Nat → Int32) (F_cameBy : Nat → Int32) (F_queue : Nat → Int32) : Prop := dimOK dx dy dz ∧ C_size = nI (dx * dy * dz) ∧ geoOK dx dy dz C_places C_beyond ∧ ruOK C_rules ∧ prOK (dx * dy * dz) C_prices ∧ hdOK (dx * dy * dz) C_held ∧ chOK (dx * dy * dz) C_beyond C_places C_rules C_prices C_held F_settled F_settledRise F_amount F_lowest F_highest
def po_X3_room (ad : Nat → Nat) (cA : Nat → ClassId) (dx : Nat) (dy : Nat) (dz : Nat) (p1 : Int32) (p2 : Int32) (S_asked : Int64) (C_size : Int32) (C_held : Nat → Int32) (C_prices : Nat → Int32) (C_rules : Nat → Int32) (C_places : Nat → Int32) (C_beyond : Nat → Int32) (F_queued : Int32) (F_settled : Int32) (F_settledRise : Int32) (F_amount : Int64) (F_lowest : Int64) (F_highest : Int64) (F_springs : Nat → Int32) (F_drains : Nat → Int32) (F_passes : Nat → Int32) (F_cameFrom : Nat → Int32) (F_cameBy : Nat → Int32) (F_queue : Nat → Int32) (r : Int32) (u : (Int32) × (Int32) × (Int64) × (Int64) × (Int64) × (Nat → Int32) × (Nat → Int32) × (Nat → Int32) × (Nat → Int32) × (Nat → Int32) × (Nat → Int32) × (Int32)) : Prop := ((-60 ≤ p1.toInt ∧ p1.toInt ≤ 60) ∧ (0 ≤ p2.toInt ∧ p2.toInt ≤ 1) → setOK (dx * dy * dz) C_beyond C_places C_rules C_prices C_held p1.toInt u.2.2.1 u.2.2.2.1 u.2.2.2.2.1 ∧ chOK (dx * dy * dz) C_beyond C_places C_rules C_prices C_held u.1 u.2.1 u.2.2.1 u.2.2.2.1 u.2.2.2.2.1 ∧ r = nI (cntA (dx * dy * dz) (sb (if p2 = 0 then u.2.2.2.1 else u.2.2.2.2.1)))) ∧ (¬ ((-60 ≤ p1.toInt ∧ p1.toInt ≤ 60) ∧ (0 ≤ p2.toInt ∧ p2.toInt ≤ 1)) → r = -1 ∧ u.1 = F_settled ∧ u.2.1 = F_settledRise ∧ u.2.2.1 = F_amount ∧ u.2.2.2.1 = F_lowest ∧ u.2.2.2.2.1 = F_highest)
set_option maxHeartbeats 4000000 in
set_option maxRecDepth 100000 in
theorem c_X3_room (ad : Nat → Nat) (cA : Nat → ClassId) (dx : Nat) (dy : Nat) (dz : Nat) (p1 : Int32) (p2 : Int32) (S_asked : Int64) (C_size : Int32) (C_held : Nat → Int32) (C_prices : Nat → Int32) (C_rules : Nat → Int32) (C_places : Nat → Int32) (C_beyond : Nat → Int32) (F_queued : Int32) (F_settled : Int32) (F_settledRise : Int32) (F_amount : Int64) (F_lowest : Int64) (F_highest : Int64) (F_springs : Nat → Int32) (F_drains : Nat → Int32) (F_passes : Nat → Int32) (F_cameFrom : Nat → Int32) (F_cameBy : Nat → Int32) (F_queue : Nat → Int32) (hq : prX3_room dx dy dz p1 p2 S_asked C_size C_held C_prices C_rules C_places C_beyond F_queued F_settled F_settledRise F_amount F_lowest F_highest F_springs F_drains F_passes F_cameFrom F_cameBy F_queue) : ∀ (l : Launch) (D : va_G), gMi (S := (Int32) × (Int32) × (Int64) × (Int64) × (Int64) × (Nat → Int32) × (Nat → Int32) × (Nat → Int32) × (Nat → Int32) × (Nat → Int32) × (Nat → Int32) × (Int32)) l yX3_room wsX3_room rmX3_room D (gT cA) 0 0 [.ref (ad 0), .int p1, .int p2] (wcX3_room ad cA S_asked C_size C_held C_prices C_rules C_places C_beyond F_queued F_settled F_settledRise F_amount F_lowest F_highest F_springs F_drains F_passes F_cameFrom F_cameBy F_queue) (po_X3_room ad cA dx dy dz p1 p2 S_asked C_size C_held C_prices C_rules C_places C_beyond F_queued F_settled F_settledRise F_amount F_lowest F_highest F_springs F_drains F_passes F_cameFrom F_cameBy F_queue) (w1X3_room ad cA S_asked C_size C_held C_prices C_rules C_places C_beyond) := by
  intro l D
  unfold prX3_room at hq
  refine g_enteri (cc := cX3_room) (nL := 3) (ret := (some .int)) (by decide) rfl (Nat.le_of_ble_eq_true rfl) rfl (fun X C E => ?_)
  obtain ⟨hd, rfl, hg, hr, hp, hh, hch⟩ := hq
  have hV := hd.2.2.2.2.2.2
  refine sgX3_room_0 C E ⟨fun c => ⟨fun q => absurd q.1 (wi_f c), fun _ => ⟨rfl, rfl, rfl, rfl, rfl, rfl⟩⟩, fun ca => ⟨fun cb => ⟨dx * dy * dz, ⟨geo_gr hd hg, hr, hp, hh, rfl, (wi_t ca).1, (wi_t ca).2, hch⟩, fun st ri am lo hi s1 s2 s3 s4 s5 s6 s7 hs => ?_⟩, fun c => ⟨fun q => absurd q.2 (wi_f c), fun _ => ⟨rfl, rfl, rfl, rfl, rfl, rfl⟩⟩⟩⟩
  obtain ⟨a1, a2, a3⟩ := hs
  dsimp only at a1 a2 a3
  refine ⟨fun _ => ⟨a3, fun _ => by rw [a2]; exact a3, ?_⟩, fun q => absurd ⟨wi_t ca, wi_t cb⟩ q⟩
  obtain ⟨_, _, _, _, _, _, _, out⟩ := a3
  rw [bcL_fn]
  congr 1
  by_cases q : p2 = 0
  · rw [if_pos q]; exact cnt_36 (by omega) (fun i hi hni => (out i hi hni).1)
  · rw [if_neg q]; exact cnt_36 (by omega) (fun i hi hni => (out i hi hni).2)


abbrev w1X3_many (ad : Nat → Nat) (cA : Nat → ClassId) (S_asked : Int64) (C_size : Int32) (C_held : Nat → Int32) (C_prices : Nat → Int32) (C_rules : Nat → Int32) (C_places : Nat → Int32) (C_beyond : Nat → Int32) (u : (Int32) × (Int32) × (Int64) × (Int64) × (Int64) × (Nat → Int32) × (Nat → Int32) × (Nat → Int32) × (Nat → Int32) × (Nat → Int32) × (Nat → Int32) × (Int32)) : va_W := [((ad 0), .inr (3, [.ref (ad 8), .ref (ad 1), .ref (ad 15), .long S_asked])), ((ad 1), .inr (0, [.ref (ad 2), .ref (ad 3), .ref (ad 4), .ref (ad 5), .ref (ad 6), .ref (ad 7), .int C_size])), ((ad 3), .inl (cA 0, 36, .inl C_held)), ((ad 4), .inl (cA 0, 36, .inl C_prices)), ((ad 5), .inl (cA 0, 7, .inl C_rules)), ((ad 6), .inl (cA 0, 108, .inl C_places)), ((ad 7), .inl (cA 0, 216, .inl C_beyond)), ((ad 8), .inr (1, [.ref (ad 1), .ref (ad 9), .ref (ad 10), .ref (ad 11), .ref (ad 12), .ref (ad 13), .ref (ad 14), .int u.2.2.2.2.2.2.2.2.2.2.2, .int u.1, .int u.2.1, .long u.2.2.1, .long u.2.2.2.1, .long u.2.2.2.2.1])), ((ad 9), .inl (cA 0, 36, .inl u.2.2.2.2.2.1)), ((ad 10), .inl (cA 0, 36, .inl u.2.2.2.2.2.2.1)), ((ad 11), .inl (cA 0, 216, .inl u.2.2.2.2.2.2.2.1)), ((ad 12), .inl (cA 0, 36, .inl u.2.2.2.2.2.2.2.2.1)), ((ad 13), .inl (cA 0, 36, .inl u.2.2.2.2.2.2.2.2.2.1)), ((ad 14), .inl (cA 0, 36, .inl u.2.2.2.2.2.2.2.2.2.2.1))]
abbrev wcX3_many (ad : Nat → Nat) (cA : Nat → ClassId) (S_asked : Int64) (C_size : Int32) (C_held : Nat → Int32) (C_prices : Nat → Int32) (C_rules : Nat → Int32) (C_places : Nat → Int32) (C_beyond : Nat → Int32) (F_queued : Int32) (F_settled : Int32) (F_settledRise : Int32) (F_amount : Int64) (F_lowest : Int64) (F_highest : Int64) (F_springs : Nat → Int32) (F_drains : Nat → Int32) (F_passes : Nat → Int32) (F_cameFrom : Nat → Int32) (F_cameBy : Nat → Int32) (F_queue : Nat → Int32) : va_W := [((ad 0), .inr (3, [.ref (ad 8), .ref (ad 1), .ref (ad 15), .long S_asked])), ((ad 1), .inr (0, [.ref (ad 2), .ref (ad 3), .ref (ad 4), .ref (ad 5), .ref (ad 6), .ref (ad 7), .int C_size])), ((ad 3), .inl (cA 0, 36, .inl C_held)), ((ad 4), .inl (cA 0, 36, .inl C_prices)), ((ad 5), .inl (cA 0, 7, .inl C_rules)), ((ad 6), .inl (cA 0, 108, .inl C_places)), ((ad 7), .inl (cA 0, 216, .inl C_beyond)), ((ad 8), .inr (1, [.ref (ad 1), .ref (ad 9), .ref (ad 10), .ref (ad 11), .ref (ad 12), .ref (ad 13), .ref (ad 14), .int F_queued, .int F_settled, .int F_settledRise, .long F_amount, .long F_lowest, .long F_highest])), ((ad 9), .inl (cA 0, 36, .inl F_springs)), ((ad 10), .inl (cA 0, 36, .inl F_drains)), ((ad 11), .inl (cA 0, 216, .inl F_passes)), ((ad 12), .inl (cA 0, 36, .inl F_cameFrom)), ((ad 13), .inl (cA 0, 36, .inl F_cameBy)), ((ad 14), .inl (cA 0, 36, .inl F_queue))]
def rmX3_many : Room := { frames := 4, cells := 0, slots := 0, locals := 94 }
abbrev atX3_many_0 (X : gX) (ad : Nat → Nat) (cA : Nat → ClassId) (S_asked : Int64) (C_size : Int32) (C_held : Nat → Int32) (C_prices : Nat → Int32) (C_rules : Nat → Int32) (C_places : Nat → Int32) (C_beyond : Nat → Int32) (F_queued : Int32) (F_settled : Int32) (F_settledRise : Int32) (F_amount : Int64) (F_lowest : Int64) (F_highest : Int64) (F_springs : Nat → Int32) (F_drains : Nat → Int32) (F_passes : Nat → Int32) (F_cameFrom : Nat → Int32) (F_cameBy : Nat → Int32) (F_queue : Nat → Int32) : Prop := gW X 0 0 [((ad 0), .inr (3, [.ref (ad 8), .ref (ad 1), .ref (ad 15), .long S_asked])), ((ad 1), .inr (0, [.ref (ad 2), .ref (ad 3), .ref (ad 4), .ref (ad 5), .ref (ad 6), .ref (ad 7), .int C_size])), ((ad 3), .inl (cA 0, 36, .inl C_held)), ((ad 4), .inl (cA 0, 36, .inl C_prices)), ((ad 5), .inl (cA 0, 7, .inl C_rules)), ((ad 6), .inl (cA 0, 108, .inl C_places)), ((ad 7), .inl (cA 0, 216, .inl C_beyond)), ((ad 8), .inr (1, [.ref (ad 1), .ref (ad 9), .ref (ad 10), .ref (ad 11), .ref (ad 12), .ref (ad 13), .ref (ad 14), .int F_queued, .int F_settled, .int F_settledRise, .long F_amount, .long F_lowest, .long F_highest])), ((ad 9), .inl (cA 0, 36, .inl F_springs)), ((ad 10), .inl (cA 0, 36, .inl F_drains)), ((ad 11), .inl (cA 0, 216, .inl F_passes)), ((ad 12), .inl (cA 0, 36, .inl F_cameFrom)), ((ad 13), .inl (cA 0, 36, .inl F_cameBy)), ((ad 14), .inl (cA 0, 36, .inl F_queue))] 1 [(0, .ref (ad 0))] [] 0
theorem giX3_many_X3 : ∀ w ∈ u_ws RX3 TX3 4, w ∈ wsX3_many := by decide +kernel
theorem gfX3_many_20 : gF wsX3_many RX3 20 3 1 RX3 TX3 4 := ⟨giX3_many_X3, by decide +kernel, rfl, by decide⟩
theorem gfX3_many_10 : gF wsX3_many RX3 10 3 0 RX3 TX3 4 := ⟨giX3_many_X3, by decide +kernel, rfl, by decide⟩
set_option maxHeartbeats 4000000 in
set_option maxRecDepth 100000 in
theorem sgX3_many_0 {X : gX} {ad : Nat → Nat} {cA : Nat → ClassId} {post : Int32 → ((Int32) × (Int32) × (Int64) × (Int64) × (Int64) × (Nat → Int32) × (Nat → Int32) × (Nat → Int32) × (Nat → Int32) × (Nat → Int32) × (Nat → Int32) × (Int32)) → Prop} {S_asked : Int64} {C_size : Int32} {C_held : Nat → Int32} {C_prices : Nat → Int32} {C_rules : Nat → Int32} {C_places : Nat → Int32} {C_beyond : Nat → Int32} {F_queued : Int32} {F_settled : Int32} {F_settledRise : Int32} {F_amount : Int64} {F_lowest : Int64} {F_highest : Int64} {F_springs : Nat → Int32} {F_drains : Nat → Int32} {F_passes : Nat → Int32} {F_cameFrom : Nat → Int32} {F_cameBy : Nat → Int32} {F_queue : Nat → Int32} (C : gC X (gT cA) cX3_many 1 RX3 wsX3_many rmX3_many) (E : gEi X (some .int) (gT cA) 0 0 post (w1X3_many ad cA S_asked C_size C_held C_prices C_rules C_places C_beyond)) (h : prX0_freeCells C_size C_held ∧ ((nI (cntA C_size.toNatClampNeg (fun c => decide (C_held c = 0)))) ≤ (12 : Int32) → ∃ (n_4 : Nat), prX1_settle n_4 (0 : Int32) C_size C_held C_prices C_rules C_places C_beyond F_queued F_settled F_settledRise F_amount F_lowest F_highest F_springs F_drains F_passes F_cameFrom F_cameBy F_queue ∧ ∀ (u6_F_settled : Int32) (u6_F_settledRise : Int32) (u6_F_amount : Int64) (u6_F_lowest : Int64) (u6_F_highest : Int64) (u6_F_springs : Nat → Int32) (u6_F_drains : Nat → Int32) (u6_F_passes : Nat → Int32) (u6_F_cameFrom : Nat → Int32) (u6_F_cameBy : Nat → Int32) (u6_F_queue : Nat → Int32) (u6_F_queued : Int32), po_X1_settle ad cA n_4 (0 : Int32) C_size C_held C_prices C_rules C_places C_beyond F_queued F_settled F_settledRise F_amount F_lowest F_highest F_springs F_drains F_passes F_cameFrom F_cameBy F_queue (u6_F_settled, u6_F_settledRise, u6_F_amount, u6_F_lowest, u6_F_highest, u6_F_springs, u6_F_drains, u6_F_passes, u6_F_cameFrom, u6_F_cameBy, u6_F_queue, u6_F_queued) → ∃ (n_7 : Nat) (hd_7 : Nat → Int32) (a_7 : Int), prX1_leastSets n_7 hd_7 a_7 C_size C_prices C_rules C_places C_beyond u6_F_queued u6_F_settled u6_F_settledRise u6_F_amount u6_F_lowest u6_F_highest u6_F_queue ∧ ∀ (r_9 : Int32) (u9_F_queue : Nat → Int32), po_X1_leastSets ad cA n_7 hd_7 a_7 C_size C_prices C_rules C_places C_beyond u6_F_queued u6_F_settled u6_F_settledRise u6_F_amount u6_F_lowest u6_F_highest u6_F_queue r_9 u9_F_queue → post r_9 (u6_F_settled, u6_F_settledRise, u6_F_amount, u6_F_lowest, u6_F_highest, u6_F_springs, u6_F_drains, u6_F_passes, u6_F_cameFrom, u6_F_cameBy, u9_F_queue, u6_F_queued)) ∧ (¬ (nI (cntA C_size.toNatClampNeg (fun c => decide (C_held c = 0)))) ≤ (12 : Int32) → post (-2 : Int32) (F_settled, F_settledRise, F_amount, F_lowest, F_highest, F_springs, F_drains, F_passes, F_cameFrom, F_cameBy, F_queue, F_queued))) : atX3_many_0 X ad cA S_asked C_size C_held C_prices C_rules C_places C_beyond F_queued F_settled F_settledRise F_amount F_lowest F_highest F_springs F_drains F_passes F_cameFrom F_cameBy F_queue := by
  refine g_aload_n C dX3_many_0 rfl 0 rfl ?_
  refine g_get C gfX3_many_20 0 rfl rfl dX3_many_1 ?_
  obtain ⟨hi_1, h⟩ := h
  refine g_callVi (wr := [((ad 0), .inr (3, [.ref (ad 8), .ref (ad 1), .ref (ad 15), .long S_asked])), ((ad 4), .inl (cA 0, 36, .inl C_prices)), ((ad 5), .inl (cA 0, 7, .inl C_rules)), ((ad 6), .inl (cA 0, 108, .inl C_places)), ((ad 7), .inl (cA 0, 216, .inl C_beyond)), ((ad 8), .inr (1, [.ref (ad 1), .ref (ad 9), .ref (ad 10), .ref (ad 11), .ref (ad 12), .ref (ad 13), .ref (ad 14), .int F_queued, .int F_settled, .int F_settledRise, .long F_amount, .long F_lowest, .long F_highest])), ((ad 9), .inl (cA 0, 36, .inl F_springs)), ((ad 10), .inl (cA 0, 36, .inl F_drains)), ((ad 11), .inl (cA 0, 216, .inl F_passes)), ((ad 12), .inl (cA 0, 36, .inl F_cameFrom)), ((ad 13), .inl (cA 0, 36, .inl F_cameBy)), ((ad 14), .inl (cA 0, 36, .inl F_queue))]) C (c_X0_freeCells ad cA C_size C_held hi_1) gX3_many_X0_freeCells rfl hde_X0_freeCells ⟨rfl, rfl⟩ (by decide) (by decide) [1, 2] [0, 3, 4, 5, 6, 7, 8, 9, 10, 11, 12, 13] [0, 12, 13, 1, 2, 3, 4, 5, 6, 7, 8, 9, 10, 11] rfl rfl rfl rfl (by decide) rfl (ws2 := fun u => [((ad 0), .inr (3, [.ref (ad 8), .ref (ad 1), .ref (ad 15), .long S_asked])), ((ad 1), .inr (0, [.ref (ad 2), .ref (ad 3), .ref (ad 4), .ref (ad 5), .ref (ad 6), .ref (ad 7), .int C_size])), ((ad 3), .inl (cA 0, 36, .inl C_held)), ((ad 4), .inl (cA 0, 36, .inl C_prices)), ((ad 5), .inl (cA 0, 7, .inl C_rules)), ((ad 6), .inl (cA 0, 108, .inl C_places)), ((ad 7), .inl (cA 0, 216, .inl C_beyond)), ((ad 8), .inr (1, [.ref (ad 1), .ref (ad 9), .ref (ad 10), .ref (ad 11), .ref (ad 12), .ref (ad 13), .ref (ad 14), .int F_queued, .int F_settled, .int F_settledRise, .long F_amount, .long F_lowest, .long F_highest])), ((ad 9), .inl (cA 0, 36, .inl F_springs)), ((ad 10), .inl (cA 0, 36, .inl F_drains)), ((ad 11), .inl (cA 0, 216, .inl F_passes)), ((ad 12), .inl (cA 0, 36, .inl F_cameFrom)), ((ad 13), .inl (cA 0, 36, .inl F_cameBy)), ((ad 14), .inl (cA 0, 36, .inl F_queue))]) (fun _ => rfl) 0 0 rfl rfl rfl (rest := []) rfl (Nat.le_of_ble_eq_true rfl) dX3_many_4 (fun r_2 u_2 hp_2 => ?_)
  subst hp_2
  change gW X 0 0 [((ad 0), .inr (3, [.ref (ad 8), .ref (ad 1), .ref (ad 15), .long S_asked])), ((ad 1), .inr (0, [.ref (ad 2), .ref (ad 3), .ref (ad 4), .ref (ad 5), .ref (ad 6), .ref (ad 7), .int C_size])), ((ad 3), .inl (cA 0, 36, .inl C_held)), ((ad 4), .inl (cA 0, 36, .inl C_prices)), ((ad 5), .inl (cA 0, 7, .inl C_rules)), ((ad 6), .inl (cA 0, 108, .inl C_places)), ((ad 7), .inl (cA 0, 216, .inl C_beyond)), ((ad 8), .inr (1, [.ref (ad 1), .ref (ad 9), .ref (ad 10), .ref (ad 11), .ref (ad 12), .ref (ad 13), .ref (ad 14), .int F_queued, .int F_settled, .int F_settledRise, .long F_amount, .long F_lowest, .long F_highest])), ((ad 9), .inl (cA 0, 36, .inl F_springs)), ((ad 10), .inl (cA 0, 36, .inl F_drains)), ((ad 11), .inl (cA 0, 216, .inl F_passes)), ((ad 12), .inl (cA 0, 36, .inl F_cameFrom)), ((ad 13), .inl (cA 0, 36, .inl F_cameBy)), ((ad 14), .inl (cA 0, 36, .inl F_queue))] 1 [(0, .ref (ad 0))] [.int (nI (cntA C_size.toNatClampNeg (fun c => decide (C_held c = 0))))] 7
  refine g_bipush C dX3_many_7 bk_12 ?_
  refine g_icmp_le (tgt := 15) C dX3_many_9 (by decide) (fun c_3 => ?_) (fun c_3 => ?_)
  · replace h := h.1 c_3
    refine g_aload_n C dX3_many_15 rfl 0 rfl ?_
    refine g_get C gfX3_many_10 0 rfl rfl dX3_many_16 ?_
    refine g_iconst C dX3_many_19 ik_0 ?_
    obtain ⟨n_4, h⟩ := h
    obtain ⟨hi_5, h⟩ := h
    refine g_callVv (wr := [((ad 0), .inr (3, [.ref (ad 8), .ref (ad 1), .ref (ad 15), .long S_asked]))]) C (c_X1_settle ad cA n_4 (0 : Int32) C_size C_held C_prices C_rules C_places C_beyond F_queued F_settled F_settledRise F_amount F_lowest F_highest F_springs F_drains F_passes F_cameFrom F_cameBy F_queue hi_5) gX3_many_X1_settle rfl hde_X1_settle ⟨rfl, rfl⟩ (by decide) (by decide) [1, 2, 3, 4, 5, 6, 7, 8, 9, 10, 11, 12, 13] [0] [0, 1, 2, 3, 4, 5, 6, 7, 8, 9, 10, 11, 12, 13] rfl rfl rfl rfl (by decide) rfl (ws2 := fun u => [((ad 0), .inr (3, [.ref (ad 8), .ref (ad 1), .ref (ad 15), .long S_asked])), ((ad 1), .inr (0, [.ref (ad 2), .ref (ad 3), .ref (ad 4), .ref (ad 5), .ref (ad 6), .ref (ad 7), .int C_size])), ((ad 3), .inl (cA 0, 36, .inl C_held)), ((ad 4), .inl (cA 0, 36, .inl C_prices)), ((ad 5), .inl (cA 0, 7, .inl C_rules)), ((ad 6), .inl (cA 0, 108, .inl C_places)), ((ad 7), .inl (cA 0, 216, .inl C_beyond)), ((ad 8), .inr (1, [.ref (ad 1), .ref (ad 9), .ref (ad 10), .ref (ad 11), .ref (ad 12), .ref (ad 13), .ref (ad 14), .int u.2.2.2.2.2.2.2.2.2.2.2, .int u.1, .int u.2.1, .long u.2.2.1, .long u.2.2.2.1, .long u.2.2.2.2.1])), ((ad 9), .inl (cA 0, 36, .inl u.2.2.2.2.2.1)), ((ad 10), .inl (cA 0, 36, .inl u.2.2.2.2.2.2.1)), ((ad 11), .inl (cA 0, 216, .inl u.2.2.2.2.2.2.2.1)), ((ad 12), .inl (cA 0, 36, .inl u.2.2.2.2.2.2.2.2.1)), ((ad 13), .inl (cA 0, 36, .inl u.2.2.2.2.2.2.2.2.2.1)), ((ad 14), .inl (cA 0, 36, .inl u.2.2.2.2.2.2.2.2.2.2.1))]) (fun _ => rfl) 1 6 rfl rfl rfl (rest := []) rfl (Nat.le_of_ble_eq_true rfl) dX3_many_20 (fun u_6 hp_6 => ?_)
    obtain ⟨u6_F_settled, u6_F_settledRise, u6_F_amount, u6_F_lowest, u6_F_highest, u6_F_springs, u6_F_drains, u6_F_passes, u6_F_cameFrom, u6_F_cameBy, u6_F_queue, u6_F_queued⟩ := u_6
    replace h := h u6_F_settled u6_F_settledRise u6_F_amount u6_F_lowest u6_F_highest u6_F_springs u6_F_drains u6_F_passes u6_F_cameFrom u6_F_cameBy u6_F_queue u6_F_queued hp_6
    change gW X 0 0 [((ad 0), .inr (3, [.ref (ad 8), .ref (ad 1), .ref (ad 15), .long S_asked])), ((ad 1), .inr (0, [.ref (ad 2), .ref (ad 3), .ref (ad 4), .ref (ad 5), .ref (ad 6), .ref (ad 7), .int C_size])), ((ad 3), .inl (cA 0, 36, .inl C_held)), ((ad 4), .inl (cA 0, 36, .inl C_prices)), ((ad 5), .inl (cA 0, 7, .inl C_rules)), ((ad 6), .inl (cA 0, 108, .inl C_places)), ((ad 7), .inl (cA 0, 216, .inl C_beyond)), ((ad 8), .inr (1, [.ref (ad 1), .ref (ad 9), .ref (ad 10), .ref (ad 11), .ref (ad 12), .ref (ad 13), .ref (ad 14), .int u6_F_queued, .int u6_F_settled, .int u6_F_settledRise, .long u6_F_amount, .long u6_F_lowest, .long u6_F_highest])), ((ad 9), .inl (cA 0, 36, .inl u6_F_springs)), ((ad 10), .inl (cA 0, 36, .inl u6_F_drains)), ((ad 11), .inl (cA 0, 216, .inl u6_F_passes)), ((ad 12), .inl (cA 0, 36, .inl u6_F_cameFrom)), ((ad 13), .inl (cA 0, 36, .inl u6_F_cameBy)), ((ad 14), .inl (cA 0, 36, .inl u6_F_queue))] 1 [(0, .ref (ad 0))] [] 23
    refine g_aload_n C dX3_many_23 rfl 0 rfl ?_
    refine g_get C gfX3_many_10 0 rfl rfl dX3_many_24 ?_
    obtain ⟨n_7, hd_7, a_7, h⟩ := h
    obtain ⟨hi_8, h⟩ := h
    refine g_callVi (wr := [((ad 0), .inr (3, [.ref (ad 8), .ref (ad 1), .ref (ad 15), .long S_asked])), ((ad 3), .inl (cA 0, 36, .inl C_held)), ((ad 9), .inl (cA 0, 36, .inl u6_F_springs)), ((ad 10), .inl (cA 0, 36, .inl u6_F_drains)), ((ad 11), .inl (cA 0, 216, .inl u6_F_passes)), ((ad 12), .inl (cA 0, 36, .inl u6_F_cameFrom)), ((ad 13), .inl (cA 0, 36, .inl u6_F_cameBy))]) C (c_X1_leastSets ad cA n_7 hd_7 a_7 C_size C_prices C_rules C_places C_beyond u6_F_queued u6_F_settled u6_F_settledRise u6_F_amount u6_F_lowest u6_F_highest u6_F_queue hi_8) gX3_many_X1_leastSets rfl hde_X1_leastSets ⟨rfl, rfl⟩ (by decide) (by decide) [1, 3, 4, 5, 6, 7, 13] [0, 2, 8, 9, 10, 11, 12] [0, 7, 1, 8, 9, 10, 11, 12, 2, 3, 4, 5, 6, 13] rfl rfl rfl rfl (by decide) rfl (ws2 := fun u => [((ad 0), .inr (3, [.ref (ad 8), .ref (ad 1), .ref (ad 15), .long S_asked])), ((ad 1), .inr (0, [.ref (ad 2), .ref (ad 3), .ref (ad 4), .ref (ad 5), .ref (ad 6), .ref (ad 7), .int C_size])), ((ad 3), .inl (cA 0, 36, .inl C_held)), ((ad 4), .inl (cA 0, 36, .inl C_prices)), ((ad 5), .inl (cA 0, 7, .inl C_rules)), ((ad 6), .inl (cA 0, 108, .inl C_places)), ((ad 7), .inl (cA 0, 216, .inl C_beyond)), ((ad 8), .inr (1, [.ref (ad 1), .ref (ad 9), .ref (ad 10), .ref (ad 11), .ref (ad 12), .ref (ad 13), .ref (ad 14), .int u6_F_queued, .int u6_F_settled, .int u6_F_settledRise, .long u6_F_amount, .long u6_F_lowest, .long u6_F_highest])), ((ad 9), .inl (cA 0, 36, .inl u6_F_springs)), ((ad 10), .inl (cA 0, 36, .inl u6_F_drains)), ((ad 11), .inl (cA 0, 216, .inl u6_F_passes)), ((ad 12), .inl (cA 0, 36, .inl u6_F_cameFrom)), ((ad 13), .inl (cA 0, 36, .inl u6_F_cameBy)), ((ad 14), .inl (cA 0, 36, .inl u))]) (fun _ => rfl) 1 5 rfl rfl rfl (rest := []) rfl (Nat.le_of_ble_eq_true rfl) dX3_many_27 (fun r_9 u_9 hp_9 => ?_)
    obtain ⟨u9_F_queue, rfl⟩ : ∃ z, z = u_9 := ⟨_, rfl⟩
    replace h := h r_9 u9_F_queue hp_9
    change gW X 0 0 [((ad 0), .inr (3, [.ref (ad 8), .ref (ad 1), .ref (ad 15), .long S_asked])), ((ad 1), .inr (0, [.ref (ad 2), .ref (ad 3), .ref (ad 4), .ref (ad 5), .ref (ad 6), .ref (ad 7), .int C_size])), ((ad 3), .inl (cA 0, 36, .inl C_held)), ((ad 4), .inl (cA 0, 36, .inl C_prices)), ((ad 5), .inl (cA 0, 7, .inl C_rules)), ((ad 6), .inl (cA 0, 108, .inl C_places)), ((ad 7), .inl (cA 0, 216, .inl C_beyond)), ((ad 8), .inr (1, [.ref (ad 1), .ref (ad 9), .ref (ad 10), .ref (ad 11), .ref (ad 12), .ref (ad 13), .ref (ad 14), .int u6_F_queued, .int u6_F_settled, .int u6_F_settledRise, .long u6_F_amount, .long u6_F_lowest, .long u6_F_highest])), ((ad 9), .inl (cA 0, 36, .inl u6_F_springs)), ((ad 10), .inl (cA 0, 36, .inl u6_F_drains)), ((ad 11), .inl (cA 0, 216, .inl u6_F_passes)), ((ad 12), .inl (cA 0, 36, .inl u6_F_cameFrom)), ((ad 13), .inl (cA 0, 36, .inl u6_F_cameBy)), ((ad 14), .inl (cA 0, 36, .inl u9_F_queue))] 1 [(0, .ref (ad 0))] [.int r_9] 30
    exact g_iret C E (u6_F_settled, u6_F_settledRise, u6_F_amount, u6_F_lowest, u6_F_highest, u6_F_springs, u6_F_drains, u6_F_passes, u6_F_cameFrom, u6_F_cameBy, u9_F_queue, u6_F_queued) h rfl dX3_many_30
  · replace h := h.2 c_3
    refine g_bipush C dX3_many_12 bk_m2 ?_
    exact g_iret C E (F_settled, F_settledRise, F_amount, F_lowest, F_highest, F_springs, F_drains, F_passes, F_cameFrom, F_cameBy, F_queue, F_queued) h rfl dX3_many_14
def prX3_many (dx : Nat) (dy : Nat) (dz : Nat) (S_asked : Int64) (C_size : Int32) (C_held : Nat → Int32) (C_prices : Nat → Int32) (C_rules : Nat → Int32) (C_places : Nat → Int32) (C_beyond : Nat → Int32) (F_queued : Int32) (F_settled : Int32) (F_settledRise : Int32) (F_amount : Int64) (F_lowest : Int64) (F_highest : Int64) (F_springs : Nat → Int32) (F_drains : Nat → Int32) (F_passes : Nat → Int32) (F_cameFrom : Nat → Int32) (F_cameBy : Nat → Int32) (F_queue : Nat → Int32) : Prop := dimOK dx dy dz ∧ C_size = nI (dx * dy * dz) ∧ geoOK dx dy dz C_places C_beyond ∧ ruOK C_rules ∧ prOK (dx * dy * dz) C_prices ∧ hdOK (dx * dy * dz) C_held ∧ chOK (dx * dy * dz) C_beyond C_places C_rules C_prices C_held F_settled F_settledRise F_amount F_lowest F_highest
def po_X3_many (ad : Nat → Nat) (cA : Nat → ClassId) (dx : Nat) (dy : Nat) (dz : Nat) (S_asked : Int64) (C_size : Int32) (C_held : Nat → Int32) (C_prices : Nat → Int32) (C_rules : Nat → Int32) (C_places : Nat → Int32) (C_beyond : Nat → Int32) (F_queued : Int32) (F_settled : Int32) (F_settledRise : Int32) (F_amount : Int64) (F_lowest : Int64) (F_highest : Int64) (F_springs : Nat → Int32) (F_drains : Nat → Int32) (F_passes : Nat → Int32) (F_cameFrom : Nat → Int32) (F_cameBy : Nat → Int32) (F_queue : Nat → Int32) (r : Int32) (u : (Int32) × (Int32) × (Int64) × (Int64) × (Int64) × (Nat → Int32) × (Nat → Int32) × (Nat → Int32) × (Nat → Int32) × (Nat → Int32) × (Nat → Int32) × (Int32)) : Prop := (12 < cntA (dx * dy * dz) (fun c => decide (C_held c = 0)) → r = -2 ∧ u.1 = F_settled ∧ u.2.1 = F_settledRise ∧ u.2.2.1 = F_amount ∧ u.2.2.2.1 = F_lowest ∧ u.2.2.2.2.1 = F_highest) ∧ (cntA (dx * dy * dz) (fun c => decide (C_held c = 0)) ≤ 12 → setOK (dx * dy * dz) C_beyond C_places C_rules C_prices C_held 0 u.2.2.1 u.2.2.2.1 u.2.2.2.2.1 ∧ chOK (dx * dy * dz) C_beyond C_places C_rules C_prices C_held u.1 u.2.1 u.2.2.1 u.2.2.2.1 u.2.2.2.2.1 ∧ ∃ (a : Int) (L : List Int64), u.2.2.1 = lI a ∧ -100000 ≤ a ∧ a ≤ 100000 ∧ L.Nodup ∧ (∀ s, s ∈ L ↔ isSol (dx * dy * dz) C_beyond C_places C_rules C_prices C_held a s) ∧ L.length ≤ 4096 ∧ r = nI L.length)
set_option maxHeartbeats 4000000 in
set_option maxRecDepth 100000 in
theorem c_X3_many (ad : Nat → Nat) (cA : Nat → ClassId) (dx : Nat) (dy : Nat) (dz : Nat) (S_asked : Int64) (C_size : Int32) (C_held : Nat → Int32) (C_prices : Nat → Int32) (C_rules : Nat → Int32) (C_places : Nat → Int32) (C_beyond : Nat → Int32) (F_queued : Int32) (F_settled : Int32) (F_settledRise : Int32) (F_amount : Int64) (F_lowest : Int64) (F_highest : Int64) (F_springs : Nat → Int32) (F_drains : Nat → Int32) (F_passes : Nat → Int32) (F_cameFrom : Nat → Int32) (F_cameBy : Nat → Int32) (F_queue : Nat → Int32) (hq : prX3_many dx dy dz S_asked C_size C_held C_prices C_rules C_places C_beyond F_queued F_settled F_settledRise F_amount F_lowest F_highest F_springs F_drains F_passes F_cameFrom F_cameBy F_queue) : ∀ (l : Launch) (D : va_G), gMi (S := (Int32) × (Int32) × (Int64) × (Int64) × (Int64) × (Nat → Int32) × (Nat → Int32) × (Nat → Int32) × (Nat → Int32) × (Nat → Int32) × (Nat → Int32) × (Int32)) l yX3_many wsX3_many rmX3_many D (gT cA) 0 0 [.ref (ad 0)] (wcX3_many ad cA S_asked C_size C_held C_prices C_rules C_places C_beyond F_queued F_settled F_settledRise F_amount F_lowest F_highest F_springs F_drains F_passes F_cameFrom F_cameBy F_queue) (po_X3_many ad cA dx dy dz S_asked C_size C_held C_prices C_rules C_places C_beyond F_queued F_settled F_settledRise F_amount F_lowest F_highest F_springs F_drains F_passes F_cameFrom F_cameBy F_queue) (w1X3_many ad cA S_asked C_size C_held C_prices C_rules C_places C_beyond) := by
  intro l D
  unfold prX3_many at hq
  refine g_enteri (cc := cX3_many) (nL := 1) (ret := (some .int)) (by decide) rfl (Nat.le_of_ble_eq_true rfl) rfl (fun X C E => ?_)
  obtain ⟨hd, rfl, hg, hr, hp, hh, hch⟩ := hq
  have hV := hd.2.2.2.2.2.2
  have le := cntA_le (dx * dy * dz) (fun c => decide (C_held c = 0))
  have iff : nI (cntA (dx * dy * dz) (fun c => decide (C_held c = 0))) ≤ 12 ↔ cntA (dx * dy * dz) (fun c => decide (C_held c = 0)) ≤ 12 := by
    rw [show (12 : Int32) = nI 12 from rfl, nI_leI (by omega) (by decide)]
  refine sgX3_many_0 C E ?_
  rw [nI_clamp (by omega)]
  refine ⟨⟨_, hV, rfl⟩, fun c => ⟨dx * dy * dz, ⟨geo_gr hd hg, hr, hp, hh, rfl, by decide, by decide, hch⟩, fun st ri am lo hi s1 s2 s3 s4 s5 s6 s7 hs => ?_⟩, fun c => ⟨fun _ => ⟨rfl, rfl, rfl, rfl, rfl, rfl⟩, fun q => absurd (iff.mpr q) c⟩⟩
  obtain ⟨a1, a2, a3⟩ := hs
  dsimp only at a1 a2 a3
  have a3' := a3
  obtain ⟨a, b1, b2, b3, b4, b5, b6, b7⟩ := a3'
  have opn : cntA (dx * dy * dz) (opnC lo hi) ≤ 12 := by
    refine Nat.le_trans (cnt_sub (fun x hx h => ?_)).1 (iff.mp c)
    unfold opnC at h
    rw [Bool.and_eq_true] at h
    have q1 := b6.1 x hx
    have q2 := b5.1 x hx
    rw [if_pos h.1] at q1
    have hl : sb lo x = false := by have := h.2; simpa using this
    rw [hl, if_neg (by decide)] at q2
    rcases hh x hx with z | z | z
    · exact decide_eq_true z
    · exact absurd z q2
    · exact absurd z q1
  refine ⟨dx * dy * dz, C_held, a, ⟨geo_gr hd hg, hr, hp, rfl, opn, b2, b3, b5, ⟨b6.1, b6.2.2⟩, b7⟩, fun r q hr2 => ?_⟩
  obtain ⟨L, l1, l2, l3, l4⟩ := hr2
  exact ⟨fun q => absurd (iff.mp c) (by omega), fun _ => ⟨a3, fun _ => by rw [a2]; exact a3, a, L, b1, b2, b3, l1, l2, l3, l4⟩⟩


abbrev w1X3_net (ad : Nat → Nat) (cA : Nat → ClassId) (S_asked : Int64) (u : (Int32) × (Int32) × (Nat → Int32) × (Nat → Int32)) : va_W := [((ad 0), .inr (3, [.ref (ad 8), .ref (ad 1), .ref (ad 15), .long S_asked])), ((ad 15), .inr (2, [.ref (ad 16), .ref (ad 17), .ref (ad 18), .int u.1, .int u.2.1])), ((ad 16), .inl (cA 0, 64, .inl u.2.2.1)), ((ad 17), .inl (cA 2, 64, .inl u.2.2.2))]
abbrev wcX3_net (ad : Nat → Nat) (cA : Nat → ClassId) (S_asked : Int64) (P_wide : Int32) (P_high : Int32) (P_heights : Nat → Int32) (P_pinned : Nat → Int32) : va_W := [((ad 0), .inr (3, [.ref (ad 8), .ref (ad 1), .ref (ad 15), .long S_asked])), ((ad 15), .inr (2, [.ref (ad 16), .ref (ad 17), .ref (ad 18), .int P_wide, .int P_high])), ((ad 16), .inl (cA 0, 64, .inl P_heights)), ((ad 17), .inl (cA 2, 64, .inl P_pinned))]
def rmX3_net : Room := { frames := 2, cells := 0, slots := 0, locals := 47 }
abbrev atX3_net_0 (X : gX) (ad : Nat → Nat) (cA : Nat → ClassId) (p1 : Int32) (p2 : Int32) (S_asked : Int64) (P_wide : Int32) (P_high : Int32) (P_heights : Nat → Int32) (P_pinned : Nat → Int32) : Prop := gW X 0 0 [((ad 0), .inr (3, [.ref (ad 8), .ref (ad 1), .ref (ad 15), .long S_asked])), ((ad 15), .inr (2, [.ref (ad 16), .ref (ad 17), .ref (ad 18), .int P_wide, .int P_high])), ((ad 16), .inl (cA 0, 64, .inl P_heights)), ((ad 17), .inl (cA 2, 64, .inl P_pinned))] 3 [(0, .ref (ad 0)), (1, .int p1), (2, .int p2)] [] 0
theorem giX3_net_X3 : ∀ w ∈ u_ws RX3 TX3 4, w ∈ wsX3_net := by decide +kernel
theorem gfX3_net_24 : gF wsX3_net RX3 24 3 2 RX3 TX3 4 := ⟨giX3_net_X3, by decide +kernel, rfl, by decide⟩
set_option maxHeartbeats 4000000 in
set_option maxRecDepth 100000 in
theorem sgX3_net_0 {X : gX} {ad : Nat → Nat} {cA : Nat → ClassId} {post : Int32 → ((Int32) × (Int32) × (Nat → Int32) × (Nat → Int32)) → Prop} {p1 : Int32} {p2 : Int32} {S_asked : Int64} {P_wide : Int32} {P_high : Int32} {P_heights : Nat → Int32} {P_pinned : Nat → Int32} (C : gC X (gT cA) cX3_net 3 RX3 wsX3_net rmX3_net) (E : gEi X (some .int) (gT cA) 0 0 post (w1X3_net ad cA S_asked)) (h : ((fnX3_within p1 (2 : Int32) (8 : Int32)) = false → post (-1 : Int32) (P_wide, P_high, P_heights, P_pinned)) ∧ ((fnX3_within p1 (2 : Int32) (8 : Int32)) = true → ((fnX3_within p2 (2 : Int32) (8 : Int32)) = true → prX2_spread p1 p2 P_wide P_high P_heights P_pinned ∧ ∀ (u6_P_wide : Int32) (u6_P_high : Int32) (u6_P_heights : Nat → Int32) (u6_P_pinned : Nat → Int32), po_X2_spread ad cA p1 p2 P_wide P_high P_heights P_pinned (u6_P_wide, u6_P_high, u6_P_heights, u6_P_pinned) → prX2_pins u6_P_wide u6_P_high u6_P_pinned ∧ post ((p1 * p2) - (pns u6_P_wide.toNatClampNeg u6_P_high.toNatClampNeg u6_P_pinned)) (u6_P_wide, u6_P_high, u6_P_heights, u6_P_pinned)) ∧ ((fnX3_within p2 (2 : Int32) (8 : Int32)) = false → post (-1 : Int32) (P_wide, P_high, P_heights, P_pinned)))) : atX3_net_0 X ad cA p1 p2 S_asked P_wide P_high P_heights P_pinned := by
  refine g_iload_n C dX3_net_0 rfl 1 rfl ?_
  refine g_iconst C dX3_net_1 ik_2 ?_
  refine g_bipush C dX3_net_2 bk_8 ?_
  refine g_callSi (b := 0) (wr := [((ad 0), .inr (3, [.ref (ad 8), .ref (ad 1), .ref (ad 15), .long S_asked])), ((ad 15), .inr (2, [.ref (ad 16), .ref (ad 17), .ref (ad 18), .int P_wide, .int P_high])), ((ad 16), .inl (cA 0, 64, .inl P_heights)), ((ad 17), .inl (cA 2, 64, .inl P_pinned))]) C (c_X3_within ad cA p1 (2 : Int32) (8 : Int32)) gX3_net_X3_within rfl hde_X3_within ⟨rfl, rfl⟩ (by decide) (by decide) [] [0, 1, 2, 3] [0, 1, 2, 3] rfl rfl rfl rfl (by decide) rfl (ws2 := fun u => [((ad 0), .inr (3, [.ref (ad 8), .ref (ad 1), .ref (ad 15), .long S_asked])), ((ad 15), .inr (2, [.ref (ad 16), .ref (ad 17), .ref (ad 18), .int P_wide, .int P_high])), ((ad 16), .inl (cA 0, 64, .inl P_heights)), ((ad 17), .inl (cA 2, 64, .inl P_pinned))]) (fun _ => rfl) (rest := []) rfl (Nat.le_of_ble_eq_true rfl) dX3_net_4 (fun r_1 u_1 hp_1 => ?_)
  subst hp_1
  change gW X 0 0 [((ad 0), .inr (3, [.ref (ad 8), .ref (ad 1), .ref (ad 15), .long S_asked])), ((ad 15), .inr (2, [.ref (ad 16), .ref (ad 17), .ref (ad 18), .int P_wide, .int P_high])), ((ad 16), .inl (cA 0, 64, .inl P_heights)), ((ad 17), .inl (cA 2, 64, .inl P_pinned))] 3 [(0, .ref (ad 0)), (1, .int p1), (2, .int p2)] [.int (bI (fnX3_within p1 (2 : Int32) (8 : Int32)))] 7
  refine g_ifeq_b (tgt := 20) C dX3_net_7 (by decide) (fun c_2 => ?_) (fun c_2 => ?_)
  · replace h := h.1 c_2
    refine g_iconst C dX3_net_20 ik_m1 ?_
    exact g_iret C E (P_wide, P_high, P_heights, P_pinned) h rfl dX3_net_21
  · replace h := h.2 c_2
    refine g_iload_n C dX3_net_10 rfl 2 rfl ?_
    refine g_iconst C dX3_net_11 ik_2 ?_
    refine g_bipush C dX3_net_12 bk_8 ?_
    refine g_callSi (b := 0) (wr := [((ad 0), .inr (3, [.ref (ad 8), .ref (ad 1), .ref (ad 15), .long S_asked])), ((ad 15), .inr (2, [.ref (ad 16), .ref (ad 17), .ref (ad 18), .int P_wide, .int P_high])), ((ad 16), .inl (cA 0, 64, .inl P_heights)), ((ad 17), .inl (cA 2, 64, .inl P_pinned))]) C (c_X3_within ad cA p2 (2 : Int32) (8 : Int32)) gX3_net_X3_within rfl hde_X3_within ⟨rfl, rfl⟩ (by decide) (by decide) [] [0, 1, 2, 3] [0, 1, 2, 3] rfl rfl rfl rfl (by decide) rfl (ws2 := fun u => [((ad 0), .inr (3, [.ref (ad 8), .ref (ad 1), .ref (ad 15), .long S_asked])), ((ad 15), .inr (2, [.ref (ad 16), .ref (ad 17), .ref (ad 18), .int P_wide, .int P_high])), ((ad 16), .inl (cA 0, 64, .inl P_heights)), ((ad 17), .inl (cA 2, 64, .inl P_pinned))]) (fun _ => rfl) (rest := []) rfl (Nat.le_of_ble_eq_true rfl) dX3_net_14 (fun r_3 u_3 hp_3 => ?_)
    subst hp_3
    change gW X 0 0 [((ad 0), .inr (3, [.ref (ad 8), .ref (ad 1), .ref (ad 15), .long S_asked])), ((ad 15), .inr (2, [.ref (ad 16), .ref (ad 17), .ref (ad 18), .int P_wide, .int P_high])), ((ad 16), .inl (cA 0, 64, .inl P_heights)), ((ad 17), .inl (cA 2, 64, .inl P_pinned))] 3 [(0, .ref (ad 0)), (1, .int p1), (2, .int p2)] [.int (bI (fnX3_within p2 (2 : Int32) (8 : Int32)))] 17
    refine g_ifne_b (tgt := 22) C dX3_net_17 (by decide) (fun c_4 => ?_) (fun c_4 => ?_)
    · replace h := h.1 c_4
      refine g_aload_n C dX3_net_22 rfl 0 rfl ?_
      refine g_get C gfX3_net_24 0 rfl rfl dX3_net_23 ?_
      refine g_iload_n C dX3_net_26 rfl 1 rfl ?_
      refine g_iload_n C dX3_net_27 rfl 2 rfl ?_
      obtain ⟨hi_5, h⟩ := h
      refine g_callVv (wr := [((ad 0), .inr (3, [.ref (ad 8), .ref (ad 1), .ref (ad 15), .long S_asked]))]) C (c_X2_spread ad cA p1 p2 P_wide P_high P_heights P_pinned hi_5) gX3_net_X2_spread rfl hde_X2_spread ⟨rfl, rfl⟩ (by decide) (by decide) [1, 2, 3] [0] [0, 1, 2, 3] rfl rfl rfl rfl (by decide) rfl (ws2 := fun u => [((ad 0), .inr (3, [.ref (ad 8), .ref (ad 1), .ref (ad 15), .long S_asked])), ((ad 15), .inr (2, [.ref (ad 16), .ref (ad 17), .ref (ad 18), .int u.1, .int u.2.1])), ((ad 16), .inl (cA 0, 64, .inl u.2.2.1)), ((ad 17), .inl (cA 2, 64, .inl u.2.2.2))]) (fun _ => rfl) 2 0 rfl rfl rfl (rest := []) rfl (Nat.le_of_ble_eq_true rfl) dX3_net_28 (fun u_6 hp_6 => ?_)
      obtain ⟨u6_P_wide, u6_P_high, u6_P_heights, u6_P_pinned⟩ := u_6
      replace h := h u6_P_wide u6_P_high u6_P_heights u6_P_pinned hp_6
      change gW X 0 0 [((ad 0), .inr (3, [.ref (ad 8), .ref (ad 1), .ref (ad 15), .long S_asked])), ((ad 15), .inr (2, [.ref (ad 16), .ref (ad 17), .ref (ad 18), .int u6_P_wide, .int u6_P_high])), ((ad 16), .inl (cA 0, 64, .inl u6_P_heights)), ((ad 17), .inl (cA 2, 64, .inl u6_P_pinned))] 3 [(0, .ref (ad 0)), (1, .int p1), (2, .int p2)] [] 31
      refine g_iload_n C dX3_net_31 rfl 1 rfl ?_
      refine g_iload_n C dX3_net_32 rfl 2 rfl ?_
      refine g_imul C dX3_net_33 ?_
      refine g_aload_n C dX3_net_34 rfl 0 rfl ?_
      refine g_get C gfX3_net_24 0 rfl rfl dX3_net_35 ?_
      obtain ⟨hi_7, h⟩ := h
      refine g_callVi (wr := [((ad 0), .inr (3, [.ref (ad 8), .ref (ad 1), .ref (ad 15), .long S_asked])), ((ad 16), .inl (cA 0, 64, .inl u6_P_heights))]) C (c_X2_pins ad cA u6_P_wide u6_P_high u6_P_pinned hi_7) gX3_net_X2_pins rfl hde_X2_pins ⟨rfl, rfl⟩ (by decide) (by decide) [1, 3] [0, 2] [0, 2, 1, 3] rfl rfl rfl rfl (by decide) rfl (ws2 := fun u => [((ad 0), .inr (3, [.ref (ad 8), .ref (ad 1), .ref (ad 15), .long S_asked])), ((ad 15), .inr (2, [.ref (ad 16), .ref (ad 17), .ref (ad 18), .int u6_P_wide, .int u6_P_high])), ((ad 16), .inl (cA 0, 64, .inl u6_P_heights)), ((ad 17), .inl (cA 2, 64, .inl u6_P_pinned))]) (fun _ => rfl) 2 0 rfl rfl rfl (rest := [.int (p1 * p2)]) rfl (Nat.le_of_ble_eq_true rfl) dX3_net_38 (fun r_8 u_8 hp_8 => ?_)
      subst hp_8
      change gW X 0 0 [((ad 0), .inr (3, [.ref (ad 8), .ref (ad 1), .ref (ad 15), .long S_asked])), ((ad 15), .inr (2, [.ref (ad 16), .ref (ad 17), .ref (ad 18), .int u6_P_wide, .int u6_P_high])), ((ad 16), .inl (cA 0, 64, .inl u6_P_heights)), ((ad 17), .inl (cA 2, 64, .inl u6_P_pinned))] 3 [(0, .ref (ad 0)), (1, .int p1), (2, .int p2)] [.int (pns u6_P_wide.toNatClampNeg u6_P_high.toNatClampNeg u6_P_pinned), .int (p1 * p2)] 41
      refine g_isub C dX3_net_41 ?_
      exact g_iret C E (u6_P_wide, u6_P_high, u6_P_heights, u6_P_pinned) h rfl dX3_net_42
    · replace h := h.2 c_4
      refine g_iconst C dX3_net_20 ik_m1 ?_
      exact g_iret C E (P_wide, P_high, P_heights, P_pinned) h rfl dX3_net_21
def po_X3_net (ad : Nat → Nat) (cA : Nat → ClassId) (p1 : Int32) (p2 : Int32) (S_asked : Int64) (P_wide : Int32) (P_high : Int32) (P_heights : Nat → Int32) (P_pinned : Nat → Int32) (r : Int32) (u : (Int32) × (Int32) × (Nat → Int32) × (Nat → Int32)) : Prop := (netOK p1 p2 → r = (p1 - 2) * (p2 - 2) ∧ u.1 = p1 ∧ u.2.1 = p2 ∧ u.2.2.1 = fillA 64 0 P_heights ∧ ∀ y, y < p2.toNatClampNeg → ∀ x, x < p1.toNatClampNeg → u.2.2.2 (8 * y + x) = rimI p1.toNatClampNeg p2.toNatClampNeg x y) ∧ (¬ netOK p1 p2 → r = -1 ∧ u = (P_wide, P_high, P_heights, P_pinned))
set_option maxHeartbeats 4000000 in
set_option maxRecDepth 100000 in
theorem c_X3_net (ad : Nat → Nat) (cA : Nat → ClassId) (p1 : Int32) (p2 : Int32) (S_asked : Int64) (P_wide : Int32) (P_high : Int32) (P_heights : Nat → Int32) (P_pinned : Nat → Int32) : ∀ (l : Launch) (D : va_G), gMi (S := (Int32) × (Int32) × (Nat → Int32) × (Nat → Int32)) l yX3_net wsX3_net rmX3_net D (gT cA) 0 0 [.ref (ad 0), .int p1, .int p2] (wcX3_net ad cA S_asked P_wide P_high P_heights P_pinned) (po_X3_net ad cA p1 p2 S_asked P_wide P_high P_heights P_pinned) (w1X3_net ad cA S_asked) := by
  intro l D
  refine g_enteri (cc := cX3_net) (nL := 3) (ret := (some .int)) (by decide) rfl (Nat.le_of_ble_eq_true rfl) rfl (fun X C E => ?_)
  refine sgX3_net_0 C E ⟨fun c => ⟨fun q => absurd ((net_iff _ _).mp q).1 (wi_f c), fun _ => ⟨rfl, rfl⟩⟩, fun c1 => ⟨fun c2 => ?_, fun c => ⟨fun q => absurd ((net_iff _ _).mp q).2 (wi_f c), fun _ => ⟨rfl, rfl⟩⟩⟩⟩
  have ok : netOK p1 p2 := (net_iff _ _).mpr ⟨wi_t c1, wi_t c2⟩
  refine ⟨ok, fun w1 h1 H P hp => ?_⟩
  obtain ⟨e1, e2, e3, e4⟩ := hp
  dsimp only at e1 e2 e3 e4
  subst e1; subst e2
  refine ⟨ok, fun _ => ⟨?_, rfl, rfl, e3, e4⟩, fun q => absurd ok q⟩
  obtain ⟨w, h, hw2, hw, hh2, hh, rfl, rfl⟩ := ok
  rw [nI_clamp (by omega), nI_clamp (by omega)] at e4 ⊢
  rw [pns_pin (p2 := fun j => rimI w h (j % 8) (j / 8)) (fun y hy x hx => by
    rw [e4 y hy x hx]
    show _ = rimI w h ((8 * y + x) % 8) ((8 * y + x) / 8)
    rw [show (8 * y + x) % 8 = x by omega, show (8 * y + x) / 8 = y by omega])]
  exact rim_sum w (by omega) hw2 h (by omega) hh2


abbrev w1X3_lift (ad : Nat → Nat) (cA : Nat → ClassId) (S_asked : Int64) (P_wide : Int32) (P_high : Int32) (u : (Nat → Int32)) : va_W := [((ad 0), .inr (3, [.ref (ad 8), .ref (ad 1), .ref (ad 15), .long S_asked])), ((ad 15), .inr (2, [.ref (ad 16), .ref (ad 17), .ref (ad 18), .int P_wide, .int P_high])), ((ad 16), .inl (cA 0, 64, .inl u))]
abbrev wcX3_lift (ad : Nat → Nat) (cA : Nat → ClassId) (S_asked : Int64) (P_wide : Int32) (P_high : Int32) (P_heights : Nat → Int32) : va_W := [((ad 0), .inr (3, [.ref (ad 8), .ref (ad 1), .ref (ad 15), .long S_asked])), ((ad 15), .inr (2, [.ref (ad 16), .ref (ad 17), .ref (ad 18), .int P_wide, .int P_high])), ((ad 16), .inl (cA 0, 64, .inl P_heights))]
def rmX3_lift : Room := { frames := 1, cells := 0, slots := 0, locals := 22 }
abbrev atX3_lift_0 (X : gX) (ad : Nat → Nat) (cA : Nat → ClassId) (p1 : Int32) (p2 : Int32) (p3 : Int32) (S_asked : Int64) (P_wide : Int32) (P_high : Int32) (P_heights : Nat → Int32) : Prop := gW X 0 0 [((ad 0), .inr (3, [.ref (ad 8), .ref (ad 1), .ref (ad 15), .long S_asked])), ((ad 15), .inr (2, [.ref (ad 16), .ref (ad 17), .ref (ad 18), .int P_wide, .int P_high])), ((ad 16), .inl (cA 0, 64, .inl P_heights))] 6 [(0, .ref (ad 0)), (1, .int p1), (2, .int p2), (3, .int p3)] [] 0
theorem cnX3_lift_57 : Cond.constant RX3 57 (-1000000) ∈ wsX3_lift := by decide +kernel
theorem giX3_lift_X3 : ∀ w ∈ u_ws RX3 TX3 4, w ∈ wsX3_lift := by decide +kernel
theorem gfX3_lift_24 : gF wsX3_lift RX3 24 3 2 RX3 TX3 4 := ⟨giX3_lift_X3, by decide +kernel, rfl, by decide⟩
theorem giX3_lift_X2 : ∀ w ∈ u_ws RX2 TX2 5, w ∈ wsX3_lift := by decide +kernel
theorem gfX3_lift_138 : gF wsX3_lift RX3 138 2 0 RX2 TX2 5 := ⟨giX3_lift_X2, by decide +kernel, rfl, by decide⟩
set_option maxHeartbeats 4000000 in
set_option maxRecDepth 100000 in
theorem sgX3_lift_0 {X : gX} {ad : Nat → Nat} {cA : Nat → ClassId} {post : Int32 → ((Nat → Int32)) → Prop} {p1 : Int32} {p2 : Int32} {p3 : Int32} {S_asked : Int64} {P_wide : Int32} {P_high : Int32} {P_heights : Nat → Int32} (C : gC X (gT cA) cX3_lift 6 RX3 wsX3_lift rmX3_lift) (E : gEi X (some .int) (gT cA) 0 0 post (w1X3_lift ad cA S_asked P_wide P_high)) (h : ((fnX2_has p1 p2 P_wide P_high) = false → post (-1000000 : Int32) P_heights) ∧ ((fnX2_has p1 p2 P_wide P_high) = true → ((fnX3_within p3 (-100 : Int32) (100 : Int32)) = true → ∀ x4_6 : Int32, x4_6 = (fnX2_at p1 p2 P_wide P_high) → vp_in x4_6 64 ∧ ∀ x5_8 : Int32, x5_8 = (P_heights x4_6.toNatClampNeg) → vp_in x4_6 64 ∧ post x5_8 (upd P_heights x4_6.toNatClampNeg p3)) ∧ ((fnX3_within p3 (-100 : Int32) (100 : Int32)) = false → post (-1000000 : Int32) P_heights))) : atX3_lift_0 X ad cA p1 p2 p3 S_asked P_wide P_high P_heights := by
  refine g_aload_n C dX3_lift_0 rfl 0 rfl ?_
  refine g_get C gfX3_lift_24 0 rfl rfl dX3_lift_1 ?_
  refine g_iload_n C dX3_lift_4 rfl 1 rfl ?_
  refine g_iload_n C dX3_lift_5 rfl 2 rfl ?_
  refine g_callVi (wr := [((ad 0), .inr (3, [.ref (ad 8), .ref (ad 1), .ref (ad 15), .long S_asked])), ((ad 16), .inl (cA 0, 64, .inl P_heights))]) C (c_X2_has ad cA p1 p2 P_wide P_high) gX3_lift_X2_has rfl hde_X2_has ⟨rfl, rfl⟩ (by decide) (by decide) [1] [0, 2] [0, 2, 1] rfl rfl rfl rfl (by decide) rfl (ws2 := fun u => [((ad 0), .inr (3, [.ref (ad 8), .ref (ad 1), .ref (ad 15), .long S_asked])), ((ad 15), .inr (2, [.ref (ad 16), .ref (ad 17), .ref (ad 18), .int P_wide, .int P_high])), ((ad 16), .inl (cA 0, 64, .inl P_heights))]) (fun _ => rfl) 2 0 rfl rfl rfl (rest := []) rfl (Nat.le_of_ble_eq_true rfl) dX3_lift_6 (fun r_1 u_1 hp_1 => ?_)
  subst hp_1
  change gW X 0 0 [((ad 0), .inr (3, [.ref (ad 8), .ref (ad 1), .ref (ad 15), .long S_asked])), ((ad 15), .inr (2, [.ref (ad 16), .ref (ad 17), .ref (ad 18), .int P_wide, .int P_high])), ((ad 16), .inl (cA 0, 64, .inl P_heights))] 6 [(0, .ref (ad 0)), (1, .int p1), (2, .int p2), (3, .int p3)] [.int (bI (fnX2_has p1 p2 P_wide P_high))] 9
  refine g_ifeq_b (tgt := 23) C dX3_lift_9 (by decide) (fun c_2 => ?_) (fun c_2 => ?_)
  · replace h := h.1 c_2
    refine g_ldc C cnX3_lift_57 dX3_lift_23 ?_
    exact g_iret C E P_heights h rfl dX3_lift_25
  · replace h := h.2 c_2
    refine g_iload_n C dX3_lift_12 rfl 3 rfl ?_
    refine g_bipush C dX3_lift_13 bk_m100 ?_
    refine g_bipush C dX3_lift_15 bk_100 ?_
    refine g_callSi (b := 0) (wr := [((ad 0), .inr (3, [.ref (ad 8), .ref (ad 1), .ref (ad 15), .long S_asked])), ((ad 15), .inr (2, [.ref (ad 16), .ref (ad 17), .ref (ad 18), .int P_wide, .int P_high])), ((ad 16), .inl (cA 0, 64, .inl P_heights))]) C (c_X3_within ad cA p3 (-100 : Int32) (100 : Int32)) gX3_lift_X3_within rfl hde_X3_within ⟨rfl, rfl⟩ (by decide) (by decide) [] [0, 1, 2] [0, 1, 2] rfl rfl rfl rfl (by decide) rfl (ws2 := fun u => [((ad 0), .inr (3, [.ref (ad 8), .ref (ad 1), .ref (ad 15), .long S_asked])), ((ad 15), .inr (2, [.ref (ad 16), .ref (ad 17), .ref (ad 18), .int P_wide, .int P_high])), ((ad 16), .inl (cA 0, 64, .inl P_heights))]) (fun _ => rfl) (rest := []) rfl (Nat.le_of_ble_eq_true rfl) dX3_lift_17 (fun r_3 u_3 hp_3 => ?_)
    subst hp_3
    change gW X 0 0 [((ad 0), .inr (3, [.ref (ad 8), .ref (ad 1), .ref (ad 15), .long S_asked])), ((ad 15), .inr (2, [.ref (ad 16), .ref (ad 17), .ref (ad 18), .int P_wide, .int P_high])), ((ad 16), .inl (cA 0, 64, .inl P_heights))] 6 [(0, .ref (ad 0)), (1, .int p1), (2, .int p2), (3, .int p3)] [.int (bI (fnX3_within p3 (-100 : Int32) (100 : Int32)))] 20
    refine g_ifne_b (tgt := 26) C dX3_lift_20 (by decide) (fun c_4 => ?_) (fun c_4 => ?_)
    · replace h := h.1 c_4
      refine g_aload_n C dX3_lift_26 rfl 0 rfl ?_
      refine g_get C gfX3_lift_24 0 rfl rfl dX3_lift_27 ?_
      refine g_iload_n C dX3_lift_30 rfl 1 rfl ?_
      refine g_iload_n C dX3_lift_31 rfl 2 rfl ?_
      refine g_callVi (wr := [((ad 0), .inr (3, [.ref (ad 8), .ref (ad 1), .ref (ad 15), .long S_asked])), ((ad 16), .inl (cA 0, 64, .inl P_heights))]) C (c_X2_at ad cA p1 p2 P_wide P_high) gX3_lift_X2_at rfl hde_X2_at ⟨rfl, rfl⟩ (by decide) (by decide) [1] [0, 2] [0, 2, 1] rfl rfl rfl rfl (by decide) rfl (ws2 := fun u => [((ad 0), .inr (3, [.ref (ad 8), .ref (ad 1), .ref (ad 15), .long S_asked])), ((ad 15), .inr (2, [.ref (ad 16), .ref (ad 17), .ref (ad 18), .int P_wide, .int P_high])), ((ad 16), .inl (cA 0, 64, .inl P_heights))]) (fun _ => rfl) 2 0 rfl rfl rfl (rest := []) rfl (Nat.le_of_ble_eq_true rfl) dX3_lift_32 (fun r_5 u_5 hp_5 => ?_)
      subst hp_5
      change gW X 0 0 [((ad 0), .inr (3, [.ref (ad 8), .ref (ad 1), .ref (ad 15), .long S_asked])), ((ad 15), .inr (2, [.ref (ad 16), .ref (ad 17), .ref (ad 18), .int P_wide, .int P_high])), ((ad 16), .inl (cA 0, 64, .inl P_heights))] 6 [(0, .ref (ad 0)), (1, .int p1), (2, .int p2), (3, .int p3)] [.int (fnX2_at p1 p2 P_wide P_high)] 35
      refine g_topi (fun x4_6 ex4_6 => ?_)
      replace h := h x4_6 ex4_6
      refine g_istore (lv2 := [(0, .ref (ad 0)), (1, .int p1), (2, .int p2), (3, .int p3), (4, .int x4_6)]) C dX3_lift_35 (by decide) [1, 2, 3, 4, 0] rfl ?_
      refine g_aload_n C dX3_lift_37 rfl 0 rfl ?_
      refine g_get C gfX3_lift_24 0 rfl rfl dX3_lift_38 ?_
      refine g_get C gfX3_lift_138 1 rfl rfl dX3_lift_41 ?_
      refine g_iload C dX3_lift_44 4 rfl ?_
      obtain ⟨hi_7, h⟩ := h
      refine g_iald C 2 0 rfl rfl hi_7 dX3_lift_46 ?_
      refine g_topi (fun x5_8 ex5_8 => ?_)
      replace h := h x5_8 ex5_8
      refine g_istore (lv2 := [(0, .ref (ad 0)), (1, .int p1), (2, .int p2), (3, .int p3), (4, .int x4_6), (5, .int x5_8)]) C dX3_lift_47 (by decide) [1, 2, 3, 4, 5, 0] rfl ?_
      refine g_aload_n C dX3_lift_49 rfl 0 rfl ?_
      refine g_get C gfX3_lift_24 0 rfl rfl dX3_lift_50 ?_
      refine g_get C gfX3_lift_138 1 rfl rfl dX3_lift_53 ?_
      refine g_iload C dX3_lift_56 4 rfl ?_
      refine g_iload_n C dX3_lift_58 rfl 3 rfl ?_
      obtain ⟨hi_9, h⟩ := h
      refine g_iast (ws2 := [((ad 0), .inr (3, [.ref (ad 8), .ref (ad 1), .ref (ad 15), .long S_asked])), ((ad 15), .inr (2, [.ref (ad 16), .ref (ad 17), .ref (ad 18), .int P_wide, .int P_high])), ((ad 16), .inl (cA 0, 64, .inl (upd P_heights x4_6.toNatClampNeg p3)))]) C 2 0 rfl rfl hi_9 rfl dX3_lift_59 ?_
      refine g_iload C dX3_lift_60 5 rfl ?_
      exact g_iret C E (upd P_heights x4_6.toNatClampNeg p3) h rfl dX3_lift_62
    · replace h := h.2 c_4
      refine g_ldc C cnX3_lift_57 dX3_lift_23 ?_
      exact g_iret C E P_heights h rfl dX3_lift_25
def prX3_lift (p1 : Int32) (p2 : Int32) (p3 : Int32) (S_asked : Int64) (P_wide : Int32) (P_high : Int32) (P_heights : Nat → Int32) : Prop := netOK P_wide P_high
def po_X3_lift (ad : Nat → Nat) (cA : Nat → ClassId) (p1 : Int32) (p2 : Int32) (p3 : Int32) (S_asked : Int64) (P_wide : Int32) (P_high : Int32) (P_heights : Nat → Int32) (r : Int32) (u : (Nat → Int32)) : Prop := (ptOK P_wide P_high p1 p2 ∧ (-100 ≤ p3.toInt ∧ p3.toInt ≤ 100) → r = P_heights (8 * p2.toNatClampNeg + p1.toNatClampNeg) ∧ u = upd P_heights (8 * p2.toNatClampNeg + p1.toNatClampNeg) p3) ∧ (¬ (ptOK P_wide P_high p1 p2 ∧ (-100 ≤ p3.toInt ∧ p3.toInt ≤ 100)) → r = -1000000 ∧ u = P_heights)
set_option maxHeartbeats 4000000 in
set_option maxRecDepth 100000 in
theorem c_X3_lift (ad : Nat → Nat) (cA : Nat → ClassId) (p1 : Int32) (p2 : Int32) (p3 : Int32) (S_asked : Int64) (P_wide : Int32) (P_high : Int32) (P_heights : Nat → Int32) (hq : prX3_lift p1 p2 p3 S_asked P_wide P_high P_heights) : ∀ (l : Launch) (D : va_G), gMi (S := (Nat → Int32)) l yX3_lift wsX3_lift rmX3_lift D (gT cA) 0 0 [.ref (ad 0), .int p1, .int p2, .int p3] (wcX3_lift ad cA S_asked P_wide P_high P_heights) (po_X3_lift ad cA p1 p2 p3 S_asked P_wide P_high P_heights) (w1X3_lift ad cA S_asked P_wide P_high) := by
  intro l D
  unfold prX3_lift at hq
  refine g_enteri (cc := cX3_lift) (nL := 6) (ret := (some .int)) (by decide) rfl (Nat.le_of_ble_eq_true rfl) rfl (fun X C E => ?_)
  obtain ⟨w, h, hw2, hw, hh2, hh, rfl, rfl⟩ := hq
  have ip := has2_eq hw hh p1 p2
  refine sgX3_lift_0 C E ⟨fun c => ⟨fun q => absurd q.1 (bt_f ip c), fun _ => ⟨rfl, rfl⟩⟩, fun c => ⟨fun c2 => ?_, fun c2 => ⟨fun q => absurd q.2 (wi_f c2), fun _ => ⟨rfl, rfl⟩⟩⟩⟩
  · have pk := ip.mp c
    obtain ⟨a, b, ha, hb, rfl, rfl⟩ := pt_nat hw hh (ip.mp c)
    have v : vp_in (nI (8 * b + a)) 64 := vp_in_nI (by omega) (by decide)
    have ei : 8 * (nI b).toNatClampNeg + (nI a).toNatClampNeg = 8 * b + a := by rw [nI_clamp (by omega), nI_clamp (by omega)]
    unfold po_X3_lift
    rw [at_eq, ei]
    intro x ex
    subst ex
    rw [nI_clamp (n := 8 * b + a) (by omega)]
    exact ⟨v, fun x e => ⟨v, fun _ => ⟨e, rfl⟩, fun q => absurd ⟨pk, wi_t c2⟩ q⟩⟩


abbrev w1X3_pin (ad : Nat → Nat) (cA : Nat → ClassId) (S_asked : Int64) (P_wide : Int32) (P_high : Int32) (u : (Nat → Int32)) : va_W := [((ad 0), .inr (3, [.ref (ad 8), .ref (ad 1), .ref (ad 15), .long S_asked])), ((ad 15), .inr (2, [.ref (ad 16), .ref (ad 17), .ref (ad 18), .int P_wide, .int P_high])), ((ad 17), .inl (cA 2, 64, .inl u))]
abbrev wcX3_pin (ad : Nat → Nat) (cA : Nat → ClassId) (S_asked : Int64) (P_wide : Int32) (P_high : Int32) (P_pinned : Nat → Int32) : va_W := [((ad 0), .inr (3, [.ref (ad 8), .ref (ad 1), .ref (ad 15), .long S_asked])), ((ad 15), .inr (2, [.ref (ad 16), .ref (ad 17), .ref (ad 18), .int P_wide, .int P_high])), ((ad 17), .inl (cA 2, 64, .inl P_pinned))]
def rmX3_pin : Room := { frames := 1, cells := 0, slots := 0, locals := 22 }
abbrev atX3_pin_0 (X : gX) (ad : Nat → Nat) (cA : Nat → ClassId) (p1 : Int32) (p2 : Int32) (p3 : Int32) (S_asked : Int64) (P_wide : Int32) (P_high : Int32) (P_pinned : Nat → Int32) : Prop := gW X 0 0 [((ad 0), .inr (3, [.ref (ad 8), .ref (ad 1), .ref (ad 15), .long S_asked])), ((ad 15), .inr (2, [.ref (ad 16), .ref (ad 17), .ref (ad 18), .int P_wide, .int P_high])), ((ad 17), .inl (cA 2, 64, .inl P_pinned))] 6 [(0, .ref (ad 0)), (1, .int p1), (2, .int p2), (3, .int p3)] [] 0
theorem giX3_pin_X3 : ∀ w ∈ u_ws RX3 TX3 4, w ∈ wsX3_pin := by decide +kernel
theorem gfX3_pin_24 : gF wsX3_pin RX3 24 3 2 RX3 TX3 4 := ⟨giX3_pin_X3, by decide +kernel, rfl, by decide⟩
theorem giX3_pin_X2 : ∀ w ∈ u_ws RX2 TX2 5, w ∈ wsX3_pin := by decide +kernel
theorem gfX3_pin_141 : gF wsX3_pin RX3 141 2 1 RX2 TX2 5 := ⟨giX3_pin_X2, by decide +kernel, rfl, by decide⟩
set_option maxHeartbeats 4000000 in
set_option maxRecDepth 100000 in
theorem sgX3_pin_0 {X : gX} {ad : Nat → Nat} {cA : Nat → ClassId} {post : Int32 → ((Nat → Int32)) → Prop} {p1 : Int32} {p2 : Int32} {p3 : Int32} {S_asked : Int64} {P_wide : Int32} {P_high : Int32} {P_pinned : Nat → Int32} (C : gC X (gT cA) cX3_pin 6 RX3 wsX3_pin rmX3_pin) (E : gEi X (some .int) (gT cA) 0 0 post (w1X3_pin ad cA S_asked P_wide P_high)) (h : ((fnX2_has p1 p2 P_wide P_high) = true → ∀ x4_4 : Int32, x4_4 = (fnX2_at p1 p2 P_wide P_high) → vp_in x4_4 64 ∧ ∀ x5_7 : Int32, x5_7 = (if (P_pinned x4_4.toNatClampNeg) = 0 then (0 : Int32) else (1 : Int32)) → vp_in x4_4 64 ∧ post x5_7 (upd P_pinned x4_4.toNatClampNeg (vp_nar .boolean p3))) ∧ ((fnX2_has p1 p2 P_wide P_high) = false → post (-1 : Int32) P_pinned)) : atX3_pin_0 X ad cA p1 p2 p3 S_asked P_wide P_high P_pinned := by
  refine g_aload_n C dX3_pin_0 rfl 0 rfl ?_
  refine g_get C gfX3_pin_24 0 rfl rfl dX3_pin_1 ?_
  refine g_iload_n C dX3_pin_4 rfl 1 rfl ?_
  refine g_iload_n C dX3_pin_5 rfl 2 rfl ?_
  refine g_callVi (wr := [((ad 0), .inr (3, [.ref (ad 8), .ref (ad 1), .ref (ad 15), .long S_asked])), ((ad 17), .inl (cA 2, 64, .inl P_pinned))]) C (c_X2_has ad cA p1 p2 P_wide P_high) gX3_pin_X2_has rfl hde_X2_has ⟨rfl, rfl⟩ (by decide) (by decide) [1] [0, 2] [0, 2, 1] rfl rfl rfl rfl (by decide) rfl (ws2 := fun u => [((ad 0), .inr (3, [.ref (ad 8), .ref (ad 1), .ref (ad 15), .long S_asked])), ((ad 15), .inr (2, [.ref (ad 16), .ref (ad 17), .ref (ad 18), .int P_wide, .int P_high])), ((ad 17), .inl (cA 2, 64, .inl P_pinned))]) (fun _ => rfl) 2 0 rfl rfl rfl (rest := []) rfl (Nat.le_of_ble_eq_true rfl) dX3_pin_6 (fun r_1 u_1 hp_1 => ?_)
  subst hp_1
  change gW X 0 0 [((ad 0), .inr (3, [.ref (ad 8), .ref (ad 1), .ref (ad 15), .long S_asked])), ((ad 15), .inr (2, [.ref (ad 16), .ref (ad 17), .ref (ad 18), .int P_wide, .int P_high])), ((ad 17), .inl (cA 2, 64, .inl P_pinned))] 6 [(0, .ref (ad 0)), (1, .int p1), (2, .int p2), (3, .int p3)] [.int (bI (fnX2_has p1 p2 P_wide P_high))] 9
  refine g_ifne_b (tgt := 14) C dX3_pin_9 (by decide) (fun c_2 => ?_) (fun c_2 => ?_)
  · replace h := h.1 c_2
    refine g_aload_n C dX3_pin_14 rfl 0 rfl ?_
    refine g_get C gfX3_pin_24 0 rfl rfl dX3_pin_15 ?_
    refine g_iload_n C dX3_pin_18 rfl 1 rfl ?_
    refine g_iload_n C dX3_pin_19 rfl 2 rfl ?_
    refine g_callVi (wr := [((ad 0), .inr (3, [.ref (ad 8), .ref (ad 1), .ref (ad 15), .long S_asked])), ((ad 17), .inl (cA 2, 64, .inl P_pinned))]) C (c_X2_at ad cA p1 p2 P_wide P_high) gX3_pin_X2_at rfl hde_X2_at ⟨rfl, rfl⟩ (by decide) (by decide) [1] [0, 2] [0, 2, 1] rfl rfl rfl rfl (by decide) rfl (ws2 := fun u => [((ad 0), .inr (3, [.ref (ad 8), .ref (ad 1), .ref (ad 15), .long S_asked])), ((ad 15), .inr (2, [.ref (ad 16), .ref (ad 17), .ref (ad 18), .int P_wide, .int P_high])), ((ad 17), .inl (cA 2, 64, .inl P_pinned))]) (fun _ => rfl) 2 0 rfl rfl rfl (rest := []) rfl (Nat.le_of_ble_eq_true rfl) dX3_pin_20 (fun r_3 u_3 hp_3 => ?_)
    subst hp_3
    change gW X 0 0 [((ad 0), .inr (3, [.ref (ad 8), .ref (ad 1), .ref (ad 15), .long S_asked])), ((ad 15), .inr (2, [.ref (ad 16), .ref (ad 17), .ref (ad 18), .int P_wide, .int P_high])), ((ad 17), .inl (cA 2, 64, .inl P_pinned))] 6 [(0, .ref (ad 0)), (1, .int p1), (2, .int p2), (3, .int p3)] [.int (fnX2_at p1 p2 P_wide P_high)] 23
    refine g_topi (fun x4_4 ex4_4 => ?_)
    replace h := h x4_4 ex4_4
    refine g_istore (lv2 := [(0, .ref (ad 0)), (1, .int p1), (2, .int p2), (3, .int p3), (4, .int x4_4)]) C dX3_pin_23 (by decide) [1, 2, 3, 4, 0] rfl ?_
    refine g_aload_n C dX3_pin_25 rfl 0 rfl ?_
    refine g_get C gfX3_pin_24 0 rfl rfl dX3_pin_26 ?_
    refine g_get C gfX3_pin_141 1 rfl rfl dX3_pin_29 ?_
    refine g_iload C dX3_pin_32 4 rfl ?_
    obtain ⟨hi_5, h⟩ := h
    refine g_zald C 2 2 rfl rfl hi_5 dX3_pin_34 ?_
    have key : gW X 0 0 [((ad 0), .inr (3, [.ref (ad 8), .ref (ad 1), .ref (ad 15), .long S_asked])), ((ad 15), .inr (2, [.ref (ad 16), .ref (ad 17), .ref (ad 18), .int P_wide, .int P_high])), ((ad 17), .inl (cA 2, 64, .inl P_pinned))] 6 [(0, .ref (ad 0)), (1, .int p1), (2, .int p2), (3, .int p3), (4, .int x4_4)] [.int (if (P_pinned x4_4.toNatClampNeg) = 0 then (0 : Int32) else (1 : Int32))] 43 := by
      refine g_topi (fun x5_7 ex5_7 => ?_)
      replace h := h x5_7 ex5_7
      refine g_istore (lv2 := [(0, .ref (ad 0)), (1, .int p1), (2, .int p2), (3, .int p3), (4, .int x4_4), (5, .int x5_7)]) C dX3_pin_43 (by decide) [1, 2, 3, 4, 5, 0] rfl ?_
      refine g_aload_n C dX3_pin_45 rfl 0 rfl ?_
      refine g_get C gfX3_pin_24 0 rfl rfl dX3_pin_46 ?_
      refine g_get C gfX3_pin_141 1 rfl rfl dX3_pin_49 ?_
      refine g_iload C dX3_pin_52 4 rfl ?_
      refine g_iload_n C dX3_pin_54 rfl 3 rfl ?_
      obtain ⟨hi_8, h⟩ := h
      refine g_zast (ws2 := [((ad 0), .inr (3, [.ref (ad 8), .ref (ad 1), .ref (ad 15), .long S_asked])), ((ad 15), .inr (2, [.ref (ad 16), .ref (ad 17), .ref (ad 18), .int P_wide, .int P_high])), ((ad 17), .inl (cA 2, 64, .inl (upd P_pinned x4_4.toNatClampNeg (vp_nar .boolean p3))))]) C 2 2 rfl rfl hi_8 rfl dX3_pin_55 ?_
      refine g_iload C dX3_pin_56 5 rfl ?_
      exact g_iret C E (upd P_pinned x4_4.toNatClampNeg (vp_nar .boolean p3)) h rfl dX3_pin_58
    refine g_if_eq (tgt := 42) C dX3_pin_35 (by decide) (fun c_6 => ?_) (fun c_6 => ?_)
    · refine g_iconst C dX3_pin_42 ik_0 ?_
      exact g_leaf (by simp only [if_pos c_6] at key; first | exact key | (simp only [if_pos c_6]; exact key) | exact absurd rfl c_6)
    · refine g_iconst C dX3_pin_38 ik_1 ?_
      refine g_goto (tgt := 43) C dX3_pin_39 (by decide) ?_
      exact g_leaf (by simp only [if_neg c_6] at key; first | exact key | (simp only [if_neg c_6]; exact key) | exact absurd rfl c_6)
  · replace h := h.2 c_2
    refine g_iconst C dX3_pin_12 ik_m1 ?_
    exact g_iret C E P_pinned h rfl dX3_pin_13
def prX3_pin (p1 : Int32) (p2 : Int32) (p3 : Int32) (S_asked : Int64) (P_wide : Int32) (P_high : Int32) (P_pinned : Nat → Int32) : Prop := netOK P_wide P_high
def po_X3_pin (ad : Nat → Nat) (cA : Nat → ClassId) (p1 : Int32) (p2 : Int32) (p3 : Int32) (S_asked : Int64) (P_wide : Int32) (P_high : Int32) (P_pinned : Nat → Int32) (r : Int32) (u : (Nat → Int32)) : Prop := (ptOK P_wide P_high p1 p2 → r = (if P_pinned (8 * p2.toNatClampNeg + p1.toNatClampNeg) = 0 then 0 else 1) ∧ u = upd P_pinned (8 * p2.toNatClampNeg + p1.toNatClampNeg) (vp_nar .boolean p3)) ∧ (¬ ptOK P_wide P_high p1 p2 → r = -1 ∧ u = P_pinned)
set_option maxHeartbeats 4000000 in
set_option maxRecDepth 100000 in
theorem c_X3_pin (ad : Nat → Nat) (cA : Nat → ClassId) (p1 : Int32) (p2 : Int32) (p3 : Int32) (S_asked : Int64) (P_wide : Int32) (P_high : Int32) (P_pinned : Nat → Int32) (hq : prX3_pin p1 p2 p3 S_asked P_wide P_high P_pinned) : ∀ (l : Launch) (D : va_G), gMi (S := (Nat → Int32)) l yX3_pin wsX3_pin rmX3_pin D (gT cA) 0 0 [.ref (ad 0), .int p1, .int p2, .int p3] (wcX3_pin ad cA S_asked P_wide P_high P_pinned) (po_X3_pin ad cA p1 p2 p3 S_asked P_wide P_high P_pinned) (w1X3_pin ad cA S_asked P_wide P_high) := by
  intro l D
  unfold prX3_pin at hq
  refine g_enteri (cc := cX3_pin) (nL := 6) (ret := (some .int)) (by decide) rfl (Nat.le_of_ble_eq_true rfl) rfl (fun X C E => ?_)
  obtain ⟨w, h, hw2, hw, hh2, hh, rfl, rfl⟩ := hq
  have ip := has2_eq hw hh p1 p2
  refine sgX3_pin_0 C E ⟨fun c => ?_, fun c => ⟨fun q => absurd q (bt_f ip c), fun _ => ⟨rfl, rfl⟩⟩⟩
  · have pk := ip.mp c
    obtain ⟨a, b, ha, hb, rfl, rfl⟩ := pt_nat hw hh (ip.mp c)
    have v : vp_in (nI (8 * b + a)) 64 := vp_in_nI (by omega) (by decide)
    have ei : 8 * (nI b).toNatClampNeg + (nI a).toNatClampNeg = 8 * b + a := by rw [nI_clamp (by omega), nI_clamp (by omega)]
    unfold po_X3_pin
    rw [at_eq, ei]
    intro x ex
    subst ex
    rw [nI_clamp (n := 8 * b + a) (by omega)]
    exact ⟨v, fun x e => ⟨v, fun _ => ⟨e, rfl⟩, fun q => absurd pk q⟩⟩


abbrev w1X3_height (ad : Nat → Nat) (cA : Nat → ClassId) (S_asked : Int64) (P_wide : Int32) (P_high : Int32) (P_heights : Nat → Int32) (u : Unit) : va_W := [((ad 0), .inr (3, [.ref (ad 8), .ref (ad 1), .ref (ad 15), .long S_asked])), ((ad 15), .inr (2, [.ref (ad 16), .ref (ad 17), .ref (ad 18), .int P_wide, .int P_high])), ((ad 16), .inl (cA 0, 64, .inl P_heights))]
abbrev wcX3_height (ad : Nat → Nat) (cA : Nat → ClassId) (S_asked : Int64) (P_wide : Int32) (P_high : Int32) (P_heights : Nat → Int32) : va_W := [((ad 0), .inr (3, [.ref (ad 8), .ref (ad 1), .ref (ad 15), .long S_asked])), ((ad 15), .inr (2, [.ref (ad 16), .ref (ad 17), .ref (ad 18), .int P_wide, .int P_high])), ((ad 16), .inl (cA 0, 64, .inl P_heights))]
def rmX3_height : Room := { frames := 1, cells := 0, slots := 0, locals := 22 }
abbrev atX3_height_0 (X : gX) (ad : Nat → Nat) (cA : Nat → ClassId) (p1 : Int32) (p2 : Int32) (S_asked : Int64) (P_wide : Int32) (P_high : Int32) (P_heights : Nat → Int32) : Prop := gW X 0 0 [((ad 0), .inr (3, [.ref (ad 8), .ref (ad 1), .ref (ad 15), .long S_asked])), ((ad 15), .inr (2, [.ref (ad 16), .ref (ad 17), .ref (ad 18), .int P_wide, .int P_high])), ((ad 16), .inl (cA 0, 64, .inl P_heights))] 3 [(0, .ref (ad 0)), (1, .int p1), (2, .int p2)] [] 0
theorem cnX3_height_57 : Cond.constant RX3 57 (-1000000) ∈ wsX3_height := by decide +kernel
theorem giX3_height_X3 : ∀ w ∈ u_ws RX3 TX3 4, w ∈ wsX3_height := by decide +kernel
theorem gfX3_height_24 : gF wsX3_height RX3 24 3 2 RX3 TX3 4 := ⟨giX3_height_X3, by decide +kernel, rfl, by decide⟩
theorem giX3_height_X2 : ∀ w ∈ u_ws RX2 TX2 5, w ∈ wsX3_height := by decide +kernel
theorem gfX3_height_138 : gF wsX3_height RX3 138 2 0 RX2 TX2 5 := ⟨giX3_height_X2, by decide +kernel, rfl, by decide⟩
set_option maxHeartbeats 4000000 in
set_option maxRecDepth 100000 in
theorem sgX3_height_0 {X : gX} {ad : Nat → Nat} {cA : Nat → ClassId} {post : Int32 → (Unit) → Prop} {p1 : Int32} {p2 : Int32} {S_asked : Int64} {P_wide : Int32} {P_high : Int32} {P_heights : Nat → Int32} (C : gC X (gT cA) cX3_height 3 RX3 wsX3_height rmX3_height) (E : gEi X (some .int) (gT cA) 0 0 post (w1X3_height ad cA S_asked P_wide P_high P_heights)) (h : ((fnX2_has p1 p2 P_wide P_high) = false → post (-1000000 : Int32) ()) ∧ ((fnX2_has p1 p2 P_wide P_high) = true → vp_in (fnX2_at p1 p2 P_wide P_high) 64 ∧ post (P_heights (fnX2_at p1 p2 P_wide P_high).toNatClampNeg) ())) : atX3_height_0 X ad cA p1 p2 S_asked P_wide P_high P_heights := by
  refine g_aload_n C dX3_height_0 rfl 0 rfl ?_
  refine g_get C gfX3_height_24 0 rfl rfl dX3_height_1 ?_
  refine g_iload_n C dX3_height_4 rfl 1 rfl ?_
  refine g_iload_n C dX3_height_5 rfl 2 rfl ?_
  refine g_callVi (wr := [((ad 0), .inr (3, [.ref (ad 8), .ref (ad 1), .ref (ad 15), .long S_asked])), ((ad 16), .inl (cA 0, 64, .inl P_heights))]) C (c_X2_has ad cA p1 p2 P_wide P_high) gX3_height_X2_has rfl hde_X2_has ⟨rfl, rfl⟩ (by decide) (by decide) [1] [0, 2] [0, 2, 1] rfl rfl rfl rfl (by decide) rfl (ws2 := fun u => [((ad 0), .inr (3, [.ref (ad 8), .ref (ad 1), .ref (ad 15), .long S_asked])), ((ad 15), .inr (2, [.ref (ad 16), .ref (ad 17), .ref (ad 18), .int P_wide, .int P_high])), ((ad 16), .inl (cA 0, 64, .inl P_heights))]) (fun _ => rfl) 2 0 rfl rfl rfl (rest := []) rfl (Nat.le_of_ble_eq_true rfl) dX3_height_6 (fun r_1 u_1 hp_1 => ?_)
  subst hp_1
  change gW X 0 0 [((ad 0), .inr (3, [.ref (ad 8), .ref (ad 1), .ref (ad 15), .long S_asked])), ((ad 15), .inr (2, [.ref (ad 16), .ref (ad 17), .ref (ad 18), .int P_wide, .int P_high])), ((ad 16), .inl (cA 0, 64, .inl P_heights))] 3 [(0, .ref (ad 0)), (1, .int p1), (2, .int p2)] [.int (bI (fnX2_has p1 p2 P_wide P_high))] 9
  refine g_ifeq_b (tgt := 32) C dX3_height_9 (by decide) (fun c_2 => ?_) (fun c_2 => ?_)
  · replace h := h.1 c_2
    refine g_ldc C cnX3_height_57 dX3_height_32 ?_
    exact g_iret C E () h rfl dX3_height_34
  · replace h := h.2 c_2
    refine g_aload_n C dX3_height_12 rfl 0 rfl ?_
    refine g_get C gfX3_height_24 0 rfl rfl dX3_height_13 ?_
    refine g_get C gfX3_height_138 1 rfl rfl dX3_height_16 ?_
    refine g_aload_n C dX3_height_19 rfl 0 rfl ?_
    refine g_get C gfX3_height_24 0 rfl rfl dX3_height_20 ?_
    refine g_iload_n C dX3_height_23 rfl 1 rfl ?_
    refine g_iload_n C dX3_height_24 rfl 2 rfl ?_
    refine g_callVi (wr := [((ad 0), .inr (3, [.ref (ad 8), .ref (ad 1), .ref (ad 15), .long S_asked])), ((ad 16), .inl (cA 0, 64, .inl P_heights))]) C (c_X2_at ad cA p1 p2 P_wide P_high) gX3_height_X2_at rfl hde_X2_at ⟨rfl, rfl⟩ (by decide) (by decide) [1] [0, 2] [0, 2, 1] rfl rfl rfl rfl (by decide) rfl (ws2 := fun u => [((ad 0), .inr (3, [.ref (ad 8), .ref (ad 1), .ref (ad 15), .long S_asked])), ((ad 15), .inr (2, [.ref (ad 16), .ref (ad 17), .ref (ad 18), .int P_wide, .int P_high])), ((ad 16), .inl (cA 0, 64, .inl P_heights))]) (fun _ => rfl) 2 0 rfl rfl rfl (rest := [.ref (ad 16)]) rfl (Nat.le_of_ble_eq_true rfl) dX3_height_25 (fun r_3 u_3 hp_3 => ?_)
    subst hp_3
    change gW X 0 0 [((ad 0), .inr (3, [.ref (ad 8), .ref (ad 1), .ref (ad 15), .long S_asked])), ((ad 15), .inr (2, [.ref (ad 16), .ref (ad 17), .ref (ad 18), .int P_wide, .int P_high])), ((ad 16), .inl (cA 0, 64, .inl P_heights))] 3 [(0, .ref (ad 0)), (1, .int p1), (2, .int p2)] [.int (fnX2_at p1 p2 P_wide P_high), .ref (ad 16)] 28
    obtain ⟨hi_4, h⟩ := h
    refine g_iald C 2 0 rfl rfl hi_4 dX3_height_28 ?_
    refine g_goto (tgt := 34) C dX3_height_29 (by decide) ?_
    exact g_iret C E () h rfl dX3_height_34
def prX3_height (p1 : Int32) (p2 : Int32) (S_asked : Int64) (P_wide : Int32) (P_high : Int32) (P_heights : Nat → Int32) : Prop := netOK P_wide P_high
def po_X3_height (ad : Nat → Nat) (cA : Nat → ClassId) (p1 : Int32) (p2 : Int32) (S_asked : Int64) (P_wide : Int32) (P_high : Int32) (P_heights : Nat → Int32) (r : Int32) (u : Unit) : Prop := (ptOK P_wide P_high p1 p2 → r = P_heights (8 * p2.toNatClampNeg + p1.toNatClampNeg)) ∧ (¬ ptOK P_wide P_high p1 p2 → r = -1000000)
set_option maxHeartbeats 4000000 in
set_option maxRecDepth 100000 in
theorem c_X3_height (ad : Nat → Nat) (cA : Nat → ClassId) (p1 : Int32) (p2 : Int32) (S_asked : Int64) (P_wide : Int32) (P_high : Int32) (P_heights : Nat → Int32) (hq : prX3_height p1 p2 S_asked P_wide P_high P_heights) : ∀ (l : Launch) (D : va_G), gMi (S := Unit) l yX3_height wsX3_height rmX3_height D (gT cA) 0 0 [.ref (ad 0), .int p1, .int p2] (wcX3_height ad cA S_asked P_wide P_high P_heights) (po_X3_height ad cA p1 p2 S_asked P_wide P_high P_heights) (w1X3_height ad cA S_asked P_wide P_high P_heights) := by
  intro l D
  unfold prX3_height at hq
  refine g_enteri (cc := cX3_height) (nL := 3) (ret := (some .int)) (by decide) rfl (Nat.le_of_ble_eq_true rfl) rfl (fun X C E => ?_)
  obtain ⟨w, h, hw2, hw, hh2, hh, rfl, rfl⟩ := hq
  have ip := has2_eq hw hh p1 p2
  refine sgX3_height_0 C E ⟨fun c => ⟨fun q => absurd q (bt_f ip c), fun _ => rfl⟩, fun c => ?_⟩
  · have pk := ip.mp c
    obtain ⟨a, b, ha, hb, rfl, rfl⟩ := pt_nat hw hh (ip.mp c)
    have v : vp_in (nI (8 * b + a)) 64 := vp_in_nI (by omega) (by decide)
    have ei : 8 * (nI b).toNatClampNeg + (nI a).toNatClampNeg = 8 * b + a := by rw [nI_clamp (by omega), nI_clamp (by omega)]
    unfold po_X3_height
    rw [at_eq, ei, nI_clamp (n := 8 * b + a) (by omega)]
    exact ⟨v, fun _ => rfl, fun q => absurd pk q⟩


abbrev w1X3_drawn (ad : Nat → Nat) (cA : Nat → ClassId) (S_asked : Int64) (P_wide : Int32) (P_high : Int32) (P_heights : Nat → Int32) (u : Unit) : va_W := [((ad 0), .inr (3, [.ref (ad 8), .ref (ad 1), .ref (ad 15), .long S_asked])), ((ad 15), .inr (2, [.ref (ad 16), .ref (ad 17), .ref (ad 18), .int P_wide, .int P_high])), ((ad 16), .inl (cA 0, 64, .inl P_heights))]
abbrev wcX3_drawn (ad : Nat → Nat) (cA : Nat → ClassId) (S_asked : Int64) (P_wide : Int32) (P_high : Int32) (P_heights : Nat → Int32) : va_W := [((ad 0), .inr (3, [.ref (ad 8), .ref (ad 1), .ref (ad 15), .long S_asked])), ((ad 15), .inr (2, [.ref (ad 16), .ref (ad 17), .ref (ad 18), .int P_wide, .int P_high])), ((ad 16), .inl (cA 0, 64, .inl P_heights))]
def rmX3_drawn : Room := { frames := 3, cells := 0, slots := 0, locals := 69 }
abbrev atX3_drawn_0 (X : gX) (ad : Nat → Nat) (cA : Nat → ClassId) (S_asked : Int64) (P_wide : Int32) (P_high : Int32) (P_heights : Nat → Int32) : Prop := gW X 0 0 [((ad 0), .inr (3, [.ref (ad 8), .ref (ad 1), .ref (ad 15), .long S_asked])), ((ad 15), .inr (2, [.ref (ad 16), .ref (ad 17), .ref (ad 18), .int P_wide, .int P_high])), ((ad 16), .inl (cA 0, 64, .inl P_heights))] 1 [(0, .ref (ad 0))] [] 0
theorem giX3_drawn_X3 : ∀ w ∈ u_ws RX3 TX3 4, w ∈ wsX3_drawn := by decide +kernel
theorem gfX3_drawn_24 : gF wsX3_drawn RX3 24 3 2 RX3 TX3 4 := ⟨giX3_drawn_X3, by decide +kernel, rfl, by decide⟩
set_option maxHeartbeats 4000000 in
set_option maxRecDepth 100000 in
theorem sgX3_drawn_0 {X : gX} {ad : Nat → Nat} {cA : Nat → ClassId} {post : Int32 → (Unit) → Prop} {S_asked : Int64} {P_wide : Int32} {P_high : Int32} {P_heights : Nat → Int32} (C : gC X (gT cA) cX3_drawn 1 RX3 wsX3_drawn rmX3_drawn) (E : gEi X (some .int) (gT cA) 0 0 post (w1X3_drawn ad cA S_asked P_wide P_high P_heights)) (h : prX2_sumOfDifferences P_wide P_high P_heights ∧ post (drw P_wide.toNatClampNeg P_high.toNatClampNeg P_heights) ()) : atX3_drawn_0 X ad cA S_asked P_wide P_high P_heights := by
  refine g_aload_n C dX3_drawn_0 rfl 0 rfl ?_
  refine g_get C gfX3_drawn_24 0 rfl rfl dX3_drawn_1 ?_
  obtain ⟨hi_1, h⟩ := h
  refine g_callVi (wr := [((ad 0), .inr (3, [.ref (ad 8), .ref (ad 1), .ref (ad 15), .long S_asked]))]) C (c_X2_sumOfDifferences ad cA P_wide P_high P_heights hi_1) gX3_drawn_X2_sumOfDifferences rfl hde_X2_sumOfDifferences ⟨rfl, rfl⟩ (by decide) (by decide) [1, 2] [0] [0, 1, 2] rfl rfl rfl rfl (by decide) rfl (ws2 := fun u => [((ad 0), .inr (3, [.ref (ad 8), .ref (ad 1), .ref (ad 15), .long S_asked])), ((ad 15), .inr (2, [.ref (ad 16), .ref (ad 17), .ref (ad 18), .int P_wide, .int P_high])), ((ad 16), .inl (cA 0, 64, .inl P_heights))]) (fun _ => rfl) 2 0 rfl rfl rfl (rest := []) rfl (Nat.le_of_ble_eq_true rfl) dX3_drawn_4 (fun r_2 u_2 hp_2 => ?_)
  subst hp_2
  change gW X 0 0 [((ad 0), .inr (3, [.ref (ad 8), .ref (ad 1), .ref (ad 15), .long S_asked])), ((ad 15), .inr (2, [.ref (ad 16), .ref (ad 17), .ref (ad 18), .int P_wide, .int P_high])), ((ad 16), .inl (cA 0, 64, .inl P_heights))] 1 [(0, .ref (ad 0))] [.int (drw P_wide.toNatClampNeg P_high.toNatClampNeg P_heights)] 7
  exact g_iret C E () h rfl dX3_drawn_7
def prX3_drawn (S_asked : Int64) (P_wide : Int32) (P_high : Int32) (P_heights : Nat → Int32) : Prop := netOK P_wide P_high
set_option maxHeartbeats 4000000 in
set_option maxRecDepth 100000 in
theorem c_X3_drawn (ad : Nat → Nat) (cA : Nat → ClassId) (S_asked : Int64) (P_wide : Int32) (P_high : Int32) (P_heights : Nat → Int32) (hq : prX3_drawn S_asked P_wide P_high P_heights) : ∀ (l : Launch) (D : va_G), gMi (S := Unit) l yX3_drawn wsX3_drawn rmX3_drawn D (gT cA) 0 0 [.ref (ad 0)] (wcX3_drawn ad cA S_asked P_wide P_high P_heights) (fun r _ => r = drw P_wide.toNatClampNeg P_high.toNatClampNeg P_heights) (w1X3_drawn ad cA S_asked P_wide P_high P_heights) := by
  intro l D
  unfold prX3_drawn at hq
  refine g_enteri (cc := cX3_drawn) (nL := 1) (ret := (some .int)) (by decide) rfl (Nat.le_of_ble_eq_true rfl) rfl (fun X C E => ?_)
  exact sgX3_drawn_0 C E ⟨hq, rfl⟩


abbrev w1X3_slack (ad : Nat → Nat) (cA : Nat → ClassId) (S_asked : Int64) (P_wide : Int32) (P_high : Int32) (P_heights : Nat → Int32) (P_pinned : Nat → Int32) (u : (Nat → Int32)) : va_W := [((ad 0), .inr (3, [.ref (ad 8), .ref (ad 1), .ref (ad 15), .long S_asked])), ((ad 15), .inr (2, [.ref (ad 16), .ref (ad 17), .ref (ad 18), .int P_wide, .int P_high])), ((ad 16), .inl (cA 0, 64, .inl P_heights)), ((ad 17), .inl (cA 2, 64, .inl P_pinned)), ((ad 18), .inl (cA 0, 4, .inl u))]
abbrev wcX3_slack (ad : Nat → Nat) (cA : Nat → ClassId) (S_asked : Int64) (P_wide : Int32) (P_high : Int32) (P_heights : Nat → Int32) (P_pinned : Nat → Int32) (P_near : Nat → Int32) : va_W := [((ad 0), .inr (3, [.ref (ad 8), .ref (ad 1), .ref (ad 15), .long S_asked])), ((ad 15), .inr (2, [.ref (ad 16), .ref (ad 17), .ref (ad 18), .int P_wide, .int P_high])), ((ad 16), .inl (cA 0, 64, .inl P_heights)), ((ad 17), .inl (cA 2, 64, .inl P_pinned)), ((ad 18), .inl (cA 0, 4, .inl P_near))]
def rmX3_slack : Room := { frames := 4, cells := 0, slots := 0, locals := 96 }
abbrev atX3_slack_0 (X : gX) (ad : Nat → Nat) (cA : Nat → ClassId) (S_asked : Int64) (P_wide : Int32) (P_high : Int32) (P_heights : Nat → Int32) (P_pinned : Nat → Int32) (P_near : Nat → Int32) : Prop := gW X 0 0 [((ad 0), .inr (3, [.ref (ad 8), .ref (ad 1), .ref (ad 15), .long S_asked])), ((ad 15), .inr (2, [.ref (ad 16), .ref (ad 17), .ref (ad 18), .int P_wide, .int P_high])), ((ad 16), .inl (cA 0, 64, .inl P_heights)), ((ad 17), .inl (cA 2, 64, .inl P_pinned)), ((ad 18), .inl (cA 0, 4, .inl P_near))] 1 [(0, .ref (ad 0))] [] 0
theorem giX3_slack_X3 : ∀ w ∈ u_ws RX3 TX3 4, w ∈ wsX3_slack := by decide +kernel
theorem gfX3_slack_24 : gF wsX3_slack RX3 24 3 2 RX3 TX3 4 := ⟨giX3_slack_X3, by decide +kernel, rfl, by decide⟩
set_option maxHeartbeats 4000000 in
set_option maxRecDepth 100000 in
theorem sgX3_slack_0 {X : gX} {ad : Nat → Nat} {cA : Nat → ClassId} {post : Int32 → ((Nat → Int32)) → Prop} {S_asked : Int64} {P_wide : Int32} {P_high : Int32} {P_heights : Nat → Int32} {P_pinned : Nat → Int32} {P_near : Nat → Int32} (C : gC X (gT cA) cX3_slack 1 RX3 wsX3_slack rmX3_slack) (E : gEi X (some .int) (gT cA) 0 0 post (w1X3_slack ad cA S_asked P_wide P_high P_heights P_pinned)) (h : prX2_sumOfChanges P_wide P_high P_heights P_pinned P_near ∧ ∀ (r_2 : Int32) (u2_P_near : Nat → Int32), po_X2_sumOfChanges ad cA P_wide P_high P_heights P_pinned P_near r_2 u2_P_near → post r_2 u2_P_near) : atX3_slack_0 X ad cA S_asked P_wide P_high P_heights P_pinned P_near := by
  refine g_aload_n C dX3_slack_0 rfl 0 rfl ?_
  refine g_get C gfX3_slack_24 0 rfl rfl dX3_slack_1 ?_
  obtain ⟨hi_1, h⟩ := h
  refine g_callVi (wr := [((ad 0), .inr (3, [.ref (ad 8), .ref (ad 1), .ref (ad 15), .long S_asked]))]) C (c_X2_sumOfChanges ad cA P_wide P_high P_heights P_pinned P_near hi_1) gX3_slack_X2_sumOfChanges rfl hde_X2_sumOfChanges ⟨rfl, rfl⟩ (by decide) (by decide) [1, 2, 3, 4] [0] [0, 1, 2, 3, 4] rfl rfl rfl rfl (by decide) rfl (ws2 := fun u => [((ad 0), .inr (3, [.ref (ad 8), .ref (ad 1), .ref (ad 15), .long S_asked])), ((ad 15), .inr (2, [.ref (ad 16), .ref (ad 17), .ref (ad 18), .int P_wide, .int P_high])), ((ad 16), .inl (cA 0, 64, .inl P_heights)), ((ad 17), .inl (cA 2, 64, .inl P_pinned)), ((ad 18), .inl (cA 0, 4, .inl u))]) (fun _ => rfl) 2 0 rfl rfl rfl (rest := []) rfl (Nat.le_of_ble_eq_true rfl) dX3_slack_4 (fun r_2 u_2 hp_2 => ?_)
  obtain ⟨u2_P_near, rfl⟩ : ∃ z, z = u_2 := ⟨_, rfl⟩
  replace h := h r_2 u2_P_near hp_2
  change gW X 0 0 [((ad 0), .inr (3, [.ref (ad 8), .ref (ad 1), .ref (ad 15), .long S_asked])), ((ad 15), .inr (2, [.ref (ad 16), .ref (ad 17), .ref (ad 18), .int P_wide, .int P_high])), ((ad 16), .inl (cA 0, 64, .inl P_heights)), ((ad 17), .inl (cA 2, 64, .inl P_pinned)), ((ad 18), .inl (cA 0, 4, .inl u2_P_near))] 1 [(0, .ref (ad 0))] [.int r_2] 7
  exact g_iret C E u2_P_near h rfl dX3_slack_7
def prX3_slack (S_asked : Int64) (P_wide : Int32) (P_high : Int32) (P_heights : Nat → Int32) (P_pinned : Nat → Int32) (P_near : Nat → Int32) : Prop := netOK P_wide P_high
def po_X3_slack (ad : Nat → Nat) (cA : Nat → ClassId) (S_asked : Int64) (P_wide : Int32) (P_high : Int32) (P_heights : Nat → Int32) (P_pinned : Nat → Int32) (P_near : Nat → Int32) (r : Int32) (u : (Nat → Int32)) : Prop := r = chg P_wide.toNatClampNeg P_high.toNatClampNeg P_pinned P_heights
set_option maxHeartbeats 4000000 in
set_option maxRecDepth 100000 in
theorem c_X3_slack (ad : Nat → Nat) (cA : Nat → ClassId) (S_asked : Int64) (P_wide : Int32) (P_high : Int32) (P_heights : Nat → Int32) (P_pinned : Nat → Int32) (P_near : Nat → Int32) (hq : prX3_slack S_asked P_wide P_high P_heights P_pinned P_near) : ∀ (l : Launch) (D : va_G), gMi (S := (Nat → Int32)) l yX3_slack wsX3_slack rmX3_slack D (gT cA) 0 0 [.ref (ad 0)] (wcX3_slack ad cA S_asked P_wide P_high P_heights P_pinned P_near) (po_X3_slack ad cA S_asked P_wide P_high P_heights P_pinned P_near) (w1X3_slack ad cA S_asked P_wide P_high P_heights P_pinned) := by
  intro l D
  unfold prX3_slack at hq
  refine g_enteri (cc := cX3_slack) (nL := 1) (ret := (some .int)) (by decide) rfl (Nat.le_of_ble_eq_true rfl) rfl (fun X C E => ?_)
  exact sgX3_slack_0 C E ⟨hq, fun r u hr => hr⟩


abbrev w1X3_rounds (ad : Nat → Nat) (cA : Nat → ClassId) (S_asked : Int64) (P_wide : Int32) (P_high : Int32) (P_pinned : Nat → Int32) (u : (Nat → Int32) × (Nat → Int32)) : va_W := [((ad 0), .inr (3, [.ref (ad 8), .ref (ad 1), .ref (ad 15), .long S_asked])), ((ad 15), .inr (2, [.ref (ad 16), .ref (ad 17), .ref (ad 18), .int P_wide, .int P_high])), ((ad 16), .inl (cA 0, 64, .inl u.1)), ((ad 17), .inl (cA 2, 64, .inl P_pinned)), ((ad 18), .inl (cA 0, 4, .inl u.2))]
abbrev wcX3_rounds (ad : Nat → Nat) (cA : Nat → ClassId) (S_asked : Int64) (P_wide : Int32) (P_high : Int32) (P_heights : Nat → Int32) (P_pinned : Nat → Int32) (P_near : Nat → Int32) : va_W := [((ad 0), .inr (3, [.ref (ad 8), .ref (ad 1), .ref (ad 15), .long S_asked])), ((ad 15), .inr (2, [.ref (ad 16), .ref (ad 17), .ref (ad 18), .int P_wide, .int P_high])), ((ad 16), .inl (cA 0, 64, .inl P_heights)), ((ad 17), .inl (cA 2, 64, .inl P_pinned)), ((ad 18), .inl (cA 0, 4, .inl P_near))]
def rmX3_rounds : Room := { frames := 5, cells := 0, slots := 0, locals := 116 }
abbrev atX3_rounds_0 (X : gX) (ad : Nat → Nat) (cA : Nat → ClassId) (p1 : Int32) (S_asked : Int64) (P_wide : Int32) (P_high : Int32) (P_heights : Nat → Int32) (P_pinned : Nat → Int32) (P_near : Nat → Int32) : Prop := gW X 0 0 [((ad 0), .inr (3, [.ref (ad 8), .ref (ad 1), .ref (ad 15), .long S_asked])), ((ad 15), .inr (2, [.ref (ad 16), .ref (ad 17), .ref (ad 18), .int P_wide, .int P_high])), ((ad 16), .inl (cA 0, 64, .inl P_heights)), ((ad 17), .inl (cA 2, 64, .inl P_pinned)), ((ad 18), .inl (cA 0, 4, .inl P_near))] 3 [(0, .ref (ad 0)), (1, .int p1)] [] 0
abbrev atX3_rounds_14 (X : gX) (ad : Nat → Nat) (cA : Nat → ClassId) (x1 : Int32) (x2 : Int32) (S_asked : Int64) (P_wide : Int32) (P_high : Int32) (P_heights : Nat → Int32) (P_pinned : Nat → Int32) (P_near : Nat → Int32) : Prop := gW X 0 0 [((ad 0), .inr (3, [.ref (ad 8), .ref (ad 1), .ref (ad 15), .long S_asked])), ((ad 15), .inr (2, [.ref (ad 16), .ref (ad 17), .ref (ad 18), .int P_wide, .int P_high])), ((ad 16), .inl (cA 0, 64, .inl P_heights)), ((ad 17), .inl (cA 2, 64, .inl P_pinned)), ((ad 18), .inl (cA 0, 4, .inl P_near))] 3 [(0, .ref (ad 0)), (1, .int x1), (2, .int x2)] [] 14
theorem giX3_rounds_X3 : ∀ w ∈ u_ws RX3 TX3 4, w ∈ wsX3_rounds := by decide +kernel
theorem gfX3_rounds_24 : gF wsX3_rounds RX3 24 3 2 RX3 TX3 4 := ⟨giX3_rounds_X3, by decide +kernel, rfl, by decide⟩
set_option maxHeartbeats 4000000 in
set_option maxRecDepth 100000 in
theorem sgX3_rounds_0 {X : gX} {ad : Nat → Nat} {cA : Nat → ClassId} {post : Int32 → ((Nat → Int32) × (Nat → Int32)) → Prop} {p1 : Int32} {S_asked : Int64} {P_wide : Int32} {P_high : Int32} {P_heights : Nat → Int32} {P_pinned : Nat → Int32} {P_near : Nat → Int32} (C : gC X (gT cA) cX3_rounds 3 RX3 wsX3_rounds rmX3_rounds) (E : gEi X (some .int) (gT cA) 0 0 post (w1X3_rounds ad cA S_asked P_wide P_high P_pinned)) (h : ((fnX3_within p1 (1 : Int32) (50 : Int32)) = true → atX3_rounds_14 X ad cA p1 (0 : Int32) S_asked P_wide P_high P_heights P_pinned P_near) ∧ ((fnX3_within p1 (1 : Int32) (50 : Int32)) = false → post (-1 : Int32) (P_heights, P_near))) : atX3_rounds_0 X ad cA p1 S_asked P_wide P_high P_heights P_pinned P_near := by
  refine g_iload_n C dX3_rounds_0 rfl 1 rfl ?_
  refine g_iconst C dX3_rounds_1 ik_1 ?_
  refine g_bipush C dX3_rounds_2 bk_50 ?_
  refine g_callSi (b := 0) (wr := [((ad 0), .inr (3, [.ref (ad 8), .ref (ad 1), .ref (ad 15), .long S_asked])), ((ad 15), .inr (2, [.ref (ad 16), .ref (ad 17), .ref (ad 18), .int P_wide, .int P_high])), ((ad 16), .inl (cA 0, 64, .inl P_heights)), ((ad 17), .inl (cA 2, 64, .inl P_pinned)), ((ad 18), .inl (cA 0, 4, .inl P_near))]) C (c_X3_within ad cA p1 (1 : Int32) (50 : Int32)) gX3_rounds_X3_within rfl hde_X3_within ⟨rfl, rfl⟩ (by decide) (by decide) [] [0, 1, 2, 3, 4] [0, 1, 2, 3, 4] rfl rfl rfl rfl (by decide) rfl (ws2 := fun u => [((ad 0), .inr (3, [.ref (ad 8), .ref (ad 1), .ref (ad 15), .long S_asked])), ((ad 15), .inr (2, [.ref (ad 16), .ref (ad 17), .ref (ad 18), .int P_wide, .int P_high])), ((ad 16), .inl (cA 0, 64, .inl P_heights)), ((ad 17), .inl (cA 2, 64, .inl P_pinned)), ((ad 18), .inl (cA 0, 4, .inl P_near))]) (fun _ => rfl) (rest := []) rfl (Nat.le_of_ble_eq_true rfl) dX3_rounds_4 (fun r_1 u_1 hp_1 => ?_)
  subst hp_1
  change gW X 0 0 [((ad 0), .inr (3, [.ref (ad 8), .ref (ad 1), .ref (ad 15), .long S_asked])), ((ad 15), .inr (2, [.ref (ad 16), .ref (ad 17), .ref (ad 18), .int P_wide, .int P_high])), ((ad 16), .inl (cA 0, 64, .inl P_heights)), ((ad 17), .inl (cA 2, 64, .inl P_pinned)), ((ad 18), .inl (cA 0, 4, .inl P_near))] 3 [(0, .ref (ad 0)), (1, .int p1)] [.int (bI (fnX3_within p1 (1 : Int32) (50 : Int32)))] 7
  refine g_ifne_b (tgt := 12) C dX3_rounds_7 (by decide) (fun c_2 => ?_) (fun c_2 => ?_)
  · replace h := h.1 c_2
    refine g_iconst C dX3_rounds_12 ik_0 ?_
    refine g_istore_n (lv2 := [(0, .ref (ad 0)), (1, .int p1), (2, .int (0 : Int32))]) C dX3_rounds_13 rfl (by decide) [1, 2, 0] rfl ?_
    exact g_lv [0, 1, 2] rfl h
  · replace h := h.2 c_2
    refine g_iconst C dX3_rounds_10 ik_m1 ?_
    exact g_iret C E (P_heights, P_near) h rfl dX3_rounds_11
set_option maxHeartbeats 4000000 in
set_option maxRecDepth 100000 in
theorem sgX3_rounds_14 {X : gX} {ad : Nat → Nat} {cA : Nat → ClassId} {post : Int32 → ((Nat → Int32) × (Nat → Int32)) → Prop} {x1 : Int32} {x2 : Int32} {S_asked : Int64} {P_wide : Int32} {P_high : Int32} {P_heights : Nat → Int32} {P_pinned : Nat → Int32} {P_near : Nat → Int32} (C : gC X (gT cA) cX3_rounds 3 RX3 wsX3_rounds rmX3_rounds) (E : gEi X (some .int) (gT cA) 0 0 post (w1X3_rounds ad cA S_asked P_wide P_high P_pinned)) (h : (x1 ≤ x2 → post x2 (P_heights, P_near)) ∧ (¬ x1 ≤ x2 → prX2_isAtRest P_wide P_high P_heights P_pinned P_near ∧ ∀ (r_5 : Int32) (u5_P_near : Nat → Int32), po_X2_isAtRest ad cA P_wide P_high P_heights P_pinned P_near r_5 u5_P_near → (¬ r_5 = 0 → post x2 (P_heights, u5_P_near)) ∧ (r_5 = 0 → prX2_stepAtEach P_wide P_high P_heights P_pinned u5_P_near ∧ ∀ (u8_P_heights : Nat → Int32) (u8_P_near : Nat → Int32), po_X2_stepAtEach ad cA P_wide P_high P_heights P_pinned u5_P_near (u8_P_heights, u8_P_near) → atX3_rounds_14 X ad cA x1 (x2 + 1) S_asked P_wide P_high u8_P_heights P_pinned u8_P_near))) : atX3_rounds_14 X ad cA x1 x2 S_asked P_wide P_high P_heights P_pinned P_near := by
  refine g_iload_n C dX3_rounds_14 rfl 2 rfl ?_
  refine g_iload_n C dX3_rounds_15 rfl 1 rfl ?_
  refine g_icmp_ge (tgt := 42) C dX3_rounds_16 (by decide) (fun c_3 => ?_) (fun c_3 => ?_)
  · replace h := h.1 c_3
    refine g_iload_n C dX3_rounds_42 rfl 2 rfl ?_
    exact g_iret C E (P_heights, P_near) h rfl dX3_rounds_43
  · replace h := h.2 c_3
    refine g_aload_n C dX3_rounds_19 rfl 0 rfl ?_
    refine g_get C gfX3_rounds_24 0 rfl rfl dX3_rounds_20 ?_
    obtain ⟨hi_4, h⟩ := h
    refine g_callVi (wr := [((ad 0), .inr (3, [.ref (ad 8), .ref (ad 1), .ref (ad 15), .long S_asked]))]) C (c_X2_isAtRest ad cA P_wide P_high P_heights P_pinned P_near hi_4) gX3_rounds_X2_isAtRest rfl hde_X2_isAtRest ⟨rfl, rfl⟩ (by decide) (by decide) [1, 2, 3, 4] [0] [0, 1, 2, 3, 4] rfl rfl rfl rfl (by decide) rfl (ws2 := fun u => [((ad 0), .inr (3, [.ref (ad 8), .ref (ad 1), .ref (ad 15), .long S_asked])), ((ad 15), .inr (2, [.ref (ad 16), .ref (ad 17), .ref (ad 18), .int P_wide, .int P_high])), ((ad 16), .inl (cA 0, 64, .inl P_heights)), ((ad 17), .inl (cA 2, 64, .inl P_pinned)), ((ad 18), .inl (cA 0, 4, .inl u))]) (fun _ => rfl) 2 0 rfl rfl rfl (rest := []) rfl (Nat.le_of_ble_eq_true rfl) dX3_rounds_23 (fun r_5 u_5 hp_5 => ?_)
    obtain ⟨u5_P_near, rfl⟩ : ∃ z, z = u_5 := ⟨_, rfl⟩
    replace h := h r_5 u5_P_near hp_5
    change gW X 0 0 [((ad 0), .inr (3, [.ref (ad 8), .ref (ad 1), .ref (ad 15), .long S_asked])), ((ad 15), .inr (2, [.ref (ad 16), .ref (ad 17), .ref (ad 18), .int P_wide, .int P_high])), ((ad 16), .inl (cA 0, 64, .inl P_heights)), ((ad 17), .inl (cA 2, 64, .inl P_pinned)), ((ad 18), .inl (cA 0, 4, .inl u5_P_near))] 3 [(0, .ref (ad 0)), (1, .int x1), (2, .int x2)] [.int r_5] 26
    refine g_if_ne (tgt := 42) C dX3_rounds_26 (by decide) (fun c_6 => ?_) (fun c_6 => ?_)
    · replace h := h.1 c_6
      refine g_iload_n C dX3_rounds_42 rfl 2 rfl ?_
      exact g_iret C E (P_heights, u5_P_near) h rfl dX3_rounds_43
    · replace h := h.2 c_6
      refine g_aload_n C dX3_rounds_29 rfl 0 rfl ?_
      refine g_get C gfX3_rounds_24 0 rfl rfl dX3_rounds_30 ?_
      obtain ⟨hi_7, h⟩ := h
      refine g_callVv (wr := [((ad 0), .inr (3, [.ref (ad 8), .ref (ad 1), .ref (ad 15), .long S_asked]))]) C (c_X2_stepAtEach ad cA P_wide P_high P_heights P_pinned u5_P_near hi_7) gX3_rounds_X2_stepAtEach rfl hde_X2_stepAtEach ⟨rfl, rfl⟩ (by decide) (by decide) [1, 2, 3, 4] [0] [0, 1, 2, 3, 4] rfl rfl rfl rfl (by decide) rfl (ws2 := fun u => [((ad 0), .inr (3, [.ref (ad 8), .ref (ad 1), .ref (ad 15), .long S_asked])), ((ad 15), .inr (2, [.ref (ad 16), .ref (ad 17), .ref (ad 18), .int P_wide, .int P_high])), ((ad 16), .inl (cA 0, 64, .inl u.1)), ((ad 17), .inl (cA 2, 64, .inl P_pinned)), ((ad 18), .inl (cA 0, 4, .inl u.2))]) (fun _ => rfl) 2 0 rfl rfl rfl (rest := []) rfl (Nat.le_of_ble_eq_true rfl) dX3_rounds_33 (fun u_8 hp_8 => ?_)
      obtain ⟨u8_P_heights, u8_P_near⟩ := u_8
      replace h := h u8_P_heights u8_P_near hp_8
      change gW X 0 0 [((ad 0), .inr (3, [.ref (ad 8), .ref (ad 1), .ref (ad 15), .long S_asked])), ((ad 15), .inr (2, [.ref (ad 16), .ref (ad 17), .ref (ad 18), .int P_wide, .int P_high])), ((ad 16), .inl (cA 0, 64, .inl u8_P_heights)), ((ad 17), .inl (cA 2, 64, .inl P_pinned)), ((ad 18), .inl (cA 0, 4, .inl u8_P_near))] 3 [(0, .ref (ad 0)), (1, .int x1), (2, .int x2)] [] 36
      refine g_iinc (v := (x2 + 1)) (lv2 := [(0, .ref (ad 0)), (1, .int x1), (2, .int (x2 + 1))]) C dX3_rounds_36 2 rfl (by first | rfl | decide) (by decide) [1, 2, 0] rfl ?_
      refine g_goto (tgt := 14) C dX3_rounds_39 (by decide) ?_
      exact g_lv [0, 1, 2] rfl h
def prX3_rounds (p1 : Int32) (S_asked : Int64) (P_wide : Int32) (P_high : Int32) (P_heights : Nat → Int32) (P_pinned : Nat → Int32) (P_near : Nat → Int32) : Prop := netOK P_wide P_high
def po_X3_rounds (ad : Nat → Nat) (cA : Nat → ClassId) (p1 : Int32) (S_asked : Int64) (P_wide : Int32) (P_high : Int32) (P_heights : Nat → Int32) (P_pinned : Nat → Int32) (P_near : Nat → Int32) (r : Int32) (u : (Nat → Int32) × (Nat → Int32)) : Prop := ((1 ≤ p1.toInt ∧ p1.toInt ≤ 50) → r = nI (rnd P_wide.toNatClampNeg P_high.toNatClampNeg P_pinned p1.toNatClampNeg P_heights).1 ∧ u.1 = (rnd P_wide.toNatClampNeg P_high.toNatClampNeg P_pinned p1.toNatClampNeg P_heights).2) ∧ (¬ (1 ≤ p1.toInt ∧ p1.toInt ≤ 50) → r = -1 ∧ u.1 = P_heights)
set_option maxHeartbeats 4000000 in
set_option maxRecDepth 100000 in
theorem c_X3_rounds (ad : Nat → Nat) (cA : Nat → ClassId) (p1 : Int32) (S_asked : Int64) (P_wide : Int32) (P_high : Int32) (P_heights : Nat → Int32) (P_pinned : Nat → Int32) (P_near : Nat → Int32) (hq : prX3_rounds p1 S_asked P_wide P_high P_heights P_pinned P_near) : ∀ (l : Launch) (D : va_G), gMi (S := (Nat → Int32) × (Nat → Int32)) l yX3_rounds wsX3_rounds rmX3_rounds D (gT cA) 0 0 [.ref (ad 0), .int p1] (wcX3_rounds ad cA S_asked P_wide P_high P_heights P_pinned P_near) (po_X3_rounds ad cA p1 S_asked P_wide P_high P_heights P_pinned P_near) (w1X3_rounds ad cA S_asked P_wide P_high P_pinned) := by
  intro l D
  unfold prX3_rounds at hq
  refine g_enteri (cc := cX3_rounds) (nL := 3) (ret := (some .int)) (by decide) rfl (Nat.le_of_ble_eq_true rfl) rfl (fun X C E => ?_)
  obtain ⟨w, h, hw2, hw, hh2, hh, rfl, rfl⟩ := hq
  refine sgX3_rounds_0 C E ⟨fun c => ?_, fun c => ⟨fun q => absurd q (wi_f c), fun _ => ⟨rfl, rfl⟩⟩⟩
  have c' : 1 ≤ p1.toInt ∧ p1.toInt ≤ 50 := wi_t c
  obtain ⟨n, hn, rfl⟩ := i_nat (n := 50) (by omega : 0 ≤ p1.toInt) c'.2
  have fin : ∀ r H B, r = nI (rnd w h P_pinned n P_heights).1 → H = (rnd w h P_pinned n P_heights).2 → po_X3_rounds ad cA (nI n) S_asked (nI w) (nI h) P_heights P_pinned P_near r (H, B) := by
    intro r H B e1 e2
    refine ⟨fun _ => ?_, fun q => absurd c' q⟩
    rw [nI_clamp (by omega), nI_clamp (by omega), nI_clamp (by omega)]
    exact ⟨e1, e2⟩
  have nk : netOK (nI w) (nI h) := ⟨w, h, hw2, hw, hh2, hh, rfl, rfl⟩
  have loop : ∀ (m d : Nat) (H B : Nat → Int32), d + m = n → d + (rnd w h P_pinned m H).1 = (rnd w h P_pinned n P_heights).1 → (rnd w h P_pinned m H).2 = (rnd w h P_pinned n P_heights).2 → atX3_rounds_14 X ad cA (nI n) (nI d) S_asked (nI w) (nI h) H P_pinned B := by
    intro m
    induction m with
    | zero =>
      intro d H B e e1 e2
      refine sgX3_rounds_14 C E ⟨fun _ => fin _ _ _ ?_ e2, fun c => absurd (nI_le (by omega) (by omega)) c⟩
      rw [← e1]; rfl
    | succ m ih =>
      intro d H B e e1 e2
      refine sgX3_rounds_14 C E ⟨fun c => absurd c (nI_ge (by omega) (by omega)), fun _ => ⟨nk, fun r B2 hr => ?_⟩⟩
      unfold po_X2_isAtRest at hr
      rw [nI_clamp (by omega), nI_clamp (by omega)] at hr
      rw [rnd] at e1 e2
      rw [hr, bI_0]
      refine ⟨fun c => fin _ _ _ ?_ ?_, fun c => ⟨nk, fun H2 B3 h2 => ?_⟩⟩
      · have c2 : chg w h P_pinned H = 0 := by
          by_cases q : chg w h P_pinned H = 0
          · exact q
          · exact absurd (decide_eq_false q) c
        rw [if_pos c2] at e1; rw [← e1]; rfl
      · have c2 : chg w h P_pinned H = 0 := by
          by_cases q : chg w h P_pinned H = 0
          · exact q
          · exact absurd (decide_eq_false q) c
        rw [if_pos c2] at e2; exact e2
      · have c2 := of_decide_eq_false c
        rw [if_neg c2] at e1 e2
        unfold po_X2_stepAtEach at h2
        rw [nI_clamp (by omega), nI_clamp (by omega)] at h2
        dsimp only at h2
        subst h2
        rw [nI_1 d]
        refine ih (d + 1) _ B3 (by omega) ?_ e2
        rw [← e1]
        show d + 1 + (rnd w h P_pinned m (stR w h P_pinned H)).1 = d + ((rnd w h P_pinned m (stR w h P_pinned H)).1 + 1)
        omega
  exact loop n 0 P_heights P_near (by omega) (by omega) rfl


abbrev w1X3_count (ad : Nat → Nat) (cA : Nat → ClassId) (S_asked : Int64) (C_size : Int32) (C_sides : Nat → Int32) (C_held : Nat → Int32) (P_wide : Int32) (P_high : Int32) (P_heights : Nat → Int32) (P_pinned : Nat → Int32) (u : (Nat → Int32)) : va_W := [((ad 0), .inr (3, [.ref (ad 8), .ref (ad 1), .ref (ad 15), .long S_asked])), ((ad 1), .inr (0, [.ref (ad 2), .ref (ad 3), .ref (ad 4), .ref (ad 5), .ref (ad 6), .ref (ad 7), .int C_size])), ((ad 2), .inl (cA 0, 3, .inl C_sides)), ((ad 3), .inl (cA 0, 36, .inl C_held)), ((ad 15), .inr (2, [.ref (ad 16), .ref (ad 17), .ref (ad 18), .int P_wide, .int P_high])), ((ad 16), .inl (cA 0, 64, .inl P_heights)), ((ad 17), .inl (cA 2, 64, .inl P_pinned)), ((ad 18), .inl (cA 0, 4, .inl u))]
abbrev wcX3_count (ad : Nat → Nat) (cA : Nat → ClassId) (S_asked : Int64) (C_size : Int32) (C_sides : Nat → Int32) (C_held : Nat → Int32) (P_wide : Int32) (P_high : Int32) (P_heights : Nat → Int32) (P_pinned : Nat → Int32) (P_near : Nat → Int32) : va_W := [((ad 0), .inr (3, [.ref (ad 8), .ref (ad 1), .ref (ad 15), .long S_asked])), ((ad 1), .inr (0, [.ref (ad 2), .ref (ad 3), .ref (ad 4), .ref (ad 5), .ref (ad 6), .ref (ad 7), .int C_size])), ((ad 2), .inl (cA 0, 3, .inl C_sides)), ((ad 3), .inl (cA 0, 36, .inl C_held)), ((ad 15), .inr (2, [.ref (ad 16), .ref (ad 17), .ref (ad 18), .int P_wide, .int P_high])), ((ad 16), .inl (cA 0, 64, .inl P_heights)), ((ad 17), .inl (cA 2, 64, .inl P_pinned)), ((ad 18), .inl (cA 0, 4, .inl P_near))]
def rmX3_count : Room := { frames := 5, cells := 0, slots := 0, locals := 116 }
abbrev atX3_count_0 (X : gX) (ad : Nat → Nat) (cA : Nat → ClassId) (p1 : Int32) (S_asked : Int64) (C_size : Int32) (C_sides : Nat → Int32) (C_held : Nat → Int32) (P_wide : Int32) (P_high : Int32) (P_heights : Nat → Int32) (P_pinned : Nat → Int32) (P_near : Nat → Int32) : Prop := gW X 0 0 [((ad 0), .inr (3, [.ref (ad 8), .ref (ad 1), .ref (ad 15), .long S_asked])), ((ad 1), .inr (0, [.ref (ad 2), .ref (ad 3), .ref (ad 4), .ref (ad 5), .ref (ad 6), .ref (ad 7), .int C_size])), ((ad 2), .inl (cA 0, 3, .inl C_sides)), ((ad 3), .inl (cA 0, 36, .inl C_held)), ((ad 15), .inr (2, [.ref (ad 16), .ref (ad 17), .ref (ad 18), .int P_wide, .int P_high])), ((ad 16), .inl (cA 0, 64, .inl P_heights)), ((ad 17), .inl (cA 2, 64, .inl P_pinned)), ((ad 18), .inl (cA 0, 4, .inl P_near))] 2 [(0, .ref (ad 0)), (1, .int p1)] [] 0
theorem giX3_count_X3 : ∀ w ∈ u_ws RX3 TX3 4, w ∈ wsX3_count := by decide +kernel
theorem gfX3_count_20 : gF wsX3_count RX3 20 3 1 RX3 TX3 4 := ⟨giX3_count_X3, by decide +kernel, rfl, by decide⟩
theorem giX3_count_X0 : ∀ w ∈ u_ws RX0 TX0 7, w ∈ wsX3_count := by decide +kernel
theorem gfX3_count_158 : gF wsX3_count RX3 158 0 0 RX0 TX0 7 := ⟨giX3_count_X0, by decide +kernel, rfl, by decide⟩
theorem gfX3_count_24 : gF wsX3_count RX3 24 3 2 RX3 TX3 4 := ⟨giX3_count_X3, by decide +kernel, rfl, by decide⟩
theorem giX3_count_X2 : ∀ w ∈ u_ws RX2 TX2 5, w ∈ wsX3_count := by decide +kernel
theorem gfX3_count_161 : gF wsX3_count RX3 161 2 3 RX2 TX2 5 := ⟨giX3_count_X2, by decide +kernel, rfl, by decide⟩
theorem gfX3_count_164 : gF wsX3_count RX3 164 2 4 RX2 TX2 5 := ⟨giX3_count_X2, by decide +kernel, rfl, by decide⟩
set_option maxHeartbeats 4000000 in
set_option maxRecDepth 100000 in
theorem sgX3_count_0 {X : gX} {ad : Nat → Nat} {cA : Nat → ClassId} {post : Int32 → ((Nat → Int32)) → Prop} {p1 : Int32} {S_asked : Int64} {C_size : Int32} {C_sides : Nat → Int32} {C_held : Nat → Int32} {P_wide : Int32} {P_high : Int32} {P_heights : Nat → Int32} {P_pinned : Nat → Int32} {P_near : Nat → Int32} (C : gC X (gT cA) cX3_count 2 RX3 wsX3_count rmX3_count) (E : gEi X (some .int) (gT cA) 0 0 post (w1X3_count ad cA S_asked C_size C_sides C_held P_wide P_high P_heights P_pinned)) (h : (p1 = 0 → vp_in p1 3 ∧ post (C_sides p1.toNatClampNeg) P_near) ∧ (p1 = 1 → vp_in p1 3 ∧ post (C_sides p1.toNatClampNeg) P_near) ∧ (p1 = 2 → vp_in p1 3 ∧ post (C_sides p1.toNatClampNeg) P_near) ∧ (p1 = 3 → prX0_freeCells C_size C_held ∧ post (nI (cntA C_size.toNatClampNeg (fun c => decide (C_held c = 0)))) P_near) ∧ (p1 = 4 → post P_wide P_near) ∧ (p1 = 5 → post P_high P_near) ∧ (p1 = 6 → prX2_pins P_wide P_high P_pinned ∧ post (pns P_wide.toNatClampNeg P_high.toNatClampNeg P_pinned) P_near) ∧ (p1 = 7 → prX2_isAtRest P_wide P_high P_heights P_pinned P_near ∧ ∀ (r_9 : Int32) (u9_P_near : Nat → Int32), po_X2_isAtRest ad cA P_wide P_high P_heights P_pinned P_near r_9 u9_P_near → (r_9 = 0 → post (0 : Int32) u9_P_near) ∧ (¬ r_9 = 0 → post (1 : Int32) u9_P_near)) ∧ ((p1.toInt < 0 ∨ 7 < p1.toInt) → post (-1 : Int32) P_near)) : atX3_count_0 X ad cA p1 S_asked C_size C_sides C_held P_wide P_high P_heights P_pinned P_near := by
  refine g_iload_n C dX3_count_0 rfl 1 rfl ?_
  refine g_tsw (tgd := 106) C dX3_count_1 (by decide) (fun j_ hj hx => ?_) (fun c_ => ?_)
  · rcases (show j_ = 0 ∨ j_ = 1 ∨ j_ = 2 ∨ j_ = 3 ∨ j_ = 4 ∨ j_ = 5 ∨ j_ = 6 ∨ j_ = 7 by omega) with rfl | rfl | rfl | rfl | rfl | rfl | rfl | rfl
    · refine ⟨47, 48, rfl, by decide, ?_⟩
      replace h := h.1 hx
      refine g_aload_n C dX3_count_48 rfl 0 rfl ?_
      refine g_get C gfX3_count_20 0 rfl rfl dX3_count_49 ?_
      refine g_get C gfX3_count_158 1 rfl rfl dX3_count_52 ?_
      refine g_iload_n C dX3_count_55 rfl 1 rfl ?_
      obtain ⟨hi_1, h⟩ := h
      refine g_iald C 2 0 rfl rfl hi_1 dX3_count_56 ?_
      exact g_iret C E P_near h rfl dX3_count_57
    · refine ⟨47, 48, rfl, by decide, ?_⟩
      replace h := h.2.1 hx
      refine g_aload_n C dX3_count_48 rfl 0 rfl ?_
      refine g_get C gfX3_count_20 0 rfl rfl dX3_count_49 ?_
      refine g_get C gfX3_count_158 1 rfl rfl dX3_count_52 ?_
      refine g_iload_n C dX3_count_55 rfl 1 rfl ?_
      obtain ⟨hi_2, h⟩ := h
      refine g_iald C 2 0 rfl rfl hi_2 dX3_count_56 ?_
      exact g_iret C E P_near h rfl dX3_count_57
    · refine ⟨47, 48, rfl, by decide, ?_⟩
      replace h := h.2.2.1 hx
      refine g_aload_n C dX3_count_48 rfl 0 rfl ?_
      refine g_get C gfX3_count_20 0 rfl rfl dX3_count_49 ?_
      refine g_get C gfX3_count_158 1 rfl rfl dX3_count_52 ?_
      refine g_iload_n C dX3_count_55 rfl 1 rfl ?_
      obtain ⟨hi_3, h⟩ := h
      refine g_iald C 2 0 rfl rfl hi_3 dX3_count_56 ?_
      exact g_iret C E P_near h rfl dX3_count_57
    · refine ⟨57, 58, rfl, by decide, ?_⟩
      replace h := h.2.2.2.1 hx
      refine g_aload_n C dX3_count_58 rfl 0 rfl ?_
      refine g_get C gfX3_count_20 0 rfl rfl dX3_count_59 ?_
      obtain ⟨hi_4, h⟩ := h
      refine g_callVi (wr := [((ad 0), .inr (3, [.ref (ad 8), .ref (ad 1), .ref (ad 15), .long S_asked])), ((ad 2), .inl (cA 0, 3, .inl C_sides)), ((ad 15), .inr (2, [.ref (ad 16), .ref (ad 17), .ref (ad 18), .int P_wide, .int P_high])), ((ad 16), .inl (cA 0, 64, .inl P_heights)), ((ad 17), .inl (cA 2, 64, .inl P_pinned)), ((ad 18), .inl (cA 0, 4, .inl P_near))]) C (c_X0_freeCells ad cA C_size C_held hi_4) gX3_count_X0_freeCells rfl hde_X0_freeCells ⟨rfl, rfl⟩ (by decide) (by decide) [1, 3] [0, 2, 4, 5, 6, 7] [0, 6, 1, 7, 2, 3, 4, 5] rfl rfl rfl rfl (by decide) rfl (ws2 := fun u => [((ad 0), .inr (3, [.ref (ad 8), .ref (ad 1), .ref (ad 15), .long S_asked])), ((ad 1), .inr (0, [.ref (ad 2), .ref (ad 3), .ref (ad 4), .ref (ad 5), .ref (ad 6), .ref (ad 7), .int C_size])), ((ad 2), .inl (cA 0, 3, .inl C_sides)), ((ad 3), .inl (cA 0, 36, .inl C_held)), ((ad 15), .inr (2, [.ref (ad 16), .ref (ad 17), .ref (ad 18), .int P_wide, .int P_high])), ((ad 16), .inl (cA 0, 64, .inl P_heights)), ((ad 17), .inl (cA 2, 64, .inl P_pinned)), ((ad 18), .inl (cA 0, 4, .inl P_near))]) (fun _ => rfl) 0 0 rfl rfl rfl (rest := []) rfl (Nat.le_of_ble_eq_true rfl) dX3_count_62 (fun r_5 u_5 hp_5 => ?_)
      subst hp_5
      change gW X 0 0 [((ad 0), .inr (3, [.ref (ad 8), .ref (ad 1), .ref (ad 15), .long S_asked])), ((ad 1), .inr (0, [.ref (ad 2), .ref (ad 3), .ref (ad 4), .ref (ad 5), .ref (ad 6), .ref (ad 7), .int C_size])), ((ad 2), .inl (cA 0, 3, .inl C_sides)), ((ad 3), .inl (cA 0, 36, .inl C_held)), ((ad 15), .inr (2, [.ref (ad 16), .ref (ad 17), .ref (ad 18), .int P_wide, .int P_high])), ((ad 16), .inl (cA 0, 64, .inl P_heights)), ((ad 17), .inl (cA 2, 64, .inl P_pinned)), ((ad 18), .inl (cA 0, 4, .inl P_near))] 2 [(0, .ref (ad 0)), (1, .int p1)] [.int (nI (cntA C_size.toNatClampNeg (fun c => decide (C_held c = 0))))] 65
      exact g_iret C E P_near h rfl dX3_count_65
    · refine ⟨65, 66, rfl, by decide, ?_⟩
      replace h := h.2.2.2.2.1 hx
      refine g_aload_n C dX3_count_66 rfl 0 rfl ?_
      refine g_get C gfX3_count_24 0 rfl rfl dX3_count_67 ?_
      refine g_get C gfX3_count_161 4 rfl rfl dX3_count_70 ?_
      exact g_iret C E P_near h rfl dX3_count_73
    · refine ⟨73, 74, rfl, by decide, ?_⟩
      replace h := h.2.2.2.2.2.1 hx
      refine g_aload_n C dX3_count_74 rfl 0 rfl ?_
      refine g_get C gfX3_count_24 0 rfl rfl dX3_count_75 ?_
      refine g_get C gfX3_count_164 4 rfl rfl dX3_count_78 ?_
      exact g_iret C E P_near h rfl dX3_count_81
    · refine ⟨81, 82, rfl, by decide, ?_⟩
      replace h := h.2.2.2.2.2.2.1 hx
      refine g_aload_n C dX3_count_82 rfl 0 rfl ?_
      refine g_get C gfX3_count_24 0 rfl rfl dX3_count_83 ?_
      obtain ⟨hi_6, h⟩ := h
      refine g_callVi (wr := [((ad 0), .inr (3, [.ref (ad 8), .ref (ad 1), .ref (ad 15), .long S_asked])), ((ad 1), .inr (0, [.ref (ad 2), .ref (ad 3), .ref (ad 4), .ref (ad 5), .ref (ad 6), .ref (ad 7), .int C_size])), ((ad 2), .inl (cA 0, 3, .inl C_sides)), ((ad 3), .inl (cA 0, 36, .inl C_held)), ((ad 16), .inl (cA 0, 64, .inl P_heights)), ((ad 18), .inl (cA 0, 4, .inl P_near))]) C (c_X2_pins ad cA P_wide P_high P_pinned hi_6) gX3_count_X2_pins rfl hde_X2_pins ⟨rfl, rfl⟩ (by decide) (by decide) [4, 6] [0, 1, 2, 3, 5, 7] [0, 1, 2, 3, 6, 4, 7, 5] rfl rfl rfl rfl (by decide) rfl (ws2 := fun u => [((ad 0), .inr (3, [.ref (ad 8), .ref (ad 1), .ref (ad 15), .long S_asked])), ((ad 1), .inr (0, [.ref (ad 2), .ref (ad 3), .ref (ad 4), .ref (ad 5), .ref (ad 6), .ref (ad 7), .int C_size])), ((ad 2), .inl (cA 0, 3, .inl C_sides)), ((ad 3), .inl (cA 0, 36, .inl C_held)), ((ad 15), .inr (2, [.ref (ad 16), .ref (ad 17), .ref (ad 18), .int P_wide, .int P_high])), ((ad 16), .inl (cA 0, 64, .inl P_heights)), ((ad 17), .inl (cA 2, 64, .inl P_pinned)), ((ad 18), .inl (cA 0, 4, .inl P_near))]) (fun _ => rfl) 2 0 rfl rfl rfl (rest := []) rfl (Nat.le_of_ble_eq_true rfl) dX3_count_86 (fun r_7 u_7 hp_7 => ?_)
      subst hp_7
      change gW X 0 0 [((ad 0), .inr (3, [.ref (ad 8), .ref (ad 1), .ref (ad 15), .long S_asked])), ((ad 1), .inr (0, [.ref (ad 2), .ref (ad 3), .ref (ad 4), .ref (ad 5), .ref (ad 6), .ref (ad 7), .int C_size])), ((ad 2), .inl (cA 0, 3, .inl C_sides)), ((ad 3), .inl (cA 0, 36, .inl C_held)), ((ad 15), .inr (2, [.ref (ad 16), .ref (ad 17), .ref (ad 18), .int P_wide, .int P_high])), ((ad 16), .inl (cA 0, 64, .inl P_heights)), ((ad 17), .inl (cA 2, 64, .inl P_pinned)), ((ad 18), .inl (cA 0, 4, .inl P_near))] 2 [(0, .ref (ad 0)), (1, .int p1)] [.int (pns P_wide.toNatClampNeg P_high.toNatClampNeg P_pinned)] 89
      exact g_iret C E P_near h rfl dX3_count_89
    · refine ⟨89, 90, rfl, by decide, ?_⟩
      replace h := h.2.2.2.2.2.2.2.1 hx
      refine g_aload_n C dX3_count_90 rfl 0 rfl ?_
      refine g_get C gfX3_count_24 0 rfl rfl dX3_count_91 ?_
      obtain ⟨hi_8, h⟩ := h
      refine g_callVi (wr := [((ad 0), .inr (3, [.ref (ad 8), .ref (ad 1), .ref (ad 15), .long S_asked])), ((ad 1), .inr (0, [.ref (ad 2), .ref (ad 3), .ref (ad 4), .ref (ad 5), .ref (ad 6), .ref (ad 7), .int C_size])), ((ad 2), .inl (cA 0, 3, .inl C_sides)), ((ad 3), .inl (cA 0, 36, .inl C_held))]) C (c_X2_isAtRest ad cA P_wide P_high P_heights P_pinned P_near hi_8) gX3_count_X2_isAtRest rfl hde_X2_isAtRest ⟨rfl, rfl⟩ (by decide) (by decide) [4, 5, 6, 7] [0, 1, 2, 3] [0, 1, 2, 3, 4, 5, 6, 7] rfl rfl rfl rfl (by decide) rfl (ws2 := fun u => [((ad 0), .inr (3, [.ref (ad 8), .ref (ad 1), .ref (ad 15), .long S_asked])), ((ad 1), .inr (0, [.ref (ad 2), .ref (ad 3), .ref (ad 4), .ref (ad 5), .ref (ad 6), .ref (ad 7), .int C_size])), ((ad 2), .inl (cA 0, 3, .inl C_sides)), ((ad 3), .inl (cA 0, 36, .inl C_held)), ((ad 15), .inr (2, [.ref (ad 16), .ref (ad 17), .ref (ad 18), .int P_wide, .int P_high])), ((ad 16), .inl (cA 0, 64, .inl P_heights)), ((ad 17), .inl (cA 2, 64, .inl P_pinned)), ((ad 18), .inl (cA 0, 4, .inl u))]) (fun _ => rfl) 2 0 rfl rfl rfl (rest := []) rfl (Nat.le_of_ble_eq_true rfl) dX3_count_94 (fun r_9 u_9 hp_9 => ?_)
      obtain ⟨u9_P_near, rfl⟩ : ∃ z, z = u_9 := ⟨_, rfl⟩
      replace h := h r_9 u9_P_near hp_9
      change gW X 0 0 [((ad 0), .inr (3, [.ref (ad 8), .ref (ad 1), .ref (ad 15), .long S_asked])), ((ad 1), .inr (0, [.ref (ad 2), .ref (ad 3), .ref (ad 4), .ref (ad 5), .ref (ad 6), .ref (ad 7), .int C_size])), ((ad 2), .inl (cA 0, 3, .inl C_sides)), ((ad 3), .inl (cA 0, 36, .inl C_held)), ((ad 15), .inr (2, [.ref (ad 16), .ref (ad 17), .ref (ad 18), .int P_wide, .int P_high])), ((ad 16), .inl (cA 0, 64, .inl P_heights)), ((ad 17), .inl (cA 2, 64, .inl P_pinned)), ((ad 18), .inl (cA 0, 4, .inl u9_P_near))] 2 [(0, .ref (ad 0)), (1, .int p1)] [.int r_9] 97
      refine g_if_eq (tgt := 104) C dX3_count_97 (by decide) (fun c_10 => ?_) (fun c_10 => ?_)
      · replace h := h.1 c_10
        refine g_iconst C dX3_count_104 ik_0 ?_
        exact g_iret C E u9_P_near h rfl dX3_count_105
      · replace h := h.2 c_10
        refine g_iconst C dX3_count_100 ik_1 ?_
        refine g_goto (tgt := 105) C dX3_count_101 (by decide) ?_
        exact g_iret C E u9_P_near h rfl dX3_count_105
  · replace h := h.2.2.2.2.2.2.2.2 c_
    refine g_iconst C dX3_count_106 ik_m1 ?_
    exact g_iret C E P_near h rfl dX3_count_107
def prX3_count (dx : Nat) (dy : Nat) (dz : Nat) (p1 : Int32) (S_asked : Int64) (C_size : Int32) (C_sides : Nat → Int32) (C_held : Nat → Int32) (P_wide : Int32) (P_high : Int32) (P_heights : Nat → Int32) (P_pinned : Nat → Int32) (P_near : Nat → Int32) : Prop := dimOK dx dy dz ∧ C_size = nI (dx * dy * dz) ∧ netOK P_wide P_high
def po_X3_count (ad : Nat → Nat) (cA : Nat → ClassId) (dx : Nat) (dy : Nat) (dz : Nat) (p1 : Int32) (S_asked : Int64) (C_size : Int32) (C_sides : Nat → Int32) (C_held : Nat → Int32) (P_wide : Int32) (P_high : Int32) (P_heights : Nat → Int32) (P_pinned : Nat → Int32) (P_near : Nat → Int32) (r : Int32) (u : (Nat → Int32)) : Prop := r = cntR C_sides (nI (cntA (dx * dy * dz) (fun c => decide (C_held c = 0)))) P_wide P_high (pns P_wide.toNatClampNeg P_high.toNatClampNeg P_pinned) (chg P_wide.toNatClampNeg P_high.toNatClampNeg P_pinned P_heights) p1
set_option maxHeartbeats 4000000 in
set_option maxRecDepth 100000 in
theorem c_X3_count (ad : Nat → Nat) (cA : Nat → ClassId) (dx : Nat) (dy : Nat) (dz : Nat) (p1 : Int32) (S_asked : Int64) (C_size : Int32) (C_sides : Nat → Int32) (C_held : Nat → Int32) (P_wide : Int32) (P_high : Int32) (P_heights : Nat → Int32) (P_pinned : Nat → Int32) (P_near : Nat → Int32) (hq : prX3_count dx dy dz p1 S_asked C_size C_sides C_held P_wide P_high P_heights P_pinned P_near) : ∀ (l : Launch) (D : va_G), gMi (S := (Nat → Int32)) l yX3_count wsX3_count rmX3_count D (gT cA) 0 0 [.ref (ad 0), .int p1] (wcX3_count ad cA S_asked C_size C_sides C_held P_wide P_high P_heights P_pinned P_near) (po_X3_count ad cA dx dy dz p1 S_asked C_size C_sides C_held P_wide P_high P_heights P_pinned P_near) (w1X3_count ad cA S_asked C_size C_sides C_held P_wide P_high P_heights P_pinned) := by
  intro l D
  unfold prX3_count at hq
  refine g_enteri (cc := cX3_count) (nL := 2) (ret := (some .int)) (by decide) rfl (Nat.le_of_ble_eq_true rfl) rfl (fun X C E => ?_)
  obtain ⟨hd, rfl, hn⟩ := hq
  have hV := hd.2.2.2.2.2.2
  have fin : ∀ r u, r = cntR C_sides (nI (cntA (dx * dy * dz) (fun c => decide (C_held c = 0)))) P_wide P_high (pns P_wide.toNatClampNeg P_high.toNatClampNeg P_pinned) (chg P_wide.toNatClampNeg P_high.toNatClampNeg P_pinned P_heights) p1 → po_X3_count ad cA dx dy dz p1 S_asked (nI (dx * dy * dz)) C_sides C_held P_wide P_high P_heights P_pinned P_near r u := fun r u e => e
  refine sgX3_count_0 C E ?_
  rw [nI_clamp (by omega)]
  refine ⟨fun e => ⟨by rw [e]; exact vi_0_3, fin _ _ (by rw [e]; rfl)⟩, fun e => ⟨by rw [e]; exact vi_1_3, fin _ _ (by rw [e]; rfl)⟩, fun e => ⟨by rw [e]; exact vi_2_3, fin _ _ (by rw [e]; rfl)⟩, fun e => ⟨⟨_, hV, rfl⟩, fin _ _ (by rw [e]; rfl)⟩, fun e => fin _ _ (by rw [e]; rfl), fun e => fin _ _ (by rw [e]; rfl), fun e => ⟨hn, fin _ _ (by rw [e]; rfl)⟩, fun e => ⟨hn, fun r B2 hr => ?_⟩, fun e => fin _ _ ?_⟩
  · unfold po_X2_isAtRest at hr
    rw [hr, bI_0]
    refine ⟨fun c => fin _ _ ?_, fun c => fin _ _ ?_⟩
    · rw [e]; show (0 : Int32) = if _ then 1 else 0; rw [if_neg (of_decide_eq_false c)]
    · rw [e]; show (1 : Int32) = if _ then 1 else 0
      rw [if_pos]
      by_cases q : chg P_wide.toNatClampNeg P_high.toNatClampNeg P_pinned P_heights = 0
      · exact q
      · exact absurd (decide_eq_false q) c
  · unfold cntR
    rw [if_neg (by rintro rfl; exact absurd e (by decide)), if_neg (by rintro rfl; exact absurd e (by decide)), if_neg (by rintro rfl; exact absurd e (by decide)), if_neg (by rintro rfl; exact absurd e (by decide)), if_neg (by rintro rfl; exact absurd e (by decide)), if_neg (by rintro rfl; exact absurd e (by decide)), if_neg (by rintro rfl; exact absurd e (by decide)), if_neg (by rintro rfl; exact absurd e (by decide))]


abbrev w1X3_trace (ad : Nat → Nat) (cA : Nat → ClassId) (S_asked : Int64) (u : Unit) : va_W := [((ad 0), .inr (3, [.ref (ad 8), .ref (ad 1), .ref (ad 15), .long S_asked]))]
abbrev wcX3_trace (ad : Nat → Nat) (cA : Nat → ClassId) (S_asked : Int64) : va_W := [((ad 0), .inr (3, [.ref (ad 8), .ref (ad 1), .ref (ad 15), .long S_asked]))]
def rmX3_trace : Room := { frames := 0, cells := 0, slots := 0, locals := 0 }
abbrev atX3_trace_0 (X : gX) (ad : Nat → Nat) (cA : Nat → ClassId) (S_asked : Int64) : Prop := gW X 0 0 [((ad 0), .inr (3, [.ref (ad 8), .ref (ad 1), .ref (ad 15), .long S_asked]))] 1 [(0, .ref (ad 0))] [] 0
theorem giX3_trace_X3 : ∀ w ∈ u_ws RX3 TX3 4, w ∈ wsX3_trace := by decide +kernel
theorem gfX3_trace_28 : gF wsX3_trace RX3 28 3 3 RX3 TX3 4 := ⟨giX3_trace_X3, by decide +kernel, rfl, by decide⟩
set_option maxHeartbeats 4000000 in
set_option maxRecDepth 100000 in
theorem sgX3_trace_0 {X : gX} {ad : Nat → Nat} {cA : Nat → ClassId} {post : Int64 → (Unit) → Prop} {S_asked : Int64} (C : gC X (gT cA) cX3_trace 1 RX3 wsX3_trace rmX3_trace) (E : gEl X (some .long) (gT cA) 0 0 post (w1X3_trace ad cA S_asked)) (h : post S_asked ()) : atX3_trace_0 X ad cA S_asked := by
  refine g_aload_n C dX3_trace_0 rfl 0 rfl ?_
  refine g_get C gfX3_trace_28 0 rfl rfl dX3_trace_1 ?_
  exact g_lret C E () h rfl dX3_trace_4
def fnX3_trace (S_asked : Int64) : Int64 := S_asked
set_option maxHeartbeats 4000000 in
set_option maxRecDepth 100000 in
theorem c_X3_trace (ad : Nat → Nat) (cA : Nat → ClassId) (S_asked : Int64) : ∀ (l : Launch) (D : va_G), gMl (S := Unit) l yX3_trace wsX3_trace rmX3_trace D (gT cA) 0 0 [.ref (ad 0)] (wcX3_trace ad cA S_asked) (fun r _ => r = fnX3_trace S_asked) (w1X3_trace ad cA S_asked) := by
  intro l D
  refine g_enterl (cc := cX3_trace) (nL := 1) (ret := (some .long)) (by decide) rfl (Nat.le_of_ble_eq_true rfl) rfl (fun X C E => sgX3_trace_0 C E ?_)
  exact (by unfold fnX3_trace; first | rfl | (simp only []; done) | (simp only []; rfl))
