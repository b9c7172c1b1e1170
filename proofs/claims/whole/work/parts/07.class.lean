theorem dJ6_bitCount_0f7a4_0 : decode cJ6_bitCount_0f7a4 0 = .ok (.iload_n 0, 1) := by decide +kernel
theorem dJ6_bitCount_0f7a4_1 : decode cJ6_bitCount_0f7a4 1 = .ok (.iload_n 0, 1) := by decide +kernel
theorem dJ6_bitCount_0f7a4_2 : decode cJ6_bitCount_0f7a4 2 = .ok (.iconst 1, 1) := by decide +kernel
theorem dJ6_bitCount_0f7a4_3 : decode cJ6_bitCount_0f7a4 3 = .ok (.iushr, 1) := by decide +kernel
theorem dJ6_bitCount_0f7a4_4 : decode cJ6_bitCount_0f7a4 4 = .ok (.ldc_w 265, 3) := by decide +kernel
theorem dJ6_bitCount_0f7a4_7 : decode cJ6_bitCount_0f7a4 7 = .ok (.iand, 1) := by decide +kernel
theorem dJ6_bitCount_0f7a4_8 : decode cJ6_bitCount_0f7a4 8 = .ok (.isub, 1) := by decide +kernel
theorem dJ6_bitCount_0f7a4_9 : decode cJ6_bitCount_0f7a4 9 = .ok (.istore_n 0, 1) := by decide +kernel
theorem dJ6_bitCount_0f7a4_10 : decode cJ6_bitCount_0f7a4 10 = .ok (.iload_n 0, 1) := by decide +kernel
theorem dJ6_bitCount_0f7a4_11 : decode cJ6_bitCount_0f7a4 11 = .ok (.ldc_w 266, 3) := by decide +kernel
theorem dJ6_bitCount_0f7a4_14 : decode cJ6_bitCount_0f7a4 14 = .ok (.iand, 1) := by decide +kernel
theorem dJ6_bitCount_0f7a4_15 : decode cJ6_bitCount_0f7a4 15 = .ok (.iload_n 0, 1) := by decide +kernel
theorem dJ6_bitCount_0f7a4_16 : decode cJ6_bitCount_0f7a4 16 = .ok (.iconst 2, 1) := by decide +kernel
theorem dJ6_bitCount_0f7a4_17 : decode cJ6_bitCount_0f7a4 17 = .ok (.iushr, 1) := by decide +kernel
theorem dJ6_bitCount_0f7a4_18 : decode cJ6_bitCount_0f7a4 18 = .ok (.ldc_w 266, 3) := by decide +kernel
theorem dJ6_bitCount_0f7a4_21 : decode cJ6_bitCount_0f7a4 21 = .ok (.iand, 1) := by decide +kernel
theorem dJ6_bitCount_0f7a4_22 : decode cJ6_bitCount_0f7a4 22 = .ok (.iadd, 1) := by decide +kernel
theorem dJ6_bitCount_0f7a4_23 : decode cJ6_bitCount_0f7a4 23 = .ok (.istore_n 0, 1) := by decide +kernel
theorem dJ6_bitCount_0f7a4_24 : decode cJ6_bitCount_0f7a4 24 = .ok (.iload_n 0, 1) := by decide +kernel
theorem dJ6_bitCount_0f7a4_25 : decode cJ6_bitCount_0f7a4 25 = .ok (.iload_n 0, 1) := by decide +kernel
theorem dJ6_bitCount_0f7a4_26 : decode cJ6_bitCount_0f7a4 26 = .ok (.iconst 4, 1) := by decide +kernel
theorem dJ6_bitCount_0f7a4_27 : decode cJ6_bitCount_0f7a4 27 = .ok (.iushr, 1) := by decide +kernel
theorem dJ6_bitCount_0f7a4_28 : decode cJ6_bitCount_0f7a4 28 = .ok (.iadd, 1) := by decide +kernel
theorem dJ6_bitCount_0f7a4_29 : decode cJ6_bitCount_0f7a4 29 = .ok (.ldc_w 267, 3) := by decide +kernel
theorem dJ6_bitCount_0f7a4_32 : decode cJ6_bitCount_0f7a4 32 = .ok (.iand, 1) := by decide +kernel
theorem dJ6_bitCount_0f7a4_33 : decode cJ6_bitCount_0f7a4 33 = .ok (.istore_n 0, 1) := by decide +kernel
theorem dJ6_bitCount_0f7a4_34 : decode cJ6_bitCount_0f7a4 34 = .ok (.iload_n 0, 1) := by decide +kernel
theorem dJ6_bitCount_0f7a4_35 : decode cJ6_bitCount_0f7a4 35 = .ok (.iload_n 0, 1) := by decide +kernel
theorem dJ6_bitCount_0f7a4_36 : decode cJ6_bitCount_0f7a4 36 = .ok (.bipush 8, 2) := by decide +kernel
theorem dJ6_bitCount_0f7a4_38 : decode cJ6_bitCount_0f7a4 38 = .ok (.iushr, 1) := by decide +kernel
theorem dJ6_bitCount_0f7a4_39 : decode cJ6_bitCount_0f7a4 39 = .ok (.iadd, 1) := by decide +kernel
theorem dJ6_bitCount_0f7a4_40 : decode cJ6_bitCount_0f7a4 40 = .ok (.istore_n 0, 1) := by decide +kernel
theorem dJ6_bitCount_0f7a4_41 : decode cJ6_bitCount_0f7a4 41 = .ok (.iload_n 0, 1) := by decide +kernel
theorem dJ6_bitCount_0f7a4_42 : decode cJ6_bitCount_0f7a4 42 = .ok (.iload_n 0, 1) := by decide +kernel
theorem dJ6_bitCount_0f7a4_43 : decode cJ6_bitCount_0f7a4 43 = .ok (.bipush 16, 2) := by decide +kernel
theorem dJ6_bitCount_0f7a4_45 : decode cJ6_bitCount_0f7a4 45 = .ok (.iushr, 1) := by decide +kernel
theorem dJ6_bitCount_0f7a4_46 : decode cJ6_bitCount_0f7a4 46 = .ok (.iadd, 1) := by decide +kernel
theorem dJ6_bitCount_0f7a4_47 : decode cJ6_bitCount_0f7a4 47 = .ok (.istore_n 0, 1) := by decide +kernel
theorem dJ6_bitCount_0f7a4_48 : decode cJ6_bitCount_0f7a4 48 = .ok (.iload_n 0, 1) := by decide +kernel
theorem dJ6_bitCount_0f7a4_49 : decode cJ6_bitCount_0f7a4 49 = .ok (.bipush 63, 2) := by decide +kernel
theorem dJ6_bitCount_0f7a4_51 : decode cJ6_bitCount_0f7a4 51 = .ok (.iand, 1) := by decide +kernel
theorem dJ6_bitCount_0f7a4_52 : decode cJ6_bitCount_0f7a4 52 = .ok (.ireturn, 1) := by decide +kernel
def f_J6_bitCount_0f7a4 (V : Mem) (a0 : Int32) : Option (Int32 × Mem) :=
  some (((((((((a0 - ((((a0 : Int32).toUInt32 >>> ((1 : Int32).toUInt32 &&& Int32.toUInt32 31)).toInt32) &&& 1431655765)) &&& 858993459) + (((((a0 - ((((a0 : Int32).toUInt32 >>> ((1 : Int32).toUInt32 &&& Int32.toUInt32 31)).toInt32) &&& 1431655765)) : Int32).toUInt32 >>> ((2 : Int32).toUInt32 &&& Int32.toUInt32 31)).toInt32) &&& 858993459)) + ((((((a0 - ((((a0 : Int32).toUInt32 >>> ((1 : Int32).toUInt32 &&& Int32.toUInt32 31)).toInt32) &&& 1431655765)) &&& 858993459) + (((((a0 - ((((a0 : Int32).toUInt32 >>> ((1 : Int32).toUInt32 &&& Int32.toUInt32 31)).toInt32) &&& 1431655765)) : Int32).toUInt32 >>> ((2 : Int32).toUInt32 &&& Int32.toUInt32 31)).toInt32) &&& 858993459)) : Int32).toUInt32 >>> ((4 : Int32).toUInt32 &&& Int32.toUInt32 31)).toInt32)) &&& 252645135) + ((((((((a0 - ((((a0 : Int32).toUInt32 >>> ((1 : Int32).toUInt32 &&& Int32.toUInt32 31)).toInt32) &&& 1431655765)) &&& 858993459) + (((((a0 - ((((a0 : Int32).toUInt32 >>> ((1 : Int32).toUInt32 &&& Int32.toUInt32 31)).toInt32) &&& 1431655765)) : Int32).toUInt32 >>> ((2 : Int32).toUInt32 &&& Int32.toUInt32 31)).toInt32) &&& 858993459)) + ((((((a0 - ((((a0 : Int32).toUInt32 >>> ((1 : Int32).toUInt32 &&& Int32.toUInt32 31)).toInt32) &&& 1431655765)) &&& 858993459) + (((((a0 - ((((a0 : Int32).toUInt32 >>> ((1 : Int32).toUInt32 &&& Int32.toUInt32 31)).toInt32) &&& 1431655765)) : Int32).toUInt32 >>> ((2 : Int32).toUInt32 &&& Int32.toUInt32 31)).toInt32) &&& 858993459)) : Int32).toUInt32 >>> ((4 : Int32).toUInt32 &&& Int32.toUInt32 31)).toInt32)) &&& 252645135) : Int32).toUInt32 >>> ((8 : Int32).toUInt32 &&& Int32.toUInt32 31)).toInt32)) + (((((((((a0 - ((((a0 : Int32).toUInt32 >>> ((1 : Int32).toUInt32 &&& Int32.toUInt32 31)).toInt32) &&& 1431655765)) &&& 858993459) + (((((a0 - ((((a0 : Int32).toUInt32 >>> ((1 : Int32).toUInt32 &&& Int32.toUInt32 31)).toInt32) &&& 1431655765)) : Int32).toUInt32 >>> ((2 : Int32).toUInt32 &&& Int32.toUInt32 31)).toInt32) &&& 858993459)) + ((((((a0 - ((((a0 : Int32).toUInt32 >>> ((1 : Int32).toUInt32 &&& Int32.toUInt32 31)).toInt32) &&& 1431655765)) &&& 858993459) + (((((a0 - ((((a0 : Int32).toUInt32 >>> ((1 : Int32).toUInt32 &&& Int32.toUInt32 31)).toInt32) &&& 1431655765)) : Int32).toUInt32 >>> ((2 : Int32).toUInt32 &&& Int32.toUInt32 31)).toInt32) &&& 858993459)) : Int32).toUInt32 >>> ((4 : Int32).toUInt32 &&& Int32.toUInt32 31)).toInt32)) &&& 252645135) + ((((((((a0 - ((((a0 : Int32).toUInt32 >>> ((1 : Int32).toUInt32 &&& Int32.toUInt32 31)).toInt32) &&& 1431655765)) &&& 858993459) + (((((a0 - ((((a0 : Int32).toUInt32 >>> ((1 : Int32).toUInt32 &&& Int32.toUInt32 31)).toInt32) &&& 1431655765)) : Int32).toUInt32 >>> ((2 : Int32).toUInt32 &&& Int32.toUInt32 31)).toInt32) &&& 858993459)) + ((((((a0 - ((((a0 : Int32).toUInt32 >>> ((1 : Int32).toUInt32 &&& Int32.toUInt32 31)).toInt32) &&& 1431655765)) &&& 858993459) + (((((a0 - ((((a0 : Int32).toUInt32 >>> ((1 : Int32).toUInt32 &&& Int32.toUInt32 31)).toInt32) &&& 1431655765)) : Int32).toUInt32 >>> ((2 : Int32).toUInt32 &&& Int32.toUInt32 31)).toInt32) &&& 858993459)) : Int32).toUInt32 >>> ((4 : Int32).toUInt32 &&& Int32.toUInt32 31)).toInt32)) &&& 252645135) : Int32).toUInt32 >>> ((8 : Int32).toUInt32 &&& Int32.toUInt32 31)).toInt32)) : Int32).toUInt32 >>> ((16 : Int32).toUInt32 &&& Int32.toUInt32 31)).toInt32)) &&& 63), V)
theorem cv_J6_bitCount_0f7a4 : CalS yJ6_bitCount_0f7a4 cJ6_bitCount_0f7a4 1 (some .int) 1 := ⟨⟨⟨by decide +kernel, by decide +kernel⟩, tw_1_26, tw_2_47, by decide +kernel⟩, tw_2_46⟩
set_option maxRecDepth 100000 in
set_option maxHeartbeats 4000000 in
theorem m_J6_bitCount_0f7a4 (l : Launch) (E : En) (ad : Nat → Nat) (V : Mem) (a0 : Int32) (r : Int32) (Vz : Mem) (hf : f_J6_bitCount_0f7a4 V a0 = some (r, Vz)) : MR l E ad yJ6_bitCount_0f7a4 cJ6_bitCount_0f7a4 1 (some .int) 1 [.int a0] V (some (.int r)) Vz := by
  refine ent (E := E) (ad := ad) (V := V) "java/lang/Integer" (by decide +kernel) rfl (Nat.le_of_ble_eq_true rfl) ?_
  intro p e s m below meth c ls hC hI hl
  have hx := hC.1
  have hb := hC.2.1
  have hl : lv_has ls 1 [(0, .int a0)] := hl
  unfold f_J6_bitCount_0f7a4 at hf
  refine lv_iload_n hx hb dJ6_bitCount_0f7a4_0 rfl (lv_at hl 0 rfl) ?_
  refine lv_iload_n hx hb dJ6_bitCount_0f7a4_1 rfl (lv_at hl 0 rfl) ?_
  refine lv_iconst (v := 1) hx hb dJ6_bitCount_0f7a4_2 rfl ?_
  refine lv_iushr hx hb dJ6_bitCount_0f7a4_3 rfl ?_
  refine lv_ldcw hx hb hC.2.2.2.1 (hC.2.2.2.2.1 _ tw_2_48) dJ6_bitCount_0f7a4_4 ?_
  refine lv_iand hx hb dJ6_bitCount_0f7a4_7 ?_
  refine lv_isub hx hb dJ6_bitCount_0f7a4_8 ?_
  refine lv_istore_n (lv' := [(0, .int (a0 - ((((a0 : Int32).toUInt32 >>> ((1 : Int32).toUInt32 &&& Int32.toUInt32 31)).toInt32) &&& 1431655765)))]) hx hb dJ6_bitCount_0f7a4_9 rfl hl (Nat.lt_of_lt_of_eq (by decide) rfl) rfl (fun ls hl => ?_)
  refine lv_iload_n hx hb dJ6_bitCount_0f7a4_10 rfl (lv_at hl 0 rfl) ?_
  refine lv_ldcw hx hb hC.2.2.2.1 (hC.2.2.2.2.1 _ tw_2_49) dJ6_bitCount_0f7a4_11 ?_
  refine lv_iand hx hb dJ6_bitCount_0f7a4_14 ?_
  refine lv_iload_n hx hb dJ6_bitCount_0f7a4_15 rfl (lv_at hl 0 rfl) ?_
  refine lv_iconst (v := 2) hx hb dJ6_bitCount_0f7a4_16 rfl ?_
  refine lv_iushr hx hb dJ6_bitCount_0f7a4_17 rfl ?_
  refine lv_ldcw hx hb hC.2.2.2.1 (hC.2.2.2.2.1 _ tw_2_49) dJ6_bitCount_0f7a4_18 ?_
  refine lv_iand hx hb dJ6_bitCount_0f7a4_21 ?_
  refine lv_iadd hx hb dJ6_bitCount_0f7a4_22 ?_
  refine lv_istore_n (lv' := [(0, .int (((a0 - ((((a0 : Int32).toUInt32 >>> ((1 : Int32).toUInt32 &&& Int32.toUInt32 31)).toInt32) &&& 1431655765)) &&& 858993459) + (((((a0 - ((((a0 : Int32).toUInt32 >>> ((1 : Int32).toUInt32 &&& Int32.toUInt32 31)).toInt32) &&& 1431655765)) : Int32).toUInt32 >>> ((2 : Int32).toUInt32 &&& Int32.toUInt32 31)).toInt32) &&& 858993459)))]) hx hb dJ6_bitCount_0f7a4_23 rfl hl (Nat.lt_of_lt_of_eq (by decide) rfl) rfl (fun ls hl => ?_)
  refine lv_iload_n hx hb dJ6_bitCount_0f7a4_24 rfl (lv_at hl 0 rfl) ?_
  refine lv_iload_n hx hb dJ6_bitCount_0f7a4_25 rfl (lv_at hl 0 rfl) ?_
  refine lv_iconst (v := 4) hx hb dJ6_bitCount_0f7a4_26 rfl ?_
  refine lv_iushr hx hb dJ6_bitCount_0f7a4_27 rfl ?_
  refine lv_iadd hx hb dJ6_bitCount_0f7a4_28 ?_
  refine lv_ldcw hx hb hC.2.2.2.1 (hC.2.2.2.2.1 _ tw_2_50) dJ6_bitCount_0f7a4_29 ?_
  refine lv_iand hx hb dJ6_bitCount_0f7a4_32 ?_
  refine lv_istore_n (lv' := [(0, .int (((((a0 - ((((a0 : Int32).toUInt32 >>> ((1 : Int32).toUInt32 &&& Int32.toUInt32 31)).toInt32) &&& 1431655765)) &&& 858993459) + (((((a0 - ((((a0 : Int32).toUInt32 >>> ((1 : Int32).toUInt32 &&& Int32.toUInt32 31)).toInt32) &&& 1431655765)) : Int32).toUInt32 >>> ((2 : Int32).toUInt32 &&& Int32.toUInt32 31)).toInt32) &&& 858993459)) + ((((((a0 - ((((a0 : Int32).toUInt32 >>> ((1 : Int32).toUInt32 &&& Int32.toUInt32 31)).toInt32) &&& 1431655765)) &&& 858993459) + (((((a0 - ((((a0 : Int32).toUInt32 >>> ((1 : Int32).toUInt32 &&& Int32.toUInt32 31)).toInt32) &&& 1431655765)) : Int32).toUInt32 >>> ((2 : Int32).toUInt32 &&& Int32.toUInt32 31)).toInt32) &&& 858993459)) : Int32).toUInt32 >>> ((4 : Int32).toUInt32 &&& Int32.toUInt32 31)).toInt32)) &&& 252645135))]) hx hb dJ6_bitCount_0f7a4_33 rfl hl (Nat.lt_of_lt_of_eq (by decide) rfl) rfl (fun ls hl => ?_)
  refine lv_iload_n hx hb dJ6_bitCount_0f7a4_34 rfl (lv_at hl 0 rfl) ?_
  refine lv_iload_n hx hb dJ6_bitCount_0f7a4_35 rfl (lv_at hl 0 rfl) ?_
  refine lv_bipush (v := 8) hx hb dJ6_bitCount_0f7a4_36 rfl ?_
  refine lv_iushr hx hb dJ6_bitCount_0f7a4_38 rfl ?_
  refine lv_iadd hx hb dJ6_bitCount_0f7a4_39 ?_
  refine lv_istore_n (lv' := [(0, .int ((((((a0 - ((((a0 : Int32).toUInt32 >>> ((1 : Int32).toUInt32 &&& Int32.toUInt32 31)).toInt32) &&& 1431655765)) &&& 858993459) + (((((a0 - ((((a0 : Int32).toUInt32 >>> ((1 : Int32).toUInt32 &&& Int32.toUInt32 31)).toInt32) &&& 1431655765)) : Int32).toUInt32 >>> ((2 : Int32).toUInt32 &&& Int32.toUInt32 31)).toInt32) &&& 858993459)) + ((((((a0 - ((((a0 : Int32).toUInt32 >>> ((1 : Int32).toUInt32 &&& Int32.toUInt32 31)).toInt32) &&& 1431655765)) &&& 858993459) + (((((a0 - ((((a0 : Int32).toUInt32 >>> ((1 : Int32).toUInt32 &&& Int32.toUInt32 31)).toInt32) &&& 1431655765)) : Int32).toUInt32 >>> ((2 : Int32).toUInt32 &&& Int32.toUInt32 31)).toInt32) &&& 858993459)) : Int32).toUInt32 >>> ((4 : Int32).toUInt32 &&& Int32.toUInt32 31)).toInt32)) &&& 252645135) + ((((((((a0 - ((((a0 : Int32).toUInt32 >>> ((1 : Int32).toUInt32 &&& Int32.toUInt32 31)).toInt32) &&& 1431655765)) &&& 858993459) + (((((a0 - ((((a0 : Int32).toUInt32 >>> ((1 : Int32).toUInt32 &&& Int32.toUInt32 31)).toInt32) &&& 1431655765)) : Int32).toUInt32 >>> ((2 : Int32).toUInt32 &&& Int32.toUInt32 31)).toInt32) &&& 858993459)) + ((((((a0 - ((((a0 : Int32).toUInt32 >>> ((1 : Int32).toUInt32 &&& Int32.toUInt32 31)).toInt32) &&& 1431655765)) &&& 858993459) + (((((a0 - ((((a0 : Int32).toUInt32 >>> ((1 : Int32).toUInt32 &&& Int32.toUInt32 31)).toInt32) &&& 1431655765)) : Int32).toUInt32 >>> ((2 : Int32).toUInt32 &&& Int32.toUInt32 31)).toInt32) &&& 858993459)) : Int32).toUInt32 >>> ((4 : Int32).toUInt32 &&& Int32.toUInt32 31)).toInt32)) &&& 252645135) : Int32).toUInt32 >>> ((8 : Int32).toUInt32 &&& Int32.toUInt32 31)).toInt32)))]) hx hb dJ6_bitCount_0f7a4_40 rfl hl (Nat.lt_of_lt_of_eq (by decide) rfl) rfl (fun ls hl => ?_)
  refine lv_iload_n hx hb dJ6_bitCount_0f7a4_41 rfl (lv_at hl 0 rfl) ?_
  refine lv_iload_n hx hb dJ6_bitCount_0f7a4_42 rfl (lv_at hl 0 rfl) ?_
  refine lv_bipush (v := 16) hx hb dJ6_bitCount_0f7a4_43 rfl ?_
  refine lv_iushr hx hb dJ6_bitCount_0f7a4_45 rfl ?_
  refine lv_iadd hx hb dJ6_bitCount_0f7a4_46 ?_
  refine lv_istore_n (lv' := [(0, .int (((((((a0 - ((((a0 : Int32).toUInt32 >>> ((1 : Int32).toUInt32 &&& Int32.toUInt32 31)).toInt32) &&& 1431655765)) &&& 858993459) + (((((a0 - ((((a0 : Int32).toUInt32 >>> ((1 : Int32).toUInt32 &&& Int32.toUInt32 31)).toInt32) &&& 1431655765)) : Int32).toUInt32 >>> ((2 : Int32).toUInt32 &&& Int32.toUInt32 31)).toInt32) &&& 858993459)) + ((((((a0 - ((((a0 : Int32).toUInt32 >>> ((1 : Int32).toUInt32 &&& Int32.toUInt32 31)).toInt32) &&& 1431655765)) &&& 858993459) + (((((a0 - ((((a0 : Int32).toUInt32 >>> ((1 : Int32).toUInt32 &&& Int32.toUInt32 31)).toInt32) &&& 1431655765)) : Int32).toUInt32 >>> ((2 : Int32).toUInt32 &&& Int32.toUInt32 31)).toInt32) &&& 858993459)) : Int32).toUInt32 >>> ((4 : Int32).toUInt32 &&& Int32.toUInt32 31)).toInt32)) &&& 252645135) + ((((((((a0 - ((((a0 : Int32).toUInt32 >>> ((1 : Int32).toUInt32 &&& Int32.toUInt32 31)).toInt32) &&& 1431655765)) &&& 858993459) + (((((a0 - ((((a0 : Int32).toUInt32 >>> ((1 : Int32).toUInt32 &&& Int32.toUInt32 31)).toInt32) &&& 1431655765)) : Int32).toUInt32 >>> ((2 : Int32).toUInt32 &&& Int32.toUInt32 31)).toInt32) &&& 858993459)) + ((((((a0 - ((((a0 : Int32).toUInt32 >>> ((1 : Int32).toUInt32 &&& Int32.toUInt32 31)).toInt32) &&& 1431655765)) &&& 858993459) + (((((a0 - ((((a0 : Int32).toUInt32 >>> ((1 : Int32).toUInt32 &&& Int32.toUInt32 31)).toInt32) &&& 1431655765)) : Int32).toUInt32 >>> ((2 : Int32).toUInt32 &&& Int32.toUInt32 31)).toInt32) &&& 858993459)) : Int32).toUInt32 >>> ((4 : Int32).toUInt32 &&& Int32.toUInt32 31)).toInt32)) &&& 252645135) : Int32).toUInt32 >>> ((8 : Int32).toUInt32 &&& Int32.toUInt32 31)).toInt32)) + (((((((((a0 - ((((a0 : Int32).toUInt32 >>> ((1 : Int32).toUInt32 &&& Int32.toUInt32 31)).toInt32) &&& 1431655765)) &&& 858993459) + (((((a0 - ((((a0 : Int32).toUInt32 >>> ((1 : Int32).toUInt32 &&& Int32.toUInt32 31)).toInt32) &&& 1431655765)) : Int32).toUInt32 >>> ((2 : Int32).toUInt32 &&& Int32.toUInt32 31)).toInt32) &&& 858993459)) + ((((((a0 - ((((a0 : Int32).toUInt32 >>> ((1 : Int32).toUInt32 &&& Int32.toUInt32 31)).toInt32) &&& 1431655765)) &&& 858993459) + (((((a0 - ((((a0 : Int32).toUInt32 >>> ((1 : Int32).toUInt32 &&& Int32.toUInt32 31)).toInt32) &&& 1431655765)) : Int32).toUInt32 >>> ((2 : Int32).toUInt32 &&& Int32.toUInt32 31)).toInt32) &&& 858993459)) : Int32).toUInt32 >>> ((4 : Int32).toUInt32 &&& Int32.toUInt32 31)).toInt32)) &&& 252645135) + ((((((((a0 - ((((a0 : Int32).toUInt32 >>> ((1 : Int32).toUInt32 &&& Int32.toUInt32 31)).toInt32) &&& 1431655765)) &&& 858993459) + (((((a0 - ((((a0 : Int32).toUInt32 >>> ((1 : Int32).toUInt32 &&& Int32.toUInt32 31)).toInt32) &&& 1431655765)) : Int32).toUInt32 >>> ((2 : Int32).toUInt32 &&& Int32.toUInt32 31)).toInt32) &&& 858993459)) + ((((((a0 - ((((a0 : Int32).toUInt32 >>> ((1 : Int32).toUInt32 &&& Int32.toUInt32 31)).toInt32) &&& 1431655765)) &&& 858993459) + (((((a0 - ((((a0 : Int32).toUInt32 >>> ((1 : Int32).toUInt32 &&& Int32.toUInt32 31)).toInt32) &&& 1431655765)) : Int32).toUInt32 >>> ((2 : Int32).toUInt32 &&& Int32.toUInt32 31)).toInt32) &&& 858993459)) : Int32).toUInt32 >>> ((4 : Int32).toUInt32 &&& Int32.toUInt32 31)).toInt32)) &&& 252645135) : Int32).toUInt32 >>> ((8 : Int32).toUInt32 &&& Int32.toUInt32 31)).toInt32)) : Int32).toUInt32 >>> ((16 : Int32).toUInt32 &&& Int32.toUInt32 31)).toInt32)))]) hx hb dJ6_bitCount_0f7a4_47 rfl hl (Nat.lt_of_lt_of_eq (by decide) rfl) rfl (fun ls hl => ?_)
  refine lv_iload_n hx hb dJ6_bitCount_0f7a4_48 rfl (lv_at hl 0 rfl) ?_
  refine lv_bipush (v := 63) hx hb dJ6_bitCount_0f7a4_49 rfl ?_
  refine lv_iand hx hb dJ6_bitCount_0f7a4_51 ?_
  exact r_iret2 hC hI hf dJ6_bitCount_0f7a4_52
theorem k_J6_bitCount_0f7a4 {p : Program} {l : Launch} {e : Env} {R : Room} {cells slots : Nat} {s : State} {m : MethodId} {args : Array Value} {below : List Frame} {meth : Method} {c : Code} {H : Heap} {locs : List Loc} {Q : State → Prop} {E : En} {ad : Nat → Nat} {V : Mem} {ow : String} {b : ByteArray} {n : Nat} {ret : Option FieldType} {pc index : Nat} {ls : Array Slot} {rest : List Value} {a0 : Int32} {r : Int32} {V1 : Mem} (hC : Cx p s m args c meth E ow b n ret) (hI : In E ad V s H locs) (hsz : ls.size = n) (hf : f_J6_bitCount_0f7a4 V a0 = some (r, V1)) (hl : Cond.methodLink ow index yJ6_bitCount_0f7a4 ∈ TB) (hR : 1 + 1 ≤ R.frames ∧ 8 + (1 + 11) + 40 * 1 ≤ R.locals) (hcs : cells ≤ R.cells ∧ slots ≤ R.slots) (hw : (rest.map fun v => v.category).sum ≤ 8) (hdg : decode b pc = .ok (.invokestatic index, 3)) (kk : ∀ (H1 : Heap) (locs1 : List Loc), In E ad V1 s H1 locs1 → W p l e R s m args below meth c H1 locs1 cells slots Q (F0 m (pc + 3) ls ((.int r) :: rest))) : W p l e R s m args below meth c H locs cells slots Q (F0 m pc ls (.int a0 :: rest)) :=
  r_calS (As := [.int a0]) (rest := rest) hC hI hsz (m_J6_bitCount_0f7a4 l E ad V a0 r _ hf) cv_J6_bitCount_0f7a4 hl rfl rfl hR hcs hw hdg kk
theorem kN_J6_bitCount_0f7a4 {p : Program} {l : Launch} {e : Env} {R : Room} {cells slots : Nat} {s : State} {m : MethodId} {args : Array Value} {below : List Frame} {meth : Method} {c : Code} {H : Heap} {locs : List Loc} {Q : State → Prop} {E : En} {ad : Nat → Nat} {V : Mem} {ow host : String} {b : ByteArray} {n : Nat} {ret : Option FieldType} {pc index : Nat} {ls : Array Slot} {rest : List Value} {a0 : Int32} {r : Int32} {V1 : Mem} (hC : Cx p s m args c meth E ow b n ret) (hI : In E ad V s H locs) (hsz : ls.size = n) (hf : f_J6_bitCount_0f7a4 V a0 = some (r, V1)) (hl : Cond.methodLinkNest ow index yJ6_bitCount_0f7a4 host ∈ NB) (hR : 1 + 1 ≤ R.frames ∧ 8 + (1 + 11) + 40 * 1 ≤ R.locals) (hcs : cells ≤ R.cells ∧ slots ≤ R.slots) (hw : (rest.map fun v => v.category).sum ≤ 8) (hdg : decode b pc = .ok (.invokestatic index, 3)) (kk : ∀ (H1 : Heap) (locs1 : List Loc), In E ad V1 s H1 locs1 → W p l e R s m args below meth c H1 locs1 cells slots Q (F0 m (pc + 3) ls ((.int r) :: rest))) : W p l e R s m args below meth c H locs cells slots Q (F0 m pc ls (.int a0 :: rest)) :=
  r_calSN (As := [.int a0]) (rest := rest) hC hI hsz (m_J6_bitCount_0f7a4 l E ad V a0 r _ hf) cv_J6_bitCount_0f7a4 hl rfl rfl hR hcs hw hdg kk

theorem dX9_isField_0 : decode cX9_isField 0 = .ok (.iload_n 0, 1) := by decide +kernel
theorem dX9_isField_1 : decode cX9_isField 1 = .ok (.ifCond .lt 13, 3) := by decide +kernel
theorem dX9_isField_4 : decode cX9_isField 4 = .ok (.iload_n 0, 1) := by decide +kernel
theorem dX9_isField_5 : decode cX9_isField 5 = .ok (.bipush 8, 2) := by decide +kernel
theorem dX9_isField_7 : decode cX9_isField 7 = .ok (.if_icmp .ge 7, 3) := by decide +kernel
theorem dX9_isField_10 : decode cX9_isField 10 = .ok (.iconst 1, 1) := by decide +kernel
theorem dX9_isField_11 : decode cX9_isField 11 = .ok (.goto 4, 3) := by decide +kernel
theorem dX9_isField_14 : decode cX9_isField 14 = .ok (.iconst 0, 1) := by decide +kernel
theorem dX9_isField_15 : decode cX9_isField 15 = .ok (.ireturn, 1) := by decide +kernel
def f_X9_isField (V : Mem) (a0 : Int32) : Option (Int32 × Mem) :=
  if a0 < 0 then
    some (0, V)
  else
    if 8 ≤ a0 then
      some (0, V)
    else
      some (1, V)
theorem cv_X9_isField : CalS yX9_isField cX9_isField 1 (some .boolean) 1 := ⟨⟨⟨by decide +kernel, by decide +kernel⟩, tw_1_1, tw_2_229, by decide +kernel⟩, tw_2_228⟩
set_option maxRecDepth 100000 in
set_option maxHeartbeats 4000000 in
theorem m_X9_isField (l : Launch) (E : En) (ad : Nat → Nat) (V : Mem) (a0 : Int32) (r : Int32) (Vz : Mem) (hf : f_X9_isField V a0 = some (r, Vz)) : MR l E ad yX9_isField cX9_isField 1 (some .boolean) 1 [.int a0] V (some (.int r)) Vz := by
  refine ent (E := E) (ad := ad) (V := V) "LetterRepository" (by decide +kernel) rfl (Nat.le_of_ble_eq_true rfl) ?_
  intro p e s m below meth c ls hC hI hl
  have hx := hC.1
  have hb := hC.2.1
  have hl : lv_has ls 1 [(0, .int a0)] := hl
  unfold f_X9_isField at hf
  refine lv_iload_n hx hb dX9_isField_0 rfl (lv_at hl 0 rfl) ?_
  refine lv_if_lt (tgt := 14) hx hb dX9_isField_1 (by decide) (fun c1 => ?_) (fun c1 => ?_)
  · have hf := gt hf c1
    refine lv_iconst (v := 0) hx hb dX9_isField_14 rfl ?_
    exact r_zret2 hC hI (.inl rfl) hf dX9_isField_15
  · have hf := gf hf c1
    refine lv_iload_n hx hb dX9_isField_4 rfl (lv_at hl 0 rfl) ?_
    refine lv_bipush (v := 8) hx hb dX9_isField_5 rfl ?_
    refine lv_icmp_ge (tgt := 14) hx hb dX9_isField_7 (by decide) (fun c7 => ?_) (fun c7 => ?_)
    · have hf := gt hf c7
      refine lv_iconst (v := 0) hx hb dX9_isField_14 rfl ?_
      exact r_zret2 hC hI (.inl rfl) hf dX9_isField_15
    · have hf := gf hf c7
      refine lv_iconst (v := 1) hx hb dX9_isField_10 rfl ?_
      refine lv_goto (tgt := 15) hx hb dX9_isField_11 (by decide) ?_
      exact r_zret2 hC hI (.inr rfl) hf dX9_isField_15
theorem k_X9_isField {p : Program} {l : Launch} {e : Env} {R : Room} {cells slots : Nat} {s : State} {m : MethodId} {args : Array Value} {below : List Frame} {meth : Method} {c : Code} {H : Heap} {locs : List Loc} {Q : State → Prop} {E : En} {ad : Nat → Nat} {V : Mem} {ow : String} {b : ByteArray} {n : Nat} {ret : Option FieldType} {pc index : Nat} {ls : Array Slot} {rest : List Value} {a0 : Int32} {r : Int32} {V1 : Mem} (hC : Cx p s m args c meth E ow b n ret) (hI : In E ad V s H locs) (hsz : ls.size = n) (hf : f_X9_isField V a0 = some (r, V1)) (hl : Cond.methodLink ow index yX9_isField ∈ TB) (hR : 1 + 1 ≤ R.frames ∧ 8 + (1 + 11) + 40 * 1 ≤ R.locals) (hcs : cells ≤ R.cells ∧ slots ≤ R.slots) (hw : (rest.map fun v => v.category).sum ≤ 8) (hdg : decode b pc = .ok (.invokestatic index, 3)) (kk : ∀ (H1 : Heap) (locs1 : List Loc), In E ad V1 s H1 locs1 → W p l e R s m args below meth c H1 locs1 cells slots Q (F0 m (pc + 3) ls ((.int r) :: rest))) : W p l e R s m args below meth c H locs cells slots Q (F0 m pc ls (.int a0 :: rest)) :=
  r_calS (As := [.int a0]) (rest := rest) hC hI hsz (m_X9_isField l E ad V a0 r _ hf) cv_X9_isField hl rfl rfl hR hcs hw hdg kk
theorem kN_X9_isField {p : Program} {l : Launch} {e : Env} {R : Room} {cells slots : Nat} {s : State} {m : MethodId} {args : Array Value} {below : List Frame} {meth : Method} {c : Code} {H : Heap} {locs : List Loc} {Q : State → Prop} {E : En} {ad : Nat → Nat} {V : Mem} {ow host : String} {b : ByteArray} {n : Nat} {ret : Option FieldType} {pc index : Nat} {ls : Array Slot} {rest : List Value} {a0 : Int32} {r : Int32} {V1 : Mem} (hC : Cx p s m args c meth E ow b n ret) (hI : In E ad V s H locs) (hsz : ls.size = n) (hf : f_X9_isField V a0 = some (r, V1)) (hl : Cond.methodLinkNest ow index yX9_isField host ∈ NB) (hR : 1 + 1 ≤ R.frames ∧ 8 + (1 + 11) + 40 * 1 ≤ R.locals) (hcs : cells ≤ R.cells ∧ slots ≤ R.slots) (hw : (rest.map fun v => v.category).sum ≤ 8) (hdg : decode b pc = .ok (.invokestatic index, 3)) (kk : ∀ (H1 : Heap) (locs1 : List Loc), In E ad V1 s H1 locs1 → W p l e R s m args below meth c H1 locs1 cells slots Q (F0 m (pc + 3) ls ((.int r) :: rest))) : W p l e R s m args below meth c H locs cells slots Q (F0 m pc ls (.int a0 :: rest)) :=
  r_calSN (As := [.int a0]) (rest := rest) hC hI hsz (m_X9_isField l E ad V a0 r _ hf) cv_X9_isField hl rfl rfl hR hcs hw hdg kk

theorem dX9_isAuthor_0 : decode cX9_isAuthor 0 = .ok (.iload_n 0, 1) := by decide +kernel
theorem dX9_isAuthor_1 : decode cX9_isAuthor 1 = .ok (.ifCond .lt 13, 3) := by decide +kernel
theorem dX9_isAuthor_4 : decode cX9_isAuthor 4 = .ok (.iload_n 0, 1) := by decide +kernel
theorem dX9_isAuthor_5 : decode cX9_isAuthor 5 = .ok (.bipush 10, 2) := by decide +kernel
theorem dX9_isAuthor_7 : decode cX9_isAuthor 7 = .ok (.if_icmp .ge 7, 3) := by decide +kernel
theorem dX9_isAuthor_10 : decode cX9_isAuthor 10 = .ok (.iconst 1, 1) := by decide +kernel
theorem dX9_isAuthor_11 : decode cX9_isAuthor 11 = .ok (.goto 4, 3) := by decide +kernel
theorem dX9_isAuthor_14 : decode cX9_isAuthor 14 = .ok (.iconst 0, 1) := by decide +kernel
theorem dX9_isAuthor_15 : decode cX9_isAuthor 15 = .ok (.ireturn, 1) := by decide +kernel
def f_X9_isAuthor (V : Mem) (a0 : Int32) : Option (Int32 × Mem) :=
  if a0 < 0 then
    some (0, V)
  else
    if 10 ≤ a0 then
      some (0, V)
    else
      some (1, V)
theorem cv_X9_isAuthor : CalS yX9_isAuthor cX9_isAuthor 1 (some .boolean) 1 := ⟨⟨⟨by decide +kernel, by decide +kernel⟩, tw_1_1, tw_3_184, by decide +kernel⟩, tw_3_183⟩
set_option maxRecDepth 100000 in
set_option maxHeartbeats 4000000 in
theorem m_X9_isAuthor (l : Launch) (E : En) (ad : Nat → Nat) (V : Mem) (a0 : Int32) (r : Int32) (Vz : Mem) (hf : f_X9_isAuthor V a0 = some (r, Vz)) : MR l E ad yX9_isAuthor cX9_isAuthor 1 (some .boolean) 1 [.int a0] V (some (.int r)) Vz := by
  refine ent (E := E) (ad := ad) (V := V) "LetterRepository" (by decide +kernel) rfl (Nat.le_of_ble_eq_true rfl) ?_
  intro p e s m below meth c ls hC hI hl
  have hx := hC.1
  have hb := hC.2.1
  have hl : lv_has ls 1 [(0, .int a0)] := hl
  unfold f_X9_isAuthor at hf
  refine lv_iload_n hx hb dX9_isAuthor_0 rfl (lv_at hl 0 rfl) ?_
  refine lv_if_lt (tgt := 14) hx hb dX9_isAuthor_1 (by decide) (fun c1 => ?_) (fun c1 => ?_)
  · have hf := gt hf c1
    refine lv_iconst (v := 0) hx hb dX9_isAuthor_14 rfl ?_
    exact r_zret2 hC hI (.inl rfl) hf dX9_isAuthor_15
  · have hf := gf hf c1
    refine lv_iload_n hx hb dX9_isAuthor_4 rfl (lv_at hl 0 rfl) ?_
    refine lv_bipush (v := 10) hx hb dX9_isAuthor_5 rfl ?_
    refine lv_icmp_ge (tgt := 14) hx hb dX9_isAuthor_7 (by decide) (fun c7 => ?_) (fun c7 => ?_)
    · have hf := gt hf c7
      refine lv_iconst (v := 0) hx hb dX9_isAuthor_14 rfl ?_
      exact r_zret2 hC hI (.inl rfl) hf dX9_isAuthor_15
    · have hf := gf hf c7
      refine lv_iconst (v := 1) hx hb dX9_isAuthor_10 rfl ?_
      refine lv_goto (tgt := 15) hx hb dX9_isAuthor_11 (by decide) ?_
      exact r_zret2 hC hI (.inr rfl) hf dX9_isAuthor_15
theorem k_X9_isAuthor {p : Program} {l : Launch} {e : Env} {R : Room} {cells slots : Nat} {s : State} {m : MethodId} {args : Array Value} {below : List Frame} {meth : Method} {c : Code} {H : Heap} {locs : List Loc} {Q : State → Prop} {E : En} {ad : Nat → Nat} {V : Mem} {ow : String} {b : ByteArray} {n : Nat} {ret : Option FieldType} {pc index : Nat} {ls : Array Slot} {rest : List Value} {a0 : Int32} {r : Int32} {V1 : Mem} (hC : Cx p s m args c meth E ow b n ret) (hI : In E ad V s H locs) (hsz : ls.size = n) (hf : f_X9_isAuthor V a0 = some (r, V1)) (hl : Cond.methodLink ow index yX9_isAuthor ∈ TB) (hR : 1 + 1 ≤ R.frames ∧ 8 + (1 + 11) + 40 * 1 ≤ R.locals) (hcs : cells ≤ R.cells ∧ slots ≤ R.slots) (hw : (rest.map fun v => v.category).sum ≤ 8) (hdg : decode b pc = .ok (.invokestatic index, 3)) (kk : ∀ (H1 : Heap) (locs1 : List Loc), In E ad V1 s H1 locs1 → W p l e R s m args below meth c H1 locs1 cells slots Q (F0 m (pc + 3) ls ((.int r) :: rest))) : W p l e R s m args below meth c H locs cells slots Q (F0 m pc ls (.int a0 :: rest)) :=
  r_calS (As := [.int a0]) (rest := rest) hC hI hsz (m_X9_isAuthor l E ad V a0 r _ hf) cv_X9_isAuthor hl rfl rfl hR hcs hw hdg kk
theorem kN_X9_isAuthor {p : Program} {l : Launch} {e : Env} {R : Room} {cells slots : Nat} {s : State} {m : MethodId} {args : Array Value} {below : List Frame} {meth : Method} {c : Code} {H : Heap} {locs : List Loc} {Q : State → Prop} {E : En} {ad : Nat → Nat} {V : Mem} {ow host : String} {b : ByteArray} {n : Nat} {ret : Option FieldType} {pc index : Nat} {ls : Array Slot} {rest : List Value} {a0 : Int32} {r : Int32} {V1 : Mem} (hC : Cx p s m args c meth E ow b n ret) (hI : In E ad V s H locs) (hsz : ls.size = n) (hf : f_X9_isAuthor V a0 = some (r, V1)) (hl : Cond.methodLinkNest ow index yX9_isAuthor host ∈ NB) (hR : 1 + 1 ≤ R.frames ∧ 8 + (1 + 11) + 40 * 1 ≤ R.locals) (hcs : cells ≤ R.cells ∧ slots ≤ R.slots) (hw : (rest.map fun v => v.category).sum ≤ 8) (hdg : decode b pc = .ok (.invokestatic index, 3)) (kk : ∀ (H1 : Heap) (locs1 : List Loc), In E ad V1 s H1 locs1 → W p l e R s m args below meth c H1 locs1 cells slots Q (F0 m (pc + 3) ls ((.int r) :: rest))) : W p l e R s m args below meth c H locs cells slots Q (F0 m pc ls (.int a0 :: rest)) :=
  r_calSN (As := [.int a0]) (rest := rest) hC hI hsz (m_X9_isAuthor l E ad V a0 r _ hf) cv_X9_isAuthor hl rfl rfl hR hcs hw hdg kk

theorem dX9_isSmall_0 : decode cX9_isSmall 0 = .ok (.iload_n 0, 1) := by decide +kernel
theorem dX9_isSmall_1 : decode cX9_isSmall 1 = .ok (.bipush 97, 2) := by decide +kernel
theorem dX9_isSmall_3 : decode cX9_isSmall 3 = .ok (.if_icmp .lt 13, 3) := by decide +kernel
theorem dX9_isSmall_6 : decode cX9_isSmall 6 = .ok (.iload_n 0, 1) := by decide +kernel
theorem dX9_isSmall_7 : decode cX9_isSmall 7 = .ok (.bipush 122, 2) := by decide +kernel
theorem dX9_isSmall_9 : decode cX9_isSmall 9 = .ok (.if_icmp .gt 7, 3) := by decide +kernel
theorem dX9_isSmall_12 : decode cX9_isSmall 12 = .ok (.iconst 1, 1) := by decide +kernel
theorem dX9_isSmall_13 : decode cX9_isSmall 13 = .ok (.goto 4, 3) := by decide +kernel
theorem dX9_isSmall_16 : decode cX9_isSmall 16 = .ok (.iconst 0, 1) := by decide +kernel
theorem dX9_isSmall_17 : decode cX9_isSmall 17 = .ok (.ireturn, 1) := by decide +kernel
def f_X9_isSmall (V : Mem) (a0 : Int32) : Option (Int32 × Mem) :=
  if a0 < 97 then
    some (0, V)
  else
    if 122 < a0 then
      some (0, V)
    else
      some (1, V)
theorem cv_X9_isSmall : CalS yX9_isSmall cX9_isSmall 1 (some .boolean) 1 := ⟨⟨⟨by decide +kernel, by decide +kernel⟩, tw_1_1, tw_2_234, by decide +kernel⟩, tw_2_233⟩
set_option maxRecDepth 100000 in
set_option maxHeartbeats 4000000 in
theorem m_X9_isSmall (l : Launch) (E : En) (ad : Nat → Nat) (V : Mem) (a0 : Int32) (r : Int32) (Vz : Mem) (hf : f_X9_isSmall V a0 = some (r, Vz)) : MR l E ad yX9_isSmall cX9_isSmall 1 (some .boolean) 1 [.int a0] V (some (.int r)) Vz := by
  refine ent (E := E) (ad := ad) (V := V) "LetterRepository" (by decide +kernel) rfl (Nat.le_of_ble_eq_true rfl) ?_
  intro p e s m below meth c ls hC hI hl
  have hx := hC.1
  have hb := hC.2.1
  have hl : lv_has ls 1 [(0, .int a0)] := hl
  unfold f_X9_isSmall at hf
  refine lv_iload_n hx hb dX9_isSmall_0 rfl (lv_at hl 0 rfl) ?_
  refine lv_bipush (v := 97) hx hb dX9_isSmall_1 rfl ?_
  refine lv_icmp_lt (tgt := 16) hx hb dX9_isSmall_3 (by decide) (fun c3 => ?_) (fun c3 => ?_)
  · have hf := gt hf c3
    refine lv_iconst (v := 0) hx hb dX9_isSmall_16 rfl ?_
    exact r_zret2 hC hI (.inl rfl) hf dX9_isSmall_17
  · have hf := gf hf c3
    refine lv_iload_n hx hb dX9_isSmall_6 rfl (lv_at hl 0 rfl) ?_
    refine lv_bipush (v := 122) hx hb dX9_isSmall_7 rfl ?_
    refine lv_icmp_gt (tgt := 16) hx hb dX9_isSmall_9 (by decide) (fun c9 => ?_) (fun c9 => ?_)
    · have hf := gt hf c9
      refine lv_iconst (v := 0) hx hb dX9_isSmall_16 rfl ?_
      exact r_zret2 hC hI (.inl rfl) hf dX9_isSmall_17
    · have hf := gf hf c9
      refine lv_iconst (v := 1) hx hb dX9_isSmall_12 rfl ?_
      refine lv_goto (tgt := 17) hx hb dX9_isSmall_13 (by decide) ?_
      exact r_zret2 hC hI (.inr rfl) hf dX9_isSmall_17
theorem k_X9_isSmall {p : Program} {l : Launch} {e : Env} {R : Room} {cells slots : Nat} {s : State} {m : MethodId} {args : Array Value} {below : List Frame} {meth : Method} {c : Code} {H : Heap} {locs : List Loc} {Q : State → Prop} {E : En} {ad : Nat → Nat} {V : Mem} {ow : String} {b : ByteArray} {n : Nat} {ret : Option FieldType} {pc index : Nat} {ls : Array Slot} {rest : List Value} {a0 : Int32} {r : Int32} {V1 : Mem} (hC : Cx p s m args c meth E ow b n ret) (hI : In E ad V s H locs) (hsz : ls.size = n) (hf : f_X9_isSmall V a0 = some (r, V1)) (hl : Cond.methodLink ow index yX9_isSmall ∈ TB) (hR : 1 + 1 ≤ R.frames ∧ 8 + (1 + 11) + 40 * 1 ≤ R.locals) (hcs : cells ≤ R.cells ∧ slots ≤ R.slots) (hw : (rest.map fun v => v.category).sum ≤ 8) (hdg : decode b pc = .ok (.invokestatic index, 3)) (kk : ∀ (H1 : Heap) (locs1 : List Loc), In E ad V1 s H1 locs1 → W p l e R s m args below meth c H1 locs1 cells slots Q (F0 m (pc + 3) ls ((.int r) :: rest))) : W p l e R s m args below meth c H locs cells slots Q (F0 m pc ls (.int a0 :: rest)) :=
  r_calS (As := [.int a0]) (rest := rest) hC hI hsz (m_X9_isSmall l E ad V a0 r _ hf) cv_X9_isSmall hl rfl rfl hR hcs hw hdg kk
theorem kN_X9_isSmall {p : Program} {l : Launch} {e : Env} {R : Room} {cells slots : Nat} {s : State} {m : MethodId} {args : Array Value} {below : List Frame} {meth : Method} {c : Code} {H : Heap} {locs : List Loc} {Q : State → Prop} {E : En} {ad : Nat → Nat} {V : Mem} {ow host : String} {b : ByteArray} {n : Nat} {ret : Option FieldType} {pc index : Nat} {ls : Array Slot} {rest : List Value} {a0 : Int32} {r : Int32} {V1 : Mem} (hC : Cx p s m args c meth E ow b n ret) (hI : In E ad V s H locs) (hsz : ls.size = n) (hf : f_X9_isSmall V a0 = some (r, V1)) (hl : Cond.methodLinkNest ow index yX9_isSmall host ∈ NB) (hR : 1 + 1 ≤ R.frames ∧ 8 + (1 + 11) + 40 * 1 ≤ R.locals) (hcs : cells ≤ R.cells ∧ slots ≤ R.slots) (hw : (rest.map fun v => v.category).sum ≤ 8) (hdg : decode b pc = .ok (.invokestatic index, 3)) (kk : ∀ (H1 : Heap) (locs1 : List Loc), In E ad V1 s H1 locs1 → W p l e R s m args below meth c H1 locs1 cells slots Q (F0 m (pc + 3) ls ((.int r) :: rest))) : W p l e R s m args below meth c H locs cells slots Q (F0 m pc ls (.int a0 :: rest)) :=
  r_calSN (As := [.int a0]) (rest := rest) hC hI hsz (m_X9_isSmall l E ad V a0 r _ hf) cv_X9_isSmall hl rfl rfl hR hcs hw hdg kk

theorem dX9_isCapital_0 : decode cX9_isCapital 0 = .ok (.iload_n 0, 1) := by decide +kernel
theorem dX9_isCapital_1 : decode cX9_isCapital 1 = .ok (.bipush 65, 2) := by decide +kernel
theorem dX9_isCapital_3 : decode cX9_isCapital 3 = .ok (.if_icmp .lt 13, 3) := by decide +kernel
theorem dX9_isCapital_6 : decode cX9_isCapital 6 = .ok (.iload_n 0, 1) := by decide +kernel
theorem dX9_isCapital_7 : decode cX9_isCapital 7 = .ok (.bipush 90, 2) := by decide +kernel
theorem dX9_isCapital_9 : decode cX9_isCapital 9 = .ok (.if_icmp .gt 7, 3) := by decide +kernel
theorem dX9_isCapital_12 : decode cX9_isCapital 12 = .ok (.iconst 1, 1) := by decide +kernel
theorem dX9_isCapital_13 : decode cX9_isCapital 13 = .ok (.goto 4, 3) := by decide +kernel
theorem dX9_isCapital_16 : decode cX9_isCapital 16 = .ok (.iconst 0, 1) := by decide +kernel
theorem dX9_isCapital_17 : decode cX9_isCapital 17 = .ok (.ireturn, 1) := by decide +kernel
def f_X9_isCapital (V : Mem) (a0 : Int32) : Option (Int32 × Mem) :=
  if a0 < 65 then
    some (0, V)
  else
    if 90 < a0 then
      some (0, V)
    else
      some (1, V)
theorem cv_X9_isCapital : CalS yX9_isCapital cX9_isCapital 1 (some .boolean) 1 := ⟨⟨⟨by decide +kernel, by decide +kernel⟩, tw_1_1, tw_4_99, by decide +kernel⟩, tw_4_98⟩
set_option maxRecDepth 100000 in
set_option maxHeartbeats 4000000 in
theorem m_X9_isCapital (l : Launch) (E : En) (ad : Nat → Nat) (V : Mem) (a0 : Int32) (r : Int32) (Vz : Mem) (hf : f_X9_isCapital V a0 = some (r, Vz)) : MR l E ad yX9_isCapital cX9_isCapital 1 (some .boolean) 1 [.int a0] V (some (.int r)) Vz := by
  refine ent (E := E) (ad := ad) (V := V) "LetterRepository" (by decide +kernel) rfl (Nat.le_of_ble_eq_true rfl) ?_
  intro p e s m below meth c ls hC hI hl
  have hx := hC.1
  have hb := hC.2.1
  have hl : lv_has ls 1 [(0, .int a0)] := hl
  unfold f_X9_isCapital at hf
  refine lv_iload_n hx hb dX9_isCapital_0 rfl (lv_at hl 0 rfl) ?_
  refine lv_bipush (v := 65) hx hb dX9_isCapital_1 rfl ?_
  refine lv_icmp_lt (tgt := 16) hx hb dX9_isCapital_3 (by decide) (fun c3 => ?_) (fun c3 => ?_)
  · have hf := gt hf c3
    refine lv_iconst (v := 0) hx hb dX9_isCapital_16 rfl ?_
    exact r_zret2 hC hI (.inl rfl) hf dX9_isCapital_17
  · have hf := gf hf c3
    refine lv_iload_n hx hb dX9_isCapital_6 rfl (lv_at hl 0 rfl) ?_
    refine lv_bipush (v := 90) hx hb dX9_isCapital_7 rfl ?_
    refine lv_icmp_gt (tgt := 16) hx hb dX9_isCapital_9 (by decide) (fun c9 => ?_) (fun c9 => ?_)
    · have hf := gt hf c9
      refine lv_iconst (v := 0) hx hb dX9_isCapital_16 rfl ?_
      exact r_zret2 hC hI (.inl rfl) hf dX9_isCapital_17
    · have hf := gf hf c9
      refine lv_iconst (v := 1) hx hb dX9_isCapital_12 rfl ?_
      refine lv_goto (tgt := 17) hx hb dX9_isCapital_13 (by decide) ?_
      exact r_zret2 hC hI (.inr rfl) hf dX9_isCapital_17
theorem k_X9_isCapital {p : Program} {l : Launch} {e : Env} {R : Room} {cells slots : Nat} {s : State} {m : MethodId} {args : Array Value} {below : List Frame} {meth : Method} {c : Code} {H : Heap} {locs : List Loc} {Q : State → Prop} {E : En} {ad : Nat → Nat} {V : Mem} {ow : String} {b : ByteArray} {n : Nat} {ret : Option FieldType} {pc index : Nat} {ls : Array Slot} {rest : List Value} {a0 : Int32} {r : Int32} {V1 : Mem} (hC : Cx p s m args c meth E ow b n ret) (hI : In E ad V s H locs) (hsz : ls.size = n) (hf : f_X9_isCapital V a0 = some (r, V1)) (hl : Cond.methodLink ow index yX9_isCapital ∈ TB) (hR : 1 + 1 ≤ R.frames ∧ 8 + (1 + 11) + 40 * 1 ≤ R.locals) (hcs : cells ≤ R.cells ∧ slots ≤ R.slots) (hw : (rest.map fun v => v.category).sum ≤ 8) (hdg : decode b pc = .ok (.invokestatic index, 3)) (kk : ∀ (H1 : Heap) (locs1 : List Loc), In E ad V1 s H1 locs1 → W p l e R s m args below meth c H1 locs1 cells slots Q (F0 m (pc + 3) ls ((.int r) :: rest))) : W p l e R s m args below meth c H locs cells slots Q (F0 m pc ls (.int a0 :: rest)) :=
  r_calS (As := [.int a0]) (rest := rest) hC hI hsz (m_X9_isCapital l E ad V a0 r _ hf) cv_X9_isCapital hl rfl rfl hR hcs hw hdg kk
theorem kN_X9_isCapital {p : Program} {l : Launch} {e : Env} {R : Room} {cells slots : Nat} {s : State} {m : MethodId} {args : Array Value} {below : List Frame} {meth : Method} {c : Code} {H : Heap} {locs : List Loc} {Q : State → Prop} {E : En} {ad : Nat → Nat} {V : Mem} {ow host : String} {b : ByteArray} {n : Nat} {ret : Option FieldType} {pc index : Nat} {ls : Array Slot} {rest : List Value} {a0 : Int32} {r : Int32} {V1 : Mem} (hC : Cx p s m args c meth E ow b n ret) (hI : In E ad V s H locs) (hsz : ls.size = n) (hf : f_X9_isCapital V a0 = some (r, V1)) (hl : Cond.methodLinkNest ow index yX9_isCapital host ∈ NB) (hR : 1 + 1 ≤ R.frames ∧ 8 + (1 + 11) + 40 * 1 ≤ R.locals) (hcs : cells ≤ R.cells ∧ slots ≤ R.slots) (hw : (rest.map fun v => v.category).sum ≤ 8) (hdg : decode b pc = .ok (.invokestatic index, 3)) (kk : ∀ (H1 : Heap) (locs1 : List Loc), In E ad V1 s H1 locs1 → W p l e R s m args below meth c H1 locs1 cells slots Q (F0 m (pc + 3) ls ((.int r) :: rest))) : W p l e R s m args below meth c H locs cells slots Q (F0 m pc ls (.int a0 :: rest)) :=
  r_calSN (As := [.int a0]) (rest := rest) hC hI hsz (m_X9_isCapital l E ad V a0 r _ hf) cv_X9_isCapital hl rfl rfl hR hcs hw hdg kk

theorem dX9_isDigit_0 : decode cX9_isDigit 0 = .ok (.iload_n 0, 1) := by decide +kernel
theorem dX9_isDigit_1 : decode cX9_isDigit 1 = .ok (.bipush 48, 2) := by decide +kernel
theorem dX9_isDigit_3 : decode cX9_isDigit 3 = .ok (.if_icmp .lt 13, 3) := by decide +kernel
theorem dX9_isDigit_6 : decode cX9_isDigit 6 = .ok (.iload_n 0, 1) := by decide +kernel
theorem dX9_isDigit_7 : decode cX9_isDigit 7 = .ok (.bipush 57, 2) := by decide +kernel
theorem dX9_isDigit_9 : decode cX9_isDigit 9 = .ok (.if_icmp .gt 7, 3) := by decide +kernel
theorem dX9_isDigit_12 : decode cX9_isDigit 12 = .ok (.iconst 1, 1) := by decide +kernel
theorem dX9_isDigit_13 : decode cX9_isDigit 13 = .ok (.goto 4, 3) := by decide +kernel
theorem dX9_isDigit_16 : decode cX9_isDigit 16 = .ok (.iconst 0, 1) := by decide +kernel
theorem dX9_isDigit_17 : decode cX9_isDigit 17 = .ok (.ireturn, 1) := by decide +kernel
def f_X9_isDigit (V : Mem) (a0 : Int32) : Option (Int32 × Mem) :=
  if a0 < 48 then
    some (0, V)
  else
    if 57 < a0 then
      some (0, V)
    else
      some (1, V)
theorem cv_X9_isDigit : CalS yX9_isDigit cX9_isDigit 1 (some .boolean) 1 := ⟨⟨⟨by decide +kernel, by decide +kernel⟩, tw_1_1, tw_7_77, by decide +kernel⟩, tw_7_76⟩
set_option maxRecDepth 100000 in
set_option maxHeartbeats 4000000 in
theorem m_X9_isDigit (l : Launch) (E : En) (ad : Nat → Nat) (V : Mem) (a0 : Int32) (r : Int32) (Vz : Mem) (hf : f_X9_isDigit V a0 = some (r, Vz)) : MR l E ad yX9_isDigit cX9_isDigit 1 (some .boolean) 1 [.int a0] V (some (.int r)) Vz := by
  refine ent (E := E) (ad := ad) (V := V) "LetterRepository" (by decide +kernel) rfl (Nat.le_of_ble_eq_true rfl) ?_
  intro p e s m below meth c ls hC hI hl
  have hx := hC.1
  have hb := hC.2.1
  have hl : lv_has ls 1 [(0, .int a0)] := hl
  unfold f_X9_isDigit at hf
  refine lv_iload_n hx hb dX9_isDigit_0 rfl (lv_at hl 0 rfl) ?_
  refine lv_bipush (v := 48) hx hb dX9_isDigit_1 rfl ?_
  refine lv_icmp_lt (tgt := 16) hx hb dX9_isDigit_3 (by decide) (fun c3 => ?_) (fun c3 => ?_)
  · have hf := gt hf c3
    refine lv_iconst (v := 0) hx hb dX9_isDigit_16 rfl ?_
    exact r_zret2 hC hI (.inl rfl) hf dX9_isDigit_17
  · have hf := gf hf c3
    refine lv_iload_n hx hb dX9_isDigit_6 rfl (lv_at hl 0 rfl) ?_
    refine lv_bipush (v := 57) hx hb dX9_isDigit_7 rfl ?_
    refine lv_icmp_gt (tgt := 16) hx hb dX9_isDigit_9 (by decide) (fun c9 => ?_) (fun c9 => ?_)
    · have hf := gt hf c9
      refine lv_iconst (v := 0) hx hb dX9_isDigit_16 rfl ?_
      exact r_zret2 hC hI (.inl rfl) hf dX9_isDigit_17
    · have hf := gf hf c9
      refine lv_iconst (v := 1) hx hb dX9_isDigit_12 rfl ?_
      refine lv_goto (tgt := 17) hx hb dX9_isDigit_13 (by decide) ?_
      exact r_zret2 hC hI (.inr rfl) hf dX9_isDigit_17
theorem k_X9_isDigit {p : Program} {l : Launch} {e : Env} {R : Room} {cells slots : Nat} {s : State} {m : MethodId} {args : Array Value} {below : List Frame} {meth : Method} {c : Code} {H : Heap} {locs : List Loc} {Q : State → Prop} {E : En} {ad : Nat → Nat} {V : Mem} {ow : String} {b : ByteArray} {n : Nat} {ret : Option FieldType} {pc index : Nat} {ls : Array Slot} {rest : List Value} {a0 : Int32} {r : Int32} {V1 : Mem} (hC : Cx p s m args c meth E ow b n ret) (hI : In E ad V s H locs) (hsz : ls.size = n) (hf : f_X9_isDigit V a0 = some (r, V1)) (hl : Cond.methodLink ow index yX9_isDigit ∈ TB) (hR : 1 + 1 ≤ R.frames ∧ 8 + (1 + 11) + 40 * 1 ≤ R.locals) (hcs : cells ≤ R.cells ∧ slots ≤ R.slots) (hw : (rest.map fun v => v.category).sum ≤ 8) (hdg : decode b pc = .ok (.invokestatic index, 3)) (kk : ∀ (H1 : Heap) (locs1 : List Loc), In E ad V1 s H1 locs1 → W p l e R s m args below meth c H1 locs1 cells slots Q (F0 m (pc + 3) ls ((.int r) :: rest))) : W p l e R s m args below meth c H locs cells slots Q (F0 m pc ls (.int a0 :: rest)) :=
  r_calS (As := [.int a0]) (rest := rest) hC hI hsz (m_X9_isDigit l E ad V a0 r _ hf) cv_X9_isDigit hl rfl rfl hR hcs hw hdg kk
theorem kN_X9_isDigit {p : Program} {l : Launch} {e : Env} {R : Room} {cells slots : Nat} {s : State} {m : MethodId} {args : Array Value} {below : List Frame} {meth : Method} {c : Code} {H : Heap} {locs : List Loc} {Q : State → Prop} {E : En} {ad : Nat → Nat} {V : Mem} {ow host : String} {b : ByteArray} {n : Nat} {ret : Option FieldType} {pc index : Nat} {ls : Array Slot} {rest : List Value} {a0 : Int32} {r : Int32} {V1 : Mem} (hC : Cx p s m args c meth E ow b n ret) (hI : In E ad V s H locs) (hsz : ls.size = n) (hf : f_X9_isDigit V a0 = some (r, V1)) (hl : Cond.methodLinkNest ow index yX9_isDigit host ∈ NB) (hR : 1 + 1 ≤ R.frames ∧ 8 + (1 + 11) + 40 * 1 ≤ R.locals) (hcs : cells ≤ R.cells ∧ slots ≤ R.slots) (hw : (rest.map fun v => v.category).sum ≤ 8) (hdg : decode b pc = .ok (.invokestatic index, 3)) (kk : ∀ (H1 : Heap) (locs1 : List Loc), In E ad V1 s H1 locs1 → W p l e R s m args below meth c H1 locs1 cells slots Q (F0 m (pc + 3) ls ((.int r) :: rest))) : W p l e R s m args below meth c H locs cells slots Q (F0 m pc ls (.int a0 :: rest)) :=
  r_calSN (As := [.int a0]) (rest := rest) hC hI hsz (m_X9_isDigit l E ad V a0 r _ hf) cv_X9_isDigit hl rfl rfl hR hcs hw hdg kk

theorem dX9_setOf_0 : decode cX9_setOf 0 = .ok (.iload_n 0, 1) := by decide +kernel
theorem dX9_setOf_1 : decode cX9_setOf 1 = .ok (.ifCond .lt 15, 3) := by decide +kernel
theorem dX9_setOf_4 : decode cX9_setOf 4 = .ok (.iload_n 0, 1) := by decide +kernel
theorem dX9_setOf_5 : decode cX9_setOf 5 = .ok (.bipush 24, 2) := by decide +kernel
theorem dX9_setOf_7 : decode cX9_setOf 7 = .ok (.if_icmp .ge 9, 3) := by decide +kernel
theorem dX9_setOf_10 : decode cX9_setOf 10 = .ok (.iconst 1, 1) := by decide +kernel
theorem dX9_setOf_11 : decode cX9_setOf 11 = .ok (.iload_n 0, 1) := by decide +kernel
theorem dX9_setOf_12 : decode cX9_setOf 12 = .ok (.ishl, 1) := by decide +kernel
theorem dX9_setOf_13 : decode cX9_setOf 13 = .ok (.goto 4, 3) := by decide +kernel
theorem dX9_setOf_16 : decode cX9_setOf 16 = .ok (.iconst 0, 1) := by decide +kernel
theorem dX9_setOf_17 : decode cX9_setOf 17 = .ok (.ireturn, 1) := by decide +kernel
def f_X9_setOf (V : Mem) (a0 : Int32) : Option (Int32 × Mem) :=
  if a0 < 0 then
    some (0, V)
  else
    if 24 ≤ a0 then
      some (0, V)
    else
      some ((1 <<< (a0 &&& 31)), V)
theorem cv_X9_setOf : CalS yX9_setOf cX9_setOf 1 (some .int) 1 := ⟨⟨⟨by decide +kernel, by decide +kernel⟩, tw_1_1, tw_1_67, by decide +kernel⟩, tw_1_66⟩
set_option maxRecDepth 100000 in
set_option maxHeartbeats 4000000 in
theorem m_X9_setOf (l : Launch) (E : En) (ad : Nat → Nat) (V : Mem) (a0 : Int32) (r : Int32) (Vz : Mem) (hf : f_X9_setOf V a0 = some (r, Vz)) : MR l E ad yX9_setOf cX9_setOf 1 (some .int) 1 [.int a0] V (some (.int r)) Vz := by
  refine ent (E := E) (ad := ad) (V := V) "LetterRepository" (by decide +kernel) rfl (Nat.le_of_ble_eq_true rfl) ?_
  intro p e s m below meth c ls hC hI hl
  have hx := hC.1
  have hb := hC.2.1
  have hl : lv_has ls 1 [(0, .int a0)] := hl
  unfold f_X9_setOf at hf
  refine lv_iload_n hx hb dX9_setOf_0 rfl (lv_at hl 0 rfl) ?_
  refine lv_if_lt (tgt := 16) hx hb dX9_setOf_1 (by decide) (fun c1 => ?_) (fun c1 => ?_)
  · have hf := gt hf c1
    refine lv_iconst (v := 0) hx hb dX9_setOf_16 rfl ?_
    exact r_iret2 hC hI hf dX9_setOf_17
  · have hf := gf hf c1
    refine lv_iload_n hx hb dX9_setOf_4 rfl (lv_at hl 0 rfl) ?_
    refine lv_bipush (v := 24) hx hb dX9_setOf_5 rfl ?_
    refine lv_icmp_ge (tgt := 16) hx hb dX9_setOf_7 (by decide) (fun c7 => ?_) (fun c7 => ?_)
    · have hf := gt hf c7
      refine lv_iconst (v := 0) hx hb dX9_setOf_16 rfl ?_
      exact r_iret2 hC hI hf dX9_setOf_17
    · have hf := gf hf c7
      refine lv_iconst (v := 1) hx hb dX9_setOf_10 rfl ?_
      refine lv_iload_n hx hb dX9_setOf_11 rfl (lv_at hl 0 rfl) ?_
      refine lv_ishl hx hb dX9_setOf_12 ?_
      refine lv_goto (tgt := 17) hx hb dX9_setOf_13 (by decide) ?_
      exact r_iret2 hC hI hf dX9_setOf_17
theorem k_X9_setOf {p : Program} {l : Launch} {e : Env} {R : Room} {cells slots : Nat} {s : State} {m : MethodId} {args : Array Value} {below : List Frame} {meth : Method} {c : Code} {H : Heap} {locs : List Loc} {Q : State → Prop} {E : En} {ad : Nat → Nat} {V : Mem} {ow : String} {b : ByteArray} {n : Nat} {ret : Option FieldType} {pc index : Nat} {ls : Array Slot} {rest : List Value} {a0 : Int32} {r : Int32} {V1 : Mem} (hC : Cx p s m args c meth E ow b n ret) (hI : In E ad V s H locs) (hsz : ls.size = n) (hf : f_X9_setOf V a0 = some (r, V1)) (hl : Cond.methodLink ow index yX9_setOf ∈ TB) (hR : 1 + 1 ≤ R.frames ∧ 8 + (1 + 11) + 40 * 1 ≤ R.locals) (hcs : cells ≤ R.cells ∧ slots ≤ R.slots) (hw : (rest.map fun v => v.category).sum ≤ 8) (hdg : decode b pc = .ok (.invokestatic index, 3)) (kk : ∀ (H1 : Heap) (locs1 : List Loc), In E ad V1 s H1 locs1 → W p l e R s m args below meth c H1 locs1 cells slots Q (F0 m (pc + 3) ls ((.int r) :: rest))) : W p l e R s m args below meth c H locs cells slots Q (F0 m pc ls (.int a0 :: rest)) :=
  r_calS (As := [.int a0]) (rest := rest) hC hI hsz (m_X9_setOf l E ad V a0 r _ hf) cv_X9_setOf hl rfl rfl hR hcs hw hdg kk
theorem kN_X9_setOf {p : Program} {l : Launch} {e : Env} {R : Room} {cells slots : Nat} {s : State} {m : MethodId} {args : Array Value} {below : List Frame} {meth : Method} {c : Code} {H : Heap} {locs : List Loc} {Q : State → Prop} {E : En} {ad : Nat → Nat} {V : Mem} {ow host : String} {b : ByteArray} {n : Nat} {ret : Option FieldType} {pc index : Nat} {ls : Array Slot} {rest : List Value} {a0 : Int32} {r : Int32} {V1 : Mem} (hC : Cx p s m args c meth E ow b n ret) (hI : In E ad V s H locs) (hsz : ls.size = n) (hf : f_X9_setOf V a0 = some (r, V1)) (hl : Cond.methodLinkNest ow index yX9_setOf host ∈ NB) (hR : 1 + 1 ≤ R.frames ∧ 8 + (1 + 11) + 40 * 1 ≤ R.locals) (hcs : cells ≤ R.cells ∧ slots ≤ R.slots) (hw : (rest.map fun v => v.category).sum ≤ 8) (hdg : decode b pc = .ok (.invokestatic index, 3)) (kk : ∀ (H1 : Heap) (locs1 : List Loc), In E ad V1 s H1 locs1 → W p l e R s m args below meth c H1 locs1 cells slots Q (F0 m (pc + 3) ls ((.int r) :: rest))) : W p l e R s m args below meth c H locs cells slots Q (F0 m pc ls (.int a0 :: rest)) :=
  r_calSN (As := [.int a0]) (rest := rest) hC hI hsz (m_X9_setOf l E ad V a0 r _ hf) cv_X9_setOf hl rfl rfl hR hcs hw hdg kk

theorem dX9_contains_0 : decode cX9_contains 0 = .ok (.iload_n 0, 1) := by decide +kernel
theorem dX9_contains_1 : decode cX9_contains 1 = .ok (.iload_n 1, 1) := by decide +kernel
theorem dX9_contains_2 : decode cX9_contains 2 = .ok (.invokestatic 427, 3) := by decide +kernel
theorem dX9_contains_5 : decode cX9_contains 5 = .ok (.iand, 1) := by decide +kernel
theorem dX9_contains_6 : decode cX9_contains 6 = .ok (.ifCond .eq 7, 3) := by decide +kernel
theorem dX9_contains_9 : decode cX9_contains 9 = .ok (.iconst 1, 1) := by decide +kernel
theorem dX9_contains_10 : decode cX9_contains 10 = .ok (.goto 4, 3) := by decide +kernel
theorem dX9_contains_13 : decode cX9_contains 13 = .ok (.iconst 0, 1) := by decide +kernel
theorem dX9_contains_14 : decode cX9_contains 14 = .ok (.ireturn, 1) := by decide +kernel
def f_X9_contains (V : Mem) (a0 : Int32) (a1 : Int32) : Option (Int32 × Mem) :=
  bd (f_X9_setOf V a1) fun r2 V2 =>
  if (a0 &&& r2) = 0 then
    some (0, V2)
  else
    some (1, V2)
theorem cv_X9_contains : CalS yX9_contains cX9_contains 2 (some .boolean) 2 := ⟨⟨⟨by decide +kernel, by decide +kernel⟩, tw_1_1, tw_2_72, by decide +kernel⟩, tw_2_71⟩
set_option maxRecDepth 100000 in
set_option maxHeartbeats 4000000 in
theorem m_X9_contains (l : Launch) (E : En) (ad : Nat → Nat) (V : Mem) (a0 : Int32) (a1 : Int32) (r : Int32) (Vz : Mem) (hf : f_X9_contains V a0 a1 = some (r, Vz)) : MR l E ad yX9_contains cX9_contains 2 (some .boolean) 2 [.int a0, .int a1] V (some (.int r)) Vz := by
  refine ent (E := E) (ad := ad) (V := V) "LetterRepository" (by decide +kernel) rfl (Nat.le_of_ble_eq_true rfl) ?_
  intro p e s m below meth c ls hC hI hl
  have hx := hC.1
  have hb := hC.2.1
  have hl : lv_has ls 2 [(0, .int a0), (1, .int a1)] := hl
  unfold f_X9_contains at hf
  refine lv_iload_n hx hb dX9_contains_0 rfl (lv_at hl 0 rfl) ?_
  refine lv_iload_n hx hb dX9_contains_1 rfl (lv_at hl 1 rfl) ?_
  obtain ⟨r2, V2, q2, hf⟩ := gbd hf
  refine k_X9_setOf hC hI hl.1 q2 tw_2_73 ⟨Nat.le_of_ble_eq_true rfl, Nat.le_of_ble_eq_true rfl⟩ ⟨Nat.le_refl _, Nat.le_refl _⟩ (Nat.le_of_ble_eq_true rfl) dX9_contains_2 (fun H locs hI => ?_)
  refine lv_iand hx hb dX9_contains_5 ?_
  refine lv_if_eq (tgt := 13) hx hb dX9_contains_6 (by decide) (fun c6 => ?_) (fun c6 => ?_)
  · have hf := gt hf c6
    refine lv_iconst (v := 0) hx hb dX9_contains_13 rfl ?_
    exact r_zret2 hC hI (.inl rfl) hf dX9_contains_14
  · have hf := gf hf c6
    refine lv_iconst (v := 1) hx hb dX9_contains_9 rfl ?_
    refine lv_goto (tgt := 14) hx hb dX9_contains_10 (by decide) ?_
    exact r_zret2 hC hI (.inr rfl) hf dX9_contains_14
theorem k_X9_contains {p : Program} {l : Launch} {e : Env} {R : Room} {cells slots : Nat} {s : State} {m : MethodId} {args : Array Value} {below : List Frame} {meth : Method} {c : Code} {H : Heap} {locs : List Loc} {Q : State → Prop} {E : En} {ad : Nat → Nat} {V : Mem} {ow : String} {b : ByteArray} {n : Nat} {ret : Option FieldType} {pc index : Nat} {ls : Array Slot} {rest : List Value} {a0 : Int32} {a1 : Int32} {r : Int32} {V1 : Mem} (hC : Cx p s m args c meth E ow b n ret) (hI : In E ad V s H locs) (hsz : ls.size = n) (hf : f_X9_contains V a0 a1 = some (r, V1)) (hl : Cond.methodLink ow index yX9_contains ∈ TB) (hR : 2 + 1 ≤ R.frames ∧ 8 + (2 + 11) + 40 * 2 ≤ R.locals) (hcs : cells ≤ R.cells ∧ slots ≤ R.slots) (hw : (rest.map fun v => v.category).sum ≤ 8) (hdg : decode b pc = .ok (.invokestatic index, 3)) (kk : ∀ (H1 : Heap) (locs1 : List Loc), In E ad V1 s H1 locs1 → W p l e R s m args below meth c H1 locs1 cells slots Q (F0 m (pc + 3) ls ((.int r) :: rest))) : W p l e R s m args below meth c H locs cells slots Q (F0 m pc ls (.int a1 :: .int a0 :: rest)) :=
  r_calS (As := [.int a0, .int a1]) (rest := rest) hC hI hsz (m_X9_contains l E ad V a0 a1 r _ hf) cv_X9_contains hl rfl rfl hR hcs hw hdg kk
theorem kN_X9_contains {p : Program} {l : Launch} {e : Env} {R : Room} {cells slots : Nat} {s : State} {m : MethodId} {args : Array Value} {below : List Frame} {meth : Method} {c : Code} {H : Heap} {locs : List Loc} {Q : State → Prop} {E : En} {ad : Nat → Nat} {V : Mem} {ow host : String} {b : ByteArray} {n : Nat} {ret : Option FieldType} {pc index : Nat} {ls : Array Slot} {rest : List Value} {a0 : Int32} {a1 : Int32} {r : Int32} {V1 : Mem} (hC : Cx p s m args c meth E ow b n ret) (hI : In E ad V s H locs) (hsz : ls.size = n) (hf : f_X9_contains V a0 a1 = some (r, V1)) (hl : Cond.methodLinkNest ow index yX9_contains host ∈ NB) (hR : 2 + 1 ≤ R.frames ∧ 8 + (2 + 11) + 40 * 2 ≤ R.locals) (hcs : cells ≤ R.cells ∧ slots ≤ R.slots) (hw : (rest.map fun v => v.category).sum ≤ 8) (hdg : decode b pc = .ok (.invokestatic index, 3)) (kk : ∀ (H1 : Heap) (locs1 : List Loc), In E ad V1 s H1 locs1 → W p l e R s m args below meth c H1 locs1 cells slots Q (F0 m (pc + 3) ls ((.int r) :: rest))) : W p l e R s m args below meth c H locs cells slots Q (F0 m pc ls (.int a1 :: .int a0 :: rest)) :=
  r_calSN (As := [.int a0, .int a1]) (rest := rest) hC hI hsz (m_X9_contains l E ad V a0 a1 r _ hf) cv_X9_contains hl rfl rfl hR hcs hw hdg kk

theorem dX1_begin_0 : decode cX1_begin 0 = .ok (.aload_n 0, 1) := by decide +kernel
theorem dX1_begin_1 : decode cX1_begin 1 = .ok (.aload_n 1, 1) := by decide +kernel
theorem dX1_begin_2 : decode cX1_begin 2 = .ok (.putfield 26, 3) := by decide +kernel
theorem dX1_begin_5 : decode cX1_begin 5 = .ok (.aload_n 0, 1) := by decide +kernel
theorem dX1_begin_6 : decode cX1_begin 6 = .ok (.iconst 0, 1) := by decide +kernel
theorem dX1_begin_7 : decode cX1_begin 7 = .ok (.putfield 29, 3) := by decide +kernel
theorem dX1_begin_10 : decode cX1_begin 10 = .ok (.return_, 1) := by decide +kernel
def f_X1_begin (V : Mem) (q : Nat) (z : Nat) : Option Mem :=
  lt (stv V (224 + 3 * q) 1 (nI z)) fun V2 =>
  lt (stv V2 (224 + 3 * q) 0 0) fun V7 =>
  some V7
theorem cv_X1_begin : CalV yX1_begin cX1_begin 2 none 1 := ⟨⟨⟨by decide +kernel, by decide +kernel⟩, tw_1_7, tw_7_45, by decide +kernel⟩, tw_7_43, tw_7_44⟩
set_option maxRecDepth 100000 in
set_option maxHeartbeats 4000000 in
theorem m_X1_begin (l : Launch) (E : En) (ad : Nat → Nat) (V : Mem) (q : Nat) (z : Nat) (hq : q < 8) (hz : z < 13) (Vz : Mem) (hf : f_X1_begin V q z = some Vz) : MR l E ad yX1_begin cX1_begin 2 none 1 [.ref (ad (224 + 3 * q)), .ref (eK E z)] V none Vz := by
  refine ent (E := E) (ad := ad) (V := V) "LetterRepository$Command" (by decide +kernel) rfl (Nat.le_of_ble_eq_true rfl) ?_
  intro p e s m below meth c ls hC hI hl
  have hx := hC.1
  have hb := hC.2.1
  have hl : lv_has ls 2 [(0, .ref (ad (224 + 3 * q))), (1, .ref (eK E z))] := hl
  unfold f_X1_begin at hf
  refine lv_aload_n hx hb dX1_begin_0 rfl (lv_at hl 0 rfl) ?_
  refine lv_aload_n hx hb dX1_begin_1 rfl (lv_at hl 1 rfl) ?_
  obtain ⟨V2, e2, hf⟩ := gl hf
  refine p_C_kind hq hC hI hz e2 tw_1_155 dX1_begin_2 (fun H locs hI => ?_)
  refine lv_aload_n hx hb dX1_begin_5 rfl (lv_at hl 0 rfl) ?_
  refine lv_iconst (v := 0) hx hb dX1_begin_6 rfl ?_
  obtain ⟨V7, e7, hf⟩ := gl hf
  refine p_C_size hq hC hI  e7 tw_1_157 dX1_begin_7 (fun H locs hI => ?_)
  exact r_vret2 hC hI hf dX1_begin_10
theorem k_X1_begin {p : Program} {l : Launch} {e : Env} {R : Room} {cells slots : Nat} {s : State} {m : MethodId} {args : Array Value} {below : List Frame} {meth : Method} {c : Code} {H : Heap} {locs : List Loc} {Q : State → Prop} {E : En} {ad : Nat → Nat} {V : Mem} {ow : String} {b : ByteArray} {n : Nat} {ret : Option FieldType} {pc index : Nat} {ls : Array Slot} {rest : List Value} {q : Nat} {z : Nat} {V1 : Mem} (hq : q < 8) (hz : z < 13) (hC : Cx p s m args c meth E ow b n ret) (hI : In E ad V s H locs) (hsz : ls.size = n) (hf : f_X1_begin V q z = some V1) (hl : Cond.methodLink ow index yX1_begin ∈ TB) (hR : 1 + 1 ≤ R.frames ∧ 8 + (2 + 11) + 40 * 1 ≤ R.locals) (hcs : cells ≤ R.cells ∧ slots ≤ R.slots) (hw : (rest.map fun v => v.category).sum ≤ 8) (hdg : decode b pc = .ok (.invokevirtual index, 3)) (kk : ∀ (H1 : Heap) (locs1 : List Loc), In E ad V1 s H1 locs1 → W p l e R s m args below meth c H1 locs1 cells slots Q (F0 m (pc + 3) ls (rest))) : W p l e R s m args below meth c H locs cells slots Q (F0 m pc ls (.ref (eK E z) :: .ref (ad (224 + 3 * q)) :: rest)) :=
  r_calVv (As := [.ref (eK E z)]) (rest := rest) hC hI hsz (m_X1_begin l E ad V q z hq hz _ hf) cv_X1_begin hl (by omega) (ceC_0 hq _) rfl rfl rfl hR hcs hw hdg kk

theorem dX7_set_0 : decode cX7_set 0 = .ok (.iload_n 1, 1) := by decide +kernel
theorem dX7_set_1 : decode cX7_set 1 = .ok (.ifCond .lt 19, 3) := by decide +kernel
theorem dX7_set_4 : decode cX7_set 4 = .ok (.iload_n 1, 1) := by decide +kernel
theorem dX7_set_5 : decode cX7_set 5 = .ok (.aload_n 0, 1) := by decide +kernel
theorem dX7_set_6 : decode cX7_set 6 = .ok (.getfield 9, 3) := by decide +kernel
theorem dX7_set_9 : decode cX7_set 9 = .ok (.arraylength, 1) := by decide +kernel
theorem dX7_set_10 : decode cX7_set 10 = .ok (.if_icmp .ge 10, 3) := by decide +kernel
theorem dX7_set_13 : decode cX7_set 13 = .ok (.aload_n 0, 1) := by decide +kernel
theorem dX7_set_14 : decode cX7_set 14 = .ok (.getfield 9, 3) := by decide +kernel
theorem dX7_set_17 : decode cX7_set 17 = .ok (.iload_n 1, 1) := by decide +kernel
theorem dX7_set_18 : decode cX7_set 18 = .ok (.iload_n 2, 1) := by decide +kernel
theorem dX7_set_19 : decode cX7_set 19 = .ok (.iastore, 1) := by decide +kernel
theorem dX7_set_20 : decode cX7_set 20 = .ok (.return_, 1) := by decide +kernel
def f_X7_set (V : Mem) (i : Nat) (N : Nat) (a1 : Int32) (a2 : Int32) : Option Mem :=
  if a1 < 0 then
    some V
  else
    if (nI N) ≤ a1 then
      some V
    else
      if ib a1 N = true then
        lt (stv V (i + 1) a1.toNatClampNeg a2) fun V19 =>
        some V19
      else none
theorem cv_X7_set : CalV yX7_set cX7_set 3 none 2 := ⟨⟨⟨by decide +kernel, by decide +kernel⟩, tw_1_4, tw_3_137, by decide +kernel⟩, tw_3_135, tw_3_136⟩
set_option maxRecDepth 100000 in
set_option maxHeartbeats 4000000 in
theorem m_X7_set (l : Launch) (E : En) (ad : Nat → Nat) (V : Mem) (i : Nat) (N : Nat) (a1 : Int32) (a2 : Int32) (hr : RowAt E ad i N) (Vz : Mem) (hf : f_X7_set V i N a1 a2 = some Vz) : MR l E ad yX7_set cX7_set 3 none 1 [.ref (ad i), .int a1, .int a2] V none Vz := by
  refine ent (E := E) (ad := ad) (V := V) "LetterRepository$Row" (by decide +kernel) rfl (Nat.le_of_ble_eq_true rfl) ?_
  intro p e s m below meth c ls hC hI hl
  have hx := hC.1
  have hb := hC.2.1
  have hl : lv_has ls 3 [(0, .ref (ad i)), (1, .int a1), (2, .int a2)] := hl
  unfold f_X7_set at hf
  refine lv_iload_n hx hb dX7_set_0 rfl (lv_at hl 1 rfl) ?_
  refine lv_if_lt (tgt := 20) hx hb dX7_set_1 (by decide) (fun c1 => ?_) (fun c1 => ?_)
  · have hf := gt hf c1
    exact r_vret2 hC hI hf dX7_set_20
  · have hf := gf hf c1
    refine lv_iload_n hx hb dX7_set_4 rfl (lv_at hl 1 rfl) ?_
    refine lv_aload_n hx hb dX7_set_5 rfl (lv_at hl 0 rfl) ?_
    refine r_rowc hr hC hI tw_1_60 dX7_set_6 ?_
    refine r_rowlen hr hC hI dX7_set_9 ?_
    refine lv_icmp_ge (tgt := 20) hx hb dX7_set_10 (by decide) (fun c10 => ?_) (fun c10 => ?_)
    · have hf := gt hf c10
      exact r_vret2 hC hI hf dX7_set_20
    · have hf := gf hf c10
      refine lv_aload_n hx hb dX7_set_13 rfl (lv_at hl 0 rfl) ?_
      refine r_rowc hr hC hI tw_1_60 dX7_set_14 ?_
      refine lv_iload_n hx hb dX7_set_17 rfl (lv_at hl 1 rfl) ?_
      refine lv_iload_n hx hb dX7_set_18 rfl (lv_at hl 2 rfl) ?_
      obtain ⟨h19, hf⟩ := gi hf
      obtain ⟨V19, e19, hf⟩ := gl hf
      refine r_rowst hr hC hI (ib_in h19) e19 dX7_set_19 (fun H locs hI => ?_)
      exact r_vret2 hC hI hf dX7_set_20
theorem k_X7_set {p : Program} {l : Launch} {e : Env} {R : Room} {cells slots : Nat} {s : State} {m : MethodId} {args : Array Value} {below : List Frame} {meth : Method} {c : Code} {H : Heap} {locs : List Loc} {Q : State → Prop} {E : En} {ad : Nat → Nat} {V : Mem} {ow : String} {b : ByteArray} {n : Nat} {ret : Option FieldType} {pc index : Nat} {ls : Array Slot} {rest : List Value} {i : Nat} {N : Nat} {a1 : Int32} {a2 : Int32} {V1 : Mem} (hr : RowAt E ad i N) (hC : Cx p s m args c meth E ow b n ret) (hI : In E ad V s H locs) (hsz : ls.size = n) (hf : f_X7_set V i N a1 a2 = some V1) (hl : Cond.methodLink ow index yX7_set ∈ TB) (hR : 1 + 1 ≤ R.frames ∧ 8 + (3 + 11) + 40 * 1 ≤ R.locals) (hcs : cells ≤ R.cells ∧ slots ≤ R.slots) (hw : (rest.map fun v => v.category).sum ≤ 8) (hdg : decode b pc = .ok (.invokevirtual index, 3)) (kk : ∀ (H1 : Heap) (locs1 : List Loc), In E ad V1 s H1 locs1 → W p l e R s m args below meth c H1 locs1 cells slots Q (F0 m (pc + 3) ls (rest))) : W p l e R s m args below meth c H locs cells slots Q (F0 m pc ls (.int a2 :: .int a1 :: .ref (ad i) :: rest)) :=
  r_calVv (As := [.int a1, .int a2]) (rest := rest) hC hI hsz (m_X7_set l E ad V i N a1 a2 hr _ hf) cv_X7_set hl hr.1.1 (fun sa => hr.2.2.1 sa _) rfl rfl rfl hR hcs hw hdg kk

theorem dX1_addArgument_0 : decode cX1_addArgument 0 = .ok (.aload_n 0, 1) := by decide +kernel
theorem dX1_addArgument_1 : decode cX1_addArgument 1 = .ok (.getfield 14, 3) := by decide +kernel
theorem dX1_addArgument_4 : decode cX1_addArgument 4 = .ok (.aload_n 0, 1) := by decide +kernel
theorem dX1_addArgument_5 : decode cX1_addArgument 5 = .ok (.getfield 29, 3) := by decide +kernel
theorem dX1_addArgument_8 : decode cX1_addArgument 8 = .ok (.iload_n 1, 1) := by decide +kernel
theorem dX1_addArgument_9 : decode cX1_addArgument 9 = .ok (.invokevirtual 33, 3) := by decide +kernel
theorem dX1_addArgument_12 : decode cX1_addArgument 12 = .ok (.aload_n 0, 1) := by decide +kernel
theorem dX1_addArgument_13 : decode cX1_addArgument 13 = .ok (.dup, 1) := by decide +kernel
theorem dX1_addArgument_14 : decode cX1_addArgument 14 = .ok (.getfield 29, 3) := by decide +kernel
theorem dX1_addArgument_17 : decode cX1_addArgument 17 = .ok (.iconst 1, 1) := by decide +kernel
theorem dX1_addArgument_18 : decode cX1_addArgument 18 = .ok (.iadd, 1) := by decide +kernel
theorem dX1_addArgument_19 : decode cX1_addArgument 19 = .ok (.putfield 29, 3) := by decide +kernel
theorem dX1_addArgument_22 : decode cX1_addArgument 22 = .ok (.return_, 1) := by decide +kernel
def f_X1_addArgument (V : Mem) (q : Nat) (a1 : Int32) : Option Mem :=
  bv (f_X7_set V (224 + 3 * q + 1) 3 (V (224 + 3 * q) 0) a1) fun V9 =>
  lt (stv V9 (224 + 3 * q) 0 ((V9 (224 + 3 * q) 0) + 1)) fun V19 =>
  some V19
theorem cv_X1_addArgument : CalV yX1_addArgument cX1_addArgument 2 none 1 := ⟨⟨⟨by decide +kernel, by decide +kernel⟩, tw_1_7, tw_7_83, by decide +kernel⟩, tw_7_81, tw_7_82⟩
set_option maxRecDepth 100000 in
set_option maxHeartbeats 4000000 in
theorem m_X1_addArgument (l : Launch) (E : En) (ad : Nat → Nat) (V : Mem) (q : Nat) (a1 : Int32) (hq : q < 8) (Vz : Mem) (hf : f_X1_addArgument V q a1 = some Vz) : MR l E ad yX1_addArgument cX1_addArgument 2 none 2 [.ref (ad (224 + 3 * q)), .int a1] V none Vz := by
  refine ent (E := E) (ad := ad) (V := V) "LetterRepository$Command" (by decide +kernel) rfl (Nat.le_of_ble_eq_true rfl) ?_
  intro p e s m below meth c ls hC hI hl
  have hx := hC.1
  have hb := hC.2.1
  have hl : lv_has ls 2 [(0, .ref (ad (224 + 3 * q))), (1, .int a1)] := hl
  unfold f_X1_addArgument at hf
  refine lv_aload_n hx hb dX1_addArgument_0 rfl (lv_at hl 0 rfl) ?_
  refine g_C_arguments hq hC hI tw_1_154 dX1_addArgument_1 ?_
  refine lv_aload_n hx hb dX1_addArgument_4 rfl (lv_at hl 0 rfl) ?_
  refine g_C_size hq hC hI tw_1_157 dX1_addArgument_5 ?_
  refine lv_iload_n hx hb dX1_addArgument_8 rfl (lv_at hl 1 rfl) ?_
  obtain ⟨V9, q9, hf⟩ := gbv hf
  refine k_X7_set (rowC hq) hC hI hl.1 q9 tw_7_84 ⟨Nat.le_of_ble_eq_true rfl, Nat.le_of_ble_eq_true rfl⟩ ⟨Nat.le_refl _, Nat.le_refl _⟩ (Nat.le_of_ble_eq_true rfl) dX1_addArgument_9 (fun H locs hI => ?_)
  refine lv_aload_n hx hb dX1_addArgument_12 rfl (lv_at hl 0 rfl) ?_
  refine lv_dup hx hb dX1_addArgument_13 rfl ?_
  refine g_C_size hq hC hI tw_1_157 dX1_addArgument_14 ?_
  refine lv_iconst (v := 1) hx hb dX1_addArgument_17 rfl ?_
  refine lv_iadd hx hb dX1_addArgument_18 ?_
  obtain ⟨V19, e19, hf⟩ := gl hf
  refine p_C_size hq hC hI  e19 tw_1_157 dX1_addArgument_19 (fun H locs hI => ?_)
  exact r_vret2 hC hI hf dX1_addArgument_22
theorem k_X1_addArgument {p : Program} {l : Launch} {e : Env} {R : Room} {cells slots : Nat} {s : State} {m : MethodId} {args : Array Value} {below : List Frame} {meth : Method} {c : Code} {H : Heap} {locs : List Loc} {Q : State → Prop} {E : En} {ad : Nat → Nat} {V : Mem} {ow : String} {b : ByteArray} {n : Nat} {ret : Option FieldType} {pc index : Nat} {ls : Array Slot} {rest : List Value} {q : Nat} {a1 : Int32} {V1 : Mem} (hq : q < 8) (hC : Cx p s m args c meth E ow b n ret) (hI : In E ad V s H locs) (hsz : ls.size = n) (hf : f_X1_addArgument V q a1 = some V1) (hl : Cond.methodLink ow index yX1_addArgument ∈ TB) (hR : 2 + 1 ≤ R.frames ∧ 8 + (2 + 11) + 40 * 2 ≤ R.locals) (hcs : cells ≤ R.cells ∧ slots ≤ R.slots) (hw : (rest.map fun v => v.category).sum ≤ 8) (hdg : decode b pc = .ok (.invokevirtual index, 3)) (kk : ∀ (H1 : Heap) (locs1 : List Loc), In E ad V1 s H1 locs1 → W p l e R s m args below meth c H1 locs1 cells slots Q (F0 m (pc + 3) ls (rest))) : W p l e R s m args below meth c H locs cells slots Q (F0 m pc ls (.int a1 :: .ref (ad (224 + 3 * q)) :: rest)) :=
  r_calVv (As := [.int a1]) (rest := rest) hC hI hsz (m_X1_addArgument l E ad V q a1 hq _ hf) cv_X1_addArgument hl (by omega) (ceC_0 hq _) rfl rfl rfl hR hcs hw hdg kk

theorem dX7_get_0 : decode cX7_get 0 = .ok (.iload_n 1, 1) := by decide +kernel
theorem dX7_get_1 : decode cX7_get 1 = .ok (.ifCond .lt 21, 3) := by decide +kernel
theorem dX7_get_4 : decode cX7_get 4 = .ok (.iload_n 1, 1) := by decide +kernel
theorem dX7_get_5 : decode cX7_get 5 = .ok (.aload_n 0, 1) := by decide +kernel
theorem dX7_get_6 : decode cX7_get 6 = .ok (.getfield 9, 3) := by decide +kernel
theorem dX7_get_9 : decode cX7_get 9 = .ok (.arraylength, 1) := by decide +kernel
theorem dX7_get_10 : decode cX7_get 10 = .ok (.if_icmp .ge 12, 3) := by decide +kernel
theorem dX7_get_13 : decode cX7_get 13 = .ok (.aload_n 0, 1) := by decide +kernel
theorem dX7_get_14 : decode cX7_get 14 = .ok (.getfield 9, 3) := by decide +kernel
theorem dX7_get_17 : decode cX7_get 17 = .ok (.iload_n 1, 1) := by decide +kernel
theorem dX7_get_18 : decode cX7_get 18 = .ok (.iaload, 1) := by decide +kernel
theorem dX7_get_19 : decode cX7_get 19 = .ok (.goto 4, 3) := by decide +kernel
theorem dX7_get_22 : decode cX7_get 22 = .ok (.iconst (-1), 1) := by decide +kernel
theorem dX7_get_23 : decode cX7_get 23 = .ok (.ireturn, 1) := by decide +kernel
def f_X7_get (V : Mem) (i : Nat) (N : Nat) (a1 : Int32) : Option (Int32 × Mem) :=
  if a1 < 0 then
    some ((-1), V)
  else
    if (nI N) ≤ a1 then
      some ((-1), V)
    else
      if ib a1 N = true then
        some ((V (i + 1) a1.toNatClampNeg), V)
      else none
theorem cv_X7_get : CalV yX7_get cX7_get 2 (some .int) 1 := ⟨⟨⟨by decide +kernel, by decide +kernel⟩, tw_1_4, tw_2_62, by decide +kernel⟩, tw_2_60, tw_2_61⟩
set_option maxRecDepth 100000 in
set_option maxHeartbeats 4000000 in
theorem m_X7_get (l : Launch) (E : En) (ad : Nat → Nat) (V : Mem) (i : Nat) (N : Nat) (a1 : Int32) (hr : RowAt E ad i N) (r : Int32) (Vz : Mem) (hf : f_X7_get V i N a1 = some (r, Vz)) : MR l E ad yX7_get cX7_get 2 (some .int) 1 [.ref (ad i), .int a1] V (some (.int r)) Vz := by
  refine ent (E := E) (ad := ad) (V := V) "LetterRepository$Row" (by decide +kernel) rfl (Nat.le_of_ble_eq_true rfl) ?_
  intro p e s m below meth c ls hC hI hl
  have hx := hC.1
  have hb := hC.2.1
  have hl : lv_has ls 2 [(0, .ref (ad i)), (1, .int a1)] := hl
  unfold f_X7_get at hf
  refine lv_iload_n hx hb dX7_get_0 rfl (lv_at hl 1 rfl) ?_
  refine lv_if_lt (tgt := 22) hx hb dX7_get_1 (by decide) (fun c1 => ?_) (fun c1 => ?_)
  · have hf := gt hf c1
    refine lv_iconst (v := (-1)) hx hb dX7_get_22 rfl ?_
    exact r_iret2 hC hI hf dX7_get_23
  · have hf := gf hf c1
    refine lv_iload_n hx hb dX7_get_4 rfl (lv_at hl 1 rfl) ?_
    refine lv_aload_n hx hb dX7_get_5 rfl (lv_at hl 0 rfl) ?_
    refine r_rowc hr hC hI tw_1_60 dX7_get_6 ?_
    refine r_rowlen hr hC hI dX7_get_9 ?_
    refine lv_icmp_ge (tgt := 22) hx hb dX7_get_10 (by decide) (fun c10 => ?_) (fun c10 => ?_)
    · have hf := gt hf c10
      refine lv_iconst (v := (-1)) hx hb dX7_get_22 rfl ?_
      exact r_iret2 hC hI hf dX7_get_23
    · have hf := gf hf c10
      refine lv_aload_n hx hb dX7_get_13 rfl (lv_at hl 0 rfl) ?_
      refine r_rowc hr hC hI tw_1_60 dX7_get_14 ?_
      refine lv_iload_n hx hb dX7_get_17 rfl (lv_at hl 1 rfl) ?_
      obtain ⟨h18, hf⟩ := gi hf
      refine r_rowld hr hC hI (ib_in h18) dX7_get_18 ?_
      refine lv_goto (tgt := 23) hx hb dX7_get_19 (by decide) ?_
      exact r_iret2 hC hI hf dX7_get_23
theorem k_X7_get {p : Program} {l : Launch} {e : Env} {R : Room} {cells slots : Nat} {s : State} {m : MethodId} {args : Array Value} {below : List Frame} {meth : Method} {c : Code} {H : Heap} {locs : List Loc} {Q : State → Prop} {E : En} {ad : Nat → Nat} {V : Mem} {ow : String} {b : ByteArray} {n : Nat} {ret : Option FieldType} {pc index : Nat} {ls : Array Slot} {rest : List Value} {i : Nat} {N : Nat} {a1 : Int32} {r : Int32} {V1 : Mem} (hr : RowAt E ad i N) (hC : Cx p s m args c meth E ow b n ret) (hI : In E ad V s H locs) (hsz : ls.size = n) (hf : f_X7_get V i N a1 = some (r, V1)) (hl : Cond.methodLink ow index yX7_get ∈ TB) (hR : 1 + 1 ≤ R.frames ∧ 8 + (2 + 11) + 40 * 1 ≤ R.locals) (hcs : cells ≤ R.cells ∧ slots ≤ R.slots) (hw : (rest.map fun v => v.category).sum ≤ 8) (hdg : decode b pc = .ok (.invokevirtual index, 3)) (kk : ∀ (H1 : Heap) (locs1 : List Loc), In E ad V1 s H1 locs1 → W p l e R s m args below meth c H1 locs1 cells slots Q (F0 m (pc + 3) ls ((.int r) :: rest))) : W p l e R s m args below meth c H locs cells slots Q (F0 m pc ls (.int a1 :: .ref (ad i) :: rest)) :=
  r_calV (As := [.int a1]) (rest := rest) hC hI hsz (m_X7_get l E ad V i N a1 hr r _ hf) cv_X7_get hl hr.1.1 (fun sa => hr.2.2.1 sa _) rfl rfl rfl hR hcs hw hdg kk

theorem dX1_argument_0 : decode cX1_argument 0 = .ok (.aload_n 0, 1) := by decide +kernel
theorem dX1_argument_1 : decode cX1_argument 1 = .ok (.getfield 14, 3) := by decide +kernel
theorem dX1_argument_4 : decode cX1_argument 4 = .ok (.iload_n 1, 1) := by decide +kernel
theorem dX1_argument_5 : decode cX1_argument 5 = .ok (.invokevirtual 36, 3) := by decide +kernel
theorem dX1_argument_8 : decode cX1_argument 8 = .ok (.ireturn, 1) := by decide +kernel
def f_X1_argument (V : Mem) (q : Nat) (a1 : Int32) : Option (Int32 × Mem) :=
  bd (f_X7_get V (224 + 3 * q + 1) 3 a1) fun r5 V5 =>
  some (r5, V5)
theorem cv_X1_argument : CalV yX1_argument cX1_argument 2 (some .int) 1 := ⟨⟨⟨by decide +kernel, by decide +kernel⟩, tw_1_7, tw_7_103, by decide +kernel⟩, tw_7_101, tw_7_102⟩
set_option maxRecDepth 100000 in
set_option maxHeartbeats 4000000 in
theorem m_X1_argument (l : Launch) (E : En) (ad : Nat → Nat) (V : Mem) (q : Nat) (a1 : Int32) (hq : q < 8) (r : Int32) (Vz : Mem) (hf : f_X1_argument V q a1 = some (r, Vz)) : MR l E ad yX1_argument cX1_argument 2 (some .int) 2 [.ref (ad (224 + 3 * q)), .int a1] V (some (.int r)) Vz := by
  refine ent (E := E) (ad := ad) (V := V) "LetterRepository$Command" (by decide +kernel) rfl (Nat.le_of_ble_eq_true rfl) ?_
  intro p e s m below meth c ls hC hI hl
  have hx := hC.1
  have hb := hC.2.1
  have hl : lv_has ls 2 [(0, .ref (ad (224 + 3 * q))), (1, .int a1)] := hl
  unfold f_X1_argument at hf
  refine lv_aload_n hx hb dX1_argument_0 rfl (lv_at hl 0 rfl) ?_
  refine g_C_arguments hq hC hI tw_1_154 dX1_argument_1 ?_
  refine lv_iload_n hx hb dX1_argument_4 rfl (lv_at hl 1 rfl) ?_
  obtain ⟨r5, V5, q5, hf⟩ := gbd hf
  refine k_X7_get (rowC hq) hC hI hl.1 q5 tw_7_104 ⟨Nat.le_of_ble_eq_true rfl, Nat.le_of_ble_eq_true rfl⟩ ⟨Nat.le_refl _, Nat.le_refl _⟩ (Nat.le_of_ble_eq_true rfl) dX1_argument_5 (fun H locs hI => ?_)
  exact r_iret2 hC hI hf dX1_argument_8
theorem k_X1_argument {p : Program} {l : Launch} {e : Env} {R : Room} {cells slots : Nat} {s : State} {m : MethodId} {args : Array Value} {below : List Frame} {meth : Method} {c : Code} {H : Heap} {locs : List Loc} {Q : State → Prop} {E : En} {ad : Nat → Nat} {V : Mem} {ow : String} {b : ByteArray} {n : Nat} {ret : Option FieldType} {pc index : Nat} {ls : Array Slot} {rest : List Value} {q : Nat} {a1 : Int32} {r : Int32} {V1 : Mem} (hq : q < 8) (hC : Cx p s m args c meth E ow b n ret) (hI : In E ad V s H locs) (hsz : ls.size = n) (hf : f_X1_argument V q a1 = some (r, V1)) (hl : Cond.methodLink ow index yX1_argument ∈ TB) (hR : 2 + 1 ≤ R.frames ∧ 8 + (2 + 11) + 40 * 2 ≤ R.locals) (hcs : cells ≤ R.cells ∧ slots ≤ R.slots) (hw : (rest.map fun v => v.category).sum ≤ 8) (hdg : decode b pc = .ok (.invokevirtual index, 3)) (kk : ∀ (H1 : Heap) (locs1 : List Loc), In E ad V1 s H1 locs1 → W p l e R s m args below meth c H1 locs1 cells slots Q (F0 m (pc + 3) ls ((.int r) :: rest))) : W p l e R s m args below meth c H locs cells slots Q (F0 m pc ls (.int a1 :: .ref (ad (224 + 3 * q)) :: rest)) :=
  r_calV (As := [.int a1]) (rest := rest) hC hI hsz (m_X1_argument l E ad V q a1 hq r _ hf) cv_X1_argument hl (by omega) (ceC_0 hq _) rfl rfl rfl hR hcs hw hdg kk

theorem dX2_slotAt_0 : decode cX2_slotAt 0 = .ok (.iload_n 1, 1) := by decide +kernel
theorem dX2_slotAt_1 : decode cX2_slotAt 1 = .ok (.ifCond .lt 21, 3) := by decide +kernel
theorem dX2_slotAt_4 : decode cX2_slotAt 4 = .ok (.iload_n 1, 1) := by decide +kernel
theorem dX2_slotAt_5 : decode cX2_slotAt 5 = .ok (.aload_n 0, 1) := by decide +kernel
theorem dX2_slotAt_6 : decode cX2_slotAt 6 = .ok (.getfield 11, 3) := by decide +kernel
theorem dX2_slotAt_9 : decode cX2_slotAt 9 = .ok (.arraylength, 1) := by decide +kernel
theorem dX2_slotAt_10 : decode cX2_slotAt 10 = .ok (.if_icmp .ge 12, 3) := by decide +kernel
theorem dX2_slotAt_13 : decode cX2_slotAt 13 = .ok (.aload_n 0, 1) := by decide +kernel
theorem dX2_slotAt_14 : decode cX2_slotAt 14 = .ok (.getfield 11, 3) := by decide +kernel
theorem dX2_slotAt_17 : decode cX2_slotAt 17 = .ok (.iload_n 1, 1) := by decide +kernel
theorem dX2_slotAt_18 : decode cX2_slotAt 18 = .ok (.aaload, 1) := by decide +kernel
theorem dX2_slotAt_19 : decode cX2_slotAt 19 = .ok (.goto 4, 3) := by decide +kernel
theorem dX2_slotAt_22 : decode cX2_slotAt 22 = .ok (.aconst_null, 1) := by decide +kernel
theorem dX2_slotAt_23 : decode cX2_slotAt 23 = .ok (.areturn, 1) := by decide +kernel
def f_X2_slotAt (V : Mem) (a1 : Int32) : Option ((Option Nat) × Mem) :=
  jn (α := Mem → Option ((Option Nat) × Mem)) (fun j22 =>
    if a1 < 0 then
      j22 V
    else
      if (nI 9) ≤ a1 then
        j22 V
      else
        if ib a1 9 = true then
          some (some (a1.toNatClampNeg + 2), V)
        else none
  ) (fun (V22 : Mem) =>
    some (none, V22)
  )
theorem cv_X2_slotAt : CalV yX2_slotAt cX2_slotAt 2 (some (.object "LetterRepository$Store")) 1 := ⟨⟨⟨by decide +kernel, by decide +kernel⟩, tw_1_5, tw_2_16, by decide +kernel⟩, tw_2_15, tp_1⟩
set_option maxRecDepth 100000 in
set_option maxHeartbeats 4000000 in
theorem m_X2_slotAt (l : Launch) (E : En) (ad : Nat → Nat) (V : Mem) (a1 : Int32) (r : (Option Nat)) (Vz : Mem) (hf : f_X2_slotAt V a1 = some (r, Vz)) : MR l E ad yX2_slotAt cX2_slotAt 2 (some (.object "LetterRepository$Store")) 1 [.ref (ad 220), .int a1] V (some (va_rf (r.map (fun k => ad (20 * k))))) Vz := by
  refine ent (E := E) (ad := ad) (V := V) "LetterRepository$History" (by decide +kernel) rfl (Nat.le_of_ble_eq_true rfl) ?_
  intro p e s m below meth c ls hC hI hl
  have hx := hC.1
  have hb := hC.2.1
  have hl : lv_has ls 2 [(0, .ref (ad 220)), (1, .int a1)] := hl
  unfold f_X2_slotAt at hf
  refine lv_iload_n hx hb dX2_slotAt_0 rfl (lv_at hl 1 rfl) ?_
  obtain ⟨j22, hj22, hf⟩ := gj hf
  have J22 : ∀ (V22 : Mem) (H : Heap) (locs : List Loc) (ls : Array Slot), j22 V22 = some (r, Vz) → In E ad V22 s H locs → lv_has ls 2 [] → W p l e (rmd 1) s m ([.ref (ad 220), .int a1] : List Value).toArray below meth c H locs 0 0 (MQ below (QR E ad (some (va_rf (r.map (fun k => ad (20 * k))))) Vz) ([.ref (ad 220), .int a1] : List Value).toArray s 0 0 (ours E)) (F0 m 22 ls []) := by
    intro V22 H locs ls hf hI hl
    rw [hj22] at hf
    dsimp only at hf
    refine lv_null hx hb dX2_slotAt_22 ?_
    exact r_aretN hC hI hf dX2_slotAt_23
  refine lv_if_lt (tgt := 22) hx hb dX2_slotAt_1 (by decide) (fun c1 => ?_) (fun c1 => ?_)
  · have hf := gt hf c1
    exact J22 _ _ _ _ hf hI (lv_sub hl [] rfl)
  · have hf := gf hf c1
    refine lv_iload_n hx hb dX2_slotAt_4 rfl (lv_at hl 1 rfl) ?_
    refine lv_aload_n hx hb dX2_slotAt_5 rfl (lv_at hl 0 rfl) ?_
    refine g_220_slots hC hI tw_1_126 dX2_slotAt_6 ?_
    refine la_221 hC hI dX2_slotAt_9 ?_
    refine lv_icmp_ge (tgt := 22) hx hb dX2_slotAt_10 (by decide) (fun c10 => ?_) (fun c10 => ?_)
    · have hf := gt hf c10
      exact J22 _ _ _ _ hf hI (lv_sub hl [] rfl)
    · have hf := gf hf c10
      refine lv_aload_n hx hb dX2_slotAt_13 rfl (lv_at hl 0 rfl) ?_
      refine g_220_slots hC hI tw_1_126 dX2_slotAt_14 ?_
      refine lv_iload_n hx hb dX2_slotAt_17 rfl (lv_at hl 1 rfl) ?_
      obtain ⟨h18, hf⟩ := gi hf
      refine ra_221 hC hI (ib_in h18) dX2_slotAt_18 ?_
      refine lv_goto (tgt := 23) hx hb dX2_slotAt_19 (by decide) ?_
      exact r_aretQ (t := fun k => ad (20 * k)) (k := (a1.toNatClampNeg + 2)) hC hI hf dX2_slotAt_23
theorem k_X2_slotAt {p : Program} {l : Launch} {e : Env} {R : Room} {cells slots : Nat} {s : State} {m : MethodId} {args : Array Value} {below : List Frame} {meth : Method} {c : Code} {H : Heap} {locs : List Loc} {Q : State → Prop} {E : En} {ad : Nat → Nat} {V : Mem} {ow : String} {b : ByteArray} {n : Nat} {ret : Option FieldType} {pc index : Nat} {ls : Array Slot} {rest : List Value} {a1 : Int32} {r : (Option Nat)} {V1 : Mem} (hC : Cx p s m args c meth E ow b n ret) (hI : In E ad V s H locs) (hsz : ls.size = n) (hf : f_X2_slotAt V a1 = some (r, V1)) (hl : Cond.methodLink ow index yX2_slotAt ∈ TB) (hR : 1 + 1 ≤ R.frames ∧ 8 + (2 + 11) + 40 * 1 ≤ R.locals) (hcs : cells ≤ R.cells ∧ slots ≤ R.slots) (hw : (rest.map fun v => v.category).sum ≤ 8) (hdg : decode b pc = .ok (.invokevirtual index, 3)) (kk : ∀ (H1 : Heap) (locs1 : List Loc), In E ad V1 s H1 locs1 → W p l e R s m args below meth c H1 locs1 cells slots Q (F0 m (pc + 3) ls ((va_rf (r.map (fun k => ad (20 * k)))) :: rest))) : W p l e R s m args below meth c H locs cells slots Q (F0 m pc ls (.int a1 :: .ref (ad 220) :: rest)) :=
  r_calV (As := [.int a1]) (rest := rest) hC hI hsz (m_X2_slotAt l E ad V a1 r _ hf) cv_X2_slotAt hl (by decide) (ce_220 _) rfl rfl rfl hR hcs hw hdg kk

theorem dX7_copyFrom_0 : decode cX7_copyFrom 0 = .ok (.aload_n 1, 1) := by decide +kernel
theorem dX7_copyFrom_1 : decode cX7_copyFrom 1 = .ok (.getfield 9, 3) := by decide +kernel
theorem dX7_copyFrom_4 : decode cX7_copyFrom 4 = .ok (.iconst 0, 1) := by decide +kernel
theorem dX7_copyFrom_5 : decode cX7_copyFrom 5 = .ok (.aload_n 0, 1) := by decide +kernel
theorem dX7_copyFrom_6 : decode cX7_copyFrom 6 = .ok (.getfield 9, 3) := by decide +kernel
theorem dX7_copyFrom_9 : decode cX7_copyFrom 9 = .ok (.iconst 0, 1) := by decide +kernel
theorem dX7_copyFrom_10 : decode cX7_copyFrom 10 = .ok (.aload_n 1, 1) := by decide +kernel
theorem dX7_copyFrom_11 : decode cX7_copyFrom 11 = .ok (.getfield 9, 3) := by decide +kernel
theorem dX7_copyFrom_14 : decode cX7_copyFrom 14 = .ok (.arraylength, 1) := by decide +kernel
theorem dX7_copyFrom_15 : decode cX7_copyFrom 15 = .ok (.aload_n 0, 1) := by decide +kernel
theorem dX7_copyFrom_16 : decode cX7_copyFrom 16 = .ok (.getfield 9, 3) := by decide +kernel
theorem dX7_copyFrom_19 : decode cX7_copyFrom 19 = .ok (.arraylength, 1) := by decide +kernel
theorem dX7_copyFrom_20 : decode cX7_copyFrom 20 = .ok (.invokestatic 15, 3) := by decide +kernel
theorem dX7_copyFrom_23 : decode cX7_copyFrom 23 = .ok (.invokestatic 21, 3) := by decide +kernel
theorem dX7_copyFrom_26 : decode cX7_copyFrom 26 = .ok (.return_, 1) := by decide +kernel
def f_X7_copyFrom (V : Mem) (i : Nat) (N : Nat) (i2 : Nat) (N2 : Nat) : Option Mem :=
  if cpOk 0 0 (if (nI N) < (nI N2) then (nI N) else (nI N2)) N2 N = true then
    lt (va_up V (i + 1) (va_cpy (V (i2 + 1)) (V (i + 1)) (0 : Int32).toNatClampNeg (0 : Int32).toNatClampNeg ((if (nI N) < (nI N2) then (nI N) else (nI N2)) : Int32).toNatClampNeg)) fun V23 =>
    some V23
  else none
theorem cv_X7_copyFrom : CalV yX7_copyFrom cX7_copyFrom 2 none 1 := ⟨⟨⟨by decide +kernel, by decide +kernel⟩, tw_1_4, tw_2_28, by decide +kernel⟩, tw_2_26, tw_2_27⟩
set_option maxRecDepth 100000 in
set_option maxHeartbeats 4000000 in
theorem m_X7_copyFrom (l : Launch) (E : En) (ad : Nat → Nat) (V : Mem) (i : Nat) (N : Nat) (i2 : Nat) (N2 : Nat) (hr : RowAt E ad i N) (hr2 : RowAt E ad i2 N2) (Vz : Mem) (hf : f_X7_copyFrom V i N i2 N2 = some Vz) : MR l E ad yX7_copyFrom cX7_copyFrom 2 none 1 [.ref (ad i), .ref (ad i2)] V none Vz := by
  refine ent (E := E) (ad := ad) (V := V) "LetterRepository$Row" (by decide +kernel) rfl (Nat.le_of_ble_eq_true rfl) ?_
  intro p e s m below meth c ls hC hI hl
  have hx := hC.1
  have hb := hC.2.1
  have hl : lv_has ls 2 [(0, .ref (ad i)), (1, .ref (ad i2))] := hl
  unfold f_X7_copyFrom at hf
  refine lv_aload_n hx hb dX7_copyFrom_0 rfl (lv_at hl 1 rfl) ?_
  refine r_rowc hr2 hC hI tw_1_60 dX7_copyFrom_1 ?_
  refine lv_iconst (v := 0) hx hb dX7_copyFrom_4 rfl ?_
  refine lv_aload_n hx hb dX7_copyFrom_5 rfl (lv_at hl 0 rfl) ?_
  refine r_rowc hr hC hI tw_1_60 dX7_copyFrom_6 ?_
  refine lv_iconst (v := 0) hx hb dX7_copyFrom_9 rfl ?_
  refine lv_aload_n hx hb dX7_copyFrom_10 rfl (lv_at hl 1 rfl) ?_
  refine r_rowc hr2 hC hI tw_1_60 dX7_copyFrom_11 ?_
  refine r_rowlen hr2 hC hI dX7_copyFrom_14 ?_
  refine lv_aload_n hx hb dX7_copyFrom_15 rfl (lv_at hl 0 rfl) ?_
  refine r_rowc hr hC hI tw_1_60 dX7_copyFrom_16 ?_
  refine r_rowlen hr hC hI dX7_copyFrom_19 ?_
  refine r_mmin hC hl.1 tw_2_29 ⟨by decide, Nat.le_of_ble_eq_true rfl⟩ ⟨Nat.le_refl _, Nat.le_refl _⟩ dX7_copyFrom_20 ?_
  obtain ⟨h23, hf⟩ := gi hf
  obtain ⟨V23, e23, hf⟩ := gl hf
  refine r_rowcp hr hr2 hC hI hl.1 h23 e23 tw_2_32 ⟨by decide, Nat.le_of_ble_eq_true rfl⟩ dX7_copyFrom_23 (fun H locs hI => ?_)
  exact r_vret2 hC hI hf dX7_copyFrom_26
theorem k_X7_copyFrom {p : Program} {l : Launch} {e : Env} {R : Room} {cells slots : Nat} {s : State} {m : MethodId} {args : Array Value} {below : List Frame} {meth : Method} {c : Code} {H : Heap} {locs : List Loc} {Q : State → Prop} {E : En} {ad : Nat → Nat} {V : Mem} {ow : String} {b : ByteArray} {n : Nat} {ret : Option FieldType} {pc index : Nat} {ls : Array Slot} {rest : List Value} {i : Nat} {N : Nat} {i2 : Nat} {N2 : Nat} {V1 : Mem} (hr : RowAt E ad i N) (hr2 : RowAt E ad i2 N2) (hC : Cx p s m args c meth E ow b n ret) (hI : In E ad V s H locs) (hsz : ls.size = n) (hf : f_X7_copyFrom V i N i2 N2 = some V1) (hl : Cond.methodLink ow index yX7_copyFrom ∈ TB) (hR : 1 + 1 ≤ R.frames ∧ 8 + (2 + 11) + 40 * 1 ≤ R.locals) (hcs : cells ≤ R.cells ∧ slots ≤ R.slots) (hw : (rest.map fun v => v.category).sum ≤ 8) (hdg : decode b pc = .ok (.invokevirtual index, 3)) (kk : ∀ (H1 : Heap) (locs1 : List Loc), In E ad V1 s H1 locs1 → W p l e R s m args below meth c H1 locs1 cells slots Q (F0 m (pc + 3) ls (rest))) : W p l e R s m args below meth c H locs cells slots Q (F0 m pc ls (.ref (ad i2) :: .ref (ad i) :: rest)) :=
  r_calVv (As := [.ref (ad i2)]) (rest := rest) hC hI hsz (m_X7_copyFrom l E ad V i N i2 N2 hr hr2 _ hf) cv_X7_copyFrom hl hr.1.1 (fun sa => hr.2.2.1 sa _) rfl rfl rfl hR hcs hw hdg kk

theorem dX6_copyFrom_0 : decode cX6_copyFrom 0 = .ok (.aload_n 0, 1) := by decide +kernel
theorem dX6_copyFrom_1 : decode cX6_copyFrom 1 = .ok (.getfield 14, 3) := by decide +kernel
theorem dX6_copyFrom_4 : decode cX6_copyFrom 4 = .ok (.aload_n 1, 1) := by decide +kernel
theorem dX6_copyFrom_5 : decode cX6_copyFrom 5 = .ok (.getfield 14, 3) := by decide +kernel
theorem dX6_copyFrom_8 : decode cX6_copyFrom 8 = .ok (.invokevirtual 43, 3) := by decide +kernel
theorem dX6_copyFrom_11 : decode cX6_copyFrom 11 = .ok (.aload_n 0, 1) := by decide +kernel
theorem dX6_copyFrom_12 : decode cX6_copyFrom 12 = .ok (.getfield 20, 3) := by decide +kernel
theorem dX6_copyFrom_15 : decode cX6_copyFrom 15 = .ok (.aload_n 1, 1) := by decide +kernel
theorem dX6_copyFrom_16 : decode cX6_copyFrom 16 = .ok (.getfield 20, 3) := by decide +kernel
theorem dX6_copyFrom_19 : decode cX6_copyFrom 19 = .ok (.invokevirtual 43, 3) := by decide +kernel
theorem dX6_copyFrom_22 : decode cX6_copyFrom 22 = .ok (.aload_n 0, 1) := by decide +kernel
theorem dX6_copyFrom_23 : decode cX6_copyFrom 23 = .ok (.getfield 23, 3) := by decide +kernel
theorem dX6_copyFrom_26 : decode cX6_copyFrom 26 = .ok (.aload_n 1, 1) := by decide +kernel
theorem dX6_copyFrom_27 : decode cX6_copyFrom 27 = .ok (.getfield 23, 3) := by decide +kernel
theorem dX6_copyFrom_30 : decode cX6_copyFrom 30 = .ok (.invokevirtual 43, 3) := by decide +kernel
theorem dX6_copyFrom_33 : decode cX6_copyFrom 33 = .ok (.aload_n 0, 1) := by decide +kernel
theorem dX6_copyFrom_34 : decode cX6_copyFrom 34 = .ok (.getfield 26, 3) := by decide +kernel
theorem dX6_copyFrom_37 : decode cX6_copyFrom 37 = .ok (.aload_n 1, 1) := by decide +kernel
theorem dX6_copyFrom_38 : decode cX6_copyFrom 38 = .ok (.getfield 26, 3) := by decide +kernel
theorem dX6_copyFrom_41 : decode cX6_copyFrom 41 = .ok (.invokevirtual 43, 3) := by decide +kernel
theorem dX6_copyFrom_44 : decode cX6_copyFrom 44 = .ok (.aload_n 0, 1) := by decide +kernel
theorem dX6_copyFrom_45 : decode cX6_copyFrom 45 = .ok (.getfield 33, 3) := by decide +kernel
theorem dX6_copyFrom_48 : decode cX6_copyFrom 48 = .ok (.aload_n 1, 1) := by decide +kernel
theorem dX6_copyFrom_49 : decode cX6_copyFrom 49 = .ok (.getfield 33, 3) := by decide +kernel
theorem dX6_copyFrom_52 : decode cX6_copyFrom 52 = .ok (.invokevirtual 43, 3) := by decide +kernel
theorem dX6_copyFrom_55 : decode cX6_copyFrom 55 = .ok (.aload_n 0, 1) := by decide +kernel
theorem dX6_copyFrom_56 : decode cX6_copyFrom 56 = .ok (.getfield 36, 3) := by decide +kernel
theorem dX6_copyFrom_59 : decode cX6_copyFrom 59 = .ok (.aload_n 1, 1) := by decide +kernel
theorem dX6_copyFrom_60 : decode cX6_copyFrom 60 = .ok (.getfield 36, 3) := by decide +kernel
theorem dX6_copyFrom_63 : decode cX6_copyFrom 63 = .ok (.invokevirtual 43, 3) := by decide +kernel
theorem dX6_copyFrom_66 : decode cX6_copyFrom 66 = .ok (.aload_n 0, 1) := by decide +kernel
theorem dX6_copyFrom_67 : decode cX6_copyFrom 67 = .ok (.aload_n 1, 1) := by decide +kernel
theorem dX6_copyFrom_68 : decode cX6_copyFrom 68 = .ok (.getfield 47, 3) := by decide +kernel
theorem dX6_copyFrom_71 : decode cX6_copyFrom 71 = .ok (.putfield 47, 3) := by decide +kernel
theorem dX6_copyFrom_74 : decode cX6_copyFrom 74 = .ok (.aload_n 0, 1) := by decide +kernel
theorem dX6_copyFrom_75 : decode cX6_copyFrom 75 = .ok (.aload_n 1, 1) := by decide +kernel
theorem dX6_copyFrom_76 : decode cX6_copyFrom 76 = .ok (.getfield 39, 3) := by decide +kernel
theorem dX6_copyFrom_79 : decode cX6_copyFrom 79 = .ok (.putfield 39, 3) := by decide +kernel
theorem dX6_copyFrom_82 : decode cX6_copyFrom 82 = .ok (.return_, 1) := by decide +kernel
def f_X6_copyFrom (V : Mem) (k : Nat) (k2 : Nat) : Option Mem :=
  bv (f_X7_copyFrom V (20 * k + 2) 24 (20 * k2 + 2) 24) fun V8 =>
  bv (f_X7_copyFrom V8 (20 * k + 4) 24 (20 * k2 + 4) 24) fun V19 =>
  bv (f_X7_copyFrom V19 (20 * k + 6) 24 (20 * k2 + 6) 24) fun V30 =>
  bv (f_X7_copyFrom V30 (20 * k + 8) 24 (20 * k2 + 8) 24) fun V41 =>
  bv (f_X7_copyFrom V41 (20 * k + 10) 24 (20 * k2 + 10) 24) fun V52 =>
  bv (f_X7_copyFrom V52 (20 * k + 12) 192 (20 * k2 + 12) 192) fun V63 =>
  lt (stv V63 (20 * k + 1) 0 (V63 (20 * k2 + 1) 0)) fun V71 =>
  lt (stv V71 (20 * k + 1) 1 (V71 (20 * k2 + 1) 1)) fun V79 =>
  some V79
theorem cv_X6_copyFrom : CalV yX6_copyFrom cX6_copyFrom 2 none 1 := ⟨⟨⟨by decide +kernel, by decide +kernel⟩, tw_1_3, tw_2_24, by decide +kernel⟩, tw_2_22, tw_2_23⟩
set_option maxRecDepth 100000 in
set_option maxHeartbeats 4000000 in
theorem m_X6_copyFrom (l : Launch) (E : En) (ad : Nat → Nat) (V : Mem) (k : Nat) (k2 : Nat) (hk : k < 11) (hk2 : k2 < 11) (Vz : Mem) (hf : f_X6_copyFrom V k k2 = some Vz) : MR l E ad yX6_copyFrom cX6_copyFrom 2 none 2 [.ref (ad (20 * k + 1)), .ref (ad (20 * k2 + 1))] V none Vz := by
  refine ent (E := E) (ad := ad) (V := V) "LetterRepository$Revisions" (by decide +kernel) rfl (Nat.le_of_ble_eq_true rfl) ?_
  intro p e s m below meth c ls hC hI hl
  have hx := hC.1
  have hb := hC.2.1
  have hl : lv_has ls 2 [(0, .ref (ad (20 * k + 1))), (1, .ref (ad (20 * k2 + 1)))] := hl
  unfold f_X6_copyFrom at hf
  refine lv_aload_n hx hb dX6_copyFrom_0 rfl (lv_at hl 0 rfl) ?_
  refine g_S1_firstParents hk hC hI tw_1_68 dX6_copyFrom_1 ?_
  refine lv_aload_n hx hb dX6_copyFrom_4 rfl (lv_at hl 1 rfl) ?_
  refine g_S1_firstParents hk2 hC hI tw_1_68 dX6_copyFrom_5 ?_
  obtain ⟨V8, q8, hf⟩ := gbv hf
  refine k_X7_copyFrom (rowS_2 hk) (rowS_2 hk2) hC hI hl.1 q8 tw_2_25 ⟨Nat.le_of_ble_eq_true rfl, Nat.le_of_ble_eq_true rfl⟩ ⟨Nat.le_refl _, Nat.le_refl _⟩ (Nat.le_of_ble_eq_true rfl) dX6_copyFrom_8 (fun H locs hI => ?_)
  refine lv_aload_n hx hb dX6_copyFrom_11 rfl (lv_at hl 0 rfl) ?_
  refine g_S1_secondParents hk hC hI tw_1_69 dX6_copyFrom_12 ?_
  refine lv_aload_n hx hb dX6_copyFrom_15 rfl (lv_at hl 1 rfl) ?_
  refine g_S1_secondParents hk2 hC hI tw_1_69 dX6_copyFrom_16 ?_
  obtain ⟨V19, q19, hf⟩ := gbv hf
  refine k_X7_copyFrom (rowS_4 hk) (rowS_4 hk2) hC hI hl.1 q19 tw_2_25 ⟨Nat.le_of_ble_eq_true rfl, Nat.le_of_ble_eq_true rfl⟩ ⟨Nat.le_refl _, Nat.le_refl _⟩ (Nat.le_of_ble_eq_true rfl) dX6_copyFrom_19 (fun H locs hI => ?_)
  refine lv_aload_n hx hb dX6_copyFrom_22 rfl (lv_at hl 0 rfl) ?_
  refine g_S1_authors hk hC hI tw_1_70 dX6_copyFrom_23 ?_
  refine lv_aload_n hx hb dX6_copyFrom_26 rfl (lv_at hl 1 rfl) ?_
  refine g_S1_authors hk2 hC hI tw_1_70 dX6_copyFrom_27 ?_
  obtain ⟨V30, q30, hf⟩ := gbv hf
  refine k_X7_copyFrom (rowS_6 hk) (rowS_6 hk2) hC hI hl.1 q30 tw_2_25 ⟨Nat.le_of_ble_eq_true rfl, Nat.le_of_ble_eq_true rfl⟩ ⟨Nat.le_refl _, Nat.le_refl _⟩ (Nat.le_of_ble_eq_true rfl) dX6_copyFrom_30 (fun H locs hI => ?_)
  refine lv_aload_n hx hb dX6_copyFrom_33 rfl (lv_at hl 0 rfl) ?_
  refine g_S1_generations hk hC hI tw_1_71 dX6_copyFrom_34 ?_
  refine lv_aload_n hx hb dX6_copyFrom_37 rfl (lv_at hl 1 rfl) ?_
  refine g_S1_generations hk2 hC hI tw_1_71 dX6_copyFrom_38 ?_
  obtain ⟨V41, q41, hf⟩ := gbv hf
  refine k_X7_copyFrom (rowS_8 hk) (rowS_8 hk2) hC hI hl.1 q41 tw_2_25 ⟨Nat.le_of_ble_eq_true rfl, Nat.le_of_ble_eq_true rfl⟩ ⟨Nat.le_refl _, Nat.le_refl _⟩ (Nat.le_of_ble_eq_true rfl) dX6_copyFrom_41 (fun H locs hI => ?_)
  refine lv_aload_n hx hb dX6_copyFrom_44 rfl (lv_at hl 0 rfl) ?_
  refine g_S1_ancestorSets hk hC hI tw_1_72 dX6_copyFrom_45 ?_
  refine lv_aload_n hx hb dX6_copyFrom_48 rfl (lv_at hl 1 rfl) ?_
  refine g_S1_ancestorSets hk2 hC hI tw_1_72 dX6_copyFrom_49 ?_
  obtain ⟨V52, q52, hf⟩ := gbv hf
  refine k_X7_copyFrom (rowS_10 hk) (rowS_10 hk2) hC hI hl.1 q52 tw_2_25 ⟨Nat.le_of_ble_eq_true rfl, Nat.le_of_ble_eq_true rfl⟩ ⟨Nat.le_refl _, Nat.le_refl _⟩ (Nat.le_of_ble_eq_true rfl) dX6_copyFrom_52 (fun H locs hI => ?_)
  refine lv_aload_n hx hb dX6_copyFrom_55 rfl (lv_at hl 0 rfl) ?_
  refine g_S1_letters hk hC hI tw_1_73 dX6_copyFrom_56 ?_
  refine lv_aload_n hx hb dX6_copyFrom_59 rfl (lv_at hl 1 rfl) ?_
  refine g_S1_letters hk2 hC hI tw_1_73 dX6_copyFrom_60 ?_
  obtain ⟨V63, q63, hf⟩ := gbv hf
  refine k_X7_copyFrom (rowS_12 hk) (rowS_12 hk2) hC hI hl.1 q63 tw_2_25 ⟨Nat.le_of_ble_eq_true rfl, Nat.le_of_ble_eq_true rfl⟩ ⟨Nat.le_refl _, Nat.le_refl _⟩ (Nat.le_of_ble_eq_true rfl) dX6_copyFrom_63 (fun H locs hI => ?_)
  refine lv_aload_n hx hb dX6_copyFrom_66 rfl (lv_at hl 0 rfl) ?_
  refine lv_aload_n hx hb dX6_copyFrom_67 rfl (lv_at hl 1 rfl) ?_
  refine g_S1_archived hk2 hC hI tw_1_74 dX6_copyFrom_68 ?_
  obtain ⟨V71, e71, hf⟩ := gl hf
  refine p_S1_archived hk hC hI  e71 tw_1_74 dX6_copyFrom_71 (fun H locs hI => ?_)
  refine lv_aload_n hx hb dX6_copyFrom_74 rfl (lv_at hl 0 rfl) ?_
  refine lv_aload_n hx hb dX6_copyFrom_75 rfl (lv_at hl 1 rfl) ?_
  refine g_S1_count hk2 hC hI tw_1_77 dX6_copyFrom_76 ?_
  obtain ⟨V79, e79, hf⟩ := gl hf
  refine p_S1_count hk hC hI  e79 tw_1_77 dX6_copyFrom_79 (fun H locs hI => ?_)
  exact r_vret2 hC hI hf dX6_copyFrom_82
theorem k_X6_copyFrom {p : Program} {l : Launch} {e : Env} {R : Room} {cells slots : Nat} {s : State} {m : MethodId} {args : Array Value} {below : List Frame} {meth : Method} {c : Code} {H : Heap} {locs : List Loc} {Q : State → Prop} {E : En} {ad : Nat → Nat} {V : Mem} {ow : String} {b : ByteArray} {n : Nat} {ret : Option FieldType} {pc index : Nat} {ls : Array Slot} {rest : List Value} {k : Nat} {k2 : Nat} {V1 : Mem} (hk : k < 11) (hk2 : k2 < 11) (hC : Cx p s m args c meth E ow b n ret) (hI : In E ad V s H locs) (hsz : ls.size = n) (hf : f_X6_copyFrom V k k2 = some V1) (hl : Cond.methodLink ow index yX6_copyFrom ∈ TB) (hR : 2 + 1 ≤ R.frames ∧ 8 + (2 + 11) + 40 * 2 ≤ R.locals) (hcs : cells ≤ R.cells ∧ slots ≤ R.slots) (hw : (rest.map fun v => v.category).sum ≤ 8) (hdg : decode b pc = .ok (.invokevirtual index, 3)) (kk : ∀ (H1 : Heap) (locs1 : List Loc), In E ad V1 s H1 locs1 → W p l e R s m args below meth c H1 locs1 cells slots Q (F0 m (pc + 3) ls (rest))) : W p l e R s m args below meth c H locs cells slots Q (F0 m pc ls (.ref (ad (20 * k2 + 1)) :: .ref (ad (20 * k + 1)) :: rest)) :=
  r_calVv (As := [.ref (ad (20 * k2 + 1))]) (rest := rest) hC hI hsz (m_X6_copyFrom l E ad V k k2 hk hk2 _ hf) cv_X6_copyFrom hl (by omega) (ceS_1 hk _) rfl rfl rfl hR hcs hw hdg kk

theorem dX8_copyFrom_0 : decode cX8_copyFrom 0 = .ok (.aload_n 0, 1) := by decide +kernel
theorem dX8_copyFrom_1 : decode cX8_copyFrom 1 = .ok (.getfield 12, 3) := by decide +kernel
theorem dX8_copyFrom_4 : decode cX8_copyFrom 4 = .ok (.aload_n 1, 1) := by decide +kernel
theorem dX8_copyFrom_5 : decode cX8_copyFrom 5 = .ok (.getfield 12, 3) := by decide +kernel
theorem dX8_copyFrom_8 : decode cX8_copyFrom 8 = .ok (.invokevirtual 37, 3) := by decide +kernel
theorem dX8_copyFrom_11 : decode cX8_copyFrom 11 = .ok (.aload_n 0, 1) := by decide +kernel
theorem dX8_copyFrom_12 : decode cX8_copyFrom 12 = .ok (.getfield 23, 3) := by decide +kernel
theorem dX8_copyFrom_15 : decode cX8_copyFrom 15 = .ok (.aload_n 1, 1) := by decide +kernel
theorem dX8_copyFrom_16 : decode cX8_copyFrom 16 = .ok (.getfield 23, 3) := by decide +kernel
theorem dX8_copyFrom_19 : decode cX8_copyFrom 19 = .ok (.invokevirtual 41, 3) := by decide +kernel
theorem dX8_copyFrom_22 : decode cX8_copyFrom 22 = .ok (.aload_n 0, 1) := by decide +kernel
theorem dX8_copyFrom_23 : decode cX8_copyFrom 23 = .ok (.getfield 27, 3) := by decide +kernel
theorem dX8_copyFrom_26 : decode cX8_copyFrom 26 = .ok (.aload_n 1, 1) := by decide +kernel
theorem dX8_copyFrom_27 : decode cX8_copyFrom 27 = .ok (.getfield 27, 3) := by decide +kernel
theorem dX8_copyFrom_30 : decode cX8_copyFrom 30 = .ok (.invokevirtual 41, 3) := by decide +kernel
theorem dX8_copyFrom_33 : decode cX8_copyFrom 33 = .ok (.aload_n 0, 1) := by decide +kernel
theorem dX8_copyFrom_34 : decode cX8_copyFrom 34 = .ok (.getfield 30, 3) := by decide +kernel
theorem dX8_copyFrom_37 : decode cX8_copyFrom 37 = .ok (.aload_n 1, 1) := by decide +kernel
theorem dX8_copyFrom_38 : decode cX8_copyFrom 38 = .ok (.getfield 30, 3) := by decide +kernel
theorem dX8_copyFrom_41 : decode cX8_copyFrom 41 = .ok (.invokevirtual 41, 3) := by decide +kernel
theorem dX8_copyFrom_44 : decode cX8_copyFrom 44 = .ok (.aload_n 0, 1) := by decide +kernel
theorem dX8_copyFrom_45 : decode cX8_copyFrom 45 = .ok (.aload_n 1, 1) := by decide +kernel
theorem dX8_copyFrom_46 : decode cX8_copyFrom 46 = .ok (.getfield 33, 3) := by decide +kernel
theorem dX8_copyFrom_49 : decode cX8_copyFrom 49 = .ok (.putfield 33, 3) := by decide +kernel
theorem dX8_copyFrom_52 : decode cX8_copyFrom 52 = .ok (.return_, 1) := by decide +kernel
def f_X8_copyFrom (V : Mem) (k : Nat) (k2 : Nat) : Option Mem :=
  bv (f_X6_copyFrom V k k2) fun V8 =>
  bv (f_X7_copyFrom V8 (20 * k + 14) 5 (20 * k2 + 14) 5) fun V19 =>
  bv (f_X7_copyFrom V19 (20 * k + 16) 40 (20 * k2 + 16) 40) fun V30 =>
  bv (f_X7_copyFrom V30 (20 * k + 18) 26 (20 * k2 + 18) 26) fun V41 =>
  lt (stv V41 (20 * k) 0 (V41 (20 * k2) 0)) fun V49 =>
  some V49
theorem cv_X8_copyFrom : CalV yX8_copyFrom cX8_copyFrom 2 none 1 := ⟨⟨⟨by decide +kernel, by decide +kernel⟩, tw_1_2, tw_2_20, by decide +kernel⟩, tw_2_18, tw_2_19⟩
set_option maxRecDepth 100000 in
set_option maxHeartbeats 4000000 in
theorem m_X8_copyFrom (l : Launch) (E : En) (ad : Nat → Nat) (V : Mem) (k : Nat) (k2 : Nat) (hk : k < 11) (hk2 : k2 < 11) (Vz : Mem) (hf : f_X8_copyFrom V k k2 = some Vz) : MR l E ad yX8_copyFrom cX8_copyFrom 2 none 3 [.ref (ad (20 * k)), .ref (ad (20 * k2))] V none Vz := by
  refine ent (E := E) (ad := ad) (V := V) "LetterRepository$Store" (by decide +kernel) rfl (Nat.le_of_ble_eq_true rfl) ?_
  intro p e s m below meth c ls hC hI hl
  have hx := hC.1
  have hb := hC.2.1
  have hl : lv_has ls 2 [(0, .ref (ad (20 * k))), (1, .ref (ad (20 * k2)))] := hl
  unfold f_X8_copyFrom at hf
  refine lv_aload_n hx hb dX8_copyFrom_0 rfl (lv_at hl 0 rfl) ?_
  refine g_S_revisions hk hC hI tw_1_99 dX8_copyFrom_1 ?_
  refine lv_aload_n hx hb dX8_copyFrom_4 rfl (lv_at hl 1 rfl) ?_
  refine g_S_revisions hk2 hC hI tw_1_99 dX8_copyFrom_5 ?_
  obtain ⟨V8, q8, hf⟩ := gbv hf
  refine k_X6_copyFrom hk hk2 hC hI hl.1 q8 tw_2_21 ⟨Nat.le_of_ble_eq_true rfl, Nat.le_of_ble_eq_true rfl⟩ ⟨Nat.le_refl _, Nat.le_refl _⟩ (Nat.le_of_ble_eq_true rfl) dX8_copyFrom_8 (fun H locs hI => ?_)
  refine lv_aload_n hx hb dX8_copyFrom_11 rfl (lv_at hl 0 rfl) ?_
  refine g_S_heads hk hC hI tw_1_101 dX8_copyFrom_12 ?_
  refine lv_aload_n hx hb dX8_copyFrom_15 rfl (lv_at hl 1 rfl) ?_
  refine g_S_heads hk2 hC hI tw_1_101 dX8_copyFrom_16 ?_
  obtain ⟨V19, q19, hf⟩ := gbv hf
  refine k_X7_copyFrom (rowS_14 hk) (rowS_14 hk2) hC hI hl.1 q19 tw_2_35 ⟨Nat.le_of_ble_eq_true rfl, Nat.le_of_ble_eq_true rfl⟩ ⟨Nat.le_refl _, Nat.le_refl _⟩ (Nat.le_of_ble_eq_true rfl) dX8_copyFrom_19 (fun H locs hI => ?_)
  refine lv_aload_n hx hb dX8_copyFrom_22 rfl (lv_at hl 0 rfl) ?_
  refine g_S_working hk hC hI tw_1_102 dX8_copyFrom_23 ?_
  refine lv_aload_n hx hb dX8_copyFrom_26 rfl (lv_at hl 1 rfl) ?_
  refine g_S_working hk2 hC hI tw_1_102 dX8_copyFrom_27 ?_
  obtain ⟨V30, q30, hf⟩ := gbv hf
  refine k_X7_copyFrom (rowS_16 hk) (rowS_16 hk2) hC hI hl.1 q30 tw_2_35 ⟨Nat.le_of_ble_eq_true rfl, Nat.le_of_ble_eq_true rfl⟩ ⟨Nat.le_refl _, Nat.le_refl _⟩ (Nat.le_of_ble_eq_true rfl) dX8_copyFrom_30 (fun H locs hI => ?_)
  refine lv_aload_n hx hb dX8_copyFrom_33 rfl (lv_at hl 0 rfl) ?_
  refine g_S_tags hk hC hI tw_1_103 dX8_copyFrom_34 ?_
  refine lv_aload_n hx hb dX8_copyFrom_37 rfl (lv_at hl 1 rfl) ?_
  refine g_S_tags hk2 hC hI tw_1_103 dX8_copyFrom_38 ?_
  obtain ⟨V41, q41, hf⟩ := gbv hf
  refine k_X7_copyFrom (rowS_18 hk) (rowS_18 hk2) hC hI hl.1 q41 tw_2_35 ⟨Nat.le_of_ble_eq_true rfl, Nat.le_of_ble_eq_true rfl⟩ ⟨Nat.le_refl _, Nat.le_refl _⟩ (Nat.le_of_ble_eq_true rfl) dX8_copyFrom_41 (fun H locs hI => ?_)
  refine lv_aload_n hx hb dX8_copyFrom_44 rfl (lv_at hl 0 rfl) ?_
  refine lv_aload_n hx hb dX8_copyFrom_45 rfl (lv_at hl 1 rfl) ?_
  refine g_S_branchCount hk2 hC hI tw_1_104 dX8_copyFrom_46 ?_
  obtain ⟨V49, e49, hf⟩ := gl hf
  refine p_S_branchCount hk hC hI  e49 tw_1_104 dX8_copyFrom_49 (fun H locs hI => ?_)
  exact r_vret2 hC hI hf dX8_copyFrom_52
theorem k_X8_copyFrom {p : Program} {l : Launch} {e : Env} {R : Room} {cells slots : Nat} {s : State} {m : MethodId} {args : Array Value} {below : List Frame} {meth : Method} {c : Code} {H : Heap} {locs : List Loc} {Q : State → Prop} {E : En} {ad : Nat → Nat} {V : Mem} {ow : String} {b : ByteArray} {n : Nat} {ret : Option FieldType} {pc index : Nat} {ls : Array Slot} {rest : List Value} {k : Nat} {k2 : Nat} {V1 : Mem} (hk : k < 11) (hk2 : k2 < 11) (hC : Cx p s m args c meth E ow b n ret) (hI : In E ad V s H locs) (hsz : ls.size = n) (hf : f_X8_copyFrom V k k2 = some V1) (hl : Cond.methodLink ow index yX8_copyFrom ∈ TB) (hR : 3 + 1 ≤ R.frames ∧ 8 + (2 + 11) + 40 * 3 ≤ R.locals) (hcs : cells ≤ R.cells ∧ slots ≤ R.slots) (hw : (rest.map fun v => v.category).sum ≤ 8) (hdg : decode b pc = .ok (.invokevirtual index, 3)) (kk : ∀ (H1 : Heap) (locs1 : List Loc), In E ad V1 s H1 locs1 → W p l e R s m args below meth c H1 locs1 cells slots Q (F0 m (pc + 3) ls (rest))) : W p l e R s m args below meth c H locs cells slots Q (F0 m pc ls (.ref (ad (20 * k2)) :: .ref (ad (20 * k)) :: rest)) :=
  r_calVv (As := [.ref (ad (20 * k2))]) (rest := rest) hC hI hsz (m_X8_copyFrom l E ad V k k2 hk hk2 _ hf) cv_X8_copyFrom hl (by omega) (ceS_0 hk _) rfl rfl rfl hR hcs hw hdg kk

theorem dX2_note_0 : decode cX2_note 0 = .ok (.aload_n 0, 1) := by decide +kernel
theorem dX2_note_1 : decode cX2_note 1 = .ok (.aload_n 0, 1) := by decide +kernel
theorem dX2_note_2 : decode cX2_note 2 = .ok (.getfield 18, 3) := by decide +kernel
theorem dX2_note_5 : decode cX2_note 5 = .ok (.invokevirtual 22, 3) := by decide +kernel
theorem dX2_note_8 : decode cX2_note 8 = .ok (.astore_n 2, 1) := by decide +kernel
theorem dX2_note_9 : decode cX2_note 9 = .ok (.aload_n 2, 1) := by decide +kernel
theorem dX2_note_10 : decode cX2_note 10 = .ok (.ifnull 8, 3) := by decide +kernel
theorem dX2_note_13 : decode cX2_note 13 = .ok (.aload_n 2, 1) := by decide +kernel
theorem dX2_note_14 : decode cX2_note 14 = .ok (.aload_n 1, 1) := by decide +kernel
theorem dX2_note_15 : decode cX2_note 15 = .ok (.invokevirtual 26, 3) := by decide +kernel
theorem dX2_note_18 : decode cX2_note 18 = .ok (.return_, 1) := by decide +kernel
def f_X2_note (V : Mem) : Option Mem :=
  bd (f_X2_slotAt V (V 220 0)) fun o5 V5 =>
  om o5 (
    some V5
  ) fun k5 =>
  if k5 < 11 then
    bv (f_X8_copyFrom V5 k5 0) fun V15 =>
    some V15
  else none
theorem cv_X2_note : CalV yX2_note cX2_note 3 none 1 := ⟨⟨⟨by decide +kernel, by decide +kernel⟩, tw_1_5, tw_2_12, by decide +kernel⟩, tw_2_10, tw_2_11⟩
set_option maxRecDepth 100000 in
set_option maxHeartbeats 4000000 in
theorem m_X2_note (l : Launch) (E : En) (ad : Nat → Nat) (V : Mem) (Vz : Mem) (hf : f_X2_note V = some Vz) : MR l E ad yX2_note cX2_note 3 none 4 [.ref (ad 220), .ref (ad 0)] V none Vz := by
  refine ent (E := E) (ad := ad) (V := V) "LetterRepository$History" (by decide +kernel) rfl (Nat.le_of_ble_eq_true rfl) ?_
  intro p e s m below meth c ls hC hI hl
  have hx := hC.1
  have hb := hC.2.1
  have hl : lv_has ls 3 [(0, .ref (ad 220)), (1, .ref (ad 0))] := hl
  unfold f_X2_note at hf
  refine lv_aload_n hx hb dX2_note_0 rfl (lv_at hl 0 rfl) ?_
  refine lv_aload_n hx hb dX2_note_1 rfl (lv_at hl 0 rfl) ?_
  refine g_220_spare hC hI tw_1_127 dX2_note_2 ?_
  obtain ⟨o5, V5, q5, hf⟩ := gbd hf
  refine k_X2_slotAt hC hI hl.1 q5 tw_2_13 ⟨Nat.le_of_ble_eq_true rfl, Nat.le_of_ble_eq_true rfl⟩ ⟨Nat.le_refl _, Nat.le_refl _⟩ (Nat.le_of_ble_eq_true rfl) dX2_note_5 (fun H locs hI => ?_)
  rcases o5 with _ | k5
  · have hf := gon hf
    refine lv_astore_nN (lv' := [(2, .null), (0, .ref (ad 220)), (1, .ref (ad 0))]) hx hb dX2_note_8 rfl hl (Nat.lt_of_lt_of_eq (by decide) rfl) rfl (fun ls hl => ?_)
    refine lv_aload_nN hx hb dX2_note_9 rfl (lv_at hl 0 rfl) ?_
    refine lv_ifnullN (tgt := 18) hx hb dX2_note_10 (by decide) ?_
    exact r_vret2 hC hI hf dX2_note_18
  · have hf := gos hf
    obtain ⟨hk5, hf⟩ := gi hf
    refine lv_astore_n (lv' := [(2, .ref (ad (20 * k5))), (0, .ref (ad 220)), (1, .ref (ad 0))]) hx hb dX2_note_8 rfl hl (Nat.lt_of_lt_of_eq (by decide) rfl) rfl (fun ls hl => ?_)
    refine lv_aload_n hx hb dX2_note_9 rfl (lv_at hl 0 rfl) ?_
    refine lv_ifnull hx hb dX2_note_10 ?_
    refine lv_aload_n hx hb dX2_note_13 rfl (lv_at hl 0 rfl) ?_
    refine lv_aload_n hx hb dX2_note_14 rfl (lv_at hl 2 rfl) ?_
    obtain ⟨V15, q15, hf⟩ := gbv hf
    refine k_X8_copyFrom hk5 (by decide) hC hI hl.1 q15 tw_2_17 ⟨Nat.le_of_ble_eq_true rfl, Nat.le_of_ble_eq_true rfl⟩ ⟨Nat.le_refl _, Nat.le_refl _⟩ (Nat.le_of_ble_eq_true rfl) dX2_note_15 (fun H locs hI => ?_)
    exact r_vret2 hC hI hf dX2_note_18
theorem k_X2_note {p : Program} {l : Launch} {e : Env} {R : Room} {cells slots : Nat} {s : State} {m : MethodId} {args : Array Value} {below : List Frame} {meth : Method} {c : Code} {H : Heap} {locs : List Loc} {Q : State → Prop} {E : En} {ad : Nat → Nat} {V : Mem} {ow : String} {b : ByteArray} {n : Nat} {ret : Option FieldType} {pc index : Nat} {ls : Array Slot} {rest : List Value} {V1 : Mem} (hC : Cx p s m args c meth E ow b n ret) (hI : In E ad V s H locs) (hsz : ls.size = n) (hf : f_X2_note V = some V1) (hl : Cond.methodLink ow index yX2_note ∈ TB) (hR : 4 + 1 ≤ R.frames ∧ 8 + (3 + 11) + 40 * 4 ≤ R.locals) (hcs : cells ≤ R.cells ∧ slots ≤ R.slots) (hw : (rest.map fun v => v.category).sum ≤ 8) (hdg : decode b pc = .ok (.invokevirtual index, 3)) (kk : ∀ (H1 : Heap) (locs1 : List Loc), In E ad V1 s H1 locs1 → W p l e R s m args below meth c H1 locs1 cells slots Q (F0 m (pc + 3) ls (rest))) : W p l e R s m args below meth c H locs cells slots Q (F0 m pc ls (.ref (ad 0) :: .ref (ad 220) :: rest)) :=
  r_calVv (As := [.ref (ad 0)]) (rest := rest) hC hI hsz (m_X2_note l E ad V _ hf) cv_X2_note hl (by decide) (ce_220 _) rfl rfl rfl hR hcs hw hdg kk

theorem dX2_putNotedInto_0 : decode cX2_putNotedInto 0 = .ok (.aload_n 0, 1) := by decide +kernel
theorem dX2_putNotedInto_1 : decode cX2_putNotedInto 1 = .ok (.aload_n 0, 1) := by decide +kernel
theorem dX2_putNotedInto_2 : decode cX2_putNotedInto 2 = .ok (.getfield 18, 3) := by decide +kernel
theorem dX2_putNotedInto_5 : decode cX2_putNotedInto 5 = .ok (.invokevirtual 22, 3) := by decide +kernel
theorem dX2_putNotedInto_8 : decode cX2_putNotedInto 8 = .ok (.astore_n 2, 1) := by decide +kernel
theorem dX2_putNotedInto_9 : decode cX2_putNotedInto 9 = .ok (.aload_n 2, 1) := by decide +kernel
theorem dX2_putNotedInto_10 : decode cX2_putNotedInto 10 = .ok (.ifnull 8, 3) := by decide +kernel
theorem dX2_putNotedInto_13 : decode cX2_putNotedInto 13 = .ok (.aload_n 1, 1) := by decide +kernel
theorem dX2_putNotedInto_14 : decode cX2_putNotedInto 14 = .ok (.aload_n 2, 1) := by decide +kernel
theorem dX2_putNotedInto_15 : decode cX2_putNotedInto 15 = .ok (.invokevirtual 26, 3) := by decide +kernel
theorem dX2_putNotedInto_18 : decode cX2_putNotedInto 18 = .ok (.return_, 1) := by decide +kernel
def f_X2_putNotedInto (V : Mem) : Option Mem :=
  bd (f_X2_slotAt V (V 220 0)) fun o5 V5 =>
  om o5 (
    some V5
  ) fun k5 =>
  if k5 < 11 then
    bv (f_X8_copyFrom V5 0 k5) fun V15 =>
    some V15
  else none
theorem cv_X2_putNotedInto : CalV yX2_putNotedInto cX2_putNotedInto 3 none 1 := ⟨⟨⟨by decide +kernel, by decide +kernel⟩, tw_1_5, tw_7_126, by decide +kernel⟩, tw_7_124, tw_7_125⟩
set_option maxRecDepth 100000 in
set_option maxHeartbeats 4000000 in
theorem m_X2_putNotedInto (l : Launch) (E : En) (ad : Nat → Nat) (V : Mem) (Vz : Mem) (hf : f_X2_putNotedInto V = some Vz) : MR l E ad yX2_putNotedInto cX2_putNotedInto 3 none 4 [.ref (ad 220), .ref (ad 0)] V none Vz := by
  refine ent (E := E) (ad := ad) (V := V) "LetterRepository$History" (by decide +kernel) rfl (Nat.le_of_ble_eq_true rfl) ?_
  intro p e s m below meth c ls hC hI hl
  have hx := hC.1
  have hb := hC.2.1
  have hl : lv_has ls 3 [(0, .ref (ad 220)), (1, .ref (ad 0))] := hl
  unfold f_X2_putNotedInto at hf
  refine lv_aload_n hx hb dX2_putNotedInto_0 rfl (lv_at hl 0 rfl) ?_
  refine lv_aload_n hx hb dX2_putNotedInto_1 rfl (lv_at hl 0 rfl) ?_
  refine g_220_spare hC hI tw_1_127 dX2_putNotedInto_2 ?_
  obtain ⟨o5, V5, q5, hf⟩ := gbd hf
  refine k_X2_slotAt hC hI hl.1 q5 tw_2_13 ⟨Nat.le_of_ble_eq_true rfl, Nat.le_of_ble_eq_true rfl⟩ ⟨Nat.le_refl _, Nat.le_refl _⟩ (Nat.le_of_ble_eq_true rfl) dX2_putNotedInto_5 (fun H locs hI => ?_)
  rcases o5 with _ | k5
  · have hf := gon hf
    refine lv_astore_nN (lv' := [(2, .null), (0, .ref (ad 220)), (1, .ref (ad 0))]) hx hb dX2_putNotedInto_8 rfl hl (Nat.lt_of_lt_of_eq (by decide) rfl) rfl (fun ls hl => ?_)
    refine lv_aload_nN hx hb dX2_putNotedInto_9 rfl (lv_at hl 0 rfl) ?_
    refine lv_ifnullN (tgt := 18) hx hb dX2_putNotedInto_10 (by decide) ?_
    exact r_vret2 hC hI hf dX2_putNotedInto_18
  · have hf := gos hf
    obtain ⟨hk5, hf⟩ := gi hf
    refine lv_astore_n (lv' := [(2, .ref (ad (20 * k5))), (0, .ref (ad 220)), (1, .ref (ad 0))]) hx hb dX2_putNotedInto_8 rfl hl (Nat.lt_of_lt_of_eq (by decide) rfl) rfl (fun ls hl => ?_)
    refine lv_aload_n hx hb dX2_putNotedInto_9 rfl (lv_at hl 0 rfl) ?_
    refine lv_ifnull hx hb dX2_putNotedInto_10 ?_
    refine lv_aload_n hx hb dX2_putNotedInto_13 rfl (lv_at hl 2 rfl) ?_
    refine lv_aload_n hx hb dX2_putNotedInto_14 rfl (lv_at hl 0 rfl) ?_
    obtain ⟨V15, q15, hf⟩ := gbv hf
    refine k_X8_copyFrom (by decide) hk5 hC hI hl.1 q15 tw_2_17 ⟨Nat.le_of_ble_eq_true rfl, Nat.le_of_ble_eq_true rfl⟩ ⟨Nat.le_refl _, Nat.le_refl _⟩ (Nat.le_of_ble_eq_true rfl) dX2_putNotedInto_15 (fun H locs hI => ?_)
    exact r_vret2 hC hI hf dX2_putNotedInto_18
theorem k_X2_putNotedInto {p : Program} {l : Launch} {e : Env} {R : Room} {cells slots : Nat} {s : State} {m : MethodId} {args : Array Value} {below : List Frame} {meth : Method} {c : Code} {H : Heap} {locs : List Loc} {Q : State → Prop} {E : En} {ad : Nat → Nat} {V : Mem} {ow : String} {b : ByteArray} {n : Nat} {ret : Option FieldType} {pc index : Nat} {ls : Array Slot} {rest : List Value} {V1 : Mem} (hC : Cx p s m args c meth E ow b n ret) (hI : In E ad V s H locs) (hsz : ls.size = n) (hf : f_X2_putNotedInto V = some V1) (hl : Cond.methodLink ow index yX2_putNotedInto ∈ TB) (hR : 4 + 1 ≤ R.frames ∧ 8 + (3 + 11) + 40 * 4 ≤ R.locals) (hcs : cells ≤ R.cells ∧ slots ≤ R.slots) (hw : (rest.map fun v => v.category).sum ≤ 8) (hdg : decode b pc = .ok (.invokevirtual index, 3)) (kk : ∀ (H1 : Heap) (locs1 : List Loc), In E ad V1 s H1 locs1 → W p l e R s m args below meth c H1 locs1 cells slots Q (F0 m (pc + 3) ls (rest))) : W p l e R s m args below meth c H locs cells slots Q (F0 m pc ls (.ref (ad 0) :: .ref (ad 220) :: rest)) :=
  r_calVv (As := [.ref (ad 0)]) (rest := rest) hC hI hsz (m_X2_putNotedInto l E ad V _ hf) cv_X2_putNotedInto hl (by decide) (ce_220 _) rfl rfl rfl hR hcs hw hdg kk

theorem dX2_keepNoted_0 : decode cX2_keepNoted 0 = .ok (.aload_n 0, 1) := by decide +kernel
theorem dX2_keepNoted_1 : decode cX2_keepNoted 1 = .ok (.aload_n 0, 1) := by decide +kernel
theorem dX2_keepNoted_2 : decode cX2_keepNoted 2 = .ok (.getfield 18, 3) := by decide +kernel
theorem dX2_keepNoted_5 : decode cX2_keepNoted 5 = .ok (.bipush 8, 2) := by decide +kernel
theorem dX2_keepNoted_7 : decode cX2_keepNoted 7 = .ok (.if_icmp .ge 12, 3) := by decide +kernel
theorem dX2_keepNoted_10 : decode cX2_keepNoted 10 = .ok (.aload_n 0, 1) := by decide +kernel
theorem dX2_keepNoted_11 : decode cX2_keepNoted 11 = .ok (.getfield 18, 3) := by decide +kernel
theorem dX2_keepNoted_14 : decode cX2_keepNoted 14 = .ok (.iconst 1, 1) := by decide +kernel
theorem dX2_keepNoted_15 : decode cX2_keepNoted 15 = .ok (.iadd, 1) := by decide +kernel
theorem dX2_keepNoted_16 : decode cX2_keepNoted 16 = .ok (.goto 4, 3) := by decide +kernel
theorem dX2_keepNoted_19 : decode cX2_keepNoted 19 = .ok (.iconst 0, 1) := by decide +kernel
theorem dX2_keepNoted_20 : decode cX2_keepNoted 20 = .ok (.putfield 18, 3) := by decide +kernel
theorem dX2_keepNoted_23 : decode cX2_keepNoted 23 = .ok (.aload_n 0, 1) := by decide +kernel
theorem dX2_keepNoted_24 : decode cX2_keepNoted 24 = .ok (.aload_n 0, 1) := by decide +kernel
theorem dX2_keepNoted_25 : decode cX2_keepNoted 25 = .ok (.getfield 30, 3) := by decide +kernel
theorem dX2_keepNoted_28 : decode cX2_keepNoted 28 = .ok (.iconst 1, 1) := by decide +kernel
theorem dX2_keepNoted_29 : decode cX2_keepNoted 29 = .ok (.iadd, 1) := by decide +kernel
theorem dX2_keepNoted_30 : decode cX2_keepNoted 30 = .ok (.bipush 8, 2) := by decide +kernel
theorem dX2_keepNoted_32 : decode cX2_keepNoted 32 = .ok (.invokestatic 33, 3) := by decide +kernel
theorem dX2_keepNoted_35 : decode cX2_keepNoted 35 = .ok (.putfield 30, 3) := by decide +kernel
theorem dX2_keepNoted_38 : decode cX2_keepNoted 38 = .ok (.return_, 1) := by decide +kernel
def f_X2_keepNoted (V : Mem) : Option Mem :=
  jn (α := Mem → Int32 → Option Mem) (fun j20 =>
    if 8 ≤ (V 220 0) then
      j20 V 0
    else
      j20 V ((V 220 0) + 1)
  ) (fun (V20 : Mem) (s0_20 : Int32) =>
    lt (stv V20 220 0 s0_20) fun V20 =>
    lt (stv V20 220 1 (if 8 < ((V20 220 1) + 1) then 8 else ((V20 220 1) + 1))) fun V35 =>
    some V35
  )
theorem cv_X2_keepNoted : CalV yX2_keepNoted cX2_keepNoted 1 none 0 := ⟨⟨⟨by decide +kernel, by decide +kernel⟩, tw_1_5, tw_2_39, by decide +kernel⟩, tw_2_37, tw_2_38⟩
set_option maxRecDepth 100000 in
set_option maxHeartbeats 4000000 in
theorem m_X2_keepNoted (l : Launch) (E : En) (ad : Nat → Nat) (V : Mem) (Vz : Mem) (hf : f_X2_keepNoted V = some Vz) : MR l E ad yX2_keepNoted cX2_keepNoted 1 none 1 [.ref (ad 220)] V none Vz := by
  refine ent (E := E) (ad := ad) (V := V) "LetterRepository$History" (by decide +kernel) rfl (Nat.le_of_ble_eq_true rfl) ?_
  intro p e s m below meth c ls hC hI hl
  have hx := hC.1
  have hb := hC.2.1
  have hl : lv_has ls 1 [(0, .ref (ad 220))] := hl
  unfold f_X2_keepNoted at hf
  refine lv_aload_n hx hb dX2_keepNoted_0 rfl (lv_at hl 0 rfl) ?_
  refine lv_aload_n hx hb dX2_keepNoted_1 rfl (lv_at hl 0 rfl) ?_
  refine g_220_spare hC hI tw_1_127 dX2_keepNoted_2 ?_
  refine lv_bipush (v := 8) hx hb dX2_keepNoted_5 rfl ?_
  obtain ⟨j20, hj20, hf⟩ := gj hf
  have J20 : ∀ (V20 : Mem) (s0_20 : Int32) (H : Heap) (locs : List Loc) (ls : Array Slot), j20 V20 s0_20 = some Vz → In E ad V20 s H locs → lv_has ls 1 [(0, .ref (ad 220))] → W p l e (rmd 1) s m ([.ref (ad 220)] : List Value).toArray below meth c H locs 0 0 (MQ below (QR E ad none Vz) ([.ref (ad 220)] : List Value).toArray s 0 0 (ours E)) (F0 m 20 ls [.int s0_20, .ref (ad 220)]) := by
    intro V20 s0_20 H locs ls hf hI hl
    rw [hj20] at hf
    dsimp only at hf
    obtain ⟨V20, e20, hf⟩ := gl hf
    refine p_220_spare hC hI  e20 tw_1_127 dX2_keepNoted_20 (fun H locs hI => ?_)
    refine lv_aload_n hx hb dX2_keepNoted_23 rfl (lv_at hl 0 rfl) ?_
    refine lv_aload_n hx hb dX2_keepNoted_24 rfl (lv_at hl 0 rfl) ?_
    refine g_220_count hC hI tw_1_128 dX2_keepNoted_25 ?_
    refine lv_iconst (v := 1) hx hb dX2_keepNoted_28 rfl ?_
    refine lv_iadd hx hb dX2_keepNoted_29 ?_
    refine lv_bipush (v := 8) hx hb dX2_keepNoted_30 rfl ?_
    refine r_mmin hC hl.1 tw_2_40 ⟨by decide, Nat.le_of_ble_eq_true rfl⟩ ⟨Nat.le_refl _, Nat.le_refl _⟩ dX2_keepNoted_32 ?_
    obtain ⟨V35, e35, hf⟩ := gl hf
    refine p_220_count hC hI  e35 tw_1_128 dX2_keepNoted_35 (fun H locs hI => ?_)
    exact r_vret2 hC hI hf dX2_keepNoted_38
  refine lv_icmp_ge (tgt := 19) hx hb dX2_keepNoted_7 (by decide) (fun c7 => ?_) (fun c7 => ?_)
  · have hf := gt hf c7
    refine lv_iconst (v := 0) hx hb dX2_keepNoted_19 rfl ?_
    exact J20 _ _ _ _ _ hf hI (lv_sub hl [0] rfl)
  · have hf := gf hf c7
    refine lv_aload_n hx hb dX2_keepNoted_10 rfl (lv_at hl 0 rfl) ?_
    refine g_220_spare hC hI tw_1_127 dX2_keepNoted_11 ?_
    refine lv_iconst (v := 1) hx hb dX2_keepNoted_14 rfl ?_
    refine lv_iadd hx hb dX2_keepNoted_15 ?_
    refine lv_goto (tgt := 20) hx hb dX2_keepNoted_16 (by decide) ?_
    exact J20 _ _ _ _ _ hf hI (lv_sub hl [0] rfl)
theorem k_X2_keepNoted {p : Program} {l : Launch} {e : Env} {R : Room} {cells slots : Nat} {s : State} {m : MethodId} {args : Array Value} {below : List Frame} {meth : Method} {c : Code} {H : Heap} {locs : List Loc} {Q : State → Prop} {E : En} {ad : Nat → Nat} {V : Mem} {ow : String} {b : ByteArray} {n : Nat} {ret : Option FieldType} {pc index : Nat} {ls : Array Slot} {rest : List Value} {V1 : Mem} (hC : Cx p s m args c meth E ow b n ret) (hI : In E ad V s H locs) (hsz : ls.size = n) (hf : f_X2_keepNoted V = some V1) (hl : Cond.methodLink ow index yX2_keepNoted ∈ TB) (hR : 1 + 1 ≤ R.frames ∧ 8 + (1 + 11) + 40 * 1 ≤ R.locals) (hcs : cells ≤ R.cells ∧ slots ≤ R.slots) (hw : (rest.map fun v => v.category).sum ≤ 8) (hdg : decode b pc = .ok (.invokevirtual index, 3)) (kk : ∀ (H1 : Heap) (locs1 : List Loc), In E ad V1 s H1 locs1 → W p l e R s m args below meth c H1 locs1 cells slots Q (F0 m (pc + 3) ls (rest))) : W p l e R s m args below meth c H locs cells slots Q (F0 m pc ls (.ref (ad 220) :: rest)) :=
  r_calVv (As := []) (rest := rest) hC hI hsz (m_X2_keepNoted l E ad V _ hf) cv_X2_keepNoted hl (by decide) (ce_220 _) rfl rfl rfl hR hcs hw hdg kk

theorem dX2_takeBackInto_0 : decode cX2_takeBackInto 0 = .ok (.aload_n 0, 1) := by decide +kernel
theorem dX2_takeBackInto_1 : decode cX2_takeBackInto 1 = .ok (.aload_n 0, 1) := by decide +kernel
theorem dX2_takeBackInto_2 : decode cX2_takeBackInto 2 = .ok (.getfield 18, 3) := by decide +kernel
theorem dX2_takeBackInto_5 : decode cX2_takeBackInto 5 = .ok (.ifCond .le 12, 3) := by decide +kernel
theorem dX2_takeBackInto_8 : decode cX2_takeBackInto 8 = .ok (.aload_n 0, 1) := by decide +kernel
theorem dX2_takeBackInto_9 : decode cX2_takeBackInto 9 = .ok (.getfield 18, 3) := by decide +kernel
theorem dX2_takeBackInto_12 : decode cX2_takeBackInto 12 = .ok (.iconst 1, 1) := by decide +kernel
theorem dX2_takeBackInto_13 : decode cX2_takeBackInto 13 = .ok (.isub, 1) := by decide +kernel
theorem dX2_takeBackInto_14 : decode cX2_takeBackInto 14 = .ok (.goto 5, 3) := by decide +kernel
theorem dX2_takeBackInto_17 : decode cX2_takeBackInto 17 = .ok (.bipush 8, 2) := by decide +kernel
theorem dX2_takeBackInto_19 : decode cX2_takeBackInto 19 = .ok (.putfield 18, 3) := by decide +kernel
theorem dX2_takeBackInto_22 : decode cX2_takeBackInto 22 = .ok (.aload_n 0, 1) := by decide +kernel
theorem dX2_takeBackInto_23 : decode cX2_takeBackInto 23 = .ok (.aload_n 0, 1) := by decide +kernel
theorem dX2_takeBackInto_24 : decode cX2_takeBackInto 24 = .ok (.getfield 30, 3) := by decide +kernel
theorem dX2_takeBackInto_27 : decode cX2_takeBackInto 27 = .ok (.iconst 1, 1) := by decide +kernel
theorem dX2_takeBackInto_28 : decode cX2_takeBackInto 28 = .ok (.isub, 1) := by decide +kernel
theorem dX2_takeBackInto_29 : decode cX2_takeBackInto 29 = .ok (.iconst 0, 1) := by decide +kernel
theorem dX2_takeBackInto_30 : decode cX2_takeBackInto 30 = .ok (.invokestatic 39, 3) := by decide +kernel
theorem dX2_takeBackInto_33 : decode cX2_takeBackInto 33 = .ok (.putfield 30, 3) := by decide +kernel
theorem dX2_takeBackInto_36 : decode cX2_takeBackInto 36 = .ok (.aload_n 0, 1) := by decide +kernel
theorem dX2_takeBackInto_37 : decode cX2_takeBackInto 37 = .ok (.aload_n 1, 1) := by decide +kernel
theorem dX2_takeBackInto_38 : decode cX2_takeBackInto 38 = .ok (.invokevirtual 42, 3) := by decide +kernel
theorem dX2_takeBackInto_41 : decode cX2_takeBackInto 41 = .ok (.return_, 1) := by decide +kernel
def f_X2_takeBackInto (V : Mem) : Option Mem :=
  jn (α := Mem → Int32 → Option Mem) (fun j19 =>
    if (V 220 0) ≤ 0 then
      j19 V 8
    else
      j19 V ((V 220 0) - 1)
  ) (fun (V19 : Mem) (s0_19 : Int32) =>
    lt (stv V19 220 0 s0_19) fun V19 =>
    lt (stv V19 220 1 (if ((V19 220 1) - 1) < 0 then 0 else ((V19 220 1) - 1))) fun V33 =>
    bv (f_X2_putNotedInto V33) fun V38 =>
    some V38
  )
theorem cv_X2_takeBackInto : CalV yX2_takeBackInto cX2_takeBackInto 2 none 1 := ⟨⟨⟨by decide +kernel, by decide +kernel⟩, tw_1_5, tw_7_168, by decide +kernel⟩, tw_7_166, tw_7_167⟩
set_option maxRecDepth 100000 in
set_option maxHeartbeats 4000000 in
theorem m_X2_takeBackInto (l : Launch) (E : En) (ad : Nat → Nat) (V : Mem) (Vz : Mem) (hf : f_X2_takeBackInto V = some Vz) : MR l E ad yX2_takeBackInto cX2_takeBackInto 2 none 5 [.ref (ad 220), .ref (ad 0)] V none Vz := by
  refine ent (E := E) (ad := ad) (V := V) "LetterRepository$History" (by decide +kernel) rfl (Nat.le_of_ble_eq_true rfl) ?_
  intro p e s m below meth c ls hC hI hl
  have hx := hC.1
  have hb := hC.2.1
  have hl : lv_has ls 2 [(0, .ref (ad 220)), (1, .ref (ad 0))] := hl
  unfold f_X2_takeBackInto at hf
  refine lv_aload_n hx hb dX2_takeBackInto_0 rfl (lv_at hl 0 rfl) ?_
  refine lv_aload_n hx hb dX2_takeBackInto_1 rfl (lv_at hl 0 rfl) ?_
  refine g_220_spare hC hI tw_1_127 dX2_takeBackInto_2 ?_
  obtain ⟨j19, hj19, hf⟩ := gj hf
  have J19 : ∀ (V19 : Mem) (s0_19 : Int32) (H : Heap) (locs : List Loc) (ls : Array Slot), j19 V19 s0_19 = some Vz → In E ad V19 s H locs → lv_has ls 2 [(0, .ref (ad 220)), (1, .ref (ad 0))] → W p l e (rmd 5) s m ([.ref (ad 220), .ref (ad 0)] : List Value).toArray below meth c H locs 0 0 (MQ below (QR E ad none Vz) ([.ref (ad 220), .ref (ad 0)] : List Value).toArray s 0 0 (ours E)) (F0 m 19 ls [.int s0_19, .ref (ad 220)]) := by
    intro V19 s0_19 H locs ls hf hI hl
    rw [hj19] at hf
    dsimp only at hf
    obtain ⟨V19, e19, hf⟩ := gl hf
    refine p_220_spare hC hI  e19 tw_1_127 dX2_takeBackInto_19 (fun H locs hI => ?_)
    refine lv_aload_n hx hb dX2_takeBackInto_22 rfl (lv_at hl 0 rfl) ?_
    refine lv_aload_n hx hb dX2_takeBackInto_23 rfl (lv_at hl 0 rfl) ?_
    refine g_220_count hC hI tw_1_128 dX2_takeBackInto_24 ?_
    refine lv_iconst (v := 1) hx hb dX2_takeBackInto_27 rfl ?_
    refine lv_isub hx hb dX2_takeBackInto_28 ?_
    refine lv_iconst (v := 0) hx hb dX2_takeBackInto_29 rfl ?_
    refine r_mmax hC hl.1 tw_7_169 ⟨by decide, Nat.le_of_ble_eq_true rfl⟩ ⟨Nat.le_refl _, Nat.le_refl _⟩ dX2_takeBackInto_30 ?_
    obtain ⟨V33, e33, hf⟩ := gl hf
    refine p_220_count hC hI  e33 tw_1_128 dX2_takeBackInto_33 (fun H locs hI => ?_)
    refine lv_aload_n hx hb dX2_takeBackInto_36 rfl (lv_at hl 0 rfl) ?_
    refine lv_aload_n hx hb dX2_takeBackInto_37 rfl (lv_at hl 1 rfl) ?_
    obtain ⟨V38, q38, hf⟩ := gbv hf
    refine k_X2_putNotedInto hC hI hl.1 q38 tw_7_170 ⟨Nat.le_of_ble_eq_true rfl, Nat.le_of_ble_eq_true rfl⟩ ⟨Nat.le_refl _, Nat.le_refl _⟩ (Nat.le_of_ble_eq_true rfl) dX2_takeBackInto_38 (fun H locs hI => ?_)
    exact r_vret2 hC hI hf dX2_takeBackInto_41
  refine lv_if_le (tgt := 17) hx hb dX2_takeBackInto_5 (by decide) (fun c5 => ?_) (fun c5 => ?_)
  · have hf := gt hf c5
    refine lv_bipush (v := 8) hx hb dX2_takeBackInto_17 rfl ?_
    exact J19 _ _ _ _ _ hf hI (lv_sub hl [0, 1] rfl)
  · have hf := gf hf c5
    refine lv_aload_n hx hb dX2_takeBackInto_8 rfl (lv_at hl 0 rfl) ?_
    refine g_220_spare hC hI tw_1_127 dX2_takeBackInto_9 ?_
    refine lv_iconst (v := 1) hx hb dX2_takeBackInto_12 rfl ?_
    refine lv_isub hx hb dX2_takeBackInto_13 ?_
    refine lv_goto (tgt := 19) hx hb dX2_takeBackInto_14 (by decide) ?_
    exact J19 _ _ _ _ _ hf hI (lv_sub hl [0, 1] rfl)
theorem k_X2_takeBackInto {p : Program} {l : Launch} {e : Env} {R : Room} {cells slots : Nat} {s : State} {m : MethodId} {args : Array Value} {below : List Frame} {meth : Method} {c : Code} {H : Heap} {locs : List Loc} {Q : State → Prop} {E : En} {ad : Nat → Nat} {V : Mem} {ow : String} {b : ByteArray} {n : Nat} {ret : Option FieldType} {pc index : Nat} {ls : Array Slot} {rest : List Value} {V1 : Mem} (hC : Cx p s m args c meth E ow b n ret) (hI : In E ad V s H locs) (hsz : ls.size = n) (hf : f_X2_takeBackInto V = some V1) (hl : Cond.methodLink ow index yX2_takeBackInto ∈ TB) (hR : 5 + 1 ≤ R.frames ∧ 8 + (2 + 11) + 40 * 5 ≤ R.locals) (hcs : cells ≤ R.cells ∧ slots ≤ R.slots) (hw : (rest.map fun v => v.category).sum ≤ 8) (hdg : decode b pc = .ok (.invokevirtual index, 3)) (kk : ∀ (H1 : Heap) (locs1 : List Loc), In E ad V1 s H1 locs1 → W p l e R s m args below meth c H1 locs1 cells slots Q (F0 m (pc + 3) ls (rest))) : W p l e R s m args below meth c H locs cells slots Q (F0 m pc ls (.ref (ad 0) :: .ref (ad 220) :: rest)) :=
  r_calVv (As := [.ref (ad 0)]) (rest := rest) hC hI hsz (m_X2_takeBackInto l E ad V _ hf) cv_X2_takeBackInto hl (by decide) (ce_220 _) rfl rfl rfl hR hcs hw hdg kk

theorem dX2_forget_0 : decode cX2_forget 0 = .ok (.aload_n 0, 1) := by decide +kernel
theorem dX2_forget_1 : decode cX2_forget 1 = .ok (.iconst 0, 1) := by decide +kernel
theorem dX2_forget_2 : decode cX2_forget 2 = .ok (.putfield 30, 3) := by decide +kernel
theorem dX2_forget_5 : decode cX2_forget 5 = .ok (.return_, 1) := by decide +kernel
def f_X2_forget (V : Mem) : Option Mem :=
  lt (stv V 220 1 0) fun V2 =>
  some V2
theorem cv_X2_forget : CalV yX2_forget cX2_forget 1 none 0 := ⟨⟨⟨by decide +kernel, by decide +kernel⟩, tw_1_5, tw_7_182, by decide +kernel⟩, tw_7_180, tw_7_181⟩
set_option maxRecDepth 100000 in
set_option maxHeartbeats 4000000 in
theorem m_X2_forget (l : Launch) (E : En) (ad : Nat → Nat) (V : Mem) (Vz : Mem) (hf : f_X2_forget V = some Vz) : MR l E ad yX2_forget cX2_forget 1 none 1 [.ref (ad 220)] V none Vz := by
  refine ent (E := E) (ad := ad) (V := V) "LetterRepository$History" (by decide +kernel) rfl (Nat.le_of_ble_eq_true rfl) ?_
  intro p e s m below meth c ls hC hI hl
  have hx := hC.1
  have hb := hC.2.1
  have hl : lv_has ls 1 [(0, .ref (ad 220))] := hl
  unfold f_X2_forget at hf
  refine lv_aload_n hx hb dX2_forget_0 rfl (lv_at hl 0 rfl) ?_
  refine lv_iconst (v := 0) hx hb dX2_forget_1 rfl ?_
  obtain ⟨V2, e2, hf⟩ := gl hf
  refine p_220_count hC hI  e2 tw_1_128 dX2_forget_2 (fun H locs hI => ?_)
  exact r_vret2 hC hI hf dX2_forget_5
theorem k_X2_forget {p : Program} {l : Launch} {e : Env} {R : Room} {cells slots : Nat} {s : State} {m : MethodId} {args : Array Value} {below : List Frame} {meth : Method} {c : Code} {H : Heap} {locs : List Loc} {Q : State → Prop} {E : En} {ad : Nat → Nat} {V : Mem} {ow : String} {b : ByteArray} {n : Nat} {ret : Option FieldType} {pc index : Nat} {ls : Array Slot} {rest : List Value} {V1 : Mem} (hC : Cx p s m args c meth E ow b n ret) (hI : In E ad V s H locs) (hsz : ls.size = n) (hf : f_X2_forget V = some V1) (hl : Cond.methodLink ow index yX2_forget ∈ TB) (hR : 1 + 1 ≤ R.frames ∧ 8 + (1 + 11) + 40 * 1 ≤ R.locals) (hcs : cells ≤ R.cells ∧ slots ≤ R.slots) (hw : (rest.map fun v => v.category).sum ≤ 8) (hdg : decode b pc = .ok (.invokevirtual index, 3)) (kk : ∀ (H1 : Heap) (locs1 : List Loc), In E ad V1 s H1 locs1 → W p l e R s m args below meth c H1 locs1 cells slots Q (F0 m (pc + 3) ls (rest))) : W p l e R s m args below meth c H locs cells slots Q (F0 m pc ls (.ref (ad 220) :: rest)) :=
  r_calVv (As := []) (rest := rest) hC hI hsz (m_X2_forget l E ad V _ hf) cv_X2_forget hl (by decide) (ce_220 _) rfl rfl rfl hR hcs hw hdg kk

theorem dX6_has_0 : decode cX6_has 0 = .ok (.iload_n 1, 1) := by decide +kernel
theorem dX6_has_1 : decode cX6_has 1 = .ok (.ifCond .lt 15, 3) := by decide +kernel
theorem dX6_has_4 : decode cX6_has 4 = .ok (.iload_n 1, 1) := by decide +kernel
theorem dX6_has_5 : decode cX6_has 5 = .ok (.aload_n 0, 1) := by decide +kernel
theorem dX6_has_6 : decode cX6_has 6 = .ok (.getfield 39, 3) := by decide +kernel
theorem dX6_has_9 : decode cX6_has 9 = .ok (.if_icmp .ge 7, 3) := by decide +kernel
theorem dX6_has_12 : decode cX6_has 12 = .ok (.iconst 1, 1) := by decide +kernel
theorem dX6_has_13 : decode cX6_has 13 = .ok (.goto 4, 3) := by decide +kernel
theorem dX6_has_16 : decode cX6_has 16 = .ok (.iconst 0, 1) := by decide +kernel
theorem dX6_has_17 : decode cX6_has 17 = .ok (.ireturn, 1) := by decide +kernel
def f_X6_has (V : Mem) (a1 : Int32) : Option (Int32 × Mem) :=
  if a1 < 0 then
    some (0, V)
  else
    if (V 1 1) ≤ a1 then
      some (0, V)
    else
      some (1, V)
theorem cv_X6_has : CalV yX6_has cX6_has 2 (some .boolean) 1 := ⟨⟨⟨by decide +kernel, by decide +kernel⟩, tw_1_3, tw_2_69, by decide +kernel⟩, tw_2_67, tw_2_68⟩
set_option maxRecDepth 100000 in
set_option maxHeartbeats 4000000 in
theorem m_X6_has (l : Launch) (E : En) (ad : Nat → Nat) (V : Mem) (a1 : Int32) (r : Int32) (Vz : Mem) (hf : f_X6_has V a1 = some (r, Vz)) : MR l E ad yX6_has cX6_has 2 (some .boolean) 1 [.ref (ad 1), .int a1] V (some (.int r)) Vz := by
  refine ent (E := E) (ad := ad) (V := V) "LetterRepository$Revisions" (by decide +kernel) rfl (Nat.le_of_ble_eq_true rfl) ?_
  intro p e s m below meth c ls hC hI hl
  have hx := hC.1
  have hb := hC.2.1
  have hl : lv_has ls 2 [(0, .ref (ad 1)), (1, .int a1)] := hl
  unfold f_X6_has at hf
  refine lv_iload_n hx hb dX6_has_0 rfl (lv_at hl 1 rfl) ?_
  refine lv_if_lt (tgt := 16) hx hb dX6_has_1 (by decide) (fun c1 => ?_) (fun c1 => ?_)
  · have hf := gt hf c1
    refine lv_iconst (v := 0) hx hb dX6_has_16 rfl ?_
    exact r_zret2 hC hI (.inl rfl) hf dX6_has_17
  · have hf := gf hf c1
    refine lv_iload_n hx hb dX6_has_4 rfl (lv_at hl 1 rfl) ?_
    refine lv_aload_n hx hb dX6_has_5 rfl (lv_at hl 0 rfl) ?_
    refine g_1_count hC hI tw_1_77 dX6_has_6 ?_
    refine lv_icmp_ge (tgt := 16) hx hb dX6_has_9 (by decide) (fun c9 => ?_) (fun c9 => ?_)
    · have hf := gt hf c9
      refine lv_iconst (v := 0) hx hb dX6_has_16 rfl ?_
      exact r_zret2 hC hI (.inl rfl) hf dX6_has_17
    · have hf := gf hf c9
      refine lv_iconst (v := 1) hx hb dX6_has_12 rfl ?_
      refine lv_goto (tgt := 17) hx hb dX6_has_13 (by decide) ?_
      exact r_zret2 hC hI (.inr rfl) hf dX6_has_17
theorem k_X6_has {p : Program} {l : Launch} {e : Env} {R : Room} {cells slots : Nat} {s : State} {m : MethodId} {args : Array Value} {below : List Frame} {meth : Method} {c : Code} {H : Heap} {locs : List Loc} {Q : State → Prop} {E : En} {ad : Nat → Nat} {V : Mem} {ow : String} {b : ByteArray} {n : Nat} {ret : Option FieldType} {pc index : Nat} {ls : Array Slot} {rest : List Value} {a1 : Int32} {r : Int32} {V1 : Mem} (hC : Cx p s m args c meth E ow b n ret) (hI : In E ad V s H locs) (hsz : ls.size = n) (hf : f_X6_has V a1 = some (r, V1)) (hl : Cond.methodLink ow index yX6_has ∈ TB) (hR : 1 + 1 ≤ R.frames ∧ 8 + (2 + 11) + 40 * 1 ≤ R.locals) (hcs : cells ≤ R.cells ∧ slots ≤ R.slots) (hw : (rest.map fun v => v.category).sum ≤ 8) (hdg : decode b pc = .ok (.invokevirtual index, 3)) (kk : ∀ (H1 : Heap) (locs1 : List Loc), In E ad V1 s H1 locs1 → W p l e R s m args below meth c H1 locs1 cells slots Q (F0 m (pc + 3) ls ((.int r) :: rest))) : W p l e R s m args below meth c H locs cells slots Q (F0 m pc ls (.int a1 :: .ref (ad 1) :: rest)) :=
  r_calV (As := [.int a1]) (rest := rest) hC hI hsz (m_X6_has l E ad V a1 r _ hf) cv_X6_has hl (by decide) (ce_1 _) rfl rfl rfl hR hcs hw hdg kk

theorem dX6_isFull_0 : decode cX6_isFull 0 = .ok (.aload_n 0, 1) := by decide +kernel
theorem dX6_isFull_1 : decode cX6_isFull 1 = .ok (.getfield 39, 3) := by decide +kernel
theorem dX6_isFull_4 : decode cX6_isFull 4 = .ok (.bipush 24, 2) := by decide +kernel
theorem dX6_isFull_6 : decode cX6_isFull 6 = .ok (.if_icmp .lt 7, 3) := by decide +kernel
theorem dX6_isFull_9 : decode cX6_isFull 9 = .ok (.iconst 1, 1) := by decide +kernel
theorem dX6_isFull_10 : decode cX6_isFull 10 = .ok (.goto 4, 3) := by decide +kernel
theorem dX6_isFull_13 : decode cX6_isFull 13 = .ok (.iconst 0, 1) := by decide +kernel
theorem dX6_isFull_14 : decode cX6_isFull 14 = .ok (.ireturn, 1) := by decide +kernel
def f_X6_isFull (V : Mem) : Option (Int32 × Mem) :=
  if (V 1 1) < 24 then
    some (0, V)
  else
    some (1, V)
theorem cv_X6_isFull : CalV yX6_isFull cX6_isFull 1 (some .boolean) 0 := ⟨⟨⟨by decide +kernel, by decide +kernel⟩, tw_1_3, tw_3_188, by decide +kernel⟩, tw_3_186, tw_3_187⟩
set_option maxRecDepth 100000 in
set_option maxHeartbeats 4000000 in
theorem m_X6_isFull (l : Launch) (E : En) (ad : Nat → Nat) (V : Mem) (r : Int32) (Vz : Mem) (hf : f_X6_isFull V = some (r, Vz)) : MR l E ad yX6_isFull cX6_isFull 1 (some .boolean) 1 [.ref (ad 1)] V (some (.int r)) Vz := by
  refine ent (E := E) (ad := ad) (V := V) "LetterRepository$Revisions" (by decide +kernel) rfl (Nat.le_of_ble_eq_true rfl) ?_
  intro p e s m below meth c ls hC hI hl
  have hx := hC.1
  have hb := hC.2.1
  have hl : lv_has ls 1 [(0, .ref (ad 1))] := hl
  unfold f_X6_isFull at hf
  refine lv_aload_n hx hb dX6_isFull_0 rfl (lv_at hl 0 rfl) ?_
  refine g_1_count hC hI tw_1_77 dX6_isFull_1 ?_
  refine lv_bipush (v := 24) hx hb dX6_isFull_4 rfl ?_
  refine lv_icmp_lt (tgt := 13) hx hb dX6_isFull_6 (by decide) (fun c6 => ?_) (fun c6 => ?_)
  · have hf := gt hf c6
    refine lv_iconst (v := 0) hx hb dX6_isFull_13 rfl ?_
    exact r_zret2 hC hI (.inl rfl) hf dX6_isFull_14
  · have hf := gf hf c6
    refine lv_iconst (v := 1) hx hb dX6_isFull_9 rfl ?_
    refine lv_goto (tgt := 14) hx hb dX6_isFull_10 (by decide) ?_
    exact r_zret2 hC hI (.inr rfl) hf dX6_isFull_14
theorem k_X6_isFull {p : Program} {l : Launch} {e : Env} {R : Room} {cells slots : Nat} {s : State} {m : MethodId} {args : Array Value} {below : List Frame} {meth : Method} {c : Code} {H : Heap} {locs : List Loc} {Q : State → Prop} {E : En} {ad : Nat → Nat} {V : Mem} {ow : String} {b : ByteArray} {n : Nat} {ret : Option FieldType} {pc index : Nat} {ls : Array Slot} {rest : List Value} {r : Int32} {V1 : Mem} (hC : Cx p s m args c meth E ow b n ret) (hI : In E ad V s H locs) (hsz : ls.size = n) (hf : f_X6_isFull V = some (r, V1)) (hl : Cond.methodLink ow index yX6_isFull ∈ TB) (hR : 1 + 1 ≤ R.frames ∧ 8 + (1 + 11) + 40 * 1 ≤ R.locals) (hcs : cells ≤ R.cells ∧ slots ≤ R.slots) (hw : (rest.map fun v => v.category).sum ≤ 8) (hdg : decode b pc = .ok (.invokevirtual index, 3)) (kk : ∀ (H1 : Heap) (locs1 : List Loc), In E ad V1 s H1 locs1 → W p l e R s m args below meth c H1 locs1 cells slots Q (F0 m (pc + 3) ls ((.int r) :: rest))) : W p l e R s m args below meth c H locs cells slots Q (F0 m pc ls (.ref (ad 1) :: rest)) :=
  r_calV (As := []) (rest := rest) hC hI hsz (m_X6_isFull l E ad V r _ hf) cv_X6_isFull hl (by decide) (ce_1 _) rfl rfl rfl hR hcs hw hdg kk

theorem dX6_inArchive_0 : decode cX6_inArchive 0 = .ok (.aload_n 0, 1) := by decide +kernel
theorem dX6_inArchive_1 : decode cX6_inArchive 1 = .ok (.getfield 47, 3) := by decide +kernel
theorem dX6_inArchive_4 : decode cX6_inArchive 4 = .ok (.iload_n 1, 1) := by decide +kernel
theorem dX6_inArchive_5 : decode cX6_inArchive 5 = .ok (.invokestatic 50, 3) := by decide +kernel
theorem dX6_inArchive_8 : decode cX6_inArchive 8 = .ok (.ireturn, 1) := by decide +kernel
def f_X6_inArchive (V : Mem) (a1 : Int32) : Option (Int32 × Mem) :=
  bd (f_X9_contains V (V 1 0) a1) fun r5 V5 =>
  if r5 = 0 ∨ r5 = 1 then
    some (r5, V5)
  else none
theorem cv_X6_inArchive : CalV yX6_inArchive cX6_inArchive 2 (some .boolean) 1 := ⟨⟨⟨by decide +kernel, by decide +kernel⟩, tw_1_3, tw_3_225, by decide +kernel⟩, tw_3_223, tw_3_224⟩
set_option maxRecDepth 100000 in
set_option maxHeartbeats 4000000 in
theorem m_X6_inArchive (l : Launch) (E : En) (ad : Nat → Nat) (V : Mem) (a1 : Int32) (r : Int32) (Vz : Mem) (hf : f_X6_inArchive V a1 = some (r, Vz)) : MR l E ad yX6_inArchive cX6_inArchive 2 (some .boolean) 3 [.ref (ad 1), .int a1] V (some (.int r)) Vz := by
  refine ent (E := E) (ad := ad) (V := V) "LetterRepository$Revisions" (by decide +kernel) rfl (Nat.le_of_ble_eq_true rfl) ?_
  intro p e s m below meth c ls hC hI hl
  have hx := hC.1
  have hb := hC.2.1
  have hl : lv_has ls 2 [(0, .ref (ad 1)), (1, .int a1)] := hl
  unfold f_X6_inArchive at hf
  refine lv_aload_n hx hb dX6_inArchive_0 rfl (lv_at hl 0 rfl) ?_
  refine g_1_archived hC hI tw_1_74 dX6_inArchive_1 ?_
  refine lv_iload_n hx hb dX6_inArchive_4 rfl (lv_at hl 1 rfl) ?_
  obtain ⟨r5, V5, q5, hf⟩ := gbd hf
  refine kN_X9_contains hC hI hl.1 q5 tw_2_70 ⟨Nat.le_of_ble_eq_true rfl, Nat.le_of_ble_eq_true rfl⟩ ⟨Nat.le_refl _, Nat.le_refl _⟩ (Nat.le_of_ble_eq_true rfl) dX6_inArchive_5 (fun H locs hI => ?_)
  obtain ⟨h8, hf⟩ := gi hf
  exact r_zret2 hC hI h8 hf dX6_inArchive_8
theorem k_X6_inArchive {p : Program} {l : Launch} {e : Env} {R : Room} {cells slots : Nat} {s : State} {m : MethodId} {args : Array Value} {below : List Frame} {meth : Method} {c : Code} {H : Heap} {locs : List Loc} {Q : State → Prop} {E : En} {ad : Nat → Nat} {V : Mem} {ow : String} {b : ByteArray} {n : Nat} {ret : Option FieldType} {pc index : Nat} {ls : Array Slot} {rest : List Value} {a1 : Int32} {r : Int32} {V1 : Mem} (hC : Cx p s m args c meth E ow b n ret) (hI : In E ad V s H locs) (hsz : ls.size = n) (hf : f_X6_inArchive V a1 = some (r, V1)) (hl : Cond.methodLink ow index yX6_inArchive ∈ TB) (hR : 3 + 1 ≤ R.frames ∧ 8 + (2 + 11) + 40 * 3 ≤ R.locals) (hcs : cells ≤ R.cells ∧ slots ≤ R.slots) (hw : (rest.map fun v => v.category).sum ≤ 8) (hdg : decode b pc = .ok (.invokevirtual index, 3)) (kk : ∀ (H1 : Heap) (locs1 : List Loc), In E ad V1 s H1 locs1 → W p l e R s m args below meth c H1 locs1 cells slots Q (F0 m (pc + 3) ls ((.int r) :: rest))) : W p l e R s m args below meth c H locs cells slots Q (F0 m pc ls (.int a1 :: .ref (ad 1) :: rest)) :=
  r_calV (As := [.int a1]) (rest := rest) hC hI hsz (m_X6_inArchive l E ad V a1 r _ hf) cv_X6_inArchive hl (by decide) (ce_1 _) rfl rfl rfl hR hcs hw hdg kk

theorem dX6_isOpen_0 : decode cX6_isOpen 0 = .ok (.aload_n 0, 1) := by decide +kernel
theorem dX6_isOpen_1 : decode cX6_isOpen 1 = .ok (.iload_n 1, 1) := by decide +kernel
theorem dX6_isOpen_2 : decode cX6_isOpen 2 = .ok (.invokevirtual 54, 3) := by decide +kernel
theorem dX6_isOpen_5 : decode cX6_isOpen 5 = .ok (.ifCond .eq 15, 3) := by decide +kernel
theorem dX6_isOpen_8 : decode cX6_isOpen 8 = .ok (.aload_n 0, 1) := by decide +kernel
theorem dX6_isOpen_9 : decode cX6_isOpen 9 = .ok (.iload_n 1, 1) := by decide +kernel
theorem dX6_isOpen_10 : decode cX6_isOpen 10 = .ok (.invokevirtual 58, 3) := by decide +kernel
theorem dX6_isOpen_13 : decode cX6_isOpen 13 = .ok (.ifCond .ne 7, 3) := by decide +kernel
theorem dX6_isOpen_16 : decode cX6_isOpen 16 = .ok (.iconst 1, 1) := by decide +kernel
theorem dX6_isOpen_17 : decode cX6_isOpen 17 = .ok (.goto 4, 3) := by decide +kernel
theorem dX6_isOpen_20 : decode cX6_isOpen 20 = .ok (.iconst 0, 1) := by decide +kernel
theorem dX6_isOpen_21 : decode cX6_isOpen 21 = .ok (.ireturn, 1) := by decide +kernel
def f_X6_isOpen (V : Mem) (a1 : Int32) : Option (Int32 × Mem) :=
  bd (f_X6_has V a1) fun r2 V2 =>
  if r2 = 0 then
    some (0, V2)
  else
    bd (f_X6_inArchive V2 a1) fun r10 V10 =>
    if r10 = 0 then
      some (1, V10)
    else
      some (0, V10)
theorem cv_X6_isOpen : CalV yX6_isOpen cX6_isOpen 2 (some .boolean) 1 := ⟨⟨⟨by decide +kernel, by decide +kernel⟩, tw_1_3, tw_3_221, by decide +kernel⟩, tw_3_219, tw_3_220⟩
set_option maxRecDepth 100000 in
set_option maxHeartbeats 4000000 in
theorem m_X6_isOpen (l : Launch) (E : En) (ad : Nat → Nat) (V : Mem) (a1 : Int32) (r : Int32) (Vz : Mem) (hf : f_X6_isOpen V a1 = some (r, Vz)) : MR l E ad yX6_isOpen cX6_isOpen 2 (some .boolean) 4 [.ref (ad 1), .int a1] V (some (.int r)) Vz := by
  refine ent (E := E) (ad := ad) (V := V) "LetterRepository$Revisions" (by decide +kernel) rfl (Nat.le_of_ble_eq_true rfl) ?_
  intro p e s m below meth c ls hC hI hl
  have hx := hC.1
  have hb := hC.2.1
  have hl : lv_has ls 2 [(0, .ref (ad 1)), (1, .int a1)] := hl
  unfold f_X6_isOpen at hf
  refine lv_aload_n hx hb dX6_isOpen_0 rfl (lv_at hl 0 rfl) ?_
  refine lv_iload_n hx hb dX6_isOpen_1 rfl (lv_at hl 1 rfl) ?_
  obtain ⟨r2, V2, q2, hf⟩ := gbd hf
  refine k_X6_has hC hI hl.1 q2 tw_2_66 ⟨Nat.le_of_ble_eq_true rfl, Nat.le_of_ble_eq_true rfl⟩ ⟨Nat.le_refl _, Nat.le_refl _⟩ (Nat.le_of_ble_eq_true rfl) dX6_isOpen_2 (fun H locs hI => ?_)
  refine lv_if_eq (tgt := 20) hx hb dX6_isOpen_5 (by decide) (fun c5 => ?_) (fun c5 => ?_)
  · have hf := gt hf c5
    refine lv_iconst (v := 0) hx hb dX6_isOpen_20 rfl ?_
    exact r_zret2 hC hI (.inl rfl) hf dX6_isOpen_21
  · have hf := gf hf c5
    refine lv_aload_n hx hb dX6_isOpen_8 rfl (lv_at hl 0 rfl) ?_
    refine lv_iload_n hx hb dX6_isOpen_9 rfl (lv_at hl 1 rfl) ?_
    obtain ⟨r10, V10, q10, hf⟩ := gbd hf
    refine k_X6_inArchive hC hI hl.1 q10 tw_3_222 ⟨Nat.le_of_ble_eq_true rfl, Nat.le_of_ble_eq_true rfl⟩ ⟨Nat.le_refl _, Nat.le_refl _⟩ (Nat.le_of_ble_eq_true rfl) dX6_isOpen_10 (fun H locs hI => ?_)
    refine lv_if_ne (tgt := 20) hx hb dX6_isOpen_13 (by decide) (fun c13 => ?_) (fun c13 => ?_)
    · have hf := gf hf c13
      refine lv_iconst (v := 0) hx hb dX6_isOpen_20 rfl ?_
      exact r_zret2 hC hI (.inl rfl) hf dX6_isOpen_21
    · have hf := gt hf c13
      refine lv_iconst (v := 1) hx hb dX6_isOpen_16 rfl ?_
      refine lv_goto (tgt := 21) hx hb dX6_isOpen_17 (by decide) ?_
      exact r_zret2 hC hI (.inr rfl) hf dX6_isOpen_21
theorem k_X6_isOpen {p : Program} {l : Launch} {e : Env} {R : Room} {cells slots : Nat} {s : State} {m : MethodId} {args : Array Value} {below : List Frame} {meth : Method} {c : Code} {H : Heap} {locs : List Loc} {Q : State → Prop} {E : En} {ad : Nat → Nat} {V : Mem} {ow : String} {b : ByteArray} {n : Nat} {ret : Option FieldType} {pc index : Nat} {ls : Array Slot} {rest : List Value} {a1 : Int32} {r : Int32} {V1 : Mem} (hC : Cx p s m args c meth E ow b n ret) (hI : In E ad V s H locs) (hsz : ls.size = n) (hf : f_X6_isOpen V a1 = some (r, V1)) (hl : Cond.methodLink ow index yX6_isOpen ∈ TB) (hR : 4 + 1 ≤ R.frames ∧ 8 + (2 + 11) + 40 * 4 ≤ R.locals) (hcs : cells ≤ R.cells ∧ slots ≤ R.slots) (hw : (rest.map fun v => v.category).sum ≤ 8) (hdg : decode b pc = .ok (.invokevirtual index, 3)) (kk : ∀ (H1 : Heap) (locs1 : List Loc), In E ad V1 s H1 locs1 → W p l e R s m args below meth c H1 locs1 cells slots Q (F0 m (pc + 3) ls ((.int r) :: rest))) : W p l e R s m args below meth c H locs cells slots Q (F0 m pc ls (.int a1 :: .ref (ad 1) :: rest)) :=
  r_calV (As := [.int a1]) (rest := rest) hC hI hsz (m_X6_isOpen l E ad V a1 r _ hf) cv_X6_isOpen hl (by decide) (ce_1 _) rfl rfl rfl hR hcs hw hdg kk

theorem dX6_firstParentOf_0 : decode cX6_firstParentOf 0 = .ok (.aload_n 0, 1) := by decide +kernel
theorem dX6_firstParentOf_1 : decode cX6_firstParentOf 1 = .ok (.getfield 14, 3) := by decide +kernel
theorem dX6_firstParentOf_4 : decode cX6_firstParentOf 4 = .ok (.iload_n 1, 1) := by decide +kernel
theorem dX6_firstParentOf_5 : decode cX6_firstParentOf 5 = .ok (.invokevirtual 61, 3) := by decide +kernel
theorem dX6_firstParentOf_8 : decode cX6_firstParentOf 8 = .ok (.ireturn, 1) := by decide +kernel
def f_X6_firstParentOf (V : Mem) (a1 : Int32) : Option (Int32 × Mem) :=
  bd (f_X7_get V 2 24 a1) fun r5 V5 =>
  some (r5, V5)
theorem cv_X6_firstParentOf : CalV yX6_firstParentOf cX6_firstParentOf 2 (some .int) 1 := ⟨⟨⟨by decide +kernel, by decide +kernel⟩, tw_1_3, tw_2_77, by decide +kernel⟩, tw_2_75, tw_2_76⟩
set_option maxRecDepth 100000 in
set_option maxHeartbeats 4000000 in
theorem m_X6_firstParentOf (l : Launch) (E : En) (ad : Nat → Nat) (V : Mem) (a1 : Int32) (r : Int32) (Vz : Mem) (hf : f_X6_firstParentOf V a1 = some (r, Vz)) : MR l E ad yX6_firstParentOf cX6_firstParentOf 2 (some .int) 2 [.ref (ad 1), .int a1] V (some (.int r)) Vz := by
  refine ent (E := E) (ad := ad) (V := V) "LetterRepository$Revisions" (by decide +kernel) rfl (Nat.le_of_ble_eq_true rfl) ?_
  intro p e s m below meth c ls hC hI hl
  have hx := hC.1
  have hb := hC.2.1
  have hl : lv_has ls 2 [(0, .ref (ad 1)), (1, .int a1)] := hl
  unfold f_X6_firstParentOf at hf
  refine lv_aload_n hx hb dX6_firstParentOf_0 rfl (lv_at hl 0 rfl) ?_
  refine g_1_firstParents hC hI tw_1_68 dX6_firstParentOf_1 ?_
  refine lv_iload_n hx hb dX6_firstParentOf_4 rfl (lv_at hl 1 rfl) ?_
  obtain ⟨r5, V5, q5, hf⟩ := gbd hf
  refine k_X7_get row_2 hC hI hl.1 q5 tw_2_78 ⟨Nat.le_of_ble_eq_true rfl, Nat.le_of_ble_eq_true rfl⟩ ⟨Nat.le_refl _, Nat.le_refl _⟩ (Nat.le_of_ble_eq_true rfl) dX6_firstParentOf_5 (fun H locs hI => ?_)
  exact r_iret2 hC hI hf dX6_firstParentOf_8
theorem k_X6_firstParentOf {p : Program} {l : Launch} {e : Env} {R : Room} {cells slots : Nat} {s : State} {m : MethodId} {args : Array Value} {below : List Frame} {meth : Method} {c : Code} {H : Heap} {locs : List Loc} {Q : State → Prop} {E : En} {ad : Nat → Nat} {V : Mem} {ow : String} {b : ByteArray} {n : Nat} {ret : Option FieldType} {pc index : Nat} {ls : Array Slot} {rest : List Value} {a1 : Int32} {r : Int32} {V1 : Mem} (hC : Cx p s m args c meth E ow b n ret) (hI : In E ad V s H locs) (hsz : ls.size = n) (hf : f_X6_firstParentOf V a1 = some (r, V1)) (hl : Cond.methodLink ow index yX6_firstParentOf ∈ TB) (hR : 2 + 1 ≤ R.frames ∧ 8 + (2 + 11) + 40 * 2 ≤ R.locals) (hcs : cells ≤ R.cells ∧ slots ≤ R.slots) (hw : (rest.map fun v => v.category).sum ≤ 8) (hdg : decode b pc = .ok (.invokevirtual index, 3)) (kk : ∀ (H1 : Heap) (locs1 : List Loc), In E ad V1 s H1 locs1 → W p l e R s m args below meth c H1 locs1 cells slots Q (F0 m (pc + 3) ls ((.int r) :: rest))) : W p l e R s m args below meth c H locs cells slots Q (F0 m pc ls (.int a1 :: .ref (ad 1) :: rest)) :=
  r_calV (As := [.int a1]) (rest := rest) hC hI hsz (m_X6_firstParentOf l E ad V a1 r _ hf) cv_X6_firstParentOf hl (by decide) (ce_1 _) rfl rfl rfl hR hcs hw hdg kk

theorem dX6_secondParentOf_0 : decode cX6_secondParentOf 0 = .ok (.aload_n 0, 1) := by decide +kernel
theorem dX6_secondParentOf_1 : decode cX6_secondParentOf 1 = .ok (.getfield 20, 3) := by decide +kernel
theorem dX6_secondParentOf_4 : decode cX6_secondParentOf 4 = .ok (.iload_n 1, 1) := by decide +kernel
theorem dX6_secondParentOf_5 : decode cX6_secondParentOf 5 = .ok (.invokevirtual 61, 3) := by decide +kernel
theorem dX6_secondParentOf_8 : decode cX6_secondParentOf 8 = .ok (.ireturn, 1) := by decide +kernel
def f_X6_secondParentOf (V : Mem) (a1 : Int32) : Option (Int32 × Mem) :=
  bd (f_X7_get V 4 24 a1) fun r5 V5 =>
  some (r5, V5)
theorem cv_X6_secondParentOf : CalV yX6_secondParentOf cX6_secondParentOf 2 (some .int) 1 := ⟨⟨⟨by decide +kernel, by decide +kernel⟩, tw_1_3, tw_2_83, by decide +kernel⟩, tw_2_81, tw_2_82⟩
set_option maxRecDepth 100000 in
set_option maxHeartbeats 4000000 in
theorem m_X6_secondParentOf (l : Launch) (E : En) (ad : Nat → Nat) (V : Mem) (a1 : Int32) (r : Int32) (Vz : Mem) (hf : f_X6_secondParentOf V a1 = some (r, Vz)) : MR l E ad yX6_secondParentOf cX6_secondParentOf 2 (some .int) 2 [.ref (ad 1), .int a1] V (some (.int r)) Vz := by
  refine ent (E := E) (ad := ad) (V := V) "LetterRepository$Revisions" (by decide +kernel) rfl (Nat.le_of_ble_eq_true rfl) ?_
  intro p e s m below meth c ls hC hI hl
  have hx := hC.1
  have hb := hC.2.1
  have hl : lv_has ls 2 [(0, .ref (ad 1)), (1, .int a1)] := hl
  unfold f_X6_secondParentOf at hf
  refine lv_aload_n hx hb dX6_secondParentOf_0 rfl (lv_at hl 0 rfl) ?_
  refine g_1_secondParents hC hI tw_1_69 dX6_secondParentOf_1 ?_
  refine lv_iload_n hx hb dX6_secondParentOf_4 rfl (lv_at hl 1 rfl) ?_
  obtain ⟨r5, V5, q5, hf⟩ := gbd hf
  refine k_X7_get row_4 hC hI hl.1 q5 tw_2_78 ⟨Nat.le_of_ble_eq_true rfl, Nat.le_of_ble_eq_true rfl⟩ ⟨Nat.le_refl _, Nat.le_refl _⟩ (Nat.le_of_ble_eq_true rfl) dX6_secondParentOf_5 (fun H locs hI => ?_)
  exact r_iret2 hC hI hf dX6_secondParentOf_8
theorem k_X6_secondParentOf {p : Program} {l : Launch} {e : Env} {R : Room} {cells slots : Nat} {s : State} {m : MethodId} {args : Array Value} {below : List Frame} {meth : Method} {c : Code} {H : Heap} {locs : List Loc} {Q : State → Prop} {E : En} {ad : Nat → Nat} {V : Mem} {ow : String} {b : ByteArray} {n : Nat} {ret : Option FieldType} {pc index : Nat} {ls : Array Slot} {rest : List Value} {a1 : Int32} {r : Int32} {V1 : Mem} (hC : Cx p s m args c meth E ow b n ret) (hI : In E ad V s H locs) (hsz : ls.size = n) (hf : f_X6_secondParentOf V a1 = some (r, V1)) (hl : Cond.methodLink ow index yX6_secondParentOf ∈ TB) (hR : 2 + 1 ≤ R.frames ∧ 8 + (2 + 11) + 40 * 2 ≤ R.locals) (hcs : cells ≤ R.cells ∧ slots ≤ R.slots) (hw : (rest.map fun v => v.category).sum ≤ 8) (hdg : decode b pc = .ok (.invokevirtual index, 3)) (kk : ∀ (H1 : Heap) (locs1 : List Loc), In E ad V1 s H1 locs1 → W p l e R s m args below meth c H1 locs1 cells slots Q (F0 m (pc + 3) ls ((.int r) :: rest))) : W p l e R s m args below meth c H locs cells slots Q (F0 m pc ls (.int a1 :: .ref (ad 1) :: rest)) :=
  r_calV (As := [.int a1]) (rest := rest) hC hI hsz (m_X6_secondParentOf l E ad V a1 r _ hf) cv_X6_secondParentOf hl (by decide) (ce_1 _) rfl rfl rfl hR hcs hw hdg kk

theorem dX6_writerOf_0 : decode cX6_writerOf 0 = .ok (.aload_n 0, 1) := by decide +kernel
theorem dX6_writerOf_1 : decode cX6_writerOf 1 = .ok (.getfield 23, 3) := by decide +kernel
theorem dX6_writerOf_4 : decode cX6_writerOf 4 = .ok (.iload_n 1, 1) := by decide +kernel
theorem dX6_writerOf_5 : decode cX6_writerOf 5 = .ok (.invokevirtual 61, 3) := by decide +kernel
theorem dX6_writerOf_8 : decode cX6_writerOf 8 = .ok (.ireturn, 1) := by decide +kernel
def f_X6_writerOf (V : Mem) (a1 : Int32) : Option (Int32 × Mem) :=
  bd (f_X7_get V 6 24 a1) fun r5 V5 =>
  some (r5, V5)
theorem cv_X6_writerOf : CalV yX6_writerOf cX6_writerOf 2 (some .int) 1 := ⟨⟨⟨by decide +kernel, by decide +kernel⟩, tw_1_3, tw_2_105, by decide +kernel⟩, tw_2_103, tw_2_104⟩
set_option maxRecDepth 100000 in
set_option maxHeartbeats 4000000 in
theorem m_X6_writerOf (l : Launch) (E : En) (ad : Nat → Nat) (V : Mem) (a1 : Int32) (r : Int32) (Vz : Mem) (hf : f_X6_writerOf V a1 = some (r, Vz)) : MR l E ad yX6_writerOf cX6_writerOf 2 (some .int) 2 [.ref (ad 1), .int a1] V (some (.int r)) Vz := by
  refine ent (E := E) (ad := ad) (V := V) "LetterRepository$Revisions" (by decide +kernel) rfl (Nat.le_of_ble_eq_true rfl) ?_
  intro p e s m below meth c ls hC hI hl
  have hx := hC.1
  have hb := hC.2.1
  have hl : lv_has ls 2 [(0, .ref (ad 1)), (1, .int a1)] := hl
  unfold f_X6_writerOf at hf
  refine lv_aload_n hx hb dX6_writerOf_0 rfl (lv_at hl 0 rfl) ?_
  refine g_1_authors hC hI tw_1_70 dX6_writerOf_1 ?_
  refine lv_iload_n hx hb dX6_writerOf_4 rfl (lv_at hl 1 rfl) ?_
  obtain ⟨r5, V5, q5, hf⟩ := gbd hf
  refine k_X7_get row_6 hC hI hl.1 q5 tw_2_78 ⟨Nat.le_of_ble_eq_true rfl, Nat.le_of_ble_eq_true rfl⟩ ⟨Nat.le_refl _, Nat.le_refl _⟩ (Nat.le_of_ble_eq_true rfl) dX6_writerOf_5 (fun H locs hI => ?_)
  exact r_iret2 hC hI hf dX6_writerOf_8
theorem k_X6_writerOf {p : Program} {l : Launch} {e : Env} {R : Room} {cells slots : Nat} {s : State} {m : MethodId} {args : Array Value} {below : List Frame} {meth : Method} {c : Code} {H : Heap} {locs : List Loc} {Q : State → Prop} {E : En} {ad : Nat → Nat} {V : Mem} {ow : String} {b : ByteArray} {n : Nat} {ret : Option FieldType} {pc index : Nat} {ls : Array Slot} {rest : List Value} {a1 : Int32} {r : Int32} {V1 : Mem} (hC : Cx p s m args c meth E ow b n ret) (hI : In E ad V s H locs) (hsz : ls.size = n) (hf : f_X6_writerOf V a1 = some (r, V1)) (hl : Cond.methodLink ow index yX6_writerOf ∈ TB) (hR : 2 + 1 ≤ R.frames ∧ 8 + (2 + 11) + 40 * 2 ≤ R.locals) (hcs : cells ≤ R.cells ∧ slots ≤ R.slots) (hw : (rest.map fun v => v.category).sum ≤ 8) (hdg : decode b pc = .ok (.invokevirtual index, 3)) (kk : ∀ (H1 : Heap) (locs1 : List Loc), In E ad V1 s H1 locs1 → W p l e R s m args below meth c H1 locs1 cells slots Q (F0 m (pc + 3) ls ((.int r) :: rest))) : W p l e R s m args below meth c H locs cells slots Q (F0 m pc ls (.int a1 :: .ref (ad 1) :: rest)) :=
  r_calV (As := [.int a1]) (rest := rest) hC hI hsz (m_X6_writerOf l E ad V a1 r _ hf) cv_X6_writerOf hl (by decide) (ce_1 _) rfl rfl rfl hR hcs hw hdg kk

theorem dX6_generationOf_0 : decode cX6_generationOf 0 = .ok (.aload_n 0, 1) := by decide +kernel
theorem dX6_generationOf_1 : decode cX6_generationOf 1 = .ok (.getfield 26, 3) := by decide +kernel
theorem dX6_generationOf_4 : decode cX6_generationOf 4 = .ok (.iload_n 1, 1) := by decide +kernel
theorem dX6_generationOf_5 : decode cX6_generationOf 5 = .ok (.invokevirtual 61, 3) := by decide +kernel
theorem dX6_generationOf_8 : decode cX6_generationOf 8 = .ok (.ireturn, 1) := by decide +kernel
def f_X6_generationOf (V : Mem) (a1 : Int32) : Option (Int32 × Mem) :=
  bd (f_X7_get V 8 24 a1) fun r5 V5 =>
  some (r5, V5)
theorem cv_X6_generationOf : CalV yX6_generationOf cX6_generationOf 2 (some .int) 1 := ⟨⟨⟨by decide +kernel, by decide +kernel⟩, tw_1_3, tw_2_151, by decide +kernel⟩, tw_2_149, tw_2_150⟩
set_option maxRecDepth 100000 in
set_option maxHeartbeats 4000000 in
theorem m_X6_generationOf (l : Launch) (E : En) (ad : Nat → Nat) (V : Mem) (a1 : Int32) (r : Int32) (Vz : Mem) (hf : f_X6_generationOf V a1 = some (r, Vz)) : MR l E ad yX6_generationOf cX6_generationOf 2 (some .int) 2 [.ref (ad 1), .int a1] V (some (.int r)) Vz := by
  refine ent (E := E) (ad := ad) (V := V) "LetterRepository$Revisions" (by decide +kernel) rfl (Nat.le_of_ble_eq_true rfl) ?_
  intro p e s m below meth c ls hC hI hl
  have hx := hC.1
  have hb := hC.2.1
  have hl : lv_has ls 2 [(0, .ref (ad 1)), (1, .int a1)] := hl
  unfold f_X6_generationOf at hf
  refine lv_aload_n hx hb dX6_generationOf_0 rfl (lv_at hl 0 rfl) ?_
  refine g_1_generations hC hI tw_1_71 dX6_generationOf_1 ?_
  refine lv_iload_n hx hb dX6_generationOf_4 rfl (lv_at hl 1 rfl) ?_
  obtain ⟨r5, V5, q5, hf⟩ := gbd hf
  refine k_X7_get row_8 hC hI hl.1 q5 tw_2_78 ⟨Nat.le_of_ble_eq_true rfl, Nat.le_of_ble_eq_true rfl⟩ ⟨Nat.le_refl _, Nat.le_refl _⟩ (Nat.le_of_ble_eq_true rfl) dX6_generationOf_5 (fun H locs hI => ?_)
  exact r_iret2 hC hI hf dX6_generationOf_8
theorem k_X6_generationOf {p : Program} {l : Launch} {e : Env} {R : Room} {cells slots : Nat} {s : State} {m : MethodId} {args : Array Value} {below : List Frame} {meth : Method} {c : Code} {H : Heap} {locs : List Loc} {Q : State → Prop} {E : En} {ad : Nat → Nat} {V : Mem} {ow : String} {b : ByteArray} {n : Nat} {ret : Option FieldType} {pc index : Nat} {ls : Array Slot} {rest : List Value} {a1 : Int32} {r : Int32} {V1 : Mem} (hC : Cx p s m args c meth E ow b n ret) (hI : In E ad V s H locs) (hsz : ls.size = n) (hf : f_X6_generationOf V a1 = some (r, V1)) (hl : Cond.methodLink ow index yX6_generationOf ∈ TB) (hR : 2 + 1 ≤ R.frames ∧ 8 + (2 + 11) + 40 * 2 ≤ R.locals) (hcs : cells ≤ R.cells ∧ slots ≤ R.slots) (hw : (rest.map fun v => v.category).sum ≤ 8) (hdg : decode b pc = .ok (.invokevirtual index, 3)) (kk : ∀ (H1 : Heap) (locs1 : List Loc), In E ad V1 s H1 locs1 → W p l e R s m args below meth c H1 locs1 cells slots Q (F0 m (pc + 3) ls ((.int r) :: rest))) : W p l e R s m args below meth c H locs cells slots Q (F0 m pc ls (.int a1 :: .ref (ad 1) :: rest)) :=
  r_calV (As := [.int a1]) (rest := rest) hC hI hsz (m_X6_generationOf l E ad V a1 r _ hf) cv_X6_generationOf hl (by decide) (ce_1 _) rfl rfl rfl hR hcs hw hdg kk

theorem dX6_ancestorSetOf_0 : decode cX6_ancestorSetOf 0 = .ok (.iload_n 1, 1) := by decide +kernel
theorem dX6_ancestorSetOf_1 : decode cX6_ancestorSetOf 1 = .ok (.iconst (-1), 1) := by decide +kernel
theorem dX6_ancestorSetOf_2 : decode cX6_ancestorSetOf 2 = .ok (.if_icmp .ne 7, 3) := by decide +kernel
theorem dX6_ancestorSetOf_5 : decode cX6_ancestorSetOf 5 = .ok (.iconst 0, 1) := by decide +kernel
theorem dX6_ancestorSetOf_6 : decode cX6_ancestorSetOf 6 = .ok (.goto 11, 3) := by decide +kernel
theorem dX6_ancestorSetOf_9 : decode cX6_ancestorSetOf 9 = .ok (.aload_n 0, 1) := by decide +kernel
theorem dX6_ancestorSetOf_10 : decode cX6_ancestorSetOf 10 = .ok (.getfield 33, 3) := by decide +kernel
theorem dX6_ancestorSetOf_13 : decode cX6_ancestorSetOf 13 = .ok (.iload_n 1, 1) := by decide +kernel
theorem dX6_ancestorSetOf_14 : decode cX6_ancestorSetOf 14 = .ok (.invokevirtual 61, 3) := by decide +kernel
theorem dX6_ancestorSetOf_17 : decode cX6_ancestorSetOf 17 = .ok (.ireturn, 1) := by decide +kernel
def f_X6_ancestorSetOf (V : Mem) (a1 : Int32) : Option (Int32 × Mem) :=
  if a1 = (-1) then
    some (0, V)
  else
    bd (f_X7_get V 10 24 a1) fun r14 V14 =>
    some (r14, V14)
theorem cv_X6_ancestorSetOf : CalV yX6_ancestorSetOf cX6_ancestorSetOf 2 (some .int) 1 := ⟨⟨⟨by decide +kernel, by decide +kernel⟩, tw_1_3, tw_2_180, by decide +kernel⟩, tw_2_178, tw_2_179⟩
set_option maxRecDepth 100000 in
set_option maxHeartbeats 4000000 in
theorem m_X6_ancestorSetOf (l : Launch) (E : En) (ad : Nat → Nat) (V : Mem) (a1 : Int32) (r : Int32) (Vz : Mem) (hf : f_X6_ancestorSetOf V a1 = some (r, Vz)) : MR l E ad yX6_ancestorSetOf cX6_ancestorSetOf 2 (some .int) 2 [.ref (ad 1), .int a1] V (some (.int r)) Vz := by
  refine ent (E := E) (ad := ad) (V := V) "LetterRepository$Revisions" (by decide +kernel) rfl (Nat.le_of_ble_eq_true rfl) ?_
  intro p e s m below meth c ls hC hI hl
  have hx := hC.1
  have hb := hC.2.1
  have hl : lv_has ls 2 [(0, .ref (ad 1)), (1, .int a1)] := hl
  unfold f_X6_ancestorSetOf at hf
  refine lv_iload_n hx hb dX6_ancestorSetOf_0 rfl (lv_at hl 1 rfl) ?_
  refine lv_iconst (v := (-1)) hx hb dX6_ancestorSetOf_1 rfl ?_
  refine lv_icmp_ne (tgt := 9) hx hb dX6_ancestorSetOf_2 (by decide) (fun c2 => ?_) (fun c2 => ?_)
  · have hf := gf hf c2
    refine lv_aload_n hx hb dX6_ancestorSetOf_9 rfl (lv_at hl 0 rfl) ?_
    refine g_1_ancestorSets hC hI tw_1_72 dX6_ancestorSetOf_10 ?_
    refine lv_iload_n hx hb dX6_ancestorSetOf_13 rfl (lv_at hl 1 rfl) ?_
    obtain ⟨r14, V14, q14, hf⟩ := gbd hf
    refine k_X7_get row_10 hC hI hl.1 q14 tw_2_78 ⟨Nat.le_of_ble_eq_true rfl, Nat.le_of_ble_eq_true rfl⟩ ⟨Nat.le_refl _, Nat.le_refl _⟩ (Nat.le_of_ble_eq_true rfl) dX6_ancestorSetOf_14 (fun H locs hI => ?_)
    exact r_iret2 hC hI hf dX6_ancestorSetOf_17
  · have hf := gt hf c2
    refine lv_iconst (v := 0) hx hb dX6_ancestorSetOf_5 rfl ?_
    refine lv_goto (tgt := 17) hx hb dX6_ancestorSetOf_6 (by decide) ?_
    exact r_iret2 hC hI hf dX6_ancestorSetOf_17
theorem k_X6_ancestorSetOf {p : Program} {l : Launch} {e : Env} {R : Room} {cells slots : Nat} {s : State} {m : MethodId} {args : Array Value} {below : List Frame} {meth : Method} {c : Code} {H : Heap} {locs : List Loc} {Q : State → Prop} {E : En} {ad : Nat → Nat} {V : Mem} {ow : String} {b : ByteArray} {n : Nat} {ret : Option FieldType} {pc index : Nat} {ls : Array Slot} {rest : List Value} {a1 : Int32} {r : Int32} {V1 : Mem} (hC : Cx p s m args c meth E ow b n ret) (hI : In E ad V s H locs) (hsz : ls.size = n) (hf : f_X6_ancestorSetOf V a1 = some (r, V1)) (hl : Cond.methodLink ow index yX6_ancestorSetOf ∈ TB) (hR : 2 + 1 ≤ R.frames ∧ 8 + (2 + 11) + 40 * 2 ≤ R.locals) (hcs : cells ≤ R.cells ∧ slots ≤ R.slots) (hw : (rest.map fun v => v.category).sum ≤ 8) (hdg : decode b pc = .ok (.invokevirtual index, 3)) (kk : ∀ (H1 : Heap) (locs1 : List Loc), In E ad V1 s H1 locs1 → W p l e R s m args below meth c H1 locs1 cells slots Q (F0 m (pc + 3) ls ((.int r) :: rest))) : W p l e R s m args below meth c H locs cells slots Q (F0 m pc ls (.int a1 :: .ref (ad 1) :: rest)) :=
  r_calV (As := [.int a1]) (rest := rest) hC hI hsz (m_X6_ancestorSetOf l E ad V a1 r _ hf) cv_X6_ancestorSetOf hl (by decide) (ce_1 _) rfl rfl rfl hR hcs hw hdg kk

theorem dX6_letterOf_0 : decode cX6_letterOf 0 = .ok (.aload_n 0, 1) := by decide +kernel
theorem dX6_letterOf_1 : decode cX6_letterOf 1 = .ok (.getfield 36, 3) := by decide +kernel
theorem dX6_letterOf_4 : decode cX6_letterOf 4 = .ok (.iload_n 1, 1) := by decide +kernel
theorem dX6_letterOf_5 : decode cX6_letterOf 5 = .ok (.bipush 8, 2) := by decide +kernel
theorem dX6_letterOf_7 : decode cX6_letterOf 7 = .ok (.imul, 1) := by decide +kernel
theorem dX6_letterOf_8 : decode cX6_letterOf 8 = .ok (.iload_n 2, 1) := by decide +kernel
theorem dX6_letterOf_9 : decode cX6_letterOf 9 = .ok (.iadd, 1) := by decide +kernel
theorem dX6_letterOf_10 : decode cX6_letterOf 10 = .ok (.invokevirtual 61, 3) := by decide +kernel
theorem dX6_letterOf_13 : decode cX6_letterOf 13 = .ok (.ireturn, 1) := by decide +kernel
def f_X6_letterOf (V : Mem) (a1 : Int32) (a2 : Int32) : Option (Int32 × Mem) :=
  bd (f_X7_get V 12 192 ((a1 * 8) + a2)) fun r10 V10 =>
  some (r10, V10)
theorem cv_X6_letterOf : CalV yX6_letterOf cX6_letterOf 3 (some .int) 2 := ⟨⟨⟨by decide +kernel, by decide +kernel⟩, tw_1_3, tw_2_196, by decide +kernel⟩, tw_2_194, tw_2_195⟩
set_option maxRecDepth 100000 in
set_option maxHeartbeats 4000000 in
theorem m_X6_letterOf (l : Launch) (E : En) (ad : Nat → Nat) (V : Mem) (a1 : Int32) (a2 : Int32) (r : Int32) (Vz : Mem) (hf : f_X6_letterOf V a1 a2 = some (r, Vz)) : MR l E ad yX6_letterOf cX6_letterOf 3 (some .int) 2 [.ref (ad 1), .int a1, .int a2] V (some (.int r)) Vz := by
  refine ent (E := E) (ad := ad) (V := V) "LetterRepository$Revisions" (by decide +kernel) rfl (Nat.le_of_ble_eq_true rfl) ?_
  intro p e s m below meth c ls hC hI hl
  have hx := hC.1
  have hb := hC.2.1
  have hl : lv_has ls 3 [(0, .ref (ad 1)), (1, .int a1), (2, .int a2)] := hl
  unfold f_X6_letterOf at hf
  refine lv_aload_n hx hb dX6_letterOf_0 rfl (lv_at hl 0 rfl) ?_
  refine g_1_letters hC hI tw_1_73 dX6_letterOf_1 ?_
  refine lv_iload_n hx hb dX6_letterOf_4 rfl (lv_at hl 1 rfl) ?_
  refine lv_bipush (v := 8) hx hb dX6_letterOf_5 rfl ?_
  refine lv_imul hx hb dX6_letterOf_7 ?_
  refine lv_iload_n hx hb dX6_letterOf_8 rfl (lv_at hl 2 rfl) ?_
  refine lv_iadd hx hb dX6_letterOf_9 ?_
  obtain ⟨r10, V10, q10, hf⟩ := gbd hf
  refine k_X7_get row_12 hC hI hl.1 q10 tw_2_78 ⟨Nat.le_of_ble_eq_true rfl, Nat.le_of_ble_eq_true rfl⟩ ⟨Nat.le_refl _, Nat.le_refl _⟩ (Nat.le_of_ble_eq_true rfl) dX6_letterOf_10 (fun H locs hI => ?_)
  exact r_iret2 hC hI hf dX6_letterOf_13
theorem k_X6_letterOf {p : Program} {l : Launch} {e : Env} {R : Room} {cells slots : Nat} {s : State} {m : MethodId} {args : Array Value} {below : List Frame} {meth : Method} {c : Code} {H : Heap} {locs : List Loc} {Q : State → Prop} {E : En} {ad : Nat → Nat} {V : Mem} {ow : String} {b : ByteArray} {n : Nat} {ret : Option FieldType} {pc index : Nat} {ls : Array Slot} {rest : List Value} {a1 : Int32} {a2 : Int32} {r : Int32} {V1 : Mem} (hC : Cx p s m args c meth E ow b n ret) (hI : In E ad V s H locs) (hsz : ls.size = n) (hf : f_X6_letterOf V a1 a2 = some (r, V1)) (hl : Cond.methodLink ow index yX6_letterOf ∈ TB) (hR : 2 + 1 ≤ R.frames ∧ 8 + (3 + 11) + 40 * 2 ≤ R.locals) (hcs : cells ≤ R.cells ∧ slots ≤ R.slots) (hw : (rest.map fun v => v.category).sum ≤ 8) (hdg : decode b pc = .ok (.invokevirtual index, 3)) (kk : ∀ (H1 : Heap) (locs1 : List Loc), In E ad V1 s H1 locs1 → W p l e R s m args below meth c H1 locs1 cells slots Q (F0 m (pc + 3) ls ((.int r) :: rest))) : W p l e R s m args below meth c H locs cells slots Q (F0 m pc ls (.int a2 :: .int a1 :: .ref (ad 1) :: rest)) :=
  r_calV (As := [.int a1, .int a2]) (rest := rest) hC hI hsz (m_X6_letterOf l E ad V a1 a2 r _ hf) cv_X6_letterOf hl (by decide) (ce_1 _) rfl rfl rfl hR hcs hw hdg kk

theorem dX6_putLetter_0 : decode cX6_putLetter 0 = .ok (.aload_n 0, 1) := by decide +kernel
theorem dX6_putLetter_1 : decode cX6_putLetter 1 = .ok (.getfield 36, 3) := by decide +kernel
theorem dX6_putLetter_4 : decode cX6_putLetter 4 = .ok (.iload_n 1, 1) := by decide +kernel
theorem dX6_putLetter_5 : decode cX6_putLetter 5 = .ok (.bipush 8, 2) := by decide +kernel
theorem dX6_putLetter_7 : decode cX6_putLetter 7 = .ok (.imul, 1) := by decide +kernel
theorem dX6_putLetter_8 : decode cX6_putLetter 8 = .ok (.iload_n 2, 1) := by decide +kernel
theorem dX6_putLetter_9 : decode cX6_putLetter 9 = .ok (.iadd, 1) := by decide +kernel
theorem dX6_putLetter_10 : decode cX6_putLetter 10 = .ok (.iload_n 3, 1) := by decide +kernel
theorem dX6_putLetter_11 : decode cX6_putLetter 11 = .ok (.invokevirtual 64, 3) := by decide +kernel
theorem dX6_putLetter_14 : decode cX6_putLetter 14 = .ok (.return_, 1) := by decide +kernel
def f_X6_putLetter (V : Mem) (a1 : Int32) (a2 : Int32) (a3 : Int32) : Option Mem :=
  bv (f_X7_set V 12 192 ((a1 * 8) + a2) a3) fun V11 =>
  some V11
theorem cv_X6_putLetter : CalV yX6_putLetter cX6_putLetter 4 none 3 := ⟨⟨⟨by decide +kernel, by decide +kernel⟩, tw_1_3, tw_3_205, by decide +kernel⟩, tw_3_203, tw_3_204⟩
set_option maxRecDepth 100000 in
set_option maxHeartbeats 4000000 in
theorem m_X6_putLetter (l : Launch) (E : En) (ad : Nat → Nat) (V : Mem) (a1 : Int32) (a2 : Int32) (a3 : Int32) (Vz : Mem) (hf : f_X6_putLetter V a1 a2 a3 = some Vz) : MR l E ad yX6_putLetter cX6_putLetter 4 none 2 [.ref (ad 1), .int a1, .int a2, .int a3] V none Vz := by
  refine ent (E := E) (ad := ad) (V := V) "LetterRepository$Revisions" (by decide +kernel) rfl (Nat.le_of_ble_eq_true rfl) ?_
  intro p e s m below meth c ls hC hI hl
  have hx := hC.1
  have hb := hC.2.1
  have hl : lv_has ls 4 [(0, .ref (ad 1)), (1, .int a1), (2, .int a2), (3, .int a3)] := hl
  unfold f_X6_putLetter at hf
  refine lv_aload_n hx hb dX6_putLetter_0 rfl (lv_at hl 0 rfl) ?_
  refine g_1_letters hC hI tw_1_73 dX6_putLetter_1 ?_
  refine lv_iload_n hx hb dX6_putLetter_4 rfl (lv_at hl 1 rfl) ?_
  refine lv_bipush (v := 8) hx hb dX6_putLetter_5 rfl ?_
  refine lv_imul hx hb dX6_putLetter_7 ?_
  refine lv_iload_n hx hb dX6_putLetter_8 rfl (lv_at hl 2 rfl) ?_
  refine lv_iadd hx hb dX6_putLetter_9 ?_
  refine lv_iload_n hx hb dX6_putLetter_10 rfl (lv_at hl 3 rfl) ?_
  obtain ⟨V11, q11, hf⟩ := gbv hf
  refine k_X7_set row_12 hC hI hl.1 q11 tw_3_198 ⟨Nat.le_of_ble_eq_true rfl, Nat.le_of_ble_eq_true rfl⟩ ⟨Nat.le_refl _, Nat.le_refl _⟩ (Nat.le_of_ble_eq_true rfl) dX6_putLetter_11 (fun H locs hI => ?_)
  exact r_vret2 hC hI hf dX6_putLetter_14
theorem k_X6_putLetter {p : Program} {l : Launch} {e : Env} {R : Room} {cells slots : Nat} {s : State} {m : MethodId} {args : Array Value} {below : List Frame} {meth : Method} {c : Code} {H : Heap} {locs : List Loc} {Q : State → Prop} {E : En} {ad : Nat → Nat} {V : Mem} {ow : String} {b : ByteArray} {n : Nat} {ret : Option FieldType} {pc index : Nat} {ls : Array Slot} {rest : List Value} {a1 : Int32} {a2 : Int32} {a3 : Int32} {V1 : Mem} (hC : Cx p s m args c meth E ow b n ret) (hI : In E ad V s H locs) (hsz : ls.size = n) (hf : f_X6_putLetter V a1 a2 a3 = some V1) (hl : Cond.methodLink ow index yX6_putLetter ∈ TB) (hR : 2 + 1 ≤ R.frames ∧ 8 + (4 + 11) + 40 * 2 ≤ R.locals) (hcs : cells ≤ R.cells ∧ slots ≤ R.slots) (hw : (rest.map fun v => v.category).sum ≤ 8) (hdg : decode b pc = .ok (.invokevirtual index, 3)) (kk : ∀ (H1 : Heap) (locs1 : List Loc), In E ad V1 s H1 locs1 → W p l e R s m args below meth c H1 locs1 cells slots Q (F0 m (pc + 3) ls (rest))) : W p l e R s m args below meth c H locs cells slots Q (F0 m pc ls (.int a3 :: .int a2 :: .int a1 :: .ref (ad 1) :: rest)) :=
  r_calVv (As := [.int a1, .int a2, .int a3]) (rest := rest) hC hI hsz (m_X6_putLetter l E ad V a1 a2 a3 _ hf) cv_X6_putLetter hl (by decide) (ce_1 _) rfl rfl rfl hR hcs hw hdg kk

theorem dX6_add_0 : decode cX6_add 0 = .ok (.aload_n 0, 1) := by decide +kernel
theorem dX6_add_1 : decode cX6_add 1 = .ok (.getfield 39, 3) := by decide +kernel
theorem dX6_add_4 : decode cX6_add 4 = .ok (.istore 4, 2) := by decide +kernel
theorem dX6_add_6 : decode cX6_add 6 = .ok (.aload_n 0, 1) := by decide +kernel
theorem dX6_add_7 : decode cX6_add 7 = .ok (.getfield 14, 3) := by decide +kernel
theorem dX6_add_10 : decode cX6_add 10 = .ok (.iload 4, 2) := by decide +kernel
theorem dX6_add_12 : decode cX6_add 12 = .ok (.iload_n 1, 1) := by decide +kernel
theorem dX6_add_13 : decode cX6_add 13 = .ok (.invokevirtual 64, 3) := by decide +kernel
theorem dX6_add_16 : decode cX6_add 16 = .ok (.aload_n 0, 1) := by decide +kernel
theorem dX6_add_17 : decode cX6_add 17 = .ok (.getfield 20, 3) := by decide +kernel
theorem dX6_add_20 : decode cX6_add 20 = .ok (.iload 4, 2) := by decide +kernel
theorem dX6_add_22 : decode cX6_add 22 = .ok (.iload_n 2, 1) := by decide +kernel
theorem dX6_add_23 : decode cX6_add 23 = .ok (.invokevirtual 64, 3) := by decide +kernel
theorem dX6_add_26 : decode cX6_add 26 = .ok (.aload_n 0, 1) := by decide +kernel
theorem dX6_add_27 : decode cX6_add 27 = .ok (.getfield 23, 3) := by decide +kernel
theorem dX6_add_30 : decode cX6_add 30 = .ok (.iload 4, 2) := by decide +kernel
theorem dX6_add_32 : decode cX6_add 32 = .ok (.iload_n 3, 1) := by decide +kernel
theorem dX6_add_33 : decode cX6_add 33 = .ok (.invokevirtual 64, 3) := by decide +kernel
theorem dX6_add_36 : decode cX6_add 36 = .ok (.aload_n 0, 1) := by decide +kernel
theorem dX6_add_37 : decode cX6_add 37 = .ok (.getfield 26, 3) := by decide +kernel
theorem dX6_add_40 : decode cX6_add 40 = .ok (.iload 4, 2) := by decide +kernel
theorem dX6_add_42 : decode cX6_add 42 = .ok (.iconst 1, 1) := by decide +kernel
theorem dX6_add_43 : decode cX6_add 43 = .ok (.aload_n 0, 1) := by decide +kernel
theorem dX6_add_44 : decode cX6_add 44 = .ok (.iload_n 1, 1) := by decide +kernel
theorem dX6_add_45 : decode cX6_add 45 = .ok (.invokevirtual 67, 3) := by decide +kernel
theorem dX6_add_48 : decode cX6_add 48 = .ok (.aload_n 0, 1) := by decide +kernel
theorem dX6_add_49 : decode cX6_add 49 = .ok (.iload_n 2, 1) := by decide +kernel
theorem dX6_add_50 : decode cX6_add 50 = .ok (.invokevirtual 67, 3) := by decide +kernel
theorem dX6_add_53 : decode cX6_add 53 = .ok (.invokestatic 70, 3) := by decide +kernel
theorem dX6_add_56 : decode cX6_add 56 = .ok (.iadd, 1) := by decide +kernel
theorem dX6_add_57 : decode cX6_add 57 = .ok (.invokevirtual 64, 3) := by decide +kernel
theorem dX6_add_60 : decode cX6_add 60 = .ok (.aload_n 0, 1) := by decide +kernel
theorem dX6_add_61 : decode cX6_add 61 = .ok (.iload_n 1, 1) := by decide +kernel
theorem dX6_add_62 : decode cX6_add 62 = .ok (.invokevirtual 76, 3) := by decide +kernel
theorem dX6_add_65 : decode cX6_add 65 = .ok (.aload_n 0, 1) := by decide +kernel
theorem dX6_add_66 : decode cX6_add 66 = .ok (.iload_n 2, 1) := by decide +kernel
theorem dX6_add_67 : decode cX6_add 67 = .ok (.invokevirtual 76, 3) := by decide +kernel
theorem dX6_add_70 : decode cX6_add 70 = .ok (.ior, 1) := by decide +kernel
theorem dX6_add_71 : decode cX6_add 71 = .ok (.istore 5, 2) := by decide +kernel
theorem dX6_add_73 : decode cX6_add 73 = .ok (.aload_n 0, 1) := by decide +kernel
theorem dX6_add_74 : decode cX6_add 74 = .ok (.getfield 33, 3) := by decide +kernel
theorem dX6_add_77 : decode cX6_add 77 = .ok (.iload 4, 2) := by decide +kernel
theorem dX6_add_79 : decode cX6_add 79 = .ok (.iload 5, 2) := by decide +kernel
theorem dX6_add_81 : decode cX6_add 81 = .ok (.iload 4, 2) := by decide +kernel
theorem dX6_add_83 : decode cX6_add 83 = .ok (.invokestatic 29, 3) := by decide +kernel
theorem dX6_add_86 : decode cX6_add 86 = .ok (.ior, 1) := by decide +kernel
theorem dX6_add_87 : decode cX6_add 87 = .ok (.invokevirtual 64, 3) := by decide +kernel
theorem dX6_add_90 : decode cX6_add 90 = .ok (.aload_n 0, 1) := by decide +kernel
theorem dX6_add_91 : decode cX6_add 91 = .ok (.dup, 1) := by decide +kernel
theorem dX6_add_92 : decode cX6_add 92 = .ok (.getfield 39, 3) := by decide +kernel
theorem dX6_add_95 : decode cX6_add 95 = .ok (.iconst 1, 1) := by decide +kernel
theorem dX6_add_96 : decode cX6_add 96 = .ok (.iadd, 1) := by decide +kernel
theorem dX6_add_97 : decode cX6_add 97 = .ok (.putfield 39, 3) := by decide +kernel
theorem dX6_add_100 : decode cX6_add 100 = .ok (.iload 4, 2) := by decide +kernel
theorem dX6_add_102 : decode cX6_add 102 = .ok (.ireturn, 1) := by decide +kernel
def f_X6_add (V : Mem) (a1 : Int32) (a2 : Int32) (a3 : Int32) : Option (Int32 × Mem) :=
  bv (f_X7_set V 2 24 (V 1 1) a1) fun V13 =>
  bv (f_X7_set V13 4 24 (V 1 1) a2) fun V23 =>
  bv (f_X7_set V23 6 24 (V 1 1) a3) fun V33 =>
  bd (f_X6_generationOf V33 a1) fun r45 V45 =>
  bd (f_X6_generationOf V45 a2) fun r50 V50 =>
  bv (f_X7_set V50 8 24 (V 1 1) (1 + (if r45 < r50 then r50 else r45))) fun V57 =>
  bd (f_X6_ancestorSetOf V57 a1) fun r62 V62 =>
  bd (f_X6_ancestorSetOf V62 a2) fun r67 V67 =>
  bd (f_X9_setOf V67 (V 1 1)) fun r83 V83 =>
  bv (f_X7_set V83 10 24 (V 1 1) ((r62 ||| r67) ||| r83)) fun V87 =>
  lt (stv V87 1 1 ((V87 1 1) + 1)) fun V97 =>
  some ((V 1 1), V97)
theorem cv_X6_add : CalV yX6_add cX6_add 6 (some .int) 3 := ⟨⟨⟨by decide +kernel, by decide +kernel⟩, tw_1_3, tw_3_197, by decide +kernel⟩, tw_3_195, tw_3_196⟩
set_option maxRecDepth 100000 in
set_option maxHeartbeats 4000000 in
theorem m_X6_add (l : Launch) (E : En) (ad : Nat → Nat) (V : Mem) (a1 : Int32) (a2 : Int32) (a3 : Int32) (r : Int32) (Vz : Mem) (hf : f_X6_add V a1 a2 a3 = some (r, Vz)) : MR l E ad yX6_add cX6_add 6 (some .int) 3 [.ref (ad 1), .int a1, .int a2, .int a3] V (some (.int r)) Vz := by
  refine ent (E := E) (ad := ad) (V := V) "LetterRepository$Revisions" (by decide +kernel) rfl (Nat.le_of_ble_eq_true rfl) ?_
  intro p e s m below meth c ls hC hI hl
  have hx := hC.1
  have hb := hC.2.1
  have hl : lv_has ls 6 [(0, .ref (ad 1)), (1, .int a1), (2, .int a2), (3, .int a3)] := hl
  unfold f_X6_add at hf
  refine lv_aload_n hx hb dX6_add_0 rfl (lv_at hl 0 rfl) ?_
  refine g_1_count hC hI tw_1_77 dX6_add_1 ?_
  refine lv_istore (lv' := [(4, .int (V 1 1)), (0, .ref (ad 1)), (1, .int a1), (2, .int a2), (3, .int a3)]) hx hb dX6_add_4 hl (Nat.lt_of_lt_of_eq (by decide) rfl) rfl (fun ls hl => ?_)
  refine lv_aload_n hx hb dX6_add_6 rfl (lv_at hl 1 rfl) ?_
  refine g_1_firstParents hC hI tw_1_68 dX6_add_7 ?_
  refine lv_iload hx hb dX6_add_10 (lv_at hl 0 rfl) ?_
  refine lv_iload_n hx hb dX6_add_12 rfl (lv_at hl 2 rfl) ?_
  obtain ⟨V13, q13, hf⟩ := gbv hf
  refine k_X7_set row_2 hC hI hl.1 q13 tw_3_198 ⟨Nat.le_of_ble_eq_true rfl, Nat.le_of_ble_eq_true rfl⟩ ⟨Nat.le_refl _, Nat.le_refl _⟩ (Nat.le_of_ble_eq_true rfl) dX6_add_13 (fun H locs hI => ?_)
  refine lv_aload_n hx hb dX6_add_16 rfl (lv_at hl 1 rfl) ?_
  refine g_1_secondParents hC hI tw_1_69 dX6_add_17 ?_
  refine lv_iload hx hb dX6_add_20 (lv_at hl 0 rfl) ?_
  refine lv_iload_n hx hb dX6_add_22 rfl (lv_at hl 3 rfl) ?_
  obtain ⟨V23, q23, hf⟩ := gbv hf
  refine k_X7_set row_4 hC hI hl.1 q23 tw_3_198 ⟨Nat.le_of_ble_eq_true rfl, Nat.le_of_ble_eq_true rfl⟩ ⟨Nat.le_refl _, Nat.le_refl _⟩ (Nat.le_of_ble_eq_true rfl) dX6_add_23 (fun H locs hI => ?_)
  refine lv_aload_n hx hb dX6_add_26 rfl (lv_at hl 1 rfl) ?_
  refine g_1_authors hC hI tw_1_70 dX6_add_27 ?_
  refine lv_iload hx hb dX6_add_30 (lv_at hl 0 rfl) ?_
  refine lv_iload_n hx hb dX6_add_32 rfl (lv_at hl 4 rfl) ?_
  obtain ⟨V33, q33, hf⟩ := gbv hf
  refine k_X7_set row_6 hC hI hl.1 q33 tw_3_198 ⟨Nat.le_of_ble_eq_true rfl, Nat.le_of_ble_eq_true rfl⟩ ⟨Nat.le_refl _, Nat.le_refl _⟩ (Nat.le_of_ble_eq_true rfl) dX6_add_33 (fun H locs hI => ?_)
  refine lv_aload_n hx hb dX6_add_36 rfl (lv_at hl 1 rfl) ?_
  refine g_1_generations hC hI tw_1_71 dX6_add_37 ?_
  refine lv_iload hx hb dX6_add_40 (lv_at hl 0 rfl) ?_
  refine lv_iconst (v := 1) hx hb dX6_add_42 rfl ?_
  refine lv_aload_n hx hb dX6_add_43 rfl (lv_at hl 1 rfl) ?_
  refine lv_iload_n hx hb dX6_add_44 rfl (lv_at hl 2 rfl) ?_
  obtain ⟨r45, V45, q45, hf⟩ := gbd hf
  refine k_X6_generationOf hC hI hl.1 q45 tw_2_148 ⟨Nat.le_of_ble_eq_true rfl, Nat.le_of_ble_eq_true rfl⟩ ⟨Nat.le_refl _, Nat.le_refl _⟩ (Nat.le_of_ble_eq_true rfl) dX6_add_45 (fun H locs hI => ?_)
  refine lv_aload_n hx hb dX6_add_48 rfl (lv_at hl 1 rfl) ?_
  refine lv_iload_n hx hb dX6_add_49 rfl (lv_at hl 3 rfl) ?_
  obtain ⟨r50, V50, q50, hf⟩ := gbd hf
  refine k_X6_generationOf hC hI hl.1 q50 tw_2_148 ⟨Nat.le_of_ble_eq_true rfl, Nat.le_of_ble_eq_true rfl⟩ ⟨Nat.le_refl _, Nat.le_refl _⟩ (Nat.le_of_ble_eq_true rfl) dX6_add_50 (fun H locs hI => ?_)
  refine r_mmax hC hl.1 tw_3_199 ⟨by decide, Nat.le_of_ble_eq_true rfl⟩ ⟨Nat.le_refl _, Nat.le_refl _⟩ dX6_add_53 ?_
  refine lv_iadd hx hb dX6_add_56 ?_
  obtain ⟨V57, q57, hf⟩ := gbv hf
  refine k_X7_set row_8 hC hI hl.1 q57 tw_3_198 ⟨Nat.le_of_ble_eq_true rfl, Nat.le_of_ble_eq_true rfl⟩ ⟨Nat.le_refl _, Nat.le_refl _⟩ (Nat.le_of_ble_eq_true rfl) dX6_add_57 (fun H locs hI => ?_)
  refine lv_aload_n hx hb dX6_add_60 rfl (lv_at hl 1 rfl) ?_
  refine lv_iload_n hx hb dX6_add_61 rfl (lv_at hl 2 rfl) ?_
  obtain ⟨r62, V62, q62, hf⟩ := gbd hf
  refine k_X6_ancestorSetOf hC hI hl.1 q62 tw_2_177 ⟨Nat.le_of_ble_eq_true rfl, Nat.le_of_ble_eq_true rfl⟩ ⟨Nat.le_refl _, Nat.le_refl _⟩ (Nat.le_of_ble_eq_true rfl) dX6_add_62 (fun H locs hI => ?_)
  refine lv_aload_n hx hb dX6_add_65 rfl (lv_at hl 1 rfl) ?_
  refine lv_iload_n hx hb dX6_add_66 rfl (lv_at hl 3 rfl) ?_
  obtain ⟨r67, V67, q67, hf⟩ := gbd hf
  refine k_X6_ancestorSetOf hC hI hl.1 q67 tw_2_177 ⟨Nat.le_of_ble_eq_true rfl, Nat.le_of_ble_eq_true rfl⟩ ⟨Nat.le_refl _, Nat.le_refl _⟩ (Nat.le_of_ble_eq_true rfl) dX6_add_67 (fun H locs hI => ?_)
  refine lv_ior hx hb dX6_add_70 ?_
  refine lv_istore (lv' := [(5, .int (r62 ||| r67)), (4, .int (V 1 1)), (0, .ref (ad 1)), (1, .int a1), (2, .int a2), (3, .int a3)]) hx hb dX6_add_71 hl (Nat.lt_of_lt_of_eq (by decide) rfl) rfl (fun ls hl => ?_)
  refine lv_aload_n hx hb dX6_add_73 rfl (lv_at hl 2 rfl) ?_
  refine g_1_ancestorSets hC hI tw_1_72 dX6_add_74 ?_
  refine lv_iload hx hb dX6_add_77 (lv_at hl 1 rfl) ?_
  refine lv_iload hx hb dX6_add_79 (lv_at hl 0 rfl) ?_
  refine lv_iload hx hb dX6_add_81 (lv_at hl 1 rfl) ?_
  obtain ⟨r83, V83, q83, hf⟩ := gbd hf
  refine kN_X9_setOf hC hI hl.1 q83 tw_1_65 ⟨Nat.le_of_ble_eq_true rfl, Nat.le_of_ble_eq_true rfl⟩ ⟨Nat.le_refl _, Nat.le_refl _⟩ (Nat.le_of_ble_eq_true rfl) dX6_add_83 (fun H locs hI => ?_)
  refine lv_ior hx hb dX6_add_86 ?_
  obtain ⟨V87, q87, hf⟩ := gbv hf
  refine k_X7_set row_10 hC hI hl.1 q87 tw_3_198 ⟨Nat.le_of_ble_eq_true rfl, Nat.le_of_ble_eq_true rfl⟩ ⟨Nat.le_refl _, Nat.le_refl _⟩ (Nat.le_of_ble_eq_true rfl) dX6_add_87 (fun H locs hI => ?_)
  refine lv_aload_n hx hb dX6_add_90 rfl (lv_at hl 2 rfl) ?_
  refine lv_dup hx hb dX6_add_91 rfl ?_
  refine g_1_count hC hI tw_1_77 dX6_add_92 ?_
  refine lv_iconst (v := 1) hx hb dX6_add_95 rfl ?_
  refine lv_iadd hx hb dX6_add_96 ?_
  obtain ⟨V97, e97, hf⟩ := gl hf
  refine p_1_count hC hI  e97 tw_1_77 dX6_add_97 (fun H locs hI => ?_)
  refine lv_iload hx hb dX6_add_100 (lv_at hl 1 rfl) ?_
  exact r_iret2 hC hI hf dX6_add_102
theorem k_X6_add {p : Program} {l : Launch} {e : Env} {R : Room} {cells slots : Nat} {s : State} {m : MethodId} {args : Array Value} {below : List Frame} {meth : Method} {c : Code} {H : Heap} {locs : List Loc} {Q : State → Prop} {E : En} {ad : Nat → Nat} {V : Mem} {ow : String} {b : ByteArray} {n : Nat} {ret : Option FieldType} {pc index : Nat} {ls : Array Slot} {rest : List Value} {a1 : Int32} {a2 : Int32} {a3 : Int32} {r : Int32} {V1 : Mem} (hC : Cx p s m args c meth E ow b n ret) (hI : In E ad V s H locs) (hsz : ls.size = n) (hf : f_X6_add V a1 a2 a3 = some (r, V1)) (hl : Cond.methodLink ow index yX6_add ∈ TB) (hR : 3 + 1 ≤ R.frames ∧ 8 + (6 + 11) + 40 * 3 ≤ R.locals) (hcs : cells ≤ R.cells ∧ slots ≤ R.slots) (hw : (rest.map fun v => v.category).sum ≤ 8) (hdg : decode b pc = .ok (.invokevirtual index, 3)) (kk : ∀ (H1 : Heap) (locs1 : List Loc), In E ad V1 s H1 locs1 → W p l e R s m args below meth c H1 locs1 cells slots Q (F0 m (pc + 3) ls ((.int r) :: rest))) : W p l e R s m args below meth c H locs cells slots Q (F0 m pc ls (.int a3 :: .int a2 :: .int a1 :: .ref (ad 1) :: rest)) :=
  r_calV (As := [.int a1, .int a2, .int a3]) (rest := rest) hC hI hsz (m_X6_add l E ad V a1 a2 a3 r _ hf) cv_X6_add hl (by decide) (ce_1 _) rfl rfl rfl hR hcs hw hdg kk

theorem dX6_parentSet_0 : decode cX6_parentSet 0 = .ok (.aload_n 0, 1) := by decide +kernel
theorem dX6_parentSet_1 : decode cX6_parentSet 1 = .ok (.iload_n 1, 1) := by decide +kernel
theorem dX6_parentSet_2 : decode cX6_parentSet 2 = .ok (.invokevirtual 79, 3) := by decide +kernel
theorem dX6_parentSet_5 : decode cX6_parentSet 5 = .ok (.invokestatic 29, 3) := by decide +kernel
theorem dX6_parentSet_8 : decode cX6_parentSet 8 = .ok (.aload_n 0, 1) := by decide +kernel
theorem dX6_parentSet_9 : decode cX6_parentSet 9 = .ok (.iload_n 1, 1) := by decide +kernel
theorem dX6_parentSet_10 : decode cX6_parentSet 10 = .ok (.invokevirtual 82, 3) := by decide +kernel
theorem dX6_parentSet_13 : decode cX6_parentSet 13 = .ok (.invokestatic 29, 3) := by decide +kernel
theorem dX6_parentSet_16 : decode cX6_parentSet 16 = .ok (.ior, 1) := by decide +kernel
theorem dX6_parentSet_17 : decode cX6_parentSet 17 = .ok (.ireturn, 1) := by decide +kernel
def f_X6_parentSet (V : Mem) (a1 : Int32) : Option (Int32 × Mem) :=
  bd (f_X6_firstParentOf V a1) fun r2 V2 =>
  bd (f_X9_setOf V2 r2) fun r5 V5 =>
  bd (f_X6_secondParentOf V5 a1) fun r10 V10 =>
  bd (f_X9_setOf V10 r10) fun r13 V13 =>
  some ((r5 ||| r13), V13)
theorem cv_X6_parentSet : CalV yX6_parentSet cX6_parentSet 2 (some .int) 1 := ⟨⟨⟨by decide +kernel, by decide +kernel⟩, tw_1_3, tw_2_139, by decide +kernel⟩, tw_2_137, tw_2_138⟩
set_option maxRecDepth 100000 in
set_option maxHeartbeats 4000000 in
theorem m_X6_parentSet (l : Launch) (E : En) (ad : Nat → Nat) (V : Mem) (a1 : Int32) (r : Int32) (Vz : Mem) (hf : f_X6_parentSet V a1 = some (r, Vz)) : MR l E ad yX6_parentSet cX6_parentSet 2 (some .int) 3 [.ref (ad 1), .int a1] V (some (.int r)) Vz := by
  refine ent (E := E) (ad := ad) (V := V) "LetterRepository$Revisions" (by decide +kernel) rfl (Nat.le_of_ble_eq_true rfl) ?_
  intro p e s m below meth c ls hC hI hl
  have hx := hC.1
  have hb := hC.2.1
  have hl : lv_has ls 2 [(0, .ref (ad 1)), (1, .int a1)] := hl
  unfold f_X6_parentSet at hf
  refine lv_aload_n hx hb dX6_parentSet_0 rfl (lv_at hl 0 rfl) ?_
  refine lv_iload_n hx hb dX6_parentSet_1 rfl (lv_at hl 1 rfl) ?_
  obtain ⟨r2, V2, q2, hf⟩ := gbd hf
  refine k_X6_firstParentOf hC hI hl.1 q2 tw_2_74 ⟨Nat.le_of_ble_eq_true rfl, Nat.le_of_ble_eq_true rfl⟩ ⟨Nat.le_refl _, Nat.le_refl _⟩ (Nat.le_of_ble_eq_true rfl) dX6_parentSet_2 (fun H locs hI => ?_)
  obtain ⟨r5, V5, q5, hf⟩ := gbd hf
  refine kN_X9_setOf hC hI hl.1 q5 tw_1_65 ⟨Nat.le_of_ble_eq_true rfl, Nat.le_of_ble_eq_true rfl⟩ ⟨Nat.le_refl _, Nat.le_refl _⟩ (Nat.le_of_ble_eq_true rfl) dX6_parentSet_5 (fun H locs hI => ?_)
  refine lv_aload_n hx hb dX6_parentSet_8 rfl (lv_at hl 0 rfl) ?_
  refine lv_iload_n hx hb dX6_parentSet_9 rfl (lv_at hl 1 rfl) ?_
  obtain ⟨r10, V10, q10, hf⟩ := gbd hf
  refine k_X6_secondParentOf hC hI hl.1 q10 tw_2_80 ⟨Nat.le_of_ble_eq_true rfl, Nat.le_of_ble_eq_true rfl⟩ ⟨Nat.le_refl _, Nat.le_refl _⟩ (Nat.le_of_ble_eq_true rfl) dX6_parentSet_10 (fun H locs hI => ?_)
  obtain ⟨r13, V13, q13, hf⟩ := gbd hf
  refine kN_X9_setOf hC hI hl.1 q13 tw_1_65 ⟨Nat.le_of_ble_eq_true rfl, Nat.le_of_ble_eq_true rfl⟩ ⟨Nat.le_refl _, Nat.le_refl _⟩ (Nat.le_of_ble_eq_true rfl) dX6_parentSet_13 (fun H locs hI => ?_)
  refine lv_ior hx hb dX6_parentSet_16 ?_
  exact r_iret2 hC hI hf dX6_parentSet_17
theorem k_X6_parentSet {p : Program} {l : Launch} {e : Env} {R : Room} {cells slots : Nat} {s : State} {m : MethodId} {args : Array Value} {below : List Frame} {meth : Method} {c : Code} {H : Heap} {locs : List Loc} {Q : State → Prop} {E : En} {ad : Nat → Nat} {V : Mem} {ow : String} {b : ByteArray} {n : Nat} {ret : Option FieldType} {pc index : Nat} {ls : Array Slot} {rest : List Value} {a1 : Int32} {r : Int32} {V1 : Mem} (hC : Cx p s m args c meth E ow b n ret) (hI : In E ad V s H locs) (hsz : ls.size = n) (hf : f_X6_parentSet V a1 = some (r, V1)) (hl : Cond.methodLink ow index yX6_parentSet ∈ TB) (hR : 3 + 1 ≤ R.frames ∧ 8 + (2 + 11) + 40 * 3 ≤ R.locals) (hcs : cells ≤ R.cells ∧ slots ≤ R.slots) (hw : (rest.map fun v => v.category).sum ≤ 8) (hdg : decode b pc = .ok (.invokevirtual index, 3)) (kk : ∀ (H1 : Heap) (locs1 : List Loc), In E ad V1 s H1 locs1 → W p l e R s m args below meth c H1 locs1 cells slots Q (F0 m (pc + 3) ls ((.int r) :: rest))) : W p l e R s m args below meth c H locs cells slots Q (F0 m pc ls (.int a1 :: .ref (ad 1) :: rest)) :=
  r_calV (As := [.int a1]) (rest := rest) hC hI hsz (m_X6_parentSet l E ad V a1 r _ hf) cv_X6_parentSet hl (by decide) (ce_1 _) rfl rfl rfl hR hcs hw hdg kk

theorem dX6_withParentsMarked_0 : decode cX6_withParentsMarked 0 = .ok (.iload_n 1, 1) := by decide +kernel
theorem dX6_withParentsMarked_1 : decode cX6_withParentsMarked 1 = .ok (.istore_n 2, 1) := by decide +kernel
theorem dX6_withParentsMarked_2 : decode cX6_withParentsMarked 2 = .ok (.aload_n 0, 1) := by decide +kernel
theorem dX6_withParentsMarked_3 : decode cX6_withParentsMarked 3 = .ok (.getfield 39, 3) := by decide +kernel
theorem dX6_withParentsMarked_6 : decode cX6_withParentsMarked 6 = .ok (.iconst 1, 1) := by decide +kernel
theorem dX6_withParentsMarked_7 : decode cX6_withParentsMarked 7 = .ok (.isub, 1) := by decide +kernel
theorem dX6_withParentsMarked_8 : decode cX6_withParentsMarked 8 = .ok (.istore_n 3, 1) := by decide +kernel
theorem dX6_withParentsMarked_9 : decode cX6_withParentsMarked 9 = .ok (.iload_n 3, 1) := by decide +kernel
theorem dX6_withParentsMarked_10 : decode cX6_withParentsMarked 10 = .ok (.ifCond .le 25, 3) := by decide +kernel
theorem dX6_withParentsMarked_13 : decode cX6_withParentsMarked 13 = .ok (.iload_n 2, 1) := by decide +kernel
theorem dX6_withParentsMarked_14 : decode cX6_withParentsMarked 14 = .ok (.iload_n 3, 1) := by decide +kernel
theorem dX6_withParentsMarked_15 : decode cX6_withParentsMarked 15 = .ok (.invokestatic 50, 3) := by decide +kernel
theorem dX6_withParentsMarked_18 : decode cX6_withParentsMarked 18 = .ok (.ifCond .eq 11, 3) := by decide +kernel
theorem dX6_withParentsMarked_21 : decode cX6_withParentsMarked 21 = .ok (.iload_n 2, 1) := by decide +kernel
theorem dX6_withParentsMarked_22 : decode cX6_withParentsMarked 22 = .ok (.aload_n 0, 1) := by decide +kernel
theorem dX6_withParentsMarked_23 : decode cX6_withParentsMarked 23 = .ok (.iload_n 3, 1) := by decide +kernel
theorem dX6_withParentsMarked_24 : decode cX6_withParentsMarked 24 = .ok (.invokevirtual 85, 3) := by decide +kernel
theorem dX6_withParentsMarked_27 : decode cX6_withParentsMarked 27 = .ok (.ior, 1) := by decide +kernel
theorem dX6_withParentsMarked_28 : decode cX6_withParentsMarked 28 = .ok (.istore_n 2, 1) := by decide +kernel
theorem dX6_withParentsMarked_29 : decode cX6_withParentsMarked 29 = .ok (.iinc 3 (-1), 3) := by decide +kernel
theorem dX6_withParentsMarked_32 : decode cX6_withParentsMarked 32 = .ok (.goto (-23), 3) := by decide +kernel
theorem dX6_withParentsMarked_35 : decode cX6_withParentsMarked 35 = .ok (.iload_n 2, 1) := by decide +kernel
theorem dX6_withParentsMarked_36 : decode cX6_withParentsMarked 36 = .ok (.ireturn, 1) := by decide +kernel
def f_X6_withParentsMarked_L9 : Nat → Mem → Int32 → Int32 → Option (Int32 × Mem)
  | 0, _, _, _ => none
  | n9 + 1, V9, x2_9, x3_9 =>
    if x3_9 ≤ 0 then
      some (x2_9, V9)
    else
      bd (f_X9_contains V9 x2_9 x3_9) fun r15 V15 =>
      jn (α := Mem → Int32 → Option (Int32 × Mem)) (fun j29 =>
        if r15 = 0 then
          j29 V15 x2_9
        else
          bd (f_X6_parentSet V15 x3_9) fun r24 V24 =>
          j29 V24 (x2_9 ||| r24)
      ) (fun (V29 : Mem) (x2_29 : Int32) =>
        (f_X6_withParentsMarked_L9 n9) V29 x2_29 (x3_9 + (-1))
      )
def f_X6_withParentsMarked (V : Mem) (a1 : Int32) : Option (Int32 × Mem) :=
  f_X6_withParentsMarked_L9 FU V a1 ((V 1 1) - 1)
theorem cv_X6_withParentsMarked : CalV yX6_withParentsMarked cX6_withParentsMarked 4 (some .int) 1 := ⟨⟨⟨by decide +kernel, by decide +kernel⟩, tw_1_3, tw_2_135, by decide +kernel⟩, tw_2_133, tw_2_134⟩
set_option maxRecDepth 100000 in
set_option maxHeartbeats 4000000 in
theorem m_X6_withParentsMarked (l : Launch) (E : En) (ad : Nat → Nat) (V : Mem) (a1 : Int32) (r : Int32) (Vz : Mem) (hf : f_X6_withParentsMarked V a1 = some (r, Vz)) : MR l E ad yX6_withParentsMarked cX6_withParentsMarked 4 (some .int) 4 [.ref (ad 1), .int a1] V (some (.int r)) Vz := by
  refine ent (E := E) (ad := ad) (V := V) "LetterRepository$Revisions" (by decide +kernel) rfl (Nat.le_of_ble_eq_true rfl) ?_
  intro p e s m below meth c ls hC hI hl
  have hx := hC.1
  have hb := hC.2.1
  have hl : lv_has ls 4 [(0, .ref (ad 1)), (1, .int a1)] := hl
  unfold f_X6_withParentsMarked at hf
  refine lv_iload_n hx hb dX6_withParentsMarked_0 rfl (lv_at hl 1 rfl) ?_
  refine lv_istore_n (lv' := [(2, .int a1), (0, .ref (ad 1)), (1, .int a1)]) hx hb dX6_withParentsMarked_1 rfl hl (Nat.lt_of_lt_of_eq (by decide) rfl) rfl (fun ls hl => ?_)
  refine lv_aload_n hx hb dX6_withParentsMarked_2 rfl (lv_at hl 1 rfl) ?_
  refine g_1_count hC hI tw_1_77 dX6_withParentsMarked_3 ?_
  refine lv_iconst (v := 1) hx hb dX6_withParentsMarked_6 rfl ?_
  refine lv_isub hx hb dX6_withParentsMarked_7 ?_
  refine lv_istore_n (lv' := [(3, .int ((V 1 1) - 1)), (2, .int a1), (0, .ref (ad 1)), (1, .int a1)]) hx hb dX6_withParentsMarked_8 rfl hl (Nat.lt_of_lt_of_eq (by decide) rfl) rfl (fun ls hl => ?_)
  have L9 : ∀ (n9 : Nat) (V9 : Mem) (x2_9 : Int32) (x3_9 : Int32) (H : Heap) (locs : List Loc) (ls : Array Slot), f_X6_withParentsMarked_L9 n9 V9 x2_9 x3_9 = some (r, Vz) → In E ad V9 s H locs → lv_has ls 4 [(0, .ref (ad 1)), (2, .int x2_9), (3, .int x3_9)] → W p l e (rmd 4) s m ([.ref (ad 1), .int a1] : List Value).toArray below meth c H locs 0 0 (MQ below (QR E ad (some (.int r)) Vz) ([.ref (ad 1), .int a1] : List Value).toArray s 0 0 (ours E)) (F0 m 9 ls []) := by
    intro n9
    induction n9 with
    | zero => intro V9 x2_9 x3_9 H locs ls hf hI hl; cases hf
    | succ n9 ih9 =>
      intro V9 x2_9 x3_9 H locs ls hf hI hl
      rw [f_X6_withParentsMarked_L9.eq_2] at hf
      refine lv_iload_n hx hb dX6_withParentsMarked_9 rfl (lv_at hl 2 rfl) ?_
      refine lv_if_le (tgt := 35) hx hb dX6_withParentsMarked_10 (by decide) (fun c10 => ?_) (fun c10 => ?_)
      · have hf := gt hf c10
        refine lv_iload_n hx hb dX6_withParentsMarked_35 rfl (lv_at hl 1 rfl) ?_
        exact r_iret2 hC hI hf dX6_withParentsMarked_36
      · have hf := gf hf c10
        refine lv_iload_n hx hb dX6_withParentsMarked_13 rfl (lv_at hl 1 rfl) ?_
        refine lv_iload_n hx hb dX6_withParentsMarked_14 rfl (lv_at hl 2 rfl) ?_
        obtain ⟨r15, V15, q15, hf⟩ := gbd hf
        refine kN_X9_contains hC hI hl.1 q15 tw_2_70 ⟨Nat.le_of_ble_eq_true rfl, Nat.le_of_ble_eq_true rfl⟩ ⟨Nat.le_refl _, Nat.le_refl _⟩ (Nat.le_of_ble_eq_true rfl) dX6_withParentsMarked_15 (fun H locs hI => ?_)
        obtain ⟨j29, hj29, hf⟩ := gj hf
        have J29 : ∀ (V29 : Mem) (x2_29 : Int32) (H : Heap) (locs : List Loc) (ls : Array Slot), j29 V29 x2_29 = some (r, Vz) → In E ad V29 s H locs → lv_has ls 4 [(0, .ref (ad 1)), (2, .int x2_29), (3, .int x3_9)] → W p l e (rmd 4) s m ([.ref (ad 1), .int a1] : List Value).toArray below meth c H locs 0 0 (MQ below (QR E ad (some (.int r)) Vz) ([.ref (ad 1), .int a1] : List Value).toArray s 0 0 (ours E)) (F0 m 29 ls []) := by
          intro V29 x2_29 H locs ls hf hI hl
          rw [hj29] at hf
          dsimp only at hf
          refine lv_iinc (v := (x3_9 + (-1))) (lv' := [(3, .int (x3_9 + (-1))), (0, .ref (ad 1)), (2, .int x2_29)]) hx hb dX6_withParentsMarked_29 hl (k := 2) rfl rfl (Nat.lt_of_lt_of_eq (by decide) rfl) rfl (fun ls hl => ?_)
          refine lv_goto (tgt := 9) hx hb dX6_withParentsMarked_32 (by decide) ?_
          exact ih9 _ _ _ _ _ _ hf hI (lv_sub hl [1, 2, 0] rfl)
        refine lv_if_eq (tgt := 29) hx hb dX6_withParentsMarked_18 (by decide) (fun c18 => ?_) (fun c18 => ?_)
        · have hf := gt hf c18
          exact J29 _ _ _ _ _ hf hI (lv_sub hl [0, 1, 2] rfl)
        · have hf := gf hf c18
          refine lv_iload_n hx hb dX6_withParentsMarked_21 rfl (lv_at hl 1 rfl) ?_
          refine lv_aload_n hx hb dX6_withParentsMarked_22 rfl (lv_at hl 0 rfl) ?_
          refine lv_iload_n hx hb dX6_withParentsMarked_23 rfl (lv_at hl 2 rfl) ?_
          obtain ⟨r24, V24, q24, hf⟩ := gbd hf
          refine k_X6_parentSet hC hI hl.1 q24 tw_2_136 ⟨Nat.le_of_ble_eq_true rfl, Nat.le_of_ble_eq_true rfl⟩ ⟨Nat.le_refl _, Nat.le_refl _⟩ (Nat.le_of_ble_eq_true rfl) dX6_withParentsMarked_24 (fun H locs hI => ?_)
          refine lv_ior hx hb dX6_withParentsMarked_27 ?_
          refine lv_istore_n (lv' := [(2, .int (x2_9 ||| r24)), (0, .ref (ad 1)), (3, .int x3_9)]) hx hb dX6_withParentsMarked_28 rfl hl (Nat.lt_of_lt_of_eq (by decide) rfl) rfl (fun ls hl => ?_)
          exact J29 _ _ _ _ _ hf hI (lv_sub hl [1, 0, 2] rfl)
  exact L9 _ _ _ _ _ _ _ hf hI (lv_sub hl [2, 1, 0] rfl)
theorem k_X6_withParentsMarked {p : Program} {l : Launch} {e : Env} {R : Room} {cells slots : Nat} {s : State} {m : MethodId} {args : Array Value} {below : List Frame} {meth : Method} {c : Code} {H : Heap} {locs : List Loc} {Q : State → Prop} {E : En} {ad : Nat → Nat} {V : Mem} {ow : String} {b : ByteArray} {n : Nat} {ret : Option FieldType} {pc index : Nat} {ls : Array Slot} {rest : List Value} {a1 : Int32} {r : Int32} {V1 : Mem} (hC : Cx p s m args c meth E ow b n ret) (hI : In E ad V s H locs) (hsz : ls.size = n) (hf : f_X6_withParentsMarked V a1 = some (r, V1)) (hl : Cond.methodLink ow index yX6_withParentsMarked ∈ TB) (hR : 4 + 1 ≤ R.frames ∧ 8 + (4 + 11) + 40 * 4 ≤ R.locals) (hcs : cells ≤ R.cells ∧ slots ≤ R.slots) (hw : (rest.map fun v => v.category).sum ≤ 8) (hdg : decode b pc = .ok (.invokevirtual index, 3)) (kk : ∀ (H1 : Heap) (locs1 : List Loc), In E ad V1 s H1 locs1 → W p l e R s m args below meth c H1 locs1 cells slots Q (F0 m (pc + 3) ls ((.int r) :: rest))) : W p l e R s m args below meth c H locs cells slots Q (F0 m pc ls (.int a1 :: .ref (ad 1) :: rest)) :=
  r_calV (As := [.int a1]) (rest := rest) hC hI hsz (m_X6_withParentsMarked l E ad V a1 r _ hf) cv_X6_withParentsMarked hl (by decide) (ce_1 _) rfl rfl rfl hR hcs hw hdg kk

theorem dX6_marked_0 : decode cX6_marked 0 = .ok (.aload_n 0, 1) := by decide +kernel
theorem dX6_marked_1 : decode cX6_marked 1 = .ok (.iload_n 1, 1) := by decide +kernel
theorem dX6_marked_2 : decode cX6_marked 2 = .ok (.invokevirtual 54, 3) := by decide +kernel
theorem dX6_marked_5 : decode cX6_marked 5 = .ok (.ifCond .eq 17, 3) := by decide +kernel
theorem dX6_marked_8 : decode cX6_marked 8 = .ok (.iload_n 2, 1) := by decide +kernel
theorem dX6_marked_9 : decode cX6_marked 9 = .ok (.iload_n 1, 1) := by decide +kernel
theorem dX6_marked_10 : decode cX6_marked 10 = .ok (.invokestatic 50, 3) := by decide +kernel
theorem dX6_marked_13 : decode cX6_marked 13 = .ok (.ifCond .ne 9, 3) := by decide +kernel
theorem dX6_marked_16 : decode cX6_marked 16 = .ok (.iload_n 3, 1) := by decide +kernel
theorem dX6_marked_17 : decode cX6_marked 17 = .ok (.bipush 24, 2) := by decide +kernel
theorem dX6_marked_19 : decode cX6_marked 19 = .ok (.if_icmp .lt 5, 3) := by decide +kernel
theorem dX6_marked_22 : decode cX6_marked 22 = .ok (.iload_n 2, 1) := by decide +kernel
theorem dX6_marked_23 : decode cX6_marked 23 = .ok (.ireturn, 1) := by decide +kernel
theorem dX6_marked_24 : decode cX6_marked 24 = .ok (.aload_n 0, 1) := by decide +kernel
theorem dX6_marked_25 : decode cX6_marked 25 = .ok (.aload_n 0, 1) := by decide +kernel
theorem dX6_marked_26 : decode cX6_marked 26 = .ok (.iload_n 1, 1) := by decide +kernel
theorem dX6_marked_27 : decode cX6_marked 27 = .ok (.invokevirtual 79, 3) := by decide +kernel
theorem dX6_marked_30 : decode cX6_marked 30 = .ok (.iload_n 2, 1) := by decide +kernel
theorem dX6_marked_31 : decode cX6_marked 31 = .ok (.iload_n 1, 1) := by decide +kernel
theorem dX6_marked_32 : decode cX6_marked 32 = .ok (.invokestatic 29, 3) := by decide +kernel
theorem dX6_marked_35 : decode cX6_marked 35 = .ok (.ior, 1) := by decide +kernel
theorem dX6_marked_36 : decode cX6_marked 36 = .ok (.iload_n 3, 1) := by decide +kernel
theorem dX6_marked_37 : decode cX6_marked 37 = .ok (.iconst 1, 1) := by decide +kernel
theorem dX6_marked_38 : decode cX6_marked 38 = .ok (.iadd, 1) := by decide +kernel
theorem dX6_marked_39 : decode cX6_marked 39 = .ok (.invokestatic 88, 3) := by decide +kernel
theorem dX6_marked_42 : decode cX6_marked 42 = .ok (.istore 4, 2) := by decide +kernel
theorem dX6_marked_44 : decode cX6_marked 44 = .ok (.aload_n 0, 1) := by decide +kernel
theorem dX6_marked_45 : decode cX6_marked 45 = .ok (.aload_n 0, 1) := by decide +kernel
theorem dX6_marked_46 : decode cX6_marked 46 = .ok (.iload_n 1, 1) := by decide +kernel
theorem dX6_marked_47 : decode cX6_marked 47 = .ok (.invokevirtual 82, 3) := by decide +kernel
theorem dX6_marked_50 : decode cX6_marked 50 = .ok (.iload 4, 2) := by decide +kernel
theorem dX6_marked_52 : decode cX6_marked 52 = .ok (.iload_n 3, 1) := by decide +kernel
theorem dX6_marked_53 : decode cX6_marked 53 = .ok (.iconst 1, 1) := by decide +kernel
theorem dX6_marked_54 : decode cX6_marked 54 = .ok (.iadd, 1) := by decide +kernel
theorem dX6_marked_55 : decode cX6_marked 55 = .ok (.invokestatic 88, 3) := by decide +kernel
theorem dX6_marked_58 : decode cX6_marked 58 = .ok (.ireturn, 1) := by decide +kernel
def f_X6_marked_R : Nat → Mem → Int32 → Int32 → Int32 → Option (Int32 × Mem)
  | 0, _, _, _, _ => none
  | n0 + 1, V, a1, a2, a3 =>
    bd (f_X6_has V a1) fun r2 V2 =>
    if r2 = 0 then
      some (a2, V2)
    else
      bd (f_X9_contains V2 a2 a1) fun r10 V10 =>
      if r10 = 0 then
        if a3 < 24 then
          bd (f_X6_firstParentOf V10 a1) fun r27 V27 =>
          bd (f_X9_setOf V27 a1) fun r32 V32 =>
          bd (f_X6_marked_R n0 V32 r27 (a2 ||| r32) (a3 + 1)) fun r39 V39 =>
          bd (f_X6_secondParentOf V39 a1) fun r47 V47 =>
          bd (f_X6_marked_R n0 V47 r47 r39 (a3 + 1)) fun r55 V55 =>
          some (r55, V55)
        else
          some (a2, V10)
      else
        some (a2, V10)
def f_X6_marked (V : Mem) (a1 : Int32) (a2 : Int32) (a3 : Int32) : Option (Int32 × Mem) := f_X6_marked_R 26 V a1 a2 a3
theorem cv_X6_marked : CalS yX6_marked cX6_marked 5 (some .int) 4 := ⟨⟨⟨by decide +kernel, by decide +kernel⟩, tw_1_3, tw_2_65, by decide +kernel⟩, tw_2_64⟩
theorem kr_X6_marked {p : Program} {l : Launch} {e : Env} {R : Room} {cells slots : Nat} {s : State} {m : MethodId} {args : Array Value} {below : List Frame} {meth : Method} {c : Code} {H : Heap} {locs : List Loc} {Q : State → Prop} {E : En} {ad : Nat → Nat} {V : Mem} {ow : String} {b : ByteArray} {n d1 : Nat} {ret : Option FieldType} {pc index : Nat} {ls : Array Slot} {rest : List Value} {a1 : Int32} {a2 : Int32} {a3 : Int32} {r : Int32} {V1 : Mem} (hM : MR l E ad yX6_marked cX6_marked 5 (some .int) d1 [.ref (ad 1), .int a1, .int a2, .int a3] V (some (.int r)) V1) (hC : Cx p s m args c meth E ow b n ret) (hI : In E ad V s H locs) (hsz : ls.size = n) (hl : Cond.methodLink ow index yX6_marked ∈ TB) (hR : d1 + 1 ≤ R.frames ∧ 8 + (5 + 11) + 40 * d1 ≤ R.locals) (hcs : cells ≤ R.cells ∧ slots ≤ R.slots) (hw : (rest.map fun v => v.category).sum ≤ 8) (hdg : decode b pc = .ok (.invokestatic index, 3)) (kk : ∀ (H1 : Heap) (locs1 : List Loc), In E ad V1 s H1 locs1 → W p l e R s m args below meth c H1 locs1 cells slots Q (F0 m (pc + 3) ls ((.int r) :: rest))) : W p l e R s m args below meth c H locs cells slots Q (F0 m pc ls (.int a3 :: .int a2 :: .int a1 :: .ref (ad 1) :: rest)) :=
  r_calS (As := [.ref (ad 1), .int a1, .int a2, .int a3]) (rest := rest) hC hI hsz hM cv_X6_marked hl rfl rfl hR hcs hw hdg kk
set_option maxRecDepth 100000 in
set_option maxHeartbeats 4000000 in
theorem m_X6_marked_R (l : Launch) (E : En) (ad : Nat → Nat) : ∀ (n0 : Nat) (V : Mem) (a1 : Int32) (a2 : Int32) (a3 : Int32) (r : Int32) (Vz : Mem), f_X6_marked_R n0 V a1 a2 a3 = some (r, Vz) → MR l E ad yX6_marked cX6_marked 5 (some .int) (3 + n0) [.ref (ad 1), .int a1, .int a2, .int a3] V (some (.int r)) Vz := by
  intro n0
  induction n0 with
  | zero => intro V a1 a2 a3 r Vz hf; cases hf
  | succ n0 ih0 =>
    intro V a1 a2 a3 r Vz hf
    refine ent (E := E) (ad := ad) (V := V) "LetterRepository$Revisions" (by decide +kernel) rfl (Nat.le_of_ble_eq_true rfl) ?_
    intro p e s m below meth c ls hC hI hl
    have hx := hC.1
    have hb := hC.2.1
    have hl : lv_has ls 5 [(0, .ref (ad 1)), (1, .int a1), (2, .int a2), (3, .int a3)] := hl
    rw [f_X6_marked_R.eq_2] at hf
    refine lv_aload_n hx hb dX6_marked_0 rfl (lv_at hl 0 rfl) ?_
    refine lv_iload_n hx hb dX6_marked_1 rfl (lv_at hl 1 rfl) ?_
    obtain ⟨r2, V2, q2, hf⟩ := gbd hf
    refine k_X6_has hC hI hl.1 q2 tw_2_66 (rm_ok (by omega) (by omega)) ⟨Nat.le_refl _, Nat.le_refl _⟩ (Nat.le_of_ble_eq_true rfl) dX6_marked_2 (fun H locs hI => ?_)
    refine lv_if_eq (tgt := 22) hx hb dX6_marked_5 (by decide) (fun c5 => ?_) (fun c5 => ?_)
    · have hf := gt hf c5
      refine lv_iload_n hx hb dX6_marked_22 rfl (lv_at hl 2 rfl) ?_
      exact r_iret2 hC hI hf dX6_marked_23
    · have hf := gf hf c5
      refine lv_iload_n hx hb dX6_marked_8 rfl (lv_at hl 2 rfl) ?_
      refine lv_iload_n hx hb dX6_marked_9 rfl (lv_at hl 1 rfl) ?_
      obtain ⟨r10, V10, q10, hf⟩ := gbd hf
      refine kN_X9_contains hC hI hl.1 q10 tw_2_70 (rm_ok (by omega) (by omega)) ⟨Nat.le_refl _, Nat.le_refl _⟩ (Nat.le_of_ble_eq_true rfl) dX6_marked_10 (fun H locs hI => ?_)
      refine lv_if_ne (tgt := 22) hx hb dX6_marked_13 (by decide) (fun c13 => ?_) (fun c13 => ?_)
      · have hf := gf hf c13
        refine lv_iload_n hx hb dX6_marked_22 rfl (lv_at hl 2 rfl) ?_
        exact r_iret2 hC hI hf dX6_marked_23
      · have hf := gt hf c13
        refine lv_iload_n hx hb dX6_marked_16 rfl (lv_at hl 3 rfl) ?_
        refine lv_bipush (v := 24) hx hb dX6_marked_17 rfl ?_
        refine lv_icmp_lt (tgt := 24) hx hb dX6_marked_19 (by decide) (fun c19 => ?_) (fun c19 => ?_)
        · have hf := gt hf c19
          refine lv_aload_n hx hb dX6_marked_24 rfl (lv_at hl 0 rfl) ?_
          refine lv_aload_n hx hb dX6_marked_25 rfl (lv_at hl 0 rfl) ?_
          refine lv_iload_n hx hb dX6_marked_26 rfl (lv_at hl 1 rfl) ?_
          obtain ⟨r27, V27, q27, hf⟩ := gbd hf
          refine k_X6_firstParentOf hC hI hl.1 q27 tw_2_74 (rm_ok (by omega) (by omega)) ⟨Nat.le_refl _, Nat.le_refl _⟩ (Nat.le_of_ble_eq_true rfl) dX6_marked_27 (fun H locs hI => ?_)
          refine lv_iload_n hx hb dX6_marked_30 rfl (lv_at hl 2 rfl) ?_
          refine lv_iload_n hx hb dX6_marked_31 rfl (lv_at hl 1 rfl) ?_
          obtain ⟨r32, V32, q32, hf⟩ := gbd hf
          refine kN_X9_setOf hC hI hl.1 q32 tw_1_65 (rm_ok (by omega) (by omega)) ⟨Nat.le_refl _, Nat.le_refl _⟩ (Nat.le_of_ble_eq_true rfl) dX6_marked_32 (fun H locs hI => ?_)
          refine lv_ior hx hb dX6_marked_35 ?_
          refine lv_iload_n hx hb dX6_marked_36 rfl (lv_at hl 3 rfl) ?_
          refine lv_iconst (v := 1) hx hb dX6_marked_37 rfl ?_
          refine lv_iadd hx hb dX6_marked_38 ?_
          obtain ⟨r39, V39, q39, hf⟩ := gbd hf
          refine kr_X6_marked (ih0 _ _ _ _ _ _ q39) hC hI hl.1 tw_2_79 (rm_ok (by omega) (by omega)) ⟨Nat.le_refl _, Nat.le_refl _⟩ (Nat.le_of_ble_eq_true rfl) dX6_marked_39 (fun H locs hI => ?_)
          refine lv_istore (lv' := [(4, .int r39), (0, .ref (ad 1)), (1, .int a1), (2, .int a2), (3, .int a3)]) hx hb dX6_marked_42 hl (Nat.lt_of_lt_of_eq (by decide) rfl) rfl (fun ls hl => ?_)
          refine lv_aload_n hx hb dX6_marked_44 rfl (lv_at hl 1 rfl) ?_
          refine lv_aload_n hx hb dX6_marked_45 rfl (lv_at hl 1 rfl) ?_
          refine lv_iload_n hx hb dX6_marked_46 rfl (lv_at hl 2 rfl) ?_
          obtain ⟨r47, V47, q47, hf⟩ := gbd hf
          refine k_X6_secondParentOf hC hI hl.1 q47 tw_2_80 (rm_ok (by omega) (by omega)) ⟨Nat.le_refl _, Nat.le_refl _⟩ (Nat.le_of_ble_eq_true rfl) dX6_marked_47 (fun H locs hI => ?_)
          refine lv_iload hx hb dX6_marked_50 (lv_at hl 0 rfl) ?_
          refine lv_iload_n hx hb dX6_marked_52 rfl (lv_at hl 4 rfl) ?_
          refine lv_iconst (v := 1) hx hb dX6_marked_53 rfl ?_
          refine lv_iadd hx hb dX6_marked_54 ?_
          obtain ⟨r55, V55, q55, hf⟩ := gbd hf
          refine kr_X6_marked (ih0 _ _ _ _ _ _ q55) hC hI hl.1 tw_2_79 (rm_ok (by omega) (by omega)) ⟨Nat.le_refl _, Nat.le_refl _⟩ (Nat.le_of_ble_eq_true rfl) dX6_marked_55 (fun H locs hI => ?_)
          exact r_iret2 hC hI hf dX6_marked_58
        · have hf := gf hf c19
          refine lv_iload_n hx hb dX6_marked_22 rfl (lv_at hl 2 rfl) ?_
          exact r_iret2 hC hI hf dX6_marked_23
set_option maxRecDepth 100000 in
set_option maxHeartbeats 4000000 in
theorem m_X6_marked (l : Launch) (E : En) (ad : Nat → Nat) (V : Mem) (a1 : Int32) (a2 : Int32) (a3 : Int32) (r : Int32) (Vz : Mem) (hf : f_X6_marked V a1 a2 a3 = some (r, Vz)) : MR l E ad yX6_marked cX6_marked 5 (some .int) 29 [.ref (ad 1), .int a1, .int a2, .int a3] V (some (.int r)) Vz :=
  m_X6_marked_R l E ad 26 V a1 a2 a3 r Vz hf
theorem k_X6_marked {p : Program} {l : Launch} {e : Env} {R : Room} {cells slots : Nat} {s : State} {m : MethodId} {args : Array Value} {below : List Frame} {meth : Method} {c : Code} {H : Heap} {locs : List Loc} {Q : State → Prop} {E : En} {ad : Nat → Nat} {V : Mem} {ow : String} {b : ByteArray} {n : Nat} {ret : Option FieldType} {pc index : Nat} {ls : Array Slot} {rest : List Value} {a1 : Int32} {a2 : Int32} {a3 : Int32} {r : Int32} {V1 : Mem} (hC : Cx p s m args c meth E ow b n ret) (hI : In E ad V s H locs) (hsz : ls.size = n) (hf : f_X6_marked V a1 a2 a3 = some (r, V1)) (hl : Cond.methodLink ow index yX6_marked ∈ TB) (hR : 29 + 1 ≤ R.frames ∧ 8 + (5 + 11) + 40 * 29 ≤ R.locals) (hcs : cells ≤ R.cells ∧ slots ≤ R.slots) (hw : (rest.map fun v => v.category).sum ≤ 8) (hdg : decode b pc = .ok (.invokestatic index, 3)) (kk : ∀ (H1 : Heap) (locs1 : List Loc), In E ad V1 s H1 locs1 → W p l e R s m args below meth c H1 locs1 cells slots Q (F0 m (pc + 3) ls ((.int r) :: rest))) : W p l e R s m args below meth c H locs cells slots Q (F0 m pc ls (.int a3 :: .int a2 :: .int a1 :: .ref (ad 1) :: rest)) :=
  r_calS (As := [.ref (ad 1), .int a1, .int a2, .int a3]) (rest := rest) hC hI hsz (m_X6_marked l E ad V a1 a2 a3 r _ hf) cv_X6_marked hl rfl rfl hR hcs hw hdg kk
theorem kN_X6_marked {p : Program} {l : Launch} {e : Env} {R : Room} {cells slots : Nat} {s : State} {m : MethodId} {args : Array Value} {below : List Frame} {meth : Method} {c : Code} {H : Heap} {locs : List Loc} {Q : State → Prop} {E : En} {ad : Nat → Nat} {V : Mem} {ow host : String} {b : ByteArray} {n : Nat} {ret : Option FieldType} {pc index : Nat} {ls : Array Slot} {rest : List Value} {a1 : Int32} {a2 : Int32} {a3 : Int32} {r : Int32} {V1 : Mem} (hC : Cx p s m args c meth E ow b n ret) (hI : In E ad V s H locs) (hsz : ls.size = n) (hf : f_X6_marked V a1 a2 a3 = some (r, V1)) (hl : Cond.methodLinkNest ow index yX6_marked host ∈ NB) (hR : 29 + 1 ≤ R.frames ∧ 8 + (5 + 11) + 40 * 29 ≤ R.locals) (hcs : cells ≤ R.cells ∧ slots ≤ R.slots) (hw : (rest.map fun v => v.category).sum ≤ 8) (hdg : decode b pc = .ok (.invokestatic index, 3)) (kk : ∀ (H1 : Heap) (locs1 : List Loc), In E ad V1 s H1 locs1 → W p l e R s m args below meth c H1 locs1 cells slots Q (F0 m (pc + 3) ls ((.int r) :: rest))) : W p l e R s m args below meth c H locs cells slots Q (F0 m pc ls (.int a3 :: .int a2 :: .int a1 :: .ref (ad 1) :: rest)) :=
  r_calSN (As := [.ref (ad 1), .int a1, .int a2, .int a3]) (rest := rest) hC hI hsz (m_X6_marked l E ad V a1 a2 a3 r _ hf) cv_X6_marked hl rfl rfl hR hcs hw hdg kk

theorem dX6_latestCommon_0 : decode cX6_latestCommon 0 = .ok (.aload_n 0, 1) := by decide +kernel
theorem dX6_latestCommon_1 : decode cX6_latestCommon 1 = .ok (.iload_n 1, 1) := by decide +kernel
theorem dX6_latestCommon_2 : decode cX6_latestCommon 2 = .ok (.iconst 0, 1) := by decide +kernel
theorem dX6_latestCommon_3 : decode cX6_latestCommon 3 = .ok (.iconst 0, 1) := by decide +kernel
theorem dX6_latestCommon_4 : decode cX6_latestCommon 4 = .ok (.invokestatic 88, 3) := by decide +kernel
theorem dX6_latestCommon_7 : decode cX6_latestCommon 7 = .ok (.istore_n 3, 1) := by decide +kernel
theorem dX6_latestCommon_8 : decode cX6_latestCommon 8 = .ok (.iload_n 2, 1) := by decide +kernel
theorem dX6_latestCommon_9 : decode cX6_latestCommon 9 = .ok (.invokestatic 29, 3) := by decide +kernel
theorem dX6_latestCommon_12 : decode cX6_latestCommon 12 = .ok (.istore 4, 2) := by decide +kernel
theorem dX6_latestCommon_14 : decode cX6_latestCommon 14 = .ok (.iload_n 2, 1) := by decide +kernel
theorem dX6_latestCommon_15 : decode cX6_latestCommon 15 = .ok (.istore 5, 2) := by decide +kernel
theorem dX6_latestCommon_17 : decode cX6_latestCommon 17 = .ok (.iload 5, 2) := by decide +kernel
theorem dX6_latestCommon_19 : decode cX6_latestCommon 19 = .ok (.ifCond .le 42, 3) := by decide +kernel
theorem dX6_latestCommon_22 : decode cX6_latestCommon 22 = .ok (.iload 4, 2) := by decide +kernel
theorem dX6_latestCommon_24 : decode cX6_latestCommon 24 = .ok (.iload 5, 2) := by decide +kernel
theorem dX6_latestCommon_26 : decode cX6_latestCommon 26 = .ok (.invokestatic 50, 3) := by decide +kernel
theorem dX6_latestCommon_29 : decode cX6_latestCommon 29 = .ok (.ifCond .eq 26, 3) := by decide +kernel
theorem dX6_latestCommon_32 : decode cX6_latestCommon 32 = .ok (.iload_n 3, 1) := by decide +kernel
theorem dX6_latestCommon_33 : decode cX6_latestCommon 33 = .ok (.iload 5, 2) := by decide +kernel
theorem dX6_latestCommon_35 : decode cX6_latestCommon 35 = .ok (.invokestatic 50, 3) := by decide +kernel
theorem dX6_latestCommon_38 : decode cX6_latestCommon 38 = .ok (.ifCond .eq 6, 3) := by decide +kernel
theorem dX6_latestCommon_41 : decode cX6_latestCommon 41 = .ok (.iload 5, 2) := by decide +kernel
theorem dX6_latestCommon_43 : decode cX6_latestCommon 43 = .ok (.ireturn, 1) := by decide +kernel
theorem dX6_latestCommon_44 : decode cX6_latestCommon 44 = .ok (.iload 4, 2) := by decide +kernel
theorem dX6_latestCommon_46 : decode cX6_latestCommon 46 = .ok (.aload_n 0, 1) := by decide +kernel
theorem dX6_latestCommon_47 : decode cX6_latestCommon 47 = .ok (.iload 5, 2) := by decide +kernel
theorem dX6_latestCommon_49 : decode cX6_latestCommon 49 = .ok (.invokevirtual 85, 3) := by decide +kernel
theorem dX6_latestCommon_52 : decode cX6_latestCommon 52 = .ok (.ior, 1) := by decide +kernel
theorem dX6_latestCommon_53 : decode cX6_latestCommon 53 = .ok (.istore 4, 2) := by decide +kernel
theorem dX6_latestCommon_55 : decode cX6_latestCommon 55 = .ok (.iinc 5 (-1), 3) := by decide +kernel
theorem dX6_latestCommon_58 : decode cX6_latestCommon 58 = .ok (.goto (-41), 3) := by decide +kernel
theorem dX6_latestCommon_61 : decode cX6_latestCommon 61 = .ok (.iconst 0, 1) := by decide +kernel
theorem dX6_latestCommon_62 : decode cX6_latestCommon 62 = .ok (.ireturn, 1) := by decide +kernel
def f_X6_latestCommon_L17 (r4 : Int32) : Nat → Mem → Int32 → Int32 → Option (Int32 × Mem)
  | 0, _, _, _ => none
  | n17 + 1, V17, x4_17, x5_17 =>
    if x5_17 ≤ 0 then
      some (0, V17)
    else
      bd (f_X9_contains V17 x4_17 x5_17) fun r26 V26 =>
      jn (α := Mem → Int32 → Option (Int32 × Mem)) (fun j55 =>
        if r26 = 0 then
          j55 V26 x4_17
        else
          bd (f_X9_contains V26 r4 x5_17) fun r35 V35 =>
          if r35 = 0 then
            bd (f_X6_parentSet V35 x5_17) fun r49 V49 =>
            j55 V49 (x4_17 ||| r49)
          else
            some (x5_17, V35)
      ) (fun (V55 : Mem) (x4_55 : Int32) =>
        (f_X6_latestCommon_L17 r4 n17) V55 x4_55 (x5_17 + (-1))
      )
def f_X6_latestCommon (V : Mem) (a1 : Int32) (a2 : Int32) : Option (Int32 × Mem) :=
  bd (f_X6_marked V a1 0 0) fun r4 V4 =>
  bd (f_X9_setOf V4 a2) fun r9 V9 =>
  f_X6_latestCommon_L17 r4 FU V9 r9 a2
theorem cv_X6_latestCommon : CalV yX6_latestCommon cX6_latestCommon 6 (some .int) 2 := ⟨⟨⟨by decide +kernel, by decide +kernel⟩, tw_1_3, tw_2_172, by decide +kernel⟩, tw_2_170, tw_2_171⟩
set_option maxRecDepth 100000 in
set_option maxHeartbeats 4000000 in
theorem m_X6_latestCommon (l : Launch) (E : En) (ad : Nat → Nat) (V : Mem) (a1 : Int32) (a2 : Int32) (r : Int32) (Vz : Mem) (hf : f_X6_latestCommon V a1 a2 = some (r, Vz)) : MR l E ad yX6_latestCommon cX6_latestCommon 6 (some .int) 30 [.ref (ad 1), .int a1, .int a2] V (some (.int r)) Vz := by
  refine ent (E := E) (ad := ad) (V := V) "LetterRepository$Revisions" (by decide +kernel) rfl (Nat.le_of_ble_eq_true rfl) ?_
  intro p e s m below meth c ls hC hI hl
  have hx := hC.1
  have hb := hC.2.1
  have hl : lv_has ls 6 [(0, .ref (ad 1)), (1, .int a1), (2, .int a2)] := hl
  unfold f_X6_latestCommon at hf
  refine lv_aload_n hx hb dX6_latestCommon_0 rfl (lv_at hl 0 rfl) ?_
  refine lv_iload_n hx hb dX6_latestCommon_1 rfl (lv_at hl 1 rfl) ?_
  refine lv_iconst (v := 0) hx hb dX6_latestCommon_2 rfl ?_
  refine lv_iconst (v := 0) hx hb dX6_latestCommon_3 rfl ?_
  obtain ⟨r4, V4, q4, hf⟩ := gbd hf
  refine k_X6_marked hC hI hl.1 q4 tw_2_79 ⟨Nat.le_of_ble_eq_true rfl, Nat.le_of_ble_eq_true rfl⟩ ⟨Nat.le_refl _, Nat.le_refl _⟩ (Nat.le_of_ble_eq_true rfl) dX6_latestCommon_4 (fun H locs hI => ?_)
  refine lv_istore_n (lv' := [(3, .int r4), (0, .ref (ad 1)), (1, .int a1), (2, .int a2)]) hx hb dX6_latestCommon_7 rfl hl (Nat.lt_of_lt_of_eq (by decide) rfl) rfl (fun ls hl => ?_)
  refine lv_iload_n hx hb dX6_latestCommon_8 rfl (lv_at hl 3 rfl) ?_
  obtain ⟨r9, V9, q9, hf⟩ := gbd hf
  refine kN_X9_setOf hC hI hl.1 q9 tw_1_65 ⟨Nat.le_of_ble_eq_true rfl, Nat.le_of_ble_eq_true rfl⟩ ⟨Nat.le_refl _, Nat.le_refl _⟩ (Nat.le_of_ble_eq_true rfl) dX6_latestCommon_9 (fun H locs hI => ?_)
  refine lv_istore (lv' := [(4, .int r9), (3, .int r4), (0, .ref (ad 1)), (1, .int a1), (2, .int a2)]) hx hb dX6_latestCommon_12 hl (Nat.lt_of_lt_of_eq (by decide) rfl) rfl (fun ls hl => ?_)
  refine lv_iload_n hx hb dX6_latestCommon_14 rfl (lv_at hl 4 rfl) ?_
  refine lv_istore (lv' := [(5, .int a2), (4, .int r9), (3, .int r4), (0, .ref (ad 1)), (1, .int a1), (2, .int a2)]) hx hb dX6_latestCommon_15 hl (Nat.lt_of_lt_of_eq (by decide) rfl) rfl (fun ls hl => ?_)
  have L17 : ∀ (n17 : Nat) (V17 : Mem) (x4_17 : Int32) (x5_17 : Int32) (H : Heap) (locs : List Loc) (ls : Array Slot), f_X6_latestCommon_L17 r4 n17 V17 x4_17 x5_17 = some (r, Vz) → In E ad V17 s H locs → lv_has ls 6 [(0, .ref (ad 1)), (3, .int r4), (4, .int x4_17), (5, .int x5_17)] → W p l e (rmd 30) s m ([.ref (ad 1), .int a1, .int a2] : List Value).toArray below meth c H locs 0 0 (MQ below (QR E ad (some (.int r)) Vz) ([.ref (ad 1), .int a1, .int a2] : List Value).toArray s 0 0 (ours E)) (F0 m 17 ls []) := by
    intro n17
    induction n17 with
    | zero => intro V17 x4_17 x5_17 H locs ls hf hI hl; cases hf
    | succ n17 ih17 =>
      intro V17 x4_17 x5_17 H locs ls hf hI hl
      rw [f_X6_latestCommon_L17.eq_2] at hf
      refine lv_iload hx hb dX6_latestCommon_17 (lv_at hl 3 rfl) ?_
      refine lv_if_le (tgt := 61) hx hb dX6_latestCommon_19 (by decide) (fun c19 => ?_) (fun c19 => ?_)
      · have hf := gt hf c19
        refine lv_iconst (v := 0) hx hb dX6_latestCommon_61 rfl ?_
        exact r_iret2 hC hI hf dX6_latestCommon_62
      · have hf := gf hf c19
        refine lv_iload hx hb dX6_latestCommon_22 (lv_at hl 2 rfl) ?_
        refine lv_iload hx hb dX6_latestCommon_24 (lv_at hl 3 rfl) ?_
        obtain ⟨r26, V26, q26, hf⟩ := gbd hf
        refine kN_X9_contains hC hI hl.1 q26 tw_2_70 ⟨Nat.le_of_ble_eq_true rfl, Nat.le_of_ble_eq_true rfl⟩ ⟨Nat.le_refl _, Nat.le_refl _⟩ (Nat.le_of_ble_eq_true rfl) dX6_latestCommon_26 (fun H locs hI => ?_)
        obtain ⟨j55, hj55, hf⟩ := gj hf
        have J55 : ∀ (V55 : Mem) (x4_55 : Int32) (H : Heap) (locs : List Loc) (ls : Array Slot), j55 V55 x4_55 = some (r, Vz) → In E ad V55 s H locs → lv_has ls 6 [(0, .ref (ad 1)), (3, .int r4), (4, .int x4_55), (5, .int x5_17)] → W p l e (rmd 30) s m ([.ref (ad 1), .int a1, .int a2] : List Value).toArray below meth c H locs 0 0 (MQ below (QR E ad (some (.int r)) Vz) ([.ref (ad 1), .int a1, .int a2] : List Value).toArray s 0 0 (ours E)) (F0 m 55 ls []) := by
          intro V55 x4_55 H locs ls hf hI hl
          rw [hj55] at hf
          dsimp only at hf
          refine lv_iinc (v := (x5_17 + (-1))) (lv' := [(5, .int (x5_17 + (-1))), (0, .ref (ad 1)), (3, .int r4), (4, .int x4_55)]) hx hb dX6_latestCommon_55 hl (k := 3) rfl rfl (Nat.lt_of_lt_of_eq (by decide) rfl) rfl (fun ls hl => ?_)
          refine lv_goto (tgt := 17) hx hb dX6_latestCommon_58 (by decide) ?_
          exact ih17 _ _ _ _ _ _ hf hI (lv_sub hl [1, 2, 3, 0] rfl)
        refine lv_if_eq (tgt := 55) hx hb dX6_latestCommon_29 (by decide) (fun c29 => ?_) (fun c29 => ?_)
        · have hf := gt hf c29
          exact J55 _ _ _ _ _ hf hI (lv_sub hl [0, 1, 2, 3] rfl)
        · have hf := gf hf c29
          refine lv_iload_n hx hb dX6_latestCommon_32 rfl (lv_at hl 1 rfl) ?_
          refine lv_iload hx hb dX6_latestCommon_33 (lv_at hl 3 rfl) ?_
          obtain ⟨r35, V35, q35, hf⟩ := gbd hf
          refine kN_X9_contains hC hI hl.1 q35 tw_2_70 ⟨Nat.le_of_ble_eq_true rfl, Nat.le_of_ble_eq_true rfl⟩ ⟨Nat.le_refl _, Nat.le_refl _⟩ (Nat.le_of_ble_eq_true rfl) dX6_latestCommon_35 (fun H locs hI => ?_)
          refine lv_if_eq (tgt := 44) hx hb dX6_latestCommon_38 (by decide) (fun c38 => ?_) (fun c38 => ?_)
          · have hf := gt hf c38
            refine lv_iload hx hb dX6_latestCommon_44 (lv_at hl 2 rfl) ?_
            refine lv_aload_n hx hb dX6_latestCommon_46 rfl (lv_at hl 0 rfl) ?_
            refine lv_iload hx hb dX6_latestCommon_47 (lv_at hl 3 rfl) ?_
            obtain ⟨r49, V49, q49, hf⟩ := gbd hf
            refine k_X6_parentSet hC hI hl.1 q49 tw_2_136 ⟨Nat.le_of_ble_eq_true rfl, Nat.le_of_ble_eq_true rfl⟩ ⟨Nat.le_refl _, Nat.le_refl _⟩ (Nat.le_of_ble_eq_true rfl) dX6_latestCommon_49 (fun H locs hI => ?_)
            refine lv_ior hx hb dX6_latestCommon_52 ?_
            refine lv_istore (lv' := [(4, .int (x4_17 ||| r49)), (0, .ref (ad 1)), (3, .int r4), (5, .int x5_17)]) hx hb dX6_latestCommon_53 hl (Nat.lt_of_lt_of_eq (by decide) rfl) rfl (fun ls hl => ?_)
            exact J55 _ _ _ _ _ hf hI (lv_sub hl [1, 2, 0, 3] rfl)
          · have hf := gf hf c38
            refine lv_iload hx hb dX6_latestCommon_41 (lv_at hl 3 rfl) ?_
            exact r_iret2 hC hI hf dX6_latestCommon_43
  exact L17 _ _ _ _ _ _ _ hf hI (lv_sub hl [3, 2, 1, 0] rfl)
theorem k_X6_latestCommon {p : Program} {l : Launch} {e : Env} {R : Room} {cells slots : Nat} {s : State} {m : MethodId} {args : Array Value} {below : List Frame} {meth : Method} {c : Code} {H : Heap} {locs : List Loc} {Q : State → Prop} {E : En} {ad : Nat → Nat} {V : Mem} {ow : String} {b : ByteArray} {n : Nat} {ret : Option FieldType} {pc index : Nat} {ls : Array Slot} {rest : List Value} {a1 : Int32} {a2 : Int32} {r : Int32} {V1 : Mem} (hC : Cx p s m args c meth E ow b n ret) (hI : In E ad V s H locs) (hsz : ls.size = n) (hf : f_X6_latestCommon V a1 a2 = some (r, V1)) (hl : Cond.methodLink ow index yX6_latestCommon ∈ TB) (hR : 30 + 1 ≤ R.frames ∧ 8 + (6 + 11) + 40 * 30 ≤ R.locals) (hcs : cells ≤ R.cells ∧ slots ≤ R.slots) (hw : (rest.map fun v => v.category).sum ≤ 8) (hdg : decode b pc = .ok (.invokevirtual index, 3)) (kk : ∀ (H1 : Heap) (locs1 : List Loc), In E ad V1 s H1 locs1 → W p l e R s m args below meth c H1 locs1 cells slots Q (F0 m (pc + 3) ls ((.int r) :: rest))) : W p l e R s m args below meth c H locs cells slots Q (F0 m pc ls (.int a2 :: .int a1 :: .ref (ad 1) :: rest)) :=
  r_calV (As := [.int a1, .int a2]) (rest := rest) hC hI hsz (m_X6_latestCommon l E ad V a1 a2 r _ hf) cv_X6_latestCommon hl (by decide) (ce_1 _) rfl rfl rfl hR hcs hw hdg kk

theorem dX6_latestCommonBySets_0 : decode cX6_latestCommonBySets 0 = .ok (.aload_n 0, 1) := by decide +kernel
theorem dX6_latestCommonBySets_1 : decode cX6_latestCommonBySets 1 = .ok (.iload_n 1, 1) := by decide +kernel
theorem dX6_latestCommonBySets_2 : decode cX6_latestCommonBySets 2 = .ok (.invokevirtual 76, 3) := by decide +kernel
theorem dX6_latestCommonBySets_5 : decode cX6_latestCommonBySets 5 = .ok (.aload_n 0, 1) := by decide +kernel
theorem dX6_latestCommonBySets_6 : decode cX6_latestCommonBySets 6 = .ok (.iload_n 2, 1) := by decide +kernel
theorem dX6_latestCommonBySets_7 : decode cX6_latestCommonBySets 7 = .ok (.invokevirtual 76, 3) := by decide +kernel
theorem dX6_latestCommonBySets_10 : decode cX6_latestCommonBySets 10 = .ok (.iand, 1) := by decide +kernel
theorem dX6_latestCommonBySets_11 : decode cX6_latestCommonBySets 11 = .ok (.istore_n 3, 1) := by decide +kernel
theorem dX6_latestCommonBySets_12 : decode cX6_latestCommonBySets 12 = .ok (.bipush 23, 2) := by decide +kernel
theorem dX6_latestCommonBySets_14 : decode cX6_latestCommonBySets 14 = .ok (.istore 4, 2) := by decide +kernel
theorem dX6_latestCommonBySets_16 : decode cX6_latestCommonBySets 16 = .ok (.iload 4, 2) := by decide +kernel
theorem dX6_latestCommonBySets_18 : decode cX6_latestCommonBySets 18 = .ok (.ifCond .le 18, 3) := by decide +kernel
theorem dX6_latestCommonBySets_21 : decode cX6_latestCommonBySets 21 = .ok (.iload_n 3, 1) := by decide +kernel
theorem dX6_latestCommonBySets_22 : decode cX6_latestCommonBySets 22 = .ok (.iload 4, 2) := by decide +kernel
theorem dX6_latestCommonBySets_24 : decode cX6_latestCommonBySets 24 = .ok (.invokestatic 50, 3) := by decide +kernel
theorem dX6_latestCommonBySets_27 : decode cX6_latestCommonBySets 27 = .ok (.ifCond .ne 9, 3) := by decide +kernel
theorem dX6_latestCommonBySets_30 : decode cX6_latestCommonBySets 30 = .ok (.iinc 4 (-1), 3) := by decide +kernel
theorem dX6_latestCommonBySets_33 : decode cX6_latestCommonBySets 33 = .ok (.goto (-17), 3) := by decide +kernel
theorem dX6_latestCommonBySets_36 : decode cX6_latestCommonBySets 36 = .ok (.iload 4, 2) := by decide +kernel
theorem dX6_latestCommonBySets_38 : decode cX6_latestCommonBySets 38 = .ok (.ireturn, 1) := by decide +kernel
def f_X6_latestCommonBySets_L16 (x3_16 : Int32) : Nat → Mem → Int32 → Option (Int32 × Mem)
  | 0, _, _ => none
  | n16 + 1, V16, x4_16 =>
    if x4_16 ≤ 0 then
      some (x4_16, V16)
    else
      bd (f_X9_contains V16 x3_16 x4_16) fun r24 V24 =>
      if r24 = 0 then
        (f_X6_latestCommonBySets_L16 x3_16 n16) V24 (x4_16 + (-1))
      else
        some (x4_16, V24)
def f_X6_latestCommonBySets (V : Mem) (a1 : Int32) (a2 : Int32) : Option (Int32 × Mem) :=
  bd (f_X6_ancestorSetOf V a1) fun r2 V2 =>
  bd (f_X6_ancestorSetOf V2 a2) fun r7 V7 =>
  f_X6_latestCommonBySets_L16 (r2 &&& r7) FU V7 23
theorem cv_X6_latestCommonBySets : CalV yX6_latestCommonBySets cX6_latestCommonBySets 5 (some .int) 2 := ⟨⟨⟨by decide +kernel, by decide +kernel⟩, tw_1_3, tw_2_176, by decide +kernel⟩, tw_2_174, tw_2_175⟩
set_option maxRecDepth 100000 in
set_option maxHeartbeats 4000000 in
theorem m_X6_latestCommonBySets (l : Launch) (E : En) (ad : Nat → Nat) (V : Mem) (a1 : Int32) (a2 : Int32) (r : Int32) (Vz : Mem) (hf : f_X6_latestCommonBySets V a1 a2 = some (r, Vz)) : MR l E ad yX6_latestCommonBySets cX6_latestCommonBySets 5 (some .int) 3 [.ref (ad 1), .int a1, .int a2] V (some (.int r)) Vz := by
  refine ent (E := E) (ad := ad) (V := V) "LetterRepository$Revisions" (by decide +kernel) rfl (Nat.le_of_ble_eq_true rfl) ?_
  intro p e s m below meth c ls hC hI hl
  have hx := hC.1
  have hb := hC.2.1
  have hl : lv_has ls 5 [(0, .ref (ad 1)), (1, .int a1), (2, .int a2)] := hl
  unfold f_X6_latestCommonBySets at hf
  refine lv_aload_n hx hb dX6_latestCommonBySets_0 rfl (lv_at hl 0 rfl) ?_
  refine lv_iload_n hx hb dX6_latestCommonBySets_1 rfl (lv_at hl 1 rfl) ?_
  obtain ⟨r2, V2, q2, hf⟩ := gbd hf
  refine k_X6_ancestorSetOf hC hI hl.1 q2 tw_2_177 ⟨Nat.le_of_ble_eq_true rfl, Nat.le_of_ble_eq_true rfl⟩ ⟨Nat.le_refl _, Nat.le_refl _⟩ (Nat.le_of_ble_eq_true rfl) dX6_latestCommonBySets_2 (fun H locs hI => ?_)
  refine lv_aload_n hx hb dX6_latestCommonBySets_5 rfl (lv_at hl 0 rfl) ?_
  refine lv_iload_n hx hb dX6_latestCommonBySets_6 rfl (lv_at hl 2 rfl) ?_
  obtain ⟨r7, V7, q7, hf⟩ := gbd hf
  refine k_X6_ancestorSetOf hC hI hl.1 q7 tw_2_177 ⟨Nat.le_of_ble_eq_true rfl, Nat.le_of_ble_eq_true rfl⟩ ⟨Nat.le_refl _, Nat.le_refl _⟩ (Nat.le_of_ble_eq_true rfl) dX6_latestCommonBySets_7 (fun H locs hI => ?_)
  refine lv_iand hx hb dX6_latestCommonBySets_10 ?_
  refine lv_istore_n (lv' := [(3, .int (r2 &&& r7)), (0, .ref (ad 1)), (1, .int a1), (2, .int a2)]) hx hb dX6_latestCommonBySets_11 rfl hl (Nat.lt_of_lt_of_eq (by decide) rfl) rfl (fun ls hl => ?_)
  refine lv_bipush (v := 23) hx hb dX6_latestCommonBySets_12 rfl ?_
  refine lv_istore (lv' := [(4, .int 23), (3, .int (r2 &&& r7)), (0, .ref (ad 1)), (1, .int a1), (2, .int a2)]) hx hb dX6_latestCommonBySets_14 hl (Nat.lt_of_lt_of_eq (by decide) rfl) rfl (fun ls hl => ?_)
  have L16 : ∀ (x3_16 : Int32) (n16 : Nat) (V16 : Mem) (x4_16 : Int32) (H : Heap) (locs : List Loc) (ls : Array Slot), f_X6_latestCommonBySets_L16 x3_16 n16 V16 x4_16 = some (r, Vz) → In E ad V16 s H locs → lv_has ls 5 [(3, .int x3_16), (4, .int x4_16)] → W p l e (rmd 3) s m ([.ref (ad 1), .int a1, .int a2] : List Value).toArray below meth c H locs 0 0 (MQ below (QR E ad (some (.int r)) Vz) ([.ref (ad 1), .int a1, .int a2] : List Value).toArray s 0 0 (ours E)) (F0 m 16 ls []) := by
    intro x3_16 n16
    induction n16 with
    | zero => intro V16 x4_16 H locs ls hf hI hl; cases hf
    | succ n16 ih16 =>
      intro V16 x4_16 H locs ls hf hI hl
      rw [f_X6_latestCommonBySets_L16.eq_2] at hf
      refine lv_iload hx hb dX6_latestCommonBySets_16 (lv_at hl 1 rfl) ?_
      refine lv_if_le (tgt := 36) hx hb dX6_latestCommonBySets_18 (by decide) (fun c18 => ?_) (fun c18 => ?_)
      · have hf := gt hf c18
        refine lv_iload hx hb dX6_latestCommonBySets_36 (lv_at hl 1 rfl) ?_
        exact r_iret2 hC hI hf dX6_latestCommonBySets_38
      · have hf := gf hf c18
        refine lv_iload_n hx hb dX6_latestCommonBySets_21 rfl (lv_at hl 0 rfl) ?_
        refine lv_iload hx hb dX6_latestCommonBySets_22 (lv_at hl 1 rfl) ?_
        obtain ⟨r24, V24, q24, hf⟩ := gbd hf
        refine kN_X9_contains hC hI hl.1 q24 tw_2_70 ⟨Nat.le_of_ble_eq_true rfl, Nat.le_of_ble_eq_true rfl⟩ ⟨Nat.le_refl _, Nat.le_refl _⟩ (Nat.le_of_ble_eq_true rfl) dX6_latestCommonBySets_24 (fun H locs hI => ?_)
        refine lv_if_ne (tgt := 36) hx hb dX6_latestCommonBySets_27 (by decide) (fun c27 => ?_) (fun c27 => ?_)
        · have hf := gf hf c27
          refine lv_iload hx hb dX6_latestCommonBySets_36 (lv_at hl 1 rfl) ?_
          exact r_iret2 hC hI hf dX6_latestCommonBySets_38
        · have hf := gt hf c27
          refine lv_iinc (v := (x4_16 + (-1))) (lv' := [(4, .int (x4_16 + (-1))), (3, .int x3_16)]) hx hb dX6_latestCommonBySets_30 hl (k := 1) rfl rfl (Nat.lt_of_lt_of_eq (by decide) rfl) rfl (fun ls hl => ?_)
          refine lv_goto (tgt := 16) hx hb dX6_latestCommonBySets_33 (by decide) ?_
          exact ih16 _ _ _ _ _ hf hI (lv_sub hl [1, 0] rfl)
  exact L16 _ _ _ _ _ _ _ hf hI (lv_sub hl [1, 0] rfl)
theorem k_X6_latestCommonBySets {p : Program} {l : Launch} {e : Env} {R : Room} {cells slots : Nat} {s : State} {m : MethodId} {args : Array Value} {below : List Frame} {meth : Method} {c : Code} {H : Heap} {locs : List Loc} {Q : State → Prop} {E : En} {ad : Nat → Nat} {V : Mem} {ow : String} {b : ByteArray} {n : Nat} {ret : Option FieldType} {pc index : Nat} {ls : Array Slot} {rest : List Value} {a1 : Int32} {a2 : Int32} {r : Int32} {V1 : Mem} (hC : Cx p s m args c meth E ow b n ret) (hI : In E ad V s H locs) (hsz : ls.size = n) (hf : f_X6_latestCommonBySets V a1 a2 = some (r, V1)) (hl : Cond.methodLink ow index yX6_latestCommonBySets ∈ TB) (hR : 3 + 1 ≤ R.frames ∧ 8 + (5 + 11) + 40 * 3 ≤ R.locals) (hcs : cells ≤ R.cells ∧ slots ≤ R.slots) (hw : (rest.map fun v => v.category).sum ≤ 8) (hdg : decode b pc = .ok (.invokevirtual index, 3)) (kk : ∀ (H1 : Heap) (locs1 : List Loc), In E ad V1 s H1 locs1 → W p l e R s m args below meth c H1 locs1 cells slots Q (F0 m (pc + 3) ls ((.int r) :: rest))) : W p l e R s m args below meth c H locs cells slots Q (F0 m pc ls (.int a2 :: .int a1 :: .ref (ad 1) :: rest)) :=
  r_calV (As := [.int a1, .int a2]) (rest := rest) hC hI hsz (m_X6_latestCommonBySets l E ad V a1 a2 r _ hf) cv_X6_latestCommonBySets hl (by decide) (ce_1 _) rfl rfl rfl hR hcs hw hdg kk

theorem dX6_withNeighbours_0 : decode cX6_withNeighbours 0 = .ok (.iload_n 1, 1) := by decide +kernel
theorem dX6_withNeighbours_1 : decode cX6_withNeighbours 1 = .ok (.istore_n 2, 1) := by decide +kernel
theorem dX6_withNeighbours_2 : decode cX6_withNeighbours 2 = .ok (.iconst 0, 1) := by decide +kernel
theorem dX6_withNeighbours_3 : decode cX6_withNeighbours 3 = .ok (.istore_n 3, 1) := by decide +kernel
theorem dX6_withNeighbours_4 : decode cX6_withNeighbours 4 = .ok (.iload_n 3, 1) := by decide +kernel
theorem dX6_withNeighbours_5 : decode cX6_withNeighbours 5 = .ok (.aload_n 0, 1) := by decide +kernel
theorem dX6_withNeighbours_6 : decode cX6_withNeighbours 6 = .ok (.getfield 39, 3) := by decide +kernel
theorem dX6_withNeighbours_9 : decode cX6_withNeighbours 9 = .ok (.if_icmp .ge 43, 3) := by decide +kernel
theorem dX6_withNeighbours_12 : decode cX6_withNeighbours 12 = .ok (.aload_n 0, 1) := by decide +kernel
theorem dX6_withNeighbours_13 : decode cX6_withNeighbours 13 = .ok (.iload_n 3, 1) := by decide +kernel
theorem dX6_withNeighbours_14 : decode cX6_withNeighbours 14 = .ok (.invokevirtual 85, 3) := by decide +kernel
theorem dX6_withNeighbours_17 : decode cX6_withNeighbours 17 = .ok (.istore 4, 2) := by decide +kernel
theorem dX6_withNeighbours_19 : decode cX6_withNeighbours 19 = .ok (.iload_n 1, 1) := by decide +kernel
theorem dX6_withNeighbours_20 : decode cX6_withNeighbours 20 = .ok (.iload_n 3, 1) := by decide +kernel
theorem dX6_withNeighbours_21 : decode cX6_withNeighbours 21 = .ok (.invokestatic 50, 3) := by decide +kernel
theorem dX6_withNeighbours_24 : decode cX6_withNeighbours 24 = .ok (.ifCond .eq 8, 3) := by decide +kernel
theorem dX6_withNeighbours_27 : decode cX6_withNeighbours 27 = .ok (.iload_n 2, 1) := by decide +kernel
theorem dX6_withNeighbours_28 : decode cX6_withNeighbours 28 = .ok (.iload 4, 2) := by decide +kernel
theorem dX6_withNeighbours_30 : decode cX6_withNeighbours 30 = .ok (.ior, 1) := by decide +kernel
theorem dX6_withNeighbours_31 : decode cX6_withNeighbours 31 = .ok (.istore_n 2, 1) := by decide +kernel
theorem dX6_withNeighbours_32 : decode cX6_withNeighbours 32 = .ok (.iload_n 1, 1) := by decide +kernel
theorem dX6_withNeighbours_33 : decode cX6_withNeighbours 33 = .ok (.iload 4, 2) := by decide +kernel
theorem dX6_withNeighbours_35 : decode cX6_withNeighbours 35 = .ok (.iand, 1) := by decide +kernel
theorem dX6_withNeighbours_36 : decode cX6_withNeighbours 36 = .ok (.ifCond .eq 10, 3) := by decide +kernel
theorem dX6_withNeighbours_39 : decode cX6_withNeighbours 39 = .ok (.iload_n 2, 1) := by decide +kernel
theorem dX6_withNeighbours_40 : decode cX6_withNeighbours 40 = .ok (.iload_n 3, 1) := by decide +kernel
theorem dX6_withNeighbours_41 : decode cX6_withNeighbours 41 = .ok (.invokestatic 29, 3) := by decide +kernel
theorem dX6_withNeighbours_44 : decode cX6_withNeighbours 44 = .ok (.ior, 1) := by decide +kernel
theorem dX6_withNeighbours_45 : decode cX6_withNeighbours 45 = .ok (.istore_n 2, 1) := by decide +kernel
theorem dX6_withNeighbours_46 : decode cX6_withNeighbours 46 = .ok (.iinc 3 1, 3) := by decide +kernel
theorem dX6_withNeighbours_49 : decode cX6_withNeighbours 49 = .ok (.goto (-45), 3) := by decide +kernel
theorem dX6_withNeighbours_52 : decode cX6_withNeighbours 52 = .ok (.iload_n 2, 1) := by decide +kernel
theorem dX6_withNeighbours_53 : decode cX6_withNeighbours 53 = .ok (.ireturn, 1) := by decide +kernel
def f_X6_withNeighbours_L4 (a1 : Int32) : Nat → Mem → Int32 → Int32 → Option (Int32 × Mem)
  | 0, _, _, _ => none
  | n4 + 1, V4, x2_4, x3_4 =>
    if (V4 1 1) ≤ x3_4 then
      some (x2_4, V4)
    else
      bd (f_X6_parentSet V4 x3_4) fun r14 V14 =>
      bd (f_X9_contains V14 a1 x3_4) fun r21 V21 =>
      jn (α := Mem → Int32 → Option (Int32 × Mem)) (fun j32 =>
        if r21 = 0 then
          j32 V21 x2_4
        else
          j32 V21 (x2_4 ||| r14)
      ) (fun (V32 : Mem) (x2_32 : Int32) =>
        jn (α := Mem → Int32 → Option (Int32 × Mem)) (fun j46 =>
          if (a1 &&& r14) = 0 then
            j46 V32 x2_32
          else
            bd (f_X9_setOf V32 x3_4) fun r41 V41 =>
            j46 V41 (x2_32 ||| r41)
        ) (fun (V46 : Mem) (x2_46 : Int32) =>
          (f_X6_withNeighbours_L4 a1 n4) V46 x2_46 (x3_4 + 1)
        )
      )
def f_X6_withNeighbours (V : Mem) (a1 : Int32) : Option (Int32 × Mem) :=
  f_X6_withNeighbours_L4 a1 FU V a1 0
theorem cv_X6_withNeighbours : CalV yX6_withNeighbours cX6_withNeighbours 5 (some .int) 1 := ⟨⟨⟨by decide +kernel, by decide +kernel⟩, tw_1_3, tw_4_229, by decide +kernel⟩, tw_4_228, tp_9⟩
set_option maxRecDepth 100000 in
set_option maxHeartbeats 4000000 in
theorem m_X6_withNeighbours (l : Launch) (E : En) (ad : Nat → Nat) (V : Mem) (a1 : Int32) (r : Int32) (Vz : Mem) (hf : f_X6_withNeighbours V a1 = some (r, Vz)) : MR l E ad yX6_withNeighbours cX6_withNeighbours 5 (some .int) 4 [.ref (ad 1), .int a1] V (some (.int r)) Vz := by
  refine ent (E := E) (ad := ad) (V := V) "LetterRepository$Revisions" (by decide +kernel) rfl (Nat.le_of_ble_eq_true rfl) ?_
  intro p e s m below meth c ls hC hI hl
  have hx := hC.1
  have hb := hC.2.1
  have hl : lv_has ls 5 [(0, .ref (ad 1)), (1, .int a1)] := hl
  unfold f_X6_withNeighbours at hf
  refine lv_iload_n hx hb dX6_withNeighbours_0 rfl (lv_at hl 1 rfl) ?_
  refine lv_istore_n (lv' := [(2, .int a1), (0, .ref (ad 1)), (1, .int a1)]) hx hb dX6_withNeighbours_1 rfl hl (Nat.lt_of_lt_of_eq (by decide) rfl) rfl (fun ls hl => ?_)
  refine lv_iconst (v := 0) hx hb dX6_withNeighbours_2 rfl ?_
  refine lv_istore_n (lv' := [(3, .int 0), (2, .int a1), (0, .ref (ad 1)), (1, .int a1)]) hx hb dX6_withNeighbours_3 rfl hl (Nat.lt_of_lt_of_eq (by decide) rfl) rfl (fun ls hl => ?_)
  have L4 : ∀ (n4 : Nat) (V4 : Mem) (x2_4 : Int32) (x3_4 : Int32) (H : Heap) (locs : List Loc) (ls : Array Slot), f_X6_withNeighbours_L4 a1 n4 V4 x2_4 x3_4 = some (r, Vz) → In E ad V4 s H locs → lv_has ls 5 [(0, .ref (ad 1)), (1, .int a1), (2, .int x2_4), (3, .int x3_4)] → W p l e (rmd 4) s m ([.ref (ad 1), .int a1] : List Value).toArray below meth c H locs 0 0 (MQ below (QR E ad (some (.int r)) Vz) ([.ref (ad 1), .int a1] : List Value).toArray s 0 0 (ours E)) (F0 m 4 ls []) := by
    intro n4
    induction n4 with
    | zero => intro V4 x2_4 x3_4 H locs ls hf hI hl; cases hf
    | succ n4 ih4 =>
      intro V4 x2_4 x3_4 H locs ls hf hI hl
      rw [f_X6_withNeighbours_L4.eq_2] at hf
      refine lv_iload_n hx hb dX6_withNeighbours_4 rfl (lv_at hl 3 rfl) ?_
      refine lv_aload_n hx hb dX6_withNeighbours_5 rfl (lv_at hl 0 rfl) ?_
      refine g_1_count hC hI tw_1_77 dX6_withNeighbours_6 ?_
      refine lv_icmp_ge (tgt := 52) hx hb dX6_withNeighbours_9 (by decide) (fun c9 => ?_) (fun c9 => ?_)
      · have hf := gt hf c9
        refine lv_iload_n hx hb dX6_withNeighbours_52 rfl (lv_at hl 2 rfl) ?_
        exact r_iret2 hC hI hf dX6_withNeighbours_53
      · have hf := gf hf c9
        refine lv_aload_n hx hb dX6_withNeighbours_12 rfl (lv_at hl 0 rfl) ?_
        refine lv_iload_n hx hb dX6_withNeighbours_13 rfl (lv_at hl 3 rfl) ?_
        obtain ⟨r14, V14, q14, hf⟩ := gbd hf
        refine k_X6_parentSet hC hI hl.1 q14 tw_2_136 ⟨Nat.le_of_ble_eq_true rfl, Nat.le_of_ble_eq_true rfl⟩ ⟨Nat.le_refl _, Nat.le_refl _⟩ (Nat.le_of_ble_eq_true rfl) dX6_withNeighbours_14 (fun H locs hI => ?_)
        refine lv_istore (lv' := [(4, .int r14), (0, .ref (ad 1)), (1, .int a1), (2, .int x2_4), (3, .int x3_4)]) hx hb dX6_withNeighbours_17 hl (Nat.lt_of_lt_of_eq (by decide) rfl) rfl (fun ls hl => ?_)
        refine lv_iload_n hx hb dX6_withNeighbours_19 rfl (lv_at hl 2 rfl) ?_
        refine lv_iload_n hx hb dX6_withNeighbours_20 rfl (lv_at hl 4 rfl) ?_
        obtain ⟨r21, V21, q21, hf⟩ := gbd hf
        refine kN_X9_contains hC hI hl.1 q21 tw_2_70 ⟨Nat.le_of_ble_eq_true rfl, Nat.le_of_ble_eq_true rfl⟩ ⟨Nat.le_refl _, Nat.le_refl _⟩ (Nat.le_of_ble_eq_true rfl) dX6_withNeighbours_21 (fun H locs hI => ?_)
        obtain ⟨j32, hj32, hf⟩ := gj hf
        have J32 : ∀ (V32 : Mem) (x2_32 : Int32) (H : Heap) (locs : List Loc) (ls : Array Slot), j32 V32 x2_32 = some (r, Vz) → In E ad V32 s H locs → lv_has ls 5 [(0, .ref (ad 1)), (1, .int a1), (2, .int x2_32), (3, .int x3_4), (4, .int r14)] → W p l e (rmd 4) s m ([.ref (ad 1), .int a1] : List Value).toArray below meth c H locs 0 0 (MQ below (QR E ad (some (.int r)) Vz) ([.ref (ad 1), .int a1] : List Value).toArray s 0 0 (ours E)) (F0 m 32 ls []) := by
          intro V32 x2_32 H locs ls hf hI hl
          rw [hj32] at hf
          dsimp only at hf
          refine lv_iload_n hx hb dX6_withNeighbours_32 rfl (lv_at hl 1 rfl) ?_
          refine lv_iload hx hb dX6_withNeighbours_33 (lv_at hl 4 rfl) ?_
          refine lv_iand hx hb dX6_withNeighbours_35 ?_
          obtain ⟨j46, hj46, hf⟩ := gj hf
          have J46 : ∀ (V46 : Mem) (x2_46 : Int32) (H : Heap) (locs : List Loc) (ls : Array Slot), j46 V46 x2_46 = some (r, Vz) → In E ad V46 s H locs → lv_has ls 5 [(0, .ref (ad 1)), (1, .int a1), (2, .int x2_46), (3, .int x3_4)] → W p l e (rmd 4) s m ([.ref (ad 1), .int a1] : List Value).toArray below meth c H locs 0 0 (MQ below (QR E ad (some (.int r)) Vz) ([.ref (ad 1), .int a1] : List Value).toArray s 0 0 (ours E)) (F0 m 46 ls []) := by
            intro V46 x2_46 H locs ls hf hI hl
            rw [hj46] at hf
            dsimp only at hf
            refine lv_iinc (v := (x3_4 + 1)) (lv' := [(3, .int (x3_4 + 1)), (0, .ref (ad 1)), (1, .int a1), (2, .int x2_46)]) hx hb dX6_withNeighbours_46 hl (k := 3) rfl rfl (Nat.lt_of_lt_of_eq (by decide) rfl) rfl (fun ls hl => ?_)
            refine lv_goto (tgt := 4) hx hb dX6_withNeighbours_49 (by decide) ?_
            exact ih4 _ _ _ _ _ _ hf hI (lv_sub hl [1, 2, 3, 0] rfl)
          refine lv_if_eq (tgt := 46) hx hb dX6_withNeighbours_36 (by decide) (fun c36 => ?_) (fun c36 => ?_)
          · have hf := gt hf c36
            exact J46 _ _ _ _ _ hf hI (lv_sub hl [0, 1, 2, 3] rfl)
          · have hf := gf hf c36
            refine lv_iload_n hx hb dX6_withNeighbours_39 rfl (lv_at hl 2 rfl) ?_
            refine lv_iload_n hx hb dX6_withNeighbours_40 rfl (lv_at hl 3 rfl) ?_
            obtain ⟨r41, V41, q41, hf⟩ := gbd hf
            refine kN_X9_setOf hC hI hl.1 q41 tw_1_65 ⟨Nat.le_of_ble_eq_true rfl, Nat.le_of_ble_eq_true rfl⟩ ⟨Nat.le_refl _, Nat.le_refl _⟩ (Nat.le_of_ble_eq_true rfl) dX6_withNeighbours_41 (fun H locs hI => ?_)
            refine lv_ior hx hb dX6_withNeighbours_44 ?_
            refine lv_istore_n (lv' := [(2, .int (x2_32 ||| r41)), (0, .ref (ad 1)), (1, .int a1), (3, .int x3_4), (4, .int r14)]) hx hb dX6_withNeighbours_45 rfl hl (Nat.lt_of_lt_of_eq (by decide) rfl) rfl (fun ls hl => ?_)
            exact J46 _ _ _ _ _ hf hI (lv_sub hl [1, 2, 0, 3] rfl)
        refine lv_if_eq (tgt := 32) hx hb dX6_withNeighbours_24 (by decide) (fun c24 => ?_) (fun c24 => ?_)
        · have hf := gt hf c24
          exact J32 _ _ _ _ _ hf hI (lv_sub hl [1, 2, 3, 4, 0] rfl)
        · have hf := gf hf c24
          refine lv_iload_n hx hb dX6_withNeighbours_27 rfl (lv_at hl 3 rfl) ?_
          refine lv_iload hx hb dX6_withNeighbours_28 (lv_at hl 0 rfl) ?_
          refine lv_ior hx hb dX6_withNeighbours_30 ?_
          refine lv_istore_n (lv' := [(2, .int (x2_4 ||| r14)), (4, .int r14), (0, .ref (ad 1)), (1, .int a1), (3, .int x3_4)]) hx hb dX6_withNeighbours_31 rfl hl (Nat.lt_of_lt_of_eq (by decide) rfl) rfl (fun ls hl => ?_)
          exact J32 _ _ _ _ _ hf hI (lv_sub hl [2, 3, 0, 4, 1] rfl)
  exact L4 _ _ _ _ _ _ _ hf hI (lv_sub hl [2, 3, 1, 0] rfl)
theorem k_X6_withNeighbours {p : Program} {l : Launch} {e : Env} {R : Room} {cells slots : Nat} {s : State} {m : MethodId} {args : Array Value} {below : List Frame} {meth : Method} {c : Code} {H : Heap} {locs : List Loc} {Q : State → Prop} {E : En} {ad : Nat → Nat} {V : Mem} {ow : String} {b : ByteArray} {n : Nat} {ret : Option FieldType} {pc index : Nat} {ls : Array Slot} {rest : List Value} {a1 : Int32} {r : Int32} {V1 : Mem} (hC : Cx p s m args c meth E ow b n ret) (hI : In E ad V s H locs) (hsz : ls.size = n) (hf : f_X6_withNeighbours V a1 = some (r, V1)) (hl : Cond.methodLink ow index yX6_withNeighbours ∈ TB) (hR : 4 + 1 ≤ R.frames ∧ 8 + (5 + 11) + 40 * 4 ≤ R.locals) (hcs : cells ≤ R.cells ∧ slots ≤ R.slots) (hw : (rest.map fun v => v.category).sum ≤ 8) (hdg : decode b pc = .ok (.invokevirtual index, 3)) (kk : ∀ (H1 : Heap) (locs1 : List Loc), In E ad V1 s H1 locs1 → W p l e R s m args below meth c H1 locs1 cells slots Q (F0 m (pc + 3) ls ((.int r) :: rest))) : W p l e R s m args below meth c H locs cells slots Q (F0 m pc ls (.int a1 :: .ref (ad 1) :: rest)) :=
  r_calV (As := [.int a1]) (rest := rest) hC hI hsz (m_X6_withNeighbours l E ad V a1 r _ hf) cv_X6_withNeighbours hl (by decide) (ce_1 _) rfl rfl rfl hR hcs hw hdg kk

theorem dX6_stepsBetween_0 : decode cX6_stepsBetween 0 = .ok (.iload_n 1, 1) := by decide +kernel
theorem dX6_stepsBetween_1 : decode cX6_stepsBetween 1 = .ok (.invokestatic 29, 3) := by decide +kernel
theorem dX6_stepsBetween_4 : decode cX6_stepsBetween 4 = .ok (.istore_n 3, 1) := by decide +kernel
theorem dX6_stepsBetween_5 : decode cX6_stepsBetween 5 = .ok (.iconst 0, 1) := by decide +kernel
theorem dX6_stepsBetween_6 : decode cX6_stepsBetween 6 = .ok (.istore 4, 2) := by decide +kernel
theorem dX6_stepsBetween_8 : decode cX6_stepsBetween 8 = .ok (.iload_n 3, 1) := by decide +kernel
theorem dX6_stepsBetween_9 : decode cX6_stepsBetween 9 = .ok (.iload_n 2, 1) := by decide +kernel
theorem dX6_stepsBetween_10 : decode cX6_stepsBetween 10 = .ok (.invokestatic 50, 3) := by decide +kernel
theorem dX6_stepsBetween_13 : decode cX6_stepsBetween 13 = .ok (.ifCond .ne 22, 3) := by decide +kernel
theorem dX6_stepsBetween_16 : decode cX6_stepsBetween 16 = .ok (.iload 4, 2) := by decide +kernel
theorem dX6_stepsBetween_18 : decode cX6_stepsBetween 18 = .ok (.bipush 24, 2) := by decide +kernel
theorem dX6_stepsBetween_20 : decode cX6_stepsBetween 20 = .ok (.if_icmp .ge 15, 3) := by decide +kernel
theorem dX6_stepsBetween_23 : decode cX6_stepsBetween 23 = .ok (.aload_n 0, 1) := by decide +kernel
theorem dX6_stepsBetween_24 : decode cX6_stepsBetween 24 = .ok (.iload_n 3, 1) := by decide +kernel
theorem dX6_stepsBetween_25 : decode cX6_stepsBetween 25 = .ok (.invokevirtual 92, 3) := by decide +kernel
theorem dX6_stepsBetween_28 : decode cX6_stepsBetween 28 = .ok (.istore_n 3, 1) := by decide +kernel
theorem dX6_stepsBetween_29 : decode cX6_stepsBetween 29 = .ok (.iinc 4 1, 3) := by decide +kernel
theorem dX6_stepsBetween_32 : decode cX6_stepsBetween 32 = .ok (.goto (-24), 3) := by decide +kernel
theorem dX6_stepsBetween_35 : decode cX6_stepsBetween 35 = .ok (.iload 4, 2) := by decide +kernel
theorem dX6_stepsBetween_37 : decode cX6_stepsBetween 37 = .ok (.ireturn, 1) := by decide +kernel
def f_X6_stepsBetween_L8 (a2 : Int32) : Nat → Mem → Int32 → Int32 → Option (Int32 × Mem)
  | 0, _, _, _ => none
  | n8 + 1, V8, x3_8, x4_8 =>
    bd (f_X9_contains V8 x3_8 a2) fun r10 V10 =>
    if r10 = 0 then
      if 24 ≤ x4_8 then
        some (x4_8, V10)
      else
        bd (f_X6_withNeighbours V10 x3_8) fun r25 V25 =>
        (f_X6_stepsBetween_L8 a2 n8) V25 r25 (x4_8 + 1)
    else
      some (x4_8, V10)
def f_X6_stepsBetween (V : Mem) (a1 : Int32) (a2 : Int32) : Option (Int32 × Mem) :=
  bd (f_X9_setOf V a1) fun r1 V1 =>
  f_X6_stepsBetween_L8 a2 FU V1 r1 0
theorem cv_X6_stepsBetween : CalV yX6_stepsBetween cX6_stepsBetween 5 (some .int) 2 := ⟨⟨⟨by decide +kernel, by decide +kernel⟩, tw_1_3, tw_4_225, by decide +kernel⟩, tw_4_223, tw_4_224⟩
set_option maxRecDepth 100000 in
set_option maxHeartbeats 4000000 in
theorem m_X6_stepsBetween (l : Launch) (E : En) (ad : Nat → Nat) (V : Mem) (a1 : Int32) (a2 : Int32) (r : Int32) (Vz : Mem) (hf : f_X6_stepsBetween V a1 a2 = some (r, Vz)) : MR l E ad yX6_stepsBetween cX6_stepsBetween 5 (some .int) 5 [.ref (ad 1), .int a1, .int a2] V (some (.int r)) Vz := by
  refine ent (E := E) (ad := ad) (V := V) "LetterRepository$Revisions" (by decide +kernel) rfl (Nat.le_of_ble_eq_true rfl) ?_
  intro p e s m below meth c ls hC hI hl
  have hx := hC.1
  have hb := hC.2.1
  have hl : lv_has ls 5 [(0, .ref (ad 1)), (1, .int a1), (2, .int a2)] := hl
  unfold f_X6_stepsBetween at hf
  refine lv_iload_n hx hb dX6_stepsBetween_0 rfl (lv_at hl 1 rfl) ?_
  obtain ⟨r1, V1, q1, hf⟩ := gbd hf
  refine kN_X9_setOf hC hI hl.1 q1 tw_1_65 ⟨Nat.le_of_ble_eq_true rfl, Nat.le_of_ble_eq_true rfl⟩ ⟨Nat.le_refl _, Nat.le_refl _⟩ (Nat.le_of_ble_eq_true rfl) dX6_stepsBetween_1 (fun H locs hI => ?_)
  refine lv_istore_n (lv' := [(3, .int r1), (0, .ref (ad 1)), (1, .int a1), (2, .int a2)]) hx hb dX6_stepsBetween_4 rfl hl (Nat.lt_of_lt_of_eq (by decide) rfl) rfl (fun ls hl => ?_)
  refine lv_iconst (v := 0) hx hb dX6_stepsBetween_5 rfl ?_
  refine lv_istore (lv' := [(4, .int 0), (3, .int r1), (0, .ref (ad 1)), (1, .int a1), (2, .int a2)]) hx hb dX6_stepsBetween_6 hl (Nat.lt_of_lt_of_eq (by decide) rfl) rfl (fun ls hl => ?_)
  have L8 : ∀ (n8 : Nat) (V8 : Mem) (x3_8 : Int32) (x4_8 : Int32) (H : Heap) (locs : List Loc) (ls : Array Slot), f_X6_stepsBetween_L8 a2 n8 V8 x3_8 x4_8 = some (r, Vz) → In E ad V8 s H locs → lv_has ls 5 [(0, .ref (ad 1)), (2, .int a2), (3, .int x3_8), (4, .int x4_8)] → W p l e (rmd 5) s m ([.ref (ad 1), .int a1, .int a2] : List Value).toArray below meth c H locs 0 0 (MQ below (QR E ad (some (.int r)) Vz) ([.ref (ad 1), .int a1, .int a2] : List Value).toArray s 0 0 (ours E)) (F0 m 8 ls []) := by
    intro n8
    induction n8 with
    | zero => intro V8 x3_8 x4_8 H locs ls hf hI hl; cases hf
    | succ n8 ih8 =>
      intro V8 x3_8 x4_8 H locs ls hf hI hl
      rw [f_X6_stepsBetween_L8.eq_2] at hf
      refine lv_iload_n hx hb dX6_stepsBetween_8 rfl (lv_at hl 2 rfl) ?_
      refine lv_iload_n hx hb dX6_stepsBetween_9 rfl (lv_at hl 1 rfl) ?_
      obtain ⟨r10, V10, q10, hf⟩ := gbd hf
      refine kN_X9_contains hC hI hl.1 q10 tw_2_70 ⟨Nat.le_of_ble_eq_true rfl, Nat.le_of_ble_eq_true rfl⟩ ⟨Nat.le_refl _, Nat.le_refl _⟩ (Nat.le_of_ble_eq_true rfl) dX6_stepsBetween_10 (fun H locs hI => ?_)
      refine lv_if_ne (tgt := 35) hx hb dX6_stepsBetween_13 (by decide) (fun c13 => ?_) (fun c13 => ?_)
      · have hf := gf hf c13
        refine lv_iload hx hb dX6_stepsBetween_35 (lv_at hl 3 rfl) ?_
        exact r_iret2 hC hI hf dX6_stepsBetween_37
      · have hf := gt hf c13
        refine lv_iload hx hb dX6_stepsBetween_16 (lv_at hl 3 rfl) ?_
        refine lv_bipush (v := 24) hx hb dX6_stepsBetween_18 rfl ?_
        refine lv_icmp_ge (tgt := 35) hx hb dX6_stepsBetween_20 (by decide) (fun c20 => ?_) (fun c20 => ?_)
        · have hf := gt hf c20
          refine lv_iload hx hb dX6_stepsBetween_35 (lv_at hl 3 rfl) ?_
          exact r_iret2 hC hI hf dX6_stepsBetween_37
        · have hf := gf hf c20
          refine lv_aload_n hx hb dX6_stepsBetween_23 rfl (lv_at hl 0 rfl) ?_
          refine lv_iload_n hx hb dX6_stepsBetween_24 rfl (lv_at hl 2 rfl) ?_
          obtain ⟨r25, V25, q25, hf⟩ := gbd hf
          refine k_X6_withNeighbours hC hI hl.1 q25 tw_4_226 ⟨Nat.le_of_ble_eq_true rfl, Nat.le_of_ble_eq_true rfl⟩ ⟨Nat.le_refl _, Nat.le_refl _⟩ (Nat.le_of_ble_eq_true rfl) dX6_stepsBetween_25 (fun H locs hI => ?_)
          refine lv_istore_n (lv' := [(3, .int r25), (0, .ref (ad 1)), (2, .int a2), (4, .int x4_8)]) hx hb dX6_stepsBetween_28 rfl hl (Nat.lt_of_lt_of_eq (by decide) rfl) rfl (fun ls hl => ?_)
          refine lv_iinc (v := (x4_8 + 1)) (lv' := [(4, .int (x4_8 + 1)), (3, .int r25), (0, .ref (ad 1)), (2, .int a2)]) hx hb dX6_stepsBetween_29 hl (k := 3) rfl rfl (Nat.lt_of_lt_of_eq (by decide) rfl) rfl (fun ls hl => ?_)
          refine lv_goto (tgt := 8) hx hb dX6_stepsBetween_32 (by decide) ?_
          exact ih8 _ _ _ _ _ _ hf hI (lv_sub hl [2, 3, 1, 0] rfl)
  exact L8 _ _ _ _ _ _ _ hf hI (lv_sub hl [2, 4, 1, 0] rfl)
theorem k_X6_stepsBetween {p : Program} {l : Launch} {e : Env} {R : Room} {cells slots : Nat} {s : State} {m : MethodId} {args : Array Value} {below : List Frame} {meth : Method} {c : Code} {H : Heap} {locs : List Loc} {Q : State → Prop} {E : En} {ad : Nat → Nat} {V : Mem} {ow : String} {b : ByteArray} {n : Nat} {ret : Option FieldType} {pc index : Nat} {ls : Array Slot} {rest : List Value} {a1 : Int32} {a2 : Int32} {r : Int32} {V1 : Mem} (hC : Cx p s m args c meth E ow b n ret) (hI : In E ad V s H locs) (hsz : ls.size = n) (hf : f_X6_stepsBetween V a1 a2 = some (r, V1)) (hl : Cond.methodLink ow index yX6_stepsBetween ∈ TB) (hR : 5 + 1 ≤ R.frames ∧ 8 + (5 + 11) + 40 * 5 ≤ R.locals) (hcs : cells ≤ R.cells ∧ slots ≤ R.slots) (hw : (rest.map fun v => v.category).sum ≤ 8) (hdg : decode b pc = .ok (.invokevirtual index, 3)) (kk : ∀ (H1 : Heap) (locs1 : List Loc), In E ad V1 s H1 locs1 → W p l e R s m args below meth c H1 locs1 cells slots Q (F0 m (pc + 3) ls ((.int r) :: rest))) : W p l e R s m args below meth c H locs cells slots Q (F0 m pc ls (.int a2 :: .int a1 :: .ref (ad 1) :: rest)) :=
  r_calV (As := [.int a1, .int a2]) (rest := rest) hC hI hsz (m_X6_stepsBetween l E ad V a1 a2 r _ hf) cv_X6_stepsBetween hl (by decide) (ce_1 _) rfl rfl rfl hR hcs hw hdg kk

theorem dX6_differingFields_0 : decode cX6_differingFields 0 = .ok (.iconst 0, 1) := by decide +kernel
theorem dX6_differingFields_1 : decode cX6_differingFields 1 = .ok (.istore_n 3, 1) := by decide +kernel
theorem dX6_differingFields_2 : decode cX6_differingFields 2 = .ok (.iconst 0, 1) := by decide +kernel
theorem dX6_differingFields_3 : decode cX6_differingFields 3 = .ok (.istore 4, 2) := by decide +kernel
theorem dX6_differingFields_5 : decode cX6_differingFields 5 = .ok (.iload 4, 2) := by decide +kernel
theorem dX6_differingFields_7 : decode cX6_differingFields 7 = .ok (.bipush 8, 2) := by decide +kernel
theorem dX6_differingFields_9 : decode cX6_differingFields 9 = .ok (.if_icmp .ge 29, 3) := by decide +kernel
theorem dX6_differingFields_12 : decode cX6_differingFields 12 = .ok (.aload_n 0, 1) := by decide +kernel
theorem dX6_differingFields_13 : decode cX6_differingFields 13 = .ok (.iload_n 1, 1) := by decide +kernel
theorem dX6_differingFields_14 : decode cX6_differingFields 14 = .ok (.iload 4, 2) := by decide +kernel
theorem dX6_differingFields_16 : decode cX6_differingFields 16 = .ok (.invokevirtual 95, 3) := by decide +kernel
theorem dX6_differingFields_19 : decode cX6_differingFields 19 = .ok (.aload_n 0, 1) := by decide +kernel
theorem dX6_differingFields_20 : decode cX6_differingFields 20 = .ok (.iload_n 2, 1) := by decide +kernel
theorem dX6_differingFields_21 : decode cX6_differingFields 21 = .ok (.iload 4, 2) := by decide +kernel
theorem dX6_differingFields_23 : decode cX6_differingFields 23 = .ok (.invokevirtual 95, 3) := by decide +kernel
theorem dX6_differingFields_26 : decode cX6_differingFields 26 = .ok (.if_icmp .eq 6, 3) := by decide +kernel
theorem dX6_differingFields_29 : decode cX6_differingFields 29 = .ok (.iinc 3 1, 3) := by decide +kernel
theorem dX6_differingFields_32 : decode cX6_differingFields 32 = .ok (.iinc 4 1, 3) := by decide +kernel
theorem dX6_differingFields_35 : decode cX6_differingFields 35 = .ok (.goto (-30), 3) := by decide +kernel
theorem dX6_differingFields_38 : decode cX6_differingFields 38 = .ok (.iload_n 3, 1) := by decide +kernel
theorem dX6_differingFields_39 : decode cX6_differingFields 39 = .ok (.ireturn, 1) := by decide +kernel
def f_X6_differingFields_L5 (a1 : Int32) (a2 : Int32) : Nat → Mem → Int32 → Int32 → Option (Int32 × Mem)
  | 0, _, _, _ => none
  | n5 + 1, V5, x3_5, x4_5 =>
    if 8 ≤ x4_5 then
      some (x3_5, V5)
    else
      bd (f_X6_letterOf V5 a1 x4_5) fun r16 V16 =>
      bd (f_X6_letterOf V16 a2 x4_5) fun r23 V23 =>
      jn (α := Mem → Int32 → Option (Int32 × Mem)) (fun j32 =>
        if r16 = r23 then
          j32 V23 x3_5
        else
          j32 V23 (x3_5 + 1)
      ) (fun (V32 : Mem) (x3_32 : Int32) =>
        (f_X6_differingFields_L5 a1 a2 n5) V32 x3_32 (x4_5 + 1)
      )
def f_X6_differingFields (V : Mem) (a1 : Int32) (a2 : Int32) : Option (Int32 × Mem) :=
  f_X6_differingFields_L5 a1 a2 FU V 0 0
theorem cv_X6_differingFields : CalV yX6_differingFields cX6_differingFields 5 (some .int) 2 := ⟨⟨⟨by decide +kernel, by decide +kernel⟩, tw_1_3, tw_5_0, by decide +kernel⟩, tw_4_238, tw_4_239⟩
set_option maxRecDepth 100000 in
set_option maxHeartbeats 4000000 in
theorem m_X6_differingFields (l : Launch) (E : En) (ad : Nat → Nat) (V : Mem) (a1 : Int32) (a2 : Int32) (r : Int32) (Vz : Mem) (hf : f_X6_differingFields V a1 a2 = some (r, Vz)) : MR l E ad yX6_differingFields cX6_differingFields 5 (some .int) 3 [.ref (ad 1), .int a1, .int a2] V (some (.int r)) Vz := by
  refine ent (E := E) (ad := ad) (V := V) "LetterRepository$Revisions" (by decide +kernel) rfl (Nat.le_of_ble_eq_true rfl) ?_
  intro p e s m below meth c ls hC hI hl
  have hx := hC.1
  have hb := hC.2.1
  have hl : lv_has ls 5 [(0, .ref (ad 1)), (1, .int a1), (2, .int a2)] := hl
  unfold f_X6_differingFields at hf
  refine lv_iconst (v := 0) hx hb dX6_differingFields_0 rfl ?_
  refine lv_istore_n (lv' := [(3, .int 0), (0, .ref (ad 1)), (1, .int a1), (2, .int a2)]) hx hb dX6_differingFields_1 rfl hl (Nat.lt_of_lt_of_eq (by decide) rfl) rfl (fun ls hl => ?_)
  refine lv_iconst (v := 0) hx hb dX6_differingFields_2 rfl ?_
  refine lv_istore (lv' := [(4, .int 0), (3, .int 0), (0, .ref (ad 1)), (1, .int a1), (2, .int a2)]) hx hb dX6_differingFields_3 hl (Nat.lt_of_lt_of_eq (by decide) rfl) rfl (fun ls hl => ?_)
  have L5 : ∀ (n5 : Nat) (V5 : Mem) (x3_5 : Int32) (x4_5 : Int32) (H : Heap) (locs : List Loc) (ls : Array Slot), f_X6_differingFields_L5 a1 a2 n5 V5 x3_5 x4_5 = some (r, Vz) → In E ad V5 s H locs → lv_has ls 5 [(0, .ref (ad 1)), (1, .int a1), (2, .int a2), (3, .int x3_5), (4, .int x4_5)] → W p l e (rmd 3) s m ([.ref (ad 1), .int a1, .int a2] : List Value).toArray below meth c H locs 0 0 (MQ below (QR E ad (some (.int r)) Vz) ([.ref (ad 1), .int a1, .int a2] : List Value).toArray s 0 0 (ours E)) (F0 m 5 ls []) := by
    intro n5
    induction n5 with
    | zero => intro V5 x3_5 x4_5 H locs ls hf hI hl; cases hf
    | succ n5 ih5 =>
      intro V5 x3_5 x4_5 H locs ls hf hI hl
      rw [f_X6_differingFields_L5.eq_2] at hf
      refine lv_iload hx hb dX6_differingFields_5 (lv_at hl 4 rfl) ?_
      refine lv_bipush (v := 8) hx hb dX6_differingFields_7 rfl ?_
      refine lv_icmp_ge (tgt := 38) hx hb dX6_differingFields_9 (by decide) (fun c9 => ?_) (fun c9 => ?_)
      · have hf := gt hf c9
        refine lv_iload_n hx hb dX6_differingFields_38 rfl (lv_at hl 3 rfl) ?_
        exact r_iret2 hC hI hf dX6_differingFields_39
      · have hf := gf hf c9
        refine lv_aload_n hx hb dX6_differingFields_12 rfl (lv_at hl 0 rfl) ?_
        refine lv_iload_n hx hb dX6_differingFields_13 rfl (lv_at hl 1 rfl) ?_
        refine lv_iload hx hb dX6_differingFields_14 (lv_at hl 4 rfl) ?_
        obtain ⟨r16, V16, q16, hf⟩ := gbd hf
        refine k_X6_letterOf hC hI hl.1 q16 tw_2_193 ⟨Nat.le_of_ble_eq_true rfl, Nat.le_of_ble_eq_true rfl⟩ ⟨Nat.le_refl _, Nat.le_refl _⟩ (Nat.le_of_ble_eq_true rfl) dX6_differingFields_16 (fun H locs hI => ?_)
        refine lv_aload_n hx hb dX6_differingFields_19 rfl (lv_at hl 0 rfl) ?_
        refine lv_iload_n hx hb dX6_differingFields_20 rfl (lv_at hl 2 rfl) ?_
        refine lv_iload hx hb dX6_differingFields_21 (lv_at hl 4 rfl) ?_
        obtain ⟨r23, V23, q23, hf⟩ := gbd hf
        refine k_X6_letterOf hC hI hl.1 q23 tw_2_193 ⟨Nat.le_of_ble_eq_true rfl, Nat.le_of_ble_eq_true rfl⟩ ⟨Nat.le_refl _, Nat.le_refl _⟩ (Nat.le_of_ble_eq_true rfl) dX6_differingFields_23 (fun H locs hI => ?_)
        obtain ⟨j32, hj32, hf⟩ := gj hf
        have J32 : ∀ (V32 : Mem) (x3_32 : Int32) (H : Heap) (locs : List Loc) (ls : Array Slot), j32 V32 x3_32 = some (r, Vz) → In E ad V32 s H locs → lv_has ls 5 [(0, .ref (ad 1)), (1, .int a1), (2, .int a2), (3, .int x3_32), (4, .int x4_5)] → W p l e (rmd 3) s m ([.ref (ad 1), .int a1, .int a2] : List Value).toArray below meth c H locs 0 0 (MQ below (QR E ad (some (.int r)) Vz) ([.ref (ad 1), .int a1, .int a2] : List Value).toArray s 0 0 (ours E)) (F0 m 32 ls []) := by
          intro V32 x3_32 H locs ls hf hI hl
          rw [hj32] at hf
          dsimp only at hf
          refine lv_iinc (v := (x4_5 + 1)) (lv' := [(4, .int (x4_5 + 1)), (0, .ref (ad 1)), (1, .int a1), (2, .int a2), (3, .int x3_32)]) hx hb dX6_differingFields_32 hl (k := 4) rfl rfl (Nat.lt_of_lt_of_eq (by decide) rfl) rfl (fun ls hl => ?_)
          refine lv_goto (tgt := 5) hx hb dX6_differingFields_35 (by decide) ?_
          exact ih5 _ _ _ _ _ _ hf hI (lv_sub hl [1, 2, 3, 4, 0] rfl)
        refine lv_icmp_eq (tgt := 32) hx hb dX6_differingFields_26 (by decide) (fun c26 => ?_) (fun c26 => ?_)
        · have hf := gt hf c26
          exact J32 _ _ _ _ _ hf hI (lv_sub hl [0, 1, 2, 3, 4] rfl)
        · have hf := gf hf c26
          refine lv_iinc (v := (x3_5 + 1)) (lv' := [(3, .int (x3_5 + 1)), (0, .ref (ad 1)), (1, .int a1), (2, .int a2), (4, .int x4_5)]) hx hb dX6_differingFields_29 hl (k := 3) rfl rfl (Nat.lt_of_lt_of_eq (by decide) rfl) rfl (fun ls hl => ?_)
          exact J32 _ _ _ _ _ hf hI (lv_sub hl [1, 2, 3, 0, 4] rfl)
  exact L5 _ _ _ _ _ _ _ hf hI (lv_sub hl [2, 3, 4, 1, 0] rfl)
theorem k_X6_differingFields {p : Program} {l : Launch} {e : Env} {R : Room} {cells slots : Nat} {s : State} {m : MethodId} {args : Array Value} {below : List Frame} {meth : Method} {c : Code} {H : Heap} {locs : List Loc} {Q : State → Prop} {E : En} {ad : Nat → Nat} {V : Mem} {ow : String} {b : ByteArray} {n : Nat} {ret : Option FieldType} {pc index : Nat} {ls : Array Slot} {rest : List Value} {a1 : Int32} {a2 : Int32} {r : Int32} {V1 : Mem} (hC : Cx p s m args c meth E ow b n ret) (hI : In E ad V s H locs) (hsz : ls.size = n) (hf : f_X6_differingFields V a1 a2 = some (r, V1)) (hl : Cond.methodLink ow index yX6_differingFields ∈ TB) (hR : 3 + 1 ≤ R.frames ∧ 8 + (5 + 11) + 40 * 3 ≤ R.locals) (hcs : cells ≤ R.cells ∧ slots ≤ R.slots) (hw : (rest.map fun v => v.category).sum ≤ 8) (hdg : decode b pc = .ok (.invokevirtual index, 3)) (kk : ∀ (H1 : Heap) (locs1 : List Loc), In E ad V1 s H1 locs1 → W p l e R s m args below meth c H1 locs1 cells slots Q (F0 m (pc + 3) ls ((.int r) :: rest))) : W p l e R s m args below meth c H locs cells slots Q (F0 m pc ls (.int a2 :: .int a1 :: .ref (ad 1) :: rest)) :=
  r_calV (As := [.int a1, .int a2]) (rest := rest) hC hI hsz (m_X6_differingFields l E ad V a1 a2 r _ hf) cv_X6_differingFields hl (by decide) (ce_1 _) rfl rfl rfl hR hcs hw hdg kk

theorem dX6_inherits_0 : decode cX6_inherits 0 = .ok (.aload_n 0, 1) := by decide +kernel
theorem dX6_inherits_1 : decode cX6_inherits 1 = .ok (.iload_n 1, 1) := by decide +kernel
theorem dX6_inherits_2 : decode cX6_inherits 2 = .ok (.invokevirtual 79, 3) := by decide +kernel
theorem dX6_inherits_5 : decode cX6_inherits 5 = .ok (.istore_n 3, 1) := by decide +kernel
theorem dX6_inherits_6 : decode cX6_inherits 6 = .ok (.iload_n 3, 1) := by decide +kernel
theorem dX6_inherits_7 : decode cX6_inherits 7 = .ok (.iconst (-1), 1) := by decide +kernel
theorem dX6_inherits_8 : decode cX6_inherits 8 = .ok (.if_icmp .eq 22, 3) := by decide +kernel
theorem dX6_inherits_11 : decode cX6_inherits 11 = .ok (.aload_n 0, 1) := by decide +kernel
theorem dX6_inherits_12 : decode cX6_inherits 12 = .ok (.iload_n 3, 1) := by decide +kernel
theorem dX6_inherits_13 : decode cX6_inherits 13 = .ok (.iload_n 2, 1) := by decide +kernel
theorem dX6_inherits_14 : decode cX6_inherits 14 = .ok (.invokevirtual 95, 3) := by decide +kernel
theorem dX6_inherits_17 : decode cX6_inherits 17 = .ok (.aload_n 0, 1) := by decide +kernel
theorem dX6_inherits_18 : decode cX6_inherits 18 = .ok (.iload_n 1, 1) := by decide +kernel
theorem dX6_inherits_19 : decode cX6_inherits 19 = .ok (.iload_n 2, 1) := by decide +kernel
theorem dX6_inherits_20 : decode cX6_inherits 20 = .ok (.invokevirtual 95, 3) := by decide +kernel
theorem dX6_inherits_23 : decode cX6_inherits 23 = .ok (.if_icmp .ne 7, 3) := by decide +kernel
theorem dX6_inherits_26 : decode cX6_inherits 26 = .ok (.iconst 1, 1) := by decide +kernel
theorem dX6_inherits_27 : decode cX6_inherits 27 = .ok (.goto 4, 3) := by decide +kernel
theorem dX6_inherits_30 : decode cX6_inherits 30 = .ok (.iconst 0, 1) := by decide +kernel
theorem dX6_inherits_31 : decode cX6_inherits 31 = .ok (.ireturn, 1) := by decide +kernel
def f_X6_inherits (V : Mem) (a1 : Int32) (a2 : Int32) : Option (Int32 × Mem) :=
  bd (f_X6_firstParentOf V a1) fun r2 V2 =>
  if r2 = (-1) then
    some (0, V2)
  else
    bd (f_X6_letterOf V2 r2 a2) fun r14 V14 =>
    bd (f_X6_letterOf V14 a1 a2) fun r20 V20 =>
    if r14 = r20 then
      some (1, V20)
    else
      some (0, V20)
theorem cv_X6_inherits : CalV yX6_inherits cX6_inherits 4 (some .boolean) 2 := ⟨⟨⟨by decide +kernel, by decide +kernel⟩, tw_1_3, tw_2_192, by decide +kernel⟩, tw_2_191, tp_2⟩
set_option maxRecDepth 100000 in
set_option maxHeartbeats 4000000 in
theorem m_X6_inherits (l : Launch) (E : En) (ad : Nat → Nat) (V : Mem) (a1 : Int32) (a2 : Int32) (r : Int32) (Vz : Mem) (hf : f_X6_inherits V a1 a2 = some (r, Vz)) : MR l E ad yX6_inherits cX6_inherits 4 (some .boolean) 3 [.ref (ad 1), .int a1, .int a2] V (some (.int r)) Vz := by
  refine ent (E := E) (ad := ad) (V := V) "LetterRepository$Revisions" (by decide +kernel) rfl (Nat.le_of_ble_eq_true rfl) ?_
  intro p e s m below meth c ls hC hI hl
  have hx := hC.1
  have hb := hC.2.1
  have hl : lv_has ls 4 [(0, .ref (ad 1)), (1, .int a1), (2, .int a2)] := hl
  unfold f_X6_inherits at hf
  refine lv_aload_n hx hb dX6_inherits_0 rfl (lv_at hl 0 rfl) ?_
  refine lv_iload_n hx hb dX6_inherits_1 rfl (lv_at hl 1 rfl) ?_
  obtain ⟨r2, V2, q2, hf⟩ := gbd hf
  refine k_X6_firstParentOf hC hI hl.1 q2 tw_2_74 ⟨Nat.le_of_ble_eq_true rfl, Nat.le_of_ble_eq_true rfl⟩ ⟨Nat.le_refl _, Nat.le_refl _⟩ (Nat.le_of_ble_eq_true rfl) dX6_inherits_2 (fun H locs hI => ?_)
  refine lv_istore_n (lv' := [(3, .int r2), (0, .ref (ad 1)), (1, .int a1), (2, .int a2)]) hx hb dX6_inherits_5 rfl hl (Nat.lt_of_lt_of_eq (by decide) rfl) rfl (fun ls hl => ?_)
  refine lv_iload_n hx hb dX6_inherits_6 rfl (lv_at hl 0 rfl) ?_
  refine lv_iconst (v := (-1)) hx hb dX6_inherits_7 rfl ?_
  refine lv_icmp_eq (tgt := 30) hx hb dX6_inherits_8 (by decide) (fun c8 => ?_) (fun c8 => ?_)
  · have hf := gt hf c8
    refine lv_iconst (v := 0) hx hb dX6_inherits_30 rfl ?_
    exact r_zret2 hC hI (.inl rfl) hf dX6_inherits_31
  · have hf := gf hf c8
    refine lv_aload_n hx hb dX6_inherits_11 rfl (lv_at hl 1 rfl) ?_
    refine lv_iload_n hx hb dX6_inherits_12 rfl (lv_at hl 0 rfl) ?_
    refine lv_iload_n hx hb dX6_inherits_13 rfl (lv_at hl 3 rfl) ?_
    obtain ⟨r14, V14, q14, hf⟩ := gbd hf
    refine k_X6_letterOf hC hI hl.1 q14 tw_2_193 ⟨Nat.le_of_ble_eq_true rfl, Nat.le_of_ble_eq_true rfl⟩ ⟨Nat.le_refl _, Nat.le_refl _⟩ (Nat.le_of_ble_eq_true rfl) dX6_inherits_14 (fun H locs hI => ?_)
    refine lv_aload_n hx hb dX6_inherits_17 rfl (lv_at hl 1 rfl) ?_
    refine lv_iload_n hx hb dX6_inherits_18 rfl (lv_at hl 2 rfl) ?_
    refine lv_iload_n hx hb dX6_inherits_19 rfl (lv_at hl 3 rfl) ?_
    obtain ⟨r20, V20, q20, hf⟩ := gbd hf
    refine k_X6_letterOf hC hI hl.1 q20 tw_2_193 ⟨Nat.le_of_ble_eq_true rfl, Nat.le_of_ble_eq_true rfl⟩ ⟨Nat.le_refl _, Nat.le_refl _⟩ (Nat.le_of_ble_eq_true rfl) dX6_inherits_20 (fun H locs hI => ?_)
    refine lv_icmp_ne (tgt := 30) hx hb dX6_inherits_23 (by decide) (fun c23 => ?_) (fun c23 => ?_)
    · have hf := gf hf c23
      refine lv_iconst (v := 0) hx hb dX6_inherits_30 rfl ?_
      exact r_zret2 hC hI (.inl rfl) hf dX6_inherits_31
    · have hf := gt hf c23
      refine lv_iconst (v := 1) hx hb dX6_inherits_26 rfl ?_
      refine lv_goto (tgt := 31) hx hb dX6_inherits_27 (by decide) ?_
      exact r_zret2 hC hI (.inr rfl) hf dX6_inherits_31
theorem k_X6_inherits {p : Program} {l : Launch} {e : Env} {R : Room} {cells slots : Nat} {s : State} {m : MethodId} {args : Array Value} {below : List Frame} {meth : Method} {c : Code} {H : Heap} {locs : List Loc} {Q : State → Prop} {E : En} {ad : Nat → Nat} {V : Mem} {ow : String} {b : ByteArray} {n : Nat} {ret : Option FieldType} {pc index : Nat} {ls : Array Slot} {rest : List Value} {a1 : Int32} {a2 : Int32} {r : Int32} {V1 : Mem} (hC : Cx p s m args c meth E ow b n ret) (hI : In E ad V s H locs) (hsz : ls.size = n) (hf : f_X6_inherits V a1 a2 = some (r, V1)) (hl : Cond.methodLink ow index yX6_inherits ∈ TB) (hR : 3 + 1 ≤ R.frames ∧ 8 + (4 + 11) + 40 * 3 ≤ R.locals) (hcs : cells ≤ R.cells ∧ slots ≤ R.slots) (hw : (rest.map fun v => v.category).sum ≤ 8) (hdg : decode b pc = .ok (.invokevirtual index, 3)) (kk : ∀ (H1 : Heap) (locs1 : List Loc), In E ad V1 s H1 locs1 → W p l e R s m args below meth c H1 locs1 cells slots Q (F0 m (pc + 3) ls ((.int r) :: rest))) : W p l e R s m args below meth c H locs cells slots Q (F0 m pc ls (.int a2 :: .int a1 :: .ref (ad 1) :: rest)) :=
  r_calV (As := [.int a1, .int a2]) (rest := rest) hC hI hsz (m_X6_inherits l E ad V a1 a2 r _ hf) cv_X6_inherits hl (by decide) (ce_1 _) rfl rfl rfl hR hcs hw hdg kk

theorem dX6_sourceOf_0 : decode cX6_sourceOf 0 = .ok (.iload_n 1, 1) := by decide +kernel
theorem dX6_sourceOf_1 : decode cX6_sourceOf 1 = .ok (.istore_n 3, 1) := by decide +kernel
theorem dX6_sourceOf_2 : decode cX6_sourceOf 2 = .ok (.iconst 0, 1) := by decide +kernel
theorem dX6_sourceOf_3 : decode cX6_sourceOf 3 = .ok (.istore 4, 2) := by decide +kernel
theorem dX6_sourceOf_5 : decode cX6_sourceOf 5 = .ok (.iload 4, 2) := by decide +kernel
theorem dX6_sourceOf_7 : decode cX6_sourceOf 7 = .ok (.bipush 24, 2) := by decide +kernel
theorem dX6_sourceOf_9 : decode cX6_sourceOf 9 = .ok (.if_icmp .ge 24, 3) := by decide +kernel
theorem dX6_sourceOf_12 : decode cX6_sourceOf 12 = .ok (.aload_n 0, 1) := by decide +kernel
theorem dX6_sourceOf_13 : decode cX6_sourceOf 13 = .ok (.iload_n 3, 1) := by decide +kernel
theorem dX6_sourceOf_14 : decode cX6_sourceOf 14 = .ok (.iload_n 2, 1) := by decide +kernel
theorem dX6_sourceOf_15 : decode cX6_sourceOf 15 = .ok (.invokevirtual 98, 3) := by decide +kernel
theorem dX6_sourceOf_18 : decode cX6_sourceOf 18 = .ok (.ifCond .eq 15, 3) := by decide +kernel
theorem dX6_sourceOf_21 : decode cX6_sourceOf 21 = .ok (.aload_n 0, 1) := by decide +kernel
theorem dX6_sourceOf_22 : decode cX6_sourceOf 22 = .ok (.iload_n 3, 1) := by decide +kernel
theorem dX6_sourceOf_23 : decode cX6_sourceOf 23 = .ok (.invokevirtual 79, 3) := by decide +kernel
theorem dX6_sourceOf_26 : decode cX6_sourceOf 26 = .ok (.istore_n 3, 1) := by decide +kernel
theorem dX6_sourceOf_27 : decode cX6_sourceOf 27 = .ok (.iinc 4 1, 3) := by decide +kernel
theorem dX6_sourceOf_30 : decode cX6_sourceOf 30 = .ok (.goto (-25), 3) := by decide +kernel
theorem dX6_sourceOf_33 : decode cX6_sourceOf 33 = .ok (.iload_n 3, 1) := by decide +kernel
theorem dX6_sourceOf_34 : decode cX6_sourceOf 34 = .ok (.ireturn, 1) := by decide +kernel
def f_X6_sourceOf_L5 (a2 : Int32) : Nat → Mem → Int32 → Int32 → Option (Int32 × Mem)
  | 0, _, _, _ => none
  | n5 + 1, V5, x3_5, x4_5 =>
    if 24 ≤ x4_5 then
      some (x3_5, V5)
    else
      bd (f_X6_inherits V5 x3_5 a2) fun r15 V15 =>
      if r15 = 0 then
        some (x3_5, V15)
      else
        bd (f_X6_firstParentOf V15 x3_5) fun r23 V23 =>
        (f_X6_sourceOf_L5 a2 n5) V23 r23 (x4_5 + 1)
def f_X6_sourceOf (V : Mem) (a1 : Int32) (a2 : Int32) : Option (Int32 × Mem) :=
  f_X6_sourceOf_L5 a2 FU V a1 0
theorem cv_X6_sourceOf : CalV yX6_sourceOf cX6_sourceOf 5 (some .int) 2 := ⟨⟨⟨by decide +kernel, by decide +kernel⟩, tw_1_3, tw_2_188, by decide +kernel⟩, tw_2_186, tw_2_187⟩
set_option maxRecDepth 100000 in
set_option maxHeartbeats 4000000 in
theorem m_X6_sourceOf (l : Launch) (E : En) (ad : Nat → Nat) (V : Mem) (a1 : Int32) (a2 : Int32) (r : Int32) (Vz : Mem) (hf : f_X6_sourceOf V a1 a2 = some (r, Vz)) : MR l E ad yX6_sourceOf cX6_sourceOf 5 (some .int) 4 [.ref (ad 1), .int a1, .int a2] V (some (.int r)) Vz := by
  refine ent (E := E) (ad := ad) (V := V) "LetterRepository$Revisions" (by decide +kernel) rfl (Nat.le_of_ble_eq_true rfl) ?_
  intro p e s m below meth c ls hC hI hl
  have hx := hC.1
  have hb := hC.2.1
  have hl : lv_has ls 5 [(0, .ref (ad 1)), (1, .int a1), (2, .int a2)] := hl
  unfold f_X6_sourceOf at hf
  refine lv_iload_n hx hb dX6_sourceOf_0 rfl (lv_at hl 1 rfl) ?_
  refine lv_istore_n (lv' := [(3, .int a1), (0, .ref (ad 1)), (1, .int a1), (2, .int a2)]) hx hb dX6_sourceOf_1 rfl hl (Nat.lt_of_lt_of_eq (by decide) rfl) rfl (fun ls hl => ?_)
  refine lv_iconst (v := 0) hx hb dX6_sourceOf_2 rfl ?_
  refine lv_istore (lv' := [(4, .int 0), (3, .int a1), (0, .ref (ad 1)), (1, .int a1), (2, .int a2)]) hx hb dX6_sourceOf_3 hl (Nat.lt_of_lt_of_eq (by decide) rfl) rfl (fun ls hl => ?_)
  have L5 : ∀ (n5 : Nat) (V5 : Mem) (x3_5 : Int32) (x4_5 : Int32) (H : Heap) (locs : List Loc) (ls : Array Slot), f_X6_sourceOf_L5 a2 n5 V5 x3_5 x4_5 = some (r, Vz) → In E ad V5 s H locs → lv_has ls 5 [(0, .ref (ad 1)), (2, .int a2), (3, .int x3_5), (4, .int x4_5)] → W p l e (rmd 4) s m ([.ref (ad 1), .int a1, .int a2] : List Value).toArray below meth c H locs 0 0 (MQ below (QR E ad (some (.int r)) Vz) ([.ref (ad 1), .int a1, .int a2] : List Value).toArray s 0 0 (ours E)) (F0 m 5 ls []) := by
    intro n5
    induction n5 with
    | zero => intro V5 x3_5 x4_5 H locs ls hf hI hl; cases hf
    | succ n5 ih5 =>
      intro V5 x3_5 x4_5 H locs ls hf hI hl
      rw [f_X6_sourceOf_L5.eq_2] at hf
      refine lv_iload hx hb dX6_sourceOf_5 (lv_at hl 3 rfl) ?_
      refine lv_bipush (v := 24) hx hb dX6_sourceOf_7 rfl ?_
      refine lv_icmp_ge (tgt := 33) hx hb dX6_sourceOf_9 (by decide) (fun c9 => ?_) (fun c9 => ?_)
      · have hf := gt hf c9
        refine lv_iload_n hx hb dX6_sourceOf_33 rfl (lv_at hl 2 rfl) ?_
        exact r_iret2 hC hI hf dX6_sourceOf_34
      · have hf := gf hf c9
        refine lv_aload_n hx hb dX6_sourceOf_12 rfl (lv_at hl 0 rfl) ?_
        refine lv_iload_n hx hb dX6_sourceOf_13 rfl (lv_at hl 2 rfl) ?_
        refine lv_iload_n hx hb dX6_sourceOf_14 rfl (lv_at hl 1 rfl) ?_
        obtain ⟨r15, V15, q15, hf⟩ := gbd hf
        refine k_X6_inherits hC hI hl.1 q15 tw_2_189 ⟨Nat.le_of_ble_eq_true rfl, Nat.le_of_ble_eq_true rfl⟩ ⟨Nat.le_refl _, Nat.le_refl _⟩ (Nat.le_of_ble_eq_true rfl) dX6_sourceOf_15 (fun H locs hI => ?_)
        refine lv_if_eq (tgt := 33) hx hb dX6_sourceOf_18 (by decide) (fun c18 => ?_) (fun c18 => ?_)
        · have hf := gt hf c18
          refine lv_iload_n hx hb dX6_sourceOf_33 rfl (lv_at hl 2 rfl) ?_
          exact r_iret2 hC hI hf dX6_sourceOf_34
        · have hf := gf hf c18
          refine lv_aload_n hx hb dX6_sourceOf_21 rfl (lv_at hl 0 rfl) ?_
          refine lv_iload_n hx hb dX6_sourceOf_22 rfl (lv_at hl 2 rfl) ?_
          obtain ⟨r23, V23, q23, hf⟩ := gbd hf
          refine k_X6_firstParentOf hC hI hl.1 q23 tw_2_74 ⟨Nat.le_of_ble_eq_true rfl, Nat.le_of_ble_eq_true rfl⟩ ⟨Nat.le_refl _, Nat.le_refl _⟩ (Nat.le_of_ble_eq_true rfl) dX6_sourceOf_23 (fun H locs hI => ?_)
          refine lv_istore_n (lv' := [(3, .int r23), (0, .ref (ad 1)), (2, .int a2), (4, .int x4_5)]) hx hb dX6_sourceOf_26 rfl hl (Nat.lt_of_lt_of_eq (by decide) rfl) rfl (fun ls hl => ?_)
          refine lv_iinc (v := (x4_5 + 1)) (lv' := [(4, .int (x4_5 + 1)), (3, .int r23), (0, .ref (ad 1)), (2, .int a2)]) hx hb dX6_sourceOf_27 hl (k := 3) rfl rfl (Nat.lt_of_lt_of_eq (by decide) rfl) rfl (fun ls hl => ?_)
          refine lv_goto (tgt := 5) hx hb dX6_sourceOf_30 (by decide) ?_
          exact ih5 _ _ _ _ _ _ hf hI (lv_sub hl [2, 3, 1, 0] rfl)
  exact L5 _ _ _ _ _ _ _ hf hI (lv_sub hl [2, 4, 1, 0] rfl)
theorem k_X6_sourceOf {p : Program} {l : Launch} {e : Env} {R : Room} {cells slots : Nat} {s : State} {m : MethodId} {args : Array Value} {below : List Frame} {meth : Method} {c : Code} {H : Heap} {locs : List Loc} {Q : State → Prop} {E : En} {ad : Nat → Nat} {V : Mem} {ow : String} {b : ByteArray} {n : Nat} {ret : Option FieldType} {pc index : Nat} {ls : Array Slot} {rest : List Value} {a1 : Int32} {a2 : Int32} {r : Int32} {V1 : Mem} (hC : Cx p s m args c meth E ow b n ret) (hI : In E ad V s H locs) (hsz : ls.size = n) (hf : f_X6_sourceOf V a1 a2 = some (r, V1)) (hl : Cond.methodLink ow index yX6_sourceOf ∈ TB) (hR : 4 + 1 ≤ R.frames ∧ 8 + (5 + 11) + 40 * 4 ≤ R.locals) (hcs : cells ≤ R.cells ∧ slots ≤ R.slots) (hw : (rest.map fun v => v.category).sum ≤ 8) (hdg : decode b pc = .ok (.invokevirtual index, 3)) (kk : ∀ (H1 : Heap) (locs1 : List Loc), In E ad V1 s H1 locs1 → W p l e R s m args below meth c H1 locs1 cells slots Q (F0 m (pc + 3) ls ((.int r) :: rest))) : W p l e R s m args below meth c H locs cells slots Q (F0 m pc ls (.int a2 :: .int a1 :: .ref (ad 1) :: rest)) :=
  r_calV (As := [.int a1, .int a2]) (rest := rest) hC hI hsz (m_X6_sourceOf l E ad V a1 a2 r _ hf) cv_X6_sourceOf hl (by decide) (ce_1 _) rfl rfl rfl hR hcs hw hdg kk

theorem dX6_sourceByRecursion_0 : decode cX6_sourceByRecursion 0 = .ok (.iload_n 3, 1) := by decide +kernel
theorem dX6_sourceByRecursion_1 : decode cX6_sourceByRecursion 1 = .ok (.bipush 24, 2) := by decide +kernel
theorem dX6_sourceByRecursion_3 : decode cX6_sourceByRecursion 3 = .ok (.if_icmp .ge 12, 3) := by decide +kernel
theorem dX6_sourceByRecursion_6 : decode cX6_sourceByRecursion 6 = .ok (.aload_n 0, 1) := by decide +kernel
theorem dX6_sourceByRecursion_7 : decode cX6_sourceByRecursion 7 = .ok (.iload_n 1, 1) := by decide +kernel
theorem dX6_sourceByRecursion_8 : decode cX6_sourceByRecursion 8 = .ok (.iload_n 2, 1) := by decide +kernel
theorem dX6_sourceByRecursion_9 : decode cX6_sourceByRecursion 9 = .ok (.invokevirtual 98, 3) := by decide +kernel
theorem dX6_sourceByRecursion_12 : decode cX6_sourceByRecursion 12 = .ok (.ifCond .ne 5, 3) := by decide +kernel
theorem dX6_sourceByRecursion_15 : decode cX6_sourceByRecursion 15 = .ok (.iload_n 1, 1) := by decide +kernel
theorem dX6_sourceByRecursion_16 : decode cX6_sourceByRecursion 16 = .ok (.ireturn, 1) := by decide +kernel
theorem dX6_sourceByRecursion_17 : decode cX6_sourceByRecursion 17 = .ok (.aload_n 0, 1) := by decide +kernel
theorem dX6_sourceByRecursion_18 : decode cX6_sourceByRecursion 18 = .ok (.aload_n 0, 1) := by decide +kernel
theorem dX6_sourceByRecursion_19 : decode cX6_sourceByRecursion 19 = .ok (.iload_n 1, 1) := by decide +kernel
theorem dX6_sourceByRecursion_20 : decode cX6_sourceByRecursion 20 = .ok (.invokevirtual 79, 3) := by decide +kernel
theorem dX6_sourceByRecursion_23 : decode cX6_sourceByRecursion 23 = .ok (.iload_n 2, 1) := by decide +kernel
theorem dX6_sourceByRecursion_24 : decode cX6_sourceByRecursion 24 = .ok (.iload_n 3, 1) := by decide +kernel
theorem dX6_sourceByRecursion_25 : decode cX6_sourceByRecursion 25 = .ok (.iconst 1, 1) := by decide +kernel
theorem dX6_sourceByRecursion_26 : decode cX6_sourceByRecursion 26 = .ok (.iadd, 1) := by decide +kernel
theorem dX6_sourceByRecursion_27 : decode cX6_sourceByRecursion 27 = .ok (.invokestatic 101, 3) := by decide +kernel
theorem dX6_sourceByRecursion_30 : decode cX6_sourceByRecursion 30 = .ok (.ireturn, 1) := by decide +kernel
def f_X6_sourceByRecursion_R : Nat → Mem → Int32 → Int32 → Int32 → Option (Int32 × Mem)
  | 0, _, _, _, _ => none
  | n0 + 1, V, a1, a2, a3 =>
    if 24 ≤ a3 then
      some (a1, V)
    else
      bd (f_X6_inherits V a1 a2) fun r9 V9 =>
      if r9 = 0 then
        some (a1, V9)
      else
        bd (f_X6_firstParentOf V9 a1) fun r20 V20 =>
        bd (f_X6_sourceByRecursion_R n0 V20 r20 a2 (a3 + 1)) fun r27 V27 =>
        some (r27, V27)
def f_X6_sourceByRecursion (V : Mem) (a1 : Int32) (a2 : Int32) (a3 : Int32) : Option (Int32 × Mem) := f_X6_sourceByRecursion_R 26 V a1 a2 a3
theorem cv_X6_sourceByRecursion : CalS yX6_sourceByRecursion cX6_sourceByRecursion 4 (some .int) 4 := ⟨⟨⟨by decide +kernel, by decide +kernel⟩, tw_1_3, tw_2_199, by decide +kernel⟩, tw_2_198⟩
theorem kr_X6_sourceByRecursion {p : Program} {l : Launch} {e : Env} {R : Room} {cells slots : Nat} {s : State} {m : MethodId} {args : Array Value} {below : List Frame} {meth : Method} {c : Code} {H : Heap} {locs : List Loc} {Q : State → Prop} {E : En} {ad : Nat → Nat} {V : Mem} {ow : String} {b : ByteArray} {n d1 : Nat} {ret : Option FieldType} {pc index : Nat} {ls : Array Slot} {rest : List Value} {a1 : Int32} {a2 : Int32} {a3 : Int32} {r : Int32} {V1 : Mem} (hM : MR l E ad yX6_sourceByRecursion cX6_sourceByRecursion 4 (some .int) d1 [.ref (ad 1), .int a1, .int a2, .int a3] V (some (.int r)) V1) (hC : Cx p s m args c meth E ow b n ret) (hI : In E ad V s H locs) (hsz : ls.size = n) (hl : Cond.methodLink ow index yX6_sourceByRecursion ∈ TB) (hR : d1 + 1 ≤ R.frames ∧ 8 + (4 + 11) + 40 * d1 ≤ R.locals) (hcs : cells ≤ R.cells ∧ slots ≤ R.slots) (hw : (rest.map fun v => v.category).sum ≤ 8) (hdg : decode b pc = .ok (.invokestatic index, 3)) (kk : ∀ (H1 : Heap) (locs1 : List Loc), In E ad V1 s H1 locs1 → W p l e R s m args below meth c H1 locs1 cells slots Q (F0 m (pc + 3) ls ((.int r) :: rest))) : W p l e R s m args below meth c H locs cells slots Q (F0 m pc ls (.int a3 :: .int a2 :: .int a1 :: .ref (ad 1) :: rest)) :=
  r_calS (As := [.ref (ad 1), .int a1, .int a2, .int a3]) (rest := rest) hC hI hsz hM cv_X6_sourceByRecursion hl rfl rfl hR hcs hw hdg kk
set_option maxRecDepth 100000 in
set_option maxHeartbeats 4000000 in
theorem m_X6_sourceByRecursion_R (l : Launch) (E : En) (ad : Nat → Nat) : ∀ (n0 : Nat) (V : Mem) (a1 : Int32) (a2 : Int32) (a3 : Int32) (r : Int32) (Vz : Mem), f_X6_sourceByRecursion_R n0 V a1 a2 a3 = some (r, Vz) → MR l E ad yX6_sourceByRecursion cX6_sourceByRecursion 4 (some .int) (4 + n0) [.ref (ad 1), .int a1, .int a2, .int a3] V (some (.int r)) Vz := by
  intro n0
  induction n0 with
  | zero => intro V a1 a2 a3 r Vz hf; cases hf
  | succ n0 ih0 =>
    intro V a1 a2 a3 r Vz hf
    refine ent (E := E) (ad := ad) (V := V) "LetterRepository$Revisions" (by decide +kernel) rfl (Nat.le_of_ble_eq_true rfl) ?_
    intro p e s m below meth c ls hC hI hl
    have hx := hC.1
    have hb := hC.2.1
    have hl : lv_has ls 4 [(0, .ref (ad 1)), (1, .int a1), (2, .int a2), (3, .int a3)] := hl
    rw [f_X6_sourceByRecursion_R.eq_2] at hf
    refine lv_iload_n hx hb dX6_sourceByRecursion_0 rfl (lv_at hl 3 rfl) ?_
    refine lv_bipush (v := 24) hx hb dX6_sourceByRecursion_1 rfl ?_
    refine lv_icmp_ge (tgt := 15) hx hb dX6_sourceByRecursion_3 (by decide) (fun c3 => ?_) (fun c3 => ?_)
    · have hf := gt hf c3
      refine lv_iload_n hx hb dX6_sourceByRecursion_15 rfl (lv_at hl 1 rfl) ?_
      exact r_iret2 hC hI hf dX6_sourceByRecursion_16
    · have hf := gf hf c3
      refine lv_aload_n hx hb dX6_sourceByRecursion_6 rfl (lv_at hl 0 rfl) ?_
      refine lv_iload_n hx hb dX6_sourceByRecursion_7 rfl (lv_at hl 1 rfl) ?_
      refine lv_iload_n hx hb dX6_sourceByRecursion_8 rfl (lv_at hl 2 rfl) ?_
      obtain ⟨r9, V9, q9, hf⟩ := gbd hf
      refine k_X6_inherits hC hI hl.1 q9 tw_2_189 (rm_ok (by omega) (by omega)) ⟨Nat.le_refl _, Nat.le_refl _⟩ (Nat.le_of_ble_eq_true rfl) dX6_sourceByRecursion_9 (fun H locs hI => ?_)
      refine lv_if_ne (tgt := 17) hx hb dX6_sourceByRecursion_12 (by decide) (fun c12 => ?_) (fun c12 => ?_)
      · have hf := gf hf c12
        refine lv_aload_n hx hb dX6_sourceByRecursion_17 rfl (lv_at hl 0 rfl) ?_
        refine lv_aload_n hx hb dX6_sourceByRecursion_18 rfl (lv_at hl 0 rfl) ?_
        refine lv_iload_n hx hb dX6_sourceByRecursion_19 rfl (lv_at hl 1 rfl) ?_
        obtain ⟨r20, V20, q20, hf⟩ := gbd hf
        refine k_X6_firstParentOf hC hI hl.1 q20 tw_2_74 (rm_ok (by omega) (by omega)) ⟨Nat.le_refl _, Nat.le_refl _⟩ (Nat.le_of_ble_eq_true rfl) dX6_sourceByRecursion_20 (fun H locs hI => ?_)
        refine lv_iload_n hx hb dX6_sourceByRecursion_23 rfl (lv_at hl 2 rfl) ?_
        refine lv_iload_n hx hb dX6_sourceByRecursion_24 rfl (lv_at hl 3 rfl) ?_
        refine lv_iconst (v := 1) hx hb dX6_sourceByRecursion_25 rfl ?_
        refine lv_iadd hx hb dX6_sourceByRecursion_26 ?_
        obtain ⟨r27, V27, q27, hf⟩ := gbd hf
        refine kr_X6_sourceByRecursion (ih0 _ _ _ _ _ _ q27) hC hI hl.1 tw_2_200 (rm_ok (by omega) (by omega)) ⟨Nat.le_refl _, Nat.le_refl _⟩ (Nat.le_of_ble_eq_true rfl) dX6_sourceByRecursion_27 (fun H locs hI => ?_)
        exact r_iret2 hC hI hf dX6_sourceByRecursion_30
      · have hf := gt hf c12
        refine lv_iload_n hx hb dX6_sourceByRecursion_15 rfl (lv_at hl 1 rfl) ?_
        exact r_iret2 hC hI hf dX6_sourceByRecursion_16
set_option maxRecDepth 100000 in
set_option maxHeartbeats 4000000 in
theorem m_X6_sourceByRecursion (l : Launch) (E : En) (ad : Nat → Nat) (V : Mem) (a1 : Int32) (a2 : Int32) (a3 : Int32) (r : Int32) (Vz : Mem) (hf : f_X6_sourceByRecursion V a1 a2 a3 = some (r, Vz)) : MR l E ad yX6_sourceByRecursion cX6_sourceByRecursion 4 (some .int) 30 [.ref (ad 1), .int a1, .int a2, .int a3] V (some (.int r)) Vz :=
  m_X6_sourceByRecursion_R l E ad 26 V a1 a2 a3 r Vz hf
theorem k_X6_sourceByRecursion {p : Program} {l : Launch} {e : Env} {R : Room} {cells slots : Nat} {s : State} {m : MethodId} {args : Array Value} {below : List Frame} {meth : Method} {c : Code} {H : Heap} {locs : List Loc} {Q : State → Prop} {E : En} {ad : Nat → Nat} {V : Mem} {ow : String} {b : ByteArray} {n : Nat} {ret : Option FieldType} {pc index : Nat} {ls : Array Slot} {rest : List Value} {a1 : Int32} {a2 : Int32} {a3 : Int32} {r : Int32} {V1 : Mem} (hC : Cx p s m args c meth E ow b n ret) (hI : In E ad V s H locs) (hsz : ls.size = n) (hf : f_X6_sourceByRecursion V a1 a2 a3 = some (r, V1)) (hl : Cond.methodLink ow index yX6_sourceByRecursion ∈ TB) (hR : 30 + 1 ≤ R.frames ∧ 8 + (4 + 11) + 40 * 30 ≤ R.locals) (hcs : cells ≤ R.cells ∧ slots ≤ R.slots) (hw : (rest.map fun v => v.category).sum ≤ 8) (hdg : decode b pc = .ok (.invokestatic index, 3)) (kk : ∀ (H1 : Heap) (locs1 : List Loc), In E ad V1 s H1 locs1 → W p l e R s m args below meth c H1 locs1 cells slots Q (F0 m (pc + 3) ls ((.int r) :: rest))) : W p l e R s m args below meth c H locs cells slots Q (F0 m pc ls (.int a3 :: .int a2 :: .int a1 :: .ref (ad 1) :: rest)) :=
  r_calS (As := [.ref (ad 1), .int a1, .int a2, .int a3]) (rest := rest) hC hI hsz (m_X6_sourceByRecursion l E ad V a1 a2 a3 r _ hf) cv_X6_sourceByRecursion hl rfl rfl hR hcs hw hdg kk
theorem kN_X6_sourceByRecursion {p : Program} {l : Launch} {e : Env} {R : Room} {cells slots : Nat} {s : State} {m : MethodId} {args : Array Value} {below : List Frame} {meth : Method} {c : Code} {H : Heap} {locs : List Loc} {Q : State → Prop} {E : En} {ad : Nat → Nat} {V : Mem} {ow host : String} {b : ByteArray} {n : Nat} {ret : Option FieldType} {pc index : Nat} {ls : Array Slot} {rest : List Value} {a1 : Int32} {a2 : Int32} {a3 : Int32} {r : Int32} {V1 : Mem} (hC : Cx p s m args c meth E ow b n ret) (hI : In E ad V s H locs) (hsz : ls.size = n) (hf : f_X6_sourceByRecursion V a1 a2 a3 = some (r, V1)) (hl : Cond.methodLinkNest ow index yX6_sourceByRecursion host ∈ NB) (hR : 30 + 1 ≤ R.frames ∧ 8 + (4 + 11) + 40 * 30 ≤ R.locals) (hcs : cells ≤ R.cells ∧ slots ≤ R.slots) (hw : (rest.map fun v => v.category).sum ≤ 8) (hdg : decode b pc = .ok (.invokestatic index, 3)) (kk : ∀ (H1 : Heap) (locs1 : List Loc), In E ad V1 s H1 locs1 → W p l e R s m args below meth c H1 locs1 cells slots Q (F0 m (pc + 3) ls ((.int r) :: rest))) : W p l e R s m args below meth c H locs cells slots Q (F0 m pc ls (.int a3 :: .int a2 :: .int a1 :: .ref (ad 1) :: rest)) :=
  r_calSN (As := [.ref (ad 1), .int a1, .int a2, .int a3]) (rest := rest) hC hI hsz (m_X6_sourceByRecursion l E ad V a1 a2 a3 r _ hf) cv_X6_sourceByRecursion hl rfl rfl hR hcs hw hdg kk

theorem dX6_countBy_0 : decode cX6_countBy 0 = .ok (.iconst 0, 1) := by decide +kernel
theorem dX6_countBy_1 : decode cX6_countBy 1 = .ok (.istore_n 2, 1) := by decide +kernel
theorem dX6_countBy_2 : decode cX6_countBy 2 = .ok (.iconst 0, 1) := by decide +kernel
theorem dX6_countBy_3 : decode cX6_countBy 3 = .ok (.istore_n 3, 1) := by decide +kernel
theorem dX6_countBy_4 : decode cX6_countBy 4 = .ok (.iload_n 3, 1) := by decide +kernel
theorem dX6_countBy_5 : decode cX6_countBy 5 = .ok (.aload_n 0, 1) := by decide +kernel
theorem dX6_countBy_6 : decode cX6_countBy 6 = .ok (.getfield 39, 3) := by decide +kernel
theorem dX6_countBy_9 : decode cX6_countBy 9 = .ok (.if_icmp .ge 21, 3) := by decide +kernel
theorem dX6_countBy_12 : decode cX6_countBy 12 = .ok (.aload_n 0, 1) := by decide +kernel
theorem dX6_countBy_13 : decode cX6_countBy 13 = .ok (.iload_n 3, 1) := by decide +kernel
theorem dX6_countBy_14 : decode cX6_countBy 14 = .ok (.invokevirtual 104, 3) := by decide +kernel
theorem dX6_countBy_17 : decode cX6_countBy 17 = .ok (.iload_n 1, 1) := by decide +kernel
theorem dX6_countBy_18 : decode cX6_countBy 18 = .ok (.if_icmp .ne 6, 3) := by decide +kernel
theorem dX6_countBy_21 : decode cX6_countBy 21 = .ok (.iinc 2 1, 3) := by decide +kernel
theorem dX6_countBy_24 : decode cX6_countBy 24 = .ok (.iinc 3 1, 3) := by decide +kernel
theorem dX6_countBy_27 : decode cX6_countBy 27 = .ok (.goto (-23), 3) := by decide +kernel
theorem dX6_countBy_30 : decode cX6_countBy 30 = .ok (.iload_n 2, 1) := by decide +kernel
theorem dX6_countBy_31 : decode cX6_countBy 31 = .ok (.ireturn, 1) := by decide +kernel
def f_X6_countBy_L4 (a1 : Int32) : Nat → Mem → Int32 → Int32 → Option (Int32 × Mem)
  | 0, _, _, _ => none
  | n4 + 1, V4, x2_4, x3_4 =>
    if (V4 1 1) ≤ x3_4 then
      some (x2_4, V4)
    else
      bd (f_X6_writerOf V4 x3_4) fun r14 V14 =>
      jn (α := Mem → Int32 → Option (Int32 × Mem)) (fun j24 =>
        if r14 = a1 then
          j24 V14 (x2_4 + 1)
        else
          j24 V14 x2_4
      ) (fun (V24 : Mem) (x2_24 : Int32) =>
        (f_X6_countBy_L4 a1 n4) V24 x2_24 (x3_4 + 1)
      )
def f_X6_countBy (V : Mem) (a1 : Int32) : Option (Int32 × Mem) :=
  f_X6_countBy_L4 a1 FU V 0 0
theorem cv_X6_countBy : CalV yX6_countBy cX6_countBy 4 (some .int) 1 := ⟨⟨⟨by decide +kernel, by decide +kernel⟩, tw_1_3, tw_2_101, by decide +kernel⟩, tw_2_99, tw_2_100⟩
set_option maxRecDepth 100000 in
set_option maxHeartbeats 4000000 in
theorem m_X6_countBy (l : Launch) (E : En) (ad : Nat → Nat) (V : Mem) (a1 : Int32) (r : Int32) (Vz : Mem) (hf : f_X6_countBy V a1 = some (r, Vz)) : MR l E ad yX6_countBy cX6_countBy 4 (some .int) 3 [.ref (ad 1), .int a1] V (some (.int r)) Vz := by
  refine ent (E := E) (ad := ad) (V := V) "LetterRepository$Revisions" (by decide +kernel) rfl (Nat.le_of_ble_eq_true rfl) ?_
  intro p e s m below meth c ls hC hI hl
  have hx := hC.1
  have hb := hC.2.1
  have hl : lv_has ls 4 [(0, .ref (ad 1)), (1, .int a1)] := hl
  unfold f_X6_countBy at hf
  refine lv_iconst (v := 0) hx hb dX6_countBy_0 rfl ?_
  refine lv_istore_n (lv' := [(2, .int 0), (0, .ref (ad 1)), (1, .int a1)]) hx hb dX6_countBy_1 rfl hl (Nat.lt_of_lt_of_eq (by decide) rfl) rfl (fun ls hl => ?_)
  refine lv_iconst (v := 0) hx hb dX6_countBy_2 rfl ?_
  refine lv_istore_n (lv' := [(3, .int 0), (2, .int 0), (0, .ref (ad 1)), (1, .int a1)]) hx hb dX6_countBy_3 rfl hl (Nat.lt_of_lt_of_eq (by decide) rfl) rfl (fun ls hl => ?_)
  have L4 : ∀ (n4 : Nat) (V4 : Mem) (x2_4 : Int32) (x3_4 : Int32) (H : Heap) (locs : List Loc) (ls : Array Slot), f_X6_countBy_L4 a1 n4 V4 x2_4 x3_4 = some (r, Vz) → In E ad V4 s H locs → lv_has ls 4 [(0, .ref (ad 1)), (1, .int a1), (2, .int x2_4), (3, .int x3_4)] → W p l e (rmd 3) s m ([.ref (ad 1), .int a1] : List Value).toArray below meth c H locs 0 0 (MQ below (QR E ad (some (.int r)) Vz) ([.ref (ad 1), .int a1] : List Value).toArray s 0 0 (ours E)) (F0 m 4 ls []) := by
    intro n4
    induction n4 with
    | zero => intro V4 x2_4 x3_4 H locs ls hf hI hl; cases hf
    | succ n4 ih4 =>
      intro V4 x2_4 x3_4 H locs ls hf hI hl
      rw [f_X6_countBy_L4.eq_2] at hf
      refine lv_iload_n hx hb dX6_countBy_4 rfl (lv_at hl 3 rfl) ?_
      refine lv_aload_n hx hb dX6_countBy_5 rfl (lv_at hl 0 rfl) ?_
      refine g_1_count hC hI tw_1_77 dX6_countBy_6 ?_
      refine lv_icmp_ge (tgt := 30) hx hb dX6_countBy_9 (by decide) (fun c9 => ?_) (fun c9 => ?_)
      · have hf := gt hf c9
        refine lv_iload_n hx hb dX6_countBy_30 rfl (lv_at hl 2 rfl) ?_
        exact r_iret2 hC hI hf dX6_countBy_31
      · have hf := gf hf c9
        refine lv_aload_n hx hb dX6_countBy_12 rfl (lv_at hl 0 rfl) ?_
        refine lv_iload_n hx hb dX6_countBy_13 rfl (lv_at hl 3 rfl) ?_
        obtain ⟨r14, V14, q14, hf⟩ := gbd hf
        refine k_X6_writerOf hC hI hl.1 q14 tw_2_102 ⟨Nat.le_of_ble_eq_true rfl, Nat.le_of_ble_eq_true rfl⟩ ⟨Nat.le_refl _, Nat.le_refl _⟩ (Nat.le_of_ble_eq_true rfl) dX6_countBy_14 (fun H locs hI => ?_)
        refine lv_iload_n hx hb dX6_countBy_17 rfl (lv_at hl 1 rfl) ?_
        obtain ⟨j24, hj24, hf⟩ := gj hf
        have J24 : ∀ (V24 : Mem) (x2_24 : Int32) (H : Heap) (locs : List Loc) (ls : Array Slot), j24 V24 x2_24 = some (r, Vz) → In E ad V24 s H locs → lv_has ls 4 [(0, .ref (ad 1)), (1, .int a1), (2, .int x2_24), (3, .int x3_4)] → W p l e (rmd 3) s m ([.ref (ad 1), .int a1] : List Value).toArray below meth c H locs 0 0 (MQ below (QR E ad (some (.int r)) Vz) ([.ref (ad 1), .int a1] : List Value).toArray s 0 0 (ours E)) (F0 m 24 ls []) := by
          intro V24 x2_24 H locs ls hf hI hl
          rw [hj24] at hf
          dsimp only at hf
          refine lv_iinc (v := (x3_4 + 1)) (lv' := [(3, .int (x3_4 + 1)), (0, .ref (ad 1)), (1, .int a1), (2, .int x2_24)]) hx hb dX6_countBy_24 hl (k := 3) rfl rfl (Nat.lt_of_lt_of_eq (by decide) rfl) rfl (fun ls hl => ?_)
          refine lv_goto (tgt := 4) hx hb dX6_countBy_27 (by decide) ?_
          exact ih4 _ _ _ _ _ _ hf hI (lv_sub hl [1, 2, 3, 0] rfl)
        refine lv_icmp_ne (tgt := 24) hx hb dX6_countBy_18 (by decide) (fun c18 => ?_) (fun c18 => ?_)
        · have hf := gf hf c18
          exact J24 _ _ _ _ _ hf hI (lv_sub hl [0, 1, 2, 3] rfl)
        · have hf := gt hf c18
          refine lv_iinc (v := (x2_4 + 1)) (lv' := [(2, .int (x2_4 + 1)), (0, .ref (ad 1)), (1, .int a1), (3, .int x3_4)]) hx hb dX6_countBy_21 hl (k := 2) rfl rfl (Nat.lt_of_lt_of_eq (by decide) rfl) rfl (fun ls hl => ?_)
          exact J24 _ _ _ _ _ hf hI (lv_sub hl [1, 2, 0, 3] rfl)
  exact L4 _ _ _ _ _ _ _ hf hI (lv_sub hl [2, 3, 1, 0] rfl)
theorem k_X6_countBy {p : Program} {l : Launch} {e : Env} {R : Room} {cells slots : Nat} {s : State} {m : MethodId} {args : Array Value} {below : List Frame} {meth : Method} {c : Code} {H : Heap} {locs : List Loc} {Q : State → Prop} {E : En} {ad : Nat → Nat} {V : Mem} {ow : String} {b : ByteArray} {n : Nat} {ret : Option FieldType} {pc index : Nat} {ls : Array Slot} {rest : List Value} {a1 : Int32} {r : Int32} {V1 : Mem} (hC : Cx p s m args c meth E ow b n ret) (hI : In E ad V s H locs) (hsz : ls.size = n) (hf : f_X6_countBy V a1 = some (r, V1)) (hl : Cond.methodLink ow index yX6_countBy ∈ TB) (hR : 3 + 1 ≤ R.frames ∧ 8 + (4 + 11) + 40 * 3 ≤ R.locals) (hcs : cells ≤ R.cells ∧ slots ≤ R.slots) (hw : (rest.map fun v => v.category).sum ≤ 8) (hdg : decode b pc = .ok (.invokevirtual index, 3)) (kk : ∀ (H1 : Heap) (locs1 : List Loc), In E ad V1 s H1 locs1 → W p l e R s m args below meth c H1 locs1 cells slots Q (F0 m (pc + 3) ls ((.int r) :: rest))) : W p l e R s m args below meth c H locs cells slots Q (F0 m pc ls (.int a1 :: .ref (ad 1) :: rest)) :=
  r_calV (As := [.int a1]) (rest := rest) hC hI hsz (m_X6_countBy l E ad V a1 r _ hf) cv_X6_countBy hl (by decide) (ce_1 _) rfl rfl rfl hR hcs hw hdg kk

theorem dX6_meanOfGenerations_0 : decode cX6_meanOfGenerations 0 = .ok (.iconst 0, 1) := by decide +kernel
theorem dX6_meanOfGenerations_1 : decode cX6_meanOfGenerations 1 = .ok (.istore_n 1, 1) := by decide +kernel
theorem dX6_meanOfGenerations_2 : decode cX6_meanOfGenerations 2 = .ok (.iconst 0, 1) := by decide +kernel
theorem dX6_meanOfGenerations_3 : decode cX6_meanOfGenerations 3 = .ok (.istore_n 2, 1) := by decide +kernel
theorem dX6_meanOfGenerations_4 : decode cX6_meanOfGenerations 4 = .ok (.iload_n 2, 1) := by decide +kernel
theorem dX6_meanOfGenerations_5 : decode cX6_meanOfGenerations 5 = .ok (.aload_n 0, 1) := by decide +kernel
theorem dX6_meanOfGenerations_6 : decode cX6_meanOfGenerations 6 = .ok (.getfield 39, 3) := by decide +kernel
theorem dX6_meanOfGenerations_9 : decode cX6_meanOfGenerations 9 = .ok (.if_icmp .ge 17, 3) := by decide +kernel
theorem dX6_meanOfGenerations_12 : decode cX6_meanOfGenerations 12 = .ok (.iload_n 1, 1) := by decide +kernel
theorem dX6_meanOfGenerations_13 : decode cX6_meanOfGenerations 13 = .ok (.aload_n 0, 1) := by decide +kernel
theorem dX6_meanOfGenerations_14 : decode cX6_meanOfGenerations 14 = .ok (.iload_n 2, 1) := by decide +kernel
theorem dX6_meanOfGenerations_15 : decode cX6_meanOfGenerations 15 = .ok (.invokevirtual 67, 3) := by decide +kernel
theorem dX6_meanOfGenerations_18 : decode cX6_meanOfGenerations 18 = .ok (.iadd, 1) := by decide +kernel
theorem dX6_meanOfGenerations_19 : decode cX6_meanOfGenerations 19 = .ok (.istore_n 1, 1) := by decide +kernel
theorem dX6_meanOfGenerations_20 : decode cX6_meanOfGenerations 20 = .ok (.iinc 2 1, 3) := by decide +kernel
theorem dX6_meanOfGenerations_23 : decode cX6_meanOfGenerations 23 = .ok (.goto (-19), 3) := by decide +kernel
theorem dX6_meanOfGenerations_26 : decode cX6_meanOfGenerations 26 = .ok (.aload_n 0, 1) := by decide +kernel
theorem dX6_meanOfGenerations_27 : decode cX6_meanOfGenerations 27 = .ok (.getfield 39, 3) := by decide +kernel
theorem dX6_meanOfGenerations_30 : decode cX6_meanOfGenerations 30 = .ok (.ifCond .le 14, 3) := by decide +kernel
theorem dX6_meanOfGenerations_33 : decode cX6_meanOfGenerations 33 = .ok (.iload_n 1, 1) := by decide +kernel
theorem dX6_meanOfGenerations_34 : decode cX6_meanOfGenerations 34 = .ok (.i2d, 1) := by decide +kernel
theorem dX6_meanOfGenerations_35 : decode cX6_meanOfGenerations 35 = .ok (.aload_n 0, 1) := by decide +kernel
theorem dX6_meanOfGenerations_36 : decode cX6_meanOfGenerations 36 = .ok (.getfield 39, 3) := by decide +kernel
theorem dX6_meanOfGenerations_39 : decode cX6_meanOfGenerations 39 = .ok (.i2d, 1) := by decide +kernel
theorem dX6_meanOfGenerations_40 : decode cX6_meanOfGenerations 40 = .ok (.ddiv, 1) := by decide +kernel
theorem dX6_meanOfGenerations_41 : decode cX6_meanOfGenerations 41 = .ok (.goto 4, 3) := by decide +kernel
theorem dX6_meanOfGenerations_44 : decode cX6_meanOfGenerations 44 = .ok (.dconst 0, 1) := by decide +kernel
theorem dX6_meanOfGenerations_45 : decode cX6_meanOfGenerations 45 = .ok (.dreturn, 1) := by decide +kernel
def f_X6_meanOfGenerations_L4 (j26 : Mem → Int32 → Option (UInt64 × Mem)) : Nat → Mem → Int32 → Int32 → Option (UInt64 × Mem)
  | 0, _, _, _ => none
  | n4 + 1, V4, x1_4, x2_4 =>
    if (V4 1 1) ≤ x2_4 then
      j26 V4 x1_4
    else
      bd (f_X6_generationOf V4 x2_4) fun r15 V15 =>
      (f_X6_meanOfGenerations_L4 j26 n4) V15 (x1_4 + r15) (x2_4 + 1)
def f_X6_meanOfGenerations (V : Mem) : Option (UInt64 × Mem) :=
  jn (α := Mem → Int32 → Option (UInt64 × Mem)) (fun j26 =>
    f_X6_meanOfGenerations_L4 j26 FU V 0 0
  ) (fun (V26 : Mem) (x1_26 : Int32) =>
    if (V26 1 1) ≤ 0 then
      some (0, V26)
    else
      if nan64 (FP.ddiv (FP.i2d x1_26) (FP.i2d (V26 1 1))) = true then
        some ((FP.ddiv (FP.i2d x1_26) (FP.i2d (V26 1 1))), V26)
      else none
  )
theorem cv_X6_meanOfGenerations : CalV yX6_meanOfGenerations cX6_meanOfGenerations 3 (some .double) 0 := ⟨⟨⟨by decide +kernel, by decide +kernel⟩, tw_1_3, tw_2_147, by decide +kernel⟩, tw_2_145, tw_2_146⟩
set_option maxRecDepth 100000 in
set_option maxHeartbeats 4000000 in
theorem m_X6_meanOfGenerations (l : Launch) (E : En) (ad : Nat → Nat) (V : Mem) (r : UInt64) (Vz : Mem) (hf : f_X6_meanOfGenerations V = some (r, Vz)) : MR l E ad yX6_meanOfGenerations cX6_meanOfGenerations 3 (some .double) 3 [.ref (ad 1)] V (some (.double r)) Vz := by
  refine ent (E := E) (ad := ad) (V := V) "LetterRepository$Revisions" (by decide +kernel) rfl (Nat.le_of_ble_eq_true rfl) ?_
  intro p e s m below meth c ls hC hI hl
  have hx := hC.1
  have hb := hC.2.1
  have hl : lv_has ls 3 [(0, .ref (ad 1))] := hl
  unfold f_X6_meanOfGenerations at hf
  refine lv_iconst (v := 0) hx hb dX6_meanOfGenerations_0 rfl ?_
  refine lv_istore_n (lv' := [(1, .int 0), (0, .ref (ad 1))]) hx hb dX6_meanOfGenerations_1 rfl hl (Nat.lt_of_lt_of_eq (by decide) rfl) rfl (fun ls hl => ?_)
  refine lv_iconst (v := 0) hx hb dX6_meanOfGenerations_2 rfl ?_
  refine lv_istore_n (lv' := [(2, .int 0), (1, .int 0), (0, .ref (ad 1))]) hx hb dX6_meanOfGenerations_3 rfl hl (Nat.lt_of_lt_of_eq (by decide) rfl) rfl (fun ls hl => ?_)
  obtain ⟨j26, hj26, hf⟩ := gj hf
  have J26 : ∀ (V26 : Mem) (x1_26 : Int32) (H : Heap) (locs : List Loc) (ls : Array Slot), j26 V26 x1_26 = some (r, Vz) → In E ad V26 s H locs → lv_has ls 3 [(0, .ref (ad 1)), (1, .int x1_26)] → W p l e (rmd 3) s m ([.ref (ad 1)] : List Value).toArray below meth c H locs 0 0 (MQ below (QR E ad (some (.double r)) Vz) ([.ref (ad 1)] : List Value).toArray s 0 0 (ours E)) (F0 m 26 ls []) := by
    intro V26 x1_26 H locs ls hf hI hl
    rw [hj26] at hf
    dsimp only at hf
    refine lv_aload_n hx hb dX6_meanOfGenerations_26 rfl (lv_at hl 0 rfl) ?_
    refine g_1_count hC hI tw_1_77 dX6_meanOfGenerations_27 ?_
    refine lv_if_le (tgt := 44) hx hb dX6_meanOfGenerations_30 (by decide) (fun c30 => ?_) (fun c30 => ?_)
    · have hf := gt hf c30
      refine lv_dconst0 hx hb dX6_meanOfGenerations_44 ?_
      exact r_dret2 hC hI hf dX6_meanOfGenerations_45
    · have hf := gf hf c30
      refine lv_iload_n hx hb dX6_meanOfGenerations_33 rfl (lv_at hl 1 rfl) ?_
      refine lv_i2d hx hb dX6_meanOfGenerations_34 ?_
      refine lv_aload_n hx hb dX6_meanOfGenerations_35 rfl (lv_at hl 0 rfl) ?_
      refine g_1_count hC hI tw_1_77 dX6_meanOfGenerations_36 ?_
      refine lv_i2d hx hb dX6_meanOfGenerations_39 ?_
      obtain ⟨h40, hf⟩ := gi hf
      refine lv_ddiv hx hb dX6_meanOfGenerations_40 (nan64_ok h40) ?_
      refine lv_goto (tgt := 45) hx hb dX6_meanOfGenerations_41 (by decide) ?_
      exact r_dret2 hC hI hf dX6_meanOfGenerations_45
  have L4 : ∀ (n4 : Nat) (V4 : Mem) (x1_4 : Int32) (x2_4 : Int32) (H : Heap) (locs : List Loc) (ls : Array Slot), f_X6_meanOfGenerations_L4 j26 n4 V4 x1_4 x2_4 = some (r, Vz) → In E ad V4 s H locs → lv_has ls 3 [(0, .ref (ad 1)), (1, .int x1_4), (2, .int x2_4)] → W p l e (rmd 3) s m ([.ref (ad 1)] : List Value).toArray below meth c H locs 0 0 (MQ below (QR E ad (some (.double r)) Vz) ([.ref (ad 1)] : List Value).toArray s 0 0 (ours E)) (F0 m 4 ls []) := by
    intro n4
    induction n4 with
    | zero => intro V4 x1_4 x2_4 H locs ls hf hI hl; cases hf
    | succ n4 ih4 =>
      intro V4 x1_4 x2_4 H locs ls hf hI hl
      rw [f_X6_meanOfGenerations_L4.eq_2] at hf
      refine lv_iload_n hx hb dX6_meanOfGenerations_4 rfl (lv_at hl 2 rfl) ?_
      refine lv_aload_n hx hb dX6_meanOfGenerations_5 rfl (lv_at hl 0 rfl) ?_
      refine g_1_count hC hI tw_1_77 dX6_meanOfGenerations_6 ?_
      refine lv_icmp_ge (tgt := 26) hx hb dX6_meanOfGenerations_9 (by decide) (fun c9 => ?_) (fun c9 => ?_)
      · have hf := gt hf c9
        exact J26 _ _ _ _ _ hf hI (lv_sub hl [0, 1] rfl)
      · have hf := gf hf c9
        refine lv_iload_n hx hb dX6_meanOfGenerations_12 rfl (lv_at hl 1 rfl) ?_
        refine lv_aload_n hx hb dX6_meanOfGenerations_13 rfl (lv_at hl 0 rfl) ?_
        refine lv_iload_n hx hb dX6_meanOfGenerations_14 rfl (lv_at hl 2 rfl) ?_
        obtain ⟨r15, V15, q15, hf⟩ := gbd hf
        refine k_X6_generationOf hC hI hl.1 q15 tw_2_148 ⟨Nat.le_of_ble_eq_true rfl, Nat.le_of_ble_eq_true rfl⟩ ⟨Nat.le_refl _, Nat.le_refl _⟩ (Nat.le_of_ble_eq_true rfl) dX6_meanOfGenerations_15 (fun H locs hI => ?_)
        refine lv_iadd hx hb dX6_meanOfGenerations_18 ?_
        refine lv_istore_n (lv' := [(1, .int (x1_4 + r15)), (0, .ref (ad 1)), (2, .int x2_4)]) hx hb dX6_meanOfGenerations_19 rfl hl (Nat.lt_of_lt_of_eq (by decide) rfl) rfl (fun ls hl => ?_)
        refine lv_iinc (v := (x2_4 + 1)) (lv' := [(2, .int (x2_4 + 1)), (1, .int (x1_4 + r15)), (0, .ref (ad 1))]) hx hb dX6_meanOfGenerations_20 hl (k := 2) rfl rfl (Nat.lt_of_lt_of_eq (by decide) rfl) rfl (fun ls hl => ?_)
        refine lv_goto (tgt := 4) hx hb dX6_meanOfGenerations_23 (by decide) ?_
        exact ih4 _ _ _ _ _ _ hf hI (lv_sub hl [2, 1, 0] rfl)
  exact L4 _ _ _ _ _ _ _ hf hI (lv_sub hl [2, 1, 0] rfl)
theorem k_X6_meanOfGenerations {p : Program} {l : Launch} {e : Env} {R : Room} {cells slots : Nat} {s : State} {m : MethodId} {args : Array Value} {below : List Frame} {meth : Method} {c : Code} {H : Heap} {locs : List Loc} {Q : State → Prop} {E : En} {ad : Nat → Nat} {V : Mem} {ow : String} {b : ByteArray} {n : Nat} {ret : Option FieldType} {pc index : Nat} {ls : Array Slot} {rest : List Value} {r : UInt64} {V1 : Mem} (hC : Cx p s m args c meth E ow b n ret) (hI : In E ad V s H locs) (hsz : ls.size = n) (hf : f_X6_meanOfGenerations V = some (r, V1)) (hl : Cond.methodLink ow index yX6_meanOfGenerations ∈ TB) (hR : 3 + 1 ≤ R.frames ∧ 8 + (3 + 11) + 40 * 3 ≤ R.locals) (hcs : cells ≤ R.cells ∧ slots ≤ R.slots) (hw : (rest.map fun v => v.category).sum ≤ 8) (hdg : decode b pc = .ok (.invokevirtual index, 3)) (kk : ∀ (H1 : Heap) (locs1 : List Loc), In E ad V1 s H1 locs1 → W p l e R s m args below meth c H1 locs1 cells slots Q (F0 m (pc + 3) ls ((.double r) :: rest))) : W p l e R s m args below meth c H locs cells slots Q (F0 m pc ls (.ref (ad 1) :: rest)) :=
  r_calV (As := []) (rest := rest) hC hI hsz (m_X6_meanOfGenerations l E ad V r _ hf) cv_X6_meanOfGenerations hl (by decide) (ce_1 _) rfl rfl rfl hR hcs hw hdg kk

theorem dX6_shareOfArchived_0 : decode cX6_shareOfArchived 0 = .ok (.aload_n 0, 1) := by decide +kernel
theorem dX6_shareOfArchived_1 : decode cX6_shareOfArchived 1 = .ok (.getfield 39, 3) := by decide +kernel
theorem dX6_shareOfArchived_4 : decode cX6_shareOfArchived 4 = .ok (.ifCond .le 20, 3) := by decide +kernel
theorem dX6_shareOfArchived_7 : decode cX6_shareOfArchived 7 = .ok (.aload_n 0, 1) := by decide +kernel
theorem dX6_shareOfArchived_8 : decode cX6_shareOfArchived 8 = .ok (.getfield 47, 3) := by decide +kernel
theorem dX6_shareOfArchived_11 : decode cX6_shareOfArchived 11 = .ok (.invokestatic 107, 3) := by decide +kernel
theorem dX6_shareOfArchived_14 : decode cX6_shareOfArchived 14 = .ok (.i2f, 1) := by decide +kernel
theorem dX6_shareOfArchived_15 : decode cX6_shareOfArchived 15 = .ok (.aload_n 0, 1) := by decide +kernel
theorem dX6_shareOfArchived_16 : decode cX6_shareOfArchived 16 = .ok (.getfield 39, 3) := by decide +kernel
theorem dX6_shareOfArchived_19 : decode cX6_shareOfArchived 19 = .ok (.i2f, 1) := by decide +kernel
theorem dX6_shareOfArchived_20 : decode cX6_shareOfArchived 20 = .ok (.fdiv, 1) := by decide +kernel
theorem dX6_shareOfArchived_21 : decode cX6_shareOfArchived 21 = .ok (.goto 4, 3) := by decide +kernel
theorem dX6_shareOfArchived_24 : decode cX6_shareOfArchived 24 = .ok (.fconst 0, 1) := by decide +kernel
theorem dX6_shareOfArchived_25 : decode cX6_shareOfArchived 25 = .ok (.freturn, 1) := by decide +kernel
def f_X6_shareOfArchived (V : Mem) : Option (UInt32 × Mem) :=
  if (V 1 1) ≤ 0 then
    some (0, V)
  else
    bd (f_J6_bitCount_0f7a4 V (V 1 0)) fun r11 V11 =>
    if nan32 (FP.fdiv (FP.i2f r11) (FP.i2f (V11 1 1))) = true then
      some ((FP.fdiv (FP.i2f r11) (FP.i2f (V11 1 1))), V11)
    else none
theorem cv_X6_shareOfArchived : CalV yX6_shareOfArchived cX6_shareOfArchived 1 (some .float) 0 := ⟨⟨⟨by decide +kernel, by decide +kernel⟩, tw_1_3, tw_2_159, by decide +kernel⟩, tw_2_157, tw_2_158⟩
set_option maxRecDepth 100000 in
set_option maxHeartbeats 4000000 in
theorem m_X6_shareOfArchived (l : Launch) (E : En) (ad : Nat → Nat) (V : Mem) (r : UInt32) (Vz : Mem) (hf : f_X6_shareOfArchived V = some (r, Vz)) : MR l E ad yX6_shareOfArchived cX6_shareOfArchived 1 (some .float) 2 [.ref (ad 1)] V (some (.float r)) Vz := by
  refine ent (E := E) (ad := ad) (V := V) "LetterRepository$Revisions" (by decide +kernel) rfl (Nat.le_of_ble_eq_true rfl) ?_
  intro p e s m below meth c ls hC hI hl
  have hx := hC.1
  have hb := hC.2.1
  have hl : lv_has ls 1 [(0, .ref (ad 1))] := hl
  unfold f_X6_shareOfArchived at hf
  refine lv_aload_n hx hb dX6_shareOfArchived_0 rfl (lv_at hl 0 rfl) ?_
  refine g_1_count hC hI tw_1_77 dX6_shareOfArchived_1 ?_
  refine lv_if_le (tgt := 24) hx hb dX6_shareOfArchived_4 (by decide) (fun c4 => ?_) (fun c4 => ?_)
  · have hf := gt hf c4
    refine lv_fconst0 hx hb dX6_shareOfArchived_24 ?_
    exact r_fret2 hC hI hf dX6_shareOfArchived_25
  · have hf := gf hf c4
    refine lv_aload_n hx hb dX6_shareOfArchived_7 rfl (lv_at hl 0 rfl) ?_
    refine g_1_archived hC hI tw_1_74 dX6_shareOfArchived_8 ?_
    obtain ⟨r11, V11, q11, hf⟩ := gbd hf
    refine k_J6_bitCount_0f7a4 hC hI hl.1 q11 tw_2_160 ⟨Nat.le_of_ble_eq_true rfl, Nat.le_of_ble_eq_true rfl⟩ ⟨Nat.le_refl _, Nat.le_refl _⟩ (Nat.le_of_ble_eq_true rfl) dX6_shareOfArchived_11 (fun H locs hI => ?_)
    refine lv_i2f hx hb dX6_shareOfArchived_14 ?_
    refine lv_aload_n hx hb dX6_shareOfArchived_15 rfl (lv_at hl 0 rfl) ?_
    refine g_1_count hC hI tw_1_77 dX6_shareOfArchived_16 ?_
    refine lv_i2f hx hb dX6_shareOfArchived_19 ?_
    obtain ⟨h20, hf⟩ := gi hf
    refine lv_fdiv hx hb dX6_shareOfArchived_20 (nan32_ok h20) ?_
    refine lv_goto (tgt := 25) hx hb dX6_shareOfArchived_21 (by decide) ?_
    exact r_fret2 hC hI hf dX6_shareOfArchived_25
theorem k_X6_shareOfArchived {p : Program} {l : Launch} {e : Env} {R : Room} {cells slots : Nat} {s : State} {m : MethodId} {args : Array Value} {below : List Frame} {meth : Method} {c : Code} {H : Heap} {locs : List Loc} {Q : State → Prop} {E : En} {ad : Nat → Nat} {V : Mem} {ow : String} {b : ByteArray} {n : Nat} {ret : Option FieldType} {pc index : Nat} {ls : Array Slot} {rest : List Value} {r : UInt32} {V1 : Mem} (hC : Cx p s m args c meth E ow b n ret) (hI : In E ad V s H locs) (hsz : ls.size = n) (hf : f_X6_shareOfArchived V = some (r, V1)) (hl : Cond.methodLink ow index yX6_shareOfArchived ∈ TB) (hR : 2 + 1 ≤ R.frames ∧ 8 + (1 + 11) + 40 * 2 ≤ R.locals) (hcs : cells ≤ R.cells ∧ slots ≤ R.slots) (hw : (rest.map fun v => v.category).sum ≤ 8) (hdg : decode b pc = .ok (.invokevirtual index, 3)) (kk : ∀ (H1 : Heap) (locs1 : List Loc), In E ad V1 s H1 locs1 → W p l e R s m args below meth c H1 locs1 cells slots Q (F0 m (pc + 3) ls ((.float r) :: rest))) : W p l e R s m args below meth c H locs cells slots Q (F0 m pc ls (.ref (ad 1) :: rest)) :=
  r_calV (As := []) (rest := rest) hC hI hsz (m_X6_shareOfArchived l E ad V r _ hf) cv_X6_shareOfArchived hl (by decide) (ce_1 _) rfl rfl rfl hR hcs hw hdg kk

theorem dX8_hasBranch_0 : decode cX8_hasBranch 0 = .ok (.iload_n 1, 1) := by decide +kernel
theorem dX8_hasBranch_1 : decode cX8_hasBranch 1 = .ok (.ifCond .lt 15, 3) := by decide +kernel
theorem dX8_hasBranch_4 : decode cX8_hasBranch 4 = .ok (.iload_n 1, 1) := by decide +kernel
theorem dX8_hasBranch_5 : decode cX8_hasBranch 5 = .ok (.aload_n 0, 1) := by decide +kernel
theorem dX8_hasBranch_6 : decode cX8_hasBranch 6 = .ok (.getfield 33, 3) := by decide +kernel
theorem dX8_hasBranch_9 : decode cX8_hasBranch 9 = .ok (.if_icmp .ge 7, 3) := by decide +kernel
theorem dX8_hasBranch_12 : decode cX8_hasBranch 12 = .ok (.iconst 1, 1) := by decide +kernel
theorem dX8_hasBranch_13 : decode cX8_hasBranch 13 = .ok (.goto 4, 3) := by decide +kernel
theorem dX8_hasBranch_16 : decode cX8_hasBranch 16 = .ok (.iconst 0, 1) := by decide +kernel
theorem dX8_hasBranch_17 : decode cX8_hasBranch 17 = .ok (.ireturn, 1) := by decide +kernel
def f_X8_hasBranch (V : Mem) (a1 : Int32) : Option (Int32 × Mem) :=
  if a1 < 0 then
    some (0, V)
  else
    if (V 0 0) ≤ a1 then
      some (0, V)
    else
      some (1, V)
theorem cv_X8_hasBranch : CalV yX8_hasBranch cX8_hasBranch 2 (some .boolean) 1 := ⟨⟨⟨by decide +kernel, by decide +kernel⟩, tw_1_2, tw_2_226, by decide +kernel⟩, tw_2_224, tw_2_225⟩
set_option maxRecDepth 100000 in
set_option maxHeartbeats 4000000 in
theorem m_X8_hasBranch (l : Launch) (E : En) (ad : Nat → Nat) (V : Mem) (a1 : Int32) (r : Int32) (Vz : Mem) (hf : f_X8_hasBranch V a1 = some (r, Vz)) : MR l E ad yX8_hasBranch cX8_hasBranch 2 (some .boolean) 1 [.ref (ad 0), .int a1] V (some (.int r)) Vz := by
  refine ent (E := E) (ad := ad) (V := V) "LetterRepository$Store" (by decide +kernel) rfl (Nat.le_of_ble_eq_true rfl) ?_
  intro p e s m below meth c ls hC hI hl
  have hx := hC.1
  have hb := hC.2.1
  have hl : lv_has ls 2 [(0, .ref (ad 0)), (1, .int a1)] := hl
  unfold f_X8_hasBranch at hf
  refine lv_iload_n hx hb dX8_hasBranch_0 rfl (lv_at hl 1 rfl) ?_
  refine lv_if_lt (tgt := 16) hx hb dX8_hasBranch_1 (by decide) (fun c1 => ?_) (fun c1 => ?_)
  · have hf := gt hf c1
    refine lv_iconst (v := 0) hx hb dX8_hasBranch_16 rfl ?_
    exact r_zret2 hC hI (.inl rfl) hf dX8_hasBranch_17
  · have hf := gf hf c1
    refine lv_iload_n hx hb dX8_hasBranch_4 rfl (lv_at hl 1 rfl) ?_
    refine lv_aload_n hx hb dX8_hasBranch_5 rfl (lv_at hl 0 rfl) ?_
    refine g_0_branchCount hC hI tw_1_104 dX8_hasBranch_6 ?_
    refine lv_icmp_ge (tgt := 16) hx hb dX8_hasBranch_9 (by decide) (fun c9 => ?_) (fun c9 => ?_)
    · have hf := gt hf c9
      refine lv_iconst (v := 0) hx hb dX8_hasBranch_16 rfl ?_
      exact r_zret2 hC hI (.inl rfl) hf dX8_hasBranch_17
    · have hf := gf hf c9
      refine lv_iconst (v := 1) hx hb dX8_hasBranch_12 rfl ?_
      refine lv_goto (tgt := 17) hx hb dX8_hasBranch_13 (by decide) ?_
      exact r_zret2 hC hI (.inr rfl) hf dX8_hasBranch_17
theorem k_X8_hasBranch {p : Program} {l : Launch} {e : Env} {R : Room} {cells slots : Nat} {s : State} {m : MethodId} {args : Array Value} {below : List Frame} {meth : Method} {c : Code} {H : Heap} {locs : List Loc} {Q : State → Prop} {E : En} {ad : Nat → Nat} {V : Mem} {ow : String} {b : ByteArray} {n : Nat} {ret : Option FieldType} {pc index : Nat} {ls : Array Slot} {rest : List Value} {a1 : Int32} {r : Int32} {V1 : Mem} (hC : Cx p s m args c meth E ow b n ret) (hI : In E ad V s H locs) (hsz : ls.size = n) (hf : f_X8_hasBranch V a1 = some (r, V1)) (hl : Cond.methodLink ow index yX8_hasBranch ∈ TB) (hR : 1 + 1 ≤ R.frames ∧ 8 + (2 + 11) + 40 * 1 ≤ R.locals) (hcs : cells ≤ R.cells ∧ slots ≤ R.slots) (hw : (rest.map fun v => v.category).sum ≤ 8) (hdg : decode b pc = .ok (.invokevirtual index, 3)) (kk : ∀ (H1 : Heap) (locs1 : List Loc), In E ad V1 s H1 locs1 → W p l e R s m args below meth c H1 locs1 cells slots Q (F0 m (pc + 3) ls ((.int r) :: rest))) : W p l e R s m args below meth c H locs cells slots Q (F0 m pc ls (.int a1 :: .ref (ad 0) :: rest)) :=
  r_calV (As := [.int a1]) (rest := rest) hC hI hsz (m_X8_hasBranch l E ad V a1 r _ hf) cv_X8_hasBranch hl (by decide) (ce_0 _) rfl rfl rfl hR hcs hw hdg kk

theorem dX8_headOf_0 : decode cX8_headOf 0 = .ok (.aload_n 0, 1) := by decide +kernel
theorem dX8_headOf_1 : decode cX8_headOf 1 = .ok (.getfield 23, 3) := by decide +kernel
theorem dX8_headOf_4 : decode cX8_headOf 4 = .ok (.iload_n 1, 1) := by decide +kernel
theorem dX8_headOf_5 : decode cX8_headOf 5 = .ok (.invokevirtual 44, 3) := by decide +kernel
theorem dX8_headOf_8 : decode cX8_headOf 8 = .ok (.ireturn, 1) := by decide +kernel
def f_X8_headOf (V : Mem) (a1 : Int32) : Option (Int32 × Mem) :=
  bd (f_X7_get V 14 5 a1) fun r5 V5 =>
  some (r5, V5)
theorem cv_X8_headOf : CalV yX8_headOf cX8_headOf 2 (some .int) 1 := ⟨⟨⟨by decide +kernel, by decide +kernel⟩, tw_1_2, tw_2_58, by decide +kernel⟩, tw_2_56, tw_2_57⟩
set_option maxRecDepth 100000 in
set_option maxHeartbeats 4000000 in
theorem m_X8_headOf (l : Launch) (E : En) (ad : Nat → Nat) (V : Mem) (a1 : Int32) (r : Int32) (Vz : Mem) (hf : f_X8_headOf V a1 = some (r, Vz)) : MR l E ad yX8_headOf cX8_headOf 2 (some .int) 2 [.ref (ad 0), .int a1] V (some (.int r)) Vz := by
  refine ent (E := E) (ad := ad) (V := V) "LetterRepository$Store" (by decide +kernel) rfl (Nat.le_of_ble_eq_true rfl) ?_
  intro p e s m below meth c ls hC hI hl
  have hx := hC.1
  have hb := hC.2.1
  have hl : lv_has ls 2 [(0, .ref (ad 0)), (1, .int a1)] := hl
  unfold f_X8_headOf at hf
  refine lv_aload_n hx hb dX8_headOf_0 rfl (lv_at hl 0 rfl) ?_
  refine g_0_heads hC hI tw_1_101 dX8_headOf_1 ?_
  refine lv_iload_n hx hb dX8_headOf_4 rfl (lv_at hl 1 rfl) ?_
  obtain ⟨r5, V5, q5, hf⟩ := gbd hf
  refine k_X7_get row_14 hC hI hl.1 q5 tw_2_59 ⟨Nat.le_of_ble_eq_true rfl, Nat.le_of_ble_eq_true rfl⟩ ⟨Nat.le_refl _, Nat.le_refl _⟩ (Nat.le_of_ble_eq_true rfl) dX8_headOf_5 (fun H locs hI => ?_)
  exact r_iret2 hC hI hf dX8_headOf_8
theorem k_X8_headOf {p : Program} {l : Launch} {e : Env} {R : Room} {cells slots : Nat} {s : State} {m : MethodId} {args : Array Value} {below : List Frame} {meth : Method} {c : Code} {H : Heap} {locs : List Loc} {Q : State → Prop} {E : En} {ad : Nat → Nat} {V : Mem} {ow : String} {b : ByteArray} {n : Nat} {ret : Option FieldType} {pc index : Nat} {ls : Array Slot} {rest : List Value} {a1 : Int32} {r : Int32} {V1 : Mem} (hC : Cx p s m args c meth E ow b n ret) (hI : In E ad V s H locs) (hsz : ls.size = n) (hf : f_X8_headOf V a1 = some (r, V1)) (hl : Cond.methodLink ow index yX8_headOf ∈ TB) (hR : 2 + 1 ≤ R.frames ∧ 8 + (2 + 11) + 40 * 2 ≤ R.locals) (hcs : cells ≤ R.cells ∧ slots ≤ R.slots) (hw : (rest.map fun v => v.category).sum ≤ 8) (hdg : decode b pc = .ok (.invokevirtual index, 3)) (kk : ∀ (H1 : Heap) (locs1 : List Loc), In E ad V1 s H1 locs1 → W p l e R s m args below meth c H1 locs1 cells slots Q (F0 m (pc + 3) ls ((.int r) :: rest))) : W p l e R s m args below meth c H locs cells slots Q (F0 m pc ls (.int a1 :: .ref (ad 0) :: rest)) :=
  r_calV (As := [.int a1]) (rest := rest) hC hI hsz (m_X8_headOf l E ad V a1 r _ hf) cv_X8_headOf hl (by decide) (ce_0 _) rfl rfl rfl hR hcs hw hdg kk

theorem dX8_workingLetter_0 : decode cX8_workingLetter 0 = .ok (.aload_n 0, 1) := by decide +kernel
theorem dX8_workingLetter_1 : decode cX8_workingLetter 1 = .ok (.getfield 27, 3) := by decide +kernel
theorem dX8_workingLetter_4 : decode cX8_workingLetter 4 = .ok (.iload_n 1, 1) := by decide +kernel
theorem dX8_workingLetter_5 : decode cX8_workingLetter 5 = .ok (.bipush 8, 2) := by decide +kernel
theorem dX8_workingLetter_7 : decode cX8_workingLetter 7 = .ok (.imul, 1) := by decide +kernel
theorem dX8_workingLetter_8 : decode cX8_workingLetter 8 = .ok (.iload_n 2, 1) := by decide +kernel
theorem dX8_workingLetter_9 : decode cX8_workingLetter 9 = .ok (.iadd, 1) := by decide +kernel
theorem dX8_workingLetter_10 : decode cX8_workingLetter 10 = .ok (.invokevirtual 44, 3) := by decide +kernel
theorem dX8_workingLetter_13 : decode cX8_workingLetter 13 = .ok (.ireturn, 1) := by decide +kernel
def f_X8_workingLetter (V : Mem) (a1 : Int32) (a2 : Int32) : Option (Int32 × Mem) :=
  bd (f_X7_get V 16 40 ((a1 * 8) + a2)) fun r10 V10 =>
  some (r10, V10)
theorem cv_X8_workingLetter : CalV yX8_workingLetter cX8_workingLetter 3 (some .int) 2 := ⟨⟨⟨by decide +kernel, by decide +kernel⟩, tw_1_2, tw_3_149, by decide +kernel⟩, tw_3_147, tw_3_148⟩
set_option maxRecDepth 100000 in
set_option maxHeartbeats 4000000 in
theorem m_X8_workingLetter (l : Launch) (E : En) (ad : Nat → Nat) (V : Mem) (a1 : Int32) (a2 : Int32) (r : Int32) (Vz : Mem) (hf : f_X8_workingLetter V a1 a2 = some (r, Vz)) : MR l E ad yX8_workingLetter cX8_workingLetter 3 (some .int) 2 [.ref (ad 0), .int a1, .int a2] V (some (.int r)) Vz := by
  refine ent (E := E) (ad := ad) (V := V) "LetterRepository$Store" (by decide +kernel) rfl (Nat.le_of_ble_eq_true rfl) ?_
  intro p e s m below meth c ls hC hI hl
  have hx := hC.1
  have hb := hC.2.1
  have hl : lv_has ls 3 [(0, .ref (ad 0)), (1, .int a1), (2, .int a2)] := hl
  unfold f_X8_workingLetter at hf
  refine lv_aload_n hx hb dX8_workingLetter_0 rfl (lv_at hl 0 rfl) ?_
  refine g_0_working hC hI tw_1_102 dX8_workingLetter_1 ?_
  refine lv_iload_n hx hb dX8_workingLetter_4 rfl (lv_at hl 1 rfl) ?_
  refine lv_bipush (v := 8) hx hb dX8_workingLetter_5 rfl ?_
  refine lv_imul hx hb dX8_workingLetter_7 ?_
  refine lv_iload_n hx hb dX8_workingLetter_8 rfl (lv_at hl 2 rfl) ?_
  refine lv_iadd hx hb dX8_workingLetter_9 ?_
  obtain ⟨r10, V10, q10, hf⟩ := gbd hf
  refine k_X7_get row_16 hC hI hl.1 q10 tw_2_59 ⟨Nat.le_of_ble_eq_true rfl, Nat.le_of_ble_eq_true rfl⟩ ⟨Nat.le_refl _, Nat.le_refl _⟩ (Nat.le_of_ble_eq_true rfl) dX8_workingLetter_10 (fun H locs hI => ?_)
  exact r_iret2 hC hI hf dX8_workingLetter_13
theorem k_X8_workingLetter {p : Program} {l : Launch} {e : Env} {R : Room} {cells slots : Nat} {s : State} {m : MethodId} {args : Array Value} {below : List Frame} {meth : Method} {c : Code} {H : Heap} {locs : List Loc} {Q : State → Prop} {E : En} {ad : Nat → Nat} {V : Mem} {ow : String} {b : ByteArray} {n : Nat} {ret : Option FieldType} {pc index : Nat} {ls : Array Slot} {rest : List Value} {a1 : Int32} {a2 : Int32} {r : Int32} {V1 : Mem} (hC : Cx p s m args c meth E ow b n ret) (hI : In E ad V s H locs) (hsz : ls.size = n) (hf : f_X8_workingLetter V a1 a2 = some (r, V1)) (hl : Cond.methodLink ow index yX8_workingLetter ∈ TB) (hR : 2 + 1 ≤ R.frames ∧ 8 + (3 + 11) + 40 * 2 ≤ R.locals) (hcs : cells ≤ R.cells ∧ slots ≤ R.slots) (hw : (rest.map fun v => v.category).sum ≤ 8) (hdg : decode b pc = .ok (.invokevirtual index, 3)) (kk : ∀ (H1 : Heap) (locs1 : List Loc), In E ad V1 s H1 locs1 → W p l e R s m args below meth c H1 locs1 cells slots Q (F0 m (pc + 3) ls ((.int r) :: rest))) : W p l e R s m args below meth c H locs cells slots Q (F0 m pc ls (.int a2 :: .int a1 :: .ref (ad 0) :: rest)) :=
  r_calV (As := [.int a1, .int a2]) (rest := rest) hC hI hsz (m_X8_workingLetter l E ad V a1 a2 r _ hf) cv_X8_workingLetter hl (by decide) (ce_0 _) rfl rfl rfl hR hcs hw hdg kk

theorem dX8_putWorking_0 : decode cX8_putWorking 0 = .ok (.aload_n 0, 1) := by decide +kernel
theorem dX8_putWorking_1 : decode cX8_putWorking 1 = .ok (.getfield 27, 3) := by decide +kernel
theorem dX8_putWorking_4 : decode cX8_putWorking 4 = .ok (.iload_n 1, 1) := by decide +kernel
theorem dX8_putWorking_5 : decode cX8_putWorking 5 = .ok (.bipush 8, 2) := by decide +kernel
theorem dX8_putWorking_7 : decode cX8_putWorking 7 = .ok (.imul, 1) := by decide +kernel
theorem dX8_putWorking_8 : decode cX8_putWorking 8 = .ok (.iload_n 2, 1) := by decide +kernel
theorem dX8_putWorking_9 : decode cX8_putWorking 9 = .ok (.iadd, 1) := by decide +kernel
theorem dX8_putWorking_10 : decode cX8_putWorking 10 = .ok (.iload_n 3, 1) := by decide +kernel
theorem dX8_putWorking_11 : decode cX8_putWorking 11 = .ok (.invokevirtual 48, 3) := by decide +kernel
theorem dX8_putWorking_14 : decode cX8_putWorking 14 = .ok (.return_, 1) := by decide +kernel
def f_X8_putWorking (V : Mem) (a1 : Int32) (a2 : Int32) (a3 : Int32) : Option Mem :=
  bv (f_X7_set V 16 40 ((a1 * 8) + a2) a3) fun V11 =>
  some V11
theorem cv_X8_putWorking : CalV yX8_putWorking cX8_putWorking 4 none 3 := ⟨⟨⟨by decide +kernel, by decide +kernel⟩, tw_1_2, tw_3_133, by decide +kernel⟩, tw_3_132, tp_4⟩
set_option maxRecDepth 100000 in
set_option maxHeartbeats 4000000 in
theorem m_X8_putWorking (l : Launch) (E : En) (ad : Nat → Nat) (V : Mem) (a1 : Int32) (a2 : Int32) (a3 : Int32) (Vz : Mem) (hf : f_X8_putWorking V a1 a2 a3 = some Vz) : MR l E ad yX8_putWorking cX8_putWorking 4 none 2 [.ref (ad 0), .int a1, .int a2, .int a3] V none Vz := by
  refine ent (E := E) (ad := ad) (V := V) "LetterRepository$Store" (by decide +kernel) rfl (Nat.le_of_ble_eq_true rfl) ?_
  intro p e s m below meth c ls hC hI hl
  have hx := hC.1
  have hb := hC.2.1
  have hl : lv_has ls 4 [(0, .ref (ad 0)), (1, .int a1), (2, .int a2), (3, .int a3)] := hl
  unfold f_X8_putWorking at hf
  refine lv_aload_n hx hb dX8_putWorking_0 rfl (lv_at hl 0 rfl) ?_
  refine g_0_working hC hI tw_1_102 dX8_putWorking_1 ?_
  refine lv_iload_n hx hb dX8_putWorking_4 rfl (lv_at hl 1 rfl) ?_
  refine lv_bipush (v := 8) hx hb dX8_putWorking_5 rfl ?_
  refine lv_imul hx hb dX8_putWorking_7 ?_
  refine lv_iload_n hx hb dX8_putWorking_8 rfl (lv_at hl 2 rfl) ?_
  refine lv_iadd hx hb dX8_putWorking_9 ?_
  refine lv_iload_n hx hb dX8_putWorking_10 rfl (lv_at hl 3 rfl) ?_
  obtain ⟨V11, q11, hf⟩ := gbv hf
  refine k_X7_set row_16 hC hI hl.1 q11 tw_3_134 ⟨Nat.le_of_ble_eq_true rfl, Nat.le_of_ble_eq_true rfl⟩ ⟨Nat.le_refl _, Nat.le_refl _⟩ (Nat.le_of_ble_eq_true rfl) dX8_putWorking_11 (fun H locs hI => ?_)
  exact r_vret2 hC hI hf dX8_putWorking_14
theorem k_X8_putWorking {p : Program} {l : Launch} {e : Env} {R : Room} {cells slots : Nat} {s : State} {m : MethodId} {args : Array Value} {below : List Frame} {meth : Method} {c : Code} {H : Heap} {locs : List Loc} {Q : State → Prop} {E : En} {ad : Nat → Nat} {V : Mem} {ow : String} {b : ByteArray} {n : Nat} {ret : Option FieldType} {pc index : Nat} {ls : Array Slot} {rest : List Value} {a1 : Int32} {a2 : Int32} {a3 : Int32} {V1 : Mem} (hC : Cx p s m args c meth E ow b n ret) (hI : In E ad V s H locs) (hsz : ls.size = n) (hf : f_X8_putWorking V a1 a2 a3 = some V1) (hl : Cond.methodLink ow index yX8_putWorking ∈ TB) (hR : 2 + 1 ≤ R.frames ∧ 8 + (4 + 11) + 40 * 2 ≤ R.locals) (hcs : cells ≤ R.cells ∧ slots ≤ R.slots) (hw : (rest.map fun v => v.category).sum ≤ 8) (hdg : decode b pc = .ok (.invokevirtual index, 3)) (kk : ∀ (H1 : Heap) (locs1 : List Loc), In E ad V1 s H1 locs1 → W p l e R s m args below meth c H1 locs1 cells slots Q (F0 m (pc + 3) ls (rest))) : W p l e R s m args below meth c H locs cells slots Q (F0 m pc ls (.int a3 :: .int a2 :: .int a1 :: .ref (ad 0) :: rest)) :=
  r_calVv (As := [.int a1, .int a2, .int a3]) (rest := rest) hC hI hsz (m_X8_putWorking l E ad V a1 a2 a3 _ hf) cv_X8_putWorking hl (by decide) (ce_0 _) rfl rfl rfl hR hcs hw hdg kk

theorem dX8_differsFromHead_0 : decode cX8_differsFromHead 0 = .ok (.aload_n 0, 1) := by decide +kernel
theorem dX8_differsFromHead_1 : decode cX8_differsFromHead 1 = .ok (.iload_n 1, 1) := by decide +kernel
theorem dX8_differsFromHead_2 : decode cX8_differsFromHead 2 = .ok (.iload_n 2, 1) := by decide +kernel
theorem dX8_differsFromHead_3 : decode cX8_differsFromHead 3 = .ok (.invokevirtual 51, 3) := by decide +kernel
theorem dX8_differsFromHead_6 : decode cX8_differsFromHead 6 = .ok (.aload_n 0, 1) := by decide +kernel
theorem dX8_differsFromHead_7 : decode cX8_differsFromHead 7 = .ok (.getfield 12, 3) := by decide +kernel
theorem dX8_differsFromHead_10 : decode cX8_differsFromHead 10 = .ok (.aload_n 0, 1) := by decide +kernel
theorem dX8_differsFromHead_11 : decode cX8_differsFromHead 11 = .ok (.iload_n 1, 1) := by decide +kernel
theorem dX8_differsFromHead_12 : decode cX8_differsFromHead 12 = .ok (.invokevirtual 55, 3) := by decide +kernel
theorem dX8_differsFromHead_15 : decode cX8_differsFromHead 15 = .ok (.iload_n 2, 1) := by decide +kernel
theorem dX8_differsFromHead_16 : decode cX8_differsFromHead 16 = .ok (.invokevirtual 58, 3) := by decide +kernel
theorem dX8_differsFromHead_19 : decode cX8_differsFromHead 19 = .ok (.if_icmp .eq 7, 3) := by decide +kernel
theorem dX8_differsFromHead_22 : decode cX8_differsFromHead 22 = .ok (.iconst 1, 1) := by decide +kernel
theorem dX8_differsFromHead_23 : decode cX8_differsFromHead 23 = .ok (.goto 4, 3) := by decide +kernel
theorem dX8_differsFromHead_26 : decode cX8_differsFromHead 26 = .ok (.iconst 0, 1) := by decide +kernel
theorem dX8_differsFromHead_27 : decode cX8_differsFromHead 27 = .ok (.ireturn, 1) := by decide +kernel
def f_X8_differsFromHead (V : Mem) (a1 : Int32) (a2 : Int32) : Option (Int32 × Mem) :=
  bd (f_X8_workingLetter V a1 a2) fun r3 V3 =>
  bd (f_X8_headOf V3 a1) fun r12 V12 =>
  bd (f_X6_letterOf V12 r12 a2) fun r16 V16 =>
  if r3 = r16 then
    some (0, V16)
  else
    some (1, V16)
theorem cv_X8_differsFromHead : CalV yX8_differsFromHead cX8_differsFromHead 3 (some .boolean) 2 := ⟨⟨⟨by decide +kernel, by decide +kernel⟩, tw_1_2, tw_3_145, by decide +kernel⟩, tw_3_143, tw_3_144⟩
set_option maxRecDepth 100000 in
set_option maxHeartbeats 4000000 in
theorem m_X8_differsFromHead (l : Launch) (E : En) (ad : Nat → Nat) (V : Mem) (a1 : Int32) (a2 : Int32) (r : Int32) (Vz : Mem) (hf : f_X8_differsFromHead V a1 a2 = some (r, Vz)) : MR l E ad yX8_differsFromHead cX8_differsFromHead 3 (some .boolean) 3 [.ref (ad 0), .int a1, .int a2] V (some (.int r)) Vz := by
  refine ent (E := E) (ad := ad) (V := V) "LetterRepository$Store" (by decide +kernel) rfl (Nat.le_of_ble_eq_true rfl) ?_
  intro p e s m below meth c ls hC hI hl
  have hx := hC.1
  have hb := hC.2.1
  have hl : lv_has ls 3 [(0, .ref (ad 0)), (1, .int a1), (2, .int a2)] := hl
  unfold f_X8_differsFromHead at hf
  refine lv_aload_n hx hb dX8_differsFromHead_0 rfl (lv_at hl 0 rfl) ?_
  refine lv_iload_n hx hb dX8_differsFromHead_1 rfl (lv_at hl 1 rfl) ?_
  refine lv_iload_n hx hb dX8_differsFromHead_2 rfl (lv_at hl 2 rfl) ?_
  obtain ⟨r3, V3, q3, hf⟩ := gbd hf
  refine k_X8_workingLetter hC hI hl.1 q3 tw_3_146 ⟨Nat.le_of_ble_eq_true rfl, Nat.le_of_ble_eq_true rfl⟩ ⟨Nat.le_refl _, Nat.le_refl _⟩ (Nat.le_of_ble_eq_true rfl) dX8_differsFromHead_3 (fun H locs hI => ?_)
  refine lv_aload_n hx hb dX8_differsFromHead_6 rfl (lv_at hl 0 rfl) ?_
  refine g_0_revisions hC hI tw_1_99 dX8_differsFromHead_7 ?_
  refine lv_aload_n hx hb dX8_differsFromHead_10 rfl (lv_at hl 0 rfl) ?_
  refine lv_iload_n hx hb dX8_differsFromHead_11 rfl (lv_at hl 1 rfl) ?_
  obtain ⟨r12, V12, q12, hf⟩ := gbd hf
  refine k_X8_headOf hC hI hl.1 q12 tw_2_55 ⟨Nat.le_of_ble_eq_true rfl, Nat.le_of_ble_eq_true rfl⟩ ⟨Nat.le_refl _, Nat.le_refl _⟩ (Nat.le_of_ble_eq_true rfl) dX8_differsFromHead_12 (fun H locs hI => ?_)
  refine lv_iload_n hx hb dX8_differsFromHead_15 rfl (lv_at hl 2 rfl) ?_
  obtain ⟨r16, V16, q16, hf⟩ := gbd hf
  refine k_X6_letterOf hC hI hl.1 q16 tw_3_150 ⟨Nat.le_of_ble_eq_true rfl, Nat.le_of_ble_eq_true rfl⟩ ⟨Nat.le_refl _, Nat.le_refl _⟩ (Nat.le_of_ble_eq_true rfl) dX8_differsFromHead_16 (fun H locs hI => ?_)
  refine lv_icmp_eq (tgt := 26) hx hb dX8_differsFromHead_19 (by decide) (fun c19 => ?_) (fun c19 => ?_)
  · have hf := gt hf c19
    refine lv_iconst (v := 0) hx hb dX8_differsFromHead_26 rfl ?_
    exact r_zret2 hC hI (.inl rfl) hf dX8_differsFromHead_27
  · have hf := gf hf c19
    refine lv_iconst (v := 1) hx hb dX8_differsFromHead_22 rfl ?_
    refine lv_goto (tgt := 27) hx hb dX8_differsFromHead_23 (by decide) ?_
    exact r_zret2 hC hI (.inr rfl) hf dX8_differsFromHead_27
theorem k_X8_differsFromHead {p : Program} {l : Launch} {e : Env} {R : Room} {cells slots : Nat} {s : State} {m : MethodId} {args : Array Value} {below : List Frame} {meth : Method} {c : Code} {H : Heap} {locs : List Loc} {Q : State → Prop} {E : En} {ad : Nat → Nat} {V : Mem} {ow : String} {b : ByteArray} {n : Nat} {ret : Option FieldType} {pc index : Nat} {ls : Array Slot} {rest : List Value} {a1 : Int32} {a2 : Int32} {r : Int32} {V1 : Mem} (hC : Cx p s m args c meth E ow b n ret) (hI : In E ad V s H locs) (hsz : ls.size = n) (hf : f_X8_differsFromHead V a1 a2 = some (r, V1)) (hl : Cond.methodLink ow index yX8_differsFromHead ∈ TB) (hR : 3 + 1 ≤ R.frames ∧ 8 + (3 + 11) + 40 * 3 ≤ R.locals) (hcs : cells ≤ R.cells ∧ slots ≤ R.slots) (hw : (rest.map fun v => v.category).sum ≤ 8) (hdg : decode b pc = .ok (.invokevirtual index, 3)) (kk : ∀ (H1 : Heap) (locs1 : List Loc), In E ad V1 s H1 locs1 → W p l e R s m args below meth c H1 locs1 cells slots Q (F0 m (pc + 3) ls ((.int r) :: rest))) : W p l e R s m args below meth c H locs cells slots Q (F0 m pc ls (.int a2 :: .int a1 :: .ref (ad 0) :: rest)) :=
  r_calV (As := [.int a1, .int a2]) (rest := rest) hC hI hsz (m_X8_differsFromHead l E ad V a1 a2 r _ hf) cv_X8_differsFromHead hl (by decide) (ce_0 _) rfl rfl rfl hR hcs hw hdg kk

theorem dX8_countEdits_0 : decode cX8_countEdits 0 = .ok (.iconst 0, 1) := by decide +kernel
theorem dX8_countEdits_1 : decode cX8_countEdits 1 = .ok (.istore_n 2, 1) := by decide +kernel
theorem dX8_countEdits_2 : decode cX8_countEdits 2 = .ok (.iconst 0, 1) := by decide +kernel
theorem dX8_countEdits_3 : decode cX8_countEdits 3 = .ok (.istore_n 3, 1) := by decide +kernel
theorem dX8_countEdits_4 : decode cX8_countEdits 4 = .ok (.iload_n 3, 1) := by decide +kernel
theorem dX8_countEdits_5 : decode cX8_countEdits 5 = .ok (.bipush 8, 2) := by decide +kernel
theorem dX8_countEdits_7 : decode cX8_countEdits 7 = .ok (.if_icmp .ge 21, 3) := by decide +kernel
theorem dX8_countEdits_10 : decode cX8_countEdits 10 = .ok (.aload_n 0, 1) := by decide +kernel
theorem dX8_countEdits_11 : decode cX8_countEdits 11 = .ok (.iload_n 1, 1) := by decide +kernel
theorem dX8_countEdits_12 : decode cX8_countEdits 12 = .ok (.iload_n 3, 1) := by decide +kernel
theorem dX8_countEdits_13 : decode cX8_countEdits 13 = .ok (.invokevirtual 61, 3) := by decide +kernel
theorem dX8_countEdits_16 : decode cX8_countEdits 16 = .ok (.ifCond .eq 6, 3) := by decide +kernel
theorem dX8_countEdits_19 : decode cX8_countEdits 19 = .ok (.iinc 2 1, 3) := by decide +kernel
theorem dX8_countEdits_22 : decode cX8_countEdits 22 = .ok (.iinc 3 1, 3) := by decide +kernel
theorem dX8_countEdits_25 : decode cX8_countEdits 25 = .ok (.goto (-21), 3) := by decide +kernel
theorem dX8_countEdits_28 : decode cX8_countEdits 28 = .ok (.iload_n 2, 1) := by decide +kernel
theorem dX8_countEdits_29 : decode cX8_countEdits 29 = .ok (.ireturn, 1) := by decide +kernel
def f_X8_countEdits_L4 (a1 : Int32) : Nat → Mem → Int32 → Int32 → Option (Int32 × Mem)
  | 0, _, _, _ => none
  | n4 + 1, V4, x2_4, x3_4 =>
    if 8 ≤ x3_4 then
      some (x2_4, V4)
    else
      bd (f_X8_differsFromHead V4 a1 x3_4) fun r13 V13 =>
      jn (α := Mem → Int32 → Option (Int32 × Mem)) (fun j22 =>
        if r13 = 0 then
          j22 V13 x2_4
        else
          j22 V13 (x2_4 + 1)
      ) (fun (V22 : Mem) (x2_22 : Int32) =>
        (f_X8_countEdits_L4 a1 n4) V22 x2_22 (x3_4 + 1)
      )
def f_X8_countEdits (V : Mem) (a1 : Int32) : Option (Int32 × Mem) :=
  f_X8_countEdits_L4 a1 FU V 0 0
theorem cv_X8_countEdits : CalV yX8_countEdits cX8_countEdits 4 (some .int) 1 := ⟨⟨⟨by decide +kernel, by decide +kernel⟩, tw_1_2, tw_3_141, by decide +kernel⟩, tw_3_139, tw_3_140⟩
set_option maxRecDepth 100000 in
set_option maxHeartbeats 4000000 in
theorem m_X8_countEdits (l : Launch) (E : En) (ad : Nat → Nat) (V : Mem) (a1 : Int32) (r : Int32) (Vz : Mem) (hf : f_X8_countEdits V a1 = some (r, Vz)) : MR l E ad yX8_countEdits cX8_countEdits 4 (some .int) 4 [.ref (ad 0), .int a1] V (some (.int r)) Vz := by
  refine ent (E := E) (ad := ad) (V := V) "LetterRepository$Store" (by decide +kernel) rfl (Nat.le_of_ble_eq_true rfl) ?_
  intro p e s m below meth c ls hC hI hl
  have hx := hC.1
  have hb := hC.2.1
  have hl : lv_has ls 4 [(0, .ref (ad 0)), (1, .int a1)] := hl
  unfold f_X8_countEdits at hf
  refine lv_iconst (v := 0) hx hb dX8_countEdits_0 rfl ?_
  refine lv_istore_n (lv' := [(2, .int 0), (0, .ref (ad 0)), (1, .int a1)]) hx hb dX8_countEdits_1 rfl hl (Nat.lt_of_lt_of_eq (by decide) rfl) rfl (fun ls hl => ?_)
  refine lv_iconst (v := 0) hx hb dX8_countEdits_2 rfl ?_
  refine lv_istore_n (lv' := [(3, .int 0), (2, .int 0), (0, .ref (ad 0)), (1, .int a1)]) hx hb dX8_countEdits_3 rfl hl (Nat.lt_of_lt_of_eq (by decide) rfl) rfl (fun ls hl => ?_)
  have L4 : ∀ (n4 : Nat) (V4 : Mem) (x2_4 : Int32) (x3_4 : Int32) (H : Heap) (locs : List Loc) (ls : Array Slot), f_X8_countEdits_L4 a1 n4 V4 x2_4 x3_4 = some (r, Vz) → In E ad V4 s H locs → lv_has ls 4 [(0, .ref (ad 0)), (1, .int a1), (2, .int x2_4), (3, .int x3_4)] → W p l e (rmd 4) s m ([.ref (ad 0), .int a1] : List Value).toArray below meth c H locs 0 0 (MQ below (QR E ad (some (.int r)) Vz) ([.ref (ad 0), .int a1] : List Value).toArray s 0 0 (ours E)) (F0 m 4 ls []) := by
    intro n4
    induction n4 with
    | zero => intro V4 x2_4 x3_4 H locs ls hf hI hl; cases hf
    | succ n4 ih4 =>
      intro V4 x2_4 x3_4 H locs ls hf hI hl
      rw [f_X8_countEdits_L4.eq_2] at hf
      refine lv_iload_n hx hb dX8_countEdits_4 rfl (lv_at hl 3 rfl) ?_
      refine lv_bipush (v := 8) hx hb dX8_countEdits_5 rfl ?_
      refine lv_icmp_ge (tgt := 28) hx hb dX8_countEdits_7 (by decide) (fun c7 => ?_) (fun c7 => ?_)
      · have hf := gt hf c7
        refine lv_iload_n hx hb dX8_countEdits_28 rfl (lv_at hl 2 rfl) ?_
        exact r_iret2 hC hI hf dX8_countEdits_29
      · have hf := gf hf c7
        refine lv_aload_n hx hb dX8_countEdits_10 rfl (lv_at hl 0 rfl) ?_
        refine lv_iload_n hx hb dX8_countEdits_11 rfl (lv_at hl 1 rfl) ?_
        refine lv_iload_n hx hb dX8_countEdits_12 rfl (lv_at hl 3 rfl) ?_
        obtain ⟨r13, V13, q13, hf⟩ := gbd hf
        refine k_X8_differsFromHead hC hI hl.1 q13 tw_3_142 ⟨Nat.le_of_ble_eq_true rfl, Nat.le_of_ble_eq_true rfl⟩ ⟨Nat.le_refl _, Nat.le_refl _⟩ (Nat.le_of_ble_eq_true rfl) dX8_countEdits_13 (fun H locs hI => ?_)
        obtain ⟨j22, hj22, hf⟩ := gj hf
        have J22 : ∀ (V22 : Mem) (x2_22 : Int32) (H : Heap) (locs : List Loc) (ls : Array Slot), j22 V22 x2_22 = some (r, Vz) → In E ad V22 s H locs → lv_has ls 4 [(0, .ref (ad 0)), (1, .int a1), (2, .int x2_22), (3, .int x3_4)] → W p l e (rmd 4) s m ([.ref (ad 0), .int a1] : List Value).toArray below meth c H locs 0 0 (MQ below (QR E ad (some (.int r)) Vz) ([.ref (ad 0), .int a1] : List Value).toArray s 0 0 (ours E)) (F0 m 22 ls []) := by
          intro V22 x2_22 H locs ls hf hI hl
          rw [hj22] at hf
          dsimp only at hf
          refine lv_iinc (v := (x3_4 + 1)) (lv' := [(3, .int (x3_4 + 1)), (0, .ref (ad 0)), (1, .int a1), (2, .int x2_22)]) hx hb dX8_countEdits_22 hl (k := 3) rfl rfl (Nat.lt_of_lt_of_eq (by decide) rfl) rfl (fun ls hl => ?_)
          refine lv_goto (tgt := 4) hx hb dX8_countEdits_25 (by decide) ?_
          exact ih4 _ _ _ _ _ _ hf hI (lv_sub hl [1, 2, 3, 0] rfl)
        refine lv_if_eq (tgt := 22) hx hb dX8_countEdits_16 (by decide) (fun c16 => ?_) (fun c16 => ?_)
        · have hf := gt hf c16
          exact J22 _ _ _ _ _ hf hI (lv_sub hl [0, 1, 2, 3] rfl)
        · have hf := gf hf c16
          refine lv_iinc (v := (x2_4 + 1)) (lv' := [(2, .int (x2_4 + 1)), (0, .ref (ad 0)), (1, .int a1), (3, .int x3_4)]) hx hb dX8_countEdits_19 hl (k := 2) rfl rfl (Nat.lt_of_lt_of_eq (by decide) rfl) rfl (fun ls hl => ?_)
          exact J22 _ _ _ _ _ hf hI (lv_sub hl [1, 2, 0, 3] rfl)
  exact L4 _ _ _ _ _ _ _ hf hI (lv_sub hl [2, 3, 1, 0] rfl)
theorem k_X8_countEdits {p : Program} {l : Launch} {e : Env} {R : Room} {cells slots : Nat} {s : State} {m : MethodId} {args : Array Value} {below : List Frame} {meth : Method} {c : Code} {H : Heap} {locs : List Loc} {Q : State → Prop} {E : En} {ad : Nat → Nat} {V : Mem} {ow : String} {b : ByteArray} {n : Nat} {ret : Option FieldType} {pc index : Nat} {ls : Array Slot} {rest : List Value} {a1 : Int32} {r : Int32} {V1 : Mem} (hC : Cx p s m args c meth E ow b n ret) (hI : In E ad V s H locs) (hsz : ls.size = n) (hf : f_X8_countEdits V a1 = some (r, V1)) (hl : Cond.methodLink ow index yX8_countEdits ∈ TB) (hR : 4 + 1 ≤ R.frames ∧ 8 + (4 + 11) + 40 * 4 ≤ R.locals) (hcs : cells ≤ R.cells ∧ slots ≤ R.slots) (hw : (rest.map fun v => v.category).sum ≤ 8) (hdg : decode b pc = .ok (.invokevirtual index, 3)) (kk : ∀ (H1 : Heap) (locs1 : List Loc), In E ad V1 s H1 locs1 → W p l e R s m args below meth c H1 locs1 cells slots Q (F0 m (pc + 3) ls ((.int r) :: rest))) : W p l e R s m args below meth c H locs cells slots Q (F0 m pc ls (.int a1 :: .ref (ad 0) :: rest)) :=
  r_calV (As := [.int a1]) (rest := rest) hC hI hsz (m_X8_countEdits l E ad V a1 r _ hf) cv_X8_countEdits hl (by decide) (ce_0 _) rfl rfl rfl hR hcs hw hdg kk

theorem dX8_comesBefore_0 : decode cX8_comesBefore 0 = .ok (.aload_n 0, 1) := by decide +kernel
theorem dX8_comesBefore_1 : decode cX8_comesBefore 1 = .ok (.iload_n 1, 1) := by decide +kernel
theorem dX8_comesBefore_2 : decode cX8_comesBefore 2 = .ok (.invokevirtual 55, 3) := by decide +kernel
theorem dX8_comesBefore_5 : decode cX8_comesBefore 5 = .ok (.istore_n 3, 1) := by decide +kernel
theorem dX8_comesBefore_6 : decode cX8_comesBefore 6 = .ok (.aload_n 0, 1) := by decide +kernel
theorem dX8_comesBefore_7 : decode cX8_comesBefore 7 = .ok (.iload_n 2, 1) := by decide +kernel
theorem dX8_comesBefore_8 : decode cX8_comesBefore 8 = .ok (.invokevirtual 55, 3) := by decide +kernel
theorem dX8_comesBefore_11 : decode cX8_comesBefore 11 = .ok (.istore 4, 2) := by decide +kernel
theorem dX8_comesBefore_13 : decode cX8_comesBefore 13 = .ok (.aload_n 0, 1) := by decide +kernel
theorem dX8_comesBefore_14 : decode cX8_comesBefore 14 = .ok (.getfield 12, 3) := by decide +kernel
theorem dX8_comesBefore_17 : decode cX8_comesBefore 17 = .ok (.iload_n 3, 1) := by decide +kernel
theorem dX8_comesBefore_18 : decode cX8_comesBefore 18 = .ok (.invokevirtual 68, 3) := by decide +kernel
theorem dX8_comesBefore_21 : decode cX8_comesBefore 21 = .ok (.aload_n 0, 1) := by decide +kernel
theorem dX8_comesBefore_22 : decode cX8_comesBefore 22 = .ok (.getfield 12, 3) := by decide +kernel
theorem dX8_comesBefore_25 : decode cX8_comesBefore 25 = .ok (.iload 4, 2) := by decide +kernel
theorem dX8_comesBefore_27 : decode cX8_comesBefore 27 = .ok (.invokevirtual 68, 3) := by decide +kernel
theorem dX8_comesBefore_30 : decode cX8_comesBefore 30 = .ok (.if_icmp .eq 29, 3) := by decide +kernel
theorem dX8_comesBefore_33 : decode cX8_comesBefore 33 = .ok (.aload_n 0, 1) := by decide +kernel
theorem dX8_comesBefore_34 : decode cX8_comesBefore 34 = .ok (.getfield 12, 3) := by decide +kernel
theorem dX8_comesBefore_37 : decode cX8_comesBefore 37 = .ok (.iload_n 3, 1) := by decide +kernel
theorem dX8_comesBefore_38 : decode cX8_comesBefore 38 = .ok (.invokevirtual 68, 3) := by decide +kernel
theorem dX8_comesBefore_41 : decode cX8_comesBefore 41 = .ok (.aload_n 0, 1) := by decide +kernel
theorem dX8_comesBefore_42 : decode cX8_comesBefore 42 = .ok (.getfield 12, 3) := by decide +kernel
theorem dX8_comesBefore_45 : decode cX8_comesBefore 45 = .ok (.iload 4, 2) := by decide +kernel
theorem dX8_comesBefore_47 : decode cX8_comesBefore 47 = .ok (.invokevirtual 68, 3) := by decide +kernel
theorem dX8_comesBefore_50 : decode cX8_comesBefore 50 = .ok (.if_icmp .le 7, 3) := by decide +kernel
theorem dX8_comesBefore_53 : decode cX8_comesBefore 53 = .ok (.iconst 1, 1) := by decide +kernel
theorem dX8_comesBefore_54 : decode cX8_comesBefore 54 = .ok (.goto 4, 3) := by decide +kernel
theorem dX8_comesBefore_57 : decode cX8_comesBefore 57 = .ok (.iconst 0, 1) := by decide +kernel
theorem dX8_comesBefore_58 : decode cX8_comesBefore 58 = .ok (.ireturn, 1) := by decide +kernel
theorem dX8_comesBefore_59 : decode cX8_comesBefore 59 = .ok (.iload_n 3, 1) := by decide +kernel
theorem dX8_comesBefore_60 : decode cX8_comesBefore 60 = .ok (.iload 4, 2) := by decide +kernel
theorem dX8_comesBefore_62 : decode cX8_comesBefore 62 = .ok (.if_icmp .eq 17, 3) := by decide +kernel
theorem dX8_comesBefore_65 : decode cX8_comesBefore 65 = .ok (.iload_n 3, 1) := by decide +kernel
theorem dX8_comesBefore_66 : decode cX8_comesBefore 66 = .ok (.iload 4, 2) := by decide +kernel
theorem dX8_comesBefore_68 : decode cX8_comesBefore 68 = .ok (.if_icmp .le 7, 3) := by decide +kernel
theorem dX8_comesBefore_71 : decode cX8_comesBefore 71 = .ok (.iconst 1, 1) := by decide +kernel
theorem dX8_comesBefore_72 : decode cX8_comesBefore 72 = .ok (.goto 17, 3) := by decide +kernel
theorem dX8_comesBefore_75 : decode cX8_comesBefore 75 = .ok (.iconst 0, 1) := by decide +kernel
theorem dX8_comesBefore_76 : decode cX8_comesBefore 76 = .ok (.goto 13, 3) := by decide +kernel
theorem dX8_comesBefore_79 : decode cX8_comesBefore 79 = .ok (.iload_n 1, 1) := by decide +kernel
theorem dX8_comesBefore_80 : decode cX8_comesBefore 80 = .ok (.iload_n 2, 1) := by decide +kernel
theorem dX8_comesBefore_81 : decode cX8_comesBefore 81 = .ok (.if_icmp .ge 7, 3) := by decide +kernel
theorem dX8_comesBefore_84 : decode cX8_comesBefore 84 = .ok (.iconst 1, 1) := by decide +kernel
theorem dX8_comesBefore_85 : decode cX8_comesBefore 85 = .ok (.goto 4, 3) := by decide +kernel
theorem dX8_comesBefore_88 : decode cX8_comesBefore 88 = .ok (.iconst 0, 1) := by decide +kernel
theorem dX8_comesBefore_89 : decode cX8_comesBefore 89 = .ok (.ireturn, 1) := by decide +kernel
def f_X8_comesBefore (V : Mem) (a1 : Int32) (a2 : Int32) : Option (Int32 × Mem) :=
  bd (f_X8_headOf V a1) fun r2 V2 =>
  bd (f_X8_headOf V2 a2) fun r8 V8 =>
  bd (f_X6_generationOf V8 r2) fun r18 V18 =>
  bd (f_X6_generationOf V18 r8) fun r27 V27 =>
  if r18 = r27 then
    if r2 = r8 then
      if a2 ≤ a1 then
        some (0, V27)
      else
        some (1, V27)
    else
      if r2 ≤ r8 then
        some (0, V27)
      else
        some (1, V27)
  else
    bd (f_X6_generationOf V27 r2) fun r38 V38 =>
    bd (f_X6_generationOf V38 r8) fun r47 V47 =>
    if r38 ≤ r47 then
      some (0, V47)
    else
      some (1, V47)
theorem cv_X8_comesBefore : CalV yX8_comesBefore cX8_comesBefore 5 (some .boolean) 2 := ⟨⟨⟨by decide +kernel, by decide +kernel⟩, tw_1_2, tw_5_78, by decide +kernel⟩, tw_5_77, tp_11⟩
set_option maxRecDepth 100000 in
set_option maxHeartbeats 4000000 in
theorem m_X8_comesBefore (l : Launch) (E : En) (ad : Nat → Nat) (V : Mem) (a1 : Int32) (a2 : Int32) (r : Int32) (Vz : Mem) (hf : f_X8_comesBefore V a1 a2 = some (r, Vz)) : MR l E ad yX8_comesBefore cX8_comesBefore 5 (some .boolean) 3 [.ref (ad 0), .int a1, .int a2] V (some (.int r)) Vz := by
  refine ent (E := E) (ad := ad) (V := V) "LetterRepository$Store" (by decide +kernel) rfl (Nat.le_of_ble_eq_true rfl) ?_
  intro p e s m below meth c ls hC hI hl
  have hx := hC.1
  have hb := hC.2.1
  have hl : lv_has ls 5 [(0, .ref (ad 0)), (1, .int a1), (2, .int a2)] := hl
  unfold f_X8_comesBefore at hf
  refine lv_aload_n hx hb dX8_comesBefore_0 rfl (lv_at hl 0 rfl) ?_
  refine lv_iload_n hx hb dX8_comesBefore_1 rfl (lv_at hl 1 rfl) ?_
  obtain ⟨r2, V2, q2, hf⟩ := gbd hf
  refine k_X8_headOf hC hI hl.1 q2 tw_2_55 ⟨Nat.le_of_ble_eq_true rfl, Nat.le_of_ble_eq_true rfl⟩ ⟨Nat.le_refl _, Nat.le_refl _⟩ (Nat.le_of_ble_eq_true rfl) dX8_comesBefore_2 (fun H locs hI => ?_)
  refine lv_istore_n (lv' := [(3, .int r2), (0, .ref (ad 0)), (1, .int a1), (2, .int a2)]) hx hb dX8_comesBefore_5 rfl hl (Nat.lt_of_lt_of_eq (by decide) rfl) rfl (fun ls hl => ?_)
  refine lv_aload_n hx hb dX8_comesBefore_6 rfl (lv_at hl 1 rfl) ?_
  refine lv_iload_n hx hb dX8_comesBefore_7 rfl (lv_at hl 3 rfl) ?_
  obtain ⟨r8, V8, q8, hf⟩ := gbd hf
  refine k_X8_headOf hC hI hl.1 q8 tw_2_55 ⟨Nat.le_of_ble_eq_true rfl, Nat.le_of_ble_eq_true rfl⟩ ⟨Nat.le_refl _, Nat.le_refl _⟩ (Nat.le_of_ble_eq_true rfl) dX8_comesBefore_8 (fun H locs hI => ?_)
  refine lv_istore (lv' := [(4, .int r8), (3, .int r2), (0, .ref (ad 0)), (1, .int a1), (2, .int a2)]) hx hb dX8_comesBefore_11 hl (Nat.lt_of_lt_of_eq (by decide) rfl) rfl (fun ls hl => ?_)
  refine lv_aload_n hx hb dX8_comesBefore_13 rfl (lv_at hl 2 rfl) ?_
  refine g_0_revisions hC hI tw_1_99 dX8_comesBefore_14 ?_
  refine lv_iload_n hx hb dX8_comesBefore_17 rfl (lv_at hl 1 rfl) ?_
  obtain ⟨r18, V18, q18, hf⟩ := gbd hf
  refine k_X6_generationOf hC hI hl.1 q18 tw_5_79 ⟨Nat.le_of_ble_eq_true rfl, Nat.le_of_ble_eq_true rfl⟩ ⟨Nat.le_refl _, Nat.le_refl _⟩ (Nat.le_of_ble_eq_true rfl) dX8_comesBefore_18 (fun H locs hI => ?_)
  refine lv_aload_n hx hb dX8_comesBefore_21 rfl (lv_at hl 2 rfl) ?_
  refine g_0_revisions hC hI tw_1_99 dX8_comesBefore_22 ?_
  refine lv_iload hx hb dX8_comesBefore_25 (lv_at hl 0 rfl) ?_
  obtain ⟨r27, V27, q27, hf⟩ := gbd hf
  refine k_X6_generationOf hC hI hl.1 q27 tw_5_79 ⟨Nat.le_of_ble_eq_true rfl, Nat.le_of_ble_eq_true rfl⟩ ⟨Nat.le_refl _, Nat.le_refl _⟩ (Nat.le_of_ble_eq_true rfl) dX8_comesBefore_27 (fun H locs hI => ?_)
  refine lv_icmp_eq (tgt := 59) hx hb dX8_comesBefore_30 (by decide) (fun c30 => ?_) (fun c30 => ?_)
  · have hf := gt hf c30
    refine lv_iload_n hx hb dX8_comesBefore_59 rfl (lv_at hl 1 rfl) ?_
    refine lv_iload hx hb dX8_comesBefore_60 (lv_at hl 0 rfl) ?_
    refine lv_icmp_eq (tgt := 79) hx hb dX8_comesBefore_62 (by decide) (fun c62 => ?_) (fun c62 => ?_)
    · have hf := gt hf c62
      refine lv_iload_n hx hb dX8_comesBefore_79 rfl (lv_at hl 3 rfl) ?_
      refine lv_iload_n hx hb dX8_comesBefore_80 rfl (lv_at hl 4 rfl) ?_
      refine lv_icmp_ge (tgt := 88) hx hb dX8_comesBefore_81 (by decide) (fun c81 => ?_) (fun c81 => ?_)
      · have hf := gt hf c81
        refine lv_iconst (v := 0) hx hb dX8_comesBefore_88 rfl ?_
        exact r_zret2 hC hI (.inl rfl) hf dX8_comesBefore_89
      · have hf := gf hf c81
        refine lv_iconst (v := 1) hx hb dX8_comesBefore_84 rfl ?_
        refine lv_goto (tgt := 89) hx hb dX8_comesBefore_85 (by decide) ?_
        exact r_zret2 hC hI (.inr rfl) hf dX8_comesBefore_89
    · have hf := gf hf c62
      refine lv_iload_n hx hb dX8_comesBefore_65 rfl (lv_at hl 1 rfl) ?_
      refine lv_iload hx hb dX8_comesBefore_66 (lv_at hl 0 rfl) ?_
      refine lv_icmp_le (tgt := 75) hx hb dX8_comesBefore_68 (by decide) (fun c68 => ?_) (fun c68 => ?_)
      · have hf := gt hf c68
        refine lv_iconst (v := 0) hx hb dX8_comesBefore_75 rfl ?_
        refine lv_goto (tgt := 89) hx hb dX8_comesBefore_76 (by decide) ?_
        exact r_zret2 hC hI (.inl rfl) hf dX8_comesBefore_89
      · have hf := gf hf c68
        refine lv_iconst (v := 1) hx hb dX8_comesBefore_71 rfl ?_
        refine lv_goto (tgt := 89) hx hb dX8_comesBefore_72 (by decide) ?_
        exact r_zret2 hC hI (.inr rfl) hf dX8_comesBefore_89
  · have hf := gf hf c30
    refine lv_aload_n hx hb dX8_comesBefore_33 rfl (lv_at hl 2 rfl) ?_
    refine g_0_revisions hC hI tw_1_99 dX8_comesBefore_34 ?_
    refine lv_iload_n hx hb dX8_comesBefore_37 rfl (lv_at hl 1 rfl) ?_
    obtain ⟨r38, V38, q38, hf⟩ := gbd hf
    refine k_X6_generationOf hC hI hl.1 q38 tw_5_79 ⟨Nat.le_of_ble_eq_true rfl, Nat.le_of_ble_eq_true rfl⟩ ⟨Nat.le_refl _, Nat.le_refl _⟩ (Nat.le_of_ble_eq_true rfl) dX8_comesBefore_38 (fun H locs hI => ?_)
    refine lv_aload_n hx hb dX8_comesBefore_41 rfl (lv_at hl 2 rfl) ?_
    refine g_0_revisions hC hI tw_1_99 dX8_comesBefore_42 ?_
    refine lv_iload hx hb dX8_comesBefore_45 (lv_at hl 0 rfl) ?_
    obtain ⟨r47, V47, q47, hf⟩ := gbd hf
    refine k_X6_generationOf hC hI hl.1 q47 tw_5_79 ⟨Nat.le_of_ble_eq_true rfl, Nat.le_of_ble_eq_true rfl⟩ ⟨Nat.le_refl _, Nat.le_refl _⟩ (Nat.le_of_ble_eq_true rfl) dX8_comesBefore_47 (fun H locs hI => ?_)
    refine lv_icmp_le (tgt := 57) hx hb dX8_comesBefore_50 (by decide) (fun c50 => ?_) (fun c50 => ?_)
    · have hf := gt hf c50
      refine lv_iconst (v := 0) hx hb dX8_comesBefore_57 rfl ?_
      exact r_zret2 hC hI (.inl rfl) hf dX8_comesBefore_58
    · have hf := gf hf c50
      refine lv_iconst (v := 1) hx hb dX8_comesBefore_53 rfl ?_
      refine lv_goto (tgt := 58) hx hb dX8_comesBefore_54 (by decide) ?_
      exact r_zret2 hC hI (.inr rfl) hf dX8_comesBefore_58
theorem k_X8_comesBefore {p : Program} {l : Launch} {e : Env} {R : Room} {cells slots : Nat} {s : State} {m : MethodId} {args : Array Value} {below : List Frame} {meth : Method} {c : Code} {H : Heap} {locs : List Loc} {Q : State → Prop} {E : En} {ad : Nat → Nat} {V : Mem} {ow : String} {b : ByteArray} {n : Nat} {ret : Option FieldType} {pc index : Nat} {ls : Array Slot} {rest : List Value} {a1 : Int32} {a2 : Int32} {r : Int32} {V1 : Mem} (hC : Cx p s m args c meth E ow b n ret) (hI : In E ad V s H locs) (hsz : ls.size = n) (hf : f_X8_comesBefore V a1 a2 = some (r, V1)) (hl : Cond.methodLink ow index yX8_comesBefore ∈ TB) (hR : 3 + 1 ≤ R.frames ∧ 8 + (5 + 11) + 40 * 3 ≤ R.locals) (hcs : cells ≤ R.cells ∧ slots ≤ R.slots) (hw : (rest.map fun v => v.category).sum ≤ 8) (hdg : decode b pc = .ok (.invokevirtual index, 3)) (kk : ∀ (H1 : Heap) (locs1 : List Loc), In E ad V1 s H1 locs1 → W p l e R s m args below meth c H1 locs1 cells slots Q (F0 m (pc + 3) ls ((.int r) :: rest))) : W p l e R s m args below meth c H locs cells slots Q (F0 m pc ls (.int a2 :: .int a1 :: .ref (ad 0) :: rest)) :=
  r_calV (As := [.int a1, .int a2]) (rest := rest) hC hI hsz (m_X8_comesBefore l E ad V a1 a2 r _ hf) cv_X8_comesBefore hl (by decide) (ce_0 _) rfl rfl rfl hR hcs hw hdg kk

theorem dX8_branchOfRank_0 : decode cX8_branchOfRank 0 = .ok (.iconst 0, 1) := by decide +kernel
theorem dX8_branchOfRank_1 : decode cX8_branchOfRank 1 = .ok (.istore_n 2, 1) := by decide +kernel
theorem dX8_branchOfRank_2 : decode cX8_branchOfRank 2 = .ok (.iload_n 2, 1) := by decide +kernel
theorem dX8_branchOfRank_3 : decode cX8_branchOfRank 3 = .ok (.aload_n 0, 1) := by decide +kernel
theorem dX8_branchOfRank_4 : decode cX8_branchOfRank 4 = .ok (.getfield 33, 3) := by decide +kernel
theorem dX8_branchOfRank_7 : decode cX8_branchOfRank 7 = .ok (.if_icmp .ge 49, 3) := by decide +kernel
theorem dX8_branchOfRank_10 : decode cX8_branchOfRank 10 = .ok (.iconst 0, 1) := by decide +kernel
theorem dX8_branchOfRank_11 : decode cX8_branchOfRank 11 = .ok (.istore_n 3, 1) := by decide +kernel
theorem dX8_branchOfRank_12 : decode cX8_branchOfRank 12 = .ok (.iconst 0, 1) := by decide +kernel
theorem dX8_branchOfRank_13 : decode cX8_branchOfRank 13 = .ok (.istore 4, 2) := by decide +kernel
theorem dX8_branchOfRank_15 : decode cX8_branchOfRank 15 = .ok (.iload 4, 2) := by decide +kernel
theorem dX8_branchOfRank_17 : decode cX8_branchOfRank 17 = .ok (.aload_n 0, 1) := by decide +kernel
theorem dX8_branchOfRank_18 : decode cX8_branchOfRank 18 = .ok (.getfield 33, 3) := by decide +kernel
theorem dX8_branchOfRank_21 : decode cX8_branchOfRank 21 = .ok (.if_icmp .ge 22, 3) := by decide +kernel
theorem dX8_branchOfRank_24 : decode cX8_branchOfRank 24 = .ok (.aload_n 0, 1) := by decide +kernel
theorem dX8_branchOfRank_25 : decode cX8_branchOfRank 25 = .ok (.iload 4, 2) := by decide +kernel
theorem dX8_branchOfRank_27 : decode cX8_branchOfRank 27 = .ok (.iload_n 2, 1) := by decide +kernel
theorem dX8_branchOfRank_28 : decode cX8_branchOfRank 28 = .ok (.invokevirtual 65, 3) := by decide +kernel
theorem dX8_branchOfRank_31 : decode cX8_branchOfRank 31 = .ok (.ifCond .eq 6, 3) := by decide +kernel
theorem dX8_branchOfRank_34 : decode cX8_branchOfRank 34 = .ok (.iinc 3 1, 3) := by decide +kernel
theorem dX8_branchOfRank_37 : decode cX8_branchOfRank 37 = .ok (.iinc 4 1, 3) := by decide +kernel
theorem dX8_branchOfRank_40 : decode cX8_branchOfRank 40 = .ok (.goto (-25), 3) := by decide +kernel
theorem dX8_branchOfRank_43 : decode cX8_branchOfRank 43 = .ok (.iload_n 3, 1) := by decide +kernel
theorem dX8_branchOfRank_44 : decode cX8_branchOfRank 44 = .ok (.iload_n 1, 1) := by decide +kernel
theorem dX8_branchOfRank_45 : decode cX8_branchOfRank 45 = .ok (.if_icmp .ne 5, 3) := by decide +kernel
theorem dX8_branchOfRank_48 : decode cX8_branchOfRank 48 = .ok (.iload_n 2, 1) := by decide +kernel
theorem dX8_branchOfRank_49 : decode cX8_branchOfRank 49 = .ok (.ireturn, 1) := by decide +kernel
theorem dX8_branchOfRank_50 : decode cX8_branchOfRank 50 = .ok (.iinc 2 1, 3) := by decide +kernel
theorem dX8_branchOfRank_53 : decode cX8_branchOfRank 53 = .ok (.goto (-51), 3) := by decide +kernel
theorem dX8_branchOfRank_56 : decode cX8_branchOfRank 56 = .ok (.iconst (-1), 1) := by decide +kernel
theorem dX8_branchOfRank_57 : decode cX8_branchOfRank 57 = .ok (.ireturn, 1) := by decide +kernel
def f_X8_branchOfRank_L15 (a1 : Int32) (x2_2 : Int32) (j43 : Mem → Int32 → Option (Int32 × Mem)) : Nat → Mem → Int32 → Int32 → Option (Int32 × Mem)
  | 0, _, _, _ => none
  | n15 + 1, V15, x3_15, x4_15 =>
    if (V15 0 0) ≤ x4_15 then
      j43 V15 x3_15
    else
      bd (f_X8_comesBefore V15 x4_15 x2_2) fun r28 V28 =>
      jn (α := Mem → Int32 → Option (Int32 × Mem)) (fun j37 =>
        if r28 = 0 then
          j37 V28 x3_15
        else
          j37 V28 (x3_15 + 1)
      ) (fun (V37 : Mem) (x3_37 : Int32) =>
        (f_X8_branchOfRank_L15 a1 x2_2 j43 n15) V37 x3_37 (x4_15 + 1)
      )
def f_X8_branchOfRank_L2 (a1 : Int32) : Nat → Mem → Int32 → Option (Int32 × Mem)
  | 0, _, _ => none
  | n2 + 1, V2, x2_2 =>
    if (V2 0 0) ≤ x2_2 then
      some ((-1), V2)
    else
      jn (α := Mem → Int32 → Option (Int32 × Mem)) (fun j43 =>
        f_X8_branchOfRank_L15 a1 x2_2 j43 FU V2 0 0
      ) (fun (V43 : Mem) (x3_43 : Int32) =>
        if x3_43 = a1 then
          some (x2_2, V43)
        else
          (f_X8_branchOfRank_L2 a1 n2) V43 (x2_2 + 1)
      )
def f_X8_branchOfRank (V : Mem) (a1 : Int32) : Option (Int32 × Mem) :=
  f_X8_branchOfRank_L2 a1 FU V 0
theorem cv_X8_branchOfRank : CalV yX8_branchOfRank cX8_branchOfRank 5 (some .int) 1 := ⟨⟨⟨by decide +kernel, by decide +kernel⟩, tw_1_2, tw_5_74, by decide +kernel⟩, tw_5_72, tw_5_73⟩
set_option maxRecDepth 100000 in
set_option maxHeartbeats 4000000 in
theorem m_X8_branchOfRank (l : Launch) (E : En) (ad : Nat → Nat) (V : Mem) (a1 : Int32) (r : Int32) (Vz : Mem) (hf : f_X8_branchOfRank V a1 = some (r, Vz)) : MR l E ad yX8_branchOfRank cX8_branchOfRank 5 (some .int) 4 [.ref (ad 0), .int a1] V (some (.int r)) Vz := by
  refine ent (E := E) (ad := ad) (V := V) "LetterRepository$Store" (by decide +kernel) rfl (Nat.le_of_ble_eq_true rfl) ?_
  intro p e s m below meth c ls hC hI hl
  have hx := hC.1
  have hb := hC.2.1
  have hl : lv_has ls 5 [(0, .ref (ad 0)), (1, .int a1)] := hl
  unfold f_X8_branchOfRank at hf
  refine lv_iconst (v := 0) hx hb dX8_branchOfRank_0 rfl ?_
  refine lv_istore_n (lv' := [(2, .int 0), (0, .ref (ad 0)), (1, .int a1)]) hx hb dX8_branchOfRank_1 rfl hl (Nat.lt_of_lt_of_eq (by decide) rfl) rfl (fun ls hl => ?_)
  have L2 : ∀ (n2 : Nat) (V2 : Mem) (x2_2 : Int32) (H : Heap) (locs : List Loc) (ls : Array Slot), f_X8_branchOfRank_L2 a1 n2 V2 x2_2 = some (r, Vz) → In E ad V2 s H locs → lv_has ls 5 [(0, .ref (ad 0)), (1, .int a1), (2, .int x2_2)] → W p l e (rmd 4) s m ([.ref (ad 0), .int a1] : List Value).toArray below meth c H locs 0 0 (MQ below (QR E ad (some (.int r)) Vz) ([.ref (ad 0), .int a1] : List Value).toArray s 0 0 (ours E)) (F0 m 2 ls []) := by
    intro n2
    induction n2 with
    | zero => intro V2 x2_2 H locs ls hf hI hl; cases hf
    | succ n2 ih2 =>
      intro V2 x2_2 H locs ls hf hI hl
      rw [f_X8_branchOfRank_L2.eq_2] at hf
      refine lv_iload_n hx hb dX8_branchOfRank_2 rfl (lv_at hl 2 rfl) ?_
      refine lv_aload_n hx hb dX8_branchOfRank_3 rfl (lv_at hl 0 rfl) ?_
      refine g_0_branchCount hC hI tw_1_104 dX8_branchOfRank_4 ?_
      refine lv_icmp_ge (tgt := 56) hx hb dX8_branchOfRank_7 (by decide) (fun c7 => ?_) (fun c7 => ?_)
      · have hf := gt hf c7
        refine lv_iconst (v := (-1)) hx hb dX8_branchOfRank_56 rfl ?_
        exact r_iret2 hC hI hf dX8_branchOfRank_57
      · have hf := gf hf c7
        refine lv_iconst (v := 0) hx hb dX8_branchOfRank_10 rfl ?_
        refine lv_istore_n (lv' := [(3, .int 0), (0, .ref (ad 0)), (1, .int a1), (2, .int x2_2)]) hx hb dX8_branchOfRank_11 rfl hl (Nat.lt_of_lt_of_eq (by decide) rfl) rfl (fun ls hl => ?_)
        refine lv_iconst (v := 0) hx hb dX8_branchOfRank_12 rfl ?_
        refine lv_istore (lv' := [(4, .int 0), (3, .int 0), (0, .ref (ad 0)), (1, .int a1), (2, .int x2_2)]) hx hb dX8_branchOfRank_13 hl (Nat.lt_of_lt_of_eq (by decide) rfl) rfl (fun ls hl => ?_)
        obtain ⟨j43, hj43, hf⟩ := gj hf
        have J43 : ∀ (V43 : Mem) (x3_43 : Int32) (H : Heap) (locs : List Loc) (ls : Array Slot), j43 V43 x3_43 = some (r, Vz) → In E ad V43 s H locs → lv_has ls 5 [(0, .ref (ad 0)), (1, .int a1), (2, .int x2_2), (3, .int x3_43)] → W p l e (rmd 4) s m ([.ref (ad 0), .int a1] : List Value).toArray below meth c H locs 0 0 (MQ below (QR E ad (some (.int r)) Vz) ([.ref (ad 0), .int a1] : List Value).toArray s 0 0 (ours E)) (F0 m 43 ls []) := by
          intro V43 x3_43 H locs ls hf hI hl
          rw [hj43] at hf
          dsimp only at hf
          refine lv_iload_n hx hb dX8_branchOfRank_43 rfl (lv_at hl 3 rfl) ?_
          refine lv_iload_n hx hb dX8_branchOfRank_44 rfl (lv_at hl 1 rfl) ?_
          refine lv_icmp_ne (tgt := 50) hx hb dX8_branchOfRank_45 (by decide) (fun c45 => ?_) (fun c45 => ?_)
          · have hf := gf hf c45
            refine lv_iinc (v := (x2_2 + 1)) (lv' := [(2, .int (x2_2 + 1)), (0, .ref (ad 0)), (1, .int a1), (3, .int x3_43)]) hx hb dX8_branchOfRank_50 hl (k := 2) rfl rfl (Nat.lt_of_lt_of_eq (by decide) rfl) rfl (fun ls hl => ?_)
            refine lv_goto (tgt := 2) hx hb dX8_branchOfRank_53 (by decide) ?_
            exact ih2 _ _ _ _ _ hf hI (lv_sub hl [1, 2, 0] rfl)
          · have hf := gt hf c45
            refine lv_iload_n hx hb dX8_branchOfRank_48 rfl (lv_at hl 2 rfl) ?_
            exact r_iret2 hC hI hf dX8_branchOfRank_49
        have L15 : ∀ (n15 : Nat) (V15 : Mem) (x3_15 : Int32) (x4_15 : Int32) (H : Heap) (locs : List Loc) (ls : Array Slot), f_X8_branchOfRank_L15 a1 x2_2 j43 n15 V15 x3_15 x4_15 = some (r, Vz) → In E ad V15 s H locs → lv_has ls 5 [(0, .ref (ad 0)), (1, .int a1), (2, .int x2_2), (3, .int x3_15), (4, .int x4_15)] → W p l e (rmd 4) s m ([.ref (ad 0), .int a1] : List Value).toArray below meth c H locs 0 0 (MQ below (QR E ad (some (.int r)) Vz) ([.ref (ad 0), .int a1] : List Value).toArray s 0 0 (ours E)) (F0 m 15 ls []) := by
          intro n15
          induction n15 with
          | zero => intro V15 x3_15 x4_15 H locs ls hf hI hl; cases hf
          | succ n15 ih15 =>
            intro V15 x3_15 x4_15 H locs ls hf hI hl
            rw [f_X8_branchOfRank_L15.eq_2] at hf
            refine lv_iload hx hb dX8_branchOfRank_15 (lv_at hl 4 rfl) ?_
            refine lv_aload_n hx hb dX8_branchOfRank_17 rfl (lv_at hl 0 rfl) ?_
            refine g_0_branchCount hC hI tw_1_104 dX8_branchOfRank_18 ?_
            refine lv_icmp_ge (tgt := 43) hx hb dX8_branchOfRank_21 (by decide) (fun c21 => ?_) (fun c21 => ?_)
            · have hf := gt hf c21
              exact J43 _ _ _ _ _ hf hI (lv_sub hl [0, 1, 2, 3] rfl)
            · have hf := gf hf c21
              refine lv_aload_n hx hb dX8_branchOfRank_24 rfl (lv_at hl 0 rfl) ?_
              refine lv_iload hx hb dX8_branchOfRank_25 (lv_at hl 4 rfl) ?_
              refine lv_iload_n hx hb dX8_branchOfRank_27 rfl (lv_at hl 2 rfl) ?_
              obtain ⟨r28, V28, q28, hf⟩ := gbd hf
              refine k_X8_comesBefore hC hI hl.1 q28 tw_5_75 ⟨Nat.le_of_ble_eq_true rfl, Nat.le_of_ble_eq_true rfl⟩ ⟨Nat.le_refl _, Nat.le_refl _⟩ (Nat.le_of_ble_eq_true rfl) dX8_branchOfRank_28 (fun H locs hI => ?_)
              obtain ⟨j37, hj37, hf⟩ := gj hf
              have J37 : ∀ (V37 : Mem) (x3_37 : Int32) (H : Heap) (locs : List Loc) (ls : Array Slot), j37 V37 x3_37 = some (r, Vz) → In E ad V37 s H locs → lv_has ls 5 [(0, .ref (ad 0)), (1, .int a1), (2, .int x2_2), (3, .int x3_37), (4, .int x4_15)] → W p l e (rmd 4) s m ([.ref (ad 0), .int a1] : List Value).toArray below meth c H locs 0 0 (MQ below (QR E ad (some (.int r)) Vz) ([.ref (ad 0), .int a1] : List Value).toArray s 0 0 (ours E)) (F0 m 37 ls []) := by
                intro V37 x3_37 H locs ls hf hI hl
                rw [hj37] at hf
                dsimp only at hf
                refine lv_iinc (v := (x4_15 + 1)) (lv' := [(4, .int (x4_15 + 1)), (0, .ref (ad 0)), (1, .int a1), (2, .int x2_2), (3, .int x3_37)]) hx hb dX8_branchOfRank_37 hl (k := 4) rfl rfl (Nat.lt_of_lt_of_eq (by decide) rfl) rfl (fun ls hl => ?_)
                refine lv_goto (tgt := 15) hx hb dX8_branchOfRank_40 (by decide) ?_
                exact ih15 _ _ _ _ _ _ hf hI (lv_sub hl [1, 2, 3, 4, 0] rfl)
              refine lv_if_eq (tgt := 37) hx hb dX8_branchOfRank_31 (by decide) (fun c31 => ?_) (fun c31 => ?_)
              · have hf := gt hf c31
                exact J37 _ _ _ _ _ hf hI (lv_sub hl [0, 1, 2, 3, 4] rfl)
              · have hf := gf hf c31
                refine lv_iinc (v := (x3_15 + 1)) (lv' := [(3, .int (x3_15 + 1)), (0, .ref (ad 0)), (1, .int a1), (2, .int x2_2), (4, .int x4_15)]) hx hb dX8_branchOfRank_34 hl (k := 3) rfl rfl (Nat.lt_of_lt_of_eq (by decide) rfl) rfl (fun ls hl => ?_)
                exact J37 _ _ _ _ _ hf hI (lv_sub hl [1, 2, 3, 0, 4] rfl)
        exact L15 _ _ _ _ _ _ _ hf hI (lv_sub hl [2, 3, 4, 1, 0] rfl)
  exact L2 _ _ _ _ _ _ hf hI (lv_sub hl [1, 2, 0] rfl)
theorem k_X8_branchOfRank {p : Program} {l : Launch} {e : Env} {R : Room} {cells slots : Nat} {s : State} {m : MethodId} {args : Array Value} {below : List Frame} {meth : Method} {c : Code} {H : Heap} {locs : List Loc} {Q : State → Prop} {E : En} {ad : Nat → Nat} {V : Mem} {ow : String} {b : ByteArray} {n : Nat} {ret : Option FieldType} {pc index : Nat} {ls : Array Slot} {rest : List Value} {a1 : Int32} {r : Int32} {V1 : Mem} (hC : Cx p s m args c meth E ow b n ret) (hI : In E ad V s H locs) (hsz : ls.size = n) (hf : f_X8_branchOfRank V a1 = some (r, V1)) (hl : Cond.methodLink ow index yX8_branchOfRank ∈ TB) (hR : 4 + 1 ≤ R.frames ∧ 8 + (5 + 11) + 40 * 4 ≤ R.locals) (hcs : cells ≤ R.cells ∧ slots ≤ R.slots) (hw : (rest.map fun v => v.category).sum ≤ 8) (hdg : decode b pc = .ok (.invokevirtual index, 3)) (kk : ∀ (H1 : Heap) (locs1 : List Loc), In E ad V1 s H1 locs1 → W p l e R s m args below meth c H1 locs1 cells slots Q (F0 m (pc + 3) ls ((.int r) :: rest))) : W p l e R s m args below meth c H locs cells slots Q (F0 m pc ls (.int a1 :: .ref (ad 0) :: rest)) :=
  r_calV (As := [.int a1]) (rest := rest) hC hI hsz (m_X8_branchOfRank l E ad V a1 r _ hf) cv_X8_branchOfRank hl (by decide) (ce_0 _) rfl rfl rfl hR hcs hw hdg kk

theorem dX8_checkOut_0 : decode cX8_checkOut 0 = .ok (.aload_n 0, 1) := by decide +kernel
theorem dX8_checkOut_1 : decode cX8_checkOut 1 = .ok (.getfield 23, 3) := by decide +kernel
theorem dX8_checkOut_4 : decode cX8_checkOut 4 = .ok (.iload_n 1, 1) := by decide +kernel
theorem dX8_checkOut_5 : decode cX8_checkOut 5 = .ok (.iload_n 2, 1) := by decide +kernel
theorem dX8_checkOut_6 : decode cX8_checkOut 6 = .ok (.invokevirtual 48, 3) := by decide +kernel
theorem dX8_checkOut_9 : decode cX8_checkOut 9 = .ok (.iconst 0, 1) := by decide +kernel
theorem dX8_checkOut_10 : decode cX8_checkOut 10 = .ok (.istore_n 3, 1) := by decide +kernel
theorem dX8_checkOut_11 : decode cX8_checkOut 11 = .ok (.iload_n 3, 1) := by decide +kernel
theorem dX8_checkOut_12 : decode cX8_checkOut 12 = .ok (.bipush 8, 2) := by decide +kernel
theorem dX8_checkOut_14 : decode cX8_checkOut 14 = .ok (.if_icmp .ge 24, 3) := by decide +kernel
theorem dX8_checkOut_17 : decode cX8_checkOut 17 = .ok (.aload_n 0, 1) := by decide +kernel
theorem dX8_checkOut_18 : decode cX8_checkOut 18 = .ok (.iload_n 1, 1) := by decide +kernel
theorem dX8_checkOut_19 : decode cX8_checkOut 19 = .ok (.iload_n 3, 1) := by decide +kernel
theorem dX8_checkOut_20 : decode cX8_checkOut 20 = .ok (.aload_n 0, 1) := by decide +kernel
theorem dX8_checkOut_21 : decode cX8_checkOut 21 = .ok (.getfield 12, 3) := by decide +kernel
theorem dX8_checkOut_24 : decode cX8_checkOut 24 = .ok (.iload_n 2, 1) := by decide +kernel
theorem dX8_checkOut_25 : decode cX8_checkOut 25 = .ok (.iload_n 3, 1) := by decide +kernel
theorem dX8_checkOut_26 : decode cX8_checkOut 26 = .ok (.invokevirtual 58, 3) := by decide +kernel
theorem dX8_checkOut_29 : decode cX8_checkOut 29 = .ok (.invokevirtual 71, 3) := by decide +kernel
theorem dX8_checkOut_32 : decode cX8_checkOut 32 = .ok (.iinc 3 1, 3) := by decide +kernel
theorem dX8_checkOut_35 : decode cX8_checkOut 35 = .ok (.goto (-24), 3) := by decide +kernel
theorem dX8_checkOut_38 : decode cX8_checkOut 38 = .ok (.return_, 1) := by decide +kernel
def f_X8_checkOut_L11 (a1 : Int32) (a2 : Int32) : Nat → Mem → Int32 → Option Mem
  | 0, _, _ => none
  | n11 + 1, V11, x3_11 =>
    if 8 ≤ x3_11 then
      some V11
    else
      bd (f_X6_letterOf V11 a2 x3_11) fun r26 V26 =>
      bv (f_X8_putWorking V26 a1 x3_11 r26) fun V29 =>
      (f_X8_checkOut_L11 a1 a2 n11) V29 (x3_11 + 1)
def f_X8_checkOut (V : Mem) (a1 : Int32) (a2 : Int32) : Option Mem :=
  bv (f_X7_set V 14 5 a1 a2) fun V6 =>
  f_X8_checkOut_L11 a1 a2 FU V6 0
theorem cv_X8_checkOut : CalV yX8_checkOut cX8_checkOut 4 none 2 := ⟨⟨⟨by decide +kernel, by decide +kernel⟩, tw_1_2, tw_3_169, by decide +kernel⟩, tw_3_168, tp_5⟩
set_option maxRecDepth 100000 in
set_option maxHeartbeats 4000000 in
theorem m_X8_checkOut (l : Launch) (E : En) (ad : Nat → Nat) (V : Mem) (a1 : Int32) (a2 : Int32) (Vz : Mem) (hf : f_X8_checkOut V a1 a2 = some Vz) : MR l E ad yX8_checkOut cX8_checkOut 4 none 3 [.ref (ad 0), .int a1, .int a2] V none Vz := by
  refine ent (E := E) (ad := ad) (V := V) "LetterRepository$Store" (by decide +kernel) rfl (Nat.le_of_ble_eq_true rfl) ?_
  intro p e s m below meth c ls hC hI hl
  have hx := hC.1
  have hb := hC.2.1
  have hl : lv_has ls 4 [(0, .ref (ad 0)), (1, .int a1), (2, .int a2)] := hl
  unfold f_X8_checkOut at hf
  refine lv_aload_n hx hb dX8_checkOut_0 rfl (lv_at hl 0 rfl) ?_
  refine g_0_heads hC hI tw_1_101 dX8_checkOut_1 ?_
  refine lv_iload_n hx hb dX8_checkOut_4 rfl (lv_at hl 1 rfl) ?_
  refine lv_iload_n hx hb dX8_checkOut_5 rfl (lv_at hl 2 rfl) ?_
  obtain ⟨V6, q6, hf⟩ := gbv hf
  refine k_X7_set row_14 hC hI hl.1 q6 tw_3_134 ⟨Nat.le_of_ble_eq_true rfl, Nat.le_of_ble_eq_true rfl⟩ ⟨Nat.le_refl _, Nat.le_refl _⟩ (Nat.le_of_ble_eq_true rfl) dX8_checkOut_6 (fun H locs hI => ?_)
  refine lv_iconst (v := 0) hx hb dX8_checkOut_9 rfl ?_
  refine lv_istore_n (lv' := [(3, .int 0), (0, .ref (ad 0)), (1, .int a1), (2, .int a2)]) hx hb dX8_checkOut_10 rfl hl (Nat.lt_of_lt_of_eq (by decide) rfl) rfl (fun ls hl => ?_)
  have L11 : ∀ (n11 : Nat) (V11 : Mem) (x3_11 : Int32) (H : Heap) (locs : List Loc) (ls : Array Slot), f_X8_checkOut_L11 a1 a2 n11 V11 x3_11 = some Vz → In E ad V11 s H locs → lv_has ls 4 [(0, .ref (ad 0)), (1, .int a1), (2, .int a2), (3, .int x3_11)] → W p l e (rmd 3) s m ([.ref (ad 0), .int a1, .int a2] : List Value).toArray below meth c H locs 0 0 (MQ below (QR E ad none Vz) ([.ref (ad 0), .int a1, .int a2] : List Value).toArray s 0 0 (ours E)) (F0 m 11 ls []) := by
    intro n11
    induction n11 with
    | zero => intro V11 x3_11 H locs ls hf hI hl; cases hf
    | succ n11 ih11 =>
      intro V11 x3_11 H locs ls hf hI hl
      rw [f_X8_checkOut_L11.eq_2] at hf
      refine lv_iload_n hx hb dX8_checkOut_11 rfl (lv_at hl 3 rfl) ?_
      refine lv_bipush (v := 8) hx hb dX8_checkOut_12 rfl ?_
      refine lv_icmp_ge (tgt := 38) hx hb dX8_checkOut_14 (by decide) (fun c14 => ?_) (fun c14 => ?_)
      · have hf := gt hf c14
        exact r_vret2 hC hI hf dX8_checkOut_38
      · have hf := gf hf c14
        refine lv_aload_n hx hb dX8_checkOut_17 rfl (lv_at hl 0 rfl) ?_
        refine lv_iload_n hx hb dX8_checkOut_18 rfl (lv_at hl 1 rfl) ?_
        refine lv_iload_n hx hb dX8_checkOut_19 rfl (lv_at hl 3 rfl) ?_
        refine lv_aload_n hx hb dX8_checkOut_20 rfl (lv_at hl 0 rfl) ?_
        refine g_0_revisions hC hI tw_1_99 dX8_checkOut_21 ?_
        refine lv_iload_n hx hb dX8_checkOut_24 rfl (lv_at hl 2 rfl) ?_
        refine lv_iload_n hx hb dX8_checkOut_25 rfl (lv_at hl 3 rfl) ?_
        obtain ⟨r26, V26, q26, hf⟩ := gbd hf
        refine k_X6_letterOf hC hI hl.1 q26 tw_3_150 ⟨Nat.le_of_ble_eq_true rfl, Nat.le_of_ble_eq_true rfl⟩ ⟨Nat.le_refl _, Nat.le_refl _⟩ (Nat.le_of_ble_eq_true rfl) dX8_checkOut_26 (fun H locs hI => ?_)
        obtain ⟨V29, q29, hf⟩ := gbv hf
        refine k_X8_putWorking hC hI hl.1 q29 tw_3_130 ⟨Nat.le_of_ble_eq_true rfl, Nat.le_of_ble_eq_true rfl⟩ ⟨Nat.le_refl _, Nat.le_refl _⟩ (Nat.le_of_ble_eq_true rfl) dX8_checkOut_29 (fun H locs hI => ?_)
        refine lv_iinc (v := (x3_11 + 1)) (lv' := [(3, .int (x3_11 + 1)), (0, .ref (ad 0)), (1, .int a1), (2, .int a2)]) hx hb dX8_checkOut_32 hl (k := 3) rfl rfl (Nat.lt_of_lt_of_eq (by decide) rfl) rfl (fun ls hl => ?_)
        refine lv_goto (tgt := 11) hx hb dX8_checkOut_35 (by decide) ?_
        exact ih11 _ _ _ _ _ hf hI (lv_sub hl [1, 2, 3, 0] rfl)
  exact L11 _ _ _ _ _ _ hf hI (lv_sub hl [1, 2, 3, 0] rfl)
theorem k_X8_checkOut {p : Program} {l : Launch} {e : Env} {R : Room} {cells slots : Nat} {s : State} {m : MethodId} {args : Array Value} {below : List Frame} {meth : Method} {c : Code} {H : Heap} {locs : List Loc} {Q : State → Prop} {E : En} {ad : Nat → Nat} {V : Mem} {ow : String} {b : ByteArray} {n : Nat} {ret : Option FieldType} {pc index : Nat} {ls : Array Slot} {rest : List Value} {a1 : Int32} {a2 : Int32} {V1 : Mem} (hC : Cx p s m args c meth E ow b n ret) (hI : In E ad V s H locs) (hsz : ls.size = n) (hf : f_X8_checkOut V a1 a2 = some V1) (hl : Cond.methodLink ow index yX8_checkOut ∈ TB) (hR : 3 + 1 ≤ R.frames ∧ 8 + (4 + 11) + 40 * 3 ≤ R.locals) (hcs : cells ≤ R.cells ∧ slots ≤ R.slots) (hw : (rest.map fun v => v.category).sum ≤ 8) (hdg : decode b pc = .ok (.invokevirtual index, 3)) (kk : ∀ (H1 : Heap) (locs1 : List Loc), In E ad V1 s H1 locs1 → W p l e R s m args below meth c H1 locs1 cells slots Q (F0 m (pc + 3) ls (rest))) : W p l e R s m args below meth c H locs cells slots Q (F0 m pc ls (.int a2 :: .int a1 :: .ref (ad 0) :: rest)) :=
  r_calVv (As := [.int a1, .int a2]) (rest := rest) hC hI hsz (m_X8_checkOut l E ad V a1 a2 _ hf) cv_X8_checkOut hl (by decide) (ce_0 _) rfl rfl rfl hR hcs hw hdg kk

theorem dX8_refusalOfEdit_0 : decode cX8_refusalOfEdit 0 = .ok (.aload_n 0, 1) := by decide +kernel
theorem dX8_refusalOfEdit_1 : decode cX8_refusalOfEdit 1 = .ok (.iload_n 1, 1) := by decide +kernel
theorem dX8_refusalOfEdit_2 : decode cX8_refusalOfEdit 2 = .ok (.invokevirtual 75, 3) := by decide +kernel
theorem dX8_refusalOfEdit_5 : decode cX8_refusalOfEdit 5 = .ok (.ifCond .eq 10, 3) := by decide +kernel
theorem dX8_refusalOfEdit_8 : decode cX8_refusalOfEdit 8 = .ok (.iload_n 2, 1) := by decide +kernel
theorem dX8_refusalOfEdit_9 : decode cX8_refusalOfEdit 9 = .ok (.invokestatic 79, 3) := by decide +kernel
theorem dX8_refusalOfEdit_12 : decode cX8_refusalOfEdit 12 = .ok (.ifCond .ne 7, 3) := by decide +kernel
theorem dX8_refusalOfEdit_15 : decode cX8_refusalOfEdit 15 = .ok (.getstatic 82, 3) := by decide +kernel
theorem dX8_refusalOfEdit_18 : decode cX8_refusalOfEdit 18 = .ok (.areturn, 1) := by decide +kernel
theorem dX8_refusalOfEdit_19 : decode cX8_refusalOfEdit 19 = .ok (.iload_n 3, 1) := by decide +kernel
theorem dX8_refusalOfEdit_20 : decode cX8_refusalOfEdit 20 = .ok (.invokestatic 88, 3) := by decide +kernel
theorem dX8_refusalOfEdit_23 : decode cX8_refusalOfEdit 23 = .ok (.ifCond .eq 9, 3) := by decide +kernel
theorem dX8_refusalOfEdit_26 : decode cX8_refusalOfEdit 26 = .ok (.getstatic 91, 3) := by decide +kernel
theorem dX8_refusalOfEdit_29 : decode cX8_refusalOfEdit 29 = .ok (.goto 6, 3) := by decide +kernel
theorem dX8_refusalOfEdit_32 : decode cX8_refusalOfEdit 32 = .ok (.getstatic 94, 3) := by decide +kernel
theorem dX8_refusalOfEdit_35 : decode cX8_refusalOfEdit 35 = .ok (.areturn, 1) := by decide +kernel
def f_X8_refusalOfEdit (V : Mem) (a1 : Int32) (a2 : Int32) (a3 : Int32) : Option (Nat × Mem) :=
  bd (f_X8_hasBranch V a1) fun r2 V2 =>
  jn (α := Mem → Option (Nat × Mem)) (fun j15 =>
    if r2 = 0 then
      j15 V2
    else
      bd (f_X9_isField V2 a2) fun r9 V9 =>
      if r9 = 0 then
        j15 V9
      else
        bd (f_X9_isSmall V9 a3) fun r20 V20 =>
        if r20 = 0 then
          some (2, V20)
        else
          some (0, V20)
  ) (fun (V15 : Mem) =>
    some (1, V15)
  )
theorem cv_X8_refusalOfEdit : CalV yX8_refusalOfEdit cX8_refusalOfEdit 4 (some (.object "LetterRepository$Refusal")) 3 := ⟨⟨⟨by decide +kernel, by decide +kernel⟩, tw_1_2, tw_2_222, by decide +kernel⟩, tw_2_220, tw_2_221⟩
set_option maxRecDepth 100000 in
set_option maxHeartbeats 4000000 in
theorem m_X8_refusalOfEdit (l : Launch) (E : En) (ad : Nat → Nat) (V : Mem) (a1 : Int32) (a2 : Int32) (a3 : Int32) (hS : SF E) (r : Nat) (Vz : Mem) (hf : f_X8_refusalOfEdit V a1 a2 a3 = some (r, Vz)) : MR l E ad yX8_refusalOfEdit cX8_refusalOfEdit 4 (some (.object "LetterRepository$Refusal")) 2 [.ref (ad 0), .int a1, .int a2, .int a3] V (some (.ref (eR E r))) Vz := by
  refine ent (E := E) (ad := ad) (V := V) "LetterRepository$Store" (by decide +kernel) rfl (Nat.le_of_ble_eq_true rfl) ?_
  intro p e s m below meth c ls hC hI hl
  have hx := hC.1
  have hb := hC.2.1
  have hl : lv_has ls 4 [(0, .ref (ad 0)), (1, .int a1), (2, .int a2), (3, .int a3)] := hl
  unfold f_X8_refusalOfEdit at hf
  refine lv_aload_n hx hb dX8_refusalOfEdit_0 rfl (lv_at hl 0 rfl) ?_
  refine lv_iload_n hx hb dX8_refusalOfEdit_1 rfl (lv_at hl 1 rfl) ?_
  obtain ⟨r2, V2, q2, hf⟩ := gbd hf
  refine k_X8_hasBranch hC hI hl.1 q2 tw_2_223 ⟨Nat.le_of_ble_eq_true rfl, Nat.le_of_ble_eq_true rfl⟩ ⟨Nat.le_refl _, Nat.le_refl _⟩ (Nat.le_of_ble_eq_true rfl) dX8_refusalOfEdit_2 (fun H locs hI => ?_)
  obtain ⟨j15, hj15, hf⟩ := gj hf
  have J15 : ∀ (V15 : Mem) (H : Heap) (locs : List Loc) (ls : Array Slot), j15 V15 = some (r, Vz) → In E ad V15 s H locs → lv_has ls 4 [] → W p l e (rmd 2) s m ([.ref (ad 0), .int a1, .int a2, .int a3] : List Value).toArray below meth c H locs 0 0 (MQ below (QR E ad (some (.ref (eR E r))) Vz) ([.ref (ad 0), .int a1, .int a2, .int a3] : List Value).toArray s 0 0 (ours E)) (F0 m 15 ls []) := by
    intro V15 H locs ls hf hI hl
    rw [hj15] at hf
    dsimp only at hf
    refine r_gsR 1 hS hC hI (by decide) tw_2_230 dX8_refusalOfEdit_15 ?_
    exact r_aretE hC hI hf dX8_refusalOfEdit_18
  refine lv_if_eq (tgt := 15) hx hb dX8_refusalOfEdit_5 (by decide) (fun c5 => ?_) (fun c5 => ?_)
  · have hf := gt hf c5
    exact J15 _ _ _ _ hf hI (lv_sub hl [] rfl)
  · have hf := gf hf c5
    refine lv_iload_n hx hb dX8_refusalOfEdit_8 rfl (lv_at hl 2 rfl) ?_
    obtain ⟨r9, V9, q9, hf⟩ := gbd hf
    refine kN_X9_isField hC hI hl.1 q9 tw_2_227 ⟨Nat.le_of_ble_eq_true rfl, Nat.le_of_ble_eq_true rfl⟩ ⟨Nat.le_refl _, Nat.le_refl _⟩ (Nat.le_of_ble_eq_true rfl) dX8_refusalOfEdit_9 (fun H locs hI => ?_)
    refine lv_if_ne (tgt := 19) hx hb dX8_refusalOfEdit_12 (by decide) (fun c12 => ?_) (fun c12 => ?_)
    · have hf := gf hf c12
      refine lv_iload_n hx hb dX8_refusalOfEdit_19 rfl (lv_at hl 3 rfl) ?_
      obtain ⟨r20, V20, q20, hf⟩ := gbd hf
      refine kN_X9_isSmall hC hI hl.1 q20 tw_2_232 ⟨Nat.le_of_ble_eq_true rfl, Nat.le_of_ble_eq_true rfl⟩ ⟨Nat.le_refl _, Nat.le_refl _⟩ (Nat.le_of_ble_eq_true rfl) dX8_refusalOfEdit_20 (fun H locs hI => ?_)
      refine lv_if_eq (tgt := 32) hx hb dX8_refusalOfEdit_23 (by decide) (fun c23 => ?_) (fun c23 => ?_)
      · have hf := gt hf c23
        refine r_gsR 2 hS hC hI (by decide) tw_2_237 dX8_refusalOfEdit_32 ?_
        exact r_aretE hC hI hf dX8_refusalOfEdit_35
      · have hf := gf hf c23
        refine r_gsR 0 hS hC hI (by decide) tw_2_235 dX8_refusalOfEdit_26 ?_
        refine lv_goto (tgt := 35) hx hb dX8_refusalOfEdit_29 (by decide) ?_
        exact r_aretE hC hI hf dX8_refusalOfEdit_35
    · have hf := gt hf c12
      exact J15 _ _ _ _ hf hI (lv_sub hl [] rfl)
theorem k_X8_refusalOfEdit {p : Program} {l : Launch} {e : Env} {R : Room} {cells slots : Nat} {s : State} {m : MethodId} {args : Array Value} {below : List Frame} {meth : Method} {c : Code} {H : Heap} {locs : List Loc} {Q : State → Prop} {E : En} {ad : Nat → Nat} {V : Mem} {ow : String} {b : ByteArray} {n : Nat} {ret : Option FieldType} {pc index : Nat} {ls : Array Slot} {rest : List Value} {a1 : Int32} {a2 : Int32} {a3 : Int32} {r : Nat} {V1 : Mem} (hS : SF E) (hC : Cx p s m args c meth E ow b n ret) (hI : In E ad V s H locs) (hsz : ls.size = n) (hf : f_X8_refusalOfEdit V a1 a2 a3 = some (r, V1)) (hl : Cond.methodLink ow index yX8_refusalOfEdit ∈ TB) (hR : 2 + 1 ≤ R.frames ∧ 8 + (4 + 11) + 40 * 2 ≤ R.locals) (hcs : cells ≤ R.cells ∧ slots ≤ R.slots) (hw : (rest.map fun v => v.category).sum ≤ 8) (hdg : decode b pc = .ok (.invokevirtual index, 3)) (kk : ∀ (H1 : Heap) (locs1 : List Loc), In E ad V1 s H1 locs1 → W p l e R s m args below meth c H1 locs1 cells slots Q (F0 m (pc + 3) ls ((.ref (eR E r)) :: rest))) : W p l e R s m args below meth c H locs cells slots Q (F0 m pc ls (.int a3 :: .int a2 :: .int a1 :: .ref (ad 0) :: rest)) :=
  r_calV (As := [.int a1, .int a2, .int a3]) (rest := rest) hC hI hsz (m_X8_refusalOfEdit l E ad V a1 a2 a3 hS r _ hf) cv_X8_refusalOfEdit hl (by decide) (ce_0 _) rfl rfl rfl hR hcs hw hdg kk

theorem dX8_putLetter_0 : decode cX8_putLetter 0 = .ok (.aload_n 0, 1) := by decide +kernel
theorem dX8_putLetter_1 : decode cX8_putLetter 1 = .ok (.iload_n 1, 1) := by decide +kernel
theorem dX8_putLetter_2 : decode cX8_putLetter 2 = .ok (.iload_n 2, 1) := by decide +kernel
theorem dX8_putLetter_3 : decode cX8_putLetter 3 = .ok (.iload_n 3, 1) := by decide +kernel
theorem dX8_putLetter_4 : decode cX8_putLetter 4 = .ok (.invokevirtual 71, 3) := by decide +kernel
theorem dX8_putLetter_7 : decode cX8_putLetter 7 = .ok (.aload_n 0, 1) := by decide +kernel
theorem dX8_putLetter_8 : decode cX8_putLetter 8 = .ok (.iload_n 1, 1) := by decide +kernel
theorem dX8_putLetter_9 : decode cX8_putLetter 9 = .ok (.invokevirtual 97, 3) := by decide +kernel
theorem dX8_putLetter_12 : decode cX8_putLetter 12 = .ok (.ireturn, 1) := by decide +kernel
def f_X8_putLetter (V : Mem) (a1 : Int32) (a2 : Int32) (a3 : Int32) : Option (Int32 × Mem) :=
  bv (f_X8_putWorking V a1 a2 a3) fun V4 =>
  bd (f_X8_countEdits V4 a1) fun r9 V9 =>
  some (r9, V9)
theorem cv_X8_putLetter : CalV yX8_putLetter cX8_putLetter 4 (some .int) 3 := ⟨⟨⟨by decide +kernel, by decide +kernel⟩, tw_1_2, tw_3_129, by decide +kernel⟩, tw_3_127, tw_3_128⟩
set_option maxRecDepth 100000 in
set_option maxHeartbeats 4000000 in
theorem m_X8_putLetter (l : Launch) (E : En) (ad : Nat → Nat) (V : Mem) (a1 : Int32) (a2 : Int32) (a3 : Int32) (r : Int32) (Vz : Mem) (hf : f_X8_putLetter V a1 a2 a3 = some (r, Vz)) : MR l E ad yX8_putLetter cX8_putLetter 4 (some .int) 5 [.ref (ad 0), .int a1, .int a2, .int a3] V (some (.int r)) Vz := by
  refine ent (E := E) (ad := ad) (V := V) "LetterRepository$Store" (by decide +kernel) rfl (Nat.le_of_ble_eq_true rfl) ?_
  intro p e s m below meth c ls hC hI hl
  have hx := hC.1
  have hb := hC.2.1
  have hl : lv_has ls 4 [(0, .ref (ad 0)), (1, .int a1), (2, .int a2), (3, .int a3)] := hl
  unfold f_X8_putLetter at hf
  refine lv_aload_n hx hb dX8_putLetter_0 rfl (lv_at hl 0 rfl) ?_
  refine lv_iload_n hx hb dX8_putLetter_1 rfl (lv_at hl 1 rfl) ?_
  refine lv_iload_n hx hb dX8_putLetter_2 rfl (lv_at hl 2 rfl) ?_
  refine lv_iload_n hx hb dX8_putLetter_3 rfl (lv_at hl 3 rfl) ?_
  obtain ⟨V4, q4, hf⟩ := gbv hf
  refine k_X8_putWorking hC hI hl.1 q4 tw_3_130 ⟨Nat.le_of_ble_eq_true rfl, Nat.le_of_ble_eq_true rfl⟩ ⟨Nat.le_refl _, Nat.le_refl _⟩ (Nat.le_of_ble_eq_true rfl) dX8_putLetter_4 (fun H locs hI => ?_)
  refine lv_aload_n hx hb dX8_putLetter_7 rfl (lv_at hl 0 rfl) ?_
  refine lv_iload_n hx hb dX8_putLetter_8 rfl (lv_at hl 1 rfl) ?_
  obtain ⟨r9, V9, q9, hf⟩ := gbd hf
  refine k_X8_countEdits hC hI hl.1 q9 tw_3_138 ⟨Nat.le_of_ble_eq_true rfl, Nat.le_of_ble_eq_true rfl⟩ ⟨Nat.le_refl _, Nat.le_refl _⟩ (Nat.le_of_ble_eq_true rfl) dX8_putLetter_9 (fun H locs hI => ?_)
  exact r_iret2 hC hI hf dX8_putLetter_12
theorem k_X8_putLetter {p : Program} {l : Launch} {e : Env} {R : Room} {cells slots : Nat} {s : State} {m : MethodId} {args : Array Value} {below : List Frame} {meth : Method} {c : Code} {H : Heap} {locs : List Loc} {Q : State → Prop} {E : En} {ad : Nat → Nat} {V : Mem} {ow : String} {b : ByteArray} {n : Nat} {ret : Option FieldType} {pc index : Nat} {ls : Array Slot} {rest : List Value} {a1 : Int32} {a2 : Int32} {a3 : Int32} {r : Int32} {V1 : Mem} (hC : Cx p s m args c meth E ow b n ret) (hI : In E ad V s H locs) (hsz : ls.size = n) (hf : f_X8_putLetter V a1 a2 a3 = some (r, V1)) (hl : Cond.methodLink ow index yX8_putLetter ∈ TB) (hR : 5 + 1 ≤ R.frames ∧ 8 + (4 + 11) + 40 * 5 ≤ R.locals) (hcs : cells ≤ R.cells ∧ slots ≤ R.slots) (hw : (rest.map fun v => v.category).sum ≤ 8) (hdg : decode b pc = .ok (.invokevirtual index, 3)) (kk : ∀ (H1 : Heap) (locs1 : List Loc), In E ad V1 s H1 locs1 → W p l e R s m args below meth c H1 locs1 cells slots Q (F0 m (pc + 3) ls ((.int r) :: rest))) : W p l e R s m args below meth c H locs cells slots Q (F0 m pc ls (.int a3 :: .int a2 :: .int a1 :: .ref (ad 0) :: rest)) :=
  r_calV (As := [.int a1, .int a2, .int a3]) (rest := rest) hC hI hsz (m_X8_putLetter l E ad V a1 a2 a3 r _ hf) cv_X8_putLetter hl (by decide) (ce_0 _) rfl rfl rfl hR hcs hw hdg kk

theorem dX8_refusalOfRevert_0 : decode cX8_refusalOfRevert 0 = .ok (.aload_n 0, 1) := by decide +kernel
theorem dX8_refusalOfRevert_1 : decode cX8_refusalOfRevert 1 = .ok (.iload_n 1, 1) := by decide +kernel
theorem dX8_refusalOfRevert_2 : decode cX8_refusalOfRevert 2 = .ok (.invokevirtual 75, 3) := by decide +kernel
theorem dX8_refusalOfRevert_5 : decode cX8_refusalOfRevert 5 = .ok (.ifCond .eq 9, 3) := by decide +kernel
theorem dX8_refusalOfRevert_8 : decode cX8_refusalOfRevert 8 = .ok (.getstatic 91, 3) := by decide +kernel
theorem dX8_refusalOfRevert_11 : decode cX8_refusalOfRevert 11 = .ok (.goto 6, 3) := by decide +kernel
theorem dX8_refusalOfRevert_14 : decode cX8_refusalOfRevert 14 = .ok (.getstatic 82, 3) := by decide +kernel
theorem dX8_refusalOfRevert_17 : decode cX8_refusalOfRevert 17 = .ok (.areturn, 1) := by decide +kernel
def f_X8_refusalOfRevert (V : Mem) (a1 : Int32) : Option (Nat × Mem) :=
  bd (f_X8_hasBranch V a1) fun r2 V2 =>
  if r2 = 0 then
    some (1, V2)
  else
    some (0, V2)
theorem cv_X8_refusalOfRevert : CalV yX8_refusalOfRevert cX8_refusalOfRevert 2 (some (.object "LetterRepository$Refusal")) 1 := ⟨⟨⟨by decide +kernel, by decide +kernel⟩, tw_1_2, tw_3_161, by decide +kernel⟩, tw_3_159, tw_3_160⟩
set_option maxRecDepth 100000 in
set_option maxHeartbeats 4000000 in
theorem m_X8_refusalOfRevert (l : Launch) (E : En) (ad : Nat → Nat) (V : Mem) (a1 : Int32) (hS : SF E) (r : Nat) (Vz : Mem) (hf : f_X8_refusalOfRevert V a1 = some (r, Vz)) : MR l E ad yX8_refusalOfRevert cX8_refusalOfRevert 2 (some (.object "LetterRepository$Refusal")) 2 [.ref (ad 0), .int a1] V (some (.ref (eR E r))) Vz := by
  refine ent (E := E) (ad := ad) (V := V) "LetterRepository$Store" (by decide +kernel) rfl (Nat.le_of_ble_eq_true rfl) ?_
  intro p e s m below meth c ls hC hI hl
  have hx := hC.1
  have hb := hC.2.1
  have hl : lv_has ls 2 [(0, .ref (ad 0)), (1, .int a1)] := hl
  unfold f_X8_refusalOfRevert at hf
  refine lv_aload_n hx hb dX8_refusalOfRevert_0 rfl (lv_at hl 0 rfl) ?_
  refine lv_iload_n hx hb dX8_refusalOfRevert_1 rfl (lv_at hl 1 rfl) ?_
  obtain ⟨r2, V2, q2, hf⟩ := gbd hf
  refine k_X8_hasBranch hC hI hl.1 q2 tw_2_223 ⟨Nat.le_of_ble_eq_true rfl, Nat.le_of_ble_eq_true rfl⟩ ⟨Nat.le_refl _, Nat.le_refl _⟩ (Nat.le_of_ble_eq_true rfl) dX8_refusalOfRevert_2 (fun H locs hI => ?_)
  refine lv_if_eq (tgt := 14) hx hb dX8_refusalOfRevert_5 (by decide) (fun c5 => ?_) (fun c5 => ?_)
  · have hf := gt hf c5
    refine r_gsR 1 hS hC hI (by decide) tw_2_230 dX8_refusalOfRevert_14 ?_
    exact r_aretE hC hI hf dX8_refusalOfRevert_17
  · have hf := gf hf c5
    refine r_gsR 0 hS hC hI (by decide) tw_2_235 dX8_refusalOfRevert_8 ?_
    refine lv_goto (tgt := 17) hx hb dX8_refusalOfRevert_11 (by decide) ?_
    exact r_aretE hC hI hf dX8_refusalOfRevert_17
theorem k_X8_refusalOfRevert {p : Program} {l : Launch} {e : Env} {R : Room} {cells slots : Nat} {s : State} {m : MethodId} {args : Array Value} {below : List Frame} {meth : Method} {c : Code} {H : Heap} {locs : List Loc} {Q : State → Prop} {E : En} {ad : Nat → Nat} {V : Mem} {ow : String} {b : ByteArray} {n : Nat} {ret : Option FieldType} {pc index : Nat} {ls : Array Slot} {rest : List Value} {a1 : Int32} {r : Nat} {V1 : Mem} (hS : SF E) (hC : Cx p s m args c meth E ow b n ret) (hI : In E ad V s H locs) (hsz : ls.size = n) (hf : f_X8_refusalOfRevert V a1 = some (r, V1)) (hl : Cond.methodLink ow index yX8_refusalOfRevert ∈ TB) (hR : 2 + 1 ≤ R.frames ∧ 8 + (2 + 11) + 40 * 2 ≤ R.locals) (hcs : cells ≤ R.cells ∧ slots ≤ R.slots) (hw : (rest.map fun v => v.category).sum ≤ 8) (hdg : decode b pc = .ok (.invokevirtual index, 3)) (kk : ∀ (H1 : Heap) (locs1 : List Loc), In E ad V1 s H1 locs1 → W p l e R s m args below meth c H1 locs1 cells slots Q (F0 m (pc + 3) ls ((.ref (eR E r)) :: rest))) : W p l e R s m args below meth c H locs cells slots Q (F0 m pc ls (.int a1 :: .ref (ad 0) :: rest)) :=
  r_calV (As := [.int a1]) (rest := rest) hC hI hsz (m_X8_refusalOfRevert l E ad V a1 hS r _ hf) cv_X8_refusalOfRevert hl (by decide) (ce_0 _) rfl rfl rfl hR hcs hw hdg kk

theorem dX8_dropEdits_0 : decode cX8_dropEdits 0 = .ok (.aload_n 0, 1) := by decide +kernel
theorem dX8_dropEdits_1 : decode cX8_dropEdits 1 = .ok (.iload_n 1, 1) := by decide +kernel
theorem dX8_dropEdits_2 : decode cX8_dropEdits 2 = .ok (.invokevirtual 97, 3) := by decide +kernel
theorem dX8_dropEdits_5 : decode cX8_dropEdits 5 = .ok (.istore_n 2, 1) := by decide +kernel
theorem dX8_dropEdits_6 : decode cX8_dropEdits 6 = .ok (.aload_n 0, 1) := by decide +kernel
theorem dX8_dropEdits_7 : decode cX8_dropEdits 7 = .ok (.iload_n 1, 1) := by decide +kernel
theorem dX8_dropEdits_8 : decode cX8_dropEdits 8 = .ok (.aload_n 0, 1) := by decide +kernel
theorem dX8_dropEdits_9 : decode cX8_dropEdits 9 = .ok (.iload_n 1, 1) := by decide +kernel
theorem dX8_dropEdits_10 : decode cX8_dropEdits 10 = .ok (.invokevirtual 55, 3) := by decide +kernel
theorem dX8_dropEdits_13 : decode cX8_dropEdits 13 = .ok (.invokevirtual 100, 3) := by decide +kernel
theorem dX8_dropEdits_16 : decode cX8_dropEdits 16 = .ok (.iload_n 2, 1) := by decide +kernel
theorem dX8_dropEdits_17 : decode cX8_dropEdits 17 = .ok (.ireturn, 1) := by decide +kernel
def f_X8_dropEdits (V : Mem) (a1 : Int32) : Option (Int32 × Mem) :=
  bd (f_X8_countEdits V a1) fun r2 V2 =>
  bd (f_X8_headOf V2 a1) fun r10 V10 =>
  bv (f_X8_checkOut V10 a1 r10) fun V13 =>
  some (r2, V13)
theorem cv_X8_dropEdits : CalV yX8_dropEdits cX8_dropEdits 3 (some .int) 1 := ⟨⟨⟨by decide +kernel, by decide +kernel⟩, tw_1_2, tw_3_165, by decide +kernel⟩, tw_3_163, tw_3_164⟩
set_option maxRecDepth 100000 in
set_option maxHeartbeats 4000000 in
theorem m_X8_dropEdits (l : Launch) (E : En) (ad : Nat → Nat) (V : Mem) (a1 : Int32) (r : Int32) (Vz : Mem) (hf : f_X8_dropEdits V a1 = some (r, Vz)) : MR l E ad yX8_dropEdits cX8_dropEdits 3 (some .int) 5 [.ref (ad 0), .int a1] V (some (.int r)) Vz := by
  refine ent (E := E) (ad := ad) (V := V) "LetterRepository$Store" (by decide +kernel) rfl (Nat.le_of_ble_eq_true rfl) ?_
  intro p e s m below meth c ls hC hI hl
  have hx := hC.1
  have hb := hC.2.1
  have hl : lv_has ls 3 [(0, .ref (ad 0)), (1, .int a1)] := hl
  unfold f_X8_dropEdits at hf
  refine lv_aload_n hx hb dX8_dropEdits_0 rfl (lv_at hl 0 rfl) ?_
  refine lv_iload_n hx hb dX8_dropEdits_1 rfl (lv_at hl 1 rfl) ?_
  obtain ⟨r2, V2, q2, hf⟩ := gbd hf
  refine k_X8_countEdits hC hI hl.1 q2 tw_3_138 ⟨Nat.le_of_ble_eq_true rfl, Nat.le_of_ble_eq_true rfl⟩ ⟨Nat.le_refl _, Nat.le_refl _⟩ (Nat.le_of_ble_eq_true rfl) dX8_dropEdits_2 (fun H locs hI => ?_)
  refine lv_istore_n (lv' := [(2, .int r2), (0, .ref (ad 0)), (1, .int a1)]) hx hb dX8_dropEdits_5 rfl hl (Nat.lt_of_lt_of_eq (by decide) rfl) rfl (fun ls hl => ?_)
  refine lv_aload_n hx hb dX8_dropEdits_6 rfl (lv_at hl 1 rfl) ?_
  refine lv_iload_n hx hb dX8_dropEdits_7 rfl (lv_at hl 2 rfl) ?_
  refine lv_aload_n hx hb dX8_dropEdits_8 rfl (lv_at hl 1 rfl) ?_
  refine lv_iload_n hx hb dX8_dropEdits_9 rfl (lv_at hl 2 rfl) ?_
  obtain ⟨r10, V10, q10, hf⟩ := gbd hf
  refine k_X8_headOf hC hI hl.1 q10 tw_2_55 ⟨Nat.le_of_ble_eq_true rfl, Nat.le_of_ble_eq_true rfl⟩ ⟨Nat.le_refl _, Nat.le_refl _⟩ (Nat.le_of_ble_eq_true rfl) dX8_dropEdits_10 (fun H locs hI => ?_)
  obtain ⟨V13, q13, hf⟩ := gbv hf
  refine k_X8_checkOut hC hI hl.1 q13 tw_3_166 ⟨Nat.le_of_ble_eq_true rfl, Nat.le_of_ble_eq_true rfl⟩ ⟨Nat.le_refl _, Nat.le_refl _⟩ (Nat.le_of_ble_eq_true rfl) dX8_dropEdits_13 (fun H locs hI => ?_)
  refine lv_iload_n hx hb dX8_dropEdits_16 rfl (lv_at hl 0 rfl) ?_
  exact r_iret2 hC hI hf dX8_dropEdits_17
theorem k_X8_dropEdits {p : Program} {l : Launch} {e : Env} {R : Room} {cells slots : Nat} {s : State} {m : MethodId} {args : Array Value} {below : List Frame} {meth : Method} {c : Code} {H : Heap} {locs : List Loc} {Q : State → Prop} {E : En} {ad : Nat → Nat} {V : Mem} {ow : String} {b : ByteArray} {n : Nat} {ret : Option FieldType} {pc index : Nat} {ls : Array Slot} {rest : List Value} {a1 : Int32} {r : Int32} {V1 : Mem} (hC : Cx p s m args c meth E ow b n ret) (hI : In E ad V s H locs) (hsz : ls.size = n) (hf : f_X8_dropEdits V a1 = some (r, V1)) (hl : Cond.methodLink ow index yX8_dropEdits ∈ TB) (hR : 5 + 1 ≤ R.frames ∧ 8 + (3 + 11) + 40 * 5 ≤ R.locals) (hcs : cells ≤ R.cells ∧ slots ≤ R.slots) (hw : (rest.map fun v => v.category).sum ≤ 8) (hdg : decode b pc = .ok (.invokevirtual index, 3)) (kk : ∀ (H1 : Heap) (locs1 : List Loc), In E ad V1 s H1 locs1 → W p l e R s m args below meth c H1 locs1 cells slots Q (F0 m (pc + 3) ls ((.int r) :: rest))) : W p l e R s m args below meth c H locs cells slots Q (F0 m pc ls (.int a1 :: .ref (ad 0) :: rest)) :=
  r_calV (As := [.int a1]) (rest := rest) hC hI hsz (m_X8_dropEdits l E ad V a1 r _ hf) cv_X8_dropEdits hl (by decide) (ce_0 _) rfl rfl rfl hR hcs hw hdg kk

theorem dX8_refusalOfCommit_0 : decode cX8_refusalOfCommit 0 = .ok (.aload_n 0, 1) := by decide +kernel
theorem dX8_refusalOfCommit_1 : decode cX8_refusalOfCommit 1 = .ok (.iload_n 1, 1) := by decide +kernel
theorem dX8_refusalOfCommit_2 : decode cX8_refusalOfCommit 2 = .ok (.invokevirtual 75, 3) := by decide +kernel
theorem dX8_refusalOfCommit_5 : decode cX8_refusalOfCommit 5 = .ok (.ifCond .ne 7, 3) := by decide +kernel
theorem dX8_refusalOfCommit_8 : decode cX8_refusalOfCommit 8 = .ok (.getstatic 82, 3) := by decide +kernel
theorem dX8_refusalOfCommit_11 : decode cX8_refusalOfCommit 11 = .ok (.areturn, 1) := by decide +kernel
theorem dX8_refusalOfCommit_12 : decode cX8_refusalOfCommit 12 = .ok (.iload_n 2, 1) := by decide +kernel
theorem dX8_refusalOfCommit_13 : decode cX8_refusalOfCommit 13 = .ok (.invokestatic 103, 3) := by decide +kernel
theorem dX8_refusalOfCommit_16 : decode cX8_refusalOfCommit 16 = .ok (.ifCond .ne 7, 3) := by decide +kernel
theorem dX8_refusalOfCommit_19 : decode cX8_refusalOfCommit 19 = .ok (.getstatic 94, 3) := by decide +kernel
theorem dX8_refusalOfCommit_22 : decode cX8_refusalOfCommit 22 = .ok (.areturn, 1) := by decide +kernel
theorem dX8_refusalOfCommit_23 : decode cX8_refusalOfCommit 23 = .ok (.aload_n 0, 1) := by decide +kernel
theorem dX8_refusalOfCommit_24 : decode cX8_refusalOfCommit 24 = .ok (.iload_n 1, 1) := by decide +kernel
theorem dX8_refusalOfCommit_25 : decode cX8_refusalOfCommit 25 = .ok (.invokevirtual 97, 3) := by decide +kernel
theorem dX8_refusalOfCommit_28 : decode cX8_refusalOfCommit 28 = .ok (.ifCond .eq 13, 3) := by decide +kernel
theorem dX8_refusalOfCommit_31 : decode cX8_refusalOfCommit 31 = .ok (.aload_n 0, 1) := by decide +kernel
theorem dX8_refusalOfCommit_32 : decode cX8_refusalOfCommit 32 = .ok (.getfield 12, 3) := by decide +kernel
theorem dX8_refusalOfCommit_35 : decode cX8_refusalOfCommit 35 = .ok (.invokevirtual 106, 3) := by decide +kernel
theorem dX8_refusalOfCommit_38 : decode cX8_refusalOfCommit 38 = .ok (.ifCond .eq 9, 3) := by decide +kernel
theorem dX8_refusalOfCommit_41 : decode cX8_refusalOfCommit 41 = .ok (.getstatic 110, 3) := by decide +kernel
theorem dX8_refusalOfCommit_44 : decode cX8_refusalOfCommit 44 = .ok (.goto 6, 3) := by decide +kernel
theorem dX8_refusalOfCommit_47 : decode cX8_refusalOfCommit 47 = .ok (.getstatic 91, 3) := by decide +kernel
theorem dX8_refusalOfCommit_50 : decode cX8_refusalOfCommit 50 = .ok (.areturn, 1) := by decide +kernel
def f_X8_refusalOfCommit (V : Mem) (a1 : Int32) (a2 : Int32) : Option (Nat × Mem) :=
  bd (f_X8_hasBranch V a1) fun r2 V2 =>
  if r2 = 0 then
    some (1, V2)
  else
    bd (f_X9_isAuthor V2 a2) fun r13 V13 =>
    if r13 = 0 then
      some (2, V13)
    else
      bd (f_X8_countEdits V13 a1) fun r25 V25 =>
      jn (α := Mem → Option (Nat × Mem)) (fun j41 =>
        if r25 = 0 then
          j41 V25
        else
          bd (f_X6_isFull V25) fun r35 V35 =>
          if r35 = 0 then
            some (0, V35)
          else
            j41 V35
      ) (fun (V41 : Mem) =>
        some (4, V41)
      )
theorem cv_X8_refusalOfCommit : CalV yX8_refusalOfCommit cX8_refusalOfCommit 3 (some (.object "LetterRepository$Refusal")) 2 := ⟨⟨⟨by decide +kernel, by decide +kernel⟩, tw_1_2, tw_3_181, by decide +kernel⟩, tw_3_179, tw_3_180⟩
set_option maxRecDepth 100000 in
set_option maxHeartbeats 4000000 in
theorem m_X8_refusalOfCommit (l : Launch) (E : En) (ad : Nat → Nat) (V : Mem) (a1 : Int32) (a2 : Int32) (hS : SF E) (r : Nat) (Vz : Mem) (hf : f_X8_refusalOfCommit V a1 a2 = some (r, Vz)) : MR l E ad yX8_refusalOfCommit cX8_refusalOfCommit 3 (some (.object "LetterRepository$Refusal")) 5 [.ref (ad 0), .int a1, .int a2] V (some (.ref (eR E r))) Vz := by
  refine ent (E := E) (ad := ad) (V := V) "LetterRepository$Store" (by decide +kernel) rfl (Nat.le_of_ble_eq_true rfl) ?_
  intro p e s m below meth c ls hC hI hl
  have hx := hC.1
  have hb := hC.2.1
  have hl : lv_has ls 3 [(0, .ref (ad 0)), (1, .int a1), (2, .int a2)] := hl
  unfold f_X8_refusalOfCommit at hf
  refine lv_aload_n hx hb dX8_refusalOfCommit_0 rfl (lv_at hl 0 rfl) ?_
  refine lv_iload_n hx hb dX8_refusalOfCommit_1 rfl (lv_at hl 1 rfl) ?_
  obtain ⟨r2, V2, q2, hf⟩ := gbd hf
  refine k_X8_hasBranch hC hI hl.1 q2 tw_2_223 ⟨Nat.le_of_ble_eq_true rfl, Nat.le_of_ble_eq_true rfl⟩ ⟨Nat.le_refl _, Nat.le_refl _⟩ (Nat.le_of_ble_eq_true rfl) dX8_refusalOfCommit_2 (fun H locs hI => ?_)
  refine lv_if_ne (tgt := 12) hx hb dX8_refusalOfCommit_5 (by decide) (fun c5 => ?_) (fun c5 => ?_)
  · have hf := gf hf c5
    refine lv_iload_n hx hb dX8_refusalOfCommit_12 rfl (lv_at hl 2 rfl) ?_
    obtain ⟨r13, V13, q13, hf⟩ := gbd hf
    refine kN_X9_isAuthor hC hI hl.1 q13 tw_3_182 ⟨Nat.le_of_ble_eq_true rfl, Nat.le_of_ble_eq_true rfl⟩ ⟨Nat.le_refl _, Nat.le_refl _⟩ (Nat.le_of_ble_eq_true rfl) dX8_refusalOfCommit_13 (fun H locs hI => ?_)
    refine lv_if_ne (tgt := 23) hx hb dX8_refusalOfCommit_16 (by decide) (fun c16 => ?_) (fun c16 => ?_)
    · have hf := gf hf c16
      refine lv_aload_n hx hb dX8_refusalOfCommit_23 rfl (lv_at hl 0 rfl) ?_
      refine lv_iload_n hx hb dX8_refusalOfCommit_24 rfl (lv_at hl 1 rfl) ?_
      obtain ⟨r25, V25, q25, hf⟩ := gbd hf
      refine k_X8_countEdits hC hI hl.1 q25 tw_3_138 ⟨Nat.le_of_ble_eq_true rfl, Nat.le_of_ble_eq_true rfl⟩ ⟨Nat.le_refl _, Nat.le_refl _⟩ (Nat.le_of_ble_eq_true rfl) dX8_refusalOfCommit_25 (fun H locs hI => ?_)
      obtain ⟨j41, hj41, hf⟩ := gj hf
      have J41 : ∀ (V41 : Mem) (H : Heap) (locs : List Loc) (ls : Array Slot), j41 V41 = some (r, Vz) → In E ad V41 s H locs → lv_has ls 3 [] → W p l e (rmd 5) s m ([.ref (ad 0), .int a1, .int a2] : List Value).toArray below meth c H locs 0 0 (MQ below (QR E ad (some (.ref (eR E r))) Vz) ([.ref (ad 0), .int a1, .int a2] : List Value).toArray s 0 0 (ours E)) (F0 m 41 ls []) := by
        intro V41 H locs ls hf hI hl
        rw [hj41] at hf
        dsimp only at hf
        refine r_gsR 4 hS hC hI (by decide) tw_3_189 dX8_refusalOfCommit_41 ?_
        refine lv_goto (tgt := 50) hx hb dX8_refusalOfCommit_44 (by decide) ?_
        exact r_aretE hC hI hf dX8_refusalOfCommit_50
      refine lv_if_eq (tgt := 41) hx hb dX8_refusalOfCommit_28 (by decide) (fun c28 => ?_) (fun c28 => ?_)
      · have hf := gt hf c28
        exact J41 _ _ _ _ hf hI (lv_sub hl [] rfl)
      · have hf := gf hf c28
        refine lv_aload_n hx hb dX8_refusalOfCommit_31 rfl (lv_at hl 0 rfl) ?_
        refine g_0_revisions hC hI tw_1_99 dX8_refusalOfCommit_32 ?_
        obtain ⟨r35, V35, q35, hf⟩ := gbd hf
        refine k_X6_isFull hC hI hl.1 q35 tw_3_185 ⟨Nat.le_of_ble_eq_true rfl, Nat.le_of_ble_eq_true rfl⟩ ⟨Nat.le_refl _, Nat.le_refl _⟩ (Nat.le_of_ble_eq_true rfl) dX8_refusalOfCommit_35 (fun H locs hI => ?_)
        refine lv_if_eq (tgt := 47) hx hb dX8_refusalOfCommit_38 (by decide) (fun c38 => ?_) (fun c38 => ?_)
        · have hf := gt hf c38
          refine r_gsR 0 hS hC hI (by decide) tw_2_235 dX8_refusalOfCommit_47 ?_
          exact r_aretE hC hI hf dX8_refusalOfCommit_50
        · have hf := gf hf c38
          exact J41 _ _ _ _ hf hI (lv_sub hl [] rfl)
    · have hf := gt hf c16
      refine r_gsR 2 hS hC hI (by decide) tw_2_237 dX8_refusalOfCommit_19 ?_
      exact r_aretE hC hI hf dX8_refusalOfCommit_22
  · have hf := gt hf c5
    refine r_gsR 1 hS hC hI (by decide) tw_2_230 dX8_refusalOfCommit_8 ?_
    exact r_aretE hC hI hf dX8_refusalOfCommit_11
theorem k_X8_refusalOfCommit {p : Program} {l : Launch} {e : Env} {R : Room} {cells slots : Nat} {s : State} {m : MethodId} {args : Array Value} {below : List Frame} {meth : Method} {c : Code} {H : Heap} {locs : List Loc} {Q : State → Prop} {E : En} {ad : Nat → Nat} {V : Mem} {ow : String} {b : ByteArray} {n : Nat} {ret : Option FieldType} {pc index : Nat} {ls : Array Slot} {rest : List Value} {a1 : Int32} {a2 : Int32} {r : Nat} {V1 : Mem} (hS : SF E) (hC : Cx p s m args c meth E ow b n ret) (hI : In E ad V s H locs) (hsz : ls.size = n) (hf : f_X8_refusalOfCommit V a1 a2 = some (r, V1)) (hl : Cond.methodLink ow index yX8_refusalOfCommit ∈ TB) (hR : 5 + 1 ≤ R.frames ∧ 8 + (3 + 11) + 40 * 5 ≤ R.locals) (hcs : cells ≤ R.cells ∧ slots ≤ R.slots) (hw : (rest.map fun v => v.category).sum ≤ 8) (hdg : decode b pc = .ok (.invokevirtual index, 3)) (kk : ∀ (H1 : Heap) (locs1 : List Loc), In E ad V1 s H1 locs1 → W p l e R s m args below meth c H1 locs1 cells slots Q (F0 m (pc + 3) ls ((.ref (eR E r)) :: rest))) : W p l e R s m args below meth c H locs cells slots Q (F0 m pc ls (.int a2 :: .int a1 :: .ref (ad 0) :: rest)) :=
  r_calV (As := [.int a1, .int a2]) (rest := rest) hC hI hsz (m_X8_refusalOfCommit l E ad V a1 a2 hS r _ hf) cv_X8_refusalOfCommit hl (by decide) (ce_0 _) rfl rfl rfl hR hcs hw hdg kk

theorem dX8_commitWorking_0 : decode cX8_commitWorking 0 = .ok (.aload_n 0, 1) := by decide +kernel
theorem dX8_commitWorking_1 : decode cX8_commitWorking 1 = .ok (.getfield 12, 3) := by decide +kernel
theorem dX8_commitWorking_4 : decode cX8_commitWorking 4 = .ok (.aload_n 0, 1) := by decide +kernel
theorem dX8_commitWorking_5 : decode cX8_commitWorking 5 = .ok (.iload_n 1, 1) := by decide +kernel
theorem dX8_commitWorking_6 : decode cX8_commitWorking 6 = .ok (.invokevirtual 55, 3) := by decide +kernel
theorem dX8_commitWorking_9 : decode cX8_commitWorking 9 = .ok (.iconst (-1), 1) := by decide +kernel
theorem dX8_commitWorking_10 : decode cX8_commitWorking 10 = .ok (.iload_n 2, 1) := by decide +kernel
theorem dX8_commitWorking_11 : decode cX8_commitWorking 11 = .ok (.invokevirtual 113, 3) := by decide +kernel
theorem dX8_commitWorking_14 : decode cX8_commitWorking 14 = .ok (.istore_n 3, 1) := by decide +kernel
theorem dX8_commitWorking_15 : decode cX8_commitWorking 15 = .ok (.iconst 0, 1) := by decide +kernel
theorem dX8_commitWorking_16 : decode cX8_commitWorking 16 = .ok (.istore 4, 2) := by decide +kernel
theorem dX8_commitWorking_18 : decode cX8_commitWorking 18 = .ok (.iload 4, 2) := by decide +kernel
theorem dX8_commitWorking_20 : decode cX8_commitWorking 20 = .ok (.bipush 8, 2) := by decide +kernel
theorem dX8_commitWorking_22 : decode cX8_commitWorking 22 = .ok (.if_icmp .ge 26, 3) := by decide +kernel
theorem dX8_commitWorking_25 : decode cX8_commitWorking 25 = .ok (.aload_n 0, 1) := by decide +kernel
theorem dX8_commitWorking_26 : decode cX8_commitWorking 26 = .ok (.getfield 12, 3) := by decide +kernel
theorem dX8_commitWorking_29 : decode cX8_commitWorking 29 = .ok (.iload_n 3, 1) := by decide +kernel
theorem dX8_commitWorking_30 : decode cX8_commitWorking 30 = .ok (.iload 4, 2) := by decide +kernel
theorem dX8_commitWorking_32 : decode cX8_commitWorking 32 = .ok (.aload_n 0, 1) := by decide +kernel
theorem dX8_commitWorking_33 : decode cX8_commitWorking 33 = .ok (.iload_n 1, 1) := by decide +kernel
theorem dX8_commitWorking_34 : decode cX8_commitWorking 34 = .ok (.iload 4, 2) := by decide +kernel
theorem dX8_commitWorking_36 : decode cX8_commitWorking 36 = .ok (.invokevirtual 51, 3) := by decide +kernel
theorem dX8_commitWorking_39 : decode cX8_commitWorking 39 = .ok (.invokevirtual 117, 3) := by decide +kernel
theorem dX8_commitWorking_42 : decode cX8_commitWorking 42 = .ok (.iinc 4 1, 3) := by decide +kernel
theorem dX8_commitWorking_45 : decode cX8_commitWorking 45 = .ok (.goto (-27), 3) := by decide +kernel
theorem dX8_commitWorking_48 : decode cX8_commitWorking 48 = .ok (.aload_n 0, 1) := by decide +kernel
theorem dX8_commitWorking_49 : decode cX8_commitWorking 49 = .ok (.getfield 23, 3) := by decide +kernel
theorem dX8_commitWorking_52 : decode cX8_commitWorking 52 = .ok (.iload_n 1, 1) := by decide +kernel
theorem dX8_commitWorking_53 : decode cX8_commitWorking 53 = .ok (.iload_n 3, 1) := by decide +kernel
theorem dX8_commitWorking_54 : decode cX8_commitWorking 54 = .ok (.invokevirtual 48, 3) := by decide +kernel
theorem dX8_commitWorking_57 : decode cX8_commitWorking 57 = .ok (.iload_n 3, 1) := by decide +kernel
theorem dX8_commitWorking_58 : decode cX8_commitWorking 58 = .ok (.ireturn, 1) := by decide +kernel
def f_X8_commitWorking_L18 (a1 : Int32) (r11 : Int32) (j48 : Mem → Option (Int32 × Mem)) : Nat → Mem → Int32 → Option (Int32 × Mem)
  | 0, _, _ => none
  | n18 + 1, V18, x4_18 =>
    if 8 ≤ x4_18 then
      j48 V18
    else
      bd (f_X8_workingLetter V18 a1 x4_18) fun r36 V36 =>
      bv (f_X6_putLetter V36 r11 x4_18 r36) fun V39 =>
      (f_X8_commitWorking_L18 a1 r11 j48 n18) V39 (x4_18 + 1)
def f_X8_commitWorking (V : Mem) (a1 : Int32) (a2 : Int32) : Option (Int32 × Mem) :=
  bd (f_X8_headOf V a1) fun r6 V6 =>
  bd (f_X6_add V6 r6 (-1) a2) fun r11 V11 =>
  jn (α := Mem → Option (Int32 × Mem)) (fun j48 =>
    f_X8_commitWorking_L18 a1 r11 j48 FU V11 0
  ) (fun (V48 : Mem) =>
    bv (f_X7_set V48 14 5 a1 r11) fun V54 =>
    some (r11, V54)
  )
theorem cv_X8_commitWorking : CalV yX8_commitWorking cX8_commitWorking 5 (some .int) 2 := ⟨⟨⟨by decide +kernel, by decide +kernel⟩, tw_1_2, tw_3_193, by decide +kernel⟩, tw_3_191, tw_3_192⟩
set_option maxRecDepth 100000 in
set_option maxHeartbeats 4000000 in
theorem m_X8_commitWorking (l : Launch) (E : En) (ad : Nat → Nat) (V : Mem) (a1 : Int32) (a2 : Int32) (r : Int32) (Vz : Mem) (hf : f_X8_commitWorking V a1 a2 = some (r, Vz)) : MR l E ad yX8_commitWorking cX8_commitWorking 5 (some .int) 4 [.ref (ad 0), .int a1, .int a2] V (some (.int r)) Vz := by
  refine ent (E := E) (ad := ad) (V := V) "LetterRepository$Store" (by decide +kernel) rfl (Nat.le_of_ble_eq_true rfl) ?_
  intro p e s m below meth c ls hC hI hl
  have hx := hC.1
  have hb := hC.2.1
  have hl : lv_has ls 5 [(0, .ref (ad 0)), (1, .int a1), (2, .int a2)] := hl
  unfold f_X8_commitWorking at hf
  refine lv_aload_n hx hb dX8_commitWorking_0 rfl (lv_at hl 0 rfl) ?_
  refine g_0_revisions hC hI tw_1_99 dX8_commitWorking_1 ?_
  refine lv_aload_n hx hb dX8_commitWorking_4 rfl (lv_at hl 0 rfl) ?_
  refine lv_iload_n hx hb dX8_commitWorking_5 rfl (lv_at hl 1 rfl) ?_
  obtain ⟨r6, V6, q6, hf⟩ := gbd hf
  refine k_X8_headOf hC hI hl.1 q6 tw_2_55 ⟨Nat.le_of_ble_eq_true rfl, Nat.le_of_ble_eq_true rfl⟩ ⟨Nat.le_refl _, Nat.le_refl _⟩ (Nat.le_of_ble_eq_true rfl) dX8_commitWorking_6 (fun H locs hI => ?_)
  refine lv_iconst (v := (-1)) hx hb dX8_commitWorking_9 rfl ?_
  refine lv_iload_n hx hb dX8_commitWorking_10 rfl (lv_at hl 2 rfl) ?_
  obtain ⟨r11, V11, q11, hf⟩ := gbd hf
  refine k_X6_add hC hI hl.1 q11 tw_3_194 ⟨Nat.le_of_ble_eq_true rfl, Nat.le_of_ble_eq_true rfl⟩ ⟨Nat.le_refl _, Nat.le_refl _⟩ (Nat.le_of_ble_eq_true rfl) dX8_commitWorking_11 (fun H locs hI => ?_)
  refine lv_istore_n (lv' := [(3, .int r11), (0, .ref (ad 0)), (1, .int a1), (2, .int a2)]) hx hb dX8_commitWorking_14 rfl hl (Nat.lt_of_lt_of_eq (by decide) rfl) rfl (fun ls hl => ?_)
  refine lv_iconst (v := 0) hx hb dX8_commitWorking_15 rfl ?_
  refine lv_istore (lv' := [(4, .int 0), (3, .int r11), (0, .ref (ad 0)), (1, .int a1), (2, .int a2)]) hx hb dX8_commitWorking_16 hl (Nat.lt_of_lt_of_eq (by decide) rfl) rfl (fun ls hl => ?_)
  obtain ⟨j48, hj48, hf⟩ := gj hf
  have J48 : ∀ (V48 : Mem) (H : Heap) (locs : List Loc) (ls : Array Slot), j48 V48 = some (r, Vz) → In E ad V48 s H locs → lv_has ls 5 [(0, .ref (ad 0)), (1, .int a1), (3, .int r11)] → W p l e (rmd 4) s m ([.ref (ad 0), .int a1, .int a2] : List Value).toArray below meth c H locs 0 0 (MQ below (QR E ad (some (.int r)) Vz) ([.ref (ad 0), .int a1, .int a2] : List Value).toArray s 0 0 (ours E)) (F0 m 48 ls []) := by
    intro V48 H locs ls hf hI hl
    rw [hj48] at hf
    dsimp only at hf
    refine lv_aload_n hx hb dX8_commitWorking_48 rfl (lv_at hl 0 rfl) ?_
    refine g_0_heads hC hI tw_1_101 dX8_commitWorking_49 ?_
    refine lv_iload_n hx hb dX8_commitWorking_52 rfl (lv_at hl 1 rfl) ?_
    refine lv_iload_n hx hb dX8_commitWorking_53 rfl (lv_at hl 2 rfl) ?_
    obtain ⟨V54, q54, hf⟩ := gbv hf
    refine k_X7_set row_14 hC hI hl.1 q54 tw_3_134 ⟨Nat.le_of_ble_eq_true rfl, Nat.le_of_ble_eq_true rfl⟩ ⟨Nat.le_refl _, Nat.le_refl _⟩ (Nat.le_of_ble_eq_true rfl) dX8_commitWorking_54 (fun H locs hI => ?_)
    refine lv_iload_n hx hb dX8_commitWorking_57 rfl (lv_at hl 2 rfl) ?_
    exact r_iret2 hC hI hf dX8_commitWorking_58
  have L18 : ∀ (n18 : Nat) (V18 : Mem) (x4_18 : Int32) (H : Heap) (locs : List Loc) (ls : Array Slot), f_X8_commitWorking_L18 a1 r11 j48 n18 V18 x4_18 = some (r, Vz) → In E ad V18 s H locs → lv_has ls 5 [(0, .ref (ad 0)), (1, .int a1), (3, .int r11), (4, .int x4_18)] → W p l e (rmd 4) s m ([.ref (ad 0), .int a1, .int a2] : List Value).toArray below meth c H locs 0 0 (MQ below (QR E ad (some (.int r)) Vz) ([.ref (ad 0), .int a1, .int a2] : List Value).toArray s 0 0 (ours E)) (F0 m 18 ls []) := by
    intro n18
    induction n18 with
    | zero => intro V18 x4_18 H locs ls hf hI hl; cases hf
    | succ n18 ih18 =>
      intro V18 x4_18 H locs ls hf hI hl
      rw [f_X8_commitWorking_L18.eq_2] at hf
      refine lv_iload hx hb dX8_commitWorking_18 (lv_at hl 3 rfl) ?_
      refine lv_bipush (v := 8) hx hb dX8_commitWorking_20 rfl ?_
      refine lv_icmp_ge (tgt := 48) hx hb dX8_commitWorking_22 (by decide) (fun c22 => ?_) (fun c22 => ?_)
      · have hf := gt hf c22
        exact J48 _ _ _ _ hf hI (lv_sub hl [0, 1, 2] rfl)
      · have hf := gf hf c22
        refine lv_aload_n hx hb dX8_commitWorking_25 rfl (lv_at hl 0 rfl) ?_
        refine g_0_revisions hC hI tw_1_99 dX8_commitWorking_26 ?_
        refine lv_iload_n hx hb dX8_commitWorking_29 rfl (lv_at hl 2 rfl) ?_
        refine lv_iload hx hb dX8_commitWorking_30 (lv_at hl 3 rfl) ?_
        refine lv_aload_n hx hb dX8_commitWorking_32 rfl (lv_at hl 0 rfl) ?_
        refine lv_iload_n hx hb dX8_commitWorking_33 rfl (lv_at hl 1 rfl) ?_
        refine lv_iload hx hb dX8_commitWorking_34 (lv_at hl 3 rfl) ?_
        obtain ⟨r36, V36, q36, hf⟩ := gbd hf
        refine k_X8_workingLetter hC hI hl.1 q36 tw_3_146 ⟨Nat.le_of_ble_eq_true rfl, Nat.le_of_ble_eq_true rfl⟩ ⟨Nat.le_refl _, Nat.le_refl _⟩ (Nat.le_of_ble_eq_true rfl) dX8_commitWorking_36 (fun H locs hI => ?_)
        obtain ⟨V39, q39, hf⟩ := gbv hf
        refine k_X6_putLetter hC hI hl.1 q39 tw_3_202 ⟨Nat.le_of_ble_eq_true rfl, Nat.le_of_ble_eq_true rfl⟩ ⟨Nat.le_refl _, Nat.le_refl _⟩ (Nat.le_of_ble_eq_true rfl) dX8_commitWorking_39 (fun H locs hI => ?_)
        refine lv_iinc (v := (x4_18 + 1)) (lv' := [(4, .int (x4_18 + 1)), (0, .ref (ad 0)), (1, .int a1), (3, .int r11)]) hx hb dX8_commitWorking_42 hl (k := 3) rfl rfl (Nat.lt_of_lt_of_eq (by decide) rfl) rfl (fun ls hl => ?_)
        refine lv_goto (tgt := 18) hx hb dX8_commitWorking_45 (by decide) ?_
        exact ih18 _ _ _ _ _ hf hI (lv_sub hl [1, 2, 3, 0] rfl)
  exact L18 _ _ _ _ _ _ hf hI (lv_sub hl [2, 3, 1, 0] rfl)
theorem k_X8_commitWorking {p : Program} {l : Launch} {e : Env} {R : Room} {cells slots : Nat} {s : State} {m : MethodId} {args : Array Value} {below : List Frame} {meth : Method} {c : Code} {H : Heap} {locs : List Loc} {Q : State → Prop} {E : En} {ad : Nat → Nat} {V : Mem} {ow : String} {b : ByteArray} {n : Nat} {ret : Option FieldType} {pc index : Nat} {ls : Array Slot} {rest : List Value} {a1 : Int32} {a2 : Int32} {r : Int32} {V1 : Mem} (hC : Cx p s m args c meth E ow b n ret) (hI : In E ad V s H locs) (hsz : ls.size = n) (hf : f_X8_commitWorking V a1 a2 = some (r, V1)) (hl : Cond.methodLink ow index yX8_commitWorking ∈ TB) (hR : 4 + 1 ≤ R.frames ∧ 8 + (5 + 11) + 40 * 4 ≤ R.locals) (hcs : cells ≤ R.cells ∧ slots ≤ R.slots) (hw : (rest.map fun v => v.category).sum ≤ 8) (hdg : decode b pc = .ok (.invokevirtual index, 3)) (kk : ∀ (H1 : Heap) (locs1 : List Loc), In E ad V1 s H1 locs1 → W p l e R s m args below meth c H1 locs1 cells slots Q (F0 m (pc + 3) ls ((.int r) :: rest))) : W p l e R s m args below meth c H locs cells slots Q (F0 m pc ls (.int a2 :: .int a1 :: .ref (ad 0) :: rest)) :=
  r_calV (As := [.int a1, .int a2]) (rest := rest) hC hI hsz (m_X8_commitWorking l E ad V a1 a2 r _ hf) cv_X8_commitWorking hl (by decide) (ce_0 _) rfl rfl rfl hR hcs hw hdg kk

theorem dX8_refusalOfReset_0 : decode cX8_refusalOfReset 0 = .ok (.aload_n 0, 1) := by decide +kernel
theorem dX8_refusalOfReset_1 : decode cX8_refusalOfReset 1 = .ok (.iload_n 1, 1) := by decide +kernel
theorem dX8_refusalOfReset_2 : decode cX8_refusalOfReset 2 = .ok (.invokevirtual 75, 3) := by decide +kernel
theorem dX8_refusalOfReset_5 : decode cX8_refusalOfReset 5 = .ok (.ifCond .ne 7, 3) := by decide +kernel
theorem dX8_refusalOfReset_8 : decode cX8_refusalOfReset 8 = .ok (.getstatic 82, 3) := by decide +kernel
theorem dX8_refusalOfReset_11 : decode cX8_refusalOfReset 11 = .ok (.areturn, 1) := by decide +kernel
theorem dX8_refusalOfReset_12 : decode cX8_refusalOfReset 12 = .ok (.aload_n 0, 1) := by decide +kernel
theorem dX8_refusalOfReset_13 : decode cX8_refusalOfReset 13 = .ok (.getfield 12, 3) := by decide +kernel
theorem dX8_refusalOfReset_16 : decode cX8_refusalOfReset 16 = .ok (.iload_n 2, 1) := by decide +kernel
theorem dX8_refusalOfReset_17 : decode cX8_refusalOfReset 17 = .ok (.invokevirtual 120, 3) := by decide +kernel
theorem dX8_refusalOfReset_20 : decode cX8_refusalOfReset 20 = .ok (.ifCond .ne 7, 3) := by decide +kernel
theorem dX8_refusalOfReset_23 : decode cX8_refusalOfReset 23 = .ok (.getstatic 123, 3) := by decide +kernel
theorem dX8_refusalOfReset_26 : decode cX8_refusalOfReset 26 = .ok (.areturn, 1) := by decide +kernel
theorem dX8_refusalOfReset_27 : decode cX8_refusalOfReset 27 = .ok (.aload_n 0, 1) := by decide +kernel
theorem dX8_refusalOfReset_28 : decode cX8_refusalOfReset 28 = .ok (.iload_n 1, 1) := by decide +kernel
theorem dX8_refusalOfReset_29 : decode cX8_refusalOfReset 29 = .ok (.invokevirtual 97, 3) := by decide +kernel
theorem dX8_refusalOfReset_32 : decode cX8_refusalOfReset 32 = .ok (.ifCond .ne 9, 3) := by decide +kernel
theorem dX8_refusalOfReset_35 : decode cX8_refusalOfReset 35 = .ok (.getstatic 91, 3) := by decide +kernel
theorem dX8_refusalOfReset_38 : decode cX8_refusalOfReset 38 = .ok (.goto 6, 3) := by decide +kernel
theorem dX8_refusalOfReset_41 : decode cX8_refusalOfReset 41 = .ok (.getstatic 110, 3) := by decide +kernel
theorem dX8_refusalOfReset_44 : decode cX8_refusalOfReset 44 = .ok (.areturn, 1) := by decide +kernel
def f_X8_refusalOfReset (V : Mem) (a1 : Int32) (a2 : Int32) : Option (Nat × Mem) :=
  bd (f_X8_hasBranch V a1) fun r2 V2 =>
  if r2 = 0 then
    some (1, V2)
  else
    bd (f_X6_isOpen V2 a2) fun r17 V17 =>
    if r17 = 0 then
      some (3, V17)
    else
      bd (f_X8_countEdits V17 a1) fun r29 V29 =>
      if r29 = 0 then
        some (0, V29)
      else
        some (4, V29)
theorem cv_X8_refusalOfReset : CalV yX8_refusalOfReset cX8_refusalOfReset 3 (some (.object "LetterRepository$Refusal")) 2 := ⟨⟨⟨by decide +kernel, by decide +kernel⟩, tw_1_2, tw_4_81, by decide +kernel⟩, tw_4_79, tw_4_80⟩
set_option maxRecDepth 100000 in
set_option maxHeartbeats 4000000 in
theorem m_X8_refusalOfReset (l : Launch) (E : En) (ad : Nat → Nat) (V : Mem) (a1 : Int32) (a2 : Int32) (hS : SF E) (r : Nat) (Vz : Mem) (hf : f_X8_refusalOfReset V a1 a2 = some (r, Vz)) : MR l E ad yX8_refusalOfReset cX8_refusalOfReset 3 (some (.object "LetterRepository$Refusal")) 5 [.ref (ad 0), .int a1, .int a2] V (some (.ref (eR E r))) Vz := by
  refine ent (E := E) (ad := ad) (V := V) "LetterRepository$Store" (by decide +kernel) rfl (Nat.le_of_ble_eq_true rfl) ?_
  intro p e s m below meth c ls hC hI hl
  have hx := hC.1
  have hb := hC.2.1
  have hl : lv_has ls 3 [(0, .ref (ad 0)), (1, .int a1), (2, .int a2)] := hl
  unfold f_X8_refusalOfReset at hf
  refine lv_aload_n hx hb dX8_refusalOfReset_0 rfl (lv_at hl 0 rfl) ?_
  refine lv_iload_n hx hb dX8_refusalOfReset_1 rfl (lv_at hl 1 rfl) ?_
  obtain ⟨r2, V2, q2, hf⟩ := gbd hf
  refine k_X8_hasBranch hC hI hl.1 q2 tw_2_223 ⟨Nat.le_of_ble_eq_true rfl, Nat.le_of_ble_eq_true rfl⟩ ⟨Nat.le_refl _, Nat.le_refl _⟩ (Nat.le_of_ble_eq_true rfl) dX8_refusalOfReset_2 (fun H locs hI => ?_)
  refine lv_if_ne (tgt := 12) hx hb dX8_refusalOfReset_5 (by decide) (fun c5 => ?_) (fun c5 => ?_)
  · have hf := gf hf c5
    refine lv_aload_n hx hb dX8_refusalOfReset_12 rfl (lv_at hl 0 rfl) ?_
    refine g_0_revisions hC hI tw_1_99 dX8_refusalOfReset_13 ?_
    refine lv_iload_n hx hb dX8_refusalOfReset_16 rfl (lv_at hl 2 rfl) ?_
    obtain ⟨r17, V17, q17, hf⟩ := gbd hf
    refine k_X6_isOpen hC hI hl.1 q17 tw_3_218 ⟨Nat.le_of_ble_eq_true rfl, Nat.le_of_ble_eq_true rfl⟩ ⟨Nat.le_refl _, Nat.le_refl _⟩ (Nat.le_of_ble_eq_true rfl) dX8_refusalOfReset_17 (fun H locs hI => ?_)
    refine lv_if_ne (tgt := 27) hx hb dX8_refusalOfReset_20 (by decide) (fun c20 => ?_) (fun c20 => ?_)
    · have hf := gf hf c20
      refine lv_aload_n hx hb dX8_refusalOfReset_27 rfl (lv_at hl 0 rfl) ?_
      refine lv_iload_n hx hb dX8_refusalOfReset_28 rfl (lv_at hl 1 rfl) ?_
      obtain ⟨r29, V29, q29, hf⟩ := gbd hf
      refine k_X8_countEdits hC hI hl.1 q29 tw_3_138 ⟨Nat.le_of_ble_eq_true rfl, Nat.le_of_ble_eq_true rfl⟩ ⟨Nat.le_refl _, Nat.le_refl _⟩ (Nat.le_of_ble_eq_true rfl) dX8_refusalOfReset_29 (fun H locs hI => ?_)
      refine lv_if_ne (tgt := 41) hx hb dX8_refusalOfReset_32 (by decide) (fun c32 => ?_) (fun c32 => ?_)
      · have hf := gf hf c32
        refine r_gsR 4 hS hC hI (by decide) tw_3_189 dX8_refusalOfReset_41 ?_
        exact r_aretE hC hI hf dX8_refusalOfReset_44
      · have hf := gt hf c32
        refine r_gsR 0 hS hC hI (by decide) tw_2_235 dX8_refusalOfReset_35 ?_
        refine lv_goto (tgt := 44) hx hb dX8_refusalOfReset_38 (by decide) ?_
        exact r_aretE hC hI hf dX8_refusalOfReset_44
    · have hf := gt hf c20
      refine r_gsR 3 hS hC hI (by decide) tw_3_226 dX8_refusalOfReset_23 ?_
      exact r_aretE hC hI hf dX8_refusalOfReset_26
  · have hf := gt hf c5
    refine r_gsR 1 hS hC hI (by decide) tw_2_230 dX8_refusalOfReset_8 ?_
    exact r_aretE hC hI hf dX8_refusalOfReset_11
theorem k_X8_refusalOfReset {p : Program} {l : Launch} {e : Env} {R : Room} {cells slots : Nat} {s : State} {m : MethodId} {args : Array Value} {below : List Frame} {meth : Method} {c : Code} {H : Heap} {locs : List Loc} {Q : State → Prop} {E : En} {ad : Nat → Nat} {V : Mem} {ow : String} {b : ByteArray} {n : Nat} {ret : Option FieldType} {pc index : Nat} {ls : Array Slot} {rest : List Value} {a1 : Int32} {a2 : Int32} {r : Nat} {V1 : Mem} (hS : SF E) (hC : Cx p s m args c meth E ow b n ret) (hI : In E ad V s H locs) (hsz : ls.size = n) (hf : f_X8_refusalOfReset V a1 a2 = some (r, V1)) (hl : Cond.methodLink ow index yX8_refusalOfReset ∈ TB) (hR : 5 + 1 ≤ R.frames ∧ 8 + (3 + 11) + 40 * 5 ≤ R.locals) (hcs : cells ≤ R.cells ∧ slots ≤ R.slots) (hw : (rest.map fun v => v.category).sum ≤ 8) (hdg : decode b pc = .ok (.invokevirtual index, 3)) (kk : ∀ (H1 : Heap) (locs1 : List Loc), In E ad V1 s H1 locs1 → W p l e R s m args below meth c H1 locs1 cells slots Q (F0 m (pc + 3) ls ((.ref (eR E r)) :: rest))) : W p l e R s m args below meth c H locs cells slots Q (F0 m pc ls (.int a2 :: .int a1 :: .ref (ad 0) :: rest)) :=
  r_calV (As := [.int a1, .int a2]) (rest := rest) hC hI hsz (m_X8_refusalOfReset l E ad V a1 a2 hS r _ hf) cv_X8_refusalOfReset hl (by decide) (ce_0 _) rfl rfl rfl hR hcs hw hdg kk

theorem dX8_moveHead_0 : decode cX8_moveHead 0 = .ok (.aload_n 0, 1) := by decide +kernel
theorem dX8_moveHead_1 : decode cX8_moveHead 1 = .ok (.iload_n 1, 1) := by decide +kernel
theorem dX8_moveHead_2 : decode cX8_moveHead 2 = .ok (.invokevirtual 55, 3) := by decide +kernel
theorem dX8_moveHead_5 : decode cX8_moveHead 5 = .ok (.istore_n 3, 1) := by decide +kernel
theorem dX8_moveHead_6 : decode cX8_moveHead 6 = .ok (.aload_n 0, 1) := by decide +kernel
theorem dX8_moveHead_7 : decode cX8_moveHead 7 = .ok (.iload_n 1, 1) := by decide +kernel
theorem dX8_moveHead_8 : decode cX8_moveHead 8 = .ok (.iload_n 2, 1) := by decide +kernel
theorem dX8_moveHead_9 : decode cX8_moveHead 9 = .ok (.invokevirtual 100, 3) := by decide +kernel
theorem dX8_moveHead_12 : decode cX8_moveHead 12 = .ok (.iload_n 3, 1) := by decide +kernel
theorem dX8_moveHead_13 : decode cX8_moveHead 13 = .ok (.ireturn, 1) := by decide +kernel
def f_X8_moveHead (V : Mem) (a1 : Int32) (a2 : Int32) : Option (Int32 × Mem) :=
  bd (f_X8_headOf V a1) fun r2 V2 =>
  bv (f_X8_checkOut V2 a1 a2) fun V9 =>
  some (r2, V9)
theorem cv_X8_moveHead : CalV yX8_moveHead cX8_moveHead 4 (some .int) 2 := ⟨⟨⟨by decide +kernel, by decide +kernel⟩, tw_1_2, tw_4_85, by decide +kernel⟩, tw_4_83, tw_4_84⟩
set_option maxRecDepth 100000 in
set_option maxHeartbeats 4000000 in
theorem m_X8_moveHead (l : Launch) (E : En) (ad : Nat → Nat) (V : Mem) (a1 : Int32) (a2 : Int32) (r : Int32) (Vz : Mem) (hf : f_X8_moveHead V a1 a2 = some (r, Vz)) : MR l E ad yX8_moveHead cX8_moveHead 4 (some .int) 4 [.ref (ad 0), .int a1, .int a2] V (some (.int r)) Vz := by
  refine ent (E := E) (ad := ad) (V := V) "LetterRepository$Store" (by decide +kernel) rfl (Nat.le_of_ble_eq_true rfl) ?_
  intro p e s m below meth c ls hC hI hl
  have hx := hC.1
  have hb := hC.2.1
  have hl : lv_has ls 4 [(0, .ref (ad 0)), (1, .int a1), (2, .int a2)] := hl
  unfold f_X8_moveHead at hf
  refine lv_aload_n hx hb dX8_moveHead_0 rfl (lv_at hl 0 rfl) ?_
  refine lv_iload_n hx hb dX8_moveHead_1 rfl (lv_at hl 1 rfl) ?_
  obtain ⟨r2, V2, q2, hf⟩ := gbd hf
  refine k_X8_headOf hC hI hl.1 q2 tw_2_55 ⟨Nat.le_of_ble_eq_true rfl, Nat.le_of_ble_eq_true rfl⟩ ⟨Nat.le_refl _, Nat.le_refl _⟩ (Nat.le_of_ble_eq_true rfl) dX8_moveHead_2 (fun H locs hI => ?_)
  refine lv_istore_n (lv' := [(3, .int r2), (0, .ref (ad 0)), (1, .int a1), (2, .int a2)]) hx hb dX8_moveHead_5 rfl hl (Nat.lt_of_lt_of_eq (by decide) rfl) rfl (fun ls hl => ?_)
  refine lv_aload_n hx hb dX8_moveHead_6 rfl (lv_at hl 1 rfl) ?_
  refine lv_iload_n hx hb dX8_moveHead_7 rfl (lv_at hl 2 rfl) ?_
  refine lv_iload_n hx hb dX8_moveHead_8 rfl (lv_at hl 3 rfl) ?_
  obtain ⟨V9, q9, hf⟩ := gbv hf
  refine k_X8_checkOut hC hI hl.1 q9 tw_3_166 ⟨Nat.le_of_ble_eq_true rfl, Nat.le_of_ble_eq_true rfl⟩ ⟨Nat.le_refl _, Nat.le_refl _⟩ (Nat.le_of_ble_eq_true rfl) dX8_moveHead_9 (fun H locs hI => ?_)
  refine lv_iload_n hx hb dX8_moveHead_12 rfl (lv_at hl 0 rfl) ?_
  exact r_iret2 hC hI hf dX8_moveHead_13
theorem k_X8_moveHead {p : Program} {l : Launch} {e : Env} {R : Room} {cells slots : Nat} {s : State} {m : MethodId} {args : Array Value} {below : List Frame} {meth : Method} {c : Code} {H : Heap} {locs : List Loc} {Q : State → Prop} {E : En} {ad : Nat → Nat} {V : Mem} {ow : String} {b : ByteArray} {n : Nat} {ret : Option FieldType} {pc index : Nat} {ls : Array Slot} {rest : List Value} {a1 : Int32} {a2 : Int32} {r : Int32} {V1 : Mem} (hC : Cx p s m args c meth E ow b n ret) (hI : In E ad V s H locs) (hsz : ls.size = n) (hf : f_X8_moveHead V a1 a2 = some (r, V1)) (hl : Cond.methodLink ow index yX8_moveHead ∈ TB) (hR : 4 + 1 ≤ R.frames ∧ 8 + (4 + 11) + 40 * 4 ≤ R.locals) (hcs : cells ≤ R.cells ∧ slots ≤ R.slots) (hw : (rest.map fun v => v.category).sum ≤ 8) (hdg : decode b pc = .ok (.invokevirtual index, 3)) (kk : ∀ (H1 : Heap) (locs1 : List Loc), In E ad V1 s H1 locs1 → W p l e R s m args below meth c H1 locs1 cells slots Q (F0 m (pc + 3) ls ((.int r) :: rest))) : W p l e R s m args below meth c H locs cells slots Q (F0 m pc ls (.int a2 :: .int a1 :: .ref (ad 0) :: rest)) :=
  r_calV (As := [.int a1, .int a2]) (rest := rest) hC hI hsz (m_X8_moveHead l E ad V a1 a2 r _ hf) cv_X8_moveHead hl (by decide) (ce_0 _) rfl rfl rfl hR hcs hw hdg kk

theorem dX8_refusalOfBranching_0 : decode cX8_refusalOfBranching 0 = .ok (.aload_n 0, 1) := by decide +kernel
theorem dX8_refusalOfBranching_1 : decode cX8_refusalOfBranching 1 = .ok (.getfield 12, 3) := by decide +kernel
theorem dX8_refusalOfBranching_4 : decode cX8_refusalOfBranching 4 = .ok (.iload_n 1, 1) := by decide +kernel
theorem dX8_refusalOfBranching_5 : decode cX8_refusalOfBranching 5 = .ok (.invokevirtual 120, 3) := by decide +kernel
theorem dX8_refusalOfBranching_8 : decode cX8_refusalOfBranching 8 = .ok (.ifCond .ne 7, 3) := by decide +kernel
theorem dX8_refusalOfBranching_11 : decode cX8_refusalOfBranching 11 = .ok (.getstatic 123, 3) := by decide +kernel
theorem dX8_refusalOfBranching_14 : decode cX8_refusalOfBranching 14 = .ok (.areturn, 1) := by decide +kernel
theorem dX8_refusalOfBranching_15 : decode cX8_refusalOfBranching 15 = .ok (.aload_n 0, 1) := by decide +kernel
theorem dX8_refusalOfBranching_16 : decode cX8_refusalOfBranching 16 = .ok (.getfield 33, 3) := by decide +kernel
theorem dX8_refusalOfBranching_19 : decode cX8_refusalOfBranching 19 = .ok (.iconst 5, 1) := by decide +kernel
theorem dX8_refusalOfBranching_20 : decode cX8_refusalOfBranching 20 = .ok (.if_icmp .lt 9, 3) := by decide +kernel
theorem dX8_refusalOfBranching_23 : decode cX8_refusalOfBranching 23 = .ok (.getstatic 110, 3) := by decide +kernel
theorem dX8_refusalOfBranching_26 : decode cX8_refusalOfBranching 26 = .ok (.goto 6, 3) := by decide +kernel
theorem dX8_refusalOfBranching_29 : decode cX8_refusalOfBranching 29 = .ok (.getstatic 91, 3) := by decide +kernel
theorem dX8_refusalOfBranching_32 : decode cX8_refusalOfBranching 32 = .ok (.areturn, 1) := by decide +kernel
def f_X8_refusalOfBranching (V : Mem) (a1 : Int32) : Option (Nat × Mem) :=
  bd (f_X6_isOpen V a1) fun r5 V5 =>
  if r5 = 0 then
    some (3, V5)
  else
    if (V5 0 0) < 5 then
      some (0, V5)
    else
      some (4, V5)
theorem cv_X8_refusalOfBranching : CalV yX8_refusalOfBranching cX8_refusalOfBranching 2 (some (.object "LetterRepository$Refusal")) 1 := ⟨⟨⟨by decide +kernel, by decide +kernel⟩, tw_1_2, tw_3_217, by decide +kernel⟩, tw_3_215, tw_3_216⟩
set_option maxRecDepth 100000 in
set_option maxHeartbeats 4000000 in
theorem m_X8_refusalOfBranching (l : Launch) (E : En) (ad : Nat → Nat) (V : Mem) (a1 : Int32) (hS : SF E) (r : Nat) (Vz : Mem) (hf : f_X8_refusalOfBranching V a1 = some (r, Vz)) : MR l E ad yX8_refusalOfBranching cX8_refusalOfBranching 2 (some (.object "LetterRepository$Refusal")) 5 [.ref (ad 0), .int a1] V (some (.ref (eR E r))) Vz := by
  refine ent (E := E) (ad := ad) (V := V) "LetterRepository$Store" (by decide +kernel) rfl (Nat.le_of_ble_eq_true rfl) ?_
  intro p e s m below meth c ls hC hI hl
  have hx := hC.1
  have hb := hC.2.1
  have hl : lv_has ls 2 [(0, .ref (ad 0)), (1, .int a1)] := hl
  unfold f_X8_refusalOfBranching at hf
  refine lv_aload_n hx hb dX8_refusalOfBranching_0 rfl (lv_at hl 0 rfl) ?_
  refine g_0_revisions hC hI tw_1_99 dX8_refusalOfBranching_1 ?_
  refine lv_iload_n hx hb dX8_refusalOfBranching_4 rfl (lv_at hl 1 rfl) ?_
  obtain ⟨r5, V5, q5, hf⟩ := gbd hf
  refine k_X6_isOpen hC hI hl.1 q5 tw_3_218 ⟨Nat.le_of_ble_eq_true rfl, Nat.le_of_ble_eq_true rfl⟩ ⟨Nat.le_refl _, Nat.le_refl _⟩ (Nat.le_of_ble_eq_true rfl) dX8_refusalOfBranching_5 (fun H locs hI => ?_)
  refine lv_if_ne (tgt := 15) hx hb dX8_refusalOfBranching_8 (by decide) (fun c8 => ?_) (fun c8 => ?_)
  · have hf := gf hf c8
    refine lv_aload_n hx hb dX8_refusalOfBranching_15 rfl (lv_at hl 0 rfl) ?_
    refine g_0_branchCount hC hI tw_1_104 dX8_refusalOfBranching_16 ?_
    refine lv_iconst (v := 5) hx hb dX8_refusalOfBranching_19 rfl ?_
    refine lv_icmp_lt (tgt := 29) hx hb dX8_refusalOfBranching_20 (by decide) (fun c20 => ?_) (fun c20 => ?_)
    · have hf := gt hf c20
      refine r_gsR 0 hS hC hI (by decide) tw_2_235 dX8_refusalOfBranching_29 ?_
      exact r_aretE hC hI hf dX8_refusalOfBranching_32
    · have hf := gf hf c20
      refine r_gsR 4 hS hC hI (by decide) tw_3_189 dX8_refusalOfBranching_23 ?_
      refine lv_goto (tgt := 32) hx hb dX8_refusalOfBranching_26 (by decide) ?_
      exact r_aretE hC hI hf dX8_refusalOfBranching_32
  · have hf := gt hf c8
    refine r_gsR 3 hS hC hI (by decide) tw_3_226 dX8_refusalOfBranching_11 ?_
    exact r_aretE hC hI hf dX8_refusalOfBranching_14
theorem k_X8_refusalOfBranching {p : Program} {l : Launch} {e : Env} {R : Room} {cells slots : Nat} {s : State} {m : MethodId} {args : Array Value} {below : List Frame} {meth : Method} {c : Code} {H : Heap} {locs : List Loc} {Q : State → Prop} {E : En} {ad : Nat → Nat} {V : Mem} {ow : String} {b : ByteArray} {n : Nat} {ret : Option FieldType} {pc index : Nat} {ls : Array Slot} {rest : List Value} {a1 : Int32} {r : Nat} {V1 : Mem} (hS : SF E) (hC : Cx p s m args c meth E ow b n ret) (hI : In E ad V s H locs) (hsz : ls.size = n) (hf : f_X8_refusalOfBranching V a1 = some (r, V1)) (hl : Cond.methodLink ow index yX8_refusalOfBranching ∈ TB) (hR : 5 + 1 ≤ R.frames ∧ 8 + (2 + 11) + 40 * 5 ≤ R.locals) (hcs : cells ≤ R.cells ∧ slots ≤ R.slots) (hw : (rest.map fun v => v.category).sum ≤ 8) (hdg : decode b pc = .ok (.invokevirtual index, 3)) (kk : ∀ (H1 : Heap) (locs1 : List Loc), In E ad V1 s H1 locs1 → W p l e R s m args below meth c H1 locs1 cells slots Q (F0 m (pc + 3) ls ((.ref (eR E r)) :: rest))) : W p l e R s m args below meth c H locs cells slots Q (F0 m pc ls (.int a1 :: .ref (ad 0) :: rest)) :=
  r_calV (As := [.int a1]) (rest := rest) hC hI hsz (m_X8_refusalOfBranching l E ad V a1 hS r _ hf) cv_X8_refusalOfBranching hl (by decide) (ce_0 _) rfl rfl rfl hR hcs hw hdg kk

theorem dX8_openBranch_0 : decode cX8_openBranch 0 = .ok (.aload_n 0, 1) := by decide +kernel
theorem dX8_openBranch_1 : decode cX8_openBranch 1 = .ok (.getfield 33, 3) := by decide +kernel
theorem dX8_openBranch_4 : decode cX8_openBranch 4 = .ok (.istore_n 2, 1) := by decide +kernel
theorem dX8_openBranch_5 : decode cX8_openBranch 5 = .ok (.aload_n 0, 1) := by decide +kernel
theorem dX8_openBranch_6 : decode cX8_openBranch 6 = .ok (.dup, 1) := by decide +kernel
theorem dX8_openBranch_7 : decode cX8_openBranch 7 = .ok (.getfield 33, 3) := by decide +kernel
theorem dX8_openBranch_10 : decode cX8_openBranch 10 = .ok (.iconst 1, 1) := by decide +kernel
theorem dX8_openBranch_11 : decode cX8_openBranch 11 = .ok (.iadd, 1) := by decide +kernel
theorem dX8_openBranch_12 : decode cX8_openBranch 12 = .ok (.putfield 33, 3) := by decide +kernel
theorem dX8_openBranch_15 : decode cX8_openBranch 15 = .ok (.aload_n 0, 1) := by decide +kernel
theorem dX8_openBranch_16 : decode cX8_openBranch 16 = .ok (.iload_n 2, 1) := by decide +kernel
theorem dX8_openBranch_17 : decode cX8_openBranch 17 = .ok (.iload_n 1, 1) := by decide +kernel
theorem dX8_openBranch_18 : decode cX8_openBranch 18 = .ok (.invokevirtual 100, 3) := by decide +kernel
theorem dX8_openBranch_21 : decode cX8_openBranch 21 = .ok (.iload_n 2, 1) := by decide +kernel
theorem dX8_openBranch_22 : decode cX8_openBranch 22 = .ok (.ireturn, 1) := by decide +kernel
def f_X8_openBranch (V : Mem) (a1 : Int32) : Option (Int32 × Mem) :=
  lt (stv V 0 0 ((V 0 0) + 1)) fun V12 =>
  bv (f_X8_checkOut V12 (V 0 0) a1) fun V18 =>
  some ((V 0 0), V18)
theorem cv_X8_openBranch : CalV yX8_openBranch cX8_openBranch 3 (some .int) 1 := ⟨⟨⟨by decide +kernel, by decide +kernel⟩, tw_1_2, tw_3_230, by decide +kernel⟩, tw_3_228, tw_3_229⟩
set_option maxRecDepth 100000 in
set_option maxHeartbeats 4000000 in
theorem m_X8_openBranch (l : Launch) (E : En) (ad : Nat → Nat) (V : Mem) (a1 : Int32) (r : Int32) (Vz : Mem) (hf : f_X8_openBranch V a1 = some (r, Vz)) : MR l E ad yX8_openBranch cX8_openBranch 3 (some .int) 4 [.ref (ad 0), .int a1] V (some (.int r)) Vz := by
  refine ent (E := E) (ad := ad) (V := V) "LetterRepository$Store" (by decide +kernel) rfl (Nat.le_of_ble_eq_true rfl) ?_
  intro p e s m below meth c ls hC hI hl
  have hx := hC.1
  have hb := hC.2.1
  have hl : lv_has ls 3 [(0, .ref (ad 0)), (1, .int a1)] := hl
  unfold f_X8_openBranch at hf
  refine lv_aload_n hx hb dX8_openBranch_0 rfl (lv_at hl 0 rfl) ?_
  refine g_0_branchCount hC hI tw_1_104 dX8_openBranch_1 ?_
  refine lv_istore_n (lv' := [(2, .int (V 0 0)), (0, .ref (ad 0)), (1, .int a1)]) hx hb dX8_openBranch_4 rfl hl (Nat.lt_of_lt_of_eq (by decide) rfl) rfl (fun ls hl => ?_)
  refine lv_aload_n hx hb dX8_openBranch_5 rfl (lv_at hl 1 rfl) ?_
  refine lv_dup hx hb dX8_openBranch_6 rfl ?_
  refine g_0_branchCount hC hI tw_1_104 dX8_openBranch_7 ?_
  refine lv_iconst (v := 1) hx hb dX8_openBranch_10 rfl ?_
  refine lv_iadd hx hb dX8_openBranch_11 ?_
  obtain ⟨V12, e12, hf⟩ := gl hf
  refine p_0_branchCount hC hI  e12 tw_1_104 dX8_openBranch_12 (fun H locs hI => ?_)
  refine lv_aload_n hx hb dX8_openBranch_15 rfl (lv_at hl 1 rfl) ?_
  refine lv_iload_n hx hb dX8_openBranch_16 rfl (lv_at hl 0 rfl) ?_
  refine lv_iload_n hx hb dX8_openBranch_17 rfl (lv_at hl 2 rfl) ?_
  obtain ⟨V18, q18, hf⟩ := gbv hf
  refine k_X8_checkOut hC hI hl.1 q18 tw_3_166 ⟨Nat.le_of_ble_eq_true rfl, Nat.le_of_ble_eq_true rfl⟩ ⟨Nat.le_refl _, Nat.le_refl _⟩ (Nat.le_of_ble_eq_true rfl) dX8_openBranch_18 (fun H locs hI => ?_)
  refine lv_iload_n hx hb dX8_openBranch_21 rfl (lv_at hl 0 rfl) ?_
  exact r_iret2 hC hI hf dX8_openBranch_22
theorem k_X8_openBranch {p : Program} {l : Launch} {e : Env} {R : Room} {cells slots : Nat} {s : State} {m : MethodId} {args : Array Value} {below : List Frame} {meth : Method} {c : Code} {H : Heap} {locs : List Loc} {Q : State → Prop} {E : En} {ad : Nat → Nat} {V : Mem} {ow : String} {b : ByteArray} {n : Nat} {ret : Option FieldType} {pc index : Nat} {ls : Array Slot} {rest : List Value} {a1 : Int32} {r : Int32} {V1 : Mem} (hC : Cx p s m args c meth E ow b n ret) (hI : In E ad V s H locs) (hsz : ls.size = n) (hf : f_X8_openBranch V a1 = some (r, V1)) (hl : Cond.methodLink ow index yX8_openBranch ∈ TB) (hR : 4 + 1 ≤ R.frames ∧ 8 + (3 + 11) + 40 * 4 ≤ R.locals) (hcs : cells ≤ R.cells ∧ slots ≤ R.slots) (hw : (rest.map fun v => v.category).sum ≤ 8) (hdg : decode b pc = .ok (.invokevirtual index, 3)) (kk : ∀ (H1 : Heap) (locs1 : List Loc), In E ad V1 s H1 locs1 → W p l e R s m args below meth c H1 locs1 cells slots Q (F0 m (pc + 3) ls ((.int r) :: rest))) : W p l e R s m args below meth c H locs cells slots Q (F0 m pc ls (.int a1 :: .ref (ad 0) :: rest)) :=
  r_calV (As := [.int a1]) (rest := rest) hC hI hsz (m_X8_openBranch l E ad V a1 r _ hf) cv_X8_openBranch hl (by decide) (ce_0 _) rfl rfl rfl hR hcs hw hdg kk

theorem dX8_refusalOfClosing_0 : decode cX8_refusalOfClosing 0 = .ok (.aload_n 0, 1) := by decide +kernel
theorem dX8_refusalOfClosing_1 : decode cX8_refusalOfClosing 1 = .ok (.iload_n 1, 1) := by decide +kernel
theorem dX8_refusalOfClosing_2 : decode cX8_refusalOfClosing 2 = .ok (.invokevirtual 75, 3) := by decide +kernel
theorem dX8_refusalOfClosing_5 : decode cX8_refusalOfClosing 5 = .ok (.ifCond .ne 7, 3) := by decide +kernel
theorem dX8_refusalOfClosing_8 : decode cX8_refusalOfClosing 8 = .ok (.getstatic 82, 3) := by decide +kernel
theorem dX8_refusalOfClosing_11 : decode cX8_refusalOfClosing 11 = .ok (.areturn, 1) := by decide +kernel
theorem dX8_refusalOfClosing_12 : decode cX8_refusalOfClosing 12 = .ok (.aload_n 0, 1) := by decide +kernel
theorem dX8_refusalOfClosing_13 : decode cX8_refusalOfClosing 13 = .ok (.getfield 33, 3) := by decide +kernel
theorem dX8_refusalOfClosing_16 : decode cX8_refusalOfClosing 16 = .ok (.iconst 1, 1) := by decide +kernel
theorem dX8_refusalOfClosing_17 : decode cX8_refusalOfClosing 17 = .ok (.if_icmp .ne 9, 3) := by decide +kernel
theorem dX8_refusalOfClosing_20 : decode cX8_refusalOfClosing 20 = .ok (.getstatic 110, 3) := by decide +kernel
theorem dX8_refusalOfClosing_23 : decode cX8_refusalOfClosing 23 = .ok (.goto 6, 3) := by decide +kernel
theorem dX8_refusalOfClosing_26 : decode cX8_refusalOfClosing 26 = .ok (.getstatic 91, 3) := by decide +kernel
theorem dX8_refusalOfClosing_29 : decode cX8_refusalOfClosing 29 = .ok (.areturn, 1) := by decide +kernel
def f_X8_refusalOfClosing (V : Mem) (a1 : Int32) : Option (Nat × Mem) :=
  bd (f_X8_hasBranch V a1) fun r2 V2 =>
  if r2 = 0 then
    some (1, V2)
  else
    if (V2 0 0) = 1 then
      some (4, V2)
    else
      some (0, V2)
theorem cv_X8_refusalOfClosing : CalV yX8_refusalOfClosing cX8_refusalOfClosing 2 (some (.object "LetterRepository$Refusal")) 1 := ⟨⟨⟨by decide +kernel, by decide +kernel⟩, tw_1_2, tw_4_1, by decide +kernel⟩, tw_3_239, tw_4_0⟩
set_option maxRecDepth 100000 in
set_option maxHeartbeats 4000000 in
theorem m_X8_refusalOfClosing (l : Launch) (E : En) (ad : Nat → Nat) (V : Mem) (a1 : Int32) (hS : SF E) (r : Nat) (Vz : Mem) (hf : f_X8_refusalOfClosing V a1 = some (r, Vz)) : MR l E ad yX8_refusalOfClosing cX8_refusalOfClosing 2 (some (.object "LetterRepository$Refusal")) 2 [.ref (ad 0), .int a1] V (some (.ref (eR E r))) Vz := by
  refine ent (E := E) (ad := ad) (V := V) "LetterRepository$Store" (by decide +kernel) rfl (Nat.le_of_ble_eq_true rfl) ?_
  intro p e s m below meth c ls hC hI hl
  have hx := hC.1
  have hb := hC.2.1
  have hl : lv_has ls 2 [(0, .ref (ad 0)), (1, .int a1)] := hl
  unfold f_X8_refusalOfClosing at hf
  refine lv_aload_n hx hb dX8_refusalOfClosing_0 rfl (lv_at hl 0 rfl) ?_
  refine lv_iload_n hx hb dX8_refusalOfClosing_1 rfl (lv_at hl 1 rfl) ?_
  obtain ⟨r2, V2, q2, hf⟩ := gbd hf
  refine k_X8_hasBranch hC hI hl.1 q2 tw_2_223 ⟨Nat.le_of_ble_eq_true rfl, Nat.le_of_ble_eq_true rfl⟩ ⟨Nat.le_refl _, Nat.le_refl _⟩ (Nat.le_of_ble_eq_true rfl) dX8_refusalOfClosing_2 (fun H locs hI => ?_)
  refine lv_if_ne (tgt := 12) hx hb dX8_refusalOfClosing_5 (by decide) (fun c5 => ?_) (fun c5 => ?_)
  · have hf := gf hf c5
    refine lv_aload_n hx hb dX8_refusalOfClosing_12 rfl (lv_at hl 0 rfl) ?_
    refine g_0_branchCount hC hI tw_1_104 dX8_refusalOfClosing_13 ?_
    refine lv_iconst (v := 1) hx hb dX8_refusalOfClosing_16 rfl ?_
    refine lv_icmp_ne (tgt := 26) hx hb dX8_refusalOfClosing_17 (by decide) (fun c17 => ?_) (fun c17 => ?_)
    · have hf := gf hf c17
      refine r_gsR 0 hS hC hI (by decide) tw_2_235 dX8_refusalOfClosing_26 ?_
      exact r_aretE hC hI hf dX8_refusalOfClosing_29
    · have hf := gt hf c17
      refine r_gsR 4 hS hC hI (by decide) tw_3_189 dX8_refusalOfClosing_20 ?_
      refine lv_goto (tgt := 29) hx hb dX8_refusalOfClosing_23 (by decide) ?_
      exact r_aretE hC hI hf dX8_refusalOfClosing_29
  · have hf := gt hf c5
    refine r_gsR 1 hS hC hI (by decide) tw_2_230 dX8_refusalOfClosing_8 ?_
    exact r_aretE hC hI hf dX8_refusalOfClosing_11
theorem k_X8_refusalOfClosing {p : Program} {l : Launch} {e : Env} {R : Room} {cells slots : Nat} {s : State} {m : MethodId} {args : Array Value} {below : List Frame} {meth : Method} {c : Code} {H : Heap} {locs : List Loc} {Q : State → Prop} {E : En} {ad : Nat → Nat} {V : Mem} {ow : String} {b : ByteArray} {n : Nat} {ret : Option FieldType} {pc index : Nat} {ls : Array Slot} {rest : List Value} {a1 : Int32} {r : Nat} {V1 : Mem} (hS : SF E) (hC : Cx p s m args c meth E ow b n ret) (hI : In E ad V s H locs) (hsz : ls.size = n) (hf : f_X8_refusalOfClosing V a1 = some (r, V1)) (hl : Cond.methodLink ow index yX8_refusalOfClosing ∈ TB) (hR : 2 + 1 ≤ R.frames ∧ 8 + (2 + 11) + 40 * 2 ≤ R.locals) (hcs : cells ≤ R.cells ∧ slots ≤ R.slots) (hw : (rest.map fun v => v.category).sum ≤ 8) (hdg : decode b pc = .ok (.invokevirtual index, 3)) (kk : ∀ (H1 : Heap) (locs1 : List Loc), In E ad V1 s H1 locs1 → W p l e R s m args below meth c H1 locs1 cells slots Q (F0 m (pc + 3) ls ((.ref (eR E r)) :: rest))) : W p l e R s m args below meth c H locs cells slots Q (F0 m pc ls (.int a1 :: .ref (ad 0) :: rest)) :=
  r_calV (As := [.int a1]) (rest := rest) hC hI hsz (m_X8_refusalOfClosing l E ad V a1 hS r _ hf) cv_X8_refusalOfClosing hl (by decide) (ce_0 _) rfl rfl rfl hR hcs hw hdg kk

theorem dX8_dropBranch_0 : decode cX8_dropBranch 0 = .ok (.aload_n 0, 1) := by decide +kernel
theorem dX8_dropBranch_1 : decode cX8_dropBranch 1 = .ok (.dup, 1) := by decide +kernel
theorem dX8_dropBranch_2 : decode cX8_dropBranch 2 = .ok (.getfield 33, 3) := by decide +kernel
theorem dX8_dropBranch_5 : decode cX8_dropBranch 5 = .ok (.iconst 1, 1) := by decide +kernel
theorem dX8_dropBranch_6 : decode cX8_dropBranch 6 = .ok (.isub, 1) := by decide +kernel
theorem dX8_dropBranch_7 : decode cX8_dropBranch 7 = .ok (.putfield 33, 3) := by decide +kernel
theorem dX8_dropBranch_10 : decode cX8_dropBranch 10 = .ok (.iload_n 1, 1) := by decide +kernel
theorem dX8_dropBranch_11 : decode cX8_dropBranch 11 = .ok (.istore_n 2, 1) := by decide +kernel
theorem dX8_dropBranch_12 : decode cX8_dropBranch 12 = .ok (.iload_n 2, 1) := by decide +kernel
theorem dX8_dropBranch_13 : decode cX8_dropBranch 13 = .ok (.aload_n 0, 1) := by decide +kernel
theorem dX8_dropBranch_14 : decode cX8_dropBranch 14 = .ok (.getfield 33, 3) := by decide +kernel
theorem dX8_dropBranch_17 : decode cX8_dropBranch 17 = .ok (.if_icmp .ge 52, 3) := by decide +kernel
theorem dX8_dropBranch_20 : decode cX8_dropBranch 20 = .ok (.aload_n 0, 1) := by decide +kernel
theorem dX8_dropBranch_21 : decode cX8_dropBranch 21 = .ok (.getfield 23, 3) := by decide +kernel
theorem dX8_dropBranch_24 : decode cX8_dropBranch 24 = .ok (.iload_n 2, 1) := by decide +kernel
theorem dX8_dropBranch_25 : decode cX8_dropBranch 25 = .ok (.aload_n 0, 1) := by decide +kernel
theorem dX8_dropBranch_26 : decode cX8_dropBranch 26 = .ok (.iload_n 2, 1) := by decide +kernel
theorem dX8_dropBranch_27 : decode cX8_dropBranch 27 = .ok (.iconst 1, 1) := by decide +kernel
theorem dX8_dropBranch_28 : decode cX8_dropBranch 28 = .ok (.iadd, 1) := by decide +kernel
theorem dX8_dropBranch_29 : decode cX8_dropBranch 29 = .ok (.invokevirtual 55, 3) := by decide +kernel
theorem dX8_dropBranch_32 : decode cX8_dropBranch 32 = .ok (.invokevirtual 48, 3) := by decide +kernel
theorem dX8_dropBranch_35 : decode cX8_dropBranch 35 = .ok (.iconst 0, 1) := by decide +kernel
theorem dX8_dropBranch_36 : decode cX8_dropBranch 36 = .ok (.istore_n 3, 1) := by decide +kernel
theorem dX8_dropBranch_37 : decode cX8_dropBranch 37 = .ok (.iload_n 3, 1) := by decide +kernel
theorem dX8_dropBranch_38 : decode cX8_dropBranch 38 = .ok (.bipush 8, 2) := by decide +kernel
theorem dX8_dropBranch_40 : decode cX8_dropBranch 40 = .ok (.if_icmp .ge 23, 3) := by decide +kernel
theorem dX8_dropBranch_43 : decode cX8_dropBranch 43 = .ok (.aload_n 0, 1) := by decide +kernel
theorem dX8_dropBranch_44 : decode cX8_dropBranch 44 = .ok (.iload_n 2, 1) := by decide +kernel
theorem dX8_dropBranch_45 : decode cX8_dropBranch 45 = .ok (.iload_n 3, 1) := by decide +kernel
theorem dX8_dropBranch_46 : decode cX8_dropBranch 46 = .ok (.aload_n 0, 1) := by decide +kernel
theorem dX8_dropBranch_47 : decode cX8_dropBranch 47 = .ok (.iload_n 2, 1) := by decide +kernel
theorem dX8_dropBranch_48 : decode cX8_dropBranch 48 = .ok (.iconst 1, 1) := by decide +kernel
theorem dX8_dropBranch_49 : decode cX8_dropBranch 49 = .ok (.iadd, 1) := by decide +kernel
theorem dX8_dropBranch_50 : decode cX8_dropBranch 50 = .ok (.iload_n 3, 1) := by decide +kernel
theorem dX8_dropBranch_51 : decode cX8_dropBranch 51 = .ok (.invokevirtual 51, 3) := by decide +kernel
theorem dX8_dropBranch_54 : decode cX8_dropBranch 54 = .ok (.invokevirtual 71, 3) := by decide +kernel
theorem dX8_dropBranch_57 : decode cX8_dropBranch 57 = .ok (.iinc 3 1, 3) := by decide +kernel
theorem dX8_dropBranch_60 : decode cX8_dropBranch 60 = .ok (.goto (-23), 3) := by decide +kernel
theorem dX8_dropBranch_63 : decode cX8_dropBranch 63 = .ok (.iinc 2 1, 3) := by decide +kernel
theorem dX8_dropBranch_66 : decode cX8_dropBranch 66 = .ok (.goto (-54), 3) := by decide +kernel
theorem dX8_dropBranch_69 : decode cX8_dropBranch 69 = .ok (.aload_n 0, 1) := by decide +kernel
theorem dX8_dropBranch_70 : decode cX8_dropBranch 70 = .ok (.getfield 33, 3) := by decide +kernel
theorem dX8_dropBranch_73 : decode cX8_dropBranch 73 = .ok (.ireturn, 1) := by decide +kernel
def f_X8_dropBranch_L37 (x2_12 : Int32) (j63 : Mem → Option (Int32 × Mem)) : Nat → Mem → Int32 → Option (Int32 × Mem)
  | 0, _, _ => none
  | n37 + 1, V37, x3_37 =>
    if 8 ≤ x3_37 then
      j63 V37
    else
      bd (f_X8_workingLetter V37 (x2_12 + 1) x3_37) fun r51 V51 =>
      bv (f_X8_putWorking V51 x2_12 x3_37 r51) fun V54 =>
      (f_X8_dropBranch_L37 x2_12 j63 n37) V54 (x3_37 + 1)
def f_X8_dropBranch_L12 (j69 : Mem → Option (Int32 × Mem)) : Nat → Mem → Int32 → Option (Int32 × Mem)
  | 0, _, _ => none
  | n12 + 1, V12, x2_12 =>
    if (V12 0 0) ≤ x2_12 then
      j69 V12
    else
      bd (f_X8_headOf V12 (x2_12 + 1)) fun r29 V29 =>
      bv (f_X7_set V29 14 5 x2_12 r29) fun V32 =>
      jn (α := Mem → Option (Int32 × Mem)) (fun j63 =>
        f_X8_dropBranch_L37 x2_12 j63 FU V32 0
      ) (fun (V63 : Mem) =>
        (f_X8_dropBranch_L12 j69 n12) V63 (x2_12 + 1)
      )
def f_X8_dropBranch (V : Mem) (a1 : Int32) : Option (Int32 × Mem) :=
  lt (stv V 0 0 ((V 0 0) - 1)) fun V7 =>
  jn (α := Mem → Option (Int32 × Mem)) (fun j69 =>
    f_X8_dropBranch_L12 j69 FU V7 a1
  ) (fun (V69 : Mem) =>
    some ((V69 0 0), V69)
  )
theorem cv_X8_dropBranch : CalV yX8_dropBranch cX8_dropBranch 4 (some .int) 1 := ⟨⟨⟨by decide +kernel, by decide +kernel⟩, tw_1_2, tw_4_5, by decide +kernel⟩, tw_4_3, tw_4_4⟩
set_option maxRecDepth 100000 in
set_option maxHeartbeats 4000000 in
theorem m_X8_dropBranch (l : Launch) (E : En) (ad : Nat → Nat) (V : Mem) (a1 : Int32) (r : Int32) (Vz : Mem) (hf : f_X8_dropBranch V a1 = some (r, Vz)) : MR l E ad yX8_dropBranch cX8_dropBranch 4 (some .int) 3 [.ref (ad 0), .int a1] V (some (.int r)) Vz := by
  refine ent (E := E) (ad := ad) (V := V) "LetterRepository$Store" (by decide +kernel) rfl (Nat.le_of_ble_eq_true rfl) ?_
  intro p e s m below meth c ls hC hI hl
  have hx := hC.1
  have hb := hC.2.1
  have hl : lv_has ls 4 [(0, .ref (ad 0)), (1, .int a1)] := hl
  unfold f_X8_dropBranch at hf
  refine lv_aload_n hx hb dX8_dropBranch_0 rfl (lv_at hl 0 rfl) ?_
  refine lv_dup hx hb dX8_dropBranch_1 rfl ?_
  refine g_0_branchCount hC hI tw_1_104 dX8_dropBranch_2 ?_
  refine lv_iconst (v := 1) hx hb dX8_dropBranch_5 rfl ?_
  refine lv_isub hx hb dX8_dropBranch_6 ?_
  obtain ⟨V7, e7, hf⟩ := gl hf
  refine p_0_branchCount hC hI  e7 tw_1_104 dX8_dropBranch_7 (fun H locs hI => ?_)
  refine lv_iload_n hx hb dX8_dropBranch_10 rfl (lv_at hl 1 rfl) ?_
  refine lv_istore_n (lv' := [(2, .int a1), (0, .ref (ad 0)), (1, .int a1)]) hx hb dX8_dropBranch_11 rfl hl (Nat.lt_of_lt_of_eq (by decide) rfl) rfl (fun ls hl => ?_)
  obtain ⟨j69, hj69, hf⟩ := gj hf
  have J69 : ∀ (V69 : Mem) (H : Heap) (locs : List Loc) (ls : Array Slot), j69 V69 = some (r, Vz) → In E ad V69 s H locs → lv_has ls 4 [(0, .ref (ad 0))] → W p l e (rmd 3) s m ([.ref (ad 0), .int a1] : List Value).toArray below meth c H locs 0 0 (MQ below (QR E ad (some (.int r)) Vz) ([.ref (ad 0), .int a1] : List Value).toArray s 0 0 (ours E)) (F0 m 69 ls []) := by
    intro V69 H locs ls hf hI hl
    rw [hj69] at hf
    dsimp only at hf
    refine lv_aload_n hx hb dX8_dropBranch_69 rfl (lv_at hl 0 rfl) ?_
    refine g_0_branchCount hC hI tw_1_104 dX8_dropBranch_70 ?_
    exact r_iret2 hC hI hf dX8_dropBranch_73
  have L12 : ∀ (n12 : Nat) (V12 : Mem) (x2_12 : Int32) (H : Heap) (locs : List Loc) (ls : Array Slot), f_X8_dropBranch_L12 j69 n12 V12 x2_12 = some (r, Vz) → In E ad V12 s H locs → lv_has ls 4 [(0, .ref (ad 0)), (2, .int x2_12)] → W p l e (rmd 3) s m ([.ref (ad 0), .int a1] : List Value).toArray below meth c H locs 0 0 (MQ below (QR E ad (some (.int r)) Vz) ([.ref (ad 0), .int a1] : List Value).toArray s 0 0 (ours E)) (F0 m 12 ls []) := by
    intro n12
    induction n12 with
    | zero => intro V12 x2_12 H locs ls hf hI hl; cases hf
    | succ n12 ih12 =>
      intro V12 x2_12 H locs ls hf hI hl
      rw [f_X8_dropBranch_L12.eq_2] at hf
      refine lv_iload_n hx hb dX8_dropBranch_12 rfl (lv_at hl 1 rfl) ?_
      refine lv_aload_n hx hb dX8_dropBranch_13 rfl (lv_at hl 0 rfl) ?_
      refine g_0_branchCount hC hI tw_1_104 dX8_dropBranch_14 ?_
      refine lv_icmp_ge (tgt := 69) hx hb dX8_dropBranch_17 (by decide) (fun c17 => ?_) (fun c17 => ?_)
      · have hf := gt hf c17
        exact J69 _ _ _ _ hf hI (lv_sub hl [0] rfl)
      · have hf := gf hf c17
        refine lv_aload_n hx hb dX8_dropBranch_20 rfl (lv_at hl 0 rfl) ?_
        refine g_0_heads hC hI tw_1_101 dX8_dropBranch_21 ?_
        refine lv_iload_n hx hb dX8_dropBranch_24 rfl (lv_at hl 1 rfl) ?_
        refine lv_aload_n hx hb dX8_dropBranch_25 rfl (lv_at hl 0 rfl) ?_
        refine lv_iload_n hx hb dX8_dropBranch_26 rfl (lv_at hl 1 rfl) ?_
        refine lv_iconst (v := 1) hx hb dX8_dropBranch_27 rfl ?_
        refine lv_iadd hx hb dX8_dropBranch_28 ?_
        obtain ⟨r29, V29, q29, hf⟩ := gbd hf
        refine k_X8_headOf hC hI hl.1 q29 tw_2_55 ⟨Nat.le_of_ble_eq_true rfl, Nat.le_of_ble_eq_true rfl⟩ ⟨Nat.le_refl _, Nat.le_refl _⟩ (Nat.le_of_ble_eq_true rfl) dX8_dropBranch_29 (fun H locs hI => ?_)
        obtain ⟨V32, q32, hf⟩ := gbv hf
        refine k_X7_set row_14 hC hI hl.1 q32 tw_3_134 ⟨Nat.le_of_ble_eq_true rfl, Nat.le_of_ble_eq_true rfl⟩ ⟨Nat.le_refl _, Nat.le_refl _⟩ (Nat.le_of_ble_eq_true rfl) dX8_dropBranch_32 (fun H locs hI => ?_)
        refine lv_iconst (v := 0) hx hb dX8_dropBranch_35 rfl ?_
        refine lv_istore_n (lv' := [(3, .int 0), (0, .ref (ad 0)), (2, .int x2_12)]) hx hb dX8_dropBranch_36 rfl hl (Nat.lt_of_lt_of_eq (by decide) rfl) rfl (fun ls hl => ?_)
        obtain ⟨j63, hj63, hf⟩ := gj hf
        have J63 : ∀ (V63 : Mem) (H : Heap) (locs : List Loc) (ls : Array Slot), j63 V63 = some (r, Vz) → In E ad V63 s H locs → lv_has ls 4 [(0, .ref (ad 0)), (2, .int x2_12)] → W p l e (rmd 3) s m ([.ref (ad 0), .int a1] : List Value).toArray below meth c H locs 0 0 (MQ below (QR E ad (some (.int r)) Vz) ([.ref (ad 0), .int a1] : List Value).toArray s 0 0 (ours E)) (F0 m 63 ls []) := by
          intro V63 H locs ls hf hI hl
          rw [hj63] at hf
          dsimp only at hf
          refine lv_iinc (v := (x2_12 + 1)) (lv' := [(2, .int (x2_12 + 1)), (0, .ref (ad 0))]) hx hb dX8_dropBranch_63 hl (k := 1) rfl rfl (Nat.lt_of_lt_of_eq (by decide) rfl) rfl (fun ls hl => ?_)
          refine lv_goto (tgt := 12) hx hb dX8_dropBranch_66 (by decide) ?_
          exact ih12 _ _ _ _ _ hf hI (lv_sub hl [1, 0] rfl)
        have L37 : ∀ (n37 : Nat) (V37 : Mem) (x3_37 : Int32) (H : Heap) (locs : List Loc) (ls : Array Slot), f_X8_dropBranch_L37 x2_12 j63 n37 V37 x3_37 = some (r, Vz) → In E ad V37 s H locs → lv_has ls 4 [(0, .ref (ad 0)), (2, .int x2_12), (3, .int x3_37)] → W p l e (rmd 3) s m ([.ref (ad 0), .int a1] : List Value).toArray below meth c H locs 0 0 (MQ below (QR E ad (some (.int r)) Vz) ([.ref (ad 0), .int a1] : List Value).toArray s 0 0 (ours E)) (F0 m 37 ls []) := by
          intro n37
          induction n37 with
          | zero => intro V37 x3_37 H locs ls hf hI hl; cases hf
          | succ n37 ih37 =>
            intro V37 x3_37 H locs ls hf hI hl
            rw [f_X8_dropBranch_L37.eq_2] at hf
            refine lv_iload_n hx hb dX8_dropBranch_37 rfl (lv_at hl 2 rfl) ?_
            refine lv_bipush (v := 8) hx hb dX8_dropBranch_38 rfl ?_
            refine lv_icmp_ge (tgt := 63) hx hb dX8_dropBranch_40 (by decide) (fun c40 => ?_) (fun c40 => ?_)
            · have hf := gt hf c40
              exact J63 _ _ _ _ hf hI (lv_sub hl [0, 1] rfl)
            · have hf := gf hf c40
              refine lv_aload_n hx hb dX8_dropBranch_43 rfl (lv_at hl 0 rfl) ?_
              refine lv_iload_n hx hb dX8_dropBranch_44 rfl (lv_at hl 1 rfl) ?_
              refine lv_iload_n hx hb dX8_dropBranch_45 rfl (lv_at hl 2 rfl) ?_
              refine lv_aload_n hx hb dX8_dropBranch_46 rfl (lv_at hl 0 rfl) ?_
              refine lv_iload_n hx hb dX8_dropBranch_47 rfl (lv_at hl 1 rfl) ?_
              refine lv_iconst (v := 1) hx hb dX8_dropBranch_48 rfl ?_
              refine lv_iadd hx hb dX8_dropBranch_49 ?_
              refine lv_iload_n hx hb dX8_dropBranch_50 rfl (lv_at hl 2 rfl) ?_
              obtain ⟨r51, V51, q51, hf⟩ := gbd hf
              refine k_X8_workingLetter hC hI hl.1 q51 tw_3_146 ⟨Nat.le_of_ble_eq_true rfl, Nat.le_of_ble_eq_true rfl⟩ ⟨Nat.le_refl _, Nat.le_refl _⟩ (Nat.le_of_ble_eq_true rfl) dX8_dropBranch_51 (fun H locs hI => ?_)
              obtain ⟨V54, q54, hf⟩ := gbv hf
              refine k_X8_putWorking hC hI hl.1 q54 tw_3_130 ⟨Nat.le_of_ble_eq_true rfl, Nat.le_of_ble_eq_true rfl⟩ ⟨Nat.le_refl _, Nat.le_refl _⟩ (Nat.le_of_ble_eq_true rfl) dX8_dropBranch_54 (fun H locs hI => ?_)
              refine lv_iinc (v := (x3_37 + 1)) (lv' := [(3, .int (x3_37 + 1)), (0, .ref (ad 0)), (2, .int x2_12)]) hx hb dX8_dropBranch_57 hl (k := 2) rfl rfl (Nat.lt_of_lt_of_eq (by decide) rfl) rfl (fun ls hl => ?_)
              refine lv_goto (tgt := 37) hx hb dX8_dropBranch_60 (by decide) ?_
              exact ih37 _ _ _ _ _ hf hI (lv_sub hl [1, 2, 0] rfl)
        exact L37 _ _ _ _ _ _ hf hI (lv_sub hl [1, 2, 0] rfl)
  exact L12 _ _ _ _ _ _ hf hI (lv_sub hl [1, 0] rfl)
theorem k_X8_dropBranch {p : Program} {l : Launch} {e : Env} {R : Room} {cells slots : Nat} {s : State} {m : MethodId} {args : Array Value} {below : List Frame} {meth : Method} {c : Code} {H : Heap} {locs : List Loc} {Q : State → Prop} {E : En} {ad : Nat → Nat} {V : Mem} {ow : String} {b : ByteArray} {n : Nat} {ret : Option FieldType} {pc index : Nat} {ls : Array Slot} {rest : List Value} {a1 : Int32} {r : Int32} {V1 : Mem} (hC : Cx p s m args c meth E ow b n ret) (hI : In E ad V s H locs) (hsz : ls.size = n) (hf : f_X8_dropBranch V a1 = some (r, V1)) (hl : Cond.methodLink ow index yX8_dropBranch ∈ TB) (hR : 3 + 1 ≤ R.frames ∧ 8 + (4 + 11) + 40 * 3 ≤ R.locals) (hcs : cells ≤ R.cells ∧ slots ≤ R.slots) (hw : (rest.map fun v => v.category).sum ≤ 8) (hdg : decode b pc = .ok (.invokevirtual index, 3)) (kk : ∀ (H1 : Heap) (locs1 : List Loc), In E ad V1 s H1 locs1 → W p l e R s m args below meth c H1 locs1 cells slots Q (F0 m (pc + 3) ls ((.int r) :: rest))) : W p l e R s m args below meth c H locs cells slots Q (F0 m pc ls (.int a1 :: .ref (ad 0) :: rest)) :=
  r_calV (As := [.int a1]) (rest := rest) hC hI hsz (m_X8_dropBranch l E ad V a1 r _ hf) cv_X8_dropBranch hl (by decide) (ce_0 _) rfl rfl rfl hR hcs hw hdg kk

theorem dX8_refusalOfPair_0 : decode cX8_refusalOfPair 0 = .ok (.aload_n 0, 1) := by decide +kernel
theorem dX8_refusalOfPair_1 : decode cX8_refusalOfPair 1 = .ok (.iload_n 1, 1) := by decide +kernel
theorem dX8_refusalOfPair_2 : decode cX8_refusalOfPair 2 = .ok (.invokevirtual 75, 3) := by decide +kernel
theorem dX8_refusalOfPair_5 : decode cX8_refusalOfPair 5 = .ok (.ifCond .eq 11, 3) := by decide +kernel
theorem dX8_refusalOfPair_8 : decode cX8_refusalOfPair 8 = .ok (.aload_n 0, 1) := by decide +kernel
theorem dX8_refusalOfPair_9 : decode cX8_refusalOfPair 9 = .ok (.iload_n 2, 1) := by decide +kernel
theorem dX8_refusalOfPair_10 : decode cX8_refusalOfPair 10 = .ok (.invokevirtual 75, 3) := by decide +kernel
theorem dX8_refusalOfPair_13 : decode cX8_refusalOfPair 13 = .ok (.ifCond .ne 7, 3) := by decide +kernel
theorem dX8_refusalOfPair_16 : decode cX8_refusalOfPair 16 = .ok (.getstatic 82, 3) := by decide +kernel
theorem dX8_refusalOfPair_19 : decode cX8_refusalOfPair 19 = .ok (.areturn, 1) := by decide +kernel
theorem dX8_refusalOfPair_20 : decode cX8_refusalOfPair 20 = .ok (.iload_n 1, 1) := by decide +kernel
theorem dX8_refusalOfPair_21 : decode cX8_refusalOfPair 21 = .ok (.iload_n 2, 1) := by decide +kernel
theorem dX8_refusalOfPair_22 : decode cX8_refusalOfPair 22 = .ok (.if_icmp .ne 9, 3) := by decide +kernel
theorem dX8_refusalOfPair_25 : decode cX8_refusalOfPair 25 = .ok (.getstatic 94, 3) := by decide +kernel
theorem dX8_refusalOfPair_28 : decode cX8_refusalOfPair 28 = .ok (.goto 6, 3) := by decide +kernel
theorem dX8_refusalOfPair_31 : decode cX8_refusalOfPair 31 = .ok (.getstatic 91, 3) := by decide +kernel
theorem dX8_refusalOfPair_34 : decode cX8_refusalOfPair 34 = .ok (.areturn, 1) := by decide +kernel
def f_X8_refusalOfPair (V : Mem) (a1 : Int32) (a2 : Int32) : Option (Nat × Mem) :=
  bd (f_X8_hasBranch V a1) fun r2 V2 =>
  jn (α := Mem → Option (Nat × Mem)) (fun j16 =>
    if r2 = 0 then
      j16 V2
    else
      bd (f_X8_hasBranch V2 a2) fun r10 V10 =>
      if r10 = 0 then
        j16 V10
      else
        if a1 = a2 then
          some (2, V10)
        else
          some (0, V10)
  ) (fun (V16 : Mem) =>
    some (1, V16)
  )
theorem cv_X8_refusalOfPair : CalV yX8_refusalOfPair cX8_refusalOfPair 3 (some (.object "LetterRepository$Refusal")) 2 := ⟨⟨⟨by decide +kernel, by decide +kernel⟩, tw_1_2, tw_4_24, by decide +kernel⟩, tw_4_22, tw_4_23⟩
set_option maxRecDepth 100000 in
set_option maxHeartbeats 4000000 in
theorem m_X8_refusalOfPair (l : Launch) (E : En) (ad : Nat → Nat) (V : Mem) (a1 : Int32) (a2 : Int32) (hS : SF E) (r : Nat) (Vz : Mem) (hf : f_X8_refusalOfPair V a1 a2 = some (r, Vz)) : MR l E ad yX8_refusalOfPair cX8_refusalOfPair 3 (some (.object "LetterRepository$Refusal")) 2 [.ref (ad 0), .int a1, .int a2] V (some (.ref (eR E r))) Vz := by
  refine ent (E := E) (ad := ad) (V := V) "LetterRepository$Store" (by decide +kernel) rfl (Nat.le_of_ble_eq_true rfl) ?_
  intro p e s m below meth c ls hC hI hl
  have hx := hC.1
  have hb := hC.2.1
  have hl : lv_has ls 3 [(0, .ref (ad 0)), (1, .int a1), (2, .int a2)] := hl
  unfold f_X8_refusalOfPair at hf
  refine lv_aload_n hx hb dX8_refusalOfPair_0 rfl (lv_at hl 0 rfl) ?_
  refine lv_iload_n hx hb dX8_refusalOfPair_1 rfl (lv_at hl 1 rfl) ?_
  obtain ⟨r2, V2, q2, hf⟩ := gbd hf
  refine k_X8_hasBranch hC hI hl.1 q2 tw_2_223 ⟨Nat.le_of_ble_eq_true rfl, Nat.le_of_ble_eq_true rfl⟩ ⟨Nat.le_refl _, Nat.le_refl _⟩ (Nat.le_of_ble_eq_true rfl) dX8_refusalOfPair_2 (fun H locs hI => ?_)
  obtain ⟨j16, hj16, hf⟩ := gj hf
  have J16 : ∀ (V16 : Mem) (H : Heap) (locs : List Loc) (ls : Array Slot), j16 V16 = some (r, Vz) → In E ad V16 s H locs → lv_has ls 3 [] → W p l e (rmd 2) s m ([.ref (ad 0), .int a1, .int a2] : List Value).toArray below meth c H locs 0 0 (MQ below (QR E ad (some (.ref (eR E r))) Vz) ([.ref (ad 0), .int a1, .int a2] : List Value).toArray s 0 0 (ours E)) (F0 m 16 ls []) := by
    intro V16 H locs ls hf hI hl
    rw [hj16] at hf
    dsimp only at hf
    refine r_gsR 1 hS hC hI (by decide) tw_2_230 dX8_refusalOfPair_16 ?_
    exact r_aretE hC hI hf dX8_refusalOfPair_19
  refine lv_if_eq (tgt := 16) hx hb dX8_refusalOfPair_5 (by decide) (fun c5 => ?_) (fun c5 => ?_)
  · have hf := gt hf c5
    exact J16 _ _ _ _ hf hI (lv_sub hl [] rfl)
  · have hf := gf hf c5
    refine lv_aload_n hx hb dX8_refusalOfPair_8 rfl (lv_at hl 0 rfl) ?_
    refine lv_iload_n hx hb dX8_refusalOfPair_9 rfl (lv_at hl 2 rfl) ?_
    obtain ⟨r10, V10, q10, hf⟩ := gbd hf
    refine k_X8_hasBranch hC hI hl.1 q10 tw_2_223 ⟨Nat.le_of_ble_eq_true rfl, Nat.le_of_ble_eq_true rfl⟩ ⟨Nat.le_refl _, Nat.le_refl _⟩ (Nat.le_of_ble_eq_true rfl) dX8_refusalOfPair_10 (fun H locs hI => ?_)
    refine lv_if_ne (tgt := 20) hx hb dX8_refusalOfPair_13 (by decide) (fun c13 => ?_) (fun c13 => ?_)
    · have hf := gf hf c13
      refine lv_iload_n hx hb dX8_refusalOfPair_20 rfl (lv_at hl 1 rfl) ?_
      refine lv_iload_n hx hb dX8_refusalOfPair_21 rfl (lv_at hl 2 rfl) ?_
      refine lv_icmp_ne (tgt := 31) hx hb dX8_refusalOfPair_22 (by decide) (fun c22 => ?_) (fun c22 => ?_)
      · have hf := gf hf c22
        refine r_gsR 0 hS hC hI (by decide) tw_2_235 dX8_refusalOfPair_31 ?_
        exact r_aretE hC hI hf dX8_refusalOfPair_34
      · have hf := gt hf c22
        refine r_gsR 2 hS hC hI (by decide) tw_2_237 dX8_refusalOfPair_25 ?_
        refine lv_goto (tgt := 34) hx hb dX8_refusalOfPair_28 (by decide) ?_
        exact r_aretE hC hI hf dX8_refusalOfPair_34
    · have hf := gt hf c13
      exact J16 _ _ _ _ hf hI (lv_sub hl [] rfl)
theorem k_X8_refusalOfPair {p : Program} {l : Launch} {e : Env} {R : Room} {cells slots : Nat} {s : State} {m : MethodId} {args : Array Value} {below : List Frame} {meth : Method} {c : Code} {H : Heap} {locs : List Loc} {Q : State → Prop} {E : En} {ad : Nat → Nat} {V : Mem} {ow : String} {b : ByteArray} {n : Nat} {ret : Option FieldType} {pc index : Nat} {ls : Array Slot} {rest : List Value} {a1 : Int32} {a2 : Int32} {r : Nat} {V1 : Mem} (hS : SF E) (hC : Cx p s m args c meth E ow b n ret) (hI : In E ad V s H locs) (hsz : ls.size = n) (hf : f_X8_refusalOfPair V a1 a2 = some (r, V1)) (hl : Cond.methodLink ow index yX8_refusalOfPair ∈ TB) (hR : 2 + 1 ≤ R.frames ∧ 8 + (3 + 11) + 40 * 2 ≤ R.locals) (hcs : cells ≤ R.cells ∧ slots ≤ R.slots) (hw : (rest.map fun v => v.category).sum ≤ 8) (hdg : decode b pc = .ok (.invokevirtual index, 3)) (kk : ∀ (H1 : Heap) (locs1 : List Loc), In E ad V1 s H1 locs1 → W p l e R s m args below meth c H1 locs1 cells slots Q (F0 m (pc + 3) ls ((.ref (eR E r)) :: rest))) : W p l e R s m args below meth c H locs cells slots Q (F0 m pc ls (.int a2 :: .int a1 :: .ref (ad 0) :: rest)) :=
  r_calV (As := [.int a1, .int a2]) (rest := rest) hC hI hsz (m_X8_refusalOfPair l E ad V a1 a2 hS r _ hf) cv_X8_refusalOfPair hl (by decide) (ce_0 _) rfl rfl rfl hR hcs hw hdg kk

theorem dX8_refusalOfKeeping_0 : decode cX8_refusalOfKeeping 0 = .ok (.aload_n 0, 1) := by decide +kernel
theorem dX8_refusalOfKeeping_1 : decode cX8_refusalOfKeeping 1 = .ok (.iload_n 1, 1) := by decide +kernel
theorem dX8_refusalOfKeeping_2 : decode cX8_refusalOfKeeping 2 = .ok (.iload_n 2, 1) := by decide +kernel
theorem dX8_refusalOfKeeping_3 : decode cX8_refusalOfKeeping 3 = .ok (.invokevirtual 126, 3) := by decide +kernel
theorem dX8_refusalOfKeeping_6 : decode cX8_refusalOfKeeping 6 = .ok (.astore_n 3, 1) := by decide +kernel
theorem dX8_refusalOfKeeping_7 : decode cX8_refusalOfKeeping 7 = .ok (.aload_n 3, 1) := by decide +kernel
theorem dX8_refusalOfKeeping_8 : decode cX8_refusalOfKeeping 8 = .ok (.getstatic 91, 3) := by decide +kernel
theorem dX8_refusalOfKeeping_11 : decode cX8_refusalOfKeeping 11 = .ok (.if_acmp .eq 5, 3) := by decide +kernel
theorem dX8_refusalOfKeeping_14 : decode cX8_refusalOfKeeping 14 = .ok (.aload_n 3, 1) := by decide +kernel
theorem dX8_refusalOfKeeping_15 : decode cX8_refusalOfKeeping 15 = .ok (.areturn, 1) := by decide +kernel
theorem dX8_refusalOfKeeping_16 : decode cX8_refusalOfKeeping 16 = .ok (.aload_n 0, 1) := by decide +kernel
theorem dX8_refusalOfKeeping_17 : decode cX8_refusalOfKeeping 17 = .ok (.iload_n 1, 1) := by decide +kernel
theorem dX8_refusalOfKeeping_18 : decode cX8_refusalOfKeeping 18 = .ok (.invokevirtual 97, 3) := by decide +kernel
theorem dX8_refusalOfKeeping_21 : decode cX8_refusalOfKeeping 21 = .ok (.ifCond .gt 11, 3) := by decide +kernel
theorem dX8_refusalOfKeeping_24 : decode cX8_refusalOfKeeping 24 = .ok (.aload_n 0, 1) := by decide +kernel
theorem dX8_refusalOfKeeping_25 : decode cX8_refusalOfKeeping 25 = .ok (.iload_n 2, 1) := by decide +kernel
theorem dX8_refusalOfKeeping_26 : decode cX8_refusalOfKeeping 26 = .ok (.invokevirtual 97, 3) := by decide +kernel
theorem dX8_refusalOfKeeping_29 : decode cX8_refusalOfKeeping 29 = .ok (.ifCond .le 7, 3) := by decide +kernel
theorem dX8_refusalOfKeeping_32 : decode cX8_refusalOfKeeping 32 = .ok (.iconst 1, 1) := by decide +kernel
theorem dX8_refusalOfKeeping_33 : decode cX8_refusalOfKeeping 33 = .ok (.goto 4, 3) := by decide +kernel
theorem dX8_refusalOfKeeping_36 : decode cX8_refusalOfKeeping 36 = .ok (.iconst 0, 1) := by decide +kernel
theorem dX8_refusalOfKeeping_37 : decode cX8_refusalOfKeeping 37 = .ok (.istore 4, 2) := by decide +kernel
theorem dX8_refusalOfKeeping_39 : decode cX8_refusalOfKeeping 39 = .ok (.aload_n 0, 1) := by decide +kernel
theorem dX8_refusalOfKeeping_40 : decode cX8_refusalOfKeeping 40 = .ok (.getfield 12, 3) := by decide +kernel
theorem dX8_refusalOfKeeping_43 : decode cX8_refusalOfKeeping 43 = .ok (.aload_n 0, 1) := by decide +kernel
theorem dX8_refusalOfKeeping_44 : decode cX8_refusalOfKeeping 44 = .ok (.iload_n 1, 1) := by decide +kernel
theorem dX8_refusalOfKeeping_45 : decode cX8_refusalOfKeeping 45 = .ok (.invokevirtual 55, 3) := by decide +kernel
theorem dX8_refusalOfKeeping_48 : decode cX8_refusalOfKeeping 48 = .ok (.invokevirtual 130, 3) := by decide +kernel
theorem dX8_refusalOfKeeping_51 : decode cX8_refusalOfKeeping 51 = .ok (.aload_n 0, 1) := by decide +kernel
theorem dX8_refusalOfKeeping_52 : decode cX8_refusalOfKeeping 52 = .ok (.iload_n 2, 1) := by decide +kernel
theorem dX8_refusalOfKeeping_53 : decode cX8_refusalOfKeeping 53 = .ok (.invokevirtual 55, 3) := by decide +kernel
theorem dX8_refusalOfKeeping_56 : decode cX8_refusalOfKeeping 56 = .ok (.invokestatic 133, 3) := by decide +kernel
theorem dX8_refusalOfKeeping_59 : decode cX8_refusalOfKeeping 59 = .ok (.istore 5, 2) := by decide +kernel
theorem dX8_refusalOfKeeping_61 : decode cX8_refusalOfKeeping 61 = .ok (.iload 4, 2) := by decide +kernel
theorem dX8_refusalOfKeeping_63 : decode cX8_refusalOfKeeping 63 = .ok (.ifCond .ne 18, 3) := by decide +kernel
theorem dX8_refusalOfKeeping_66 : decode cX8_refusalOfKeeping 66 = .ok (.iload 5, 2) := by decide +kernel
theorem dX8_refusalOfKeeping_68 : decode cX8_refusalOfKeeping 68 = .ok (.ifCond .ne 13, 3) := by decide +kernel
theorem dX8_refusalOfKeeping_71 : decode cX8_refusalOfKeeping 71 = .ok (.aload_n 0, 1) := by decide +kernel
theorem dX8_refusalOfKeeping_72 : decode cX8_refusalOfKeeping 72 = .ok (.getfield 12, 3) := by decide +kernel
theorem dX8_refusalOfKeeping_75 : decode cX8_refusalOfKeeping 75 = .ok (.invokevirtual 106, 3) := by decide +kernel
theorem dX8_refusalOfKeeping_78 : decode cX8_refusalOfKeeping 78 = .ok (.ifCond .eq 9, 3) := by decide +kernel
theorem dX8_refusalOfKeeping_81 : decode cX8_refusalOfKeeping 81 = .ok (.getstatic 110, 3) := by decide +kernel
theorem dX8_refusalOfKeeping_84 : decode cX8_refusalOfKeeping 84 = .ok (.goto 6, 3) := by decide +kernel
theorem dX8_refusalOfKeeping_87 : decode cX8_refusalOfKeeping 87 = .ok (.getstatic 91, 3) := by decide +kernel
theorem dX8_refusalOfKeeping_90 : decode cX8_refusalOfKeeping 90 = .ok (.areturn, 1) := by decide +kernel
def f_X8_refusalOfKeeping (V : Mem) (a1 : Int32) (a2 : Int32) : Option (Nat × Mem) :=
  bd (f_X8_refusalOfPair V a1 a2) fun r3 V3 =>
  if r3 < 5 then
    if r3 = 0 then
      bd (f_X8_countEdits V3 a1) fun r18 V18 =>
      jn (α := Mem → Int32 → Option (Nat × Mem)) (fun j37 =>
        jn (α := Mem → Option (Nat × Mem)) (fun j32 =>
          if 0 < r18 then
            j32 V18
          else
            bd (f_X8_countEdits V18 a2) fun r26 V26 =>
            if r26 ≤ 0 then
              j37 V26 0
            else
              j32 V26
        ) (fun (V32 : Mem) =>
          j37 V32 1
        )
      ) (fun (V37 : Mem) (s0_37 : Int32) =>
        bd (f_X8_headOf V37 a1) fun r45 V45 =>
        bd (f_X6_ancestorSetOf V45 r45) fun r48 V48 =>
        bd (f_X8_headOf V48 a2) fun r53 V53 =>
        bd (f_X9_contains V53 r48 r53) fun r56 V56 =>
        jn (α := Mem → Option (Nat × Mem)) (fun j81 =>
          if s0_37 = 0 then
            if r56 = 0 then
              bd (f_X6_isFull V56) fun r75 V75 =>
              if r75 = 0 then
                some (0, V75)
              else
                j81 V75
            else
              j81 V56
          else
            j81 V56
        ) (fun (V81 : Mem) =>
          some (4, V81)
        )
      )
    else
      some (r3, V3)
  else none
theorem cv_X8_refusalOfKeeping : CalV yX8_refusalOfKeeping cX8_refusalOfKeeping 6 (some (.object "LetterRepository$Refusal")) 2 := ⟨⟨⟨by decide +kernel, by decide +kernel⟩, tw_1_2, tw_4_20, by decide +kernel⟩, tw_4_18, tw_4_19⟩
set_option maxRecDepth 100000 in
set_option maxHeartbeats 4000000 in
theorem m_X8_refusalOfKeeping (l : Launch) (E : En) (ad : Nat → Nat) (V : Mem) (a1 : Int32) (a2 : Int32) (hS : SF E) (r : Nat) (Vz : Mem) (hf : f_X8_refusalOfKeeping V a1 a2 = some (r, Vz)) : MR l E ad yX8_refusalOfKeeping cX8_refusalOfKeeping 6 (some (.object "LetterRepository$Refusal")) 5 [.ref (ad 0), .int a1, .int a2] V (some (.ref (eR E r))) Vz := by
  refine ent (E := E) (ad := ad) (V := V) "LetterRepository$Store" (by decide +kernel) rfl (Nat.le_of_ble_eq_true rfl) ?_
  intro p e s m below meth c ls hC hI hl
  have hx := hC.1
  have hb := hC.2.1
  have hl : lv_has ls 6 [(0, .ref (ad 0)), (1, .int a1), (2, .int a2)] := hl
  unfold f_X8_refusalOfKeeping at hf
  refine lv_aload_n hx hb dX8_refusalOfKeeping_0 rfl (lv_at hl 0 rfl) ?_
  refine lv_iload_n hx hb dX8_refusalOfKeeping_1 rfl (lv_at hl 1 rfl) ?_
  refine lv_iload_n hx hb dX8_refusalOfKeeping_2 rfl (lv_at hl 2 rfl) ?_
  obtain ⟨r3, V3, q3, hf⟩ := gbd hf
  refine k_X8_refusalOfPair hS hC hI hl.1 q3 tw_4_21 ⟨Nat.le_of_ble_eq_true rfl, Nat.le_of_ble_eq_true rfl⟩ ⟨Nat.le_refl _, Nat.le_refl _⟩ (Nat.le_of_ble_eq_true rfl) dX8_refusalOfKeeping_3 (fun H locs hI => ?_)
  refine lv_astore_n (lv' := [(3, .ref (eR E r3)), (0, .ref (ad 0)), (1, .int a1), (2, .int a2)]) hx hb dX8_refusalOfKeeping_6 rfl hl (Nat.lt_of_lt_of_eq (by decide) rfl) rfl (fun ls hl => ?_)
  refine lv_aload_n hx hb dX8_refusalOfKeeping_7 rfl (lv_at hl 0 rfl) ?_
  refine r_gsR 0 hS hC hI (by decide) tw_2_235 dX8_refusalOfKeeping_8 ?_
  obtain ⟨b11, hf⟩ := gi hf
  refine r_acR_eq (tgt := 16) hS hC b11 (by decide) dX8_refusalOfKeeping_11 (by decide) (fun c11 => ?_) (fun c11 => ?_)
  · have hf := gt hf c11
    refine lv_aload_n hx hb dX8_refusalOfKeeping_16 rfl (lv_at hl 1 rfl) ?_
    refine lv_iload_n hx hb dX8_refusalOfKeeping_17 rfl (lv_at hl 2 rfl) ?_
    obtain ⟨r18, V18, q18, hf⟩ := gbd hf
    refine k_X8_countEdits hC hI hl.1 q18 tw_3_138 ⟨Nat.le_of_ble_eq_true rfl, Nat.le_of_ble_eq_true rfl⟩ ⟨Nat.le_refl _, Nat.le_refl _⟩ (Nat.le_of_ble_eq_true rfl) dX8_refusalOfKeeping_18 (fun H locs hI => ?_)
    obtain ⟨j37, hj37, hf⟩ := gj hf
    have J37 : ∀ (V37 : Mem) (s0_37 : Int32) (H : Heap) (locs : List Loc) (ls : Array Slot), j37 V37 s0_37 = some (r, Vz) → In E ad V37 s H locs → lv_has ls 6 [(0, .ref (ad 0)), (1, .int a1), (2, .int a2)] → W p l e (rmd 5) s m ([.ref (ad 0), .int a1, .int a2] : List Value).toArray below meth c H locs 0 0 (MQ below (QR E ad (some (.ref (eR E r))) Vz) ([.ref (ad 0), .int a1, .int a2] : List Value).toArray s 0 0 (ours E)) (F0 m 37 ls [.int s0_37]) := by
      intro V37 s0_37 H locs ls hf hI hl
      rw [hj37] at hf
      dsimp only at hf
      refine lv_istore (lv' := [(4, .int s0_37), (0, .ref (ad 0)), (1, .int a1), (2, .int a2)]) hx hb dX8_refusalOfKeeping_37 hl (Nat.lt_of_lt_of_eq (by decide) rfl) rfl (fun ls hl => ?_)
      refine lv_aload_n hx hb dX8_refusalOfKeeping_39 rfl (lv_at hl 1 rfl) ?_
      refine g_0_revisions hC hI tw_1_99 dX8_refusalOfKeeping_40 ?_
      refine lv_aload_n hx hb dX8_refusalOfKeeping_43 rfl (lv_at hl 1 rfl) ?_
      refine lv_iload_n hx hb dX8_refusalOfKeeping_44 rfl (lv_at hl 2 rfl) ?_
      obtain ⟨r45, V45, q45, hf⟩ := gbd hf
      refine k_X8_headOf hC hI hl.1 q45 tw_2_55 ⟨Nat.le_of_ble_eq_true rfl, Nat.le_of_ble_eq_true rfl⟩ ⟨Nat.le_refl _, Nat.le_refl _⟩ (Nat.le_of_ble_eq_true rfl) dX8_refusalOfKeeping_45 (fun H locs hI => ?_)
      obtain ⟨r48, V48, q48, hf⟩ := gbd hf
      refine k_X6_ancestorSetOf hC hI hl.1 q48 tw_4_25 ⟨Nat.le_of_ble_eq_true rfl, Nat.le_of_ble_eq_true rfl⟩ ⟨Nat.le_refl _, Nat.le_refl _⟩ (Nat.le_of_ble_eq_true rfl) dX8_refusalOfKeeping_48 (fun H locs hI => ?_)
      refine lv_aload_n hx hb dX8_refusalOfKeeping_51 rfl (lv_at hl 1 rfl) ?_
      refine lv_iload_n hx hb dX8_refusalOfKeeping_52 rfl (lv_at hl 3 rfl) ?_
      obtain ⟨r53, V53, q53, hf⟩ := gbd hf
      refine k_X8_headOf hC hI hl.1 q53 tw_2_55 ⟨Nat.le_of_ble_eq_true rfl, Nat.le_of_ble_eq_true rfl⟩ ⟨Nat.le_refl _, Nat.le_refl _⟩ (Nat.le_of_ble_eq_true rfl) dX8_refusalOfKeeping_53 (fun H locs hI => ?_)
      obtain ⟨r56, V56, q56, hf⟩ := gbd hf
      refine kN_X9_contains hC hI hl.1 q56 tw_2_88 ⟨Nat.le_of_ble_eq_true rfl, Nat.le_of_ble_eq_true rfl⟩ ⟨Nat.le_refl _, Nat.le_refl _⟩ (Nat.le_of_ble_eq_true rfl) dX8_refusalOfKeeping_56 (fun H locs hI => ?_)
      refine lv_istore (lv' := [(5, .int r56), (4, .int s0_37), (0, .ref (ad 0)), (1, .int a1), (2, .int a2)]) hx hb dX8_refusalOfKeeping_59 hl (Nat.lt_of_lt_of_eq (by decide) rfl) rfl (fun ls hl => ?_)
      refine lv_iload hx hb dX8_refusalOfKeeping_61 (lv_at hl 1 rfl) ?_
      obtain ⟨j81, hj81, hf⟩ := gj hf
      have J81 : ∀ (V81 : Mem) (H : Heap) (locs : List Loc) (ls : Array Slot), j81 V81 = some (r, Vz) → In E ad V81 s H locs → lv_has ls 6 [] → W p l e (rmd 5) s m ([.ref (ad 0), .int a1, .int a2] : List Value).toArray below meth c H locs 0 0 (MQ below (QR E ad (some (.ref (eR E r))) Vz) ([.ref (ad 0), .int a1, .int a2] : List Value).toArray s 0 0 (ours E)) (F0 m 81 ls []) := by
        intro V81 H locs ls hf hI hl
        rw [hj81] at hf
        dsimp only at hf
        refine r_gsR 4 hS hC hI (by decide) tw_3_189 dX8_refusalOfKeeping_81 ?_
        refine lv_goto (tgt := 90) hx hb dX8_refusalOfKeeping_84 (by decide) ?_
        exact r_aretE hC hI hf dX8_refusalOfKeeping_90
      refine lv_if_ne (tgt := 81) hx hb dX8_refusalOfKeeping_63 (by decide) (fun c63 => ?_) (fun c63 => ?_)
      · have hf := gf hf c63
        exact J81 _ _ _ _ hf hI (lv_sub hl [] rfl)
      · have hf := gt hf c63
        refine lv_iload hx hb dX8_refusalOfKeeping_66 (lv_at hl 0 rfl) ?_
        refine lv_if_ne (tgt := 81) hx hb dX8_refusalOfKeeping_68 (by decide) (fun c68 => ?_) (fun c68 => ?_)
        · have hf := gf hf c68
          exact J81 _ _ _ _ hf hI (lv_sub hl [] rfl)
        · have hf := gt hf c68
          refine lv_aload_n hx hb dX8_refusalOfKeeping_71 rfl (lv_at hl 2 rfl) ?_
          refine g_0_revisions hC hI tw_1_99 dX8_refusalOfKeeping_72 ?_
          obtain ⟨r75, V75, q75, hf⟩ := gbd hf
          refine k_X6_isFull hC hI hl.1 q75 tw_3_185 ⟨Nat.le_of_ble_eq_true rfl, Nat.le_of_ble_eq_true rfl⟩ ⟨Nat.le_refl _, Nat.le_refl _⟩ (Nat.le_of_ble_eq_true rfl) dX8_refusalOfKeeping_75 (fun H locs hI => ?_)
          refine lv_if_eq (tgt := 87) hx hb dX8_refusalOfKeeping_78 (by decide) (fun c78 => ?_) (fun c78 => ?_)
          · have hf := gt hf c78
            refine r_gsR 0 hS hC hI (by decide) tw_2_235 dX8_refusalOfKeeping_87 ?_
            exact r_aretE hC hI hf dX8_refusalOfKeeping_90
          · have hf := gf hf c78
            exact J81 _ _ _ _ hf hI (lv_sub hl [] rfl)
    obtain ⟨j32, hj32, hf⟩ := gj hf
    have J32 : ∀ (V32 : Mem) (H : Heap) (locs : List Loc) (ls : Array Slot), j32 V32 = some (r, Vz) → In E ad V32 s H locs → lv_has ls 6 [(0, .ref (ad 0)), (1, .int a1), (2, .int a2)] → W p l e (rmd 5) s m ([.ref (ad 0), .int a1, .int a2] : List Value).toArray below meth c H locs 0 0 (MQ below (QR E ad (some (.ref (eR E r))) Vz) ([.ref (ad 0), .int a1, .int a2] : List Value).toArray s 0 0 (ours E)) (F0 m 32 ls []) := by
      intro V32 H locs ls hf hI hl
      rw [hj32] at hf
      dsimp only at hf
      refine lv_iconst (v := 1) hx hb dX8_refusalOfKeeping_32 rfl ?_
      refine lv_goto (tgt := 37) hx hb dX8_refusalOfKeeping_33 (by decide) ?_
      exact J37 _ _ _ _ _ hf hI (lv_sub hl [0, 1, 2] rfl)
    refine lv_if_gt (tgt := 32) hx hb dX8_refusalOfKeeping_21 (by decide) (fun c21 => ?_) (fun c21 => ?_)
    · have hf := gt hf c21
      exact J32 _ _ _ _ hf hI (lv_sub hl [1, 2, 3] rfl)
    · have hf := gf hf c21
      refine lv_aload_n hx hb dX8_refusalOfKeeping_24 rfl (lv_at hl 1 rfl) ?_
      refine lv_iload_n hx hb dX8_refusalOfKeeping_25 rfl (lv_at hl 3 rfl) ?_
      obtain ⟨r26, V26, q26, hf⟩ := gbd hf
      refine k_X8_countEdits hC hI hl.1 q26 tw_3_138 ⟨Nat.le_of_ble_eq_true rfl, Nat.le_of_ble_eq_true rfl⟩ ⟨Nat.le_refl _, Nat.le_refl _⟩ (Nat.le_of_ble_eq_true rfl) dX8_refusalOfKeeping_26 (fun H locs hI => ?_)
      refine lv_if_le (tgt := 36) hx hb dX8_refusalOfKeeping_29 (by decide) (fun c29 => ?_) (fun c29 => ?_)
      · have hf := gt hf c29
        refine lv_iconst (v := 0) hx hb dX8_refusalOfKeeping_36 rfl ?_
        exact J37 _ _ _ _ _ hf hI (lv_sub hl [1, 2, 3] rfl)
      · have hf := gf hf c29
        exact J32 _ _ _ _ hf hI (lv_sub hl [1, 2, 3] rfl)
  · have hf := gf hf c11
    refine lv_aload_n hx hb dX8_refusalOfKeeping_14 rfl (lv_at hl 0 rfl) ?_
    exact r_aretE hC hI hf dX8_refusalOfKeeping_15
theorem k_X8_refusalOfKeeping {p : Program} {l : Launch} {e : Env} {R : Room} {cells slots : Nat} {s : State} {m : MethodId} {args : Array Value} {below : List Frame} {meth : Method} {c : Code} {H : Heap} {locs : List Loc} {Q : State → Prop} {E : En} {ad : Nat → Nat} {V : Mem} {ow : String} {b : ByteArray} {n : Nat} {ret : Option FieldType} {pc index : Nat} {ls : Array Slot} {rest : List Value} {a1 : Int32} {a2 : Int32} {r : Nat} {V1 : Mem} (hS : SF E) (hC : Cx p s m args c meth E ow b n ret) (hI : In E ad V s H locs) (hsz : ls.size = n) (hf : f_X8_refusalOfKeeping V a1 a2 = some (r, V1)) (hl : Cond.methodLink ow index yX8_refusalOfKeeping ∈ TB) (hR : 5 + 1 ≤ R.frames ∧ 8 + (6 + 11) + 40 * 5 ≤ R.locals) (hcs : cells ≤ R.cells ∧ slots ≤ R.slots) (hw : (rest.map fun v => v.category).sum ≤ 8) (hdg : decode b pc = .ok (.invokevirtual index, 3)) (kk : ∀ (H1 : Heap) (locs1 : List Loc), In E ad V1 s H1 locs1 → W p l e R s m args below meth c H1 locs1 cells slots Q (F0 m (pc + 3) ls ((.ref (eR E r)) :: rest))) : W p l e R s m args below meth c H locs cells slots Q (F0 m pc ls (.int a2 :: .int a1 :: .ref (ad 0) :: rest)) :=
  r_calV (As := [.int a1, .int a2]) (rest := rest) hC hI hsz (m_X8_refusalOfKeeping l E ad V a1 a2 hS r _ hf) cv_X8_refusalOfKeeping hl (by decide) (ce_0 _) rfl rfl rfl hR hcs hw hdg kk

theorem dX8_mergedSign_0 : decode cX8_mergedSign 0 = .ok (.aload_n 0, 1) := by decide +kernel
theorem dX8_mergedSign_1 : decode cX8_mergedSign 1 = .ok (.iload_n 1, 1) := by decide +kernel
theorem dX8_mergedSign_2 : decode cX8_mergedSign 2 = .ok (.invokevirtual 55, 3) := by decide +kernel
theorem dX8_mergedSign_5 : decode cX8_mergedSign 5 = .ok (.istore 4, 2) := by decide +kernel
theorem dX8_mergedSign_7 : decode cX8_mergedSign 7 = .ok (.aload_n 0, 1) := by decide +kernel
theorem dX8_mergedSign_8 : decode cX8_mergedSign 8 = .ok (.iload_n 2, 1) := by decide +kernel
theorem dX8_mergedSign_9 : decode cX8_mergedSign 9 = .ok (.invokevirtual 55, 3) := by decide +kernel
theorem dX8_mergedSign_12 : decode cX8_mergedSign 12 = .ok (.istore 5, 2) := by decide +kernel
theorem dX8_mergedSign_14 : decode cX8_mergedSign 14 = .ok (.aload_n 0, 1) := by decide +kernel
theorem dX8_mergedSign_15 : decode cX8_mergedSign 15 = .ok (.getfield 12, 3) := by decide +kernel
theorem dX8_mergedSign_18 : decode cX8_mergedSign 18 = .ok (.aload_n 0, 1) := by decide +kernel
theorem dX8_mergedSign_19 : decode cX8_mergedSign 19 = .ok (.getfield 12, 3) := by decide +kernel
theorem dX8_mergedSign_22 : decode cX8_mergedSign 22 = .ok (.iload 4, 2) := by decide +kernel
theorem dX8_mergedSign_24 : decode cX8_mergedSign 24 = .ok (.iload 5, 2) := by decide +kernel
theorem dX8_mergedSign_26 : decode cX8_mergedSign 26 = .ok (.invokevirtual 142, 3) := by decide +kernel
theorem dX8_mergedSign_29 : decode cX8_mergedSign 29 = .ok (.iload_n 3, 1) := by decide +kernel
theorem dX8_mergedSign_30 : decode cX8_mergedSign 30 = .ok (.invokevirtual 58, 3) := by decide +kernel
theorem dX8_mergedSign_33 : decode cX8_mergedSign 33 = .ok (.istore 6, 2) := by decide +kernel
theorem dX8_mergedSign_35 : decode cX8_mergedSign 35 = .ok (.aload_n 0, 1) := by decide +kernel
theorem dX8_mergedSign_36 : decode cX8_mergedSign 36 = .ok (.getfield 12, 3) := by decide +kernel
theorem dX8_mergedSign_39 : decode cX8_mergedSign 39 = .ok (.iload 4, 2) := by decide +kernel
theorem dX8_mergedSign_41 : decode cX8_mergedSign 41 = .ok (.iload_n 3, 1) := by decide +kernel
theorem dX8_mergedSign_42 : decode cX8_mergedSign 42 = .ok (.invokevirtual 58, 3) := by decide +kernel
theorem dX8_mergedSign_45 : decode cX8_mergedSign 45 = .ok (.istore 7, 2) := by decide +kernel
theorem dX8_mergedSign_47 : decode cX8_mergedSign 47 = .ok (.aload_n 0, 1) := by decide +kernel
theorem dX8_mergedSign_48 : decode cX8_mergedSign 48 = .ok (.getfield 12, 3) := by decide +kernel
theorem dX8_mergedSign_51 : decode cX8_mergedSign 51 = .ok (.iload 5, 2) := by decide +kernel
theorem dX8_mergedSign_53 : decode cX8_mergedSign 53 = .ok (.iload_n 3, 1) := by decide +kernel
theorem dX8_mergedSign_54 : decode cX8_mergedSign 54 = .ok (.invokevirtual 58, 3) := by decide +kernel
theorem dX8_mergedSign_57 : decode cX8_mergedSign 57 = .ok (.istore 8, 2) := by decide +kernel
theorem dX8_mergedSign_59 : decode cX8_mergedSign 59 = .ok (.iload 7, 2) := by decide +kernel
theorem dX8_mergedSign_61 : decode cX8_mergedSign 61 = .ok (.iload 8, 2) := by decide +kernel
theorem dX8_mergedSign_63 : decode cX8_mergedSign 63 = .ok (.if_icmp .eq 10, 3) := by decide +kernel
theorem dX8_mergedSign_66 : decode cX8_mergedSign 66 = .ok (.iload 8, 2) := by decide +kernel
theorem dX8_mergedSign_68 : decode cX8_mergedSign 68 = .ok (.iload 6, 2) := by decide +kernel
theorem dX8_mergedSign_70 : decode cX8_mergedSign 70 = .ok (.if_icmp .ne 6, 3) := by decide +kernel
theorem dX8_mergedSign_73 : decode cX8_mergedSign 73 = .ok (.iload 7, 2) := by decide +kernel
theorem dX8_mergedSign_75 : decode cX8_mergedSign 75 = .ok (.ireturn, 1) := by decide +kernel
theorem dX8_mergedSign_76 : decode cX8_mergedSign 76 = .ok (.iload 7, 2) := by decide +kernel
theorem dX8_mergedSign_78 : decode cX8_mergedSign 78 = .ok (.iload 6, 2) := by decide +kernel
theorem dX8_mergedSign_80 : decode cX8_mergedSign 80 = .ok (.if_icmp .ne 8, 3) := by decide +kernel
theorem dX8_mergedSign_83 : decode cX8_mergedSign 83 = .ok (.iload 8, 2) := by decide +kernel
theorem dX8_mergedSign_85 : decode cX8_mergedSign 85 = .ok (.goto 5, 3) := by decide +kernel
theorem dX8_mergedSign_88 : decode cX8_mergedSign 88 = .ok (.bipush 63, 2) := by decide +kernel
theorem dX8_mergedSign_90 : decode cX8_mergedSign 90 = .ok (.ireturn, 1) := by decide +kernel
def f_X8_mergedSign (V : Mem) (a1 : Int32) (a2 : Int32) (a3 : Int32) : Option (Int32 × Mem) :=
  bd (f_X8_headOf V a1) fun r2 V2 =>
  bd (f_X8_headOf V2 a2) fun r9 V9 =>
  bd (f_X6_latestCommonBySets V9 r2 r9) fun r26 V26 =>
  bd (f_X6_letterOf V26 r26 a3) fun r30 V30 =>
  bd (f_X6_letterOf V30 r2 a3) fun r42 V42 =>
  bd (f_X6_letterOf V42 r9 a3) fun r54 V54 =>
  if r42 = r54 then
    some (r42, V54)
  else
    if r54 = r30 then
      some (r42, V54)
    else
      if r42 = r30 then
        some (r54, V54)
      else
        some (63, V54)
theorem cv_X8_mergedSign : CalV yX8_mergedSign cX8_mergedSign 9 (some .int) 3 := ⟨⟨⟨by decide +kernel, by decide +kernel⟩, tw_1_2, tw_4_33, by decide +kernel⟩, tw_4_31, tw_4_32⟩
set_option maxRecDepth 100000 in
set_option maxHeartbeats 4000000 in
theorem m_X8_mergedSign (l : Launch) (E : En) (ad : Nat → Nat) (V : Mem) (a1 : Int32) (a2 : Int32) (a3 : Int32) (r : Int32) (Vz : Mem) (hf : f_X8_mergedSign V a1 a2 a3 = some (r, Vz)) : MR l E ad yX8_mergedSign cX8_mergedSign 9 (some .int) 4 [.ref (ad 0), .int a1, .int a2, .int a3] V (some (.int r)) Vz := by
  refine ent (E := E) (ad := ad) (V := V) "LetterRepository$Store" (by decide +kernel) rfl (Nat.le_of_ble_eq_true rfl) ?_
  intro p e s m below meth c ls hC hI hl
  have hx := hC.1
  have hb := hC.2.1
  have hl : lv_has ls 9 [(0, .ref (ad 0)), (1, .int a1), (2, .int a2), (3, .int a3)] := hl
  unfold f_X8_mergedSign at hf
  refine lv_aload_n hx hb dX8_mergedSign_0 rfl (lv_at hl 0 rfl) ?_
  refine lv_iload_n hx hb dX8_mergedSign_1 rfl (lv_at hl 1 rfl) ?_
  obtain ⟨r2, V2, q2, hf⟩ := gbd hf
  refine k_X8_headOf hC hI hl.1 q2 tw_2_55 ⟨Nat.le_of_ble_eq_true rfl, Nat.le_of_ble_eq_true rfl⟩ ⟨Nat.le_refl _, Nat.le_refl _⟩ (Nat.le_of_ble_eq_true rfl) dX8_mergedSign_2 (fun H locs hI => ?_)
  refine lv_istore (lv' := [(4, .int r2), (0, .ref (ad 0)), (1, .int a1), (2, .int a2), (3, .int a3)]) hx hb dX8_mergedSign_5 hl (Nat.lt_of_lt_of_eq (by decide) rfl) rfl (fun ls hl => ?_)
  refine lv_aload_n hx hb dX8_mergedSign_7 rfl (lv_at hl 1 rfl) ?_
  refine lv_iload_n hx hb dX8_mergedSign_8 rfl (lv_at hl 3 rfl) ?_
  obtain ⟨r9, V9, q9, hf⟩ := gbd hf
  refine k_X8_headOf hC hI hl.1 q9 tw_2_55 ⟨Nat.le_of_ble_eq_true rfl, Nat.le_of_ble_eq_true rfl⟩ ⟨Nat.le_refl _, Nat.le_refl _⟩ (Nat.le_of_ble_eq_true rfl) dX8_mergedSign_9 (fun H locs hI => ?_)
  refine lv_istore (lv' := [(5, .int r9), (4, .int r2), (0, .ref (ad 0)), (1, .int a1), (2, .int a2), (3, .int a3)]) hx hb dX8_mergedSign_12 hl (Nat.lt_of_lt_of_eq (by decide) rfl) rfl (fun ls hl => ?_)
  refine lv_aload_n hx hb dX8_mergedSign_14 rfl (lv_at hl 2 rfl) ?_
  refine g_0_revisions hC hI tw_1_99 dX8_mergedSign_15 ?_
  refine lv_aload_n hx hb dX8_mergedSign_18 rfl (lv_at hl 2 rfl) ?_
  refine g_0_revisions hC hI tw_1_99 dX8_mergedSign_19 ?_
  refine lv_iload hx hb dX8_mergedSign_22 (lv_at hl 1 rfl) ?_
  refine lv_iload hx hb dX8_mergedSign_24 (lv_at hl 0 rfl) ?_
  obtain ⟨r26, V26, q26, hf⟩ := gbd hf
  refine k_X6_latestCommonBySets hC hI hl.1 q26 tw_2_173 ⟨Nat.le_of_ble_eq_true rfl, Nat.le_of_ble_eq_true rfl⟩ ⟨Nat.le_refl _, Nat.le_refl _⟩ (Nat.le_of_ble_eq_true rfl) dX8_mergedSign_26 (fun H locs hI => ?_)
  refine lv_iload_n hx hb dX8_mergedSign_29 rfl (lv_at hl 5 rfl) ?_
  obtain ⟨r30, V30, q30, hf⟩ := gbd hf
  refine k_X6_letterOf hC hI hl.1 q30 tw_3_150 ⟨Nat.le_of_ble_eq_true rfl, Nat.le_of_ble_eq_true rfl⟩ ⟨Nat.le_refl _, Nat.le_refl _⟩ (Nat.le_of_ble_eq_true rfl) dX8_mergedSign_30 (fun H locs hI => ?_)
  refine lv_istore (lv' := [(6, .int r30), (5, .int r9), (4, .int r2), (0, .ref (ad 0)), (1, .int a1), (2, .int a2), (3, .int a3)]) hx hb dX8_mergedSign_33 hl (Nat.lt_of_lt_of_eq (by decide) rfl) rfl (fun ls hl => ?_)
  refine lv_aload_n hx hb dX8_mergedSign_35 rfl (lv_at hl 3 rfl) ?_
  refine g_0_revisions hC hI tw_1_99 dX8_mergedSign_36 ?_
  refine lv_iload hx hb dX8_mergedSign_39 (lv_at hl 2 rfl) ?_
  refine lv_iload_n hx hb dX8_mergedSign_41 rfl (lv_at hl 6 rfl) ?_
  obtain ⟨r42, V42, q42, hf⟩ := gbd hf
  refine k_X6_letterOf hC hI hl.1 q42 tw_3_150 ⟨Nat.le_of_ble_eq_true rfl, Nat.le_of_ble_eq_true rfl⟩ ⟨Nat.le_refl _, Nat.le_refl _⟩ (Nat.le_of_ble_eq_true rfl) dX8_mergedSign_42 (fun H locs hI => ?_)
  refine lv_istore (lv' := [(7, .int r42), (6, .int r30), (5, .int r9), (4, .int r2), (0, .ref (ad 0)), (1, .int a1), (2, .int a2), (3, .int a3)]) hx hb dX8_mergedSign_45 hl (Nat.lt_of_lt_of_eq (by decide) rfl) rfl (fun ls hl => ?_)
  refine lv_aload_n hx hb dX8_mergedSign_47 rfl (lv_at hl 4 rfl) ?_
  refine g_0_revisions hC hI tw_1_99 dX8_mergedSign_48 ?_
  refine lv_iload hx hb dX8_mergedSign_51 (lv_at hl 2 rfl) ?_
  refine lv_iload_n hx hb dX8_mergedSign_53 rfl (lv_at hl 7 rfl) ?_
  obtain ⟨r54, V54, q54, hf⟩ := gbd hf
  refine k_X6_letterOf hC hI hl.1 q54 tw_3_150 ⟨Nat.le_of_ble_eq_true rfl, Nat.le_of_ble_eq_true rfl⟩ ⟨Nat.le_refl _, Nat.le_refl _⟩ (Nat.le_of_ble_eq_true rfl) dX8_mergedSign_54 (fun H locs hI => ?_)
  refine lv_istore (lv' := [(8, .int r54), (7, .int r42), (6, .int r30), (5, .int r9), (4, .int r2), (0, .ref (ad 0)), (1, .int a1), (2, .int a2), (3, .int a3)]) hx hb dX8_mergedSign_57 hl (Nat.lt_of_lt_of_eq (by decide) rfl) rfl (fun ls hl => ?_)
  refine lv_iload hx hb dX8_mergedSign_59 (lv_at hl 1 rfl) ?_
  refine lv_iload hx hb dX8_mergedSign_61 (lv_at hl 0 rfl) ?_
  refine lv_icmp_eq (tgt := 73) hx hb dX8_mergedSign_63 (by decide) (fun c63 => ?_) (fun c63 => ?_)
  · have hf := gt hf c63
    refine lv_iload hx hb dX8_mergedSign_73 (lv_at hl 1 rfl) ?_
    exact r_iret2 hC hI hf dX8_mergedSign_75
  · have hf := gf hf c63
    refine lv_iload hx hb dX8_mergedSign_66 (lv_at hl 0 rfl) ?_
    refine lv_iload hx hb dX8_mergedSign_68 (lv_at hl 2 rfl) ?_
    refine lv_icmp_ne (tgt := 76) hx hb dX8_mergedSign_70 (by decide) (fun c70 => ?_) (fun c70 => ?_)
    · have hf := gf hf c70
      refine lv_iload hx hb dX8_mergedSign_76 (lv_at hl 1 rfl) ?_
      refine lv_iload hx hb dX8_mergedSign_78 (lv_at hl 2 rfl) ?_
      refine lv_icmp_ne (tgt := 88) hx hb dX8_mergedSign_80 (by decide) (fun c80 => ?_) (fun c80 => ?_)
      · have hf := gf hf c80
        refine lv_bipush (v := 63) hx hb dX8_mergedSign_88 rfl ?_
        exact r_iret2 hC hI hf dX8_mergedSign_90
      · have hf := gt hf c80
        refine lv_iload hx hb dX8_mergedSign_83 (lv_at hl 0 rfl) ?_
        refine lv_goto (tgt := 90) hx hb dX8_mergedSign_85 (by decide) ?_
        exact r_iret2 hC hI hf dX8_mergedSign_90
    · have hf := gt hf c70
      refine lv_iload hx hb dX8_mergedSign_73 (lv_at hl 1 rfl) ?_
      exact r_iret2 hC hI hf dX8_mergedSign_75
theorem k_X8_mergedSign {p : Program} {l : Launch} {e : Env} {R : Room} {cells slots : Nat} {s : State} {m : MethodId} {args : Array Value} {below : List Frame} {meth : Method} {c : Code} {H : Heap} {locs : List Loc} {Q : State → Prop} {E : En} {ad : Nat → Nat} {V : Mem} {ow : String} {b : ByteArray} {n : Nat} {ret : Option FieldType} {pc index : Nat} {ls : Array Slot} {rest : List Value} {a1 : Int32} {a2 : Int32} {a3 : Int32} {r : Int32} {V1 : Mem} (hC : Cx p s m args c meth E ow b n ret) (hI : In E ad V s H locs) (hsz : ls.size = n) (hf : f_X8_mergedSign V a1 a2 a3 = some (r, V1)) (hl : Cond.methodLink ow index yX8_mergedSign ∈ TB) (hR : 4 + 1 ≤ R.frames ∧ 8 + (9 + 11) + 40 * 4 ≤ R.locals) (hcs : cells ≤ R.cells ∧ slots ≤ R.slots) (hw : (rest.map fun v => v.category).sum ≤ 8) (hdg : decode b pc = .ok (.invokevirtual index, 3)) (kk : ∀ (H1 : Heap) (locs1 : List Loc), In E ad V1 s H1 locs1 → W p l e R s m args below meth c H1 locs1 cells slots Q (F0 m (pc + 3) ls ((.int r) :: rest))) : W p l e R s m args below meth c H locs cells slots Q (F0 m pc ls (.int a3 :: .int a2 :: .int a1 :: .ref (ad 0) :: rest)) :=
  r_calV (As := [.int a1, .int a2, .int a3]) (rest := rest) hC hI hsz (m_X8_mergedSign l E ad V a1 a2 a3 r _ hf) cv_X8_mergedSign hl (by decide) (ce_0 _) rfl rfl rfl hR hcs hw hdg kk

theorem dX8_countConflicts_0 : decode cX8_countConflicts 0 = .ok (.iconst 0, 1) := by decide +kernel
theorem dX8_countConflicts_1 : decode cX8_countConflicts 1 = .ok (.istore_n 3, 1) := by decide +kernel
theorem dX8_countConflicts_2 : decode cX8_countConflicts 2 = .ok (.iconst 0, 1) := by decide +kernel
theorem dX8_countConflicts_3 : decode cX8_countConflicts 3 = .ok (.istore 4, 2) := by decide +kernel
theorem dX8_countConflicts_5 : decode cX8_countConflicts 5 = .ok (.iload 4, 2) := by decide +kernel
theorem dX8_countConflicts_7 : decode cX8_countConflicts 7 = .ok (.bipush 8, 2) := by decide +kernel
theorem dX8_countConflicts_9 : decode cX8_countConflicts 9 = .ok (.if_icmp .ge 25, 3) := by decide +kernel
theorem dX8_countConflicts_12 : decode cX8_countConflicts 12 = .ok (.aload_n 0, 1) := by decide +kernel
theorem dX8_countConflicts_13 : decode cX8_countConflicts 13 = .ok (.iload_n 1, 1) := by decide +kernel
theorem dX8_countConflicts_14 : decode cX8_countConflicts 14 = .ok (.iload_n 2, 1) := by decide +kernel
theorem dX8_countConflicts_15 : decode cX8_countConflicts 15 = .ok (.iload 4, 2) := by decide +kernel
theorem dX8_countConflicts_17 : decode cX8_countConflicts 17 = .ok (.invokevirtual 145, 3) := by decide +kernel
theorem dX8_countConflicts_20 : decode cX8_countConflicts 20 = .ok (.bipush 63, 2) := by decide +kernel
theorem dX8_countConflicts_22 : decode cX8_countConflicts 22 = .ok (.if_icmp .ne 6, 3) := by decide +kernel
theorem dX8_countConflicts_25 : decode cX8_countConflicts 25 = .ok (.iinc 3 1, 3) := by decide +kernel
theorem dX8_countConflicts_28 : decode cX8_countConflicts 28 = .ok (.iinc 4 1, 3) := by decide +kernel
theorem dX8_countConflicts_31 : decode cX8_countConflicts 31 = .ok (.goto (-26), 3) := by decide +kernel
theorem dX8_countConflicts_34 : decode cX8_countConflicts 34 = .ok (.iload_n 3, 1) := by decide +kernel
theorem dX8_countConflicts_35 : decode cX8_countConflicts 35 = .ok (.ireturn, 1) := by decide +kernel
def f_X8_countConflicts_L5 (a1 : Int32) (a2 : Int32) : Nat → Mem → Int32 → Int32 → Option (Int32 × Mem)
  | 0, _, _, _ => none
  | n5 + 1, V5, x3_5, x4_5 =>
    if 8 ≤ x4_5 then
      some (x3_5, V5)
    else
      bd (f_X8_mergedSign V5 a1 a2 x4_5) fun r17 V17 =>
      jn (α := Mem → Int32 → Option (Int32 × Mem)) (fun j28 =>
        if r17 = 63 then
          j28 V17 (x3_5 + 1)
        else
          j28 V17 x3_5
      ) (fun (V28 : Mem) (x3_28 : Int32) =>
        (f_X8_countConflicts_L5 a1 a2 n5) V28 x3_28 (x4_5 + 1)
      )
def f_X8_countConflicts (V : Mem) (a1 : Int32) (a2 : Int32) : Option (Int32 × Mem) :=
  f_X8_countConflicts_L5 a1 a2 FU V 0 0
theorem cv_X8_countConflicts : CalV yX8_countConflicts cX8_countConflicts 5 (some .int) 2 := ⟨⟨⟨by decide +kernel, by decide +kernel⟩, tw_1_2, tw_4_29, by decide +kernel⟩, tw_4_27, tw_4_28⟩
set_option maxRecDepth 100000 in
set_option maxHeartbeats 4000000 in
theorem m_X8_countConflicts (l : Launch) (E : En) (ad : Nat → Nat) (V : Mem) (a1 : Int32) (a2 : Int32) (r : Int32) (Vz : Mem) (hf : f_X8_countConflicts V a1 a2 = some (r, Vz)) : MR l E ad yX8_countConflicts cX8_countConflicts 5 (some .int) 5 [.ref (ad 0), .int a1, .int a2] V (some (.int r)) Vz := by
  refine ent (E := E) (ad := ad) (V := V) "LetterRepository$Store" (by decide +kernel) rfl (Nat.le_of_ble_eq_true rfl) ?_
  intro p e s m below meth c ls hC hI hl
  have hx := hC.1
  have hb := hC.2.1
  have hl : lv_has ls 5 [(0, .ref (ad 0)), (1, .int a1), (2, .int a2)] := hl
  unfold f_X8_countConflicts at hf
  refine lv_iconst (v := 0) hx hb dX8_countConflicts_0 rfl ?_
  refine lv_istore_n (lv' := [(3, .int 0), (0, .ref (ad 0)), (1, .int a1), (2, .int a2)]) hx hb dX8_countConflicts_1 rfl hl (Nat.lt_of_lt_of_eq (by decide) rfl) rfl (fun ls hl => ?_)
  refine lv_iconst (v := 0) hx hb dX8_countConflicts_2 rfl ?_
  refine lv_istore (lv' := [(4, .int 0), (3, .int 0), (0, .ref (ad 0)), (1, .int a1), (2, .int a2)]) hx hb dX8_countConflicts_3 hl (Nat.lt_of_lt_of_eq (by decide) rfl) rfl (fun ls hl => ?_)
  have L5 : ∀ (n5 : Nat) (V5 : Mem) (x3_5 : Int32) (x4_5 : Int32) (H : Heap) (locs : List Loc) (ls : Array Slot), f_X8_countConflicts_L5 a1 a2 n5 V5 x3_5 x4_5 = some (r, Vz) → In E ad V5 s H locs → lv_has ls 5 [(0, .ref (ad 0)), (1, .int a1), (2, .int a2), (3, .int x3_5), (4, .int x4_5)] → W p l e (rmd 5) s m ([.ref (ad 0), .int a1, .int a2] : List Value).toArray below meth c H locs 0 0 (MQ below (QR E ad (some (.int r)) Vz) ([.ref (ad 0), .int a1, .int a2] : List Value).toArray s 0 0 (ours E)) (F0 m 5 ls []) := by
    intro n5
    induction n5 with
    | zero => intro V5 x3_5 x4_5 H locs ls hf hI hl; cases hf
    | succ n5 ih5 =>
      intro V5 x3_5 x4_5 H locs ls hf hI hl
      rw [f_X8_countConflicts_L5.eq_2] at hf
      refine lv_iload hx hb dX8_countConflicts_5 (lv_at hl 4 rfl) ?_
      refine lv_bipush (v := 8) hx hb dX8_countConflicts_7 rfl ?_
      refine lv_icmp_ge (tgt := 34) hx hb dX8_countConflicts_9 (by decide) (fun c9 => ?_) (fun c9 => ?_)
      · have hf := gt hf c9
        refine lv_iload_n hx hb dX8_countConflicts_34 rfl (lv_at hl 3 rfl) ?_
        exact r_iret2 hC hI hf dX8_countConflicts_35
      · have hf := gf hf c9
        refine lv_aload_n hx hb dX8_countConflicts_12 rfl (lv_at hl 0 rfl) ?_
        refine lv_iload_n hx hb dX8_countConflicts_13 rfl (lv_at hl 1 rfl) ?_
        refine lv_iload_n hx hb dX8_countConflicts_14 rfl (lv_at hl 2 rfl) ?_
        refine lv_iload hx hb dX8_countConflicts_15 (lv_at hl 4 rfl) ?_
        obtain ⟨r17, V17, q17, hf⟩ := gbd hf
        refine k_X8_mergedSign hC hI hl.1 q17 tw_4_30 ⟨Nat.le_of_ble_eq_true rfl, Nat.le_of_ble_eq_true rfl⟩ ⟨Nat.le_refl _, Nat.le_refl _⟩ (Nat.le_of_ble_eq_true rfl) dX8_countConflicts_17 (fun H locs hI => ?_)
        refine lv_bipush (v := 63) hx hb dX8_countConflicts_20 rfl ?_
        obtain ⟨j28, hj28, hf⟩ := gj hf
        have J28 : ∀ (V28 : Mem) (x3_28 : Int32) (H : Heap) (locs : List Loc) (ls : Array Slot), j28 V28 x3_28 = some (r, Vz) → In E ad V28 s H locs → lv_has ls 5 [(0, .ref (ad 0)), (1, .int a1), (2, .int a2), (3, .int x3_28), (4, .int x4_5)] → W p l e (rmd 5) s m ([.ref (ad 0), .int a1, .int a2] : List Value).toArray below meth c H locs 0 0 (MQ below (QR E ad (some (.int r)) Vz) ([.ref (ad 0), .int a1, .int a2] : List Value).toArray s 0 0 (ours E)) (F0 m 28 ls []) := by
          intro V28 x3_28 H locs ls hf hI hl
          rw [hj28] at hf
          dsimp only at hf
          refine lv_iinc (v := (x4_5 + 1)) (lv' := [(4, .int (x4_5 + 1)), (0, .ref (ad 0)), (1, .int a1), (2, .int a2), (3, .int x3_28)]) hx hb dX8_countConflicts_28 hl (k := 4) rfl rfl (Nat.lt_of_lt_of_eq (by decide) rfl) rfl (fun ls hl => ?_)
          refine lv_goto (tgt := 5) hx hb dX8_countConflicts_31 (by decide) ?_
          exact ih5 _ _ _ _ _ _ hf hI (lv_sub hl [1, 2, 3, 4, 0] rfl)
        refine lv_icmp_ne (tgt := 28) hx hb dX8_countConflicts_22 (by decide) (fun c22 => ?_) (fun c22 => ?_)
        · have hf := gf hf c22
          exact J28 _ _ _ _ _ hf hI (lv_sub hl [0, 1, 2, 3, 4] rfl)
        · have hf := gt hf c22
          refine lv_iinc (v := (x3_5 + 1)) (lv' := [(3, .int (x3_5 + 1)), (0, .ref (ad 0)), (1, .int a1), (2, .int a2), (4, .int x4_5)]) hx hb dX8_countConflicts_25 hl (k := 3) rfl rfl (Nat.lt_of_lt_of_eq (by decide) rfl) rfl (fun ls hl => ?_)
          exact J28 _ _ _ _ _ hf hI (lv_sub hl [1, 2, 3, 0, 4] rfl)
  exact L5 _ _ _ _ _ _ _ hf hI (lv_sub hl [2, 3, 4, 1, 0] rfl)
theorem k_X8_countConflicts {p : Program} {l : Launch} {e : Env} {R : Room} {cells slots : Nat} {s : State} {m : MethodId} {args : Array Value} {below : List Frame} {meth : Method} {c : Code} {H : Heap} {locs : List Loc} {Q : State → Prop} {E : En} {ad : Nat → Nat} {V : Mem} {ow : String} {b : ByteArray} {n : Nat} {ret : Option FieldType} {pc index : Nat} {ls : Array Slot} {rest : List Value} {a1 : Int32} {a2 : Int32} {r : Int32} {V1 : Mem} (hC : Cx p s m args c meth E ow b n ret) (hI : In E ad V s H locs) (hsz : ls.size = n) (hf : f_X8_countConflicts V a1 a2 = some (r, V1)) (hl : Cond.methodLink ow index yX8_countConflicts ∈ TB) (hR : 5 + 1 ≤ R.frames ∧ 8 + (5 + 11) + 40 * 5 ≤ R.locals) (hcs : cells ≤ R.cells ∧ slots ≤ R.slots) (hw : (rest.map fun v => v.category).sum ≤ 8) (hdg : decode b pc = .ok (.invokevirtual index, 3)) (kk : ∀ (H1 : Heap) (locs1 : List Loc), In E ad V1 s H1 locs1 → W p l e R s m args below meth c H1 locs1 cells slots Q (F0 m (pc + 3) ls ((.int r) :: rest))) : W p l e R s m args below meth c H locs cells slots Q (F0 m pc ls (.int a2 :: .int a1 :: .ref (ad 0) :: rest)) :=
  r_calV (As := [.int a1, .int a2]) (rest := rest) hC hI hsz (m_X8_countConflicts l E ad V a1 a2 r _ hf) cv_X8_countConflicts hl (by decide) (ce_0 _) rfl rfl rfl hR hcs hw hdg kk

theorem dX8_refusalOfMerge_0 : decode cX8_refusalOfMerge 0 = .ok (.aload_n 0, 1) := by decide +kernel
theorem dX8_refusalOfMerge_1 : decode cX8_refusalOfMerge 1 = .ok (.iload_n 1, 1) := by decide +kernel
theorem dX8_refusalOfMerge_2 : decode cX8_refusalOfMerge 2 = .ok (.iload_n 2, 1) := by decide +kernel
theorem dX8_refusalOfMerge_3 : decode cX8_refusalOfMerge 3 = .ok (.invokevirtual 136, 3) := by decide +kernel
theorem dX8_refusalOfMerge_6 : decode cX8_refusalOfMerge 6 = .ok (.astore_n 3, 1) := by decide +kernel
theorem dX8_refusalOfMerge_7 : decode cX8_refusalOfMerge 7 = .ok (.aload_n 3, 1) := by decide +kernel
theorem dX8_refusalOfMerge_8 : decode cX8_refusalOfMerge 8 = .ok (.getstatic 91, 3) := by decide +kernel
theorem dX8_refusalOfMerge_11 : decode cX8_refusalOfMerge 11 = .ok (.if_acmp .eq 5, 3) := by decide +kernel
theorem dX8_refusalOfMerge_14 : decode cX8_refusalOfMerge 14 = .ok (.aload_n 3, 1) := by decide +kernel
theorem dX8_refusalOfMerge_15 : decode cX8_refusalOfMerge 15 = .ok (.areturn, 1) := by decide +kernel
theorem dX8_refusalOfMerge_16 : decode cX8_refusalOfMerge 16 = .ok (.aload_n 0, 1) := by decide +kernel
theorem dX8_refusalOfMerge_17 : decode cX8_refusalOfMerge 17 = .ok (.iload_n 1, 1) := by decide +kernel
theorem dX8_refusalOfMerge_18 : decode cX8_refusalOfMerge 18 = .ok (.iload_n 2, 1) := by decide +kernel
theorem dX8_refusalOfMerge_19 : decode cX8_refusalOfMerge 19 = .ok (.invokevirtual 139, 3) := by decide +kernel
theorem dX8_refusalOfMerge_22 : decode cX8_refusalOfMerge 22 = .ok (.ifCond .le 9, 3) := by decide +kernel
theorem dX8_refusalOfMerge_25 : decode cX8_refusalOfMerge 25 = .ok (.getstatic 110, 3) := by decide +kernel
theorem dX8_refusalOfMerge_28 : decode cX8_refusalOfMerge 28 = .ok (.goto 6, 3) := by decide +kernel
theorem dX8_refusalOfMerge_31 : decode cX8_refusalOfMerge 31 = .ok (.getstatic 91, 3) := by decide +kernel
theorem dX8_refusalOfMerge_34 : decode cX8_refusalOfMerge 34 = .ok (.areturn, 1) := by decide +kernel
def f_X8_refusalOfMerge (V : Mem) (a1 : Int32) (a2 : Int32) : Option (Nat × Mem) :=
  bd (f_X8_refusalOfKeeping V a1 a2) fun r3 V3 =>
  if r3 < 5 then
    if r3 = 0 then
      bd (f_X8_countConflicts V3 a1 a2) fun r19 V19 =>
      if r19 ≤ 0 then
        some (0, V19)
      else
        some (4, V19)
    else
      some (r3, V3)
  else none
theorem cv_X8_refusalOfMerge : CalV yX8_refusalOfMerge cX8_refusalOfMerge 4 (some (.object "LetterRepository$Refusal")) 2 := ⟨⟨⟨by decide +kernel, by decide +kernel⟩, tw_1_2, tw_4_16, by decide +kernel⟩, tw_4_14, tw_4_15⟩
set_option maxRecDepth 100000 in
set_option maxHeartbeats 4000000 in
theorem m_X8_refusalOfMerge (l : Launch) (E : En) (ad : Nat → Nat) (V : Mem) (a1 : Int32) (a2 : Int32) (hS : SF E) (r : Nat) (Vz : Mem) (hf : f_X8_refusalOfMerge V a1 a2 = some (r, Vz)) : MR l E ad yX8_refusalOfMerge cX8_refusalOfMerge 4 (some (.object "LetterRepository$Refusal")) 6 [.ref (ad 0), .int a1, .int a2] V (some (.ref (eR E r))) Vz := by
  refine ent (E := E) (ad := ad) (V := V) "LetterRepository$Store" (by decide +kernel) rfl (Nat.le_of_ble_eq_true rfl) ?_
  intro p e s m below meth c ls hC hI hl
  have hx := hC.1
  have hb := hC.2.1
  have hl : lv_has ls 4 [(0, .ref (ad 0)), (1, .int a1), (2, .int a2)] := hl
  unfold f_X8_refusalOfMerge at hf
  refine lv_aload_n hx hb dX8_refusalOfMerge_0 rfl (lv_at hl 0 rfl) ?_
  refine lv_iload_n hx hb dX8_refusalOfMerge_1 rfl (lv_at hl 1 rfl) ?_
  refine lv_iload_n hx hb dX8_refusalOfMerge_2 rfl (lv_at hl 2 rfl) ?_
  obtain ⟨r3, V3, q3, hf⟩ := gbd hf
  refine k_X8_refusalOfKeeping hS hC hI hl.1 q3 tw_4_17 ⟨Nat.le_of_ble_eq_true rfl, Nat.le_of_ble_eq_true rfl⟩ ⟨Nat.le_refl _, Nat.le_refl _⟩ (Nat.le_of_ble_eq_true rfl) dX8_refusalOfMerge_3 (fun H locs hI => ?_)
  refine lv_astore_n (lv' := [(3, .ref (eR E r3)), (0, .ref (ad 0)), (1, .int a1), (2, .int a2)]) hx hb dX8_refusalOfMerge_6 rfl hl (Nat.lt_of_lt_of_eq (by decide) rfl) rfl (fun ls hl => ?_)
  refine lv_aload_n hx hb dX8_refusalOfMerge_7 rfl (lv_at hl 0 rfl) ?_
  refine r_gsR 0 hS hC hI (by decide) tw_2_235 dX8_refusalOfMerge_8 ?_
  obtain ⟨b11, hf⟩ := gi hf
  refine r_acR_eq (tgt := 16) hS hC b11 (by decide) dX8_refusalOfMerge_11 (by decide) (fun c11 => ?_) (fun c11 => ?_)
  · have hf := gt hf c11
    refine lv_aload_n hx hb dX8_refusalOfMerge_16 rfl (lv_at hl 1 rfl) ?_
    refine lv_iload_n hx hb dX8_refusalOfMerge_17 rfl (lv_at hl 2 rfl) ?_
    refine lv_iload_n hx hb dX8_refusalOfMerge_18 rfl (lv_at hl 3 rfl) ?_
    obtain ⟨r19, V19, q19, hf⟩ := gbd hf
    refine k_X8_countConflicts hC hI hl.1 q19 tw_4_26 ⟨Nat.le_of_ble_eq_true rfl, Nat.le_of_ble_eq_true rfl⟩ ⟨Nat.le_refl _, Nat.le_refl _⟩ (Nat.le_of_ble_eq_true rfl) dX8_refusalOfMerge_19 (fun H locs hI => ?_)
    refine lv_if_le (tgt := 31) hx hb dX8_refusalOfMerge_22 (by decide) (fun c22 => ?_) (fun c22 => ?_)
    · have hf := gt hf c22
      refine r_gsR 0 hS hC hI (by decide) tw_2_235 dX8_refusalOfMerge_31 ?_
      exact r_aretE hC hI hf dX8_refusalOfMerge_34
    · have hf := gf hf c22
      refine r_gsR 4 hS hC hI (by decide) tw_3_189 dX8_refusalOfMerge_25 ?_
      refine lv_goto (tgt := 34) hx hb dX8_refusalOfMerge_28 (by decide) ?_
      exact r_aretE hC hI hf dX8_refusalOfMerge_34
  · have hf := gf hf c11
    refine lv_aload_n hx hb dX8_refusalOfMerge_14 rfl (lv_at hl 0 rfl) ?_
    exact r_aretE hC hI hf dX8_refusalOfMerge_15
theorem k_X8_refusalOfMerge {p : Program} {l : Launch} {e : Env} {R : Room} {cells slots : Nat} {s : State} {m : MethodId} {args : Array Value} {below : List Frame} {meth : Method} {c : Code} {H : Heap} {locs : List Loc} {Q : State → Prop} {E : En} {ad : Nat → Nat} {V : Mem} {ow : String} {b : ByteArray} {n : Nat} {ret : Option FieldType} {pc index : Nat} {ls : Array Slot} {rest : List Value} {a1 : Int32} {a2 : Int32} {r : Nat} {V1 : Mem} (hS : SF E) (hC : Cx p s m args c meth E ow b n ret) (hI : In E ad V s H locs) (hsz : ls.size = n) (hf : f_X8_refusalOfMerge V a1 a2 = some (r, V1)) (hl : Cond.methodLink ow index yX8_refusalOfMerge ∈ TB) (hR : 6 + 1 ≤ R.frames ∧ 8 + (4 + 11) + 40 * 6 ≤ R.locals) (hcs : cells ≤ R.cells ∧ slots ≤ R.slots) (hw : (rest.map fun v => v.category).sum ≤ 8) (hdg : decode b pc = .ok (.invokevirtual index, 3)) (kk : ∀ (H1 : Heap) (locs1 : List Loc), In E ad V1 s H1 locs1 → W p l e R s m args below meth c H1 locs1 cells slots Q (F0 m (pc + 3) ls ((.ref (eR E r)) :: rest))) : W p l e R s m args below meth c H locs cells slots Q (F0 m pc ls (.int a2 :: .int a1 :: .ref (ad 0) :: rest)) :=
  r_calV (As := [.int a1, .int a2]) (rest := rest) hC hI hsz (m_X8_refusalOfMerge l E ad V a1 a2 hS r _ hf) cv_X8_refusalOfMerge hl (by decide) (ce_0 _) rfl rfl rfl hR hcs hw hdg kk

theorem dX8_conflictField_0 : decode cX8_conflictField 0 = .ok (.iconst 0, 1) := by decide +kernel
theorem dX8_conflictField_1 : decode cX8_conflictField 1 = .ok (.istore 4, 2) := by decide +kernel
theorem dX8_conflictField_3 : decode cX8_conflictField 3 = .ok (.iconst 0, 1) := by decide +kernel
theorem dX8_conflictField_4 : decode cX8_conflictField 4 = .ok (.istore 5, 2) := by decide +kernel
theorem dX8_conflictField_6 : decode cX8_conflictField 6 = .ok (.iload 5, 2) := by decide +kernel
theorem dX8_conflictField_8 : decode cX8_conflictField 8 = .ok (.bipush 8, 2) := by decide +kernel
theorem dX8_conflictField_10 : decode cX8_conflictField 10 = .ok (.if_icmp .ge 34, 3) := by decide +kernel
theorem dX8_conflictField_13 : decode cX8_conflictField 13 = .ok (.aload_n 0, 1) := by decide +kernel
theorem dX8_conflictField_14 : decode cX8_conflictField 14 = .ok (.iload_n 1, 1) := by decide +kernel
theorem dX8_conflictField_15 : decode cX8_conflictField 15 = .ok (.iload_n 2, 1) := by decide +kernel
theorem dX8_conflictField_16 : decode cX8_conflictField 16 = .ok (.iload 5, 2) := by decide +kernel
theorem dX8_conflictField_18 : decode cX8_conflictField 18 = .ok (.invokevirtual 145, 3) := by decide +kernel
theorem dX8_conflictField_21 : decode cX8_conflictField 21 = .ok (.bipush 63, 2) := by decide +kernel
theorem dX8_conflictField_23 : decode cX8_conflictField 23 = .ok (.if_icmp .ne 15, 3) := by decide +kernel
theorem dX8_conflictField_26 : decode cX8_conflictField 26 = .ok (.iload 4, 2) := by decide +kernel
theorem dX8_conflictField_28 : decode cX8_conflictField 28 = .ok (.iload_n 3, 1) := by decide +kernel
theorem dX8_conflictField_29 : decode cX8_conflictField 29 = .ok (.if_icmp .ne 6, 3) := by decide +kernel
theorem dX8_conflictField_32 : decode cX8_conflictField 32 = .ok (.iload 5, 2) := by decide +kernel
theorem dX8_conflictField_34 : decode cX8_conflictField 34 = .ok (.ireturn, 1) := by decide +kernel
theorem dX8_conflictField_35 : decode cX8_conflictField 35 = .ok (.iinc 4 1, 3) := by decide +kernel
theorem dX8_conflictField_38 : decode cX8_conflictField 38 = .ok (.iinc 5 1, 3) := by decide +kernel
theorem dX8_conflictField_41 : decode cX8_conflictField 41 = .ok (.goto (-35), 3) := by decide +kernel
theorem dX8_conflictField_44 : decode cX8_conflictField 44 = .ok (.iconst (-1), 1) := by decide +kernel
theorem dX8_conflictField_45 : decode cX8_conflictField 45 = .ok (.ireturn, 1) := by decide +kernel
def f_X8_conflictField_L6 (a1 : Int32) (a2 : Int32) (a3 : Int32) : Nat → Mem → Int32 → Int32 → Option (Int32 × Mem)
  | 0, _, _, _ => none
  | n6 + 1, V6, x4_6, x5_6 =>
    if 8 ≤ x5_6 then
      some ((-1), V6)
    else
      bd (f_X8_mergedSign V6 a1 a2 x5_6) fun r18 V18 =>
      jn (α := Mem → Int32 → Option (Int32 × Mem)) (fun j38 =>
        if r18 = 63 then
          if x4_6 = a3 then
            some (x5_6, V18)
          else
            j38 V18 (x4_6 + 1)
        else
          j38 V18 x4_6
      ) (fun (V38 : Mem) (x4_38 : Int32) =>
        (f_X8_conflictField_L6 a1 a2 a3 n6) V38 x4_38 (x5_6 + 1)
      )
def f_X8_conflictField (V : Mem) (a1 : Int32) (a2 : Int32) (a3 : Int32) : Option (Int32 × Mem) :=
  f_X8_conflictField_L6 a1 a2 a3 FU V 0 0
theorem cv_X8_conflictField : CalV yX8_conflictField cX8_conflictField 6 (some .int) 3 := ⟨⟨⟨by decide +kernel, by decide +kernel⟩, tw_1_2, tw_5_103, by decide +kernel⟩, tw_5_101, tw_5_102⟩
set_option maxRecDepth 100000 in
set_option maxHeartbeats 4000000 in
theorem m_X8_conflictField (l : Launch) (E : En) (ad : Nat → Nat) (V : Mem) (a1 : Int32) (a2 : Int32) (a3 : Int32) (r : Int32) (Vz : Mem) (hf : f_X8_conflictField V a1 a2 a3 = some (r, Vz)) : MR l E ad yX8_conflictField cX8_conflictField 6 (some .int) 5 [.ref (ad 0), .int a1, .int a2, .int a3] V (some (.int r)) Vz := by
  refine ent (E := E) (ad := ad) (V := V) "LetterRepository$Store" (by decide +kernel) rfl (Nat.le_of_ble_eq_true rfl) ?_
  intro p e s m below meth c ls hC hI hl
  have hx := hC.1
  have hb := hC.2.1
  have hl : lv_has ls 6 [(0, .ref (ad 0)), (1, .int a1), (2, .int a2), (3, .int a3)] := hl
  unfold f_X8_conflictField at hf
  refine lv_iconst (v := 0) hx hb dX8_conflictField_0 rfl ?_
  refine lv_istore (lv' := [(4, .int 0), (0, .ref (ad 0)), (1, .int a1), (2, .int a2), (3, .int a3)]) hx hb dX8_conflictField_1 hl (Nat.lt_of_lt_of_eq (by decide) rfl) rfl (fun ls hl => ?_)
  refine lv_iconst (v := 0) hx hb dX8_conflictField_3 rfl ?_
  refine lv_istore (lv' := [(5, .int 0), (4, .int 0), (0, .ref (ad 0)), (1, .int a1), (2, .int a2), (3, .int a3)]) hx hb dX8_conflictField_4 hl (Nat.lt_of_lt_of_eq (by decide) rfl) rfl (fun ls hl => ?_)
  have L6 : ∀ (n6 : Nat) (V6 : Mem) (x4_6 : Int32) (x5_6 : Int32) (H : Heap) (locs : List Loc) (ls : Array Slot), f_X8_conflictField_L6 a1 a2 a3 n6 V6 x4_6 x5_6 = some (r, Vz) → In E ad V6 s H locs → lv_has ls 6 [(0, .ref (ad 0)), (1, .int a1), (2, .int a2), (3, .int a3), (4, .int x4_6), (5, .int x5_6)] → W p l e (rmd 5) s m ([.ref (ad 0), .int a1, .int a2, .int a3] : List Value).toArray below meth c H locs 0 0 (MQ below (QR E ad (some (.int r)) Vz) ([.ref (ad 0), .int a1, .int a2, .int a3] : List Value).toArray s 0 0 (ours E)) (F0 m 6 ls []) := by
    intro n6
    induction n6 with
    | zero => intro V6 x4_6 x5_6 H locs ls hf hI hl; cases hf
    | succ n6 ih6 =>
      intro V6 x4_6 x5_6 H locs ls hf hI hl
      rw [f_X8_conflictField_L6.eq_2] at hf
      refine lv_iload hx hb dX8_conflictField_6 (lv_at hl 5 rfl) ?_
      refine lv_bipush (v := 8) hx hb dX8_conflictField_8 rfl ?_
      refine lv_icmp_ge (tgt := 44) hx hb dX8_conflictField_10 (by decide) (fun c10 => ?_) (fun c10 => ?_)
      · have hf := gt hf c10
        refine lv_iconst (v := (-1)) hx hb dX8_conflictField_44 rfl ?_
        exact r_iret2 hC hI hf dX8_conflictField_45
      · have hf := gf hf c10
        refine lv_aload_n hx hb dX8_conflictField_13 rfl (lv_at hl 0 rfl) ?_
        refine lv_iload_n hx hb dX8_conflictField_14 rfl (lv_at hl 1 rfl) ?_
        refine lv_iload_n hx hb dX8_conflictField_15 rfl (lv_at hl 2 rfl) ?_
        refine lv_iload hx hb dX8_conflictField_16 (lv_at hl 5 rfl) ?_
        obtain ⟨r18, V18, q18, hf⟩ := gbd hf
        refine k_X8_mergedSign hC hI hl.1 q18 tw_4_30 ⟨Nat.le_of_ble_eq_true rfl, Nat.le_of_ble_eq_true rfl⟩ ⟨Nat.le_refl _, Nat.le_refl _⟩ (Nat.le_of_ble_eq_true rfl) dX8_conflictField_18 (fun H locs hI => ?_)
        refine lv_bipush (v := 63) hx hb dX8_conflictField_21 rfl ?_
        obtain ⟨j38, hj38, hf⟩ := gj hf
        have J38 : ∀ (V38 : Mem) (x4_38 : Int32) (H : Heap) (locs : List Loc) (ls : Array Slot), j38 V38 x4_38 = some (r, Vz) → In E ad V38 s H locs → lv_has ls 6 [(0, .ref (ad 0)), (1, .int a1), (2, .int a2), (3, .int a3), (4, .int x4_38), (5, .int x5_6)] → W p l e (rmd 5) s m ([.ref (ad 0), .int a1, .int a2, .int a3] : List Value).toArray below meth c H locs 0 0 (MQ below (QR E ad (some (.int r)) Vz) ([.ref (ad 0), .int a1, .int a2, .int a3] : List Value).toArray s 0 0 (ours E)) (F0 m 38 ls []) := by
          intro V38 x4_38 H locs ls hf hI hl
          rw [hj38] at hf
          dsimp only at hf
          refine lv_iinc (v := (x5_6 + 1)) (lv' := [(5, .int (x5_6 + 1)), (0, .ref (ad 0)), (1, .int a1), (2, .int a2), (3, .int a3), (4, .int x4_38)]) hx hb dX8_conflictField_38 hl (k := 5) rfl rfl (Nat.lt_of_lt_of_eq (by decide) rfl) rfl (fun ls hl => ?_)
          refine lv_goto (tgt := 6) hx hb dX8_conflictField_41 (by decide) ?_
          exact ih6 _ _ _ _ _ _ hf hI (lv_sub hl [1, 2, 3, 4, 5, 0] rfl)
        refine lv_icmp_ne (tgt := 38) hx hb dX8_conflictField_23 (by decide) (fun c23 => ?_) (fun c23 => ?_)
        · have hf := gf hf c23
          exact J38 _ _ _ _ _ hf hI (lv_sub hl [0, 1, 2, 3, 4, 5] rfl)
        · have hf := gt hf c23
          refine lv_iload hx hb dX8_conflictField_26 (lv_at hl 4 rfl) ?_
          refine lv_iload_n hx hb dX8_conflictField_28 rfl (lv_at hl 3 rfl) ?_
          refine lv_icmp_ne (tgt := 35) hx hb dX8_conflictField_29 (by decide) (fun c29 => ?_) (fun c29 => ?_)
          · have hf := gf hf c29
            refine lv_iinc (v := (x4_6 + 1)) (lv' := [(4, .int (x4_6 + 1)), (0, .ref (ad 0)), (1, .int a1), (2, .int a2), (3, .int a3), (5, .int x5_6)]) hx hb dX8_conflictField_35 hl (k := 4) rfl rfl (Nat.lt_of_lt_of_eq (by decide) rfl) rfl (fun ls hl => ?_)
            exact J38 _ _ _ _ _ hf hI (lv_sub hl [1, 2, 3, 4, 0, 5] rfl)
          · have hf := gt hf c29
            refine lv_iload hx hb dX8_conflictField_32 (lv_at hl 5 rfl) ?_
            exact r_iret2 hC hI hf dX8_conflictField_34
  exact L6 _ _ _ _ _ _ _ hf hI (lv_sub hl [2, 3, 4, 5, 1, 0] rfl)
theorem k_X8_conflictField {p : Program} {l : Launch} {e : Env} {R : Room} {cells slots : Nat} {s : State} {m : MethodId} {args : Array Value} {below : List Frame} {meth : Method} {c : Code} {H : Heap} {locs : List Loc} {Q : State → Prop} {E : En} {ad : Nat → Nat} {V : Mem} {ow : String} {b : ByteArray} {n : Nat} {ret : Option FieldType} {pc index : Nat} {ls : Array Slot} {rest : List Value} {a1 : Int32} {a2 : Int32} {a3 : Int32} {r : Int32} {V1 : Mem} (hC : Cx p s m args c meth E ow b n ret) (hI : In E ad V s H locs) (hsz : ls.size = n) (hf : f_X8_conflictField V a1 a2 a3 = some (r, V1)) (hl : Cond.methodLink ow index yX8_conflictField ∈ TB) (hR : 5 + 1 ≤ R.frames ∧ 8 + (6 + 11) + 40 * 5 ≤ R.locals) (hcs : cells ≤ R.cells ∧ slots ≤ R.slots) (hw : (rest.map fun v => v.category).sum ≤ 8) (hdg : decode b pc = .ok (.invokevirtual index, 3)) (kk : ∀ (H1 : Heap) (locs1 : List Loc), In E ad V1 s H1 locs1 → W p l e R s m args below meth c H1 locs1 cells slots Q (F0 m (pc + 3) ls ((.int r) :: rest))) : W p l e R s m args below meth c H locs cells slots Q (F0 m pc ls (.int a3 :: .int a2 :: .int a1 :: .ref (ad 0) :: rest)) :=
  r_calV (As := [.int a1, .int a2, .int a3]) (rest := rest) hC hI hsz (m_X8_conflictField l E ad V a1 a2 a3 r _ hf) cv_X8_conflictField hl (by decide) (ce_0 _) rfl rfl rfl hR hcs hw hdg kk

theorem dX8_mergeHeads_0 : decode cX8_mergeHeads 0 = .ok (.aload_n 0, 1) := by decide +kernel
theorem dX8_mergeHeads_1 : decode cX8_mergeHeads 1 = .ok (.getfield 12, 3) := by decide +kernel
theorem dX8_mergeHeads_4 : decode cX8_mergeHeads 4 = .ok (.aload_n 0, 1) := by decide +kernel
theorem dX8_mergeHeads_5 : decode cX8_mergeHeads 5 = .ok (.iload_n 1, 1) := by decide +kernel
theorem dX8_mergeHeads_6 : decode cX8_mergeHeads 6 = .ok (.invokevirtual 55, 3) := by decide +kernel
theorem dX8_mergeHeads_9 : decode cX8_mergeHeads 9 = .ok (.aload_n 0, 1) := by decide +kernel
theorem dX8_mergeHeads_10 : decode cX8_mergeHeads 10 = .ok (.iload_n 2, 1) := by decide +kernel
theorem dX8_mergeHeads_11 : decode cX8_mergeHeads 11 = .ok (.invokevirtual 55, 3) := by decide +kernel
theorem dX8_mergeHeads_14 : decode cX8_mergeHeads 14 = .ok (.aload_n 0, 1) := by decide +kernel
theorem dX8_mergeHeads_15 : decode cX8_mergeHeads 15 = .ok (.getfield 12, 3) := by decide +kernel
theorem dX8_mergeHeads_18 : decode cX8_mergeHeads 18 = .ok (.aload_n 0, 1) := by decide +kernel
theorem dX8_mergeHeads_19 : decode cX8_mergeHeads 19 = .ok (.iload_n 2, 1) := by decide +kernel
theorem dX8_mergeHeads_20 : decode cX8_mergeHeads 20 = .ok (.invokevirtual 55, 3) := by decide +kernel
theorem dX8_mergeHeads_23 : decode cX8_mergeHeads 23 = .ok (.invokevirtual 148, 3) := by decide +kernel
theorem dX8_mergeHeads_26 : decode cX8_mergeHeads 26 = .ok (.invokevirtual 113, 3) := by decide +kernel
theorem dX8_mergeHeads_29 : decode cX8_mergeHeads 29 = .ok (.istore 4, 2) := by decide +kernel
theorem dX8_mergeHeads_31 : decode cX8_mergeHeads 31 = .ok (.iconst 0, 1) := by decide +kernel
theorem dX8_mergeHeads_32 : decode cX8_mergeHeads 32 = .ok (.istore 5, 2) := by decide +kernel
theorem dX8_mergeHeads_34 : decode cX8_mergeHeads 34 = .ok (.iload 5, 2) := by decide +kernel
theorem dX8_mergeHeads_36 : decode cX8_mergeHeads 36 = .ok (.bipush 8, 2) := by decide +kernel
theorem dX8_mergeHeads_38 : decode cX8_mergeHeads 38 = .ok (.if_icmp .ge 63, 3) := by decide +kernel
theorem dX8_mergeHeads_41 : decode cX8_mergeHeads 41 = .ok (.aload_n 0, 1) := by decide +kernel
theorem dX8_mergeHeads_42 : decode cX8_mergeHeads 42 = .ok (.iload_n 1, 1) := by decide +kernel
theorem dX8_mergeHeads_43 : decode cX8_mergeHeads 43 = .ok (.iload_n 2, 1) := by decide +kernel
theorem dX8_mergeHeads_44 : decode cX8_mergeHeads 44 = .ok (.iload 5, 2) := by decide +kernel
theorem dX8_mergeHeads_46 : decode cX8_mergeHeads 46 = .ok (.invokevirtual 145, 3) := by decide +kernel
theorem dX8_mergeHeads_49 : decode cX8_mergeHeads 49 = .ok (.istore 6, 2) := by decide +kernel
theorem dX8_mergeHeads_51 : decode cX8_mergeHeads 51 = .ok (.iload 6, 2) := by decide +kernel
theorem dX8_mergeHeads_53 : decode cX8_mergeHeads 53 = .ok (.bipush 63, 2) := by decide +kernel
theorem dX8_mergeHeads_55 : decode cX8_mergeHeads 55 = .ok (.if_icmp .ne 27, 3) := by decide +kernel
theorem dX8_mergeHeads_58 : decode cX8_mergeHeads 58 = .ok (.aload_n 0, 1) := by decide +kernel
theorem dX8_mergeHeads_59 : decode cX8_mergeHeads 59 = .ok (.getfield 12, 3) := by decide +kernel
theorem dX8_mergeHeads_62 : decode cX8_mergeHeads 62 = .ok (.aload_n 0, 1) := by decide +kernel
theorem dX8_mergeHeads_63 : decode cX8_mergeHeads 63 = .ok (.iload_n 3, 1) := by decide +kernel
theorem dX8_mergeHeads_64 : decode cX8_mergeHeads 64 = .ok (.ifCond .eq 7, 3) := by decide +kernel
theorem dX8_mergeHeads_67 : decode cX8_mergeHeads 67 = .ok (.iload_n 1, 1) := by decide +kernel
theorem dX8_mergeHeads_68 : decode cX8_mergeHeads 68 = .ok (.goto 4, 3) := by decide +kernel
theorem dX8_mergeHeads_71 : decode cX8_mergeHeads 71 = .ok (.iload_n 2, 1) := by decide +kernel
theorem dX8_mergeHeads_72 : decode cX8_mergeHeads 72 = .ok (.invokevirtual 55, 3) := by decide +kernel
theorem dX8_mergeHeads_75 : decode cX8_mergeHeads 75 = .ok (.iload 5, 2) := by decide +kernel
theorem dX8_mergeHeads_77 : decode cX8_mergeHeads 77 = .ok (.invokevirtual 58, 3) := by decide +kernel
theorem dX8_mergeHeads_80 : decode cX8_mergeHeads 80 = .ok (.istore 6, 2) := by decide +kernel
theorem dX8_mergeHeads_82 : decode cX8_mergeHeads 82 = .ok (.aload_n 0, 1) := by decide +kernel
theorem dX8_mergeHeads_83 : decode cX8_mergeHeads 83 = .ok (.getfield 12, 3) := by decide +kernel
theorem dX8_mergeHeads_86 : decode cX8_mergeHeads 86 = .ok (.iload 4, 2) := by decide +kernel
theorem dX8_mergeHeads_88 : decode cX8_mergeHeads 88 = .ok (.iload 5, 2) := by decide +kernel
theorem dX8_mergeHeads_90 : decode cX8_mergeHeads 90 = .ok (.iload 6, 2) := by decide +kernel
theorem dX8_mergeHeads_92 : decode cX8_mergeHeads 92 = .ok (.invokevirtual 117, 3) := by decide +kernel
theorem dX8_mergeHeads_95 : decode cX8_mergeHeads 95 = .ok (.iinc 5 1, 3) := by decide +kernel
theorem dX8_mergeHeads_98 : decode cX8_mergeHeads 98 = .ok (.goto (-64), 3) := by decide +kernel
theorem dX8_mergeHeads_101 : decode cX8_mergeHeads 101 = .ok (.aload_n 0, 1) := by decide +kernel
theorem dX8_mergeHeads_102 : decode cX8_mergeHeads 102 = .ok (.iload_n 1, 1) := by decide +kernel
theorem dX8_mergeHeads_103 : decode cX8_mergeHeads 103 = .ok (.iload 4, 2) := by decide +kernel
theorem dX8_mergeHeads_105 : decode cX8_mergeHeads 105 = .ok (.invokevirtual 100, 3) := by decide +kernel
theorem dX8_mergeHeads_108 : decode cX8_mergeHeads 108 = .ok (.iload 4, 2) := by decide +kernel
theorem dX8_mergeHeads_110 : decode cX8_mergeHeads 110 = .ok (.ireturn, 1) := by decide +kernel
def f_X8_mergeHeads_L34 (a1 : Int32) (a2 : Int32) (a3 : Int32) (r26 : Int32) (j101 : Mem → Option (Int32 × Mem)) : Nat → Mem → Int32 → Option (Int32 × Mem)
  | 0, _, _ => none
  | n34 + 1, V34, x5_34 =>
    if 8 ≤ x5_34 then
      j101 V34
    else
      bd (f_X8_mergedSign V34 a1 a2 x5_34) fun r46 V46 =>
      jn (α := Mem → Int32 → Option (Int32 × Mem)) (fun j82 =>
        if r46 = 63 then
          jn (α := Mem → Int32 → Option (Int32 × Mem)) (fun j72 =>
            if a3 = 0 then
              j72 V46 a2
            else
              j72 V46 a1
          ) (fun (V72 : Mem) (s0_72 : Int32) =>
            bd (f_X8_headOf V72 s0_72) fun r72 V72 =>
            bd (f_X6_letterOf V72 r72 x5_34) fun r77 V77 =>
            j82 V77 r77
          )
        else
          j82 V46 r46
      ) (fun (V82 : Mem) (x6_82 : Int32) =>
        bv (f_X6_putLetter V82 r26 x5_34 x6_82) fun V92 =>
        (f_X8_mergeHeads_L34 a1 a2 a3 r26 j101 n34) V92 (x5_34 + 1)
      )
def f_X8_mergeHeads (V : Mem) (a1 : Int32) (a2 : Int32) (a3 : Int32) : Option (Int32 × Mem) :=
  bd (f_X8_headOf V a1) fun r6 V6 =>
  bd (f_X8_headOf V6 a2) fun r11 V11 =>
  bd (f_X8_headOf V11 a2) fun r20 V20 =>
  bd (f_X6_writerOf V20 r20) fun r23 V23 =>
  bd (f_X6_add V23 r6 r11 r23) fun r26 V26 =>
  jn (α := Mem → Option (Int32 × Mem)) (fun j101 =>
    f_X8_mergeHeads_L34 a1 a2 a3 r26 j101 FU V26 0
  ) (fun (V101 : Mem) =>
    bv (f_X8_checkOut V101 a1 r26) fun V105 =>
    some (r26, V105)
  )
theorem cv_X8_mergeHeads : CalV yX8_mergeHeads cX8_mergeHeads 7 (some .int) 3 := ⟨⟨⟨by decide +kernel, by decide +kernel⟩, tw_1_2, tw_4_37, by decide +kernel⟩, tw_4_35, tw_4_36⟩
set_option maxRecDepth 100000 in
set_option maxHeartbeats 4000000 in
theorem m_X8_mergeHeads (l : Launch) (E : En) (ad : Nat → Nat) (V : Mem) (a1 : Int32) (a2 : Int32) (a3 : Int32) (r : Int32) (Vz : Mem) (hf : f_X8_mergeHeads V a1 a2 a3 = some (r, Vz)) : MR l E ad yX8_mergeHeads cX8_mergeHeads 7 (some .int) 5 [.ref (ad 0), .int a1, .int a2, .int a3] V (some (.int r)) Vz := by
  refine ent (E := E) (ad := ad) (V := V) "LetterRepository$Store" (by decide +kernel) rfl (Nat.le_of_ble_eq_true rfl) ?_
  intro p e s m below meth c ls hC hI hl
  have hx := hC.1
  have hb := hC.2.1
  have hl : lv_has ls 7 [(0, .ref (ad 0)), (1, .int a1), (2, .int a2), (3, .int a3)] := hl
  unfold f_X8_mergeHeads at hf
  refine lv_aload_n hx hb dX8_mergeHeads_0 rfl (lv_at hl 0 rfl) ?_
  refine g_0_revisions hC hI tw_1_99 dX8_mergeHeads_1 ?_
  refine lv_aload_n hx hb dX8_mergeHeads_4 rfl (lv_at hl 0 rfl) ?_
  refine lv_iload_n hx hb dX8_mergeHeads_5 rfl (lv_at hl 1 rfl) ?_
  obtain ⟨r6, V6, q6, hf⟩ := gbd hf
  refine k_X8_headOf hC hI hl.1 q6 tw_2_55 ⟨Nat.le_of_ble_eq_true rfl, Nat.le_of_ble_eq_true rfl⟩ ⟨Nat.le_refl _, Nat.le_refl _⟩ (Nat.le_of_ble_eq_true rfl) dX8_mergeHeads_6 (fun H locs hI => ?_)
  refine lv_aload_n hx hb dX8_mergeHeads_9 rfl (lv_at hl 0 rfl) ?_
  refine lv_iload_n hx hb dX8_mergeHeads_10 rfl (lv_at hl 2 rfl) ?_
  obtain ⟨r11, V11, q11, hf⟩ := gbd hf
  refine k_X8_headOf hC hI hl.1 q11 tw_2_55 ⟨Nat.le_of_ble_eq_true rfl, Nat.le_of_ble_eq_true rfl⟩ ⟨Nat.le_refl _, Nat.le_refl _⟩ (Nat.le_of_ble_eq_true rfl) dX8_mergeHeads_11 (fun H locs hI => ?_)
  refine lv_aload_n hx hb dX8_mergeHeads_14 rfl (lv_at hl 0 rfl) ?_
  refine g_0_revisions hC hI tw_1_99 dX8_mergeHeads_15 ?_
  refine lv_aload_n hx hb dX8_mergeHeads_18 rfl (lv_at hl 0 rfl) ?_
  refine lv_iload_n hx hb dX8_mergeHeads_19 rfl (lv_at hl 2 rfl) ?_
  obtain ⟨r20, V20, q20, hf⟩ := gbd hf
  refine k_X8_headOf hC hI hl.1 q20 tw_2_55 ⟨Nat.le_of_ble_eq_true rfl, Nat.le_of_ble_eq_true rfl⟩ ⟨Nat.le_refl _, Nat.le_refl _⟩ (Nat.le_of_ble_eq_true rfl) dX8_mergeHeads_20 (fun H locs hI => ?_)
  obtain ⟨r23, V23, q23, hf⟩ := gbd hf
  refine k_X6_writerOf hC hI hl.1 q23 tw_4_38 ⟨Nat.le_of_ble_eq_true rfl, Nat.le_of_ble_eq_true rfl⟩ ⟨Nat.le_refl _, Nat.le_refl _⟩ (Nat.le_of_ble_eq_true rfl) dX8_mergeHeads_23 (fun H locs hI => ?_)
  obtain ⟨r26, V26, q26, hf⟩ := gbd hf
  refine k_X6_add hC hI hl.1 q26 tw_3_194 ⟨Nat.le_of_ble_eq_true rfl, Nat.le_of_ble_eq_true rfl⟩ ⟨Nat.le_refl _, Nat.le_refl _⟩ (Nat.le_of_ble_eq_true rfl) dX8_mergeHeads_26 (fun H locs hI => ?_)
  refine lv_istore (lv' := [(4, .int r26), (0, .ref (ad 0)), (1, .int a1), (2, .int a2), (3, .int a3)]) hx hb dX8_mergeHeads_29 hl (Nat.lt_of_lt_of_eq (by decide) rfl) rfl (fun ls hl => ?_)
  refine lv_iconst (v := 0) hx hb dX8_mergeHeads_31 rfl ?_
  refine lv_istore (lv' := [(5, .int 0), (4, .int r26), (0, .ref (ad 0)), (1, .int a1), (2, .int a2), (3, .int a3)]) hx hb dX8_mergeHeads_32 hl (Nat.lt_of_lt_of_eq (by decide) rfl) rfl (fun ls hl => ?_)
  obtain ⟨j101, hj101, hf⟩ := gj hf
  have J101 : ∀ (V101 : Mem) (H : Heap) (locs : List Loc) (ls : Array Slot), j101 V101 = some (r, Vz) → In E ad V101 s H locs → lv_has ls 7 [(0, .ref (ad 0)), (1, .int a1), (4, .int r26)] → W p l e (rmd 5) s m ([.ref (ad 0), .int a1, .int a2, .int a3] : List Value).toArray below meth c H locs 0 0 (MQ below (QR E ad (some (.int r)) Vz) ([.ref (ad 0), .int a1, .int a2, .int a3] : List Value).toArray s 0 0 (ours E)) (F0 m 101 ls []) := by
    intro V101 H locs ls hf hI hl
    rw [hj101] at hf
    dsimp only at hf
    refine lv_aload_n hx hb dX8_mergeHeads_101 rfl (lv_at hl 0 rfl) ?_
    refine lv_iload_n hx hb dX8_mergeHeads_102 rfl (lv_at hl 1 rfl) ?_
    refine lv_iload hx hb dX8_mergeHeads_103 (lv_at hl 2 rfl) ?_
    obtain ⟨V105, q105, hf⟩ := gbv hf
    refine k_X8_checkOut hC hI hl.1 q105 tw_3_166 ⟨Nat.le_of_ble_eq_true rfl, Nat.le_of_ble_eq_true rfl⟩ ⟨Nat.le_refl _, Nat.le_refl _⟩ (Nat.le_of_ble_eq_true rfl) dX8_mergeHeads_105 (fun H locs hI => ?_)
    refine lv_iload hx hb dX8_mergeHeads_108 (lv_at hl 2 rfl) ?_
    exact r_iret2 hC hI hf dX8_mergeHeads_110
  have L34 : ∀ (n34 : Nat) (V34 : Mem) (x5_34 : Int32) (H : Heap) (locs : List Loc) (ls : Array Slot), f_X8_mergeHeads_L34 a1 a2 a3 r26 j101 n34 V34 x5_34 = some (r, Vz) → In E ad V34 s H locs → lv_has ls 7 [(0, .ref (ad 0)), (1, .int a1), (2, .int a2), (3, .int a3), (4, .int r26), (5, .int x5_34)] → W p l e (rmd 5) s m ([.ref (ad 0), .int a1, .int a2, .int a3] : List Value).toArray below meth c H locs 0 0 (MQ below (QR E ad (some (.int r)) Vz) ([.ref (ad 0), .int a1, .int a2, .int a3] : List Value).toArray s 0 0 (ours E)) (F0 m 34 ls []) := by
    intro n34
    induction n34 with
    | zero => intro V34 x5_34 H locs ls hf hI hl; cases hf
    | succ n34 ih34 =>
      intro V34 x5_34 H locs ls hf hI hl
      rw [f_X8_mergeHeads_L34.eq_2] at hf
      refine lv_iload hx hb dX8_mergeHeads_34 (lv_at hl 5 rfl) ?_
      refine lv_bipush (v := 8) hx hb dX8_mergeHeads_36 rfl ?_
      refine lv_icmp_ge (tgt := 101) hx hb dX8_mergeHeads_38 (by decide) (fun c38 => ?_) (fun c38 => ?_)
      · have hf := gt hf c38
        exact J101 _ _ _ _ hf hI (lv_sub hl [0, 1, 4] rfl)
      · have hf := gf hf c38
        refine lv_aload_n hx hb dX8_mergeHeads_41 rfl (lv_at hl 0 rfl) ?_
        refine lv_iload_n hx hb dX8_mergeHeads_42 rfl (lv_at hl 1 rfl) ?_
        refine lv_iload_n hx hb dX8_mergeHeads_43 rfl (lv_at hl 2 rfl) ?_
        refine lv_iload hx hb dX8_mergeHeads_44 (lv_at hl 5 rfl) ?_
        obtain ⟨r46, V46, q46, hf⟩ := gbd hf
        refine k_X8_mergedSign hC hI hl.1 q46 tw_4_30 ⟨Nat.le_of_ble_eq_true rfl, Nat.le_of_ble_eq_true rfl⟩ ⟨Nat.le_refl _, Nat.le_refl _⟩ (Nat.le_of_ble_eq_true rfl) dX8_mergeHeads_46 (fun H locs hI => ?_)
        refine lv_istore (lv' := [(6, .int r46), (0, .ref (ad 0)), (1, .int a1), (2, .int a2), (3, .int a3), (4, .int r26), (5, .int x5_34)]) hx hb dX8_mergeHeads_49 hl (Nat.lt_of_lt_of_eq (by decide) rfl) rfl (fun ls hl => ?_)
        refine lv_iload hx hb dX8_mergeHeads_51 (lv_at hl 0 rfl) ?_
        refine lv_bipush (v := 63) hx hb dX8_mergeHeads_53 rfl ?_
        obtain ⟨j82, hj82, hf⟩ := gj hf
        have J82 : ∀ (V82 : Mem) (x6_82 : Int32) (H : Heap) (locs : List Loc) (ls : Array Slot), j82 V82 x6_82 = some (r, Vz) → In E ad V82 s H locs → lv_has ls 7 [(0, .ref (ad 0)), (1, .int a1), (2, .int a2), (3, .int a3), (4, .int r26), (5, .int x5_34), (6, .int x6_82)] → W p l e (rmd 5) s m ([.ref (ad 0), .int a1, .int a2, .int a3] : List Value).toArray below meth c H locs 0 0 (MQ below (QR E ad (some (.int r)) Vz) ([.ref (ad 0), .int a1, .int a2, .int a3] : List Value).toArray s 0 0 (ours E)) (F0 m 82 ls []) := by
          intro V82 x6_82 H locs ls hf hI hl
          rw [hj82] at hf
          dsimp only at hf
          refine lv_aload_n hx hb dX8_mergeHeads_82 rfl (lv_at hl 0 rfl) ?_
          refine g_0_revisions hC hI tw_1_99 dX8_mergeHeads_83 ?_
          refine lv_iload hx hb dX8_mergeHeads_86 (lv_at hl 4 rfl) ?_
          refine lv_iload hx hb dX8_mergeHeads_88 (lv_at hl 5 rfl) ?_
          refine lv_iload hx hb dX8_mergeHeads_90 (lv_at hl 6 rfl) ?_
          obtain ⟨V92, q92, hf⟩ := gbv hf
          refine k_X6_putLetter hC hI hl.1 q92 tw_3_202 ⟨Nat.le_of_ble_eq_true rfl, Nat.le_of_ble_eq_true rfl⟩ ⟨Nat.le_refl _, Nat.le_refl _⟩ (Nat.le_of_ble_eq_true rfl) dX8_mergeHeads_92 (fun H locs hI => ?_)
          refine lv_iinc (v := (x5_34 + 1)) (lv' := [(5, .int (x5_34 + 1)), (0, .ref (ad 0)), (1, .int a1), (2, .int a2), (3, .int a3), (4, .int r26), (6, .int x6_82)]) hx hb dX8_mergeHeads_95 hl (k := 5) rfl rfl (Nat.lt_of_lt_of_eq (by decide) rfl) rfl (fun ls hl => ?_)
          refine lv_goto (tgt := 34) hx hb dX8_mergeHeads_98 (by decide) ?_
          exact ih34 _ _ _ _ _ hf hI (lv_sub hl [1, 2, 3, 4, 5, 0] rfl)
        refine lv_icmp_ne (tgt := 82) hx hb dX8_mergeHeads_55 (by decide) (fun c55 => ?_) (fun c55 => ?_)
        · have hf := gf hf c55
          exact J82 _ _ _ _ _ hf hI (lv_sub hl [1, 2, 3, 4, 5, 6, 0] rfl)
        · have hf := gt hf c55
          refine lv_aload_n hx hb dX8_mergeHeads_58 rfl (lv_at hl 1 rfl) ?_
          refine g_0_revisions hC hI tw_1_99 dX8_mergeHeads_59 ?_
          refine lv_aload_n hx hb dX8_mergeHeads_62 rfl (lv_at hl 1 rfl) ?_
          refine lv_iload_n hx hb dX8_mergeHeads_63 rfl (lv_at hl 4 rfl) ?_
          obtain ⟨j72, hj72, hf⟩ := gj hf
          have J72 : ∀ (V72 : Mem) (s0_72 : Int32) (H : Heap) (locs : List Loc) (ls : Array Slot), j72 V72 s0_72 = some (r, Vz) → In E ad V72 s H locs → lv_has ls 7 [(0, .ref (ad 0)), (1, .int a1), (2, .int a2), (3, .int a3), (4, .int r26), (5, .int x5_34)] → W p l e (rmd 5) s m ([.ref (ad 0), .int a1, .int a2, .int a3] : List Value).toArray below meth c H locs 0 0 (MQ below (QR E ad (some (.int r)) Vz) ([.ref (ad 0), .int a1, .int a2, .int a3] : List Value).toArray s 0 0 (ours E)) (F0 m 72 ls [.int s0_72, .ref (ad 0), .ref (ad 1)]) := by
            intro V72 s0_72 H locs ls hf hI hl
            rw [hj72] at hf
            dsimp only at hf
            obtain ⟨r72, V72, q72, hf⟩ := gbd hf
            refine k_X8_headOf hC hI hl.1 q72 tw_2_55 ⟨Nat.le_of_ble_eq_true rfl, Nat.le_of_ble_eq_true rfl⟩ ⟨Nat.le_refl _, Nat.le_refl _⟩ (Nat.le_of_ble_eq_true rfl) dX8_mergeHeads_72 (fun H locs hI => ?_)
            refine lv_iload hx hb dX8_mergeHeads_75 (lv_at hl 5 rfl) ?_
            obtain ⟨r77, V77, q77, hf⟩ := gbd hf
            refine k_X6_letterOf hC hI hl.1 q77 tw_3_150 ⟨Nat.le_of_ble_eq_true rfl, Nat.le_of_ble_eq_true rfl⟩ ⟨Nat.le_refl _, Nat.le_refl _⟩ (Nat.le_of_ble_eq_true rfl) dX8_mergeHeads_77 (fun H locs hI => ?_)
            refine lv_istore (lv' := [(6, .int r77), (0, .ref (ad 0)), (1, .int a1), (2, .int a2), (3, .int a3), (4, .int r26), (5, .int x5_34)]) hx hb dX8_mergeHeads_80 hl (Nat.lt_of_lt_of_eq (by decide) rfl) rfl (fun ls hl => ?_)
            exact J82 _ _ _ _ _ hf hI (lv_sub hl [1, 2, 3, 4, 5, 6, 0] rfl)
          refine lv_if_eq (tgt := 71) hx hb dX8_mergeHeads_64 (by decide) (fun c64 => ?_) (fun c64 => ?_)
          · have hf := gt hf c64
            refine lv_iload_n hx hb dX8_mergeHeads_71 rfl (lv_at hl 3 rfl) ?_
            exact J72 _ _ _ _ _ hf hI (lv_sub hl [1, 2, 3, 4, 5, 6] rfl)
          · have hf := gf hf c64
            refine lv_iload_n hx hb dX8_mergeHeads_67 rfl (lv_at hl 2 rfl) ?_
            refine lv_goto (tgt := 72) hx hb dX8_mergeHeads_68 (by decide) ?_
            exact J72 _ _ _ _ _ hf hI (lv_sub hl [1, 2, 3, 4, 5, 6] rfl)
  exact L34 _ _ _ _ _ _ hf hI (lv_sub hl [2, 3, 4, 5, 1, 0] rfl)
theorem k_X8_mergeHeads {p : Program} {l : Launch} {e : Env} {R : Room} {cells slots : Nat} {s : State} {m : MethodId} {args : Array Value} {below : List Frame} {meth : Method} {c : Code} {H : Heap} {locs : List Loc} {Q : State → Prop} {E : En} {ad : Nat → Nat} {V : Mem} {ow : String} {b : ByteArray} {n : Nat} {ret : Option FieldType} {pc index : Nat} {ls : Array Slot} {rest : List Value} {a1 : Int32} {a2 : Int32} {a3 : Int32} {r : Int32} {V1 : Mem} (hC : Cx p s m args c meth E ow b n ret) (hI : In E ad V s H locs) (hsz : ls.size = n) (hf : f_X8_mergeHeads V a1 a2 a3 = some (r, V1)) (hl : Cond.methodLink ow index yX8_mergeHeads ∈ TB) (hR : 5 + 1 ≤ R.frames ∧ 8 + (7 + 11) + 40 * 5 ≤ R.locals) (hcs : cells ≤ R.cells ∧ slots ≤ R.slots) (hw : (rest.map fun v => v.category).sum ≤ 8) (hdg : decode b pc = .ok (.invokevirtual index, 3)) (kk : ∀ (H1 : Heap) (locs1 : List Loc), In E ad V1 s H1 locs1 → W p l e R s m args below meth c H1 locs1 cells slots Q (F0 m (pc + 3) ls ((.int r) :: rest))) : W p l e R s m args below meth c H locs cells slots Q (F0 m pc ls (.int a3 :: .int a2 :: .int a1 :: .ref (ad 0) :: rest)) :=
  r_calV (As := [.int a1, .int a2, .int a3]) (rest := rest) hC hI hsz (m_X8_mergeHeads l E ad V a1 a2 a3 r _ hf) cv_X8_mergeHeads hl (by decide) (ce_0 _) rfl rfl rfl hR hcs hw hdg kk

theorem dX8_isChanged_0 : decode cX8_isChanged 0 = .ok (.aload_n 0, 1) := by decide +kernel
theorem dX8_isChanged_1 : decode cX8_isChanged 1 = .ok (.getfield 12, 3) := by decide +kernel
theorem dX8_isChanged_4 : decode cX8_isChanged 4 = .ok (.iload_n 1, 1) := by decide +kernel
theorem dX8_isChanged_5 : decode cX8_isChanged 5 = .ok (.iload_n 2, 1) := by decide +kernel
theorem dX8_isChanged_6 : decode cX8_isChanged 6 = .ok (.invokevirtual 58, 3) := by decide +kernel
theorem dX8_isChanged_9 : decode cX8_isChanged 9 = .ok (.aload_n 0, 1) := by decide +kernel
theorem dX8_isChanged_10 : decode cX8_isChanged 10 = .ok (.getfield 12, 3) := by decide +kernel
theorem dX8_isChanged_13 : decode cX8_isChanged 13 = .ok (.aload_n 0, 1) := by decide +kernel
theorem dX8_isChanged_14 : decode cX8_isChanged 14 = .ok (.getfield 12, 3) := by decide +kernel
theorem dX8_isChanged_17 : decode cX8_isChanged 17 = .ok (.iload_n 1, 1) := by decide +kernel
theorem dX8_isChanged_18 : decode cX8_isChanged 18 = .ok (.invokevirtual 151, 3) := by decide +kernel
theorem dX8_isChanged_21 : decode cX8_isChanged 21 = .ok (.iload_n 2, 1) := by decide +kernel
theorem dX8_isChanged_22 : decode cX8_isChanged 22 = .ok (.invokevirtual 58, 3) := by decide +kernel
theorem dX8_isChanged_25 : decode cX8_isChanged 25 = .ok (.if_icmp .eq 7, 3) := by decide +kernel
theorem dX8_isChanged_28 : decode cX8_isChanged 28 = .ok (.iconst 1, 1) := by decide +kernel
theorem dX8_isChanged_29 : decode cX8_isChanged 29 = .ok (.goto 4, 3) := by decide +kernel
theorem dX8_isChanged_32 : decode cX8_isChanged 32 = .ok (.iconst 0, 1) := by decide +kernel
theorem dX8_isChanged_33 : decode cX8_isChanged 33 = .ok (.ireturn, 1) := by decide +kernel
def f_X8_isChanged (V : Mem) (a1 : Int32) (a2 : Int32) : Option (Int32 × Mem) :=
  bd (f_X6_letterOf V a1 a2) fun r6 V6 =>
  bd (f_X6_firstParentOf V6 a1) fun r18 V18 =>
  bd (f_X6_letterOf V18 r18 a2) fun r22 V22 =>
  if r6 = r22 then
    some (0, V22)
  else
    some (1, V22)
theorem cv_X8_isChanged : CalV yX8_isChanged cX8_isChanged 3 (some .boolean) 2 := ⟨⟨⟨by decide +kernel, by decide +kernel⟩, tw_1_2, tw_4_66, by decide +kernel⟩, tw_4_65, tp_7⟩
set_option maxRecDepth 100000 in
set_option maxHeartbeats 4000000 in
theorem m_X8_isChanged (l : Launch) (E : En) (ad : Nat → Nat) (V : Mem) (a1 : Int32) (a2 : Int32) (r : Int32) (Vz : Mem) (hf : f_X8_isChanged V a1 a2 = some (r, Vz)) : MR l E ad yX8_isChanged cX8_isChanged 3 (some .boolean) 3 [.ref (ad 0), .int a1, .int a2] V (some (.int r)) Vz := by
  refine ent (E := E) (ad := ad) (V := V) "LetterRepository$Store" (by decide +kernel) rfl (Nat.le_of_ble_eq_true rfl) ?_
  intro p e s m below meth c ls hC hI hl
  have hx := hC.1
  have hb := hC.2.1
  have hl : lv_has ls 3 [(0, .ref (ad 0)), (1, .int a1), (2, .int a2)] := hl
  unfold f_X8_isChanged at hf
  refine lv_aload_n hx hb dX8_isChanged_0 rfl (lv_at hl 0 rfl) ?_
  refine g_0_revisions hC hI tw_1_99 dX8_isChanged_1 ?_
  refine lv_iload_n hx hb dX8_isChanged_4 rfl (lv_at hl 1 rfl) ?_
  refine lv_iload_n hx hb dX8_isChanged_5 rfl (lv_at hl 2 rfl) ?_
  obtain ⟨r6, V6, q6, hf⟩ := gbd hf
  refine k_X6_letterOf hC hI hl.1 q6 tw_3_150 ⟨Nat.le_of_ble_eq_true rfl, Nat.le_of_ble_eq_true rfl⟩ ⟨Nat.le_refl _, Nat.le_refl _⟩ (Nat.le_of_ble_eq_true rfl) dX8_isChanged_6 (fun H locs hI => ?_)
  refine lv_aload_n hx hb dX8_isChanged_9 rfl (lv_at hl 0 rfl) ?_
  refine g_0_revisions hC hI tw_1_99 dX8_isChanged_10 ?_
  refine lv_aload_n hx hb dX8_isChanged_13 rfl (lv_at hl 0 rfl) ?_
  refine g_0_revisions hC hI tw_1_99 dX8_isChanged_14 ?_
  refine lv_iload_n hx hb dX8_isChanged_17 rfl (lv_at hl 1 rfl) ?_
  obtain ⟨r18, V18, q18, hf⟩ := gbd hf
  refine k_X6_firstParentOf hC hI hl.1 q18 tw_4_58 ⟨Nat.le_of_ble_eq_true rfl, Nat.le_of_ble_eq_true rfl⟩ ⟨Nat.le_refl _, Nat.le_refl _⟩ (Nat.le_of_ble_eq_true rfl) dX8_isChanged_18 (fun H locs hI => ?_)
  refine lv_iload_n hx hb dX8_isChanged_21 rfl (lv_at hl 2 rfl) ?_
  obtain ⟨r22, V22, q22, hf⟩ := gbd hf
  refine k_X6_letterOf hC hI hl.1 q22 tw_3_150 ⟨Nat.le_of_ble_eq_true rfl, Nat.le_of_ble_eq_true rfl⟩ ⟨Nat.le_refl _, Nat.le_refl _⟩ (Nat.le_of_ble_eq_true rfl) dX8_isChanged_22 (fun H locs hI => ?_)
  refine lv_icmp_eq (tgt := 32) hx hb dX8_isChanged_25 (by decide) (fun c25 => ?_) (fun c25 => ?_)
  · have hf := gt hf c25
    refine lv_iconst (v := 0) hx hb dX8_isChanged_32 rfl ?_
    exact r_zret2 hC hI (.inl rfl) hf dX8_isChanged_33
  · have hf := gf hf c25
    refine lv_iconst (v := 1) hx hb dX8_isChanged_28 rfl ?_
    refine lv_goto (tgt := 33) hx hb dX8_isChanged_29 (by decide) ?_
    exact r_zret2 hC hI (.inr rfl) hf dX8_isChanged_33
theorem k_X8_isChanged {p : Program} {l : Launch} {e : Env} {R : Room} {cells slots : Nat} {s : State} {m : MethodId} {args : Array Value} {below : List Frame} {meth : Method} {c : Code} {H : Heap} {locs : List Loc} {Q : State → Prop} {E : En} {ad : Nat → Nat} {V : Mem} {ow : String} {b : ByteArray} {n : Nat} {ret : Option FieldType} {pc index : Nat} {ls : Array Slot} {rest : List Value} {a1 : Int32} {a2 : Int32} {r : Int32} {V1 : Mem} (hC : Cx p s m args c meth E ow b n ret) (hI : In E ad V s H locs) (hsz : ls.size = n) (hf : f_X8_isChanged V a1 a2 = some (r, V1)) (hl : Cond.methodLink ow index yX8_isChanged ∈ TB) (hR : 3 + 1 ≤ R.frames ∧ 8 + (3 + 11) + 40 * 3 ≤ R.locals) (hcs : cells ≤ R.cells ∧ slots ≤ R.slots) (hw : (rest.map fun v => v.category).sum ≤ 8) (hdg : decode b pc = .ok (.invokevirtual index, 3)) (kk : ∀ (H1 : Heap) (locs1 : List Loc), In E ad V1 s H1 locs1 → W p l e R s m args below meth c H1 locs1 cells slots Q (F0 m (pc + 3) ls ((.int r) :: rest))) : W p l e R s m args below meth c H locs cells slots Q (F0 m pc ls (.int a2 :: .int a1 :: .ref (ad 0) :: rest)) :=
  r_calV (As := [.int a1, .int a2]) (rest := rest) hC hI hsz (m_X8_isChanged l E ad V a1 a2 r _ hf) cv_X8_isChanged hl (by decide) (ce_0 _) rfl rfl rfl hR hcs hw hdg kk

theorem dX8_blocksPicking_0 : decode cX8_blocksPicking 0 = .ok (.aload_n 0, 1) := by decide +kernel
theorem dX8_blocksPicking_1 : decode cX8_blocksPicking 1 = .ok (.getfield 12, 3) := by decide +kernel
theorem dX8_blocksPicking_4 : decode cX8_blocksPicking 4 = .ok (.iload_n 2, 1) := by decide +kernel
theorem dX8_blocksPicking_5 : decode cX8_blocksPicking 5 = .ok (.invokevirtual 151, 3) := by decide +kernel
theorem dX8_blocksPicking_8 : decode cX8_blocksPicking 8 = .ok (.istore_n 3, 1) := by decide +kernel
theorem dX8_blocksPicking_9 : decode cX8_blocksPicking 9 = .ok (.iconst 0, 1) := by decide +kernel
theorem dX8_blocksPicking_10 : decode cX8_blocksPicking 10 = .ok (.istore 4, 2) := by decide +kernel
theorem dX8_blocksPicking_12 : decode cX8_blocksPicking 12 = .ok (.iload 4, 2) := by decide +kernel
theorem dX8_blocksPicking_14 : decode cX8_blocksPicking 14 = .ok (.bipush 8, 2) := by decide +kernel
theorem dX8_blocksPicking_16 : decode cX8_blocksPicking 16 = .ok (.if_icmp .ge 60, 3) := by decide +kernel
theorem dX8_blocksPicking_19 : decode cX8_blocksPicking 19 = .ok (.aload_n 0, 1) := by decide +kernel
theorem dX8_blocksPicking_20 : decode cX8_blocksPicking 20 = .ok (.iload_n 1, 1) := by decide +kernel
theorem dX8_blocksPicking_21 : decode cX8_blocksPicking 21 = .ok (.iload 4, 2) := by decide +kernel
theorem dX8_blocksPicking_23 : decode cX8_blocksPicking 23 = .ok (.invokevirtual 51, 3) := by decide +kernel
theorem dX8_blocksPicking_26 : decode cX8_blocksPicking 26 = .ok (.istore 5, 2) := by decide +kernel
theorem dX8_blocksPicking_28 : decode cX8_blocksPicking 28 = .ok (.aload_n 0, 1) := by decide +kernel
theorem dX8_blocksPicking_29 : decode cX8_blocksPicking 29 = .ok (.iload_n 2, 1) := by decide +kernel
theorem dX8_blocksPicking_30 : decode cX8_blocksPicking 30 = .ok (.iload 4, 2) := by decide +kernel
theorem dX8_blocksPicking_32 : decode cX8_blocksPicking 32 = .ok (.invokevirtual 157, 3) := by decide +kernel
theorem dX8_blocksPicking_35 : decode cX8_blocksPicking 35 = .ok (.ifCond .eq 35, 3) := by decide +kernel
theorem dX8_blocksPicking_38 : decode cX8_blocksPicking 38 = .ok (.iload 5, 2) := by decide +kernel
theorem dX8_blocksPicking_40 : decode cX8_blocksPicking 40 = .ok (.aload_n 0, 1) := by decide +kernel
theorem dX8_blocksPicking_41 : decode cX8_blocksPicking 41 = .ok (.getfield 12, 3) := by decide +kernel
theorem dX8_blocksPicking_44 : decode cX8_blocksPicking 44 = .ok (.iload_n 3, 1) := by decide +kernel
theorem dX8_blocksPicking_45 : decode cX8_blocksPicking 45 = .ok (.iload 4, 2) := by decide +kernel
theorem dX8_blocksPicking_47 : decode cX8_blocksPicking 47 = .ok (.invokevirtual 58, 3) := by decide +kernel
theorem dX8_blocksPicking_50 : decode cX8_blocksPicking 50 = .ok (.if_icmp .eq 20, 3) := by decide +kernel
theorem dX8_blocksPicking_53 : decode cX8_blocksPicking 53 = .ok (.iload 5, 2) := by decide +kernel
theorem dX8_blocksPicking_55 : decode cX8_blocksPicking 55 = .ok (.aload_n 0, 1) := by decide +kernel
theorem dX8_blocksPicking_56 : decode cX8_blocksPicking 56 = .ok (.getfield 12, 3) := by decide +kernel
theorem dX8_blocksPicking_59 : decode cX8_blocksPicking 59 = .ok (.iload_n 2, 1) := by decide +kernel
theorem dX8_blocksPicking_60 : decode cX8_blocksPicking 60 = .ok (.iload 4, 2) := by decide +kernel
theorem dX8_blocksPicking_62 : decode cX8_blocksPicking 62 = .ok (.invokevirtual 58, 3) := by decide +kernel
theorem dX8_blocksPicking_65 : decode cX8_blocksPicking 65 = .ok (.if_icmp .eq 5, 3) := by decide +kernel
theorem dX8_blocksPicking_68 : decode cX8_blocksPicking 68 = .ok (.iconst 1, 1) := by decide +kernel
theorem dX8_blocksPicking_69 : decode cX8_blocksPicking 69 = .ok (.ireturn, 1) := by decide +kernel
theorem dX8_blocksPicking_70 : decode cX8_blocksPicking 70 = .ok (.iinc 4 1, 3) := by decide +kernel
theorem dX8_blocksPicking_73 : decode cX8_blocksPicking 73 = .ok (.goto (-61), 3) := by decide +kernel
theorem dX8_blocksPicking_76 : decode cX8_blocksPicking 76 = .ok (.iconst 0, 1) := by decide +kernel
theorem dX8_blocksPicking_77 : decode cX8_blocksPicking 77 = .ok (.ireturn, 1) := by decide +kernel
def f_X8_blocksPicking_L12 (a1 : Int32) (a2 : Int32) (r5 : Int32) : Nat → Mem → Int32 → Option (Int32 × Mem)
  | 0, _, _ => none
  | n12 + 1, V12, x4_12 =>
    if 8 ≤ x4_12 then
      some (0, V12)
    else
      bd (f_X8_workingLetter V12 a1 x4_12) fun r23 V23 =>
      bd (f_X8_isChanged V23 a2 x4_12) fun r32 V32 =>
      jn (α := Mem → Option (Int32 × Mem)) (fun j70 =>
        if r32 = 0 then
          j70 V32
        else
          bd (f_X6_letterOf V32 r5 x4_12) fun r47 V47 =>
          if r23 = r47 then
            j70 V47
          else
            bd (f_X6_letterOf V47 a2 x4_12) fun r62 V62 =>
            if r23 = r62 then
              j70 V62
            else
              some (1, V62)
      ) (fun (V70 : Mem) =>
        (f_X8_blocksPicking_L12 a1 a2 r5 n12) V70 (x4_12 + 1)
      )
def f_X8_blocksPicking (V : Mem) (a1 : Int32) (a2 : Int32) : Option (Int32 × Mem) :=
  bd (f_X6_firstParentOf V a2) fun r5 V5 =>
  f_X8_blocksPicking_L12 a1 a2 r5 FU V5 0
theorem cv_X8_blocksPicking : CalV yX8_blocksPicking cX8_blocksPicking 6 (some .boolean) 2 := ⟨⟨⟨by decide +kernel, by decide +kernel⟩, tw_1_2, tw_4_62, by decide +kernel⟩, tw_4_61, tp_6⟩
set_option maxRecDepth 100000 in
set_option maxHeartbeats 4000000 in
theorem m_X8_blocksPicking (l : Launch) (E : En) (ad : Nat → Nat) (V : Mem) (a1 : Int32) (a2 : Int32) (r : Int32) (Vz : Mem) (hf : f_X8_blocksPicking V a1 a2 = some (r, Vz)) : MR l E ad yX8_blocksPicking cX8_blocksPicking 6 (some .boolean) 4 [.ref (ad 0), .int a1, .int a2] V (some (.int r)) Vz := by
  refine ent (E := E) (ad := ad) (V := V) "LetterRepository$Store" (by decide +kernel) rfl (Nat.le_of_ble_eq_true rfl) ?_
  intro p e s m below meth c ls hC hI hl
  have hx := hC.1
  have hb := hC.2.1
  have hl : lv_has ls 6 [(0, .ref (ad 0)), (1, .int a1), (2, .int a2)] := hl
  unfold f_X8_blocksPicking at hf
  refine lv_aload_n hx hb dX8_blocksPicking_0 rfl (lv_at hl 0 rfl) ?_
  refine g_0_revisions hC hI tw_1_99 dX8_blocksPicking_1 ?_
  refine lv_iload_n hx hb dX8_blocksPicking_4 rfl (lv_at hl 2 rfl) ?_
  obtain ⟨r5, V5, q5, hf⟩ := gbd hf
  refine k_X6_firstParentOf hC hI hl.1 q5 tw_4_58 ⟨Nat.le_of_ble_eq_true rfl, Nat.le_of_ble_eq_true rfl⟩ ⟨Nat.le_refl _, Nat.le_refl _⟩ (Nat.le_of_ble_eq_true rfl) dX8_blocksPicking_5 (fun H locs hI => ?_)
  refine lv_istore_n (lv' := [(3, .int r5), (0, .ref (ad 0)), (1, .int a1), (2, .int a2)]) hx hb dX8_blocksPicking_8 rfl hl (Nat.lt_of_lt_of_eq (by decide) rfl) rfl (fun ls hl => ?_)
  refine lv_iconst (v := 0) hx hb dX8_blocksPicking_9 rfl ?_
  refine lv_istore (lv' := [(4, .int 0), (3, .int r5), (0, .ref (ad 0)), (1, .int a1), (2, .int a2)]) hx hb dX8_blocksPicking_10 hl (Nat.lt_of_lt_of_eq (by decide) rfl) rfl (fun ls hl => ?_)
  have L12 : ∀ (n12 : Nat) (V12 : Mem) (x4_12 : Int32) (H : Heap) (locs : List Loc) (ls : Array Slot), f_X8_blocksPicking_L12 a1 a2 r5 n12 V12 x4_12 = some (r, Vz) → In E ad V12 s H locs → lv_has ls 6 [(0, .ref (ad 0)), (1, .int a1), (2, .int a2), (3, .int r5), (4, .int x4_12)] → W p l e (rmd 4) s m ([.ref (ad 0), .int a1, .int a2] : List Value).toArray below meth c H locs 0 0 (MQ below (QR E ad (some (.int r)) Vz) ([.ref (ad 0), .int a1, .int a2] : List Value).toArray s 0 0 (ours E)) (F0 m 12 ls []) := by
    intro n12
    induction n12 with
    | zero => intro V12 x4_12 H locs ls hf hI hl; cases hf
    | succ n12 ih12 =>
      intro V12 x4_12 H locs ls hf hI hl
      rw [f_X8_blocksPicking_L12.eq_2] at hf
      refine lv_iload hx hb dX8_blocksPicking_12 (lv_at hl 4 rfl) ?_
      refine lv_bipush (v := 8) hx hb dX8_blocksPicking_14 rfl ?_
      refine lv_icmp_ge (tgt := 76) hx hb dX8_blocksPicking_16 (by decide) (fun c16 => ?_) (fun c16 => ?_)
      · have hf := gt hf c16
        refine lv_iconst (v := 0) hx hb dX8_blocksPicking_76 rfl ?_
        exact r_zret2 hC hI (.inl rfl) hf dX8_blocksPicking_77
      · have hf := gf hf c16
        refine lv_aload_n hx hb dX8_blocksPicking_19 rfl (lv_at hl 0 rfl) ?_
        refine lv_iload_n hx hb dX8_blocksPicking_20 rfl (lv_at hl 1 rfl) ?_
        refine lv_iload hx hb dX8_blocksPicking_21 (lv_at hl 4 rfl) ?_
        obtain ⟨r23, V23, q23, hf⟩ := gbd hf
        refine k_X8_workingLetter hC hI hl.1 q23 tw_3_146 ⟨Nat.le_of_ble_eq_true rfl, Nat.le_of_ble_eq_true rfl⟩ ⟨Nat.le_refl _, Nat.le_refl _⟩ (Nat.le_of_ble_eq_true rfl) dX8_blocksPicking_23 (fun H locs hI => ?_)
        refine lv_istore (lv' := [(5, .int r23), (0, .ref (ad 0)), (1, .int a1), (2, .int a2), (3, .int r5), (4, .int x4_12)]) hx hb dX8_blocksPicking_26 hl (Nat.lt_of_lt_of_eq (by decide) rfl) rfl (fun ls hl => ?_)
        refine lv_aload_n hx hb dX8_blocksPicking_28 rfl (lv_at hl 1 rfl) ?_
        refine lv_iload_n hx hb dX8_blocksPicking_29 rfl (lv_at hl 3 rfl) ?_
        refine lv_iload hx hb dX8_blocksPicking_30 (lv_at hl 5 rfl) ?_
        obtain ⟨r32, V32, q32, hf⟩ := gbd hf
        refine k_X8_isChanged hC hI hl.1 q32 tw_4_63 ⟨Nat.le_of_ble_eq_true rfl, Nat.le_of_ble_eq_true rfl⟩ ⟨Nat.le_refl _, Nat.le_refl _⟩ (Nat.le_of_ble_eq_true rfl) dX8_blocksPicking_32 (fun H locs hI => ?_)
        obtain ⟨j70, hj70, hf⟩ := gj hf
        have J70 : ∀ (V70 : Mem) (H : Heap) (locs : List Loc) (ls : Array Slot), j70 V70 = some (r, Vz) → In E ad V70 s H locs → lv_has ls 6 [(0, .ref (ad 0)), (1, .int a1), (2, .int a2), (3, .int r5), (4, .int x4_12)] → W p l e (rmd 4) s m ([.ref (ad 0), .int a1, .int a2] : List Value).toArray below meth c H locs 0 0 (MQ below (QR E ad (some (.int r)) Vz) ([.ref (ad 0), .int a1, .int a2] : List Value).toArray s 0 0 (ours E)) (F0 m 70 ls []) := by
          intro V70 H locs ls hf hI hl
          rw [hj70] at hf
          dsimp only at hf
          refine lv_iinc (v := (x4_12 + 1)) (lv' := [(4, .int (x4_12 + 1)), (0, .ref (ad 0)), (1, .int a1), (2, .int a2), (3, .int r5)]) hx hb dX8_blocksPicking_70 hl (k := 4) rfl rfl (Nat.lt_of_lt_of_eq (by decide) rfl) rfl (fun ls hl => ?_)
          refine lv_goto (tgt := 12) hx hb dX8_blocksPicking_73 (by decide) ?_
          exact ih12 _ _ _ _ _ hf hI (lv_sub hl [1, 2, 3, 4, 0] rfl)
        refine lv_if_eq (tgt := 70) hx hb dX8_blocksPicking_35 (by decide) (fun c35 => ?_) (fun c35 => ?_)
        · have hf := gt hf c35
          exact J70 _ _ _ _ hf hI (lv_sub hl [1, 2, 3, 4, 5] rfl)
        · have hf := gf hf c35
          refine lv_iload hx hb dX8_blocksPicking_38 (lv_at hl 0 rfl) ?_
          refine lv_aload_n hx hb dX8_blocksPicking_40 rfl (lv_at hl 1 rfl) ?_
          refine g_0_revisions hC hI tw_1_99 dX8_blocksPicking_41 ?_
          refine lv_iload_n hx hb dX8_blocksPicking_44 rfl (lv_at hl 4 rfl) ?_
          refine lv_iload hx hb dX8_blocksPicking_45 (lv_at hl 5 rfl) ?_
          obtain ⟨r47, V47, q47, hf⟩ := gbd hf
          refine k_X6_letterOf hC hI hl.1 q47 tw_3_150 ⟨Nat.le_of_ble_eq_true rfl, Nat.le_of_ble_eq_true rfl⟩ ⟨Nat.le_refl _, Nat.le_refl _⟩ (Nat.le_of_ble_eq_true rfl) dX8_blocksPicking_47 (fun H locs hI => ?_)
          refine lv_icmp_eq (tgt := 70) hx hb dX8_blocksPicking_50 (by decide) (fun c50 => ?_) (fun c50 => ?_)
          · have hf := gt hf c50
            exact J70 _ _ _ _ hf hI (lv_sub hl [1, 2, 3, 4, 5] rfl)
          · have hf := gf hf c50
            refine lv_iload hx hb dX8_blocksPicking_53 (lv_at hl 0 rfl) ?_
            refine lv_aload_n hx hb dX8_blocksPicking_55 rfl (lv_at hl 1 rfl) ?_
            refine g_0_revisions hC hI tw_1_99 dX8_blocksPicking_56 ?_
            refine lv_iload_n hx hb dX8_blocksPicking_59 rfl (lv_at hl 3 rfl) ?_
            refine lv_iload hx hb dX8_blocksPicking_60 (lv_at hl 5 rfl) ?_
            obtain ⟨r62, V62, q62, hf⟩ := gbd hf
            refine k_X6_letterOf hC hI hl.1 q62 tw_3_150 ⟨Nat.le_of_ble_eq_true rfl, Nat.le_of_ble_eq_true rfl⟩ ⟨Nat.le_refl _, Nat.le_refl _⟩ (Nat.le_of_ble_eq_true rfl) dX8_blocksPicking_62 (fun H locs hI => ?_)
            refine lv_icmp_eq (tgt := 70) hx hb dX8_blocksPicking_65 (by decide) (fun c65 => ?_) (fun c65 => ?_)
            · have hf := gt hf c65
              exact J70 _ _ _ _ hf hI (lv_sub hl [1, 2, 3, 4, 5] rfl)
            · have hf := gf hf c65
              refine lv_iconst (v := 1) hx hb dX8_blocksPicking_68 rfl ?_
              exact r_zret2 hC hI (.inr rfl) hf dX8_blocksPicking_69
  exact L12 _ _ _ _ _ _ hf hI (lv_sub hl [2, 3, 4, 1, 0] rfl)
theorem k_X8_blocksPicking {p : Program} {l : Launch} {e : Env} {R : Room} {cells slots : Nat} {s : State} {m : MethodId} {args : Array Value} {below : List Frame} {meth : Method} {c : Code} {H : Heap} {locs : List Loc} {Q : State → Prop} {E : En} {ad : Nat → Nat} {V : Mem} {ow : String} {b : ByteArray} {n : Nat} {ret : Option FieldType} {pc index : Nat} {ls : Array Slot} {rest : List Value} {a1 : Int32} {a2 : Int32} {r : Int32} {V1 : Mem} (hC : Cx p s m args c meth E ow b n ret) (hI : In E ad V s H locs) (hsz : ls.size = n) (hf : f_X8_blocksPicking V a1 a2 = some (r, V1)) (hl : Cond.methodLink ow index yX8_blocksPicking ∈ TB) (hR : 4 + 1 ≤ R.frames ∧ 8 + (6 + 11) + 40 * 4 ≤ R.locals) (hcs : cells ≤ R.cells ∧ slots ≤ R.slots) (hw : (rest.map fun v => v.category).sum ≤ 8) (hdg : decode b pc = .ok (.invokevirtual index, 3)) (kk : ∀ (H1 : Heap) (locs1 : List Loc), In E ad V1 s H1 locs1 → W p l e R s m args below meth c H1 locs1 cells slots Q (F0 m (pc + 3) ls ((.int r) :: rest))) : W p l e R s m args below meth c H locs cells slots Q (F0 m pc ls (.int a2 :: .int a1 :: .ref (ad 0) :: rest)) :=
  r_calV (As := [.int a1, .int a2]) (rest := rest) hC hI hsz (m_X8_blocksPicking l E ad V a1 a2 r _ hf) cv_X8_blocksPicking hl (by decide) (ce_0 _) rfl rfl rfl hR hcs hw hdg kk

theorem dX8_refusalOfPick_0 : decode cX8_refusalOfPick 0 = .ok (.aload_n 0, 1) := by decide +kernel
theorem dX8_refusalOfPick_1 : decode cX8_refusalOfPick 1 = .ok (.iload_n 1, 1) := by decide +kernel
theorem dX8_refusalOfPick_2 : decode cX8_refusalOfPick 2 = .ok (.invokevirtual 75, 3) := by decide +kernel
theorem dX8_refusalOfPick_5 : decode cX8_refusalOfPick 5 = .ok (.ifCond .ne 7, 3) := by decide +kernel
theorem dX8_refusalOfPick_8 : decode cX8_refusalOfPick 8 = .ok (.getstatic 82, 3) := by decide +kernel
theorem dX8_refusalOfPick_11 : decode cX8_refusalOfPick 11 = .ok (.areturn, 1) := by decide +kernel
theorem dX8_refusalOfPick_12 : decode cX8_refusalOfPick 12 = .ok (.aload_n 0, 1) := by decide +kernel
theorem dX8_refusalOfPick_13 : decode cX8_refusalOfPick 13 = .ok (.getfield 12, 3) := by decide +kernel
theorem dX8_refusalOfPick_16 : decode cX8_refusalOfPick 16 = .ok (.iload_n 2, 1) := by decide +kernel
theorem dX8_refusalOfPick_17 : decode cX8_refusalOfPick 17 = .ok (.invokevirtual 120, 3) := by decide +kernel
theorem dX8_refusalOfPick_20 : decode cX8_refusalOfPick 20 = .ok (.ifCond .ne 7, 3) := by decide +kernel
theorem dX8_refusalOfPick_23 : decode cX8_refusalOfPick 23 = .ok (.getstatic 123, 3) := by decide +kernel
theorem dX8_refusalOfPick_26 : decode cX8_refusalOfPick 26 = .ok (.areturn, 1) := by decide +kernel
theorem dX8_refusalOfPick_27 : decode cX8_refusalOfPick 27 = .ok (.aload_n 0, 1) := by decide +kernel
theorem dX8_refusalOfPick_28 : decode cX8_refusalOfPick 28 = .ok (.getfield 12, 3) := by decide +kernel
theorem dX8_refusalOfPick_31 : decode cX8_refusalOfPick 31 = .ok (.iload_n 2, 1) := by decide +kernel
theorem dX8_refusalOfPick_32 : decode cX8_refusalOfPick 32 = .ok (.invokevirtual 151, 3) := by decide +kernel
theorem dX8_refusalOfPick_35 : decode cX8_refusalOfPick 35 = .ok (.iconst (-1), 1) := by decide +kernel
theorem dX8_refusalOfPick_36 : decode cX8_refusalOfPick 36 = .ok (.if_icmp .ne 7, 3) := by decide +kernel
theorem dX8_refusalOfPick_39 : decode cX8_refusalOfPick 39 = .ok (.iconst 1, 1) := by decide +kernel
theorem dX8_refusalOfPick_40 : decode cX8_refusalOfPick 40 = .ok (.goto 4, 3) := by decide +kernel
theorem dX8_refusalOfPick_43 : decode cX8_refusalOfPick 43 = .ok (.iconst 0, 1) := by decide +kernel
theorem dX8_refusalOfPick_44 : decode cX8_refusalOfPick 44 = .ok (.istore_n 3, 1) := by decide +kernel
theorem dX8_refusalOfPick_45 : decode cX8_refusalOfPick 45 = .ok (.iload_n 3, 1) := by decide +kernel
theorem dX8_refusalOfPick_46 : decode cX8_refusalOfPick 46 = .ok (.ifCond .ne 12, 3) := by decide +kernel
theorem dX8_refusalOfPick_49 : decode cX8_refusalOfPick 49 = .ok (.aload_n 0, 1) := by decide +kernel
theorem dX8_refusalOfPick_50 : decode cX8_refusalOfPick 50 = .ok (.iload_n 1, 1) := by decide +kernel
theorem dX8_refusalOfPick_51 : decode cX8_refusalOfPick 51 = .ok (.iload_n 2, 1) := by decide +kernel
theorem dX8_refusalOfPick_52 : decode cX8_refusalOfPick 52 = .ok (.invokevirtual 154, 3) := by decide +kernel
theorem dX8_refusalOfPick_55 : decode cX8_refusalOfPick 55 = .ok (.ifCond .eq 9, 3) := by decide +kernel
theorem dX8_refusalOfPick_58 : decode cX8_refusalOfPick 58 = .ok (.getstatic 110, 3) := by decide +kernel
theorem dX8_refusalOfPick_61 : decode cX8_refusalOfPick 61 = .ok (.goto 6, 3) := by decide +kernel
theorem dX8_refusalOfPick_64 : decode cX8_refusalOfPick 64 = .ok (.getstatic 91, 3) := by decide +kernel
theorem dX8_refusalOfPick_67 : decode cX8_refusalOfPick 67 = .ok (.areturn, 1) := by decide +kernel
def f_X8_refusalOfPick (V : Mem) (a1 : Int32) (a2 : Int32) : Option (Nat × Mem) :=
  bd (f_X8_hasBranch V a1) fun r2 V2 =>
  if r2 = 0 then
    some (1, V2)
  else
    bd (f_X6_isOpen V2 a2) fun r17 V17 =>
    if r17 = 0 then
      some (3, V17)
    else
      bd (f_X6_firstParentOf V17 a2) fun r32 V32 =>
      jn (α := Mem → Int32 → Option (Nat × Mem)) (fun j44 =>
        if r32 = (-1) then
          j44 V32 1
        else
          j44 V32 0
      ) (fun (V44 : Mem) (s0_44 : Int32) =>
        jn (α := Mem → Option (Nat × Mem)) (fun j58 =>
          if s0_44 = 0 then
            bd (f_X8_blocksPicking V44 a1 a2) fun r52 V52 =>
            if r52 = 0 then
              some (0, V52)
            else
              j58 V52
          else
            j58 V44
        ) (fun (V58 : Mem) =>
          some (4, V58)
        )
      )
theorem cv_X8_refusalOfPick : CalV yX8_refusalOfPick cX8_refusalOfPick 4 (some (.object "LetterRepository$Refusal")) 2 := ⟨⟨⟨by decide +kernel, by decide +kernel⟩, tw_1_2, tw_4_57, by decide +kernel⟩, tw_4_55, tw_4_56⟩
set_option maxRecDepth 100000 in
set_option maxHeartbeats 4000000 in
theorem m_X8_refusalOfPick (l : Launch) (E : En) (ad : Nat → Nat) (V : Mem) (a1 : Int32) (a2 : Int32) (hS : SF E) (r : Nat) (Vz : Mem) (hf : f_X8_refusalOfPick V a1 a2 = some (r, Vz)) : MR l E ad yX8_refusalOfPick cX8_refusalOfPick 4 (some (.object "LetterRepository$Refusal")) 5 [.ref (ad 0), .int a1, .int a2] V (some (.ref (eR E r))) Vz := by
  refine ent (E := E) (ad := ad) (V := V) "LetterRepository$Store" (by decide +kernel) rfl (Nat.le_of_ble_eq_true rfl) ?_
  intro p e s m below meth c ls hC hI hl
  have hx := hC.1
  have hb := hC.2.1
  have hl : lv_has ls 4 [(0, .ref (ad 0)), (1, .int a1), (2, .int a2)] := hl
  unfold f_X8_refusalOfPick at hf
  refine lv_aload_n hx hb dX8_refusalOfPick_0 rfl (lv_at hl 0 rfl) ?_
  refine lv_iload_n hx hb dX8_refusalOfPick_1 rfl (lv_at hl 1 rfl) ?_
  obtain ⟨r2, V2, q2, hf⟩ := gbd hf
  refine k_X8_hasBranch hC hI hl.1 q2 tw_2_223 ⟨Nat.le_of_ble_eq_true rfl, Nat.le_of_ble_eq_true rfl⟩ ⟨Nat.le_refl _, Nat.le_refl _⟩ (Nat.le_of_ble_eq_true rfl) dX8_refusalOfPick_2 (fun H locs hI => ?_)
  refine lv_if_ne (tgt := 12) hx hb dX8_refusalOfPick_5 (by decide) (fun c5 => ?_) (fun c5 => ?_)
  · have hf := gf hf c5
    refine lv_aload_n hx hb dX8_refusalOfPick_12 rfl (lv_at hl 0 rfl) ?_
    refine g_0_revisions hC hI tw_1_99 dX8_refusalOfPick_13 ?_
    refine lv_iload_n hx hb dX8_refusalOfPick_16 rfl (lv_at hl 2 rfl) ?_
    obtain ⟨r17, V17, q17, hf⟩ := gbd hf
    refine k_X6_isOpen hC hI hl.1 q17 tw_3_218 ⟨Nat.le_of_ble_eq_true rfl, Nat.le_of_ble_eq_true rfl⟩ ⟨Nat.le_refl _, Nat.le_refl _⟩ (Nat.le_of_ble_eq_true rfl) dX8_refusalOfPick_17 (fun H locs hI => ?_)
    refine lv_if_ne (tgt := 27) hx hb dX8_refusalOfPick_20 (by decide) (fun c20 => ?_) (fun c20 => ?_)
    · have hf := gf hf c20
      refine lv_aload_n hx hb dX8_refusalOfPick_27 rfl (lv_at hl 0 rfl) ?_
      refine g_0_revisions hC hI tw_1_99 dX8_refusalOfPick_28 ?_
      refine lv_iload_n hx hb dX8_refusalOfPick_31 rfl (lv_at hl 2 rfl) ?_
      obtain ⟨r32, V32, q32, hf⟩ := gbd hf
      refine k_X6_firstParentOf hC hI hl.1 q32 tw_4_58 ⟨Nat.le_of_ble_eq_true rfl, Nat.le_of_ble_eq_true rfl⟩ ⟨Nat.le_refl _, Nat.le_refl _⟩ (Nat.le_of_ble_eq_true rfl) dX8_refusalOfPick_32 (fun H locs hI => ?_)
      refine lv_iconst (v := (-1)) hx hb dX8_refusalOfPick_35 rfl ?_
      obtain ⟨j44, hj44, hf⟩ := gj hf
      have J44 : ∀ (V44 : Mem) (s0_44 : Int32) (H : Heap) (locs : List Loc) (ls : Array Slot), j44 V44 s0_44 = some (r, Vz) → In E ad V44 s H locs → lv_has ls 4 [(0, .ref (ad 0)), (1, .int a1), (2, .int a2)] → W p l e (rmd 5) s m ([.ref (ad 0), .int a1, .int a2] : List Value).toArray below meth c H locs 0 0 (MQ below (QR E ad (some (.ref (eR E r))) Vz) ([.ref (ad 0), .int a1, .int a2] : List Value).toArray s 0 0 (ours E)) (F0 m 44 ls [.int s0_44]) := by
        intro V44 s0_44 H locs ls hf hI hl
        rw [hj44] at hf
        dsimp only at hf
        refine lv_istore_n (lv' := [(3, .int s0_44), (0, .ref (ad 0)), (1, .int a1), (2, .int a2)]) hx hb dX8_refusalOfPick_44 rfl hl (Nat.lt_of_lt_of_eq (by decide) rfl) rfl (fun ls hl => ?_)
        refine lv_iload_n hx hb dX8_refusalOfPick_45 rfl (lv_at hl 0 rfl) ?_
        obtain ⟨j58, hj58, hf⟩ := gj hf
        have J58 : ∀ (V58 : Mem) (H : Heap) (locs : List Loc) (ls : Array Slot), j58 V58 = some (r, Vz) → In E ad V58 s H locs → lv_has ls 4 [] → W p l e (rmd 5) s m ([.ref (ad 0), .int a1, .int a2] : List Value).toArray below meth c H locs 0 0 (MQ below (QR E ad (some (.ref (eR E r))) Vz) ([.ref (ad 0), .int a1, .int a2] : List Value).toArray s 0 0 (ours E)) (F0 m 58 ls []) := by
          intro V58 H locs ls hf hI hl
          rw [hj58] at hf
          dsimp only at hf
          refine r_gsR 4 hS hC hI (by decide) tw_3_189 dX8_refusalOfPick_58 ?_
          refine lv_goto (tgt := 67) hx hb dX8_refusalOfPick_61 (by decide) ?_
          exact r_aretE hC hI hf dX8_refusalOfPick_67
        refine lv_if_ne (tgt := 58) hx hb dX8_refusalOfPick_46 (by decide) (fun c46 => ?_) (fun c46 => ?_)
        · have hf := gf hf c46
          exact J58 _ _ _ _ hf hI (lv_sub hl [] rfl)
        · have hf := gt hf c46
          refine lv_aload_n hx hb dX8_refusalOfPick_49 rfl (lv_at hl 1 rfl) ?_
          refine lv_iload_n hx hb dX8_refusalOfPick_50 rfl (lv_at hl 2 rfl) ?_
          refine lv_iload_n hx hb dX8_refusalOfPick_51 rfl (lv_at hl 3 rfl) ?_
          obtain ⟨r52, V52, q52, hf⟩ := gbd hf
          refine k_X8_blocksPicking hC hI hl.1 q52 tw_4_59 ⟨Nat.le_of_ble_eq_true rfl, Nat.le_of_ble_eq_true rfl⟩ ⟨Nat.le_refl _, Nat.le_refl _⟩ (Nat.le_of_ble_eq_true rfl) dX8_refusalOfPick_52 (fun H locs hI => ?_)
          refine lv_if_eq (tgt := 64) hx hb dX8_refusalOfPick_55 (by decide) (fun c55 => ?_) (fun c55 => ?_)
          · have hf := gt hf c55
            refine r_gsR 0 hS hC hI (by decide) tw_2_235 dX8_refusalOfPick_64 ?_
            exact r_aretE hC hI hf dX8_refusalOfPick_67
          · have hf := gf hf c55
            exact J58 _ _ _ _ hf hI (lv_sub hl [] rfl)
      refine lv_icmp_ne (tgt := 43) hx hb dX8_refusalOfPick_36 (by decide) (fun c36 => ?_) (fun c36 => ?_)
      · have hf := gf hf c36
        refine lv_iconst (v := 0) hx hb dX8_refusalOfPick_43 rfl ?_
        exact J44 _ _ _ _ _ hf hI (lv_sub hl [0, 1, 2] rfl)
      · have hf := gt hf c36
        refine lv_iconst (v := 1) hx hb dX8_refusalOfPick_39 rfl ?_
        refine lv_goto (tgt := 44) hx hb dX8_refusalOfPick_40 (by decide) ?_
        exact J44 _ _ _ _ _ hf hI (lv_sub hl [0, 1, 2] rfl)
    · have hf := gt hf c20
      refine r_gsR 3 hS hC hI (by decide) tw_3_226 dX8_refusalOfPick_23 ?_
      exact r_aretE hC hI hf dX8_refusalOfPick_26
  · have hf := gt hf c5
    refine r_gsR 1 hS hC hI (by decide) tw_2_230 dX8_refusalOfPick_8 ?_
    exact r_aretE hC hI hf dX8_refusalOfPick_11
theorem k_X8_refusalOfPick {p : Program} {l : Launch} {e : Env} {R : Room} {cells slots : Nat} {s : State} {m : MethodId} {args : Array Value} {below : List Frame} {meth : Method} {c : Code} {H : Heap} {locs : List Loc} {Q : State → Prop} {E : En} {ad : Nat → Nat} {V : Mem} {ow : String} {b : ByteArray} {n : Nat} {ret : Option FieldType} {pc index : Nat} {ls : Array Slot} {rest : List Value} {a1 : Int32} {a2 : Int32} {r : Nat} {V1 : Mem} (hS : SF E) (hC : Cx p s m args c meth E ow b n ret) (hI : In E ad V s H locs) (hsz : ls.size = n) (hf : f_X8_refusalOfPick V a1 a2 = some (r, V1)) (hl : Cond.methodLink ow index yX8_refusalOfPick ∈ TB) (hR : 5 + 1 ≤ R.frames ∧ 8 + (4 + 11) + 40 * 5 ≤ R.locals) (hcs : cells ≤ R.cells ∧ slots ≤ R.slots) (hw : (rest.map fun v => v.category).sum ≤ 8) (hdg : decode b pc = .ok (.invokevirtual index, 3)) (kk : ∀ (H1 : Heap) (locs1 : List Loc), In E ad V1 s H1 locs1 → W p l e R s m args below meth c H1 locs1 cells slots Q (F0 m (pc + 3) ls ((.ref (eR E r)) :: rest))) : W p l e R s m args below meth c H locs cells slots Q (F0 m pc ls (.int a2 :: .int a1 :: .ref (ad 0) :: rest)) :=
  r_calV (As := [.int a1, .int a2]) (rest := rest) hC hI hsz (m_X8_refusalOfPick l E ad V a1 a2 hS r _ hf) cv_X8_refusalOfPick hl (by decide) (ce_0 _) rfl rfl rfl hR hcs hw hdg kk

theorem dX8_pickChange_0 : decode cX8_pickChange 0 = .ok (.iconst 0, 1) := by decide +kernel
theorem dX8_pickChange_1 : decode cX8_pickChange 1 = .ok (.istore_n 3, 1) := by decide +kernel
theorem dX8_pickChange_2 : decode cX8_pickChange 2 = .ok (.iconst 0, 1) := by decide +kernel
theorem dX8_pickChange_3 : decode cX8_pickChange 3 = .ok (.istore 4, 2) := by decide +kernel
theorem dX8_pickChange_5 : decode cX8_pickChange 5 = .ok (.iload 4, 2) := by decide +kernel
theorem dX8_pickChange_7 : decode cX8_pickChange 7 = .ok (.bipush 8, 2) := by decide +kernel
theorem dX8_pickChange_9 : decode cX8_pickChange 9 = .ok (.if_icmp .ge 55, 3) := by decide +kernel
theorem dX8_pickChange_12 : decode cX8_pickChange 12 = .ok (.aload_n 0, 1) := by decide +kernel
theorem dX8_pickChange_13 : decode cX8_pickChange 13 = .ok (.getfield 12, 3) := by decide +kernel
theorem dX8_pickChange_16 : decode cX8_pickChange 16 = .ok (.iload_n 2, 1) := by decide +kernel
theorem dX8_pickChange_17 : decode cX8_pickChange 17 = .ok (.iload 4, 2) := by decide +kernel
theorem dX8_pickChange_19 : decode cX8_pickChange 19 = .ok (.invokevirtual 58, 3) := by decide +kernel
theorem dX8_pickChange_22 : decode cX8_pickChange 22 = .ok (.istore 5, 2) := by decide +kernel
theorem dX8_pickChange_24 : decode cX8_pickChange 24 = .ok (.aload_n 0, 1) := by decide +kernel
theorem dX8_pickChange_25 : decode cX8_pickChange 25 = .ok (.iload_n 2, 1) := by decide +kernel
theorem dX8_pickChange_26 : decode cX8_pickChange 26 = .ok (.iload 4, 2) := by decide +kernel
theorem dX8_pickChange_28 : decode cX8_pickChange 28 = .ok (.invokevirtual 157, 3) := by decide +kernel
theorem dX8_pickChange_31 : decode cX8_pickChange 31 = .ok (.ifCond .eq 27, 3) := by decide +kernel
theorem dX8_pickChange_34 : decode cX8_pickChange 34 = .ok (.aload_n 0, 1) := by decide +kernel
theorem dX8_pickChange_35 : decode cX8_pickChange 35 = .ok (.iload_n 1, 1) := by decide +kernel
theorem dX8_pickChange_36 : decode cX8_pickChange 36 = .ok (.iload 4, 2) := by decide +kernel
theorem dX8_pickChange_38 : decode cX8_pickChange 38 = .ok (.invokevirtual 51, 3) := by decide +kernel
theorem dX8_pickChange_41 : decode cX8_pickChange 41 = .ok (.iload 5, 2) := by decide +kernel
theorem dX8_pickChange_43 : decode cX8_pickChange 43 = .ok (.if_icmp .eq 15, 3) := by decide +kernel
theorem dX8_pickChange_46 : decode cX8_pickChange 46 = .ok (.aload_n 0, 1) := by decide +kernel
theorem dX8_pickChange_47 : decode cX8_pickChange 47 = .ok (.iload_n 1, 1) := by decide +kernel
theorem dX8_pickChange_48 : decode cX8_pickChange 48 = .ok (.iload 4, 2) := by decide +kernel
theorem dX8_pickChange_50 : decode cX8_pickChange 50 = .ok (.iload 5, 2) := by decide +kernel
theorem dX8_pickChange_52 : decode cX8_pickChange 52 = .ok (.invokevirtual 71, 3) := by decide +kernel
theorem dX8_pickChange_55 : decode cX8_pickChange 55 = .ok (.iinc 3 1, 3) := by decide +kernel
theorem dX8_pickChange_58 : decode cX8_pickChange 58 = .ok (.iinc 4 1, 3) := by decide +kernel
theorem dX8_pickChange_61 : decode cX8_pickChange 61 = .ok (.goto (-56), 3) := by decide +kernel
theorem dX8_pickChange_64 : decode cX8_pickChange 64 = .ok (.iload_n 3, 1) := by decide +kernel
theorem dX8_pickChange_65 : decode cX8_pickChange 65 = .ok (.ireturn, 1) := by decide +kernel
def f_X8_pickChange_L5 (a1 : Int32) (a2 : Int32) : Nat → Mem → Int32 → Int32 → Option (Int32 × Mem)
  | 0, _, _, _ => none
  | n5 + 1, V5, x3_5, x4_5 =>
    if 8 ≤ x4_5 then
      some (x3_5, V5)
    else
      bd (f_X6_letterOf V5 a2 x4_5) fun r19 V19 =>
      bd (f_X8_isChanged V19 a2 x4_5) fun r28 V28 =>
      jn (α := Mem → Int32 → Option (Int32 × Mem)) (fun j58 =>
        if r28 = 0 then
          j58 V28 x3_5
        else
          bd (f_X8_workingLetter V28 a1 x4_5) fun r38 V38 =>
          if r38 = r19 then
            j58 V38 x3_5
          else
            bv (f_X8_putWorking V38 a1 x4_5 r19) fun V52 =>
            j58 V52 (x3_5 + 1)
      ) (fun (V58 : Mem) (x3_58 : Int32) =>
        (f_X8_pickChange_L5 a1 a2 n5) V58 x3_58 (x4_5 + 1)
      )
def f_X8_pickChange (V : Mem) (a1 : Int32) (a2 : Int32) : Option (Int32 × Mem) :=
  f_X8_pickChange_L5 a1 a2 FU V 0 0
theorem cv_X8_pickChange : CalV yX8_pickChange cX8_pickChange 6 (some .int) 2 := ⟨⟨⟨by decide +kernel, by decide +kernel⟩, tw_1_2, tw_4_70, by decide +kernel⟩, tw_4_68, tw_4_69⟩
set_option maxRecDepth 100000 in
set_option maxHeartbeats 4000000 in
theorem m_X8_pickChange (l : Launch) (E : En) (ad : Nat → Nat) (V : Mem) (a1 : Int32) (a2 : Int32) (r : Int32) (Vz : Mem) (hf : f_X8_pickChange V a1 a2 = some (r, Vz)) : MR l E ad yX8_pickChange cX8_pickChange 6 (some .int) 4 [.ref (ad 0), .int a1, .int a2] V (some (.int r)) Vz := by
  refine ent (E := E) (ad := ad) (V := V) "LetterRepository$Store" (by decide +kernel) rfl (Nat.le_of_ble_eq_true rfl) ?_
  intro p e s m below meth c ls hC hI hl
  have hx := hC.1
  have hb := hC.2.1
  have hl : lv_has ls 6 [(0, .ref (ad 0)), (1, .int a1), (2, .int a2)] := hl
  unfold f_X8_pickChange at hf
  refine lv_iconst (v := 0) hx hb dX8_pickChange_0 rfl ?_
  refine lv_istore_n (lv' := [(3, .int 0), (0, .ref (ad 0)), (1, .int a1), (2, .int a2)]) hx hb dX8_pickChange_1 rfl hl (Nat.lt_of_lt_of_eq (by decide) rfl) rfl (fun ls hl => ?_)
  refine lv_iconst (v := 0) hx hb dX8_pickChange_2 rfl ?_
  refine lv_istore (lv' := [(4, .int 0), (3, .int 0), (0, .ref (ad 0)), (1, .int a1), (2, .int a2)]) hx hb dX8_pickChange_3 hl (Nat.lt_of_lt_of_eq (by decide) rfl) rfl (fun ls hl => ?_)
  have L5 : ∀ (n5 : Nat) (V5 : Mem) (x3_5 : Int32) (x4_5 : Int32) (H : Heap) (locs : List Loc) (ls : Array Slot), f_X8_pickChange_L5 a1 a2 n5 V5 x3_5 x4_5 = some (r, Vz) → In E ad V5 s H locs → lv_has ls 6 [(0, .ref (ad 0)), (1, .int a1), (2, .int a2), (3, .int x3_5), (4, .int x4_5)] → W p l e (rmd 4) s m ([.ref (ad 0), .int a1, .int a2] : List Value).toArray below meth c H locs 0 0 (MQ below (QR E ad (some (.int r)) Vz) ([.ref (ad 0), .int a1, .int a2] : List Value).toArray s 0 0 (ours E)) (F0 m 5 ls []) := by
    intro n5
    induction n5 with
    | zero => intro V5 x3_5 x4_5 H locs ls hf hI hl; cases hf
    | succ n5 ih5 =>
      intro V5 x3_5 x4_5 H locs ls hf hI hl
      rw [f_X8_pickChange_L5.eq_2] at hf
      refine lv_iload hx hb dX8_pickChange_5 (lv_at hl 4 rfl) ?_
      refine lv_bipush (v := 8) hx hb dX8_pickChange_7 rfl ?_
      refine lv_icmp_ge (tgt := 64) hx hb dX8_pickChange_9 (by decide) (fun c9 => ?_) (fun c9 => ?_)
      · have hf := gt hf c9
        refine lv_iload_n hx hb dX8_pickChange_64 rfl (lv_at hl 3 rfl) ?_
        exact r_iret2 hC hI hf dX8_pickChange_65
      · have hf := gf hf c9
        refine lv_aload_n hx hb dX8_pickChange_12 rfl (lv_at hl 0 rfl) ?_
        refine g_0_revisions hC hI tw_1_99 dX8_pickChange_13 ?_
        refine lv_iload_n hx hb dX8_pickChange_16 rfl (lv_at hl 2 rfl) ?_
        refine lv_iload hx hb dX8_pickChange_17 (lv_at hl 4 rfl) ?_
        obtain ⟨r19, V19, q19, hf⟩ := gbd hf
        refine k_X6_letterOf hC hI hl.1 q19 tw_3_150 ⟨Nat.le_of_ble_eq_true rfl, Nat.le_of_ble_eq_true rfl⟩ ⟨Nat.le_refl _, Nat.le_refl _⟩ (Nat.le_of_ble_eq_true rfl) dX8_pickChange_19 (fun H locs hI => ?_)
        refine lv_istore (lv' := [(5, .int r19), (0, .ref (ad 0)), (1, .int a1), (2, .int a2), (3, .int x3_5), (4, .int x4_5)]) hx hb dX8_pickChange_22 hl (Nat.lt_of_lt_of_eq (by decide) rfl) rfl (fun ls hl => ?_)
        refine lv_aload_n hx hb dX8_pickChange_24 rfl (lv_at hl 1 rfl) ?_
        refine lv_iload_n hx hb dX8_pickChange_25 rfl (lv_at hl 3 rfl) ?_
        refine lv_iload hx hb dX8_pickChange_26 (lv_at hl 5 rfl) ?_
        obtain ⟨r28, V28, q28, hf⟩ := gbd hf
        refine k_X8_isChanged hC hI hl.1 q28 tw_4_63 ⟨Nat.le_of_ble_eq_true rfl, Nat.le_of_ble_eq_true rfl⟩ ⟨Nat.le_refl _, Nat.le_refl _⟩ (Nat.le_of_ble_eq_true rfl) dX8_pickChange_28 (fun H locs hI => ?_)
        obtain ⟨j58, hj58, hf⟩ := gj hf
        have J58 : ∀ (V58 : Mem) (x3_58 : Int32) (H : Heap) (locs : List Loc) (ls : Array Slot), j58 V58 x3_58 = some (r, Vz) → In E ad V58 s H locs → lv_has ls 6 [(0, .ref (ad 0)), (1, .int a1), (2, .int a2), (3, .int x3_58), (4, .int x4_5)] → W p l e (rmd 4) s m ([.ref (ad 0), .int a1, .int a2] : List Value).toArray below meth c H locs 0 0 (MQ below (QR E ad (some (.int r)) Vz) ([.ref (ad 0), .int a1, .int a2] : List Value).toArray s 0 0 (ours E)) (F0 m 58 ls []) := by
          intro V58 x3_58 H locs ls hf hI hl
          rw [hj58] at hf
          dsimp only at hf
          refine lv_iinc (v := (x4_5 + 1)) (lv' := [(4, .int (x4_5 + 1)), (0, .ref (ad 0)), (1, .int a1), (2, .int a2), (3, .int x3_58)]) hx hb dX8_pickChange_58 hl (k := 4) rfl rfl (Nat.lt_of_lt_of_eq (by decide) rfl) rfl (fun ls hl => ?_)
          refine lv_goto (tgt := 5) hx hb dX8_pickChange_61 (by decide) ?_
          exact ih5 _ _ _ _ _ _ hf hI (lv_sub hl [1, 2, 3, 4, 0] rfl)
        refine lv_if_eq (tgt := 58) hx hb dX8_pickChange_31 (by decide) (fun c31 => ?_) (fun c31 => ?_)
        · have hf := gt hf c31
          exact J58 _ _ _ _ _ hf hI (lv_sub hl [1, 2, 3, 4, 5] rfl)
        · have hf := gf hf c31
          refine lv_aload_n hx hb dX8_pickChange_34 rfl (lv_at hl 1 rfl) ?_
          refine lv_iload_n hx hb dX8_pickChange_35 rfl (lv_at hl 2 rfl) ?_
          refine lv_iload hx hb dX8_pickChange_36 (lv_at hl 5 rfl) ?_
          obtain ⟨r38, V38, q38, hf⟩ := gbd hf
          refine k_X8_workingLetter hC hI hl.1 q38 tw_3_146 ⟨Nat.le_of_ble_eq_true rfl, Nat.le_of_ble_eq_true rfl⟩ ⟨Nat.le_refl _, Nat.le_refl _⟩ (Nat.le_of_ble_eq_true rfl) dX8_pickChange_38 (fun H locs hI => ?_)
          refine lv_iload hx hb dX8_pickChange_41 (lv_at hl 0 rfl) ?_
          refine lv_icmp_eq (tgt := 58) hx hb dX8_pickChange_43 (by decide) (fun c43 => ?_) (fun c43 => ?_)
          · have hf := gt hf c43
            exact J58 _ _ _ _ _ hf hI (lv_sub hl [1, 2, 3, 4, 5] rfl)
          · have hf := gf hf c43
            refine lv_aload_n hx hb dX8_pickChange_46 rfl (lv_at hl 1 rfl) ?_
            refine lv_iload_n hx hb dX8_pickChange_47 rfl (lv_at hl 2 rfl) ?_
            refine lv_iload hx hb dX8_pickChange_48 (lv_at hl 5 rfl) ?_
            refine lv_iload hx hb dX8_pickChange_50 (lv_at hl 0 rfl) ?_
            obtain ⟨V52, q52, hf⟩ := gbv hf
            refine k_X8_putWorking hC hI hl.1 q52 tw_3_130 ⟨Nat.le_of_ble_eq_true rfl, Nat.le_of_ble_eq_true rfl⟩ ⟨Nat.le_refl _, Nat.le_refl _⟩ (Nat.le_of_ble_eq_true rfl) dX8_pickChange_52 (fun H locs hI => ?_)
            refine lv_iinc (v := (x3_5 + 1)) (lv' := [(3, .int (x3_5 + 1)), (5, .int r19), (0, .ref (ad 0)), (1, .int a1), (2, .int a2), (4, .int x4_5)]) hx hb dX8_pickChange_55 hl (k := 4) rfl rfl (Nat.lt_of_lt_of_eq (by decide) rfl) rfl (fun ls hl => ?_)
            exact J58 _ _ _ _ _ hf hI (lv_sub hl [2, 3, 4, 0, 5] rfl)
  exact L5 _ _ _ _ _ _ _ hf hI (lv_sub hl [2, 3, 4, 1, 0] rfl)
theorem k_X8_pickChange {p : Program} {l : Launch} {e : Env} {R : Room} {cells slots : Nat} {s : State} {m : MethodId} {args : Array Value} {below : List Frame} {meth : Method} {c : Code} {H : Heap} {locs : List Loc} {Q : State → Prop} {E : En} {ad : Nat → Nat} {V : Mem} {ow : String} {b : ByteArray} {n : Nat} {ret : Option FieldType} {pc index : Nat} {ls : Array Slot} {rest : List Value} {a1 : Int32} {a2 : Int32} {r : Int32} {V1 : Mem} (hC : Cx p s m args c meth E ow b n ret) (hI : In E ad V s H locs) (hsz : ls.size = n) (hf : f_X8_pickChange V a1 a2 = some (r, V1)) (hl : Cond.methodLink ow index yX8_pickChange ∈ TB) (hR : 4 + 1 ≤ R.frames ∧ 8 + (6 + 11) + 40 * 4 ≤ R.locals) (hcs : cells ≤ R.cells ∧ slots ≤ R.slots) (hw : (rest.map fun v => v.category).sum ≤ 8) (hdg : decode b pc = .ok (.invokevirtual index, 3)) (kk : ∀ (H1 : Heap) (locs1 : List Loc), In E ad V1 s H1 locs1 → W p l e R s m args below meth c H1 locs1 cells slots Q (F0 m (pc + 3) ls ((.int r) :: rest))) : W p l e R s m args below meth c H locs cells slots Q (F0 m pc ls (.int a2 :: .int a1 :: .ref (ad 0) :: rest)) :=
  r_calV (As := [.int a1, .int a2]) (rest := rest) hC hI hsz (m_X8_pickChange l E ad V a1 a2 r _ hf) cv_X8_pickChange hl (by decide) (ce_0 _) rfl rfl rfl hR hcs hw hdg kk

theorem dX8_revisionWithTag_0 : decode cX8_revisionWithTag 0 = .ok (.aload_n 0, 1) := by decide +kernel
theorem dX8_revisionWithTag_1 : decode cX8_revisionWithTag 1 = .ok (.getfield 30, 3) := by decide +kernel
theorem dX8_revisionWithTag_4 : decode cX8_revisionWithTag 4 = .ok (.iload_n 1, 1) := by decide +kernel
theorem dX8_revisionWithTag_5 : decode cX8_revisionWithTag 5 = .ok (.bipush 65, 2) := by decide +kernel
theorem dX8_revisionWithTag_7 : decode cX8_revisionWithTag 7 = .ok (.isub, 1) := by decide +kernel
theorem dX8_revisionWithTag_8 : decode cX8_revisionWithTag 8 = .ok (.invokevirtual 44, 3) := by decide +kernel
theorem dX8_revisionWithTag_11 : decode cX8_revisionWithTag 11 = .ok (.ireturn, 1) := by decide +kernel
def f_X8_revisionWithTag (V : Mem) (a1 : Int32) : Option (Int32 × Mem) :=
  bd (f_X7_get V 18 26 (a1 - 65)) fun r8 V8 =>
  some (r8, V8)
theorem cv_X8_revisionWithTag : CalV yX8_revisionWithTag cX8_revisionWithTag 2 (some .int) 1 := ⟨⟨⟨by decide +kernel, by decide +kernel⟩, tw_1_2, tw_2_87, by decide +kernel⟩, tw_2_85, tw_2_86⟩
set_option maxRecDepth 100000 in
set_option maxHeartbeats 4000000 in
theorem m_X8_revisionWithTag (l : Launch) (E : En) (ad : Nat → Nat) (V : Mem) (a1 : Int32) (r : Int32) (Vz : Mem) (hf : f_X8_revisionWithTag V a1 = some (r, Vz)) : MR l E ad yX8_revisionWithTag cX8_revisionWithTag 2 (some .int) 2 [.ref (ad 0), .int a1] V (some (.int r)) Vz := by
  refine ent (E := E) (ad := ad) (V := V) "LetterRepository$Store" (by decide +kernel) rfl (Nat.le_of_ble_eq_true rfl) ?_
  intro p e s m below meth c ls hC hI hl
  have hx := hC.1
  have hb := hC.2.1
  have hl : lv_has ls 2 [(0, .ref (ad 0)), (1, .int a1)] := hl
  unfold f_X8_revisionWithTag at hf
  refine lv_aload_n hx hb dX8_revisionWithTag_0 rfl (lv_at hl 0 rfl) ?_
  refine g_0_tags hC hI tw_1_103 dX8_revisionWithTag_1 ?_
  refine lv_iload_n hx hb dX8_revisionWithTag_4 rfl (lv_at hl 1 rfl) ?_
  refine lv_bipush (v := 65) hx hb dX8_revisionWithTag_5 rfl ?_
  refine lv_isub hx hb dX8_revisionWithTag_7 ?_
  obtain ⟨r8, V8, q8, hf⟩ := gbd hf
  refine k_X7_get row_18 hC hI hl.1 q8 tw_2_59 ⟨Nat.le_of_ble_eq_true rfl, Nat.le_of_ble_eq_true rfl⟩ ⟨Nat.le_refl _, Nat.le_refl _⟩ (Nat.le_of_ble_eq_true rfl) dX8_revisionWithTag_8 (fun H locs hI => ?_)
  exact r_iret2 hC hI hf dX8_revisionWithTag_11
theorem k_X8_revisionWithTag {p : Program} {l : Launch} {e : Env} {R : Room} {cells slots : Nat} {s : State} {m : MethodId} {args : Array Value} {below : List Frame} {meth : Method} {c : Code} {H : Heap} {locs : List Loc} {Q : State → Prop} {E : En} {ad : Nat → Nat} {V : Mem} {ow : String} {b : ByteArray} {n : Nat} {ret : Option FieldType} {pc index : Nat} {ls : Array Slot} {rest : List Value} {a1 : Int32} {r : Int32} {V1 : Mem} (hC : Cx p s m args c meth E ow b n ret) (hI : In E ad V s H locs) (hsz : ls.size = n) (hf : f_X8_revisionWithTag V a1 = some (r, V1)) (hl : Cond.methodLink ow index yX8_revisionWithTag ∈ TB) (hR : 2 + 1 ≤ R.frames ∧ 8 + (2 + 11) + 40 * 2 ≤ R.locals) (hcs : cells ≤ R.cells ∧ slots ≤ R.slots) (hw : (rest.map fun v => v.category).sum ≤ 8) (hdg : decode b pc = .ok (.invokevirtual index, 3)) (kk : ∀ (H1 : Heap) (locs1 : List Loc), In E ad V1 s H1 locs1 → W p l e R s m args below meth c H1 locs1 cells slots Q (F0 m (pc + 3) ls ((.int r) :: rest))) : W p l e R s m args below meth c H locs cells slots Q (F0 m pc ls (.int a1 :: .ref (ad 0) :: rest)) :=
  r_calV (As := [.int a1]) (rest := rest) hC hI hsz (m_X8_revisionWithTag l E ad V a1 r _ hf) cv_X8_revisionWithTag hl (by decide) (ce_0 _) rfl rfl rfl hR hcs hw hdg kk

theorem dX8_countTags_0 : decode cX8_countTags 0 = .ok (.iconst 0, 1) := by decide +kernel
theorem dX8_countTags_1 : decode cX8_countTags 1 = .ok (.istore_n 1, 1) := by decide +kernel
theorem dX8_countTags_2 : decode cX8_countTags 2 = .ok (.bipush 65, 2) := by decide +kernel
theorem dX8_countTags_4 : decode cX8_countTags 4 = .ok (.istore_n 2, 1) := by decide +kernel
theorem dX8_countTags_5 : decode cX8_countTags 5 = .ok (.iload_n 2, 1) := by decide +kernel
theorem dX8_countTags_6 : decode cX8_countTags 6 = .ok (.bipush 90, 2) := by decide +kernel
theorem dX8_countTags_8 : decode cX8_countTags 8 = .ok (.if_icmp .gt 21, 3) := by decide +kernel
theorem dX8_countTags_11 : decode cX8_countTags 11 = .ok (.aload_n 0, 1) := by decide +kernel
theorem dX8_countTags_12 : decode cX8_countTags 12 = .ok (.iload_n 2, 1) := by decide +kernel
theorem dX8_countTags_13 : decode cX8_countTags 13 = .ok (.invokevirtual 160, 3) := by decide +kernel
theorem dX8_countTags_16 : decode cX8_countTags 16 = .ok (.iconst (-1), 1) := by decide +kernel
theorem dX8_countTags_17 : decode cX8_countTags 17 = .ok (.if_icmp .eq 6, 3) := by decide +kernel
theorem dX8_countTags_20 : decode cX8_countTags 20 = .ok (.iinc 1 1, 3) := by decide +kernel
theorem dX8_countTags_23 : decode cX8_countTags 23 = .ok (.iinc 2 1, 3) := by decide +kernel
theorem dX8_countTags_26 : decode cX8_countTags 26 = .ok (.goto (-21), 3) := by decide +kernel
theorem dX8_countTags_29 : decode cX8_countTags 29 = .ok (.iload_n 1, 1) := by decide +kernel
theorem dX8_countTags_30 : decode cX8_countTags 30 = .ok (.ireturn, 1) := by decide +kernel
def f_X8_countTags_L5 : Nat → Mem → Int32 → Int32 → Option (Int32 × Mem)
  | 0, _, _, _ => none
  | n5 + 1, V5, x1_5, x2_5 =>
    if 90 < x2_5 then
      some (x1_5, V5)
    else
      bd (f_X8_revisionWithTag V5 x2_5) fun r13 V13 =>
      jn (α := Mem → Int32 → Option (Int32 × Mem)) (fun j23 =>
        if r13 = (-1) then
          j23 V13 x1_5
        else
          j23 V13 (x1_5 + 1)
      ) (fun (V23 : Mem) (x1_23 : Int32) =>
        (f_X8_countTags_L5 n5) V23 x1_23 (x2_5 + 1)
      )
def f_X8_countTags (V : Mem) : Option (Int32 × Mem) :=
  f_X8_countTags_L5 FU V 0 65
theorem cv_X8_countTags : CalV yX8_countTags cX8_countTags 3 (some .int) 0 := ⟨⟨⟨by decide +kernel, by decide +kernel⟩, tw_1_2, tw_2_117, by decide +kernel⟩, tw_2_115, tw_2_116⟩
set_option maxRecDepth 100000 in
set_option maxHeartbeats 4000000 in
theorem m_X8_countTags (l : Launch) (E : En) (ad : Nat → Nat) (V : Mem) (r : Int32) (Vz : Mem) (hf : f_X8_countTags V = some (r, Vz)) : MR l E ad yX8_countTags cX8_countTags 3 (some .int) 3 [.ref (ad 0)] V (some (.int r)) Vz := by
  refine ent (E := E) (ad := ad) (V := V) "LetterRepository$Store" (by decide +kernel) rfl (Nat.le_of_ble_eq_true rfl) ?_
  intro p e s m below meth c ls hC hI hl
  have hx := hC.1
  have hb := hC.2.1
  have hl : lv_has ls 3 [(0, .ref (ad 0))] := hl
  unfold f_X8_countTags at hf
  refine lv_iconst (v := 0) hx hb dX8_countTags_0 rfl ?_
  refine lv_istore_n (lv' := [(1, .int 0), (0, .ref (ad 0))]) hx hb dX8_countTags_1 rfl hl (Nat.lt_of_lt_of_eq (by decide) rfl) rfl (fun ls hl => ?_)
  refine lv_bipush (v := 65) hx hb dX8_countTags_2 rfl ?_
  refine lv_istore_n (lv' := [(2, .int 65), (1, .int 0), (0, .ref (ad 0))]) hx hb dX8_countTags_4 rfl hl (Nat.lt_of_lt_of_eq (by decide) rfl) rfl (fun ls hl => ?_)
  have L5 : ∀ (n5 : Nat) (V5 : Mem) (x1_5 : Int32) (x2_5 : Int32) (H : Heap) (locs : List Loc) (ls : Array Slot), f_X8_countTags_L5 n5 V5 x1_5 x2_5 = some (r, Vz) → In E ad V5 s H locs → lv_has ls 3 [(0, .ref (ad 0)), (1, .int x1_5), (2, .int x2_5)] → W p l e (rmd 3) s m ([.ref (ad 0)] : List Value).toArray below meth c H locs 0 0 (MQ below (QR E ad (some (.int r)) Vz) ([.ref (ad 0)] : List Value).toArray s 0 0 (ours E)) (F0 m 5 ls []) := by
    intro n5
    induction n5 with
    | zero => intro V5 x1_5 x2_5 H locs ls hf hI hl; cases hf
    | succ n5 ih5 =>
      intro V5 x1_5 x2_5 H locs ls hf hI hl
      rw [f_X8_countTags_L5.eq_2] at hf
      refine lv_iload_n hx hb dX8_countTags_5 rfl (lv_at hl 2 rfl) ?_
      refine lv_bipush (v := 90) hx hb dX8_countTags_6 rfl ?_
      refine lv_icmp_gt (tgt := 29) hx hb dX8_countTags_8 (by decide) (fun c8 => ?_) (fun c8 => ?_)
      · have hf := gt hf c8
        refine lv_iload_n hx hb dX8_countTags_29 rfl (lv_at hl 1 rfl) ?_
        exact r_iret2 hC hI hf dX8_countTags_30
      · have hf := gf hf c8
        refine lv_aload_n hx hb dX8_countTags_11 rfl (lv_at hl 0 rfl) ?_
        refine lv_iload_n hx hb dX8_countTags_12 rfl (lv_at hl 2 rfl) ?_
        obtain ⟨r13, V13, q13, hf⟩ := gbd hf
        refine k_X8_revisionWithTag hC hI hl.1 q13 tw_2_84 ⟨Nat.le_of_ble_eq_true rfl, Nat.le_of_ble_eq_true rfl⟩ ⟨Nat.le_refl _, Nat.le_refl _⟩ (Nat.le_of_ble_eq_true rfl) dX8_countTags_13 (fun H locs hI => ?_)
        refine lv_iconst (v := (-1)) hx hb dX8_countTags_16 rfl ?_
        obtain ⟨j23, hj23, hf⟩ := gj hf
        have J23 : ∀ (V23 : Mem) (x1_23 : Int32) (H : Heap) (locs : List Loc) (ls : Array Slot), j23 V23 x1_23 = some (r, Vz) → In E ad V23 s H locs → lv_has ls 3 [(0, .ref (ad 0)), (1, .int x1_23), (2, .int x2_5)] → W p l e (rmd 3) s m ([.ref (ad 0)] : List Value).toArray below meth c H locs 0 0 (MQ below (QR E ad (some (.int r)) Vz) ([.ref (ad 0)] : List Value).toArray s 0 0 (ours E)) (F0 m 23 ls []) := by
          intro V23 x1_23 H locs ls hf hI hl
          rw [hj23] at hf
          dsimp only at hf
          refine lv_iinc (v := (x2_5 + 1)) (lv' := [(2, .int (x2_5 + 1)), (0, .ref (ad 0)), (1, .int x1_23)]) hx hb dX8_countTags_23 hl (k := 2) rfl rfl (Nat.lt_of_lt_of_eq (by decide) rfl) rfl (fun ls hl => ?_)
          refine lv_goto (tgt := 5) hx hb dX8_countTags_26 (by decide) ?_
          exact ih5 _ _ _ _ _ _ hf hI (lv_sub hl [1, 2, 0] rfl)
        refine lv_icmp_eq (tgt := 23) hx hb dX8_countTags_17 (by decide) (fun c17 => ?_) (fun c17 => ?_)
        · have hf := gt hf c17
          exact J23 _ _ _ _ _ hf hI (lv_sub hl [0, 1, 2] rfl)
        · have hf := gf hf c17
          refine lv_iinc (v := (x1_5 + 1)) (lv' := [(1, .int (x1_5 + 1)), (0, .ref (ad 0)), (2, .int x2_5)]) hx hb dX8_countTags_20 hl (k := 1) rfl rfl (Nat.lt_of_lt_of_eq (by decide) rfl) rfl (fun ls hl => ?_)
          exact J23 _ _ _ _ _ hf hI (lv_sub hl [1, 0, 2] rfl)
  exact L5 _ _ _ _ _ _ _ hf hI (lv_sub hl [2, 1, 0] rfl)
theorem k_X8_countTags {p : Program} {l : Launch} {e : Env} {R : Room} {cells slots : Nat} {s : State} {m : MethodId} {args : Array Value} {below : List Frame} {meth : Method} {c : Code} {H : Heap} {locs : List Loc} {Q : State → Prop} {E : En} {ad : Nat → Nat} {V : Mem} {ow : String} {b : ByteArray} {n : Nat} {ret : Option FieldType} {pc index : Nat} {ls : Array Slot} {rest : List Value} {r : Int32} {V1 : Mem} (hC : Cx p s m args c meth E ow b n ret) (hI : In E ad V s H locs) (hsz : ls.size = n) (hf : f_X8_countTags V = some (r, V1)) (hl : Cond.methodLink ow index yX8_countTags ∈ TB) (hR : 3 + 1 ≤ R.frames ∧ 8 + (3 + 11) + 40 * 3 ≤ R.locals) (hcs : cells ≤ R.cells ∧ slots ≤ R.slots) (hw : (rest.map fun v => v.category).sum ≤ 8) (hdg : decode b pc = .ok (.invokevirtual index, 3)) (kk : ∀ (H1 : Heap) (locs1 : List Loc), In E ad V1 s H1 locs1 → W p l e R s m args below meth c H1 locs1 cells slots Q (F0 m (pc + 3) ls ((.int r) :: rest))) : W p l e R s m args below meth c H locs cells slots Q (F0 m pc ls (.ref (ad 0) :: rest)) :=
  r_calV (As := []) (rest := rest) hC hI hsz (m_X8_countTags l E ad V r _ hf) cv_X8_countTags hl (by decide) (ce_0 _) rfl rfl rfl hR hcs hw hdg kk

theorem dX8_firstTagOf_0 : decode cX8_firstTagOf 0 = .ok (.bipush 65, 2) := by decide +kernel
theorem dX8_firstTagOf_2 : decode cX8_firstTagOf 2 = .ok (.istore_n 2, 1) := by decide +kernel
theorem dX8_firstTagOf_3 : decode cX8_firstTagOf 3 = .ok (.iload_n 2, 1) := by decide +kernel
theorem dX8_firstTagOf_4 : decode cX8_firstTagOf 4 = .ok (.bipush 90, 2) := by decide +kernel
theorem dX8_firstTagOf_6 : decode cX8_firstTagOf 6 = .ok (.if_icmp .gt 20, 3) := by decide +kernel
theorem dX8_firstTagOf_9 : decode cX8_firstTagOf 9 = .ok (.aload_n 0, 1) := by decide +kernel
theorem dX8_firstTagOf_10 : decode cX8_firstTagOf 10 = .ok (.iload_n 2, 1) := by decide +kernel
theorem dX8_firstTagOf_11 : decode cX8_firstTagOf 11 = .ok (.invokevirtual 160, 3) := by decide +kernel
theorem dX8_firstTagOf_14 : decode cX8_firstTagOf 14 = .ok (.iload_n 1, 1) := by decide +kernel
theorem dX8_firstTagOf_15 : decode cX8_firstTagOf 15 = .ok (.if_icmp .ne 5, 3) := by decide +kernel
theorem dX8_firstTagOf_18 : decode cX8_firstTagOf 18 = .ok (.iload_n 2, 1) := by decide +kernel
theorem dX8_firstTagOf_19 : decode cX8_firstTagOf 19 = .ok (.ireturn, 1) := by decide +kernel
theorem dX8_firstTagOf_20 : decode cX8_firstTagOf 20 = .ok (.iinc 2 1, 3) := by decide +kernel
theorem dX8_firstTagOf_23 : decode cX8_firstTagOf 23 = .ok (.goto (-20), 3) := by decide +kernel
theorem dX8_firstTagOf_26 : decode cX8_firstTagOf 26 = .ok (.iconst (-1), 1) := by decide +kernel
theorem dX8_firstTagOf_27 : decode cX8_firstTagOf 27 = .ok (.ireturn, 1) := by decide +kernel
def f_X8_firstTagOf_L3 (a1 : Int32) : Nat → Mem → Int32 → Option (Int32 × Mem)
  | 0, _, _ => none
  | n3 + 1, V3, x2_3 =>
    if 90 < x2_3 then
      some ((-1), V3)
    else
      bd (f_X8_revisionWithTag V3 x2_3) fun r11 V11 =>
      if r11 = a1 then
        some (x2_3, V11)
      else
        (f_X8_firstTagOf_L3 a1 n3) V11 (x2_3 + 1)
def f_X8_firstTagOf (V : Mem) (a1 : Int32) : Option (Int32 × Mem) :=
  f_X8_firstTagOf_L3 a1 FU V 65
theorem cv_X8_firstTagOf : CalV yX8_firstTagOf cX8_firstTagOf 3 (some .int) 1 := ⟨⟨⟨by decide +kernel, by decide +kernel⟩, tw_1_2, tw_5_146, by decide +kernel⟩, tw_5_144, tw_5_145⟩
set_option maxRecDepth 100000 in
set_option maxHeartbeats 4000000 in
theorem m_X8_firstTagOf (l : Launch) (E : En) (ad : Nat → Nat) (V : Mem) (a1 : Int32) (r : Int32) (Vz : Mem) (hf : f_X8_firstTagOf V a1 = some (r, Vz)) : MR l E ad yX8_firstTagOf cX8_firstTagOf 3 (some .int) 3 [.ref (ad 0), .int a1] V (some (.int r)) Vz := by
  refine ent (E := E) (ad := ad) (V := V) "LetterRepository$Store" (by decide +kernel) rfl (Nat.le_of_ble_eq_true rfl) ?_
  intro p e s m below meth c ls hC hI hl
  have hx := hC.1
  have hb := hC.2.1
  have hl : lv_has ls 3 [(0, .ref (ad 0)), (1, .int a1)] := hl
  unfold f_X8_firstTagOf at hf
  refine lv_bipush (v := 65) hx hb dX8_firstTagOf_0 rfl ?_
  refine lv_istore_n (lv' := [(2, .int 65), (0, .ref (ad 0)), (1, .int a1)]) hx hb dX8_firstTagOf_2 rfl hl (Nat.lt_of_lt_of_eq (by decide) rfl) rfl (fun ls hl => ?_)
  have L3 : ∀ (n3 : Nat) (V3 : Mem) (x2_3 : Int32) (H : Heap) (locs : List Loc) (ls : Array Slot), f_X8_firstTagOf_L3 a1 n3 V3 x2_3 = some (r, Vz) → In E ad V3 s H locs → lv_has ls 3 [(0, .ref (ad 0)), (1, .int a1), (2, .int x2_3)] → W p l e (rmd 3) s m ([.ref (ad 0), .int a1] : List Value).toArray below meth c H locs 0 0 (MQ below (QR E ad (some (.int r)) Vz) ([.ref (ad 0), .int a1] : List Value).toArray s 0 0 (ours E)) (F0 m 3 ls []) := by
    intro n3
    induction n3 with
    | zero => intro V3 x2_3 H locs ls hf hI hl; cases hf
    | succ n3 ih3 =>
      intro V3 x2_3 H locs ls hf hI hl
      rw [f_X8_firstTagOf_L3.eq_2] at hf
      refine lv_iload_n hx hb dX8_firstTagOf_3 rfl (lv_at hl 2 rfl) ?_
      refine lv_bipush (v := 90) hx hb dX8_firstTagOf_4 rfl ?_
      refine lv_icmp_gt (tgt := 26) hx hb dX8_firstTagOf_6 (by decide) (fun c6 => ?_) (fun c6 => ?_)
      · have hf := gt hf c6
        refine lv_iconst (v := (-1)) hx hb dX8_firstTagOf_26 rfl ?_
        exact r_iret2 hC hI hf dX8_firstTagOf_27
      · have hf := gf hf c6
        refine lv_aload_n hx hb dX8_firstTagOf_9 rfl (lv_at hl 0 rfl) ?_
        refine lv_iload_n hx hb dX8_firstTagOf_10 rfl (lv_at hl 2 rfl) ?_
        obtain ⟨r11, V11, q11, hf⟩ := gbd hf
        refine k_X8_revisionWithTag hC hI hl.1 q11 tw_2_84 ⟨Nat.le_of_ble_eq_true rfl, Nat.le_of_ble_eq_true rfl⟩ ⟨Nat.le_refl _, Nat.le_refl _⟩ (Nat.le_of_ble_eq_true rfl) dX8_firstTagOf_11 (fun H locs hI => ?_)
        refine lv_iload_n hx hb dX8_firstTagOf_14 rfl (lv_at hl 1 rfl) ?_
        refine lv_icmp_ne (tgt := 20) hx hb dX8_firstTagOf_15 (by decide) (fun c15 => ?_) (fun c15 => ?_)
        · have hf := gf hf c15
          refine lv_iinc (v := (x2_3 + 1)) (lv' := [(2, .int (x2_3 + 1)), (0, .ref (ad 0)), (1, .int a1)]) hx hb dX8_firstTagOf_20 hl (k := 2) rfl rfl (Nat.lt_of_lt_of_eq (by decide) rfl) rfl (fun ls hl => ?_)
          refine lv_goto (tgt := 3) hx hb dX8_firstTagOf_23 (by decide) ?_
          exact ih3 _ _ _ _ _ hf hI (lv_sub hl [1, 2, 0] rfl)
        · have hf := gt hf c15
          refine lv_iload_n hx hb dX8_firstTagOf_18 rfl (lv_at hl 2 rfl) ?_
          exact r_iret2 hC hI hf dX8_firstTagOf_19
  exact L3 _ _ _ _ _ _ hf hI (lv_sub hl [1, 2, 0] rfl)
theorem k_X8_firstTagOf {p : Program} {l : Launch} {e : Env} {R : Room} {cells slots : Nat} {s : State} {m : MethodId} {args : Array Value} {below : List Frame} {meth : Method} {c : Code} {H : Heap} {locs : List Loc} {Q : State → Prop} {E : En} {ad : Nat → Nat} {V : Mem} {ow : String} {b : ByteArray} {n : Nat} {ret : Option FieldType} {pc index : Nat} {ls : Array Slot} {rest : List Value} {a1 : Int32} {r : Int32} {V1 : Mem} (hC : Cx p s m args c meth E ow b n ret) (hI : In E ad V s H locs) (hsz : ls.size = n) (hf : f_X8_firstTagOf V a1 = some (r, V1)) (hl : Cond.methodLink ow index yX8_firstTagOf ∈ TB) (hR : 3 + 1 ≤ R.frames ∧ 8 + (3 + 11) + 40 * 3 ≤ R.locals) (hcs : cells ≤ R.cells ∧ slots ≤ R.slots) (hw : (rest.map fun v => v.category).sum ≤ 8) (hdg : decode b pc = .ok (.invokevirtual index, 3)) (kk : ∀ (H1 : Heap) (locs1 : List Loc), In E ad V1 s H1 locs1 → W p l e R s m args below meth c H1 locs1 cells slots Q (F0 m (pc + 3) ls ((.int r) :: rest))) : W p l e R s m args below meth c H locs cells slots Q (F0 m pc ls (.int a1 :: .ref (ad 0) :: rest)) :=
  r_calV (As := [.int a1]) (rest := rest) hC hI hsz (m_X8_firstTagOf l E ad V a1 r _ hf) cv_X8_firstTagOf hl (by decide) (ce_0 _) rfl rfl rfl hR hcs hw hdg kk

theorem dX8_refusalOfTag_0 : decode cX8_refusalOfTag 0 = .ok (.iload_n 1, 1) := by decide +kernel
theorem dX8_refusalOfTag_1 : decode cX8_refusalOfTag 1 = .ok (.invokestatic 163, 3) := by decide +kernel
theorem dX8_refusalOfTag_4 : decode cX8_refusalOfTag 4 = .ok (.ifCond .ne 7, 3) := by decide +kernel
theorem dX8_refusalOfTag_7 : decode cX8_refusalOfTag 7 = .ok (.getstatic 94, 3) := by decide +kernel
theorem dX8_refusalOfTag_10 : decode cX8_refusalOfTag 10 = .ok (.areturn, 1) := by decide +kernel
theorem dX8_refusalOfTag_11 : decode cX8_refusalOfTag 11 = .ok (.aload_n 0, 1) := by decide +kernel
theorem dX8_refusalOfTag_12 : decode cX8_refusalOfTag 12 = .ok (.getfield 12, 3) := by decide +kernel
theorem dX8_refusalOfTag_15 : decode cX8_refusalOfTag 15 = .ok (.iload_n 2, 1) := by decide +kernel
theorem dX8_refusalOfTag_16 : decode cX8_refusalOfTag 16 = .ok (.invokevirtual 120, 3) := by decide +kernel
theorem dX8_refusalOfTag_19 : decode cX8_refusalOfTag 19 = .ok (.ifCond .ne 7, 3) := by decide +kernel
theorem dX8_refusalOfTag_22 : decode cX8_refusalOfTag 22 = .ok (.getstatic 123, 3) := by decide +kernel
theorem dX8_refusalOfTag_25 : decode cX8_refusalOfTag 25 = .ok (.areturn, 1) := by decide +kernel
theorem dX8_refusalOfTag_26 : decode cX8_refusalOfTag 26 = .ok (.aload_n 0, 1) := by decide +kernel
theorem dX8_refusalOfTag_27 : decode cX8_refusalOfTag 27 = .ok (.iload_n 1, 1) := by decide +kernel
theorem dX8_refusalOfTag_28 : decode cX8_refusalOfTag 28 = .ok (.invokevirtual 160, 3) := by decide +kernel
theorem dX8_refusalOfTag_31 : decode cX8_refusalOfTag 31 = .ok (.iconst (-1), 1) := by decide +kernel
theorem dX8_refusalOfTag_32 : decode cX8_refusalOfTag 32 = .ok (.if_icmp .ne 9, 3) := by decide +kernel
theorem dX8_refusalOfTag_35 : decode cX8_refusalOfTag 35 = .ok (.getstatic 91, 3) := by decide +kernel
theorem dX8_refusalOfTag_38 : decode cX8_refusalOfTag 38 = .ok (.goto 6, 3) := by decide +kernel
theorem dX8_refusalOfTag_41 : decode cX8_refusalOfTag 41 = .ok (.getstatic 110, 3) := by decide +kernel
theorem dX8_refusalOfTag_44 : decode cX8_refusalOfTag 44 = .ok (.areturn, 1) := by decide +kernel
def f_X8_refusalOfTag (V : Mem) (a1 : Int32) (a2 : Int32) : Option (Nat × Mem) :=
  bd (f_X9_isCapital V a1) fun r1 V1 =>
  if r1 = 0 then
    some (2, V1)
  else
    bd (f_X6_isOpen V1 a2) fun r16 V16 =>
    if r16 = 0 then
      some (3, V16)
    else
      bd (f_X8_revisionWithTag V16 a1) fun r28 V28 =>
      if r28 = (-1) then
        some (0, V28)
      else
        some (4, V28)
theorem cv_X8_refusalOfTag : CalV yX8_refusalOfTag cX8_refusalOfTag 3 (some (.object "LetterRepository$Refusal")) 2 := ⟨⟨⟨by decide +kernel, by decide +kernel⟩, tw_1_2, tw_4_96, by decide +kernel⟩, tw_4_94, tw_4_95⟩
set_option maxRecDepth 100000 in
set_option maxHeartbeats 4000000 in
theorem m_X8_refusalOfTag (l : Launch) (E : En) (ad : Nat → Nat) (V : Mem) (a1 : Int32) (a2 : Int32) (hS : SF E) (r : Nat) (Vz : Mem) (hf : f_X8_refusalOfTag V a1 a2 = some (r, Vz)) : MR l E ad yX8_refusalOfTag cX8_refusalOfTag 3 (some (.object "LetterRepository$Refusal")) 5 [.ref (ad 0), .int a1, .int a2] V (some (.ref (eR E r))) Vz := by
  refine ent (E := E) (ad := ad) (V := V) "LetterRepository$Store" (by decide +kernel) rfl (Nat.le_of_ble_eq_true rfl) ?_
  intro p e s m below meth c ls hC hI hl
  have hx := hC.1
  have hb := hC.2.1
  have hl : lv_has ls 3 [(0, .ref (ad 0)), (1, .int a1), (2, .int a2)] := hl
  unfold f_X8_refusalOfTag at hf
  refine lv_iload_n hx hb dX8_refusalOfTag_0 rfl (lv_at hl 1 rfl) ?_
  obtain ⟨r1, V1, q1, hf⟩ := gbd hf
  refine kN_X9_isCapital hC hI hl.1 q1 tw_4_97 ⟨Nat.le_of_ble_eq_true rfl, Nat.le_of_ble_eq_true rfl⟩ ⟨Nat.le_refl _, Nat.le_refl _⟩ (Nat.le_of_ble_eq_true rfl) dX8_refusalOfTag_1 (fun H locs hI => ?_)
  refine lv_if_ne (tgt := 11) hx hb dX8_refusalOfTag_4 (by decide) (fun c4 => ?_) (fun c4 => ?_)
  · have hf := gf hf c4
    refine lv_aload_n hx hb dX8_refusalOfTag_11 rfl (lv_at hl 0 rfl) ?_
    refine g_0_revisions hC hI tw_1_99 dX8_refusalOfTag_12 ?_
    refine lv_iload_n hx hb dX8_refusalOfTag_15 rfl (lv_at hl 2 rfl) ?_
    obtain ⟨r16, V16, q16, hf⟩ := gbd hf
    refine k_X6_isOpen hC hI hl.1 q16 tw_3_218 ⟨Nat.le_of_ble_eq_true rfl, Nat.le_of_ble_eq_true rfl⟩ ⟨Nat.le_refl _, Nat.le_refl _⟩ (Nat.le_of_ble_eq_true rfl) dX8_refusalOfTag_16 (fun H locs hI => ?_)
    refine lv_if_ne (tgt := 26) hx hb dX8_refusalOfTag_19 (by decide) (fun c19 => ?_) (fun c19 => ?_)
    · have hf := gf hf c19
      refine lv_aload_n hx hb dX8_refusalOfTag_26 rfl (lv_at hl 0 rfl) ?_
      refine lv_iload_n hx hb dX8_refusalOfTag_27 rfl (lv_at hl 1 rfl) ?_
      obtain ⟨r28, V28, q28, hf⟩ := gbd hf
      refine k_X8_revisionWithTag hC hI hl.1 q28 tw_2_84 ⟨Nat.le_of_ble_eq_true rfl, Nat.le_of_ble_eq_true rfl⟩ ⟨Nat.le_refl _, Nat.le_refl _⟩ (Nat.le_of_ble_eq_true rfl) dX8_refusalOfTag_28 (fun H locs hI => ?_)
      refine lv_iconst (v := (-1)) hx hb dX8_refusalOfTag_31 rfl ?_
      refine lv_icmp_ne (tgt := 41) hx hb dX8_refusalOfTag_32 (by decide) (fun c32 => ?_) (fun c32 => ?_)
      · have hf := gf hf c32
        refine r_gsR 4 hS hC hI (by decide) tw_3_189 dX8_refusalOfTag_41 ?_
        exact r_aretE hC hI hf dX8_refusalOfTag_44
      · have hf := gt hf c32
        refine r_gsR 0 hS hC hI (by decide) tw_2_235 dX8_refusalOfTag_35 ?_
        refine lv_goto (tgt := 44) hx hb dX8_refusalOfTag_38 (by decide) ?_
        exact r_aretE hC hI hf dX8_refusalOfTag_44
    · have hf := gt hf c19
      refine r_gsR 3 hS hC hI (by decide) tw_3_226 dX8_refusalOfTag_22 ?_
      exact r_aretE hC hI hf dX8_refusalOfTag_25
  · have hf := gt hf c4
    refine r_gsR 2 hS hC hI (by decide) tw_2_237 dX8_refusalOfTag_7 ?_
    exact r_aretE hC hI hf dX8_refusalOfTag_10
theorem k_X8_refusalOfTag {p : Program} {l : Launch} {e : Env} {R : Room} {cells slots : Nat} {s : State} {m : MethodId} {args : Array Value} {below : List Frame} {meth : Method} {c : Code} {H : Heap} {locs : List Loc} {Q : State → Prop} {E : En} {ad : Nat → Nat} {V : Mem} {ow : String} {b : ByteArray} {n : Nat} {ret : Option FieldType} {pc index : Nat} {ls : Array Slot} {rest : List Value} {a1 : Int32} {a2 : Int32} {r : Nat} {V1 : Mem} (hS : SF E) (hC : Cx p s m args c meth E ow b n ret) (hI : In E ad V s H locs) (hsz : ls.size = n) (hf : f_X8_refusalOfTag V a1 a2 = some (r, V1)) (hl : Cond.methodLink ow index yX8_refusalOfTag ∈ TB) (hR : 5 + 1 ≤ R.frames ∧ 8 + (3 + 11) + 40 * 5 ≤ R.locals) (hcs : cells ≤ R.cells ∧ slots ≤ R.slots) (hw : (rest.map fun v => v.category).sum ≤ 8) (hdg : decode b pc = .ok (.invokevirtual index, 3)) (kk : ∀ (H1 : Heap) (locs1 : List Loc), In E ad V1 s H1 locs1 → W p l e R s m args below meth c H1 locs1 cells slots Q (F0 m (pc + 3) ls ((.ref (eR E r)) :: rest))) : W p l e R s m args below meth c H locs cells slots Q (F0 m pc ls (.int a2 :: .int a1 :: .ref (ad 0) :: rest)) :=
  r_calV (As := [.int a1, .int a2]) (rest := rest) hC hI hsz (m_X8_refusalOfTag l E ad V a1 a2 hS r _ hf) cv_X8_refusalOfTag hl (by decide) (ce_0 _) rfl rfl rfl hR hcs hw hdg kk

theorem dX8_putTag_0 : decode cX8_putTag 0 = .ok (.aload_n 0, 1) := by decide +kernel
theorem dX8_putTag_1 : decode cX8_putTag 1 = .ok (.getfield 30, 3) := by decide +kernel
theorem dX8_putTag_4 : decode cX8_putTag 4 = .ok (.iload_n 1, 1) := by decide +kernel
theorem dX8_putTag_5 : decode cX8_putTag 5 = .ok (.bipush 65, 2) := by decide +kernel
theorem dX8_putTag_7 : decode cX8_putTag 7 = .ok (.isub, 1) := by decide +kernel
theorem dX8_putTag_8 : decode cX8_putTag 8 = .ok (.iload_n 2, 1) := by decide +kernel
theorem dX8_putTag_9 : decode cX8_putTag 9 = .ok (.invokevirtual 48, 3) := by decide +kernel
theorem dX8_putTag_12 : decode cX8_putTag 12 = .ok (.aload_n 0, 1) := by decide +kernel
theorem dX8_putTag_13 : decode cX8_putTag 13 = .ok (.invokevirtual 166, 3) := by decide +kernel
theorem dX8_putTag_16 : decode cX8_putTag 16 = .ok (.ireturn, 1) := by decide +kernel
def f_X8_putTag (V : Mem) (a1 : Int32) (a2 : Int32) : Option (Int32 × Mem) :=
  bv (f_X7_set V 18 26 (a1 - 65) a2) fun V9 =>
  bd (f_X8_countTags V9) fun r13 V13 =>
  some (r13, V13)
theorem cv_X8_putTag : CalV yX8_putTag cX8_putTag 3 (some .int) 2 := ⟨⟨⟨by decide +kernel, by decide +kernel⟩, tw_1_2, tw_4_103, by decide +kernel⟩, tw_4_101, tw_4_102⟩
set_option maxRecDepth 100000 in
set_option maxHeartbeats 4000000 in
theorem m_X8_putTag (l : Launch) (E : En) (ad : Nat → Nat) (V : Mem) (a1 : Int32) (a2 : Int32) (r : Int32) (Vz : Mem) (hf : f_X8_putTag V a1 a2 = some (r, Vz)) : MR l E ad yX8_putTag cX8_putTag 3 (some .int) 4 [.ref (ad 0), .int a1, .int a2] V (some (.int r)) Vz := by
  refine ent (E := E) (ad := ad) (V := V) "LetterRepository$Store" (by decide +kernel) rfl (Nat.le_of_ble_eq_true rfl) ?_
  intro p e s m below meth c ls hC hI hl
  have hx := hC.1
  have hb := hC.2.1
  have hl : lv_has ls 3 [(0, .ref (ad 0)), (1, .int a1), (2, .int a2)] := hl
  unfold f_X8_putTag at hf
  refine lv_aload_n hx hb dX8_putTag_0 rfl (lv_at hl 0 rfl) ?_
  refine g_0_tags hC hI tw_1_103 dX8_putTag_1 ?_
  refine lv_iload_n hx hb dX8_putTag_4 rfl (lv_at hl 1 rfl) ?_
  refine lv_bipush (v := 65) hx hb dX8_putTag_5 rfl ?_
  refine lv_isub hx hb dX8_putTag_7 ?_
  refine lv_iload_n hx hb dX8_putTag_8 rfl (lv_at hl 2 rfl) ?_
  obtain ⟨V9, q9, hf⟩ := gbv hf
  refine k_X7_set row_18 hC hI hl.1 q9 tw_3_134 ⟨Nat.le_of_ble_eq_true rfl, Nat.le_of_ble_eq_true rfl⟩ ⟨Nat.le_refl _, Nat.le_refl _⟩ (Nat.le_of_ble_eq_true rfl) dX8_putTag_9 (fun H locs hI => ?_)
  refine lv_aload_n hx hb dX8_putTag_12 rfl (lv_at hl 0 rfl) ?_
  obtain ⟨r13, V13, q13, hf⟩ := gbd hf
  refine k_X8_countTags hC hI hl.1 q13 tw_4_104 ⟨Nat.le_of_ble_eq_true rfl, Nat.le_of_ble_eq_true rfl⟩ ⟨Nat.le_refl _, Nat.le_refl _⟩ (Nat.le_of_ble_eq_true rfl) dX8_putTag_13 (fun H locs hI => ?_)
  exact r_iret2 hC hI hf dX8_putTag_16
theorem k_X8_putTag {p : Program} {l : Launch} {e : Env} {R : Room} {cells slots : Nat} {s : State} {m : MethodId} {args : Array Value} {below : List Frame} {meth : Method} {c : Code} {H : Heap} {locs : List Loc} {Q : State → Prop} {E : En} {ad : Nat → Nat} {V : Mem} {ow : String} {b : ByteArray} {n : Nat} {ret : Option FieldType} {pc index : Nat} {ls : Array Slot} {rest : List Value} {a1 : Int32} {a2 : Int32} {r : Int32} {V1 : Mem} (hC : Cx p s m args c meth E ow b n ret) (hI : In E ad V s H locs) (hsz : ls.size = n) (hf : f_X8_putTag V a1 a2 = some (r, V1)) (hl : Cond.methodLink ow index yX8_putTag ∈ TB) (hR : 4 + 1 ≤ R.frames ∧ 8 + (3 + 11) + 40 * 4 ≤ R.locals) (hcs : cells ≤ R.cells ∧ slots ≤ R.slots) (hw : (rest.map fun v => v.category).sum ≤ 8) (hdg : decode b pc = .ok (.invokevirtual index, 3)) (kk : ∀ (H1 : Heap) (locs1 : List Loc), In E ad V1 s H1 locs1 → W p l e R s m args below meth c H1 locs1 cells slots Q (F0 m (pc + 3) ls ((.int r) :: rest))) : W p l e R s m args below meth c H locs cells slots Q (F0 m pc ls (.int a2 :: .int a1 :: .ref (ad 0) :: rest)) :=
  r_calV (As := [.int a1, .int a2]) (rest := rest) hC hI hsz (m_X8_putTag l E ad V a1 a2 r _ hf) cv_X8_putTag hl (by decide) (ce_0 _) rfl rfl rfl hR hcs hw hdg kk

theorem dX8_refusalOfUntag_0 : decode cX8_refusalOfUntag 0 = .ok (.aload_n 0, 1) := by decide +kernel
theorem dX8_refusalOfUntag_1 : decode cX8_refusalOfUntag 1 = .ok (.iload_n 1, 1) := by decide +kernel
theorem dX8_refusalOfUntag_2 : decode cX8_refusalOfUntag 2 = .ok (.invokevirtual 160, 3) := by decide +kernel
theorem dX8_refusalOfUntag_5 : decode cX8_refusalOfUntag 5 = .ok (.iconst (-1), 1) := by decide +kernel
theorem dX8_refusalOfUntag_6 : decode cX8_refusalOfUntag 6 = .ok (.if_icmp .ne 9, 3) := by decide +kernel
theorem dX8_refusalOfUntag_9 : decode cX8_refusalOfUntag 9 = .ok (.getstatic 123, 3) := by decide +kernel
theorem dX8_refusalOfUntag_12 : decode cX8_refusalOfUntag 12 = .ok (.goto 6, 3) := by decide +kernel
theorem dX8_refusalOfUntag_15 : decode cX8_refusalOfUntag 15 = .ok (.getstatic 91, 3) := by decide +kernel
theorem dX8_refusalOfUntag_18 : decode cX8_refusalOfUntag 18 = .ok (.areturn, 1) := by decide +kernel
def f_X8_refusalOfUntag (V : Mem) (a1 : Int32) : Option (Nat × Mem) :=
  bd (f_X8_revisionWithTag V a1) fun r2 V2 =>
  if r2 = (-1) then
    some (3, V2)
  else
    some (0, V2)
theorem cv_X8_refusalOfUntag : CalV yX8_refusalOfUntag cX8_refusalOfUntag 2 (some (.object "LetterRepository$Refusal")) 1 := ⟨⟨⟨by decide +kernel, by decide +kernel⟩, tw_1_2, tw_4_115, by decide +kernel⟩, tw_4_113, tw_4_114⟩
set_option maxRecDepth 100000 in
set_option maxHeartbeats 4000000 in
theorem m_X8_refusalOfUntag (l : Launch) (E : En) (ad : Nat → Nat) (V : Mem) (a1 : Int32) (hS : SF E) (r : Nat) (Vz : Mem) (hf : f_X8_refusalOfUntag V a1 = some (r, Vz)) : MR l E ad yX8_refusalOfUntag cX8_refusalOfUntag 2 (some (.object "LetterRepository$Refusal")) 3 [.ref (ad 0), .int a1] V (some (.ref (eR E r))) Vz := by
  refine ent (E := E) (ad := ad) (V := V) "LetterRepository$Store" (by decide +kernel) rfl (Nat.le_of_ble_eq_true rfl) ?_
  intro p e s m below meth c ls hC hI hl
  have hx := hC.1
  have hb := hC.2.1
  have hl : lv_has ls 2 [(0, .ref (ad 0)), (1, .int a1)] := hl
  unfold f_X8_refusalOfUntag at hf
  refine lv_aload_n hx hb dX8_refusalOfUntag_0 rfl (lv_at hl 0 rfl) ?_
  refine lv_iload_n hx hb dX8_refusalOfUntag_1 rfl (lv_at hl 1 rfl) ?_
  obtain ⟨r2, V2, q2, hf⟩ := gbd hf
  refine k_X8_revisionWithTag hC hI hl.1 q2 tw_2_84 ⟨Nat.le_of_ble_eq_true rfl, Nat.le_of_ble_eq_true rfl⟩ ⟨Nat.le_refl _, Nat.le_refl _⟩ (Nat.le_of_ble_eq_true rfl) dX8_refusalOfUntag_2 (fun H locs hI => ?_)
  refine lv_iconst (v := (-1)) hx hb dX8_refusalOfUntag_5 rfl ?_
  refine lv_icmp_ne (tgt := 15) hx hb dX8_refusalOfUntag_6 (by decide) (fun c6 => ?_) (fun c6 => ?_)
  · have hf := gf hf c6
    refine r_gsR 0 hS hC hI (by decide) tw_2_235 dX8_refusalOfUntag_15 ?_
    exact r_aretE hC hI hf dX8_refusalOfUntag_18
  · have hf := gt hf c6
    refine r_gsR 3 hS hC hI (by decide) tw_3_226 dX8_refusalOfUntag_9 ?_
    refine lv_goto (tgt := 18) hx hb dX8_refusalOfUntag_12 (by decide) ?_
    exact r_aretE hC hI hf dX8_refusalOfUntag_18
theorem k_X8_refusalOfUntag {p : Program} {l : Launch} {e : Env} {R : Room} {cells slots : Nat} {s : State} {m : MethodId} {args : Array Value} {below : List Frame} {meth : Method} {c : Code} {H : Heap} {locs : List Loc} {Q : State → Prop} {E : En} {ad : Nat → Nat} {V : Mem} {ow : String} {b : ByteArray} {n : Nat} {ret : Option FieldType} {pc index : Nat} {ls : Array Slot} {rest : List Value} {a1 : Int32} {r : Nat} {V1 : Mem} (hS : SF E) (hC : Cx p s m args c meth E ow b n ret) (hI : In E ad V s H locs) (hsz : ls.size = n) (hf : f_X8_refusalOfUntag V a1 = some (r, V1)) (hl : Cond.methodLink ow index yX8_refusalOfUntag ∈ TB) (hR : 3 + 1 ≤ R.frames ∧ 8 + (2 + 11) + 40 * 3 ≤ R.locals) (hcs : cells ≤ R.cells ∧ slots ≤ R.slots) (hw : (rest.map fun v => v.category).sum ≤ 8) (hdg : decode b pc = .ok (.invokevirtual index, 3)) (kk : ∀ (H1 : Heap) (locs1 : List Loc), In E ad V1 s H1 locs1 → W p l e R s m args below meth c H1 locs1 cells slots Q (F0 m (pc + 3) ls ((.ref (eR E r)) :: rest))) : W p l e R s m args below meth c H locs cells slots Q (F0 m pc ls (.int a1 :: .ref (ad 0) :: rest)) :=
  r_calV (As := [.int a1]) (rest := rest) hC hI hsz (m_X8_refusalOfUntag l E ad V a1 hS r _ hf) cv_X8_refusalOfUntag hl (by decide) (ce_0 _) rfl rfl rfl hR hcs hw hdg kk

theorem dX8_takeTag_0 : decode cX8_takeTag 0 = .ok (.aload_n 0, 1) := by decide +kernel
theorem dX8_takeTag_1 : decode cX8_takeTag 1 = .ok (.iload_n 1, 1) := by decide +kernel
theorem dX8_takeTag_2 : decode cX8_takeTag 2 = .ok (.invokevirtual 160, 3) := by decide +kernel
theorem dX8_takeTag_5 : decode cX8_takeTag 5 = .ok (.istore_n 2, 1) := by decide +kernel
theorem dX8_takeTag_6 : decode cX8_takeTag 6 = .ok (.aload_n 0, 1) := by decide +kernel
theorem dX8_takeTag_7 : decode cX8_takeTag 7 = .ok (.getfield 30, 3) := by decide +kernel
theorem dX8_takeTag_10 : decode cX8_takeTag 10 = .ok (.iload_n 1, 1) := by decide +kernel
theorem dX8_takeTag_11 : decode cX8_takeTag 11 = .ok (.bipush 65, 2) := by decide +kernel
theorem dX8_takeTag_13 : decode cX8_takeTag 13 = .ok (.isub, 1) := by decide +kernel
theorem dX8_takeTag_14 : decode cX8_takeTag 14 = .ok (.iconst (-1), 1) := by decide +kernel
theorem dX8_takeTag_15 : decode cX8_takeTag 15 = .ok (.invokevirtual 48, 3) := by decide +kernel
theorem dX8_takeTag_18 : decode cX8_takeTag 18 = .ok (.iload_n 2, 1) := by decide +kernel
theorem dX8_takeTag_19 : decode cX8_takeTag 19 = .ok (.ireturn, 1) := by decide +kernel
def f_X8_takeTag (V : Mem) (a1 : Int32) : Option (Int32 × Mem) :=
  bd (f_X8_revisionWithTag V a1) fun r2 V2 =>
  bv (f_X7_set V2 18 26 (a1 - 65) (-1)) fun V15 =>
  some (r2, V15)
theorem cv_X8_takeTag : CalV yX8_takeTag cX8_takeTag 3 (some .int) 1 := ⟨⟨⟨by decide +kernel, by decide +kernel⟩, tw_1_2, tw_4_119, by decide +kernel⟩, tw_4_117, tw_4_118⟩
set_option maxRecDepth 100000 in
set_option maxHeartbeats 4000000 in
theorem m_X8_takeTag (l : Launch) (E : En) (ad : Nat → Nat) (V : Mem) (a1 : Int32) (r : Int32) (Vz : Mem) (hf : f_X8_takeTag V a1 = some (r, Vz)) : MR l E ad yX8_takeTag cX8_takeTag 3 (some .int) 3 [.ref (ad 0), .int a1] V (some (.int r)) Vz := by
  refine ent (E := E) (ad := ad) (V := V) "LetterRepository$Store" (by decide +kernel) rfl (Nat.le_of_ble_eq_true rfl) ?_
  intro p e s m below meth c ls hC hI hl
  have hx := hC.1
  have hb := hC.2.1
  have hl : lv_has ls 3 [(0, .ref (ad 0)), (1, .int a1)] := hl
  unfold f_X8_takeTag at hf
  refine lv_aload_n hx hb dX8_takeTag_0 rfl (lv_at hl 0 rfl) ?_
  refine lv_iload_n hx hb dX8_takeTag_1 rfl (lv_at hl 1 rfl) ?_
  obtain ⟨r2, V2, q2, hf⟩ := gbd hf
  refine k_X8_revisionWithTag hC hI hl.1 q2 tw_2_84 ⟨Nat.le_of_ble_eq_true rfl, Nat.le_of_ble_eq_true rfl⟩ ⟨Nat.le_refl _, Nat.le_refl _⟩ (Nat.le_of_ble_eq_true rfl) dX8_takeTag_2 (fun H locs hI => ?_)
  refine lv_istore_n (lv' := [(2, .int r2), (0, .ref (ad 0)), (1, .int a1)]) hx hb dX8_takeTag_5 rfl hl (Nat.lt_of_lt_of_eq (by decide) rfl) rfl (fun ls hl => ?_)
  refine lv_aload_n hx hb dX8_takeTag_6 rfl (lv_at hl 1 rfl) ?_
  refine g_0_tags hC hI tw_1_103 dX8_takeTag_7 ?_
  refine lv_iload_n hx hb dX8_takeTag_10 rfl (lv_at hl 2 rfl) ?_
  refine lv_bipush (v := 65) hx hb dX8_takeTag_11 rfl ?_
  refine lv_isub hx hb dX8_takeTag_13 ?_
  refine lv_iconst (v := (-1)) hx hb dX8_takeTag_14 rfl ?_
  obtain ⟨V15, q15, hf⟩ := gbv hf
  refine k_X7_set row_18 hC hI hl.1 q15 tw_3_134 ⟨Nat.le_of_ble_eq_true rfl, Nat.le_of_ble_eq_true rfl⟩ ⟨Nat.le_refl _, Nat.le_refl _⟩ (Nat.le_of_ble_eq_true rfl) dX8_takeTag_15 (fun H locs hI => ?_)
  refine lv_iload_n hx hb dX8_takeTag_18 rfl (lv_at hl 0 rfl) ?_
  exact r_iret2 hC hI hf dX8_takeTag_19
theorem k_X8_takeTag {p : Program} {l : Launch} {e : Env} {R : Room} {cells slots : Nat} {s : State} {m : MethodId} {args : Array Value} {below : List Frame} {meth : Method} {c : Code} {H : Heap} {locs : List Loc} {Q : State → Prop} {E : En} {ad : Nat → Nat} {V : Mem} {ow : String} {b : ByteArray} {n : Nat} {ret : Option FieldType} {pc index : Nat} {ls : Array Slot} {rest : List Value} {a1 : Int32} {r : Int32} {V1 : Mem} (hC : Cx p s m args c meth E ow b n ret) (hI : In E ad V s H locs) (hsz : ls.size = n) (hf : f_X8_takeTag V a1 = some (r, V1)) (hl : Cond.methodLink ow index yX8_takeTag ∈ TB) (hR : 3 + 1 ≤ R.frames ∧ 8 + (3 + 11) + 40 * 3 ≤ R.locals) (hcs : cells ≤ R.cells ∧ slots ≤ R.slots) (hw : (rest.map fun v => v.category).sum ≤ 8) (hdg : decode b pc = .ok (.invokevirtual index, 3)) (kk : ∀ (H1 : Heap) (locs1 : List Loc), In E ad V1 s H1 locs1 → W p l e R s m args below meth c H1 locs1 cells slots Q (F0 m (pc + 3) ls ((.int r) :: rest))) : W p l e R s m args below meth c H locs cells slots Q (F0 m pc ls (.int a1 :: .ref (ad 0) :: rest)) :=
  r_calV (As := [.int a1]) (rest := rest) hC hI hsz (m_X8_takeTag l E ad V a1 r _ hf) cv_X8_takeTag hl (by decide) (ce_0 _) rfl rfl rfl hR hcs hw hdg kk

theorem dX8_usedSet_0 : decode cX8_usedSet 0 = .ok (.iconst 0, 1) := by decide +kernel
theorem dX8_usedSet_1 : decode cX8_usedSet 1 = .ok (.istore_n 1, 1) := by decide +kernel
theorem dX8_usedSet_2 : decode cX8_usedSet 2 = .ok (.iconst 0, 1) := by decide +kernel
theorem dX8_usedSet_3 : decode cX8_usedSet 3 = .ok (.istore_n 2, 1) := by decide +kernel
theorem dX8_usedSet_4 : decode cX8_usedSet 4 = .ok (.iload_n 2, 1) := by decide +kernel
theorem dX8_usedSet_5 : decode cX8_usedSet 5 = .ok (.aload_n 0, 1) := by decide +kernel
theorem dX8_usedSet_6 : decode cX8_usedSet 6 = .ok (.getfield 33, 3) := by decide +kernel
theorem dX8_usedSet_9 : decode cX8_usedSet 9 = .ok (.if_icmp .ge 24, 3) := by decide +kernel
theorem dX8_usedSet_12 : decode cX8_usedSet 12 = .ok (.aload_n 0, 1) := by decide +kernel
theorem dX8_usedSet_13 : decode cX8_usedSet 13 = .ok (.getfield 12, 3) := by decide +kernel
theorem dX8_usedSet_16 : decode cX8_usedSet 16 = .ok (.aload_n 0, 1) := by decide +kernel
theorem dX8_usedSet_17 : decode cX8_usedSet 17 = .ok (.iload_n 2, 1) := by decide +kernel
theorem dX8_usedSet_18 : decode cX8_usedSet 18 = .ok (.invokevirtual 55, 3) := by decide +kernel
theorem dX8_usedSet_21 : decode cX8_usedSet 21 = .ok (.iload_n 1, 1) := by decide +kernel
theorem dX8_usedSet_22 : decode cX8_usedSet 22 = .ok (.iconst 0, 1) := by decide +kernel
theorem dX8_usedSet_23 : decode cX8_usedSet 23 = .ok (.invokestatic 170, 3) := by decide +kernel
theorem dX8_usedSet_26 : decode cX8_usedSet 26 = .ok (.istore_n 1, 1) := by decide +kernel
theorem dX8_usedSet_27 : decode cX8_usedSet 27 = .ok (.iinc 2 1, 3) := by decide +kernel
theorem dX8_usedSet_30 : decode cX8_usedSet 30 = .ok (.goto (-26), 3) := by decide +kernel
theorem dX8_usedSet_33 : decode cX8_usedSet 33 = .ok (.bipush 65, 2) := by decide +kernel
theorem dX8_usedSet_35 : decode cX8_usedSet 35 = .ok (.istore_n 2, 1) := by decide +kernel
theorem dX8_usedSet_36 : decode cX8_usedSet 36 = .ok (.iload_n 2, 1) := by decide +kernel
theorem dX8_usedSet_37 : decode cX8_usedSet 37 = .ok (.bipush 90, 2) := by decide +kernel
theorem dX8_usedSet_39 : decode cX8_usedSet 39 = .ok (.if_icmp .gt 24, 3) := by decide +kernel
theorem dX8_usedSet_42 : decode cX8_usedSet 42 = .ok (.aload_n 0, 1) := by decide +kernel
theorem dX8_usedSet_43 : decode cX8_usedSet 43 = .ok (.getfield 12, 3) := by decide +kernel
theorem dX8_usedSet_46 : decode cX8_usedSet 46 = .ok (.aload_n 0, 1) := by decide +kernel
theorem dX8_usedSet_47 : decode cX8_usedSet 47 = .ok (.iload_n 2, 1) := by decide +kernel
theorem dX8_usedSet_48 : decode cX8_usedSet 48 = .ok (.invokevirtual 160, 3) := by decide +kernel
theorem dX8_usedSet_51 : decode cX8_usedSet 51 = .ok (.iload_n 1, 1) := by decide +kernel
theorem dX8_usedSet_52 : decode cX8_usedSet 52 = .ok (.iconst 0, 1) := by decide +kernel
theorem dX8_usedSet_53 : decode cX8_usedSet 53 = .ok (.invokestatic 170, 3) := by decide +kernel
theorem dX8_usedSet_56 : decode cX8_usedSet 56 = .ok (.istore_n 1, 1) := by decide +kernel
theorem dX8_usedSet_57 : decode cX8_usedSet 57 = .ok (.iinc 2 1, 3) := by decide +kernel
theorem dX8_usedSet_60 : decode cX8_usedSet 60 = .ok (.goto (-24), 3) := by decide +kernel
theorem dX8_usedSet_63 : decode cX8_usedSet 63 = .ok (.iload_n 1, 1) := by decide +kernel
theorem dX8_usedSet_64 : decode cX8_usedSet 64 = .ok (.ireturn, 1) := by decide +kernel
def f_X8_usedSet_L36 : Nat → Mem → Int32 → Int32 → Option (Int32 × Mem)
  | 0, _, _, _ => none
  | n36 + 1, V36, x1_36, x2_36 =>
    if 90 < x2_36 then
      some (x1_36, V36)
    else
      bd (f_X8_revisionWithTag V36 x2_36) fun r48 V48 =>
      bd (f_X6_marked V48 r48 x1_36 0) fun r53 V53 =>
      (f_X8_usedSet_L36 n36) V53 r53 (x2_36 + 1)
def f_X8_usedSet_L4 (j33 : Mem → Int32 → Option (Int32 × Mem)) : Nat → Mem → Int32 → Int32 → Option (Int32 × Mem)
  | 0, _, _, _ => none
  | n4 + 1, V4, x1_4, x2_4 =>
    if (V4 0 0) ≤ x2_4 then
      j33 V4 x1_4
    else
      bd (f_X8_headOf V4 x2_4) fun r18 V18 =>
      bd (f_X6_marked V18 r18 x1_4 0) fun r23 V23 =>
      (f_X8_usedSet_L4 j33 n4) V23 r23 (x2_4 + 1)
def f_X8_usedSet (V : Mem) : Option (Int32 × Mem) :=
  jn (α := Mem → Int32 → Option (Int32 × Mem)) (fun j33 =>
    f_X8_usedSet_L4 j33 FU V 0 0
  ) (fun (V33 : Mem) (x1_33 : Int32) =>
    f_X8_usedSet_L36 FU V33 x1_33 65
  )
theorem cv_X8_usedSet : CalV yX8_usedSet cX8_usedSet 3 (some .int) 0 := ⟨⟨⟨by decide +kernel, by decide +kernel⟩, tw_1_2, tw_2_54, by decide +kernel⟩, tw_2_52, tw_2_53⟩
set_option maxRecDepth 100000 in
set_option maxHeartbeats 4000000 in
theorem m_X8_usedSet (l : Launch) (E : En) (ad : Nat → Nat) (V : Mem) (r : Int32) (Vz : Mem) (hf : f_X8_usedSet V = some (r, Vz)) : MR l E ad yX8_usedSet cX8_usedSet 3 (some .int) 30 [.ref (ad 0)] V (some (.int r)) Vz := by
  refine ent (E := E) (ad := ad) (V := V) "LetterRepository$Store" (by decide +kernel) rfl (Nat.le_of_ble_eq_true rfl) ?_
  intro p e s m below meth c ls hC hI hl
  have hx := hC.1
  have hb := hC.2.1
  have hl : lv_has ls 3 [(0, .ref (ad 0))] := hl
  unfold f_X8_usedSet at hf
  refine lv_iconst (v := 0) hx hb dX8_usedSet_0 rfl ?_
  refine lv_istore_n (lv' := [(1, .int 0), (0, .ref (ad 0))]) hx hb dX8_usedSet_1 rfl hl (Nat.lt_of_lt_of_eq (by decide) rfl) rfl (fun ls hl => ?_)
  refine lv_iconst (v := 0) hx hb dX8_usedSet_2 rfl ?_
  refine lv_istore_n (lv' := [(2, .int 0), (1, .int 0), (0, .ref (ad 0))]) hx hb dX8_usedSet_3 rfl hl (Nat.lt_of_lt_of_eq (by decide) rfl) rfl (fun ls hl => ?_)
  obtain ⟨j33, hj33, hf⟩ := gj hf
  have J33 : ∀ (V33 : Mem) (x1_33 : Int32) (H : Heap) (locs : List Loc) (ls : Array Slot), j33 V33 x1_33 = some (r, Vz) → In E ad V33 s H locs → lv_has ls 3 [(0, .ref (ad 0)), (1, .int x1_33)] → W p l e (rmd 30) s m ([.ref (ad 0)] : List Value).toArray below meth c H locs 0 0 (MQ below (QR E ad (some (.int r)) Vz) ([.ref (ad 0)] : List Value).toArray s 0 0 (ours E)) (F0 m 33 ls []) := by
    intro V33 x1_33 H locs ls hf hI hl
    rw [hj33] at hf
    dsimp only at hf
    refine lv_bipush (v := 65) hx hb dX8_usedSet_33 rfl ?_
    refine lv_istore_n (lv' := [(2, .int 65), (0, .ref (ad 0)), (1, .int x1_33)]) hx hb dX8_usedSet_35 rfl hl (Nat.lt_of_lt_of_eq (by decide) rfl) rfl (fun ls hl => ?_)
    have L36 : ∀ (n36 : Nat) (V36 : Mem) (x1_36 : Int32) (x2_36 : Int32) (H : Heap) (locs : List Loc) (ls : Array Slot), f_X8_usedSet_L36 n36 V36 x1_36 x2_36 = some (r, Vz) → In E ad V36 s H locs → lv_has ls 3 [(0, .ref (ad 0)), (1, .int x1_36), (2, .int x2_36)] → W p l e (rmd 30) s m ([.ref (ad 0)] : List Value).toArray below meth c H locs 0 0 (MQ below (QR E ad (some (.int r)) Vz) ([.ref (ad 0)] : List Value).toArray s 0 0 (ours E)) (F0 m 36 ls []) := by
      intro n36
      induction n36 with
      | zero => intro V36 x1_36 x2_36 H locs ls hf hI hl; cases hf
      | succ n36 ih36 =>
        intro V36 x1_36 x2_36 H locs ls hf hI hl
        rw [f_X8_usedSet_L36.eq_2] at hf
        refine lv_iload_n hx hb dX8_usedSet_36 rfl (lv_at hl 2 rfl) ?_
        refine lv_bipush (v := 90) hx hb dX8_usedSet_37 rfl ?_
        refine lv_icmp_gt (tgt := 63) hx hb dX8_usedSet_39 (by decide) (fun c39 => ?_) (fun c39 => ?_)
        · have hf := gt hf c39
          refine lv_iload_n hx hb dX8_usedSet_63 rfl (lv_at hl 1 rfl) ?_
          exact r_iret2 hC hI hf dX8_usedSet_64
        · have hf := gf hf c39
          refine lv_aload_n hx hb dX8_usedSet_42 rfl (lv_at hl 0 rfl) ?_
          refine g_0_revisions hC hI tw_1_99 dX8_usedSet_43 ?_
          refine lv_aload_n hx hb dX8_usedSet_46 rfl (lv_at hl 0 rfl) ?_
          refine lv_iload_n hx hb dX8_usedSet_47 rfl (lv_at hl 2 rfl) ?_
          obtain ⟨r48, V48, q48, hf⟩ := gbd hf
          refine k_X8_revisionWithTag hC hI hl.1 q48 tw_2_84 ⟨Nat.le_of_ble_eq_true rfl, Nat.le_of_ble_eq_true rfl⟩ ⟨Nat.le_refl _, Nat.le_refl _⟩ (Nat.le_of_ble_eq_true rfl) dX8_usedSet_48 (fun H locs hI => ?_)
          refine lv_iload_n hx hb dX8_usedSet_51 rfl (lv_at hl 1 rfl) ?_
          refine lv_iconst (v := 0) hx hb dX8_usedSet_52 rfl ?_
          obtain ⟨r53, V53, q53, hf⟩ := gbd hf
          refine kN_X6_marked hC hI hl.1 q53 tw_2_63 ⟨Nat.le_of_ble_eq_true rfl, Nat.le_of_ble_eq_true rfl⟩ ⟨Nat.le_refl _, Nat.le_refl _⟩ (Nat.le_of_ble_eq_true rfl) dX8_usedSet_53 (fun H locs hI => ?_)
          refine lv_istore_n (lv' := [(1, .int r53), (0, .ref (ad 0)), (2, .int x2_36)]) hx hb dX8_usedSet_56 rfl hl (Nat.lt_of_lt_of_eq (by decide) rfl) rfl (fun ls hl => ?_)
          refine lv_iinc (v := (x2_36 + 1)) (lv' := [(2, .int (x2_36 + 1)), (1, .int r53), (0, .ref (ad 0))]) hx hb dX8_usedSet_57 hl (k := 2) rfl rfl (Nat.lt_of_lt_of_eq (by decide) rfl) rfl (fun ls hl => ?_)
          refine lv_goto (tgt := 36) hx hb dX8_usedSet_60 (by decide) ?_
          exact ih36 _ _ _ _ _ _ hf hI (lv_sub hl [2, 1, 0] rfl)
    exact L36 _ _ _ _ _ _ _ hf hI (lv_sub hl [1, 2, 0] rfl)
  have L4 : ∀ (n4 : Nat) (V4 : Mem) (x1_4 : Int32) (x2_4 : Int32) (H : Heap) (locs : List Loc) (ls : Array Slot), f_X8_usedSet_L4 j33 n4 V4 x1_4 x2_4 = some (r, Vz) → In E ad V4 s H locs → lv_has ls 3 [(0, .ref (ad 0)), (1, .int x1_4), (2, .int x2_4)] → W p l e (rmd 30) s m ([.ref (ad 0)] : List Value).toArray below meth c H locs 0 0 (MQ below (QR E ad (some (.int r)) Vz) ([.ref (ad 0)] : List Value).toArray s 0 0 (ours E)) (F0 m 4 ls []) := by
    intro n4
    induction n4 with
    | zero => intro V4 x1_4 x2_4 H locs ls hf hI hl; cases hf
    | succ n4 ih4 =>
      intro V4 x1_4 x2_4 H locs ls hf hI hl
      rw [f_X8_usedSet_L4.eq_2] at hf
      refine lv_iload_n hx hb dX8_usedSet_4 rfl (lv_at hl 2 rfl) ?_
      refine lv_aload_n hx hb dX8_usedSet_5 rfl (lv_at hl 0 rfl) ?_
      refine g_0_branchCount hC hI tw_1_104 dX8_usedSet_6 ?_
      refine lv_icmp_ge (tgt := 33) hx hb dX8_usedSet_9 (by decide) (fun c9 => ?_) (fun c9 => ?_)
      · have hf := gt hf c9
        exact J33 _ _ _ _ _ hf hI (lv_sub hl [0, 1] rfl)
      · have hf := gf hf c9
        refine lv_aload_n hx hb dX8_usedSet_12 rfl (lv_at hl 0 rfl) ?_
        refine g_0_revisions hC hI tw_1_99 dX8_usedSet_13 ?_
        refine lv_aload_n hx hb dX8_usedSet_16 rfl (lv_at hl 0 rfl) ?_
        refine lv_iload_n hx hb dX8_usedSet_17 rfl (lv_at hl 2 rfl) ?_
        obtain ⟨r18, V18, q18, hf⟩ := gbd hf
        refine k_X8_headOf hC hI hl.1 q18 tw_2_55 ⟨Nat.le_of_ble_eq_true rfl, Nat.le_of_ble_eq_true rfl⟩ ⟨Nat.le_refl _, Nat.le_refl _⟩ (Nat.le_of_ble_eq_true rfl) dX8_usedSet_18 (fun H locs hI => ?_)
        refine lv_iload_n hx hb dX8_usedSet_21 rfl (lv_at hl 1 rfl) ?_
        refine lv_iconst (v := 0) hx hb dX8_usedSet_22 rfl ?_
        obtain ⟨r23, V23, q23, hf⟩ := gbd hf
        refine kN_X6_marked hC hI hl.1 q23 tw_2_63 ⟨Nat.le_of_ble_eq_true rfl, Nat.le_of_ble_eq_true rfl⟩ ⟨Nat.le_refl _, Nat.le_refl _⟩ (Nat.le_of_ble_eq_true rfl) dX8_usedSet_23 (fun H locs hI => ?_)
        refine lv_istore_n (lv' := [(1, .int r23), (0, .ref (ad 0)), (2, .int x2_4)]) hx hb dX8_usedSet_26 rfl hl (Nat.lt_of_lt_of_eq (by decide) rfl) rfl (fun ls hl => ?_)
        refine lv_iinc (v := (x2_4 + 1)) (lv' := [(2, .int (x2_4 + 1)), (1, .int r23), (0, .ref (ad 0))]) hx hb dX8_usedSet_27 hl (k := 2) rfl rfl (Nat.lt_of_lt_of_eq (by decide) rfl) rfl (fun ls hl => ?_)
        refine lv_goto (tgt := 4) hx hb dX8_usedSet_30 (by decide) ?_
        exact ih4 _ _ _ _ _ _ hf hI (lv_sub hl [2, 1, 0] rfl)
  exact L4 _ _ _ _ _ _ _ hf hI (lv_sub hl [2, 1, 0] rfl)
theorem k_X8_usedSet {p : Program} {l : Launch} {e : Env} {R : Room} {cells slots : Nat} {s : State} {m : MethodId} {args : Array Value} {below : List Frame} {meth : Method} {c : Code} {H : Heap} {locs : List Loc} {Q : State → Prop} {E : En} {ad : Nat → Nat} {V : Mem} {ow : String} {b : ByteArray} {n : Nat} {ret : Option FieldType} {pc index : Nat} {ls : Array Slot} {rest : List Value} {r : Int32} {V1 : Mem} (hC : Cx p s m args c meth E ow b n ret) (hI : In E ad V s H locs) (hsz : ls.size = n) (hf : f_X8_usedSet V = some (r, V1)) (hl : Cond.methodLink ow index yX8_usedSet ∈ TB) (hR : 30 + 1 ≤ R.frames ∧ 8 + (3 + 11) + 40 * 30 ≤ R.locals) (hcs : cells ≤ R.cells ∧ slots ≤ R.slots) (hw : (rest.map fun v => v.category).sum ≤ 8) (hdg : decode b pc = .ok (.invokevirtual index, 3)) (kk : ∀ (H1 : Heap) (locs1 : List Loc), In E ad V1 s H1 locs1 → W p l e R s m args below meth c H1 locs1 cells slots Q (F0 m (pc + 3) ls ((.int r) :: rest))) : W p l e R s m args below meth c H locs cells slots Q (F0 m pc ls (.ref (ad 0) :: rest)) :=
  r_calV (As := []) (rest := rest) hC hI hsz (m_X8_usedSet l E ad V r _ hf) cv_X8_usedSet hl (by decide) (ce_0 _) rfl rfl rfl hR hcs hw hdg kk

theorem dX8_countUsedByMarks_0 : decode cX8_countUsedByMarks 0 = .ok (.iconst 0, 1) := by decide +kernel
theorem dX8_countUsedByMarks_1 : decode cX8_countUsedByMarks 1 = .ok (.istore_n 1, 1) := by decide +kernel
theorem dX8_countUsedByMarks_2 : decode cX8_countUsedByMarks 2 = .ok (.iconst 0, 1) := by decide +kernel
theorem dX8_countUsedByMarks_3 : decode cX8_countUsedByMarks 3 = .ok (.istore_n 2, 1) := by decide +kernel
theorem dX8_countUsedByMarks_4 : decode cX8_countUsedByMarks 4 = .ok (.iload_n 2, 1) := by decide +kernel
theorem dX8_countUsedByMarks_5 : decode cX8_countUsedByMarks 5 = .ok (.aload_n 0, 1) := by decide +kernel
theorem dX8_countUsedByMarks_6 : decode cX8_countUsedByMarks 6 = .ok (.getfield 33, 3) := by decide +kernel
theorem dX8_countUsedByMarks_9 : decode cX8_countUsedByMarks 9 = .ok (.if_icmp .ge 20, 3) := by decide +kernel
theorem dX8_countUsedByMarks_12 : decode cX8_countUsedByMarks 12 = .ok (.iload_n 1, 1) := by decide +kernel
theorem dX8_countUsedByMarks_13 : decode cX8_countUsedByMarks 13 = .ok (.aload_n 0, 1) := by decide +kernel
theorem dX8_countUsedByMarks_14 : decode cX8_countUsedByMarks 14 = .ok (.iload_n 2, 1) := by decide +kernel
theorem dX8_countUsedByMarks_15 : decode cX8_countUsedByMarks 15 = .ok (.invokevirtual 55, 3) := by decide +kernel
theorem dX8_countUsedByMarks_18 : decode cX8_countUsedByMarks 18 = .ok (.invokestatic 174, 3) := by decide +kernel
theorem dX8_countUsedByMarks_21 : decode cX8_countUsedByMarks 21 = .ok (.ior, 1) := by decide +kernel
theorem dX8_countUsedByMarks_22 : decode cX8_countUsedByMarks 22 = .ok (.istore_n 1, 1) := by decide +kernel
theorem dX8_countUsedByMarks_23 : decode cX8_countUsedByMarks 23 = .ok (.iinc 2 1, 3) := by decide +kernel
theorem dX8_countUsedByMarks_26 : decode cX8_countUsedByMarks 26 = .ok (.goto (-22), 3) := by decide +kernel
theorem dX8_countUsedByMarks_29 : decode cX8_countUsedByMarks 29 = .ok (.bipush 65, 2) := by decide +kernel
theorem dX8_countUsedByMarks_31 : decode cX8_countUsedByMarks 31 = .ok (.istore_n 2, 1) := by decide +kernel
theorem dX8_countUsedByMarks_32 : decode cX8_countUsedByMarks 32 = .ok (.iload_n 2, 1) := by decide +kernel
theorem dX8_countUsedByMarks_33 : decode cX8_countUsedByMarks 33 = .ok (.bipush 90, 2) := by decide +kernel
theorem dX8_countUsedByMarks_35 : decode cX8_countUsedByMarks 35 = .ok (.if_icmp .gt 20, 3) := by decide +kernel
theorem dX8_countUsedByMarks_38 : decode cX8_countUsedByMarks 38 = .ok (.iload_n 1, 1) := by decide +kernel
theorem dX8_countUsedByMarks_39 : decode cX8_countUsedByMarks 39 = .ok (.aload_n 0, 1) := by decide +kernel
theorem dX8_countUsedByMarks_40 : decode cX8_countUsedByMarks 40 = .ok (.iload_n 2, 1) := by decide +kernel
theorem dX8_countUsedByMarks_41 : decode cX8_countUsedByMarks 41 = .ok (.invokevirtual 160, 3) := by decide +kernel
theorem dX8_countUsedByMarks_44 : decode cX8_countUsedByMarks 44 = .ok (.invokestatic 174, 3) := by decide +kernel
theorem dX8_countUsedByMarks_47 : decode cX8_countUsedByMarks 47 = .ok (.ior, 1) := by decide +kernel
theorem dX8_countUsedByMarks_48 : decode cX8_countUsedByMarks 48 = .ok (.istore_n 1, 1) := by decide +kernel
theorem dX8_countUsedByMarks_49 : decode cX8_countUsedByMarks 49 = .ok (.iinc 2 1, 3) := by decide +kernel
theorem dX8_countUsedByMarks_52 : decode cX8_countUsedByMarks 52 = .ok (.goto (-20), 3) := by decide +kernel
theorem dX8_countUsedByMarks_55 : decode cX8_countUsedByMarks 55 = .ok (.aload_n 0, 1) := by decide +kernel
theorem dX8_countUsedByMarks_56 : decode cX8_countUsedByMarks 56 = .ok (.getfield 12, 3) := by decide +kernel
theorem dX8_countUsedByMarks_59 : decode cX8_countUsedByMarks 59 = .ok (.iload_n 1, 1) := by decide +kernel
theorem dX8_countUsedByMarks_60 : decode cX8_countUsedByMarks 60 = .ok (.invokevirtual 177, 3) := by decide +kernel
theorem dX8_countUsedByMarks_63 : decode cX8_countUsedByMarks 63 = .ok (.invokestatic 180, 3) := by decide +kernel
theorem dX8_countUsedByMarks_66 : decode cX8_countUsedByMarks 66 = .ok (.ireturn, 1) := by decide +kernel
def f_X8_countUsedByMarks_L32 (j55 : Mem → Int32 → Option (Int32 × Mem)) : Nat → Mem → Int32 → Int32 → Option (Int32 × Mem)
  | 0, _, _, _ => none
  | n32 + 1, V32, x1_32, x2_32 =>
    if 90 < x2_32 then
      j55 V32 x1_32
    else
      bd (f_X8_revisionWithTag V32 x2_32) fun r41 V41 =>
      bd (f_X9_setOf V41 r41) fun r44 V44 =>
      (f_X8_countUsedByMarks_L32 j55 n32) V44 (x1_32 ||| r44) (x2_32 + 1)
def f_X8_countUsedByMarks_L4 (j29 : Mem → Int32 → Option (Int32 × Mem)) : Nat → Mem → Int32 → Int32 → Option (Int32 × Mem)
  | 0, _, _, _ => none
  | n4 + 1, V4, x1_4, x2_4 =>
    if (V4 0 0) ≤ x2_4 then
      j29 V4 x1_4
    else
      bd (f_X8_headOf V4 x2_4) fun r15 V15 =>
      bd (f_X9_setOf V15 r15) fun r18 V18 =>
      (f_X8_countUsedByMarks_L4 j29 n4) V18 (x1_4 ||| r18) (x2_4 + 1)
def f_X8_countUsedByMarks (V : Mem) : Option (Int32 × Mem) :=
  jn (α := Mem → Int32 → Option (Int32 × Mem)) (fun j29 =>
    f_X8_countUsedByMarks_L4 j29 FU V 0 0
  ) (fun (V29 : Mem) (x1_29 : Int32) =>
    jn (α := Mem → Int32 → Option (Int32 × Mem)) (fun j55 =>
      f_X8_countUsedByMarks_L32 j55 FU V29 x1_29 65
    ) (fun (V55 : Mem) (x1_55 : Int32) =>
      bd (f_X6_withParentsMarked V55 x1_55) fun r60 V60 =>
      bd (f_J6_bitCount_0f7a4 V60 r60) fun r63 V63 =>
      some (r63, V63)
    )
  )
theorem cv_X8_countUsedByMarks : CalV yX8_countUsedByMarks cX8_countUsedByMarks 3 (some .int) 0 := ⟨⟨⟨by decide +kernel, by decide +kernel⟩, tw_1_2, tw_2_131, by decide +kernel⟩, tw_2_129, tw_2_130⟩
set_option maxRecDepth 100000 in
set_option maxHeartbeats 4000000 in
theorem m_X8_countUsedByMarks (l : Launch) (E : En) (ad : Nat → Nat) (V : Mem) (r : Int32) (Vz : Mem) (hf : f_X8_countUsedByMarks V = some (r, Vz)) : MR l E ad yX8_countUsedByMarks cX8_countUsedByMarks 3 (some .int) 5 [.ref (ad 0)] V (some (.int r)) Vz := by
  refine ent (E := E) (ad := ad) (V := V) "LetterRepository$Store" (by decide +kernel) rfl (Nat.le_of_ble_eq_true rfl) ?_
  intro p e s m below meth c ls hC hI hl
  have hx := hC.1
  have hb := hC.2.1
  have hl : lv_has ls 3 [(0, .ref (ad 0))] := hl
  unfold f_X8_countUsedByMarks at hf
  refine lv_iconst (v := 0) hx hb dX8_countUsedByMarks_0 rfl ?_
  refine lv_istore_n (lv' := [(1, .int 0), (0, .ref (ad 0))]) hx hb dX8_countUsedByMarks_1 rfl hl (Nat.lt_of_lt_of_eq (by decide) rfl) rfl (fun ls hl => ?_)
  refine lv_iconst (v := 0) hx hb dX8_countUsedByMarks_2 rfl ?_
  refine lv_istore_n (lv' := [(2, .int 0), (1, .int 0), (0, .ref (ad 0))]) hx hb dX8_countUsedByMarks_3 rfl hl (Nat.lt_of_lt_of_eq (by decide) rfl) rfl (fun ls hl => ?_)
  obtain ⟨j29, hj29, hf⟩ := gj hf
  have J29 : ∀ (V29 : Mem) (x1_29 : Int32) (H : Heap) (locs : List Loc) (ls : Array Slot), j29 V29 x1_29 = some (r, Vz) → In E ad V29 s H locs → lv_has ls 3 [(0, .ref (ad 0)), (1, .int x1_29)] → W p l e (rmd 5) s m ([.ref (ad 0)] : List Value).toArray below meth c H locs 0 0 (MQ below (QR E ad (some (.int r)) Vz) ([.ref (ad 0)] : List Value).toArray s 0 0 (ours E)) (F0 m 29 ls []) := by
    intro V29 x1_29 H locs ls hf hI hl
    rw [hj29] at hf
    dsimp only at hf
    refine lv_bipush (v := 65) hx hb dX8_countUsedByMarks_29 rfl ?_
    refine lv_istore_n (lv' := [(2, .int 65), (0, .ref (ad 0)), (1, .int x1_29)]) hx hb dX8_countUsedByMarks_31 rfl hl (Nat.lt_of_lt_of_eq (by decide) rfl) rfl (fun ls hl => ?_)
    obtain ⟨j55, hj55, hf⟩ := gj hf
    have J55 : ∀ (V55 : Mem) (x1_55 : Int32) (H : Heap) (locs : List Loc) (ls : Array Slot), j55 V55 x1_55 = some (r, Vz) → In E ad V55 s H locs → lv_has ls 3 [(0, .ref (ad 0)), (1, .int x1_55)] → W p l e (rmd 5) s m ([.ref (ad 0)] : List Value).toArray below meth c H locs 0 0 (MQ below (QR E ad (some (.int r)) Vz) ([.ref (ad 0)] : List Value).toArray s 0 0 (ours E)) (F0 m 55 ls []) := by
      intro V55 x1_55 H locs ls hf hI hl
      rw [hj55] at hf
      dsimp only at hf
      refine lv_aload_n hx hb dX8_countUsedByMarks_55 rfl (lv_at hl 0 rfl) ?_
      refine g_0_revisions hC hI tw_1_99 dX8_countUsedByMarks_56 ?_
      refine lv_iload_n hx hb dX8_countUsedByMarks_59 rfl (lv_at hl 1 rfl) ?_
      obtain ⟨r60, V60, q60, hf⟩ := gbd hf
      refine k_X6_withParentsMarked hC hI hl.1 q60 tw_2_132 ⟨Nat.le_of_ble_eq_true rfl, Nat.le_of_ble_eq_true rfl⟩ ⟨Nat.le_refl _, Nat.le_refl _⟩ (Nat.le_of_ble_eq_true rfl) dX8_countUsedByMarks_60 (fun H locs hI => ?_)
      obtain ⟨r63, V63, q63, hf⟩ := gbd hf
      refine k_J6_bitCount_0f7a4 hC hI hl.1 q63 tw_2_45 ⟨Nat.le_of_ble_eq_true rfl, Nat.le_of_ble_eq_true rfl⟩ ⟨Nat.le_refl _, Nat.le_refl _⟩ (Nat.le_of_ble_eq_true rfl) dX8_countUsedByMarks_63 (fun H locs hI => ?_)
      exact r_iret2 hC hI hf dX8_countUsedByMarks_66
    have L32 : ∀ (n32 : Nat) (V32 : Mem) (x1_32 : Int32) (x2_32 : Int32) (H : Heap) (locs : List Loc) (ls : Array Slot), f_X8_countUsedByMarks_L32 j55 n32 V32 x1_32 x2_32 = some (r, Vz) → In E ad V32 s H locs → lv_has ls 3 [(0, .ref (ad 0)), (1, .int x1_32), (2, .int x2_32)] → W p l e (rmd 5) s m ([.ref (ad 0)] : List Value).toArray below meth c H locs 0 0 (MQ below (QR E ad (some (.int r)) Vz) ([.ref (ad 0)] : List Value).toArray s 0 0 (ours E)) (F0 m 32 ls []) := by
      intro n32
      induction n32 with
      | zero => intro V32 x1_32 x2_32 H locs ls hf hI hl; cases hf
      | succ n32 ih32 =>
        intro V32 x1_32 x2_32 H locs ls hf hI hl
        rw [f_X8_countUsedByMarks_L32.eq_2] at hf
        refine lv_iload_n hx hb dX8_countUsedByMarks_32 rfl (lv_at hl 2 rfl) ?_
        refine lv_bipush (v := 90) hx hb dX8_countUsedByMarks_33 rfl ?_
        refine lv_icmp_gt (tgt := 55) hx hb dX8_countUsedByMarks_35 (by decide) (fun c35 => ?_) (fun c35 => ?_)
        · have hf := gt hf c35
          exact J55 _ _ _ _ _ hf hI (lv_sub hl [0, 1] rfl)
        · have hf := gf hf c35
          refine lv_iload_n hx hb dX8_countUsedByMarks_38 rfl (lv_at hl 1 rfl) ?_
          refine lv_aload_n hx hb dX8_countUsedByMarks_39 rfl (lv_at hl 0 rfl) ?_
          refine lv_iload_n hx hb dX8_countUsedByMarks_40 rfl (lv_at hl 2 rfl) ?_
          obtain ⟨r41, V41, q41, hf⟩ := gbd hf
          refine k_X8_revisionWithTag hC hI hl.1 q41 tw_2_84 ⟨Nat.le_of_ble_eq_true rfl, Nat.le_of_ble_eq_true rfl⟩ ⟨Nat.le_refl _, Nat.le_refl _⟩ (Nat.le_of_ble_eq_true rfl) dX8_countUsedByMarks_41 (fun H locs hI => ?_)
          obtain ⟨r44, V44, q44, hf⟩ := gbd hf
          refine kN_X9_setOf hC hI hl.1 q44 tw_2_89 ⟨Nat.le_of_ble_eq_true rfl, Nat.le_of_ble_eq_true rfl⟩ ⟨Nat.le_refl _, Nat.le_refl _⟩ (Nat.le_of_ble_eq_true rfl) dX8_countUsedByMarks_44 (fun H locs hI => ?_)
          refine lv_ior hx hb dX8_countUsedByMarks_47 ?_
          refine lv_istore_n (lv' := [(1, .int (x1_32 ||| r44)), (0, .ref (ad 0)), (2, .int x2_32)]) hx hb dX8_countUsedByMarks_48 rfl hl (Nat.lt_of_lt_of_eq (by decide) rfl) rfl (fun ls hl => ?_)
          refine lv_iinc (v := (x2_32 + 1)) (lv' := [(2, .int (x2_32 + 1)), (1, .int (x1_32 ||| r44)), (0, .ref (ad 0))]) hx hb dX8_countUsedByMarks_49 hl (k := 2) rfl rfl (Nat.lt_of_lt_of_eq (by decide) rfl) rfl (fun ls hl => ?_)
          refine lv_goto (tgt := 32) hx hb dX8_countUsedByMarks_52 (by decide) ?_
          exact ih32 _ _ _ _ _ _ hf hI (lv_sub hl [2, 1, 0] rfl)
    exact L32 _ _ _ _ _ _ _ hf hI (lv_sub hl [1, 2, 0] rfl)
  have L4 : ∀ (n4 : Nat) (V4 : Mem) (x1_4 : Int32) (x2_4 : Int32) (H : Heap) (locs : List Loc) (ls : Array Slot), f_X8_countUsedByMarks_L4 j29 n4 V4 x1_4 x2_4 = some (r, Vz) → In E ad V4 s H locs → lv_has ls 3 [(0, .ref (ad 0)), (1, .int x1_4), (2, .int x2_4)] → W p l e (rmd 5) s m ([.ref (ad 0)] : List Value).toArray below meth c H locs 0 0 (MQ below (QR E ad (some (.int r)) Vz) ([.ref (ad 0)] : List Value).toArray s 0 0 (ours E)) (F0 m 4 ls []) := by
    intro n4
    induction n4 with
    | zero => intro V4 x1_4 x2_4 H locs ls hf hI hl; cases hf
    | succ n4 ih4 =>
      intro V4 x1_4 x2_4 H locs ls hf hI hl
      rw [f_X8_countUsedByMarks_L4.eq_2] at hf
      refine lv_iload_n hx hb dX8_countUsedByMarks_4 rfl (lv_at hl 2 rfl) ?_
      refine lv_aload_n hx hb dX8_countUsedByMarks_5 rfl (lv_at hl 0 rfl) ?_
      refine g_0_branchCount hC hI tw_1_104 dX8_countUsedByMarks_6 ?_
      refine lv_icmp_ge (tgt := 29) hx hb dX8_countUsedByMarks_9 (by decide) (fun c9 => ?_) (fun c9 => ?_)
      · have hf := gt hf c9
        exact J29 _ _ _ _ _ hf hI (lv_sub hl [0, 1] rfl)
      · have hf := gf hf c9
        refine lv_iload_n hx hb dX8_countUsedByMarks_12 rfl (lv_at hl 1 rfl) ?_
        refine lv_aload_n hx hb dX8_countUsedByMarks_13 rfl (lv_at hl 0 rfl) ?_
        refine lv_iload_n hx hb dX8_countUsedByMarks_14 rfl (lv_at hl 2 rfl) ?_
        obtain ⟨r15, V15, q15, hf⟩ := gbd hf
        refine k_X8_headOf hC hI hl.1 q15 tw_2_55 ⟨Nat.le_of_ble_eq_true rfl, Nat.le_of_ble_eq_true rfl⟩ ⟨Nat.le_refl _, Nat.le_refl _⟩ (Nat.le_of_ble_eq_true rfl) dX8_countUsedByMarks_15 (fun H locs hI => ?_)
        obtain ⟨r18, V18, q18, hf⟩ := gbd hf
        refine kN_X9_setOf hC hI hl.1 q18 tw_2_89 ⟨Nat.le_of_ble_eq_true rfl, Nat.le_of_ble_eq_true rfl⟩ ⟨Nat.le_refl _, Nat.le_refl _⟩ (Nat.le_of_ble_eq_true rfl) dX8_countUsedByMarks_18 (fun H locs hI => ?_)
        refine lv_ior hx hb dX8_countUsedByMarks_21 ?_
        refine lv_istore_n (lv' := [(1, .int (x1_4 ||| r18)), (0, .ref (ad 0)), (2, .int x2_4)]) hx hb dX8_countUsedByMarks_22 rfl hl (Nat.lt_of_lt_of_eq (by decide) rfl) rfl (fun ls hl => ?_)
        refine lv_iinc (v := (x2_4 + 1)) (lv' := [(2, .int (x2_4 + 1)), (1, .int (x1_4 ||| r18)), (0, .ref (ad 0))]) hx hb dX8_countUsedByMarks_23 hl (k := 2) rfl rfl (Nat.lt_of_lt_of_eq (by decide) rfl) rfl (fun ls hl => ?_)
        refine lv_goto (tgt := 4) hx hb dX8_countUsedByMarks_26 (by decide) ?_
        exact ih4 _ _ _ _ _ _ hf hI (lv_sub hl [2, 1, 0] rfl)
  exact L4 _ _ _ _ _ _ _ hf hI (lv_sub hl [2, 1, 0] rfl)
theorem k_X8_countUsedByMarks {p : Program} {l : Launch} {e : Env} {R : Room} {cells slots : Nat} {s : State} {m : MethodId} {args : Array Value} {below : List Frame} {meth : Method} {c : Code} {H : Heap} {locs : List Loc} {Q : State → Prop} {E : En} {ad : Nat → Nat} {V : Mem} {ow : String} {b : ByteArray} {n : Nat} {ret : Option FieldType} {pc index : Nat} {ls : Array Slot} {rest : List Value} {r : Int32} {V1 : Mem} (hC : Cx p s m args c meth E ow b n ret) (hI : In E ad V s H locs) (hsz : ls.size = n) (hf : f_X8_countUsedByMarks V = some (r, V1)) (hl : Cond.methodLink ow index yX8_countUsedByMarks ∈ TB) (hR : 5 + 1 ≤ R.frames ∧ 8 + (3 + 11) + 40 * 5 ≤ R.locals) (hcs : cells ≤ R.cells ∧ slots ≤ R.slots) (hw : (rest.map fun v => v.category).sum ≤ 8) (hdg : decode b pc = .ok (.invokevirtual index, 3)) (kk : ∀ (H1 : Heap) (locs1 : List Loc), In E ad V1 s H1 locs1 → W p l e R s m args below meth c H1 locs1 cells slots Q (F0 m (pc + 3) ls ((.int r) :: rest))) : W p l e R s m args below meth c H locs cells slots Q (F0 m pc ls (.ref (ad 0) :: rest)) :=
  r_calV (As := []) (rest := rest) hC hI hsz (m_X8_countUsedByMarks l E ad V r _ hf) cv_X8_countUsedByMarks hl (by decide) (ce_0 _) rfl rfl rfl hR hcs hw hdg kk

theorem dX8_archiveUnused_0 : decode cX8_archiveUnused 0 = .ok (.aload_n 0, 1) := by decide +kernel
theorem dX8_archiveUnused_1 : decode cX8_archiveUnused 1 = .ok (.getfield 12, 3) := by decide +kernel
theorem dX8_archiveUnused_4 : decode cX8_archiveUnused 4 = .ok (.getfield 185, 3) := by decide +kernel
theorem dX8_archiveUnused_7 : decode cX8_archiveUnused 7 = .ok (.invokestatic 180, 3) := by decide +kernel
theorem dX8_archiveUnused_10 : decode cX8_archiveUnused 10 = .ok (.istore_n 1, 1) := by decide +kernel
theorem dX8_archiveUnused_11 : decode cX8_archiveUnused 11 = .ok (.aload_n 0, 1) := by decide +kernel
theorem dX8_archiveUnused_12 : decode cX8_archiveUnused 12 = .ok (.invokevirtual 188, 3) := by decide +kernel
theorem dX8_archiveUnused_15 : decode cX8_archiveUnused 15 = .ok (.istore_n 2, 1) := by decide +kernel
theorem dX8_archiveUnused_16 : decode cX8_archiveUnused 16 = .ok (.iconst 0, 1) := by decide +kernel
theorem dX8_archiveUnused_17 : decode cX8_archiveUnused 17 = .ok (.istore_n 3, 1) := by decide +kernel
theorem dX8_archiveUnused_18 : decode cX8_archiveUnused 18 = .ok (.iload_n 3, 1) := by decide +kernel
theorem dX8_archiveUnused_19 : decode cX8_archiveUnused 19 = .ok (.aload_n 0, 1) := by decide +kernel
theorem dX8_archiveUnused_20 : decode cX8_archiveUnused 20 = .ok (.getfield 12, 3) := by decide +kernel
theorem dX8_archiveUnused_23 : decode cX8_archiveUnused 23 = .ok (.getfield 191, 3) := by decide +kernel
theorem dX8_archiveUnused_26 : decode cX8_archiveUnused 26 = .ok (.if_icmp .ge 33, 3) := by decide +kernel
theorem dX8_archiveUnused_29 : decode cX8_archiveUnused 29 = .ok (.iload_n 2, 1) := by decide +kernel
theorem dX8_archiveUnused_30 : decode cX8_archiveUnused 30 = .ok (.iload_n 3, 1) := by decide +kernel
theorem dX8_archiveUnused_31 : decode cX8_archiveUnused 31 = .ok (.invokestatic 133, 3) := by decide +kernel
theorem dX8_archiveUnused_34 : decode cX8_archiveUnused 34 = .ok (.ifCond .ne 19, 3) := by decide +kernel
theorem dX8_archiveUnused_37 : decode cX8_archiveUnused 37 = .ok (.aload_n 0, 1) := by decide +kernel
theorem dX8_archiveUnused_38 : decode cX8_archiveUnused 38 = .ok (.getfield 12, 3) := by decide +kernel
theorem dX8_archiveUnused_41 : decode cX8_archiveUnused 41 = .ok (.dup, 1) := by decide +kernel
theorem dX8_archiveUnused_42 : decode cX8_archiveUnused 42 = .ok (.getfield 185, 3) := by decide +kernel
theorem dX8_archiveUnused_45 : decode cX8_archiveUnused 45 = .ok (.iload_n 3, 1) := by decide +kernel
theorem dX8_archiveUnused_46 : decode cX8_archiveUnused 46 = .ok (.invokestatic 174, 3) := by decide +kernel
theorem dX8_archiveUnused_49 : decode cX8_archiveUnused 49 = .ok (.ior, 1) := by decide +kernel
theorem dX8_archiveUnused_50 : decode cX8_archiveUnused 50 = .ok (.putfield 185, 3) := by decide +kernel
theorem dX8_archiveUnused_53 : decode cX8_archiveUnused 53 = .ok (.iinc 3 1, 3) := by decide +kernel
theorem dX8_archiveUnused_56 : decode cX8_archiveUnused 56 = .ok (.goto (-38), 3) := by decide +kernel
theorem dX8_archiveUnused_59 : decode cX8_archiveUnused 59 = .ok (.aload_n 0, 1) := by decide +kernel
theorem dX8_archiveUnused_60 : decode cX8_archiveUnused 60 = .ok (.getfield 12, 3) := by decide +kernel
theorem dX8_archiveUnused_63 : decode cX8_archiveUnused 63 = .ok (.getfield 185, 3) := by decide +kernel
theorem dX8_archiveUnused_66 : decode cX8_archiveUnused 66 = .ok (.invokestatic 180, 3) := by decide +kernel
theorem dX8_archiveUnused_69 : decode cX8_archiveUnused 69 = .ok (.iload_n 1, 1) := by decide +kernel
theorem dX8_archiveUnused_70 : decode cX8_archiveUnused 70 = .ok (.isub, 1) := by decide +kernel
theorem dX8_archiveUnused_71 : decode cX8_archiveUnused 71 = .ok (.ireturn, 1) := by decide +kernel
def f_X8_archiveUnused_L18 (r7 : Int32) (r12 : Int32) (j59 : Mem → Option (Int32 × Mem)) : Nat → Mem → Int32 → Option (Int32 × Mem)
  | 0, _, _ => none
  | n18 + 1, V18, x3_18 =>
    if (V18 1 1) ≤ x3_18 then
      j59 V18
    else
      bd (f_X9_contains V18 r12 x3_18) fun r31 V31 =>
      jn (α := Mem → Option (Int32 × Mem)) (fun j53 =>
        if r31 = 0 then
          bd (f_X9_setOf V31 x3_18) fun r46 V46 =>
          lt (stv V46 1 0 ((V31 1 0) ||| r46)) fun V50 =>
          j53 V50
        else
          j53 V31
      ) (fun (V53 : Mem) =>
        (f_X8_archiveUnused_L18 r7 r12 j59 n18) V53 (x3_18 + 1)
      )
def f_X8_archiveUnused (V : Mem) : Option (Int32 × Mem) :=
  bd (f_J6_bitCount_0f7a4 V (V 1 0)) fun r7 V7 =>
  bd (f_X8_usedSet V7) fun r12 V12 =>
  jn (α := Mem → Option (Int32 × Mem)) (fun j59 =>
    f_X8_archiveUnused_L18 r7 r12 j59 FU V12 0
  ) (fun (V59 : Mem) =>
    bd (f_J6_bitCount_0f7a4 V59 (V59 1 0)) fun r66 V66 =>
    some ((r66 - r7), V66)
  )
theorem cv_X8_archiveUnused : CalV yX8_archiveUnused cX8_archiveUnused 4 (some .int) 0 := ⟨⟨⟨by decide +kernel, by decide +kernel⟩, tw_1_2, tw_2_44, by decide +kernel⟩, tw_2_42, tw_2_43⟩
set_option maxRecDepth 100000 in
set_option maxHeartbeats 4000000 in
theorem m_X8_archiveUnused (l : Launch) (E : En) (ad : Nat → Nat) (V : Mem) (r : Int32) (Vz : Mem) (hf : f_X8_archiveUnused V = some (r, Vz)) : MR l E ad yX8_archiveUnused cX8_archiveUnused 4 (some .int) 31 [.ref (ad 0)] V (some (.int r)) Vz := by
  refine ent (E := E) (ad := ad) (V := V) "LetterRepository$Store" (by decide +kernel) rfl (Nat.le_of_ble_eq_true rfl) ?_
  intro p e s m below meth c ls hC hI hl
  have hx := hC.1
  have hb := hC.2.1
  have hl : lv_has ls 4 [(0, .ref (ad 0))] := hl
  unfold f_X8_archiveUnused at hf
  refine lv_aload_n hx hb dX8_archiveUnused_0 rfl (lv_at hl 0 rfl) ?_
  refine g_0_revisions hC hI tw_1_99 dX8_archiveUnused_1 ?_
  refine gN_1_archived hC hI tw_1_75 dX8_archiveUnused_4 ?_
  obtain ⟨r7, V7, q7, hf⟩ := gbd hf
  refine k_J6_bitCount_0f7a4 hC hI hl.1 q7 tw_2_45 ⟨Nat.le_of_ble_eq_true rfl, Nat.le_of_ble_eq_true rfl⟩ ⟨Nat.le_refl _, Nat.le_refl _⟩ (Nat.le_of_ble_eq_true rfl) dX8_archiveUnused_7 (fun H locs hI => ?_)
  refine lv_istore_n (lv' := [(1, .int r7), (0, .ref (ad 0))]) hx hb dX8_archiveUnused_10 rfl hl (Nat.lt_of_lt_of_eq (by decide) rfl) rfl (fun ls hl => ?_)
  refine lv_aload_n hx hb dX8_archiveUnused_11 rfl (lv_at hl 1 rfl) ?_
  obtain ⟨r12, V12, q12, hf⟩ := gbd hf
  refine k_X8_usedSet hC hI hl.1 q12 tw_2_51 ⟨Nat.le_of_ble_eq_true rfl, Nat.le_of_ble_eq_true rfl⟩ ⟨Nat.le_refl _, Nat.le_refl _⟩ (Nat.le_of_ble_eq_true rfl) dX8_archiveUnused_12 (fun H locs hI => ?_)
  refine lv_istore_n (lv' := [(2, .int r12), (1, .int r7), (0, .ref (ad 0))]) hx hb dX8_archiveUnused_15 rfl hl (Nat.lt_of_lt_of_eq (by decide) rfl) rfl (fun ls hl => ?_)
  refine lv_iconst (v := 0) hx hb dX8_archiveUnused_16 rfl ?_
  refine lv_istore_n (lv' := [(3, .int 0), (2, .int r12), (1, .int r7), (0, .ref (ad 0))]) hx hb dX8_archiveUnused_17 rfl hl (Nat.lt_of_lt_of_eq (by decide) rfl) rfl (fun ls hl => ?_)
  obtain ⟨j59, hj59, hf⟩ := gj hf
  have J59 : ∀ (V59 : Mem) (H : Heap) (locs : List Loc) (ls : Array Slot), j59 V59 = some (r, Vz) → In E ad V59 s H locs → lv_has ls 4 [(0, .ref (ad 0)), (1, .int r7)] → W p l e (rmd 31) s m ([.ref (ad 0)] : List Value).toArray below meth c H locs 0 0 (MQ below (QR E ad (some (.int r)) Vz) ([.ref (ad 0)] : List Value).toArray s 0 0 (ours E)) (F0 m 59 ls []) := by
    intro V59 H locs ls hf hI hl
    rw [hj59] at hf
    dsimp only at hf
    refine lv_aload_n hx hb dX8_archiveUnused_59 rfl (lv_at hl 0 rfl) ?_
    refine g_0_revisions hC hI tw_1_99 dX8_archiveUnused_60 ?_
    refine gN_1_archived hC hI tw_1_75 dX8_archiveUnused_63 ?_
    obtain ⟨r66, V66, q66, hf⟩ := gbd hf
    refine k_J6_bitCount_0f7a4 hC hI hl.1 q66 tw_2_45 ⟨Nat.le_of_ble_eq_true rfl, Nat.le_of_ble_eq_true rfl⟩ ⟨Nat.le_refl _, Nat.le_refl _⟩ (Nat.le_of_ble_eq_true rfl) dX8_archiveUnused_66 (fun H locs hI => ?_)
    refine lv_iload_n hx hb dX8_archiveUnused_69 rfl (lv_at hl 1 rfl) ?_
    refine lv_isub hx hb dX8_archiveUnused_70 ?_
    exact r_iret2 hC hI hf dX8_archiveUnused_71
  have L18 : ∀ (n18 : Nat) (V18 : Mem) (x3_18 : Int32) (H : Heap) (locs : List Loc) (ls : Array Slot), f_X8_archiveUnused_L18 r7 r12 j59 n18 V18 x3_18 = some (r, Vz) → In E ad V18 s H locs → lv_has ls 4 [(0, .ref (ad 0)), (1, .int r7), (2, .int r12), (3, .int x3_18)] → W p l e (rmd 31) s m ([.ref (ad 0)] : List Value).toArray below meth c H locs 0 0 (MQ below (QR E ad (some (.int r)) Vz) ([.ref (ad 0)] : List Value).toArray s 0 0 (ours E)) (F0 m 18 ls []) := by
    intro n18
    induction n18 with
    | zero => intro V18 x3_18 H locs ls hf hI hl; cases hf
    | succ n18 ih18 =>
      intro V18 x3_18 H locs ls hf hI hl
      rw [f_X8_archiveUnused_L18.eq_2] at hf
      refine lv_iload_n hx hb dX8_archiveUnused_18 rfl (lv_at hl 3 rfl) ?_
      refine lv_aload_n hx hb dX8_archiveUnused_19 rfl (lv_at hl 0 rfl) ?_
      refine g_0_revisions hC hI tw_1_99 dX8_archiveUnused_20 ?_
      refine gN_1_count hC hI tw_1_79 dX8_archiveUnused_23 ?_
      refine lv_icmp_ge (tgt := 59) hx hb dX8_archiveUnused_26 (by decide) (fun c26 => ?_) (fun c26 => ?_)
      · have hf := gt hf c26
        exact J59 _ _ _ _ hf hI (lv_sub hl [0, 1] rfl)
      · have hf := gf hf c26
        refine lv_iload_n hx hb dX8_archiveUnused_29 rfl (lv_at hl 2 rfl) ?_
        refine lv_iload_n hx hb dX8_archiveUnused_30 rfl (lv_at hl 3 rfl) ?_
        obtain ⟨r31, V31, q31, hf⟩ := gbd hf
        refine kN_X9_contains hC hI hl.1 q31 tw_2_88 ⟨Nat.le_of_ble_eq_true rfl, Nat.le_of_ble_eq_true rfl⟩ ⟨Nat.le_refl _, Nat.le_refl _⟩ (Nat.le_of_ble_eq_true rfl) dX8_archiveUnused_31 (fun H locs hI => ?_)
        obtain ⟨j53, hj53, hf⟩ := gj hf
        have J53 : ∀ (V53 : Mem) (H : Heap) (locs : List Loc) (ls : Array Slot), j53 V53 = some (r, Vz) → In E ad V53 s H locs → lv_has ls 4 [(0, .ref (ad 0)), (1, .int r7), (2, .int r12), (3, .int x3_18)] → W p l e (rmd 31) s m ([.ref (ad 0)] : List Value).toArray below meth c H locs 0 0 (MQ below (QR E ad (some (.int r)) Vz) ([.ref (ad 0)] : List Value).toArray s 0 0 (ours E)) (F0 m 53 ls []) := by
          intro V53 H locs ls hf hI hl
          rw [hj53] at hf
          dsimp only at hf
          refine lv_iinc (v := (x3_18 + 1)) (lv' := [(3, .int (x3_18 + 1)), (0, .ref (ad 0)), (1, .int r7), (2, .int r12)]) hx hb dX8_archiveUnused_53 hl (k := 3) rfl rfl (Nat.lt_of_lt_of_eq (by decide) rfl) rfl (fun ls hl => ?_)
          refine lv_goto (tgt := 18) hx hb dX8_archiveUnused_56 (by decide) ?_
          exact ih18 _ _ _ _ _ hf hI (lv_sub hl [1, 2, 3, 0] rfl)
        refine lv_if_ne (tgt := 53) hx hb dX8_archiveUnused_34 (by decide) (fun c34 => ?_) (fun c34 => ?_)
        · have hf := gf hf c34
          exact J53 _ _ _ _ hf hI (lv_sub hl [0, 1, 2, 3] rfl)
        · have hf := gt hf c34
          refine lv_aload_n hx hb dX8_archiveUnused_37 rfl (lv_at hl 0 rfl) ?_
          refine g_0_revisions hC hI tw_1_99 dX8_archiveUnused_38 ?_
          refine lv_dup hx hb dX8_archiveUnused_41 rfl ?_
          refine gN_1_archived hC hI tw_1_75 dX8_archiveUnused_42 ?_
          refine lv_iload_n hx hb dX8_archiveUnused_45 rfl (lv_at hl 3 rfl) ?_
          obtain ⟨r46, V46, q46, hf⟩ := gbd hf
          refine kN_X9_setOf hC hI hl.1 q46 tw_2_89 ⟨Nat.le_of_ble_eq_true rfl, Nat.le_of_ble_eq_true rfl⟩ ⟨Nat.le_refl _, Nat.le_refl _⟩ (Nat.le_of_ble_eq_true rfl) dX8_archiveUnused_46 (fun H locs hI => ?_)
          refine lv_ior hx hb dX8_archiveUnused_49 ?_
          obtain ⟨V50, e50, hf⟩ := gl hf
          refine pN_1_archived hC hI  e50 tw_1_75 dX8_archiveUnused_50 (fun H locs hI => ?_)
          exact J53 _ _ _ _ hf hI (lv_sub hl [0, 1, 2, 3] rfl)
  exact L18 _ _ _ _ _ _ hf hI (lv_sub hl [3, 2, 1, 0] rfl)
theorem k_X8_archiveUnused {p : Program} {l : Launch} {e : Env} {R : Room} {cells slots : Nat} {s : State} {m : MethodId} {args : Array Value} {below : List Frame} {meth : Method} {c : Code} {H : Heap} {locs : List Loc} {Q : State → Prop} {E : En} {ad : Nat → Nat} {V : Mem} {ow : String} {b : ByteArray} {n : Nat} {ret : Option FieldType} {pc index : Nat} {ls : Array Slot} {rest : List Value} {r : Int32} {V1 : Mem} (hC : Cx p s m args c meth E ow b n ret) (hI : In E ad V s H locs) (hsz : ls.size = n) (hf : f_X8_archiveUnused V = some (r, V1)) (hl : Cond.methodLink ow index yX8_archiveUnused ∈ TB) (hR : 31 + 1 ≤ R.frames ∧ 8 + (4 + 11) + 40 * 31 ≤ R.locals) (hcs : cells ≤ R.cells ∧ slots ≤ R.slots) (hw : (rest.map fun v => v.category).sum ≤ 8) (hdg : decode b pc = .ok (.invokevirtual index, 3)) (kk : ∀ (H1 : Heap) (locs1 : List Loc), In E ad V1 s H1 locs1 → W p l e R s m args below meth c H1 locs1 cells slots Q (F0 m (pc + 3) ls ((.int r) :: rest))) : W p l e R s m args below meth c H locs cells slots Q (F0 m pc ls (.ref (ad 0) :: rest)) :=
  r_calV (As := []) (rest := rest) hC hI hsz (m_X8_archiveUnused l E ad V r _ hf) cv_X8_archiveUnused hl (by decide) (ce_0 _) rfl rfl rfl hR hcs hw hdg kk

theorem dX8_ancestorsAgree_0 : decode cX8_ancestorsAgree 0 = .ok (.iconst 0, 1) := by decide +kernel
theorem dX8_ancestorsAgree_1 : decode cX8_ancestorsAgree 1 = .ok (.istore_n 1, 1) := by decide +kernel
theorem dX8_ancestorsAgree_2 : decode cX8_ancestorsAgree 2 = .ok (.iload_n 1, 1) := by decide +kernel
theorem dX8_ancestorsAgree_3 : decode cX8_ancestorsAgree 3 = .ok (.aload_n 0, 1) := by decide +kernel
theorem dX8_ancestorsAgree_4 : decode cX8_ancestorsAgree 4 = .ok (.getfield 33, 3) := by decide +kernel
theorem dX8_ancestorsAgree_7 : decode cX8_ancestorsAgree 7 = .ok (.if_icmp .ge 63, 3) := by decide +kernel
theorem dX8_ancestorsAgree_10 : decode cX8_ancestorsAgree 10 = .ok (.iconst 0, 1) := by decide +kernel
theorem dX8_ancestorsAgree_11 : decode cX8_ancestorsAgree 11 = .ok (.istore_n 2, 1) := by decide +kernel
theorem dX8_ancestorsAgree_12 : decode cX8_ancestorsAgree 12 = .ok (.iload_n 2, 1) := by decide +kernel
theorem dX8_ancestorsAgree_13 : decode cX8_ancestorsAgree 13 = .ok (.aload_n 0, 1) := by decide +kernel
theorem dX8_ancestorsAgree_14 : decode cX8_ancestorsAgree 14 = .ok (.getfield 33, 3) := by decide +kernel
theorem dX8_ancestorsAgree_17 : decode cX8_ancestorsAgree 17 = .ok (.if_icmp .ge 47, 3) := by decide +kernel
theorem dX8_ancestorsAgree_20 : decode cX8_ancestorsAgree 20 = .ok (.aload_n 0, 1) := by decide +kernel
theorem dX8_ancestorsAgree_21 : decode cX8_ancestorsAgree 21 = .ok (.iload_n 1, 1) := by decide +kernel
theorem dX8_ancestorsAgree_22 : decode cX8_ancestorsAgree 22 = .ok (.invokevirtual 55, 3) := by decide +kernel
theorem dX8_ancestorsAgree_25 : decode cX8_ancestorsAgree 25 = .ok (.istore_n 3, 1) := by decide +kernel
theorem dX8_ancestorsAgree_26 : decode cX8_ancestorsAgree 26 = .ok (.aload_n 0, 1) := by decide +kernel
theorem dX8_ancestorsAgree_27 : decode cX8_ancestorsAgree 27 = .ok (.iload_n 2, 1) := by decide +kernel
theorem dX8_ancestorsAgree_28 : decode cX8_ancestorsAgree 28 = .ok (.invokevirtual 55, 3) := by decide +kernel
theorem dX8_ancestorsAgree_31 : decode cX8_ancestorsAgree 31 = .ok (.istore 4, 2) := by decide +kernel
theorem dX8_ancestorsAgree_33 : decode cX8_ancestorsAgree 33 = .ok (.aload_n 0, 1) := by decide +kernel
theorem dX8_ancestorsAgree_34 : decode cX8_ancestorsAgree 34 = .ok (.getfield 12, 3) := by decide +kernel
theorem dX8_ancestorsAgree_37 : decode cX8_ancestorsAgree 37 = .ok (.iload_n 3, 1) := by decide +kernel
theorem dX8_ancestorsAgree_38 : decode cX8_ancestorsAgree 38 = .ok (.iload 4, 2) := by decide +kernel
theorem dX8_ancestorsAgree_40 : decode cX8_ancestorsAgree 40 = .ok (.invokevirtual 194, 3) := by decide +kernel
theorem dX8_ancestorsAgree_43 : decode cX8_ancestorsAgree 43 = .ok (.aload_n 0, 1) := by decide +kernel
theorem dX8_ancestorsAgree_44 : decode cX8_ancestorsAgree 44 = .ok (.getfield 12, 3) := by decide +kernel
theorem dX8_ancestorsAgree_47 : decode cX8_ancestorsAgree 47 = .ok (.iload_n 3, 1) := by decide +kernel
theorem dX8_ancestorsAgree_48 : decode cX8_ancestorsAgree 48 = .ok (.iload 4, 2) := by decide +kernel
theorem dX8_ancestorsAgree_50 : decode cX8_ancestorsAgree 50 = .ok (.invokevirtual 142, 3) := by decide +kernel
theorem dX8_ancestorsAgree_53 : decode cX8_ancestorsAgree 53 = .ok (.if_icmp .eq 5, 3) := by decide +kernel
theorem dX8_ancestorsAgree_56 : decode cX8_ancestorsAgree 56 = .ok (.iconst 0, 1) := by decide +kernel
theorem dX8_ancestorsAgree_57 : decode cX8_ancestorsAgree 57 = .ok (.ireturn, 1) := by decide +kernel
theorem dX8_ancestorsAgree_58 : decode cX8_ancestorsAgree 58 = .ok (.iinc 2 1, 3) := by decide +kernel
theorem dX8_ancestorsAgree_61 : decode cX8_ancestorsAgree 61 = .ok (.goto (-49), 3) := by decide +kernel
theorem dX8_ancestorsAgree_64 : decode cX8_ancestorsAgree 64 = .ok (.iinc 1 1, 3) := by decide +kernel
theorem dX8_ancestorsAgree_67 : decode cX8_ancestorsAgree 67 = .ok (.goto (-65), 3) := by decide +kernel
theorem dX8_ancestorsAgree_70 : decode cX8_ancestorsAgree 70 = .ok (.iconst 1, 1) := by decide +kernel
theorem dX8_ancestorsAgree_71 : decode cX8_ancestorsAgree 71 = .ok (.ireturn, 1) := by decide +kernel
def f_X8_ancestorsAgree_L12 (x1_2 : Int32) (j64 : Mem → Option (Int32 × Mem)) : Nat → Mem → Int32 → Option (Int32 × Mem)
  | 0, _, _ => none
  | n12 + 1, V12, x2_12 =>
    if (V12 0 0) ≤ x2_12 then
      j64 V12
    else
      bd (f_X8_headOf V12 x1_2) fun r22 V22 =>
      bd (f_X8_headOf V22 x2_12) fun r28 V28 =>
      bd (f_X6_latestCommon V28 r22 r28) fun r40 V40 =>
      bd (f_X6_latestCommonBySets V40 r22 r28) fun r50 V50 =>
      if r40 = r50 then
        (f_X8_ancestorsAgree_L12 x1_2 j64 n12) V50 (x2_12 + 1)
      else
        some (0, V50)
def f_X8_ancestorsAgree_L2 : Nat → Mem → Int32 → Option (Int32 × Mem)
  | 0, _, _ => none
  | n2 + 1, V2, x1_2 =>
    if (V2 0 0) ≤ x1_2 then
      some (1, V2)
    else
      jn (α := Mem → Option (Int32 × Mem)) (fun j64 =>
        f_X8_ancestorsAgree_L12 x1_2 j64 FU V2 0
      ) (fun (V64 : Mem) =>
        (f_X8_ancestorsAgree_L2 n2) V64 (x1_2 + 1)
      )
def f_X8_ancestorsAgree (V : Mem) : Option (Int32 × Mem) :=
  f_X8_ancestorsAgree_L2 FU V 0
theorem cv_X8_ancestorsAgree : CalV yX8_ancestorsAgree cX8_ancestorsAgree 5 (some .boolean) 0 := ⟨⟨⟨by decide +kernel, by decide +kernel⟩, tw_1_2, tw_2_168, by decide +kernel⟩, tw_2_166, tw_2_167⟩
set_option maxRecDepth 100000 in
set_option maxHeartbeats 4000000 in
theorem m_X8_ancestorsAgree (l : Launch) (E : En) (ad : Nat → Nat) (V : Mem) (r : Int32) (Vz : Mem) (hf : f_X8_ancestorsAgree V = some (r, Vz)) : MR l E ad yX8_ancestorsAgree cX8_ancestorsAgree 5 (some .boolean) 31 [.ref (ad 0)] V (some (.int r)) Vz := by
  refine ent (E := E) (ad := ad) (V := V) "LetterRepository$Store" (by decide +kernel) rfl (Nat.le_of_ble_eq_true rfl) ?_
  intro p e s m below meth c ls hC hI hl
  have hx := hC.1
  have hb := hC.2.1
  have hl : lv_has ls 5 [(0, .ref (ad 0))] := hl
  unfold f_X8_ancestorsAgree at hf
  refine lv_iconst (v := 0) hx hb dX8_ancestorsAgree_0 rfl ?_
  refine lv_istore_n (lv' := [(1, .int 0), (0, .ref (ad 0))]) hx hb dX8_ancestorsAgree_1 rfl hl (Nat.lt_of_lt_of_eq (by decide) rfl) rfl (fun ls hl => ?_)
  have L2 : ∀ (n2 : Nat) (V2 : Mem) (x1_2 : Int32) (H : Heap) (locs : List Loc) (ls : Array Slot), f_X8_ancestorsAgree_L2 n2 V2 x1_2 = some (r, Vz) → In E ad V2 s H locs → lv_has ls 5 [(0, .ref (ad 0)), (1, .int x1_2)] → W p l e (rmd 31) s m ([.ref (ad 0)] : List Value).toArray below meth c H locs 0 0 (MQ below (QR E ad (some (.int r)) Vz) ([.ref (ad 0)] : List Value).toArray s 0 0 (ours E)) (F0 m 2 ls []) := by
    intro n2
    induction n2 with
    | zero => intro V2 x1_2 H locs ls hf hI hl; cases hf
    | succ n2 ih2 =>
      intro V2 x1_2 H locs ls hf hI hl
      rw [f_X8_ancestorsAgree_L2.eq_2] at hf
      refine lv_iload_n hx hb dX8_ancestorsAgree_2 rfl (lv_at hl 1 rfl) ?_
      refine lv_aload_n hx hb dX8_ancestorsAgree_3 rfl (lv_at hl 0 rfl) ?_
      refine g_0_branchCount hC hI tw_1_104 dX8_ancestorsAgree_4 ?_
      refine lv_icmp_ge (tgt := 70) hx hb dX8_ancestorsAgree_7 (by decide) (fun c7 => ?_) (fun c7 => ?_)
      · have hf := gt hf c7
        refine lv_iconst (v := 1) hx hb dX8_ancestorsAgree_70 rfl ?_
        exact r_zret2 hC hI (.inr rfl) hf dX8_ancestorsAgree_71
      · have hf := gf hf c7
        refine lv_iconst (v := 0) hx hb dX8_ancestorsAgree_10 rfl ?_
        refine lv_istore_n (lv' := [(2, .int 0), (0, .ref (ad 0)), (1, .int x1_2)]) hx hb dX8_ancestorsAgree_11 rfl hl (Nat.lt_of_lt_of_eq (by decide) rfl) rfl (fun ls hl => ?_)
        obtain ⟨j64, hj64, hf⟩ := gj hf
        have J64 : ∀ (V64 : Mem) (H : Heap) (locs : List Loc) (ls : Array Slot), j64 V64 = some (r, Vz) → In E ad V64 s H locs → lv_has ls 5 [(0, .ref (ad 0)), (1, .int x1_2)] → W p l e (rmd 31) s m ([.ref (ad 0)] : List Value).toArray below meth c H locs 0 0 (MQ below (QR E ad (some (.int r)) Vz) ([.ref (ad 0)] : List Value).toArray s 0 0 (ours E)) (F0 m 64 ls []) := by
          intro V64 H locs ls hf hI hl
          rw [hj64] at hf
          dsimp only at hf
          refine lv_iinc (v := (x1_2 + 1)) (lv' := [(1, .int (x1_2 + 1)), (0, .ref (ad 0))]) hx hb dX8_ancestorsAgree_64 hl (k := 1) rfl rfl (Nat.lt_of_lt_of_eq (by decide) rfl) rfl (fun ls hl => ?_)
          refine lv_goto (tgt := 2) hx hb dX8_ancestorsAgree_67 (by decide) ?_
          exact ih2 _ _ _ _ _ hf hI (lv_sub hl [1, 0] rfl)
        have L12 : ∀ (n12 : Nat) (V12 : Mem) (x2_12 : Int32) (H : Heap) (locs : List Loc) (ls : Array Slot), f_X8_ancestorsAgree_L12 x1_2 j64 n12 V12 x2_12 = some (r, Vz) → In E ad V12 s H locs → lv_has ls 5 [(0, .ref (ad 0)), (1, .int x1_2), (2, .int x2_12)] → W p l e (rmd 31) s m ([.ref (ad 0)] : List Value).toArray below meth c H locs 0 0 (MQ below (QR E ad (some (.int r)) Vz) ([.ref (ad 0)] : List Value).toArray s 0 0 (ours E)) (F0 m 12 ls []) := by
          intro n12
          induction n12 with
          | zero => intro V12 x2_12 H locs ls hf hI hl; cases hf
          | succ n12 ih12 =>
            intro V12 x2_12 H locs ls hf hI hl
            rw [f_X8_ancestorsAgree_L12.eq_2] at hf
            refine lv_iload_n hx hb dX8_ancestorsAgree_12 rfl (lv_at hl 2 rfl) ?_
            refine lv_aload_n hx hb dX8_ancestorsAgree_13 rfl (lv_at hl 0 rfl) ?_
            refine g_0_branchCount hC hI tw_1_104 dX8_ancestorsAgree_14 ?_
            refine lv_icmp_ge (tgt := 64) hx hb dX8_ancestorsAgree_17 (by decide) (fun c17 => ?_) (fun c17 => ?_)
            · have hf := gt hf c17
              exact J64 _ _ _ _ hf hI (lv_sub hl [0, 1] rfl)
            · have hf := gf hf c17
              refine lv_aload_n hx hb dX8_ancestorsAgree_20 rfl (lv_at hl 0 rfl) ?_
              refine lv_iload_n hx hb dX8_ancestorsAgree_21 rfl (lv_at hl 1 rfl) ?_
              obtain ⟨r22, V22, q22, hf⟩ := gbd hf
              refine k_X8_headOf hC hI hl.1 q22 tw_2_55 ⟨Nat.le_of_ble_eq_true rfl, Nat.le_of_ble_eq_true rfl⟩ ⟨Nat.le_refl _, Nat.le_refl _⟩ (Nat.le_of_ble_eq_true rfl) dX8_ancestorsAgree_22 (fun H locs hI => ?_)
              refine lv_istore_n (lv' := [(3, .int r22), (0, .ref (ad 0)), (1, .int x1_2), (2, .int x2_12)]) hx hb dX8_ancestorsAgree_25 rfl hl (Nat.lt_of_lt_of_eq (by decide) rfl) rfl (fun ls hl => ?_)
              refine lv_aload_n hx hb dX8_ancestorsAgree_26 rfl (lv_at hl 1 rfl) ?_
              refine lv_iload_n hx hb dX8_ancestorsAgree_27 rfl (lv_at hl 3 rfl) ?_
              obtain ⟨r28, V28, q28, hf⟩ := gbd hf
              refine k_X8_headOf hC hI hl.1 q28 tw_2_55 ⟨Nat.le_of_ble_eq_true rfl, Nat.le_of_ble_eq_true rfl⟩ ⟨Nat.le_refl _, Nat.le_refl _⟩ (Nat.le_of_ble_eq_true rfl) dX8_ancestorsAgree_28 (fun H locs hI => ?_)
              refine lv_istore (lv' := [(4, .int r28), (3, .int r22), (0, .ref (ad 0)), (1, .int x1_2), (2, .int x2_12)]) hx hb dX8_ancestorsAgree_31 hl (Nat.lt_of_lt_of_eq (by decide) rfl) rfl (fun ls hl => ?_)
              refine lv_aload_n hx hb dX8_ancestorsAgree_33 rfl (lv_at hl 2 rfl) ?_
              refine g_0_revisions hC hI tw_1_99 dX8_ancestorsAgree_34 ?_
              refine lv_iload_n hx hb dX8_ancestorsAgree_37 rfl (lv_at hl 1 rfl) ?_
              refine lv_iload hx hb dX8_ancestorsAgree_38 (lv_at hl 0 rfl) ?_
              obtain ⟨r40, V40, q40, hf⟩ := gbd hf
              refine k_X6_latestCommon hC hI hl.1 q40 tw_2_169 ⟨Nat.le_of_ble_eq_true rfl, Nat.le_of_ble_eq_true rfl⟩ ⟨Nat.le_refl _, Nat.le_refl _⟩ (Nat.le_of_ble_eq_true rfl) dX8_ancestorsAgree_40 (fun H locs hI => ?_)
              refine lv_aload_n hx hb dX8_ancestorsAgree_43 rfl (lv_at hl 2 rfl) ?_
              refine g_0_revisions hC hI tw_1_99 dX8_ancestorsAgree_44 ?_
              refine lv_iload_n hx hb dX8_ancestorsAgree_47 rfl (lv_at hl 1 rfl) ?_
              refine lv_iload hx hb dX8_ancestorsAgree_48 (lv_at hl 0 rfl) ?_
              obtain ⟨r50, V50, q50, hf⟩ := gbd hf
              refine k_X6_latestCommonBySets hC hI hl.1 q50 tw_2_173 ⟨Nat.le_of_ble_eq_true rfl, Nat.le_of_ble_eq_true rfl⟩ ⟨Nat.le_refl _, Nat.le_refl _⟩ (Nat.le_of_ble_eq_true rfl) dX8_ancestorsAgree_50 (fun H locs hI => ?_)
              refine lv_icmp_eq (tgt := 58) hx hb dX8_ancestorsAgree_53 (by decide) (fun c53 => ?_) (fun c53 => ?_)
              · have hf := gt hf c53
                refine lv_iinc (v := (x2_12 + 1)) (lv' := [(2, .int (x2_12 + 1)), (4, .int r28), (3, .int r22), (0, .ref (ad 0)), (1, .int x1_2)]) hx hb dX8_ancestorsAgree_58 hl (k := 4) rfl rfl (Nat.lt_of_lt_of_eq (by decide) rfl) rfl (fun ls hl => ?_)
                refine lv_goto (tgt := 12) hx hb dX8_ancestorsAgree_61 (by decide) ?_
                exact ih12 _ _ _ _ _ hf hI (lv_sub hl [3, 4, 0] rfl)
              · have hf := gf hf c53
                refine lv_iconst (v := 0) hx hb dX8_ancestorsAgree_56 rfl ?_
                exact r_zret2 hC hI (.inl rfl) hf dX8_ancestorsAgree_57
        exact L12 _ _ _ _ _ _ hf hI (lv_sub hl [1, 2, 0] rfl)
  exact L2 _ _ _ _ _ _ hf hI (lv_sub hl [1, 0] rfl)
theorem k_X8_ancestorsAgree {p : Program} {l : Launch} {e : Env} {R : Room} {cells slots : Nat} {s : State} {m : MethodId} {args : Array Value} {below : List Frame} {meth : Method} {c : Code} {H : Heap} {locs : List Loc} {Q : State → Prop} {E : En} {ad : Nat → Nat} {V : Mem} {ow : String} {b : ByteArray} {n : Nat} {ret : Option FieldType} {pc index : Nat} {ls : Array Slot} {rest : List Value} {r : Int32} {V1 : Mem} (hC : Cx p s m args c meth E ow b n ret) (hI : In E ad V s H locs) (hsz : ls.size = n) (hf : f_X8_ancestorsAgree V = some (r, V1)) (hl : Cond.methodLink ow index yX8_ancestorsAgree ∈ TB) (hR : 31 + 1 ≤ R.frames ∧ 8 + (5 + 11) + 40 * 31 ≤ R.locals) (hcs : cells ≤ R.cells ∧ slots ≤ R.slots) (hw : (rest.map fun v => v.category).sum ≤ 8) (hdg : decode b pc = .ok (.invokevirtual index, 3)) (kk : ∀ (H1 : Heap) (locs1 : List Loc), In E ad V1 s H1 locs1 → W p l e R s m args below meth c H1 locs1 cells slots Q (F0 m (pc + 3) ls ((.int r) :: rest))) : W p l e R s m args below meth c H locs cells slots Q (F0 m pc ls (.ref (ad 0) :: rest)) :=
  r_calV (As := []) (rest := rest) hC hI hsz (m_X8_ancestorsAgree l E ad V r _ hf) cv_X8_ancestorsAgree hl (by decide) (ce_0 _) rfl rfl rfl hR hcs hw hdg kk

theorem dX8_originsAgree_0 : decode cX8_originsAgree 0 = .ok (.iconst 0, 1) := by decide +kernel
theorem dX8_originsAgree_1 : decode cX8_originsAgree 1 = .ok (.istore_n 1, 1) := by decide +kernel
theorem dX8_originsAgree_2 : decode cX8_originsAgree 2 = .ok (.iload_n 1, 1) := by decide +kernel
theorem dX8_originsAgree_3 : decode cX8_originsAgree 3 = .ok (.aload_n 0, 1) := by decide +kernel
theorem dX8_originsAgree_4 : decode cX8_originsAgree 4 = .ok (.getfield 33, 3) := by decide +kernel
theorem dX8_originsAgree_7 : decode cX8_originsAgree 7 = .ok (.if_icmp .ge 53, 3) := by decide +kernel
theorem dX8_originsAgree_10 : decode cX8_originsAgree 10 = .ok (.aload_n 0, 1) := by decide +kernel
theorem dX8_originsAgree_11 : decode cX8_originsAgree 11 = .ok (.iload_n 1, 1) := by decide +kernel
theorem dX8_originsAgree_12 : decode cX8_originsAgree 12 = .ok (.invokevirtual 55, 3) := by decide +kernel
theorem dX8_originsAgree_15 : decode cX8_originsAgree 15 = .ok (.istore_n 2, 1) := by decide +kernel
theorem dX8_originsAgree_16 : decode cX8_originsAgree 16 = .ok (.iconst 0, 1) := by decide +kernel
theorem dX8_originsAgree_17 : decode cX8_originsAgree 17 = .ok (.istore_n 3, 1) := by decide +kernel
theorem dX8_originsAgree_18 : decode cX8_originsAgree 18 = .ok (.iload_n 3, 1) := by decide +kernel
theorem dX8_originsAgree_19 : decode cX8_originsAgree 19 = .ok (.bipush 8, 2) := by decide +kernel
theorem dX8_originsAgree_21 : decode cX8_originsAgree 21 = .ok (.if_icmp .ge 33, 3) := by decide +kernel
theorem dX8_originsAgree_24 : decode cX8_originsAgree 24 = .ok (.aload_n 0, 1) := by decide +kernel
theorem dX8_originsAgree_25 : decode cX8_originsAgree 25 = .ok (.getfield 12, 3) := by decide +kernel
theorem dX8_originsAgree_28 : decode cX8_originsAgree 28 = .ok (.iload_n 2, 1) := by decide +kernel
theorem dX8_originsAgree_29 : decode cX8_originsAgree 29 = .ok (.iload_n 3, 1) := by decide +kernel
theorem dX8_originsAgree_30 : decode cX8_originsAgree 30 = .ok (.invokevirtual 197, 3) := by decide +kernel
theorem dX8_originsAgree_33 : decode cX8_originsAgree 33 = .ok (.aload_n 0, 1) := by decide +kernel
theorem dX8_originsAgree_34 : decode cX8_originsAgree 34 = .ok (.getfield 12, 3) := by decide +kernel
theorem dX8_originsAgree_37 : decode cX8_originsAgree 37 = .ok (.iload_n 2, 1) := by decide +kernel
theorem dX8_originsAgree_38 : decode cX8_originsAgree 38 = .ok (.iload_n 3, 1) := by decide +kernel
theorem dX8_originsAgree_39 : decode cX8_originsAgree 39 = .ok (.iconst 0, 1) := by decide +kernel
theorem dX8_originsAgree_40 : decode cX8_originsAgree 40 = .ok (.invokestatic 200, 3) := by decide +kernel
theorem dX8_originsAgree_43 : decode cX8_originsAgree 43 = .ok (.if_icmp .eq 5, 3) := by decide +kernel
theorem dX8_originsAgree_46 : decode cX8_originsAgree 46 = .ok (.iconst 0, 1) := by decide +kernel
theorem dX8_originsAgree_47 : decode cX8_originsAgree 47 = .ok (.ireturn, 1) := by decide +kernel
theorem dX8_originsAgree_48 : decode cX8_originsAgree 48 = .ok (.iinc 3 1, 3) := by decide +kernel
theorem dX8_originsAgree_51 : decode cX8_originsAgree 51 = .ok (.goto (-33), 3) := by decide +kernel
theorem dX8_originsAgree_54 : decode cX8_originsAgree 54 = .ok (.iinc 1 1, 3) := by decide +kernel
theorem dX8_originsAgree_57 : decode cX8_originsAgree 57 = .ok (.goto (-55), 3) := by decide +kernel
theorem dX8_originsAgree_60 : decode cX8_originsAgree 60 = .ok (.iconst 1, 1) := by decide +kernel
theorem dX8_originsAgree_61 : decode cX8_originsAgree 61 = .ok (.ireturn, 1) := by decide +kernel
def f_X8_originsAgree_L18 (x1_2 : Int32) (r12 : Int32) (j54 : Mem → Option (Int32 × Mem)) : Nat → Mem → Int32 → Option (Int32 × Mem)
  | 0, _, _ => none
  | n18 + 1, V18, x3_18 =>
    if 8 ≤ x3_18 then
      j54 V18
    else
      bd (f_X6_sourceOf V18 r12 x3_18) fun r30 V30 =>
      bd (f_X6_sourceByRecursion V30 r12 x3_18 0) fun r40 V40 =>
      if r30 = r40 then
        (f_X8_originsAgree_L18 x1_2 r12 j54 n18) V40 (x3_18 + 1)
      else
        some (0, V40)
def f_X8_originsAgree_L2 : Nat → Mem → Int32 → Option (Int32 × Mem)
  | 0, _, _ => none
  | n2 + 1, V2, x1_2 =>
    if (V2 0 0) ≤ x1_2 then
      some (1, V2)
    else
      bd (f_X8_headOf V2 x1_2) fun r12 V12 =>
      jn (α := Mem → Option (Int32 × Mem)) (fun j54 =>
        f_X8_originsAgree_L18 x1_2 r12 j54 FU V12 0
      ) (fun (V54 : Mem) =>
        (f_X8_originsAgree_L2 n2) V54 (x1_2 + 1)
      )
def f_X8_originsAgree (V : Mem) : Option (Int32 × Mem) :=
  f_X8_originsAgree_L2 FU V 0
theorem cv_X8_originsAgree : CalV yX8_originsAgree cX8_originsAgree 4 (some .boolean) 0 := ⟨⟨⟨by decide +kernel, by decide +kernel⟩, tw_1_2, tw_2_184, by decide +kernel⟩, tw_2_182, tw_2_183⟩
set_option maxRecDepth 100000 in
set_option maxHeartbeats 4000000 in
theorem m_X8_originsAgree (l : Launch) (E : En) (ad : Nat → Nat) (V : Mem) (r : Int32) (Vz : Mem) (hf : f_X8_originsAgree V = some (r, Vz)) : MR l E ad yX8_originsAgree cX8_originsAgree 4 (some .boolean) 31 [.ref (ad 0)] V (some (.int r)) Vz := by
  refine ent (E := E) (ad := ad) (V := V) "LetterRepository$Store" (by decide +kernel) rfl (Nat.le_of_ble_eq_true rfl) ?_
  intro p e s m below meth c ls hC hI hl
  have hx := hC.1
  have hb := hC.2.1
  have hl : lv_has ls 4 [(0, .ref (ad 0))] := hl
  unfold f_X8_originsAgree at hf
  refine lv_iconst (v := 0) hx hb dX8_originsAgree_0 rfl ?_
  refine lv_istore_n (lv' := [(1, .int 0), (0, .ref (ad 0))]) hx hb dX8_originsAgree_1 rfl hl (Nat.lt_of_lt_of_eq (by decide) rfl) rfl (fun ls hl => ?_)
  have L2 : ∀ (n2 : Nat) (V2 : Mem) (x1_2 : Int32) (H : Heap) (locs : List Loc) (ls : Array Slot), f_X8_originsAgree_L2 n2 V2 x1_2 = some (r, Vz) → In E ad V2 s H locs → lv_has ls 4 [(0, .ref (ad 0)), (1, .int x1_2)] → W p l e (rmd 31) s m ([.ref (ad 0)] : List Value).toArray below meth c H locs 0 0 (MQ below (QR E ad (some (.int r)) Vz) ([.ref (ad 0)] : List Value).toArray s 0 0 (ours E)) (F0 m 2 ls []) := by
    intro n2
    induction n2 with
    | zero => intro V2 x1_2 H locs ls hf hI hl; cases hf
    | succ n2 ih2 =>
      intro V2 x1_2 H locs ls hf hI hl
      rw [f_X8_originsAgree_L2.eq_2] at hf
      refine lv_iload_n hx hb dX8_originsAgree_2 rfl (lv_at hl 1 rfl) ?_
      refine lv_aload_n hx hb dX8_originsAgree_3 rfl (lv_at hl 0 rfl) ?_
      refine g_0_branchCount hC hI tw_1_104 dX8_originsAgree_4 ?_
      refine lv_icmp_ge (tgt := 60) hx hb dX8_originsAgree_7 (by decide) (fun c7 => ?_) (fun c7 => ?_)
      · have hf := gt hf c7
        refine lv_iconst (v := 1) hx hb dX8_originsAgree_60 rfl ?_
        exact r_zret2 hC hI (.inr rfl) hf dX8_originsAgree_61
      · have hf := gf hf c7
        refine lv_aload_n hx hb dX8_originsAgree_10 rfl (lv_at hl 0 rfl) ?_
        refine lv_iload_n hx hb dX8_originsAgree_11 rfl (lv_at hl 1 rfl) ?_
        obtain ⟨r12, V12, q12, hf⟩ := gbd hf
        refine k_X8_headOf hC hI hl.1 q12 tw_2_55 ⟨Nat.le_of_ble_eq_true rfl, Nat.le_of_ble_eq_true rfl⟩ ⟨Nat.le_refl _, Nat.le_refl _⟩ (Nat.le_of_ble_eq_true rfl) dX8_originsAgree_12 (fun H locs hI => ?_)
        refine lv_istore_n (lv' := [(2, .int r12), (0, .ref (ad 0)), (1, .int x1_2)]) hx hb dX8_originsAgree_15 rfl hl (Nat.lt_of_lt_of_eq (by decide) rfl) rfl (fun ls hl => ?_)
        refine lv_iconst (v := 0) hx hb dX8_originsAgree_16 rfl ?_
        refine lv_istore_n (lv' := [(3, .int 0), (2, .int r12), (0, .ref (ad 0)), (1, .int x1_2)]) hx hb dX8_originsAgree_17 rfl hl (Nat.lt_of_lt_of_eq (by decide) rfl) rfl (fun ls hl => ?_)
        obtain ⟨j54, hj54, hf⟩ := gj hf
        have J54 : ∀ (V54 : Mem) (H : Heap) (locs : List Loc) (ls : Array Slot), j54 V54 = some (r, Vz) → In E ad V54 s H locs → lv_has ls 4 [(0, .ref (ad 0)), (1, .int x1_2)] → W p l e (rmd 31) s m ([.ref (ad 0)] : List Value).toArray below meth c H locs 0 0 (MQ below (QR E ad (some (.int r)) Vz) ([.ref (ad 0)] : List Value).toArray s 0 0 (ours E)) (F0 m 54 ls []) := by
          intro V54 H locs ls hf hI hl
          rw [hj54] at hf
          dsimp only at hf
          refine lv_iinc (v := (x1_2 + 1)) (lv' := [(1, .int (x1_2 + 1)), (0, .ref (ad 0))]) hx hb dX8_originsAgree_54 hl (k := 1) rfl rfl (Nat.lt_of_lt_of_eq (by decide) rfl) rfl (fun ls hl => ?_)
          refine lv_goto (tgt := 2) hx hb dX8_originsAgree_57 (by decide) ?_
          exact ih2 _ _ _ _ _ hf hI (lv_sub hl [1, 0] rfl)
        have L18 : ∀ (n18 : Nat) (V18 : Mem) (x3_18 : Int32) (H : Heap) (locs : List Loc) (ls : Array Slot), f_X8_originsAgree_L18 x1_2 r12 j54 n18 V18 x3_18 = some (r, Vz) → In E ad V18 s H locs → lv_has ls 4 [(0, .ref (ad 0)), (1, .int x1_2), (2, .int r12), (3, .int x3_18)] → W p l e (rmd 31) s m ([.ref (ad 0)] : List Value).toArray below meth c H locs 0 0 (MQ below (QR E ad (some (.int r)) Vz) ([.ref (ad 0)] : List Value).toArray s 0 0 (ours E)) (F0 m 18 ls []) := by
          intro n18
          induction n18 with
          | zero => intro V18 x3_18 H locs ls hf hI hl; cases hf
          | succ n18 ih18 =>
            intro V18 x3_18 H locs ls hf hI hl
            rw [f_X8_originsAgree_L18.eq_2] at hf
            refine lv_iload_n hx hb dX8_originsAgree_18 rfl (lv_at hl 3 rfl) ?_
            refine lv_bipush (v := 8) hx hb dX8_originsAgree_19 rfl ?_
            refine lv_icmp_ge (tgt := 54) hx hb dX8_originsAgree_21 (by decide) (fun c21 => ?_) (fun c21 => ?_)
            · have hf := gt hf c21
              exact J54 _ _ _ _ hf hI (lv_sub hl [0, 1] rfl)
            · have hf := gf hf c21
              refine lv_aload_n hx hb dX8_originsAgree_24 rfl (lv_at hl 0 rfl) ?_
              refine g_0_revisions hC hI tw_1_99 dX8_originsAgree_25 ?_
              refine lv_iload_n hx hb dX8_originsAgree_28 rfl (lv_at hl 2 rfl) ?_
              refine lv_iload_n hx hb dX8_originsAgree_29 rfl (lv_at hl 3 rfl) ?_
              obtain ⟨r30, V30, q30, hf⟩ := gbd hf
              refine k_X6_sourceOf hC hI hl.1 q30 tw_2_185 ⟨Nat.le_of_ble_eq_true rfl, Nat.le_of_ble_eq_true rfl⟩ ⟨Nat.le_refl _, Nat.le_refl _⟩ (Nat.le_of_ble_eq_true rfl) dX8_originsAgree_30 (fun H locs hI => ?_)
              refine lv_aload_n hx hb dX8_originsAgree_33 rfl (lv_at hl 0 rfl) ?_
              refine g_0_revisions hC hI tw_1_99 dX8_originsAgree_34 ?_
              refine lv_iload_n hx hb dX8_originsAgree_37 rfl (lv_at hl 2 rfl) ?_
              refine lv_iload_n hx hb dX8_originsAgree_38 rfl (lv_at hl 3 rfl) ?_
              refine lv_iconst (v := 0) hx hb dX8_originsAgree_39 rfl ?_
              obtain ⟨r40, V40, q40, hf⟩ := gbd hf
              refine kN_X6_sourceByRecursion hC hI hl.1 q40 tw_2_197 ⟨Nat.le_of_ble_eq_true rfl, Nat.le_of_ble_eq_true rfl⟩ ⟨Nat.le_refl _, Nat.le_refl _⟩ (Nat.le_of_ble_eq_true rfl) dX8_originsAgree_40 (fun H locs hI => ?_)
              refine lv_icmp_eq (tgt := 48) hx hb dX8_originsAgree_43 (by decide) (fun c43 => ?_) (fun c43 => ?_)
              · have hf := gt hf c43
                refine lv_iinc (v := (x3_18 + 1)) (lv' := [(3, .int (x3_18 + 1)), (0, .ref (ad 0)), (1, .int x1_2), (2, .int r12)]) hx hb dX8_originsAgree_48 hl (k := 3) rfl rfl (Nat.lt_of_lt_of_eq (by decide) rfl) rfl (fun ls hl => ?_)
                refine lv_goto (tgt := 18) hx hb dX8_originsAgree_51 (by decide) ?_
                exact ih18 _ _ _ _ _ hf hI (lv_sub hl [1, 2, 3, 0] rfl)
              · have hf := gf hf c43
                refine lv_iconst (v := 0) hx hb dX8_originsAgree_46 rfl ?_
                exact r_zret2 hC hI (.inl rfl) hf dX8_originsAgree_47
        exact L18 _ _ _ _ _ _ hf hI (lv_sub hl [2, 3, 1, 0] rfl)
  exact L2 _ _ _ _ _ _ hf hI (lv_sub hl [1, 0] rfl)
theorem k_X8_originsAgree {p : Program} {l : Launch} {e : Env} {R : Room} {cells slots : Nat} {s : State} {m : MethodId} {args : Array Value} {below : List Frame} {meth : Method} {c : Code} {H : Heap} {locs : List Loc} {Q : State → Prop} {E : En} {ad : Nat → Nat} {V : Mem} {ow : String} {b : ByteArray} {n : Nat} {ret : Option FieldType} {pc index : Nat} {ls : Array Slot} {rest : List Value} {r : Int32} {V1 : Mem} (hC : Cx p s m args c meth E ow b n ret) (hI : In E ad V s H locs) (hsz : ls.size = n) (hf : f_X8_originsAgree V = some (r, V1)) (hl : Cond.methodLink ow index yX8_originsAgree ∈ TB) (hR : 31 + 1 ≤ R.frames ∧ 8 + (4 + 11) + 40 * 31 ≤ R.locals) (hcs : cells ≤ R.cells ∧ slots ≤ R.slots) (hw : (rest.map fun v => v.category).sum ≤ 8) (hdg : decode b pc = .ok (.invokevirtual index, 3)) (kk : ∀ (H1 : Heap) (locs1 : List Loc), In E ad V1 s H1 locs1 → W p l e R s m args below meth c H1 locs1 cells slots Q (F0 m (pc + 3) ls ((.int r) :: rest))) : W p l e R s m args below meth c H locs cells slots Q (F0 m pc ls (.ref (ad 0) :: rest)) :=
  r_calV (As := []) (rest := rest) hC hI hsz (m_X8_originsAgree l E ad V r _ hf) cv_X8_originsAgree hl (by decide) (ce_0 _) rfl rfl rfl hR hcs hw hdg kk

theorem dX8_refusalOf_0 : decode cX8_refusalOf 0 = .ok (.aload_n 1, 1) := by decide +kernel
theorem dX8_refusalOf_1 : decode cX8_refusalOf 1 = .ok (.iconst 0, 1) := by decide +kernel
theorem dX8_refusalOf_2 : decode cX8_refusalOf 2 = .ok (.invokevirtual 203, 3) := by decide +kernel
theorem dX8_refusalOf_5 : decode cX8_refusalOf 5 = .ok (.istore_n 2, 1) := by decide +kernel
theorem dX8_refusalOf_6 : decode cX8_refusalOf 6 = .ok (.aload_n 1, 1) := by decide +kernel
theorem dX8_refusalOf_7 : decode cX8_refusalOf 7 = .ok (.iconst 1, 1) := by decide +kernel
theorem dX8_refusalOf_8 : decode cX8_refusalOf 8 = .ok (.invokevirtual 203, 3) := by decide +kernel
theorem dX8_refusalOf_11 : decode cX8_refusalOf 11 = .ok (.istore_n 3, 1) := by decide +kernel
theorem dX8_refusalOf_12 : decode cX8_refusalOf 12 = .ok (.getstatic 208, 3) := by decide +kernel
theorem dX8_refusalOf_15 : decode cX8_refusalOf 15 = .ok (.aload_n 1, 1) := by decide +kernel
theorem dX8_refusalOf_16 : decode cX8_refusalOf 16 = .ok (.getfield 214, 3) := by decide +kernel
theorem dX8_refusalOf_19 : decode cX8_refusalOf 19 = .ok (.invokevirtual 218, 3) := by decide +kernel
theorem dX8_refusalOf_22 : decode cX8_refusalOf 22 = .ok (.iaload, 1) := by decide +kernel
theorem dX8_refusalOf_23 : decode cX8_refusalOf 23 = .ok (.tableswitch 139 1 12 #[61, 73, 79, 86, 92, 98, 105, 105, 112, 119, 126, 133], 61) := by decide +kernel
theorem dX8_refusalOf_84 : decode cX8_refusalOf 84 = .ok (.aload_n 0, 1) := by decide +kernel
theorem dX8_refusalOf_85 : decode cX8_refusalOf 85 = .ok (.iload_n 2, 1) := by decide +kernel
theorem dX8_refusalOf_86 : decode cX8_refusalOf 86 = .ok (.iload_n 3, 1) := by decide +kernel
theorem dX8_refusalOf_87 : decode cX8_refusalOf 87 = .ok (.aload_n 1, 1) := by decide +kernel
theorem dX8_refusalOf_88 : decode cX8_refusalOf 88 = .ok (.iconst 2, 1) := by decide +kernel
theorem dX8_refusalOf_89 : decode cX8_refusalOf 89 = .ok (.invokevirtual 203, 3) := by decide +kernel
theorem dX8_refusalOf_92 : decode cX8_refusalOf 92 = .ok (.invokevirtual 223, 3) := by decide +kernel
theorem dX8_refusalOf_95 : decode cX8_refusalOf 95 = .ok (.areturn, 1) := by decide +kernel
theorem dX8_refusalOf_96 : decode cX8_refusalOf 96 = .ok (.aload_n 0, 1) := by decide +kernel
theorem dX8_refusalOf_97 : decode cX8_refusalOf 97 = .ok (.iload_n 2, 1) := by decide +kernel
theorem dX8_refusalOf_98 : decode cX8_refusalOf 98 = .ok (.invokevirtual 227, 3) := by decide +kernel
theorem dX8_refusalOf_101 : decode cX8_refusalOf 101 = .ok (.areturn, 1) := by decide +kernel
theorem dX8_refusalOf_102 : decode cX8_refusalOf 102 = .ok (.aload_n 0, 1) := by decide +kernel
theorem dX8_refusalOf_103 : decode cX8_refusalOf 103 = .ok (.iload_n 2, 1) := by decide +kernel
theorem dX8_refusalOf_104 : decode cX8_refusalOf 104 = .ok (.iload_n 3, 1) := by decide +kernel
theorem dX8_refusalOf_105 : decode cX8_refusalOf 105 = .ok (.invokevirtual 231, 3) := by decide +kernel
theorem dX8_refusalOf_108 : decode cX8_refusalOf 108 = .ok (.areturn, 1) := by decide +kernel
theorem dX8_refusalOf_109 : decode cX8_refusalOf 109 = .ok (.aload_n 0, 1) := by decide +kernel
theorem dX8_refusalOf_110 : decode cX8_refusalOf 110 = .ok (.iload_n 2, 1) := by decide +kernel
theorem dX8_refusalOf_111 : decode cX8_refusalOf 111 = .ok (.invokevirtual 234, 3) := by decide +kernel
theorem dX8_refusalOf_114 : decode cX8_refusalOf 114 = .ok (.areturn, 1) := by decide +kernel
theorem dX8_refusalOf_115 : decode cX8_refusalOf 115 = .ok (.aload_n 0, 1) := by decide +kernel
theorem dX8_refusalOf_116 : decode cX8_refusalOf 116 = .ok (.iload_n 2, 1) := by decide +kernel
theorem dX8_refusalOf_117 : decode cX8_refusalOf 117 = .ok (.invokevirtual 237, 3) := by decide +kernel
theorem dX8_refusalOf_120 : decode cX8_refusalOf 120 = .ok (.areturn, 1) := by decide +kernel
theorem dX8_refusalOf_121 : decode cX8_refusalOf 121 = .ok (.aload_n 0, 1) := by decide +kernel
theorem dX8_refusalOf_122 : decode cX8_refusalOf 122 = .ok (.iload_n 2, 1) := by decide +kernel
theorem dX8_refusalOf_123 : decode cX8_refusalOf 123 = .ok (.iload_n 3, 1) := by decide +kernel
theorem dX8_refusalOf_124 : decode cX8_refusalOf 124 = .ok (.invokevirtual 240, 3) := by decide +kernel
theorem dX8_refusalOf_127 : decode cX8_refusalOf 127 = .ok (.areturn, 1) := by decide +kernel
theorem dX8_refusalOf_128 : decode cX8_refusalOf 128 = .ok (.aload_n 0, 1) := by decide +kernel
theorem dX8_refusalOf_129 : decode cX8_refusalOf 129 = .ok (.iload_n 2, 1) := by decide +kernel
theorem dX8_refusalOf_130 : decode cX8_refusalOf 130 = .ok (.iload_n 3, 1) := by decide +kernel
theorem dX8_refusalOf_131 : decode cX8_refusalOf 131 = .ok (.invokevirtual 136, 3) := by decide +kernel
theorem dX8_refusalOf_134 : decode cX8_refusalOf 134 = .ok (.areturn, 1) := by decide +kernel
theorem dX8_refusalOf_135 : decode cX8_refusalOf 135 = .ok (.aload_n 0, 1) := by decide +kernel
theorem dX8_refusalOf_136 : decode cX8_refusalOf 136 = .ok (.iload_n 2, 1) := by decide +kernel
theorem dX8_refusalOf_137 : decode cX8_refusalOf 137 = .ok (.iload_n 3, 1) := by decide +kernel
theorem dX8_refusalOf_138 : decode cX8_refusalOf 138 = .ok (.invokevirtual 243, 3) := by decide +kernel
theorem dX8_refusalOf_141 : decode cX8_refusalOf 141 = .ok (.areturn, 1) := by decide +kernel
theorem dX8_refusalOf_142 : decode cX8_refusalOf 142 = .ok (.aload_n 0, 1) := by decide +kernel
theorem dX8_refusalOf_143 : decode cX8_refusalOf 143 = .ok (.iload_n 2, 1) := by decide +kernel
theorem dX8_refusalOf_144 : decode cX8_refusalOf 144 = .ok (.iload_n 3, 1) := by decide +kernel
theorem dX8_refusalOf_145 : decode cX8_refusalOf 145 = .ok (.invokevirtual 246, 3) := by decide +kernel
theorem dX8_refusalOf_148 : decode cX8_refusalOf 148 = .ok (.areturn, 1) := by decide +kernel
theorem dX8_refusalOf_149 : decode cX8_refusalOf 149 = .ok (.aload_n 0, 1) := by decide +kernel
theorem dX8_refusalOf_150 : decode cX8_refusalOf 150 = .ok (.iload_n 2, 1) := by decide +kernel
theorem dX8_refusalOf_151 : decode cX8_refusalOf 151 = .ok (.iload_n 3, 1) := by decide +kernel
theorem dX8_refusalOf_152 : decode cX8_refusalOf 152 = .ok (.invokevirtual 249, 3) := by decide +kernel
theorem dX8_refusalOf_155 : decode cX8_refusalOf 155 = .ok (.areturn, 1) := by decide +kernel
theorem dX8_refusalOf_156 : decode cX8_refusalOf 156 = .ok (.aload_n 0, 1) := by decide +kernel
theorem dX8_refusalOf_157 : decode cX8_refusalOf 157 = .ok (.iload_n 2, 1) := by decide +kernel
theorem dX8_refusalOf_158 : decode cX8_refusalOf 158 = .ok (.invokevirtual 252, 3) := by decide +kernel
theorem dX8_refusalOf_161 : decode cX8_refusalOf 161 = .ok (.areturn, 1) := by decide +kernel
theorem dX8_refusalOf_162 : decode cX8_refusalOf 162 = .ok (.getstatic 91, 3) := by decide +kernel
theorem dX8_refusalOf_165 : decode cX8_refusalOf 165 = .ok (.areturn, 1) := by decide +kernel
def f_X8_refusalOf (V : Mem) (q : Nat) : Option (Nat × Mem) :=
  bd (f_X1_argument V q 0) fun r2 V2 =>
  bd (f_X1_argument V2 q 1) fun r8 V8 =>
  if ((V8 (224 + 3 * q) 1).toNatClampNeg) < 13 then
    if ib (nI ((V8 (224 + 3 * q) 1).toNatClampNeg)) 13 = true then
      if (swOf (nI ((V8 (224 + 3 * q) 1).toNatClampNeg)).toNatClampNeg) = 1 then
        bd (f_X1_argument V8 q 2) fun r89 V89 =>
        bd (f_X8_refusalOfEdit V89 r2 r8 r89) fun r92 V92 =>
        some (r92, V92)
      else
      if (swOf (nI ((V8 (224 + 3 * q) 1).toNatClampNeg)).toNatClampNeg) = 2 then
        bd (f_X8_refusalOfRevert V8 r2) fun r98 V98 =>
        some (r98, V98)
      else
      if (swOf (nI ((V8 (224 + 3 * q) 1).toNatClampNeg)).toNatClampNeg) = 3 then
        bd (f_X8_refusalOfCommit V8 r2 r8) fun r105 V105 =>
        some (r105, V105)
      else
      if (swOf (nI ((V8 (224 + 3 * q) 1).toNatClampNeg)).toNatClampNeg) = 4 then
        bd (f_X8_refusalOfBranching V8 r2) fun r111 V111 =>
        some (r111, V111)
      else
      if (swOf (nI ((V8 (224 + 3 * q) 1).toNatClampNeg)).toNatClampNeg) = 5 then
        bd (f_X8_refusalOfClosing V8 r2) fun r117 V117 =>
        some (r117, V117)
      else
      if (swOf (nI ((V8 (224 + 3 * q) 1).toNatClampNeg)).toNatClampNeg) = 6 then
        bd (f_X8_refusalOfMerge V8 r2 r8) fun r124 V124 =>
        some (r124, V124)
      else
      if (swOf (nI ((V8 (224 + 3 * q) 1).toNatClampNeg)).toNatClampNeg) = 7 then
        bd (f_X8_refusalOfKeeping V8 r2 r8) fun r131 V131 =>
        some (r131, V131)
      else
      if (swOf (nI ((V8 (224 + 3 * q) 1).toNatClampNeg)).toNatClampNeg) = 8 then
        bd (f_X8_refusalOfKeeping V8 r2 r8) fun r131 V131 =>
        some (r131, V131)
      else
      if (swOf (nI ((V8 (224 + 3 * q) 1).toNatClampNeg)).toNatClampNeg) = 9 then
        bd (f_X8_refusalOfPick V8 r2 r8) fun r138 V138 =>
        some (r138, V138)
      else
      if (swOf (nI ((V8 (224 + 3 * q) 1).toNatClampNeg)).toNatClampNeg) = 10 then
        bd (f_X8_refusalOfReset V8 r2 r8) fun r145 V145 =>
        some (r145, V145)
      else
      if (swOf (nI ((V8 (224 + 3 * q) 1).toNatClampNeg)).toNatClampNeg) = 11 then
        bd (f_X8_refusalOfTag V8 r2 r8) fun r152 V152 =>
        some (r152, V152)
      else
      if (swOf (nI ((V8 (224 + 3 * q) 1).toNatClampNeg)).toNatClampNeg) = 12 then
        bd (f_X8_refusalOfUntag V8 r2) fun r158 V158 =>
        some (r158, V158)
      else
      some (0, V8)
    else none
  else none
theorem cv_X8_refusalOf : CalV yX8_refusalOf cX8_refusalOf 4 (some (.object "LetterRepository$Refusal")) 1 := ⟨⟨⟨by decide +kernel, by decide +kernel⟩, tw_1_2, tw_7_99, by decide +kernel⟩, tw_7_97, tw_7_98⟩
set_option maxRecDepth 100000 in
set_option maxHeartbeats 4000000 in
theorem m_X8_refusalOf (l : Launch) (E : En) (ad : Nat → Nat) (V : Mem) (q : Nat) (hS : SF E) (hq : q < 8) (r : Nat) (Vz : Mem) (hf : f_X8_refusalOf V q = some (r, Vz)) : MR l E ad yX8_refusalOf cX8_refusalOf 4 (some (.object "LetterRepository$Refusal")) 7 [.ref (ad 0), .ref (ad (224 + 3 * q))] V (some (.ref (eR E r))) Vz := by
  refine ent (E := E) (ad := ad) (V := V) "LetterRepository$Store" (by decide +kernel) rfl (Nat.le_of_ble_eq_true rfl) ?_
  intro p e s m below meth c ls hC hI hl
  have hx := hC.1
  have hb := hC.2.1
  have hl : lv_has ls 4 [(0, .ref (ad 0)), (1, .ref (ad (224 + 3 * q)))] := hl
  unfold f_X8_refusalOf at hf
  refine lv_aload_n hx hb dX8_refusalOf_0 rfl (lv_at hl 1 rfl) ?_
  refine lv_iconst (v := 0) hx hb dX8_refusalOf_1 rfl ?_
  obtain ⟨r2, V2, q2, hf⟩ := gbd hf
  refine k_X1_argument hq hC hI hl.1 q2 tw_7_100 ⟨Nat.le_of_ble_eq_true rfl, Nat.le_of_ble_eq_true rfl⟩ ⟨Nat.le_refl _, Nat.le_refl _⟩ (Nat.le_of_ble_eq_true rfl) dX8_refusalOf_2 (fun H locs hI => ?_)
  refine lv_istore_n (lv' := [(2, .int r2), (0, .ref (ad 0)), (1, .ref (ad (224 + 3 * q)))]) hx hb dX8_refusalOf_5 rfl hl (Nat.lt_of_lt_of_eq (by decide) rfl) rfl (fun ls hl => ?_)
  refine lv_aload_n hx hb dX8_refusalOf_6 rfl (lv_at hl 2 rfl) ?_
  refine lv_iconst (v := 1) hx hb dX8_refusalOf_7 rfl ?_
  obtain ⟨r8, V8, q8, hf⟩ := gbd hf
  refine k_X1_argument hq hC hI hl.1 q8 tw_7_100 ⟨Nat.le_of_ble_eq_true rfl, Nat.le_of_ble_eq_true rfl⟩ ⟨Nat.le_refl _, Nat.le_refl _⟩ (Nat.le_of_ble_eq_true rfl) dX8_refusalOf_8 (fun H locs hI => ?_)
  refine lv_istore_n (lv' := [(3, .int r8), (2, .int r2), (0, .ref (ad 0)), (1, .ref (ad (224 + 3 * q)))]) hx hb dX8_refusalOf_11 rfl hl (Nat.lt_of_lt_of_eq (by decide) rfl) rfl (fun ls hl => ?_)
  refine r_gsSw hS hC hI tw_7_105 dX8_refusalOf_12 ?_
  refine lv_aload_n hx hb dX8_refusalOf_15 rfl (lv_at hl 3 rfl) ?_
  refine gN_C_kind hq hC hI tw_1_156 dX8_refusalOf_16 ?_
  obtain ⟨h19, hf⟩ := gi hf
  refine r_ord hS hC hI hl.1 h19 tw_7_107 ⟨Nat.le_of_ble_eq_true rfl, Nat.le_of_ble_eq_true rfl⟩ ⟨Nat.le_refl _, Nat.le_refl _⟩ (Nat.le_of_ble_eq_true rfl) dX8_refusalOf_19 (fun H locs hI => ?_)
  obtain ⟨h22, hf⟩ := gi hf
  refine r_swld hS hC hI (ib_in h22) dX8_refusalOf_22 ?_
  rcases Decidable.em ((swOf (nI ((V8 (224 + 3 * q) 1).toNatClampNeg)).toNatClampNeg) = 1) with c23_1 | c23_1
  · have hf := gt hf c23_1
    refine lv_tableIn (off := 61) (tgt := 84) hx hb dX8_refusalOf_23 (by rw [c23_1]; decide) (by rw [c23_1]; decide) (by rw [c23_1]; rfl) (by decide) ?_
    refine lv_aload_n hx hb dX8_refusalOf_84 rfl (lv_at hl 2 rfl) ?_
    refine lv_iload_n hx hb dX8_refusalOf_85 rfl (lv_at hl 1 rfl) ?_
    refine lv_iload_n hx hb dX8_refusalOf_86 rfl (lv_at hl 0 rfl) ?_
    refine lv_aload_n hx hb dX8_refusalOf_87 rfl (lv_at hl 3 rfl) ?_
    refine lv_iconst (v := 2) hx hb dX8_refusalOf_88 rfl ?_
    obtain ⟨r89, V89, q89, hf⟩ := gbd hf
    refine k_X1_argument hq hC hI hl.1 q89 tw_7_100 ⟨Nat.le_of_ble_eq_true rfl, Nat.le_of_ble_eq_true rfl⟩ ⟨Nat.le_refl _, Nat.le_refl _⟩ (Nat.le_of_ble_eq_true rfl) dX8_refusalOf_89 (fun H locs hI => ?_)
    obtain ⟨r92, V92, q92, hf⟩ := gbd hf
    refine k_X8_refusalOfEdit hS hC hI hl.1 q92 tw_7_113 ⟨Nat.le_of_ble_eq_true rfl, Nat.le_of_ble_eq_true rfl⟩ ⟨Nat.le_refl _, Nat.le_refl _⟩ (Nat.le_of_ble_eq_true rfl) dX8_refusalOf_92 (fun H locs hI => ?_)
    exact r_aretE hC hI hf dX8_refusalOf_95
  have hf := gf hf c23_1
  rcases Decidable.em ((swOf (nI ((V8 (224 + 3 * q) 1).toNatClampNeg)).toNatClampNeg) = 2) with c23_2 | c23_2
  · have hf := gt hf c23_2
    refine lv_tableIn (off := 73) (tgt := 96) hx hb dX8_refusalOf_23 (by rw [c23_2]; decide) (by rw [c23_2]; decide) (by rw [c23_2]; rfl) (by decide) ?_
    refine lv_aload_n hx hb dX8_refusalOf_96 rfl (lv_at hl 2 rfl) ?_
    refine lv_iload_n hx hb dX8_refusalOf_97 rfl (lv_at hl 1 rfl) ?_
    obtain ⟨r98, V98, q98, hf⟩ := gbd hf
    refine k_X8_refusalOfRevert hS hC hI hl.1 q98 tw_7_114 ⟨Nat.le_of_ble_eq_true rfl, Nat.le_of_ble_eq_true rfl⟩ ⟨Nat.le_refl _, Nat.le_refl _⟩ (Nat.le_of_ble_eq_true rfl) dX8_refusalOf_98 (fun H locs hI => ?_)
    exact r_aretE hC hI hf dX8_refusalOf_101
  have hf := gf hf c23_2
  rcases Decidable.em ((swOf (nI ((V8 (224 + 3 * q) 1).toNatClampNeg)).toNatClampNeg) = 3) with c23_3 | c23_3
  · have hf := gt hf c23_3
    refine lv_tableIn (off := 79) (tgt := 102) hx hb dX8_refusalOf_23 (by rw [c23_3]; decide) (by rw [c23_3]; decide) (by rw [c23_3]; rfl) (by decide) ?_
    refine lv_aload_n hx hb dX8_refusalOf_102 rfl (lv_at hl 2 rfl) ?_
    refine lv_iload_n hx hb dX8_refusalOf_103 rfl (lv_at hl 1 rfl) ?_
    refine lv_iload_n hx hb dX8_refusalOf_104 rfl (lv_at hl 0 rfl) ?_
    obtain ⟨r105, V105, q105, hf⟩ := gbd hf
    refine k_X8_refusalOfCommit hS hC hI hl.1 q105 tw_7_115 ⟨Nat.le_of_ble_eq_true rfl, Nat.le_of_ble_eq_true rfl⟩ ⟨Nat.le_refl _, Nat.le_refl _⟩ (Nat.le_of_ble_eq_true rfl) dX8_refusalOf_105 (fun H locs hI => ?_)
    exact r_aretE hC hI hf dX8_refusalOf_108
  have hf := gf hf c23_3
  rcases Decidable.em ((swOf (nI ((V8 (224 + 3 * q) 1).toNatClampNeg)).toNatClampNeg) = 4) with c23_4 | c23_4
  · have hf := gt hf c23_4
    refine lv_tableIn (off := 86) (tgt := 109) hx hb dX8_refusalOf_23 (by rw [c23_4]; decide) (by rw [c23_4]; decide) (by rw [c23_4]; rfl) (by decide) ?_
    refine lv_aload_n hx hb dX8_refusalOf_109 rfl (lv_at hl 2 rfl) ?_
    refine lv_iload_n hx hb dX8_refusalOf_110 rfl (lv_at hl 1 rfl) ?_
    obtain ⟨r111, V111, q111, hf⟩ := gbd hf
    refine k_X8_refusalOfBranching hS hC hI hl.1 q111 tw_7_116 ⟨Nat.le_of_ble_eq_true rfl, Nat.le_of_ble_eq_true rfl⟩ ⟨Nat.le_refl _, Nat.le_refl _⟩ (Nat.le_of_ble_eq_true rfl) dX8_refusalOf_111 (fun H locs hI => ?_)
    exact r_aretE hC hI hf dX8_refusalOf_114
  have hf := gf hf c23_4
  rcases Decidable.em ((swOf (nI ((V8 (224 + 3 * q) 1).toNatClampNeg)).toNatClampNeg) = 5) with c23_5 | c23_5
  · have hf := gt hf c23_5
    refine lv_tableIn (off := 92) (tgt := 115) hx hb dX8_refusalOf_23 (by rw [c23_5]; decide) (by rw [c23_5]; decide) (by rw [c23_5]; rfl) (by decide) ?_
    refine lv_aload_n hx hb dX8_refusalOf_115 rfl (lv_at hl 2 rfl) ?_
    refine lv_iload_n hx hb dX8_refusalOf_116 rfl (lv_at hl 1 rfl) ?_
    obtain ⟨r117, V117, q117, hf⟩ := gbd hf
    refine k_X8_refusalOfClosing hS hC hI hl.1 q117 tw_7_117 ⟨Nat.le_of_ble_eq_true rfl, Nat.le_of_ble_eq_true rfl⟩ ⟨Nat.le_refl _, Nat.le_refl _⟩ (Nat.le_of_ble_eq_true rfl) dX8_refusalOf_117 (fun H locs hI => ?_)
    exact r_aretE hC hI hf dX8_refusalOf_120
  have hf := gf hf c23_5
  rcases Decidable.em ((swOf (nI ((V8 (224 + 3 * q) 1).toNatClampNeg)).toNatClampNeg) = 6) with c23_6 | c23_6
  · have hf := gt hf c23_6
    refine lv_tableIn (off := 98) (tgt := 121) hx hb dX8_refusalOf_23 (by rw [c23_6]; decide) (by rw [c23_6]; decide) (by rw [c23_6]; rfl) (by decide) ?_
    refine lv_aload_n hx hb dX8_refusalOf_121 rfl (lv_at hl 2 rfl) ?_
    refine lv_iload_n hx hb dX8_refusalOf_122 rfl (lv_at hl 1 rfl) ?_
    refine lv_iload_n hx hb dX8_refusalOf_123 rfl (lv_at hl 0 rfl) ?_
    obtain ⟨r124, V124, q124, hf⟩ := gbd hf
    refine k_X8_refusalOfMerge hS hC hI hl.1 q124 tw_7_118 ⟨Nat.le_of_ble_eq_true rfl, Nat.le_of_ble_eq_true rfl⟩ ⟨Nat.le_refl _, Nat.le_refl _⟩ (Nat.le_of_ble_eq_true rfl) dX8_refusalOf_124 (fun H locs hI => ?_)
    exact r_aretE hC hI hf dX8_refusalOf_127
  have hf := gf hf c23_6
  rcases Decidable.em ((swOf (nI ((V8 (224 + 3 * q) 1).toNatClampNeg)).toNatClampNeg) = 7) with c23_7 | c23_7
  · have hf := gt hf c23_7
    refine lv_tableIn (off := 105) (tgt := 128) hx hb dX8_refusalOf_23 (by rw [c23_7]; decide) (by rw [c23_7]; decide) (by rw [c23_7]; rfl) (by decide) ?_
    refine lv_aload_n hx hb dX8_refusalOf_128 rfl (lv_at hl 2 rfl) ?_
    refine lv_iload_n hx hb dX8_refusalOf_129 rfl (lv_at hl 1 rfl) ?_
    refine lv_iload_n hx hb dX8_refusalOf_130 rfl (lv_at hl 0 rfl) ?_
    obtain ⟨r131, V131, q131, hf⟩ := gbd hf
    refine k_X8_refusalOfKeeping hS hC hI hl.1 q131 tw_4_17 ⟨Nat.le_of_ble_eq_true rfl, Nat.le_of_ble_eq_true rfl⟩ ⟨Nat.le_refl _, Nat.le_refl _⟩ (Nat.le_of_ble_eq_true rfl) dX8_refusalOf_131 (fun H locs hI => ?_)
    exact r_aretE hC hI hf dX8_refusalOf_134
  have hf := gf hf c23_7
  rcases Decidable.em ((swOf (nI ((V8 (224 + 3 * q) 1).toNatClampNeg)).toNatClampNeg) = 8) with c23_8 | c23_8
  · have hf := gt hf c23_8
    refine lv_tableIn (off := 105) (tgt := 128) hx hb dX8_refusalOf_23 (by rw [c23_8]; decide) (by rw [c23_8]; decide) (by rw [c23_8]; rfl) (by decide) ?_
    refine lv_aload_n hx hb dX8_refusalOf_128 rfl (lv_at hl 2 rfl) ?_
    refine lv_iload_n hx hb dX8_refusalOf_129 rfl (lv_at hl 1 rfl) ?_
    refine lv_iload_n hx hb dX8_refusalOf_130 rfl (lv_at hl 0 rfl) ?_
    obtain ⟨r131, V131, q131, hf⟩ := gbd hf
    refine k_X8_refusalOfKeeping hS hC hI hl.1 q131 tw_4_17 ⟨Nat.le_of_ble_eq_true rfl, Nat.le_of_ble_eq_true rfl⟩ ⟨Nat.le_refl _, Nat.le_refl _⟩ (Nat.le_of_ble_eq_true rfl) dX8_refusalOf_131 (fun H locs hI => ?_)
    exact r_aretE hC hI hf dX8_refusalOf_134
  have hf := gf hf c23_8
  rcases Decidable.em ((swOf (nI ((V8 (224 + 3 * q) 1).toNatClampNeg)).toNatClampNeg) = 9) with c23_9 | c23_9
  · have hf := gt hf c23_9
    refine lv_tableIn (off := 112) (tgt := 135) hx hb dX8_refusalOf_23 (by rw [c23_9]; decide) (by rw [c23_9]; decide) (by rw [c23_9]; rfl) (by decide) ?_
    refine lv_aload_n hx hb dX8_refusalOf_135 rfl (lv_at hl 2 rfl) ?_
    refine lv_iload_n hx hb dX8_refusalOf_136 rfl (lv_at hl 1 rfl) ?_
    refine lv_iload_n hx hb dX8_refusalOf_137 rfl (lv_at hl 0 rfl) ?_
    obtain ⟨r138, V138, q138, hf⟩ := gbd hf
    refine k_X8_refusalOfPick hS hC hI hl.1 q138 tw_7_119 ⟨Nat.le_of_ble_eq_true rfl, Nat.le_of_ble_eq_true rfl⟩ ⟨Nat.le_refl _, Nat.le_refl _⟩ (Nat.le_of_ble_eq_true rfl) dX8_refusalOf_138 (fun H locs hI => ?_)
    exact r_aretE hC hI hf dX8_refusalOf_141
  have hf := gf hf c23_9
  rcases Decidable.em ((swOf (nI ((V8 (224 + 3 * q) 1).toNatClampNeg)).toNatClampNeg) = 10) with c23_10 | c23_10
  · have hf := gt hf c23_10
    refine lv_tableIn (off := 119) (tgt := 142) hx hb dX8_refusalOf_23 (by rw [c23_10]; decide) (by rw [c23_10]; decide) (by rw [c23_10]; rfl) (by decide) ?_
    refine lv_aload_n hx hb dX8_refusalOf_142 rfl (lv_at hl 2 rfl) ?_
    refine lv_iload_n hx hb dX8_refusalOf_143 rfl (lv_at hl 1 rfl) ?_
    refine lv_iload_n hx hb dX8_refusalOf_144 rfl (lv_at hl 0 rfl) ?_
    obtain ⟨r145, V145, q145, hf⟩ := gbd hf
    refine k_X8_refusalOfReset hS hC hI hl.1 q145 tw_7_120 ⟨Nat.le_of_ble_eq_true rfl, Nat.le_of_ble_eq_true rfl⟩ ⟨Nat.le_refl _, Nat.le_refl _⟩ (Nat.le_of_ble_eq_true rfl) dX8_refusalOf_145 (fun H locs hI => ?_)
    exact r_aretE hC hI hf dX8_refusalOf_148
  have hf := gf hf c23_10
  rcases Decidable.em ((swOf (nI ((V8 (224 + 3 * q) 1).toNatClampNeg)).toNatClampNeg) = 11) with c23_11 | c23_11
  · have hf := gt hf c23_11
    refine lv_tableIn (off := 126) (tgt := 149) hx hb dX8_refusalOf_23 (by rw [c23_11]; decide) (by rw [c23_11]; decide) (by rw [c23_11]; rfl) (by decide) ?_
    refine lv_aload_n hx hb dX8_refusalOf_149 rfl (lv_at hl 2 rfl) ?_
    refine lv_iload_n hx hb dX8_refusalOf_150 rfl (lv_at hl 1 rfl) ?_
    refine lv_iload_n hx hb dX8_refusalOf_151 rfl (lv_at hl 0 rfl) ?_
    obtain ⟨r152, V152, q152, hf⟩ := gbd hf
    refine k_X8_refusalOfTag hS hC hI hl.1 q152 tw_7_121 ⟨Nat.le_of_ble_eq_true rfl, Nat.le_of_ble_eq_true rfl⟩ ⟨Nat.le_refl _, Nat.le_refl _⟩ (Nat.le_of_ble_eq_true rfl) dX8_refusalOf_152 (fun H locs hI => ?_)
    exact r_aretE hC hI hf dX8_refusalOf_155
  have hf := gf hf c23_11
  rcases Decidable.em ((swOf (nI ((V8 (224 + 3 * q) 1).toNatClampNeg)).toNatClampNeg) = 12) with c23_12 | c23_12
  · have hf := gt hf c23_12
    refine lv_tableIn (off := 133) (tgt := 156) hx hb dX8_refusalOf_23 (by rw [c23_12]; decide) (by rw [c23_12]; decide) (by rw [c23_12]; rfl) (by decide) ?_
    refine lv_aload_n hx hb dX8_refusalOf_156 rfl (lv_at hl 2 rfl) ?_
    refine lv_iload_n hx hb dX8_refusalOf_157 rfl (lv_at hl 1 rfl) ?_
    obtain ⟨r158, V158, q158, hf⟩ := gbd hf
    refine k_X8_refusalOfUntag hS hC hI hl.1 q158 tw_7_122 ⟨Nat.le_of_ble_eq_true rfl, Nat.le_of_ble_eq_true rfl⟩ ⟨Nat.le_refl _, Nat.le_refl _⟩ (Nat.le_of_ble_eq_true rfl) dX8_refusalOf_158 (fun H locs hI => ?_)
    exact r_aretE hC hI hf dX8_refusalOf_161
  have hf := gf hf c23_12
  have z23_1 := sw_ne 1 c23_1
  have z23_2 := sw_ne 2 c23_2
  have z23_3 := sw_ne 3 c23_3
  have z23_4 := sw_ne 4 c23_4
  have z23_5 := sw_ne 5 c23_5
  have z23_6 := sw_ne 6 c23_6
  have z23_7 := sw_ne 7 c23_7
  have z23_8 := sw_ne 8 c23_8
  have z23_9 := sw_ne 9 c23_9
  have z23_10 := sw_ne 10 c23_10
  have z23_11 := sw_ne 11 c23_11
  have z23_12 := sw_ne 12 c23_12
  refine lv_tableOut (tgt := 162) hx hb dX8_refusalOf_23 (by omega) (by decide) ?_
  refine r_gsR 0 hS hC hI (by decide) tw_2_235 dX8_refusalOf_162 ?_
  exact r_aretE hC hI hf dX8_refusalOf_165
theorem k_X8_refusalOf {p : Program} {l : Launch} {e : Env} {R : Room} {cells slots : Nat} {s : State} {m : MethodId} {args : Array Value} {below : List Frame} {meth : Method} {c : Code} {H : Heap} {locs : List Loc} {Q : State → Prop} {E : En} {ad : Nat → Nat} {V : Mem} {ow : String} {b : ByteArray} {n : Nat} {ret : Option FieldType} {pc index : Nat} {ls : Array Slot} {rest : List Value} {q : Nat} {r : Nat} {V1 : Mem} (hS : SF E) (hq : q < 8) (hC : Cx p s m args c meth E ow b n ret) (hI : In E ad V s H locs) (hsz : ls.size = n) (hf : f_X8_refusalOf V q = some (r, V1)) (hl : Cond.methodLink ow index yX8_refusalOf ∈ TB) (hR : 7 + 1 ≤ R.frames ∧ 8 + (4 + 11) + 40 * 7 ≤ R.locals) (hcs : cells ≤ R.cells ∧ slots ≤ R.slots) (hw : (rest.map fun v => v.category).sum ≤ 8) (hdg : decode b pc = .ok (.invokevirtual index, 3)) (kk : ∀ (H1 : Heap) (locs1 : List Loc), In E ad V1 s H1 locs1 → W p l e R s m args below meth c H1 locs1 cells slots Q (F0 m (pc + 3) ls ((.ref (eR E r)) :: rest))) : W p l e R s m args below meth c H locs cells slots Q (F0 m pc ls (.ref (ad (224 + 3 * q)) :: .ref (ad 0) :: rest)) :=
  r_calV (As := [.ref (ad (224 + 3 * q))]) (rest := rest) hC hI hsz (m_X8_refusalOf l E ad V q hS hq r _ hf) cv_X8_refusalOf hl (by decide) (ce_0 _) rfl rfl rfl hR hcs hw hdg kk

theorem dX8_perform_0 : decode cX8_perform 0 = .ok (.aload_n 1, 1) := by decide +kernel
theorem dX8_perform_1 : decode cX8_perform 1 = .ok (.iconst 0, 1) := by decide +kernel
theorem dX8_perform_2 : decode cX8_perform 2 = .ok (.invokevirtual 203, 3) := by decide +kernel
theorem dX8_perform_5 : decode cX8_perform 5 = .ok (.istore_n 2, 1) := by decide +kernel
theorem dX8_perform_6 : decode cX8_perform 6 = .ok (.aload_n 1, 1) := by decide +kernel
theorem dX8_perform_7 : decode cX8_perform 7 = .ok (.iconst 1, 1) := by decide +kernel
theorem dX8_perform_8 : decode cX8_perform 8 = .ok (.invokevirtual 203, 3) := by decide +kernel
theorem dX8_perform_11 : decode cX8_perform 11 = .ok (.istore_n 3, 1) := by decide +kernel
theorem dX8_perform_12 : decode cX8_perform 12 = .ok (.getstatic 208, 3) := by decide +kernel
theorem dX8_perform_15 : decode cX8_perform 15 = .ok (.aload_n 1, 1) := by decide +kernel
theorem dX8_perform_16 : decode cX8_perform 16 = .ok (.getfield 214, 3) := by decide +kernel
theorem dX8_perform_19 : decode cX8_perform 19 = .ok (.invokevirtual 218, 3) := by decide +kernel
theorem dX8_perform_22 : decode cX8_perform 22 = .ok (.iaload, 1) := by decide +kernel
theorem dX8_perform_23 : decode cX8_perform 23 = .ok (.tableswitch 141 1 12 #[61, 73, 79, 86, 92, 98, 98, 106, 114, 121, 128, 135], 61) := by decide +kernel
theorem dX8_perform_84 : decode cX8_perform 84 = .ok (.aload_n 0, 1) := by decide +kernel
theorem dX8_perform_85 : decode cX8_perform 85 = .ok (.iload_n 2, 1) := by decide +kernel
theorem dX8_perform_86 : decode cX8_perform 86 = .ok (.iload_n 3, 1) := by decide +kernel
theorem dX8_perform_87 : decode cX8_perform 87 = .ok (.aload_n 1, 1) := by decide +kernel
theorem dX8_perform_88 : decode cX8_perform 88 = .ok (.iconst 2, 1) := by decide +kernel
theorem dX8_perform_89 : decode cX8_perform 89 = .ok (.invokevirtual 203, 3) := by decide +kernel
theorem dX8_perform_92 : decode cX8_perform 92 = .ok (.invokevirtual 255, 3) := by decide +kernel
theorem dX8_perform_95 : decode cX8_perform 95 = .ok (.ireturn, 1) := by decide +kernel
theorem dX8_perform_96 : decode cX8_perform 96 = .ok (.aload_n 0, 1) := by decide +kernel
theorem dX8_perform_97 : decode cX8_perform 97 = .ok (.iload_n 2, 1) := by decide +kernel
theorem dX8_perform_98 : decode cX8_perform 98 = .ok (.invokevirtual 257, 3) := by decide +kernel
theorem dX8_perform_101 : decode cX8_perform 101 = .ok (.ireturn, 1) := by decide +kernel
theorem dX8_perform_102 : decode cX8_perform 102 = .ok (.aload_n 0, 1) := by decide +kernel
theorem dX8_perform_103 : decode cX8_perform 103 = .ok (.iload_n 2, 1) := by decide +kernel
theorem dX8_perform_104 : decode cX8_perform 104 = .ok (.iload_n 3, 1) := by decide +kernel
theorem dX8_perform_105 : decode cX8_perform 105 = .ok (.invokevirtual 260, 3) := by decide +kernel
theorem dX8_perform_108 : decode cX8_perform 108 = .ok (.ireturn, 1) := by decide +kernel
theorem dX8_perform_109 : decode cX8_perform 109 = .ok (.aload_n 0, 1) := by decide +kernel
theorem dX8_perform_110 : decode cX8_perform 110 = .ok (.iload_n 2, 1) := by decide +kernel
theorem dX8_perform_111 : decode cX8_perform 111 = .ok (.invokevirtual 263, 3) := by decide +kernel
theorem dX8_perform_114 : decode cX8_perform 114 = .ok (.ireturn, 1) := by decide +kernel
theorem dX8_perform_115 : decode cX8_perform 115 = .ok (.aload_n 0, 1) := by decide +kernel
theorem dX8_perform_116 : decode cX8_perform 116 = .ok (.iload_n 2, 1) := by decide +kernel
theorem dX8_perform_117 : decode cX8_perform 117 = .ok (.invokevirtual 266, 3) := by decide +kernel
theorem dX8_perform_120 : decode cX8_perform 120 = .ok (.ireturn, 1) := by decide +kernel
theorem dX8_perform_121 : decode cX8_perform 121 = .ok (.aload_n 0, 1) := by decide +kernel
theorem dX8_perform_122 : decode cX8_perform 122 = .ok (.iload_n 2, 1) := by decide +kernel
theorem dX8_perform_123 : decode cX8_perform 123 = .ok (.iload_n 3, 1) := by decide +kernel
theorem dX8_perform_124 : decode cX8_perform 124 = .ok (.iconst 1, 1) := by decide +kernel
theorem dX8_perform_125 : decode cX8_perform 125 = .ok (.invokevirtual 269, 3) := by decide +kernel
theorem dX8_perform_128 : decode cX8_perform 128 = .ok (.ireturn, 1) := by decide +kernel
theorem dX8_perform_129 : decode cX8_perform 129 = .ok (.aload_n 0, 1) := by decide +kernel
theorem dX8_perform_130 : decode cX8_perform 130 = .ok (.iload_n 2, 1) := by decide +kernel
theorem dX8_perform_131 : decode cX8_perform 131 = .ok (.iload_n 3, 1) := by decide +kernel
theorem dX8_perform_132 : decode cX8_perform 132 = .ok (.iconst 0, 1) := by decide +kernel
theorem dX8_perform_133 : decode cX8_perform 133 = .ok (.invokevirtual 269, 3) := by decide +kernel
theorem dX8_perform_136 : decode cX8_perform 136 = .ok (.ireturn, 1) := by decide +kernel
theorem dX8_perform_137 : decode cX8_perform 137 = .ok (.aload_n 0, 1) := by decide +kernel
theorem dX8_perform_138 : decode cX8_perform 138 = .ok (.iload_n 2, 1) := by decide +kernel
theorem dX8_perform_139 : decode cX8_perform 139 = .ok (.iload_n 3, 1) := by decide +kernel
theorem dX8_perform_140 : decode cX8_perform 140 = .ok (.invokevirtual 273, 3) := by decide +kernel
theorem dX8_perform_143 : decode cX8_perform 143 = .ok (.ireturn, 1) := by decide +kernel
theorem dX8_perform_144 : decode cX8_perform 144 = .ok (.aload_n 0, 1) := by decide +kernel
theorem dX8_perform_145 : decode cX8_perform 145 = .ok (.iload_n 2, 1) := by decide +kernel
theorem dX8_perform_146 : decode cX8_perform 146 = .ok (.iload_n 3, 1) := by decide +kernel
theorem dX8_perform_147 : decode cX8_perform 147 = .ok (.invokevirtual 276, 3) := by decide +kernel
theorem dX8_perform_150 : decode cX8_perform 150 = .ok (.ireturn, 1) := by decide +kernel
theorem dX8_perform_151 : decode cX8_perform 151 = .ok (.aload_n 0, 1) := by decide +kernel
theorem dX8_perform_152 : decode cX8_perform 152 = .ok (.iload_n 2, 1) := by decide +kernel
theorem dX8_perform_153 : decode cX8_perform 153 = .ok (.iload_n 3, 1) := by decide +kernel
theorem dX8_perform_154 : decode cX8_perform 154 = .ok (.invokevirtual 279, 3) := by decide +kernel
theorem dX8_perform_157 : decode cX8_perform 157 = .ok (.ireturn, 1) := by decide +kernel
theorem dX8_perform_158 : decode cX8_perform 158 = .ok (.aload_n 0, 1) := by decide +kernel
theorem dX8_perform_159 : decode cX8_perform 159 = .ok (.iload_n 2, 1) := by decide +kernel
theorem dX8_perform_160 : decode cX8_perform 160 = .ok (.invokevirtual 282, 3) := by decide +kernel
theorem dX8_perform_163 : decode cX8_perform 163 = .ok (.ireturn, 1) := by decide +kernel
theorem dX8_perform_164 : decode cX8_perform 164 = .ok (.aload_n 0, 1) := by decide +kernel
theorem dX8_perform_165 : decode cX8_perform 165 = .ok (.invokevirtual 285, 3) := by decide +kernel
theorem dX8_perform_168 : decode cX8_perform 168 = .ok (.ireturn, 1) := by decide +kernel
def f_X8_perform (V : Mem) (q : Nat) : Option (Int32 × Mem) :=
  bd (f_X1_argument V q 0) fun r2 V2 =>
  bd (f_X1_argument V2 q 1) fun r8 V8 =>
  if ((V8 (224 + 3 * q) 1).toNatClampNeg) < 13 then
    if ib (nI ((V8 (224 + 3 * q) 1).toNatClampNeg)) 13 = true then
      if (swOf (nI ((V8 (224 + 3 * q) 1).toNatClampNeg)).toNatClampNeg) = 1 then
        bd (f_X1_argument V8 q 2) fun r89 V89 =>
        bd (f_X8_putLetter V89 r2 r8 r89) fun r92 V92 =>
        some (r92, V92)
      else
      if (swOf (nI ((V8 (224 + 3 * q) 1).toNatClampNeg)).toNatClampNeg) = 2 then
        bd (f_X8_dropEdits V8 r2) fun r98 V98 =>
        some (r98, V98)
      else
      if (swOf (nI ((V8 (224 + 3 * q) 1).toNatClampNeg)).toNatClampNeg) = 3 then
        bd (f_X8_commitWorking V8 r2 r8) fun r105 V105 =>
        some (r105, V105)
      else
      if (swOf (nI ((V8 (224 + 3 * q) 1).toNatClampNeg)).toNatClampNeg) = 4 then
        bd (f_X8_openBranch V8 r2) fun r111 V111 =>
        some (r111, V111)
      else
      if (swOf (nI ((V8 (224 + 3 * q) 1).toNatClampNeg)).toNatClampNeg) = 5 then
        bd (f_X8_dropBranch V8 r2) fun r117 V117 =>
        some (r117, V117)
      else
      if (swOf (nI ((V8 (224 + 3 * q) 1).toNatClampNeg)).toNatClampNeg) = 6 then
        bd (f_X8_mergeHeads V8 r2 r8 1) fun r125 V125 =>
        some (r125, V125)
      else
      if (swOf (nI ((V8 (224 + 3 * q) 1).toNatClampNeg)).toNatClampNeg) = 7 then
        bd (f_X8_mergeHeads V8 r2 r8 1) fun r125 V125 =>
        some (r125, V125)
      else
      if (swOf (nI ((V8 (224 + 3 * q) 1).toNatClampNeg)).toNatClampNeg) = 8 then
        bd (f_X8_mergeHeads V8 r2 r8 0) fun r133 V133 =>
        some (r133, V133)
      else
      if (swOf (nI ((V8 (224 + 3 * q) 1).toNatClampNeg)).toNatClampNeg) = 9 then
        bd (f_X8_pickChange V8 r2 r8) fun r140 V140 =>
        some (r140, V140)
      else
      if (swOf (nI ((V8 (224 + 3 * q) 1).toNatClampNeg)).toNatClampNeg) = 10 then
        bd (f_X8_moveHead V8 r2 r8) fun r147 V147 =>
        some (r147, V147)
      else
      if (swOf (nI ((V8 (224 + 3 * q) 1).toNatClampNeg)).toNatClampNeg) = 11 then
        bd (f_X8_putTag V8 r2 r8) fun r154 V154 =>
        some (r154, V154)
      else
      if (swOf (nI ((V8 (224 + 3 * q) 1).toNatClampNeg)).toNatClampNeg) = 12 then
        bd (f_X8_takeTag V8 r2) fun r160 V160 =>
        some (r160, V160)
      else
      bd (f_X8_archiveUnused V8) fun r165 V165 =>
      some (r165, V165)
    else none
  else none
theorem cv_X8_perform : CalV yX8_perform cX8_perform 4 (some .int) 1 := ⟨⟨⟨by decide +kernel, by decide +kernel⟩, tw_1_2, tw_7_131, by decide +kernel⟩, tw_7_129, tw_7_130⟩
set_option maxRecDepth 100000 in
set_option maxHeartbeats 4000000 in
theorem m_X8_perform (l : Launch) (E : En) (ad : Nat → Nat) (V : Mem) (q : Nat) (hS : SF E) (hq : q < 8) (r : Int32) (Vz : Mem) (hf : f_X8_perform V q = some (r, Vz)) : MR l E ad yX8_perform cX8_perform 4 (some .int) 32 [.ref (ad 0), .ref (ad (224 + 3 * q))] V (some (.int r)) Vz := by
  refine ent (E := E) (ad := ad) (V := V) "LetterRepository$Store" (by decide +kernel) rfl (Nat.le_of_ble_eq_true rfl) ?_
  intro p e s m below meth c ls hC hI hl
  have hx := hC.1
  have hb := hC.2.1
  have hl : lv_has ls 4 [(0, .ref (ad 0)), (1, .ref (ad (224 + 3 * q)))] := hl
  unfold f_X8_perform at hf
  refine lv_aload_n hx hb dX8_perform_0 rfl (lv_at hl 1 rfl) ?_
  refine lv_iconst (v := 0) hx hb dX8_perform_1 rfl ?_
  obtain ⟨r2, V2, q2, hf⟩ := gbd hf
  refine k_X1_argument hq hC hI hl.1 q2 tw_7_100 ⟨Nat.le_of_ble_eq_true rfl, Nat.le_of_ble_eq_true rfl⟩ ⟨Nat.le_refl _, Nat.le_refl _⟩ (Nat.le_of_ble_eq_true rfl) dX8_perform_2 (fun H locs hI => ?_)
  refine lv_istore_n (lv' := [(2, .int r2), (0, .ref (ad 0)), (1, .ref (ad (224 + 3 * q)))]) hx hb dX8_perform_5 rfl hl (Nat.lt_of_lt_of_eq (by decide) rfl) rfl (fun ls hl => ?_)
  refine lv_aload_n hx hb dX8_perform_6 rfl (lv_at hl 2 rfl) ?_
  refine lv_iconst (v := 1) hx hb dX8_perform_7 rfl ?_
  obtain ⟨r8, V8, q8, hf⟩ := gbd hf
  refine k_X1_argument hq hC hI hl.1 q8 tw_7_100 ⟨Nat.le_of_ble_eq_true rfl, Nat.le_of_ble_eq_true rfl⟩ ⟨Nat.le_refl _, Nat.le_refl _⟩ (Nat.le_of_ble_eq_true rfl) dX8_perform_8 (fun H locs hI => ?_)
  refine lv_istore_n (lv' := [(3, .int r8), (2, .int r2), (0, .ref (ad 0)), (1, .ref (ad (224 + 3 * q)))]) hx hb dX8_perform_11 rfl hl (Nat.lt_of_lt_of_eq (by decide) rfl) rfl (fun ls hl => ?_)
  refine r_gsSw hS hC hI tw_7_105 dX8_perform_12 ?_
  refine lv_aload_n hx hb dX8_perform_15 rfl (lv_at hl 3 rfl) ?_
  refine gN_C_kind hq hC hI tw_1_156 dX8_perform_16 ?_
  obtain ⟨h19, hf⟩ := gi hf
  refine r_ord hS hC hI hl.1 h19 tw_7_107 ⟨Nat.le_of_ble_eq_true rfl, Nat.le_of_ble_eq_true rfl⟩ ⟨Nat.le_refl _, Nat.le_refl _⟩ (Nat.le_of_ble_eq_true rfl) dX8_perform_19 (fun H locs hI => ?_)
  obtain ⟨h22, hf⟩ := gi hf
  refine r_swld hS hC hI (ib_in h22) dX8_perform_22 ?_
  rcases Decidable.em ((swOf (nI ((V8 (224 + 3 * q) 1).toNatClampNeg)).toNatClampNeg) = 1) with c23_1 | c23_1
  · have hf := gt hf c23_1
    refine lv_tableIn (off := 61) (tgt := 84) hx hb dX8_perform_23 (by rw [c23_1]; decide) (by rw [c23_1]; decide) (by rw [c23_1]; rfl) (by decide) ?_
    refine lv_aload_n hx hb dX8_perform_84 rfl (lv_at hl 2 rfl) ?_
    refine lv_iload_n hx hb dX8_perform_85 rfl (lv_at hl 1 rfl) ?_
    refine lv_iload_n hx hb dX8_perform_86 rfl (lv_at hl 0 rfl) ?_
    refine lv_aload_n hx hb dX8_perform_87 rfl (lv_at hl 3 rfl) ?_
    refine lv_iconst (v := 2) hx hb dX8_perform_88 rfl ?_
    obtain ⟨r89, V89, q89, hf⟩ := gbd hf
    refine k_X1_argument hq hC hI hl.1 q89 tw_7_100 ⟨Nat.le_of_ble_eq_true rfl, Nat.le_of_ble_eq_true rfl⟩ ⟨Nat.le_refl _, Nat.le_refl _⟩ (Nat.le_of_ble_eq_true rfl) dX8_perform_89 (fun H locs hI => ?_)
    obtain ⟨r92, V92, q92, hf⟩ := gbd hf
    refine k_X8_putLetter hC hI hl.1 q92 tw_7_132 ⟨Nat.le_of_ble_eq_true rfl, Nat.le_of_ble_eq_true rfl⟩ ⟨Nat.le_refl _, Nat.le_refl _⟩ (Nat.le_of_ble_eq_true rfl) dX8_perform_92 (fun H locs hI => ?_)
    exact r_iret2 hC hI hf dX8_perform_95
  have hf := gf hf c23_1
  rcases Decidable.em ((swOf (nI ((V8 (224 + 3 * q) 1).toNatClampNeg)).toNatClampNeg) = 2) with c23_2 | c23_2
  · have hf := gt hf c23_2
    refine lv_tableIn (off := 73) (tgt := 96) hx hb dX8_perform_23 (by rw [c23_2]; decide) (by rw [c23_2]; decide) (by rw [c23_2]; rfl) (by decide) ?_
    refine lv_aload_n hx hb dX8_perform_96 rfl (lv_at hl 2 rfl) ?_
    refine lv_iload_n hx hb dX8_perform_97 rfl (lv_at hl 1 rfl) ?_
    obtain ⟨r98, V98, q98, hf⟩ := gbd hf
    refine k_X8_dropEdits hC hI hl.1 q98 tw_7_133 ⟨Nat.le_of_ble_eq_true rfl, Nat.le_of_ble_eq_true rfl⟩ ⟨Nat.le_refl _, Nat.le_refl _⟩ (Nat.le_of_ble_eq_true rfl) dX8_perform_98 (fun H locs hI => ?_)
    exact r_iret2 hC hI hf dX8_perform_101
  have hf := gf hf c23_2
  rcases Decidable.em ((swOf (nI ((V8 (224 + 3 * q) 1).toNatClampNeg)).toNatClampNeg) = 3) with c23_3 | c23_3
  · have hf := gt hf c23_3
    refine lv_tableIn (off := 79) (tgt := 102) hx hb dX8_perform_23 (by rw [c23_3]; decide) (by rw [c23_3]; decide) (by rw [c23_3]; rfl) (by decide) ?_
    refine lv_aload_n hx hb dX8_perform_102 rfl (lv_at hl 2 rfl) ?_
    refine lv_iload_n hx hb dX8_perform_103 rfl (lv_at hl 1 rfl) ?_
    refine lv_iload_n hx hb dX8_perform_104 rfl (lv_at hl 0 rfl) ?_
    obtain ⟨r105, V105, q105, hf⟩ := gbd hf
    refine k_X8_commitWorking hC hI hl.1 q105 tw_7_134 ⟨Nat.le_of_ble_eq_true rfl, Nat.le_of_ble_eq_true rfl⟩ ⟨Nat.le_refl _, Nat.le_refl _⟩ (Nat.le_of_ble_eq_true rfl) dX8_perform_105 (fun H locs hI => ?_)
    exact r_iret2 hC hI hf dX8_perform_108
  have hf := gf hf c23_3
  rcases Decidable.em ((swOf (nI ((V8 (224 + 3 * q) 1).toNatClampNeg)).toNatClampNeg) = 4) with c23_4 | c23_4
  · have hf := gt hf c23_4
    refine lv_tableIn (off := 86) (tgt := 109) hx hb dX8_perform_23 (by rw [c23_4]; decide) (by rw [c23_4]; decide) (by rw [c23_4]; rfl) (by decide) ?_
    refine lv_aload_n hx hb dX8_perform_109 rfl (lv_at hl 2 rfl) ?_
    refine lv_iload_n hx hb dX8_perform_110 rfl (lv_at hl 1 rfl) ?_
    obtain ⟨r111, V111, q111, hf⟩ := gbd hf
    refine k_X8_openBranch hC hI hl.1 q111 tw_7_135 ⟨Nat.le_of_ble_eq_true rfl, Nat.le_of_ble_eq_true rfl⟩ ⟨Nat.le_refl _, Nat.le_refl _⟩ (Nat.le_of_ble_eq_true rfl) dX8_perform_111 (fun H locs hI => ?_)
    exact r_iret2 hC hI hf dX8_perform_114
  have hf := gf hf c23_4
  rcases Decidable.em ((swOf (nI ((V8 (224 + 3 * q) 1).toNatClampNeg)).toNatClampNeg) = 5) with c23_5 | c23_5
  · have hf := gt hf c23_5
    refine lv_tableIn (off := 92) (tgt := 115) hx hb dX8_perform_23 (by rw [c23_5]; decide) (by rw [c23_5]; decide) (by rw [c23_5]; rfl) (by decide) ?_
    refine lv_aload_n hx hb dX8_perform_115 rfl (lv_at hl 2 rfl) ?_
    refine lv_iload_n hx hb dX8_perform_116 rfl (lv_at hl 1 rfl) ?_
    obtain ⟨r117, V117, q117, hf⟩ := gbd hf
    refine k_X8_dropBranch hC hI hl.1 q117 tw_7_136 ⟨Nat.le_of_ble_eq_true rfl, Nat.le_of_ble_eq_true rfl⟩ ⟨Nat.le_refl _, Nat.le_refl _⟩ (Nat.le_of_ble_eq_true rfl) dX8_perform_117 (fun H locs hI => ?_)
    exact r_iret2 hC hI hf dX8_perform_120
  have hf := gf hf c23_5
  rcases Decidable.em ((swOf (nI ((V8 (224 + 3 * q) 1).toNatClampNeg)).toNatClampNeg) = 6) with c23_6 | c23_6
  · have hf := gt hf c23_6
    refine lv_tableIn (off := 98) (tgt := 121) hx hb dX8_perform_23 (by rw [c23_6]; decide) (by rw [c23_6]; decide) (by rw [c23_6]; rfl) (by decide) ?_
    refine lv_aload_n hx hb dX8_perform_121 rfl (lv_at hl 2 rfl) ?_
    refine lv_iload_n hx hb dX8_perform_122 rfl (lv_at hl 1 rfl) ?_
    refine lv_iload_n hx hb dX8_perform_123 rfl (lv_at hl 0 rfl) ?_
    refine lv_iconst (v := 1) hx hb dX8_perform_124 rfl ?_
    obtain ⟨r125, V125, q125, hf⟩ := gbd hf
    refine k_X8_mergeHeads hC hI hl.1 q125 tw_7_137 ⟨Nat.le_of_ble_eq_true rfl, Nat.le_of_ble_eq_true rfl⟩ ⟨Nat.le_refl _, Nat.le_refl _⟩ (Nat.le_of_ble_eq_true rfl) dX8_perform_125 (fun H locs hI => ?_)
    exact r_iret2 hC hI hf dX8_perform_128
  have hf := gf hf c23_6
  rcases Decidable.em ((swOf (nI ((V8 (224 + 3 * q) 1).toNatClampNeg)).toNatClampNeg) = 7) with c23_7 | c23_7
  · have hf := gt hf c23_7
    refine lv_tableIn (off := 98) (tgt := 121) hx hb dX8_perform_23 (by rw [c23_7]; decide) (by rw [c23_7]; decide) (by rw [c23_7]; rfl) (by decide) ?_
    refine lv_aload_n hx hb dX8_perform_121 rfl (lv_at hl 2 rfl) ?_
    refine lv_iload_n hx hb dX8_perform_122 rfl (lv_at hl 1 rfl) ?_
    refine lv_iload_n hx hb dX8_perform_123 rfl (lv_at hl 0 rfl) ?_
    refine lv_iconst (v := 1) hx hb dX8_perform_124 rfl ?_
    obtain ⟨r125, V125, q125, hf⟩ := gbd hf
    refine k_X8_mergeHeads hC hI hl.1 q125 tw_7_137 ⟨Nat.le_of_ble_eq_true rfl, Nat.le_of_ble_eq_true rfl⟩ ⟨Nat.le_refl _, Nat.le_refl _⟩ (Nat.le_of_ble_eq_true rfl) dX8_perform_125 (fun H locs hI => ?_)
    exact r_iret2 hC hI hf dX8_perform_128
  have hf := gf hf c23_7
  rcases Decidable.em ((swOf (nI ((V8 (224 + 3 * q) 1).toNatClampNeg)).toNatClampNeg) = 8) with c23_8 | c23_8
  · have hf := gt hf c23_8
    refine lv_tableIn (off := 106) (tgt := 129) hx hb dX8_perform_23 (by rw [c23_8]; decide) (by rw [c23_8]; decide) (by rw [c23_8]; rfl) (by decide) ?_
    refine lv_aload_n hx hb dX8_perform_129 rfl (lv_at hl 2 rfl) ?_
    refine lv_iload_n hx hb dX8_perform_130 rfl (lv_at hl 1 rfl) ?_
    refine lv_iload_n hx hb dX8_perform_131 rfl (lv_at hl 0 rfl) ?_
    refine lv_iconst (v := 0) hx hb dX8_perform_132 rfl ?_
    obtain ⟨r133, V133, q133, hf⟩ := gbd hf
    refine k_X8_mergeHeads hC hI hl.1 q133 tw_7_137 ⟨Nat.le_of_ble_eq_true rfl, Nat.le_of_ble_eq_true rfl⟩ ⟨Nat.le_refl _, Nat.le_refl _⟩ (Nat.le_of_ble_eq_true rfl) dX8_perform_133 (fun H locs hI => ?_)
    exact r_iret2 hC hI hf dX8_perform_136
  have hf := gf hf c23_8
  rcases Decidable.em ((swOf (nI ((V8 (224 + 3 * q) 1).toNatClampNeg)).toNatClampNeg) = 9) with c23_9 | c23_9
  · have hf := gt hf c23_9
    refine lv_tableIn (off := 114) (tgt := 137) hx hb dX8_perform_23 (by rw [c23_9]; decide) (by rw [c23_9]; decide) (by rw [c23_9]; rfl) (by decide) ?_
    refine lv_aload_n hx hb dX8_perform_137 rfl (lv_at hl 2 rfl) ?_
    refine lv_iload_n hx hb dX8_perform_138 rfl (lv_at hl 1 rfl) ?_
    refine lv_iload_n hx hb dX8_perform_139 rfl (lv_at hl 0 rfl) ?_
    obtain ⟨r140, V140, q140, hf⟩ := gbd hf
    refine k_X8_pickChange hC hI hl.1 q140 tw_7_138 ⟨Nat.le_of_ble_eq_true rfl, Nat.le_of_ble_eq_true rfl⟩ ⟨Nat.le_refl _, Nat.le_refl _⟩ (Nat.le_of_ble_eq_true rfl) dX8_perform_140 (fun H locs hI => ?_)
    exact r_iret2 hC hI hf dX8_perform_143
  have hf := gf hf c23_9
  rcases Decidable.em ((swOf (nI ((V8 (224 + 3 * q) 1).toNatClampNeg)).toNatClampNeg) = 10) with c23_10 | c23_10
  · have hf := gt hf c23_10
    refine lv_tableIn (off := 121) (tgt := 144) hx hb dX8_perform_23 (by rw [c23_10]; decide) (by rw [c23_10]; decide) (by rw [c23_10]; rfl) (by decide) ?_
    refine lv_aload_n hx hb dX8_perform_144 rfl (lv_at hl 2 rfl) ?_
    refine lv_iload_n hx hb dX8_perform_145 rfl (lv_at hl 1 rfl) ?_
    refine lv_iload_n hx hb dX8_perform_146 rfl (lv_at hl 0 rfl) ?_
    obtain ⟨r147, V147, q147, hf⟩ := gbd hf
    refine k_X8_moveHead hC hI hl.1 q147 tw_7_139 ⟨Nat.le_of_ble_eq_true rfl, Nat.le_of_ble_eq_true rfl⟩ ⟨Nat.le_refl _, Nat.le_refl _⟩ (Nat.le_of_ble_eq_true rfl) dX8_perform_147 (fun H locs hI => ?_)
    exact r_iret2 hC hI hf dX8_perform_150
  have hf := gf hf c23_10
  rcases Decidable.em ((swOf (nI ((V8 (224 + 3 * q) 1).toNatClampNeg)).toNatClampNeg) = 11) with c23_11 | c23_11
  · have hf := gt hf c23_11
    refine lv_tableIn (off := 128) (tgt := 151) hx hb dX8_perform_23 (by rw [c23_11]; decide) (by rw [c23_11]; decide) (by rw [c23_11]; rfl) (by decide) ?_
    refine lv_aload_n hx hb dX8_perform_151 rfl (lv_at hl 2 rfl) ?_
    refine lv_iload_n hx hb dX8_perform_152 rfl (lv_at hl 1 rfl) ?_
    refine lv_iload_n hx hb dX8_perform_153 rfl (lv_at hl 0 rfl) ?_
    obtain ⟨r154, V154, q154, hf⟩ := gbd hf
    refine k_X8_putTag hC hI hl.1 q154 tw_7_140 ⟨Nat.le_of_ble_eq_true rfl, Nat.le_of_ble_eq_true rfl⟩ ⟨Nat.le_refl _, Nat.le_refl _⟩ (Nat.le_of_ble_eq_true rfl) dX8_perform_154 (fun H locs hI => ?_)
    exact r_iret2 hC hI hf dX8_perform_157
  have hf := gf hf c23_11
  rcases Decidable.em ((swOf (nI ((V8 (224 + 3 * q) 1).toNatClampNeg)).toNatClampNeg) = 12) with c23_12 | c23_12
  · have hf := gt hf c23_12
    refine lv_tableIn (off := 135) (tgt := 158) hx hb dX8_perform_23 (by rw [c23_12]; decide) (by rw [c23_12]; decide) (by rw [c23_12]; rfl) (by decide) ?_
    refine lv_aload_n hx hb dX8_perform_158 rfl (lv_at hl 2 rfl) ?_
    refine lv_iload_n hx hb dX8_perform_159 rfl (lv_at hl 1 rfl) ?_
    obtain ⟨r160, V160, q160, hf⟩ := gbd hf
    refine k_X8_takeTag hC hI hl.1 q160 tw_7_141 ⟨Nat.le_of_ble_eq_true rfl, Nat.le_of_ble_eq_true rfl⟩ ⟨Nat.le_refl _, Nat.le_refl _⟩ (Nat.le_of_ble_eq_true rfl) dX8_perform_160 (fun H locs hI => ?_)
    exact r_iret2 hC hI hf dX8_perform_163
  have hf := gf hf c23_12
  have z23_1 := sw_ne 1 c23_1
  have z23_2 := sw_ne 2 c23_2
  have z23_3 := sw_ne 3 c23_3
  have z23_4 := sw_ne 4 c23_4
  have z23_5 := sw_ne 5 c23_5
  have z23_6 := sw_ne 6 c23_6
  have z23_7 := sw_ne 7 c23_7
  have z23_8 := sw_ne 8 c23_8
  have z23_9 := sw_ne 9 c23_9
  have z23_10 := sw_ne 10 c23_10
  have z23_11 := sw_ne 11 c23_11
  have z23_12 := sw_ne 12 c23_12
  refine lv_tableOut (tgt := 164) hx hb dX8_perform_23 (by omega) (by decide) ?_
  refine lv_aload_n hx hb dX8_perform_164 rfl (lv_at hl 2 rfl) ?_
  obtain ⟨r165, V165, q165, hf⟩ := gbd hf
  refine k_X8_archiveUnused hC hI hl.1 q165 tw_7_142 ⟨Nat.le_of_ble_eq_true rfl, Nat.le_of_ble_eq_true rfl⟩ ⟨Nat.le_refl _, Nat.le_refl _⟩ (Nat.le_of_ble_eq_true rfl) dX8_perform_165 (fun H locs hI => ?_)
  exact r_iret2 hC hI hf dX8_perform_168
theorem k_X8_perform {p : Program} {l : Launch} {e : Env} {R : Room} {cells slots : Nat} {s : State} {m : MethodId} {args : Array Value} {below : List Frame} {meth : Method} {c : Code} {H : Heap} {locs : List Loc} {Q : State → Prop} {E : En} {ad : Nat → Nat} {V : Mem} {ow : String} {b : ByteArray} {n : Nat} {ret : Option FieldType} {pc index : Nat} {ls : Array Slot} {rest : List Value} {q : Nat} {r : Int32} {V1 : Mem} (hS : SF E) (hq : q < 8) (hC : Cx p s m args c meth E ow b n ret) (hI : In E ad V s H locs) (hsz : ls.size = n) (hf : f_X8_perform V q = some (r, V1)) (hl : Cond.methodLink ow index yX8_perform ∈ TB) (hR : 32 + 1 ≤ R.frames ∧ 8 + (4 + 11) + 40 * 32 ≤ R.locals) (hcs : cells ≤ R.cells ∧ slots ≤ R.slots) (hw : (rest.map fun v => v.category).sum ≤ 8) (hdg : decode b pc = .ok (.invokevirtual index, 3)) (kk : ∀ (H1 : Heap) (locs1 : List Loc), In E ad V1 s H1 locs1 → W p l e R s m args below meth c H1 locs1 cells slots Q (F0 m (pc + 3) ls ((.int r) :: rest))) : W p l e R s m args below meth c H locs cells slots Q (F0 m pc ls (.ref (ad (224 + 3 * q)) :: .ref (ad 0) :: rest)) :=
  r_calV (As := [.ref (ad (224 + 3 * q))]) (rest := rest) hC hI hsz (m_X8_perform l E ad V q hS hq r _ hf) cv_X8_perform hl (by decide) (ce_0 _) rfl rfl rfl hR hcs hw hdg kk
