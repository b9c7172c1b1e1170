theorem dJ1_canEncode_fc78d_0 : decode cJ1_canEncode_fc78d 0 = .ok (.iload_n 0, 1) := by decide +kernel
theorem dJ1_canEncode_fc78d_1 : decode cJ1_canEncode_fc78d 1 = .ok (.sipush 255, 3) := by decide +kernel
theorem dJ1_canEncode_fc78d_4 : decode cJ1_canEncode_fc78d 4 = .ok (.if_icmp .gt 7, 3) := by decide +kernel
theorem dJ1_canEncode_fc78d_7 : decode cJ1_canEncode_fc78d 7 = .ok (.iconst 1, 1) := by decide +kernel
theorem dJ1_canEncode_fc78d_8 : decode cJ1_canEncode_fc78d 8 = .ok (.goto 4, 3) := by decide +kernel
theorem dJ1_canEncode_fc78d_11 : decode cJ1_canEncode_fc78d 11 = .ok (.iconst 0, 1) := by decide +kernel
theorem dJ1_canEncode_fc78d_12 : decode cJ1_canEncode_fc78d 12 = .ok (.ireturn, 1) := by decide +kernel
def f_J1_canEncode_fc78d (V : Mem) (a0 : Int32) : Option (Int32 × Mem) :=
  if 255 < a0 then
    some (0, V)
  else
    some (1, V)
theorem cv_J1_canEncode_fc78d : CalS yJ1_canEncode_fc78d cJ1_canEncode_fc78d 1 (some .boolean) 1 := ⟨⟨⟨by decide +kernel, by decide +kernel⟩, tw_1_31, tw_6_192, by decide +kernel⟩, tw_6_191⟩
set_option maxRecDepth 100000 in
set_option maxHeartbeats 4000000 in
theorem m_J1_canEncode_fc78d (l : Launch) (E : En) (ad : Nat → Nat) (V : Mem) (a0 : Int32) (r : Int32) (Vz : Mem) (hf : f_J1_canEncode_fc78d V a0 = some (r, Vz)) : MR l E ad yJ1_canEncode_fc78d cJ1_canEncode_fc78d 1 (some .boolean) 1 [.int a0] V (some (.int r)) Vz := by
  refine ent (E := E) (ad := ad) (V := V) "java/lang/StringLatin1" (by decide +kernel) rfl (Nat.le_of_ble_eq_true rfl) ?_
  intro p e s m below meth c ls hC hI hl
  have hx := hC.1
  have hb := hC.2.1
  have hl : lv_has ls 1 [(0, .int a0)] := hl
  unfold f_J1_canEncode_fc78d at hf
  refine lv_iload_n hx hb dJ1_canEncode_fc78d_0 rfl (lv_at hl 0 rfl) ?_
  refine lv_sipush (v := 255) hx hb dJ1_canEncode_fc78d_1 rfl ?_
  refine lv_icmp_gt (tgt := 11) hx hb dJ1_canEncode_fc78d_4 (by decide) (fun c4 => ?_) (fun c4 => ?_)
  · have hf := gt hf c4
    refine lv_iconst (v := 0) hx hb dJ1_canEncode_fc78d_11 rfl ?_
    exact r_zret2 hC hI (.inl rfl) hf dJ1_canEncode_fc78d_12
  · have hf := gf hf c4
    refine lv_iconst (v := 1) hx hb dJ1_canEncode_fc78d_7 rfl ?_
    refine lv_goto (tgt := 12) hx hb dJ1_canEncode_fc78d_8 (by decide) ?_
    exact r_zret2 hC hI (.inr rfl) hf dJ1_canEncode_fc78d_12
theorem k_J1_canEncode_fc78d {p : Program} {l : Launch} {e : Env} {R : Room} {cells slots : Nat} {s : State} {m : MethodId} {args : Array Value} {below : List Frame} {meth : Method} {c : Code} {H : Heap} {locs : List Loc} {Q : State → Prop} {E : En} {ad : Nat → Nat} {V : Mem} {ow : String} {b : ByteArray} {n : Nat} {ret : Option FieldType} {pc index : Nat} {ls : Array Slot} {rest : List Value} {a0 : Int32} {r : Int32} {V1 : Mem} (hC : Cx p s m args c meth E ow b n ret) (hI : In E ad V s H locs) (hsz : ls.size = n) (hf : f_J1_canEncode_fc78d V a0 = some (r, V1)) (hl : Cond.methodLink ow index yJ1_canEncode_fc78d ∈ TB) (hR : 1 + 1 ≤ R.frames ∧ 8 + (1 + 11) + 40 * 1 ≤ R.locals) (hcs : cells ≤ R.cells ∧ slots ≤ R.slots) (hw : (rest.map fun v => v.category).sum ≤ 8) (hdg : decode b pc = .ok (.invokestatic index, 3)) (kk : ∀ (H1 : Heap) (locs1 : List Loc), In E ad V1 s H1 locs1 → W p l e R s m args below meth c H1 locs1 cells slots Q (F0 m (pc + 3) ls ((.int r) :: rest))) : W p l e R s m args below meth c H locs cells slots Q (F0 m pc ls (.int a0 :: rest)) :=
  r_calS (As := [.int a0]) (rest := rest) hC hI hsz (m_J1_canEncode_fc78d l E ad V a0 r _ hf) cv_J1_canEncode_fc78d hl rfl rfl hR hcs hw hdg kk
theorem kN_J1_canEncode_fc78d {p : Program} {l : Launch} {e : Env} {R : Room} {cells slots : Nat} {s : State} {m : MethodId} {args : Array Value} {below : List Frame} {meth : Method} {c : Code} {H : Heap} {locs : List Loc} {Q : State → Prop} {E : En} {ad : Nat → Nat} {V : Mem} {ow host : String} {b : ByteArray} {n : Nat} {ret : Option FieldType} {pc index : Nat} {ls : Array Slot} {rest : List Value} {a0 : Int32} {r : Int32} {V1 : Mem} (hC : Cx p s m args c meth E ow b n ret) (hI : In E ad V s H locs) (hsz : ls.size = n) (hf : f_J1_canEncode_fc78d V a0 = some (r, V1)) (hl : Cond.methodLinkNest ow index yJ1_canEncode_fc78d host ∈ NB) (hR : 1 + 1 ≤ R.frames ∧ 8 + (1 + 11) + 40 * 1 ≤ R.locals) (hcs : cells ≤ R.cells ∧ slots ≤ R.slots) (hw : (rest.map fun v => v.category).sum ≤ 8) (hdg : decode b pc = .ok (.invokestatic index, 3)) (kk : ∀ (H1 : Heap) (locs1 : List Loc), In E ad V1 s H1 locs1 → W p l e R s m args below meth c H1 locs1 cells slots Q (F0 m (pc + 3) ls ((.int r) :: rest))) : W p l e R s m args below meth c H locs cells slots Q (F0 m pc ls (.int a0 :: rest)) :=
  r_calSN (As := [.int a0]) (rest := rest) hC hI hsz (m_J1_canEncode_fc78d l E ad V a0 r _ hf) cv_J1_canEncode_fc78d hl rfl rfl hR hcs hw hdg kk

theorem dJ5_isLatin1_aae02_0 : decode cJ5_isLatin1_aae02 0 = .ok (.getstatic 18, 3) := by decide +kernel
theorem dJ5_isLatin1_aae02_3 : decode cJ5_isLatin1_aae02 3 = .ok (.ifCond .eq 14, 3) := by decide +kernel
theorem dJ5_isLatin1_aae02_6 : decode cJ5_isLatin1_aae02 6 = .ok (.aload_n 0, 1) := by decide +kernel
theorem dJ5_isLatin1_aae02_7 : decode cJ5_isLatin1_aae02 7 = .ok (.getfield 22, 3) := by decide +kernel
theorem dJ5_isLatin1_aae02_10 : decode cJ5_isLatin1_aae02 10 = .ok (.ifCond .ne 7, 3) := by decide +kernel
theorem dJ5_isLatin1_aae02_13 : decode cJ5_isLatin1_aae02 13 = .ok (.iconst 1, 1) := by decide +kernel
theorem dJ5_isLatin1_aae02_14 : decode cJ5_isLatin1_aae02 14 = .ok (.goto 4, 3) := by decide +kernel
theorem dJ5_isLatin1_aae02_17 : decode cJ5_isLatin1_aae02 17 = .ok (.iconst 0, 1) := by decide +kernel
theorem dJ5_isLatin1_aae02_18 : decode cJ5_isLatin1_aae02 18 = .ok (.ireturn, 1) := by decide +kernel
def f_J5_isLatin1_aae02 (V : Mem) (t1 : Nat) : Option (Int32 × Mem) :=
  if (1 : Int32) = 0 then
    some (0, V)
  else
    if (0 : Int32) = 0 then
      some (1, V)
    else
      some (0, V)
theorem cv_J5_isLatin1_aae02 : CalW "java/lang/StringBuilder" yJ5_isLatin1_aae02 cJ5_isLatin1_aae02 1 (some .boolean) 0 := ⟨⟨⟨by decide +kernel, by decide +kernel⟩, tw_1_10, tw_5_213, by decide +kernel⟩, tw_5_210, tw_5_212⟩
set_option maxRecDepth 100000 in
set_option maxHeartbeats 4000000 in
theorem m_J5_isLatin1_aae02 (l : Launch) (E : En) (ad : Nat → Nat) (V : Mem) (t1 : Nat) (hS : SF E) (ht : TX t1) (r : Int32) (Vz : Mem) (hf : f_J5_isLatin1_aae02 V t1 = some (r, Vz)) : MR l E ad yJ5_isLatin1_aae02 cJ5_isLatin1_aae02 1 (some .boolean) 1 [.ref (ad t1)] V (some (.int r)) Vz := by
  refine ent (E := E) (ad := ad) (V := V) "java/lang/AbstractStringBuilder" (by decide +kernel) rfl (Nat.le_of_ble_eq_true rfl) ?_
  intro p e s m below meth c ls hC hI hl
  have hx := hC.1
  have hb := hC.2.1
  have hl : lv_has ls 1 [(0, .ref (ad t1))] := hl
  unfold f_J5_isLatin1_aae02 at hf
  refine t_compact hS hC hI tw_1_189 dJ5_isLatin1_aae02_0 ?_
  refine lv_if_eq (tgt := 17) hx hb dJ5_isLatin1_aae02_3 (by decide) (fun c3 => ?_) (fun c3 => ?_)
  · have hf := gt hf c3
    refine lv_iconst (v := 0) hx hb dJ5_isLatin1_aae02_17 rfl ?_
    exact r_zret2 hC hI (.inl rfl) hf dJ5_isLatin1_aae02_18
  · have hf := gf hf c3
    refine lv_aload_n hx hb dJ5_isLatin1_aae02_6 rfl (lv_at hl 0 rfl) ?_
    refine t_coder ht hC hI tw_1_199 dJ5_isLatin1_aae02_7 ?_
    refine lv_if_ne (tgt := 17) hx hb dJ5_isLatin1_aae02_10 (by decide) (fun c10 => ?_) (fun c10 => ?_)
    · have hf := gf hf c10
      refine lv_iconst (v := 0) hx hb dJ5_isLatin1_aae02_17 rfl ?_
      exact r_zret2 hC hI (.inl rfl) hf dJ5_isLatin1_aae02_18
    · have hf := gt hf c10
      refine lv_iconst (v := 1) hx hb dJ5_isLatin1_aae02_13 rfl ?_
      refine lv_goto (tgt := 18) hx hb dJ5_isLatin1_aae02_14 (by decide) ?_
      exact r_zret2 hC hI (.inr rfl) hf dJ5_isLatin1_aae02_18
theorem k_J5_isLatin1_aae02 {p : Program} {l : Launch} {e : Env} {R : Room} {cells slots : Nat} {s : State} {m : MethodId} {args : Array Value} {below : List Frame} {meth : Method} {c : Code} {H : Heap} {locs : List Loc} {Q : State → Prop} {E : En} {ad : Nat → Nat} {V : Mem} {ow : String} {b : ByteArray} {n : Nat} {ret : Option FieldType} {pc index : Nat} {ls : Array Slot} {rest : List Value} {t1 : Nat} {r : Int32} {V1 : Mem} (hS : SF E) (ht : TX t1) (hC : Cx p s m args c meth E ow b n ret) (hI : In E ad V s H locs) (hsz : ls.size = n) (hf : f_J5_isLatin1_aae02 V t1 = some (r, V1)) (hl : Cond.methodLink ow index yJ5_isLatin1_aae02 ∈ TB) (hR : 1 + 1 ≤ R.frames ∧ 8 + (1 + 11) + 40 * 1 ≤ R.locals) (hcs : cells ≤ R.cells ∧ slots ≤ R.slots) (hw : (rest.map fun v => v.category).sum ≤ 8) (hdg : decode b pc = .ok (.invokevirtual index, 3)) (kk : ∀ (H1 : Heap) (locs1 : List Loc), In E ad V1 s H1 locs1 → W p l e R s m args below meth c H1 locs1 cells slots Q (F0 m (pc + 3) ls ((.int r) :: rest))) : W p l e R s m args below meth c H locs cells slots Q (F0 m pc ls (.ref (ad t1) :: rest)) :=
  r_calW (As := []) (rest := rest) hC hI hsz (m_J5_isLatin1_aae02 l E ad V t1 hS ht r _ hf) cv_J5_isLatin1_aae02 hl (tx_ok ht) (fun sa => ce_tx ht _ _) rfl rfl rfl hR hcs hw hdg kk

theorem dJ8_newLength_cabcc_0 : decode cJ8_newLength_cabcc 0 = .ok (.iload_n 0, 1) := by decide +kernel
theorem dJ8_newLength_cabcc_1 : decode cJ8_newLength_cabcc 1 = .ok (.iload_n 1, 1) := by decide +kernel
theorem dJ8_newLength_cabcc_2 : decode cJ8_newLength_cabcc 2 = .ok (.iload_n 2, 1) := by decide +kernel
theorem dJ8_newLength_cabcc_3 : decode cJ8_newLength_cabcc 3 = .ok (.invokestatic 194, 3) := by decide +kernel
theorem dJ8_newLength_cabcc_6 : decode cJ8_newLength_cabcc 6 = .ok (.iadd, 1) := by decide +kernel
theorem dJ8_newLength_cabcc_7 : decode cJ8_newLength_cabcc 7 = .ok (.istore_n 3, 1) := by decide +kernel
theorem dJ8_newLength_cabcc_8 : decode cJ8_newLength_cabcc 8 = .ok (.iconst 0, 1) := by decide +kernel
theorem dJ8_newLength_cabcc_9 : decode cJ8_newLength_cabcc 9 = .ok (.iload_n 3, 1) := by decide +kernel
theorem dJ8_newLength_cabcc_10 : decode cJ8_newLength_cabcc 10 = .ok (.if_icmp .ge 11, 3) := by decide +kernel
theorem dJ8_newLength_cabcc_13 : decode cJ8_newLength_cabcc 13 = .ok (.iload_n 3, 1) := by decide +kernel
theorem dJ8_newLength_cabcc_14 : decode cJ8_newLength_cabcc 14 = .ok (.ldc 200, 2) := by decide +kernel
theorem dJ8_newLength_cabcc_16 : decode cJ8_newLength_cabcc 16 = .ok (.if_icmp .gt 5, 3) := by decide +kernel
theorem dJ8_newLength_cabcc_19 : decode cJ8_newLength_cabcc 19 = .ok (.iload_n 3, 1) := by decide +kernel
theorem dJ8_newLength_cabcc_20 : decode cJ8_newLength_cabcc 20 = .ok (.ireturn, 1) := by decide +kernel
theorem dJ8_newLength_cabcc_21 : decode cJ8_newLength_cabcc 21 = .ok (.iload_n 0, 1) := by decide +kernel
theorem dJ8_newLength_cabcc_22 : decode cJ8_newLength_cabcc 22 = .ok (.iload_n 1, 1) := by decide +kernel
theorem dJ8_newLength_cabcc_23 : decode cJ8_newLength_cabcc 23 = .ok (.invokestatic 201, 3) := by decide +kernel
theorem dJ8_newLength_cabcc_26 : decode cJ8_newLength_cabcc 26 = .ok (.ireturn, 1) := by decide +kernel
def f_J8_newLength_cabcc (V : Mem) (a0 : Int32) (a1 : Int32) (a2 : Int32) : Option (Int32 × Mem) :=
  if (a0 + (if a1 < a2 then a2 else a1)) ≤ 0 then
    none
  else
    if 2147483639 < (a0 + (if a1 < a2 then a2 else a1)) then
      none
    else
      some ((a0 + (if a1 < a2 then a2 else a1)), V)
theorem cv_J8_newLength_cabcc : CalS yJ8_newLength_cabcc cJ8_newLength_cabcc 4 (some .int) 3 := ⟨⟨⟨by decide +kernel, by decide +kernel⟩, tw_1_28, tw_5_190, by decide +kernel⟩, tw_5_189⟩
set_option maxRecDepth 100000 in
set_option maxHeartbeats 4000000 in
theorem m_J8_newLength_cabcc (l : Launch) (E : En) (ad : Nat → Nat) (V : Mem) (a0 : Int32) (a1 : Int32) (a2 : Int32) (r : Int32) (Vz : Mem) (hf : f_J8_newLength_cabcc V a0 a1 a2 = some (r, Vz)) : MR l E ad yJ8_newLength_cabcc cJ8_newLength_cabcc 4 (some .int) 1 [.int a0, .int a1, .int a2] V (some (.int r)) Vz := by
  refine ent (E := E) (ad := ad) (V := V) "jdk/internal/util/ArraysSupport" (by decide +kernel) rfl (Nat.le_of_ble_eq_true rfl) ?_
  intro p e s m below meth c ls hC hI hl
  have hx := hC.1
  have hb := hC.2.1
  have hl : lv_has ls 4 [(0, .int a0), (1, .int a1), (2, .int a2)] := hl
  unfold f_J8_newLength_cabcc at hf
  refine lv_iload_n hx hb dJ8_newLength_cabcc_0 rfl (lv_at hl 0 rfl) ?_
  refine lv_iload_n hx hb dJ8_newLength_cabcc_1 rfl (lv_at hl 1 rfl) ?_
  refine lv_iload_n hx hb dJ8_newLength_cabcc_2 rfl (lv_at hl 2 rfl) ?_
  refine r_mmax hC hl.1 tw_5_191 ⟨by decide, Nat.le_of_ble_eq_true rfl⟩ ⟨Nat.le_refl _, Nat.le_refl _⟩ dJ8_newLength_cabcc_3 ?_
  refine lv_iadd hx hb dJ8_newLength_cabcc_6 ?_
  refine lv_istore_n (lv' := [(3, .int (a0 + (if a1 < a2 then a2 else a1))), (0, .int a0), (1, .int a1), (2, .int a2)]) hx hb dJ8_newLength_cabcc_7 rfl hl (Nat.lt_of_lt_of_eq (by decide) rfl) rfl (fun ls hl => ?_)
  refine lv_iconst (v := 0) hx hb dJ8_newLength_cabcc_8 rfl ?_
  refine lv_iload_n hx hb dJ8_newLength_cabcc_9 rfl (lv_at hl 0 rfl) ?_
  refine lv_icmp_ge (tgt := 21) hx hb dJ8_newLength_cabcc_10 (by decide) (fun c10 => ?_) (fun c10 => ?_)
  · have hf := gt hf c10
    cases hf
  · have hf := gf hf c10
    refine lv_iload_n hx hb dJ8_newLength_cabcc_13 rfl (lv_at hl 0 rfl) ?_
    refine lv_ldc hx hb hC.2.2.2.1 (hC.2.2.2.2.1 _ tw_5_192) dJ8_newLength_cabcc_14 ?_
    refine lv_icmp_gt (tgt := 21) hx hb dJ8_newLength_cabcc_16 (by decide) (fun c16 => ?_) (fun c16 => ?_)
    · have hf := gt hf c16
      cases hf
    · have hf := gf hf c16
      refine lv_iload_n hx hb dJ8_newLength_cabcc_19 rfl (lv_at hl 0 rfl) ?_
      exact r_iret2 hC hI hf dJ8_newLength_cabcc_20
theorem k_J8_newLength_cabcc {p : Program} {l : Launch} {e : Env} {R : Room} {cells slots : Nat} {s : State} {m : MethodId} {args : Array Value} {below : List Frame} {meth : Method} {c : Code} {H : Heap} {locs : List Loc} {Q : State → Prop} {E : En} {ad : Nat → Nat} {V : Mem} {ow : String} {b : ByteArray} {n : Nat} {ret : Option FieldType} {pc index : Nat} {ls : Array Slot} {rest : List Value} {a0 : Int32} {a1 : Int32} {a2 : Int32} {r : Int32} {V1 : Mem} (hC : Cx p s m args c meth E ow b n ret) (hI : In E ad V s H locs) (hsz : ls.size = n) (hf : f_J8_newLength_cabcc V a0 a1 a2 = some (r, V1)) (hl : Cond.methodLink ow index yJ8_newLength_cabcc ∈ TB) (hR : 1 + 1 ≤ R.frames ∧ 8 + (4 + 11) + 40 * 1 ≤ R.locals) (hcs : cells ≤ R.cells ∧ slots ≤ R.slots) (hw : (rest.map fun v => v.category).sum ≤ 8) (hdg : decode b pc = .ok (.invokestatic index, 3)) (kk : ∀ (H1 : Heap) (locs1 : List Loc), In E ad V1 s H1 locs1 → W p l e R s m args below meth c H1 locs1 cells slots Q (F0 m (pc + 3) ls ((.int r) :: rest))) : W p l e R s m args below meth c H locs cells slots Q (F0 m pc ls (.int a2 :: .int a1 :: .int a0 :: rest)) :=
  r_calS (As := [.int a0, .int a1, .int a2]) (rest := rest) hC hI hsz (m_J8_newLength_cabcc l E ad V a0 a1 a2 r _ hf) cv_J8_newLength_cabcc hl rfl rfl hR hcs hw hdg kk
theorem kN_J8_newLength_cabcc {p : Program} {l : Launch} {e : Env} {R : Room} {cells slots : Nat} {s : State} {m : MethodId} {args : Array Value} {below : List Frame} {meth : Method} {c : Code} {H : Heap} {locs : List Loc} {Q : State → Prop} {E : En} {ad : Nat → Nat} {V : Mem} {ow host : String} {b : ByteArray} {n : Nat} {ret : Option FieldType} {pc index : Nat} {ls : Array Slot} {rest : List Value} {a0 : Int32} {a1 : Int32} {a2 : Int32} {r : Int32} {V1 : Mem} (hC : Cx p s m args c meth E ow b n ret) (hI : In E ad V s H locs) (hsz : ls.size = n) (hf : f_J8_newLength_cabcc V a0 a1 a2 = some (r, V1)) (hl : Cond.methodLinkNest ow index yJ8_newLength_cabcc host ∈ NB) (hR : 1 + 1 ≤ R.frames ∧ 8 + (4 + 11) + 40 * 1 ≤ R.locals) (hcs : cells ≤ R.cells ∧ slots ≤ R.slots) (hw : (rest.map fun v => v.category).sum ≤ 8) (hdg : decode b pc = .ok (.invokestatic index, 3)) (kk : ∀ (H1 : Heap) (locs1 : List Loc), In E ad V1 s H1 locs1 → W p l e R s m args below meth c H1 locs1 cells slots Q (F0 m (pc + 3) ls ((.int r) :: rest))) : W p l e R s m args below meth c H locs cells slots Q (F0 m pc ls (.int a2 :: .int a1 :: .int a0 :: rest)) :=
  r_calSN (As := [.int a0, .int a1, .int a2]) (rest := rest) hC hI hsz (m_J8_newLength_cabcc l E ad V a0 a1 a2 r _ hf) cv_J8_newLength_cabcc hl rfl rfl hR hcs hw hdg kk

theorem dJ5_newCapacity_0f7a4_0 : decode cJ5_newCapacity_0f7a4 0 = .ok (.aload_n 0, 1) := by decide +kernel
theorem dJ5_newCapacity_0f7a4_1 : decode cJ5_newCapacity_0f7a4 1 = .ok (.getfield 15, 3) := by decide +kernel
theorem dJ5_newCapacity_0f7a4_4 : decode cJ5_newCapacity_0f7a4 4 = .ok (.arraylength, 1) := by decide +kernel
theorem dJ5_newCapacity_0f7a4_5 : decode cJ5_newCapacity_0f7a4 5 = .ok (.istore_n 2, 1) := by decide +kernel
theorem dJ5_newCapacity_0f7a4_6 : decode cJ5_newCapacity_0f7a4 6 = .ok (.iload_n 1, 1) := by decide +kernel
theorem dJ5_newCapacity_0f7a4_7 : decode cJ5_newCapacity_0f7a4 7 = .ok (.aload_n 0, 1) := by decide +kernel
theorem dJ5_newCapacity_0f7a4_8 : decode cJ5_newCapacity_0f7a4 8 = .ok (.getfield 22, 3) := by decide +kernel
theorem dJ5_newCapacity_0f7a4_11 : decode cJ5_newCapacity_0f7a4 11 = .ok (.ishl, 1) := by decide +kernel
theorem dJ5_newCapacity_0f7a4_12 : decode cJ5_newCapacity_0f7a4 12 = .ok (.istore_n 3, 1) := by decide +kernel
theorem dJ5_newCapacity_0f7a4_13 : decode cJ5_newCapacity_0f7a4 13 = .ok (.iload_n 3, 1) := by decide +kernel
theorem dJ5_newCapacity_0f7a4_14 : decode cJ5_newCapacity_0f7a4 14 = .ok (.iload_n 2, 1) := by decide +kernel
theorem dJ5_newCapacity_0f7a4_15 : decode cJ5_newCapacity_0f7a4 15 = .ok (.isub, 1) := by decide +kernel
theorem dJ5_newCapacity_0f7a4_16 : decode cJ5_newCapacity_0f7a4 16 = .ok (.istore 4, 2) := by decide +kernel
theorem dJ5_newCapacity_0f7a4_18 : decode cJ5_newCapacity_0f7a4 18 = .ok (.iload_n 2, 1) := by decide +kernel
theorem dJ5_newCapacity_0f7a4_19 : decode cJ5_newCapacity_0f7a4 19 = .ok (.iload 4, 2) := by decide +kernel
theorem dJ5_newCapacity_0f7a4_21 : decode cJ5_newCapacity_0f7a4 21 = .ok (.iload_n 2, 1) := by decide +kernel
theorem dJ5_newCapacity_0f7a4_22 : decode cJ5_newCapacity_0f7a4 22 = .ok (.iconst 2, 1) := by decide +kernel
theorem dJ5_newCapacity_0f7a4_23 : decode cJ5_newCapacity_0f7a4 23 = .ok (.aload_n 0, 1) := by decide +kernel
theorem dJ5_newCapacity_0f7a4_24 : decode cJ5_newCapacity_0f7a4 24 = .ok (.getfield 22, 3) := by decide +kernel
theorem dJ5_newCapacity_0f7a4_27 : decode cJ5_newCapacity_0f7a4 27 = .ok (.ishl, 1) := by decide +kernel
theorem dJ5_newCapacity_0f7a4_28 : decode cJ5_newCapacity_0f7a4 28 = .ok (.iadd, 1) := by decide +kernel
theorem dJ5_newCapacity_0f7a4_29 : decode cJ5_newCapacity_0f7a4 29 = .ok (.invokestatic 114, 3) := by decide +kernel
theorem dJ5_newCapacity_0f7a4_32 : decode cJ5_newCapacity_0f7a4 32 = .ok (.istore 5, 2) := by decide +kernel
theorem dJ5_newCapacity_0f7a4_34 : decode cJ5_newCapacity_0f7a4 34 = .ok (.iload 5, 2) := by decide +kernel
theorem dJ5_newCapacity_0f7a4_36 : decode cJ5_newCapacity_0f7a4 36 = .ok (.ldc 39, 2) := by decide +kernel
theorem dJ5_newCapacity_0f7a4_38 : decode cJ5_newCapacity_0f7a4 38 = .ok (.if_icmp .ne 13, 3) := by decide +kernel
theorem dJ5_newCapacity_0f7a4_41 : decode cJ5_newCapacity_0f7a4 41 = .ok (.new 120, 3) := by decide +kernel
theorem dJ5_newCapacity_0f7a4_44 : decode cJ5_newCapacity_0f7a4 44 = .ok (.dup, 1) := by decide +kernel
theorem dJ5_newCapacity_0f7a4_45 : decode cJ5_newCapacity_0f7a4 45 = .ok (.ldc 122, 2) := by decide +kernel
theorem dJ5_newCapacity_0f7a4_47 : decode cJ5_newCapacity_0f7a4 47 = .ok (.invokespecial 124, 3) := by decide +kernel
theorem dJ5_newCapacity_0f7a4_50 : decode cJ5_newCapacity_0f7a4 50 = .ok (.athrow, 1) := by decide +kernel
theorem dJ5_newCapacity_0f7a4_51 : decode cJ5_newCapacity_0f7a4 51 = .ok (.iload 5, 2) := by decide +kernel
theorem dJ5_newCapacity_0f7a4_53 : decode cJ5_newCapacity_0f7a4 53 = .ok (.aload_n 0, 1) := by decide +kernel
theorem dJ5_newCapacity_0f7a4_54 : decode cJ5_newCapacity_0f7a4 54 = .ok (.getfield 22, 3) := by decide +kernel
theorem dJ5_newCapacity_0f7a4_57 : decode cJ5_newCapacity_0f7a4 57 = .ok (.ishr, 1) := by decide +kernel
theorem dJ5_newCapacity_0f7a4_58 : decode cJ5_newCapacity_0f7a4 58 = .ok (.ireturn, 1) := by decide +kernel
def f_J5_newCapacity_0f7a4 (V : Mem) (t1 : Nat) (a1 : Int32) : Option (Int32 × Mem) :=
  bd (f_J8_newLength_cabcc V (nI (bln V t1)) ((a1 <<< ((0 : Int32) &&& 31)) - (nI (bln V t1))) ((nI (bln V t1)) + ((2 : Int32) <<< ((0 : Int32) &&& 31)))) fun r29 V29 =>
  if r29 = 2147483647 then
    none
  else
    some ((r29 >>> ((0 : Int32) &&& 31)), V29)
theorem cv_J5_newCapacity_0f7a4 : CalW "java/lang/StringBuilder" yJ5_newCapacity_0f7a4 cJ5_newCapacity_0f7a4 6 (some .int) 1 := ⟨⟨⟨by decide +kernel, by decide +kernel⟩, tw_1_10, tw_5_187, by decide +kernel⟩, tw_5_186, tq_1⟩
set_option maxRecDepth 100000 in
set_option maxHeartbeats 4000000 in
theorem m_J5_newCapacity_0f7a4 (l : Launch) (E : En) (ad : Nat → Nat) (V : Mem) (t1 : Nat) (a1 : Int32) (ht : TX t1) {sa : Nat → Nat} (hA : Fx E sa) (r : Int32) (Vz : Mem) (hf : f_J5_newCapacity_0f7a4 V t1 a1 = some (r, Vz)) : MR l E ad yJ5_newCapacity_0f7a4 cJ5_newCapacity_0f7a4 6 (some .int) 2 [.ref (ad t1), .int a1] V (some (.int r)) Vz := by
  refine ent (E := E) (ad := ad) (V := V) "java/lang/AbstractStringBuilder" (by decide +kernel) rfl (Nat.le_of_ble_eq_true rfl) ?_
  intro p e s m below meth c ls hC hI hl
  have hx := hC.1
  have hb := hC.2.1
  have hl : lv_has ls 6 [(0, .ref (ad t1)), (1, .int a1)] := hl
  unfold f_J5_newCapacity_0f7a4 at hf
  refine lv_aload_n hx hb dJ5_newCapacity_0f7a4_0 rfl (lv_at hl 0 rfl) ?_
  refine t_value ht hA hC hI tw_1_198 dJ5_newCapacity_0f7a4_1 ?_
  refine t_blen ht hA hC hI dJ5_newCapacity_0f7a4_4 ?_
  refine lv_istore_n (lv' := [(2, .int (nI (bln V t1))), (0, .ref (ad t1)), (1, .int a1)]) hx hb dJ5_newCapacity_0f7a4_5 rfl hl (Nat.lt_of_lt_of_eq (by decide) rfl) rfl (fun ls hl => ?_)
  refine lv_iload_n hx hb dJ5_newCapacity_0f7a4_6 rfl (lv_at hl 2 rfl) ?_
  refine lv_aload_n hx hb dJ5_newCapacity_0f7a4_7 rfl (lv_at hl 1 rfl) ?_
  refine t_coder ht hC hI tw_1_199 dJ5_newCapacity_0f7a4_8 ?_
  refine lv_ishl hx hb dJ5_newCapacity_0f7a4_11 ?_
  refine lv_istore_n (lv' := [(3, .int (a1 <<< ((0 : Int32) &&& 31))), (2, .int (nI (bln V t1))), (0, .ref (ad t1)), (1, .int a1)]) hx hb dJ5_newCapacity_0f7a4_12 rfl hl (Nat.lt_of_lt_of_eq (by decide) rfl) rfl (fun ls hl => ?_)
  refine lv_iload_n hx hb dJ5_newCapacity_0f7a4_13 rfl (lv_at hl 0 rfl) ?_
  refine lv_iload_n hx hb dJ5_newCapacity_0f7a4_14 rfl (lv_at hl 1 rfl) ?_
  refine lv_isub hx hb dJ5_newCapacity_0f7a4_15 ?_
  refine lv_istore (lv' := [(4, .int ((a1 <<< ((0 : Int32) &&& 31)) - (nI (bln V t1)))), (3, .int (a1 <<< ((0 : Int32) &&& 31))), (2, .int (nI (bln V t1))), (0, .ref (ad t1)), (1, .int a1)]) hx hb dJ5_newCapacity_0f7a4_16 hl (Nat.lt_of_lt_of_eq (by decide) rfl) rfl (fun ls hl => ?_)
  refine lv_iload_n hx hb dJ5_newCapacity_0f7a4_18 rfl (lv_at hl 2 rfl) ?_
  refine lv_iload hx hb dJ5_newCapacity_0f7a4_19 (lv_at hl 0 rfl) ?_
  refine lv_iload_n hx hb dJ5_newCapacity_0f7a4_21 rfl (lv_at hl 2 rfl) ?_
  refine lv_iconst (v := 2) hx hb dJ5_newCapacity_0f7a4_22 rfl ?_
  refine lv_aload_n hx hb dJ5_newCapacity_0f7a4_23 rfl (lv_at hl 3 rfl) ?_
  refine t_coder ht hC hI tw_1_199 dJ5_newCapacity_0f7a4_24 ?_
  refine lv_ishl hx hb dJ5_newCapacity_0f7a4_27 ?_
  refine lv_iadd hx hb dJ5_newCapacity_0f7a4_28 ?_
  obtain ⟨r29, V29, q29, hf⟩ := gbd hf
  refine k_J8_newLength_cabcc hC hI hl.1 q29 tw_5_188 ⟨Nat.le_of_ble_eq_true rfl, Nat.le_of_ble_eq_true rfl⟩ ⟨Nat.le_refl _, Nat.le_refl _⟩ (Nat.le_of_ble_eq_true rfl) dJ5_newCapacity_0f7a4_29 (fun H locs hI => ?_)
  refine lv_istore (lv' := [(5, .int r29), (4, .int ((a1 <<< ((0 : Int32) &&& 31)) - (nI (bln V t1)))), (3, .int (a1 <<< ((0 : Int32) &&& 31))), (2, .int (nI (bln V t1))), (0, .ref (ad t1)), (1, .int a1)]) hx hb dJ5_newCapacity_0f7a4_32 hl (Nat.lt_of_lt_of_eq (by decide) rfl) rfl (fun ls hl => ?_)
  refine lv_iload hx hb dJ5_newCapacity_0f7a4_34 (lv_at hl 0 rfl) ?_
  refine lv_ldc hx hb hC.2.2.2.1 (hC.2.2.2.2.1 _ tw_5_196) dJ5_newCapacity_0f7a4_36 ?_
  refine lv_icmp_ne (tgt := 51) hx hb dJ5_newCapacity_0f7a4_38 (by decide) (fun c38 => ?_) (fun c38 => ?_)
  · have hf := gf hf c38
    refine lv_iload hx hb dJ5_newCapacity_0f7a4_51 (lv_at hl 0 rfl) ?_
    refine lv_aload_n hx hb dJ5_newCapacity_0f7a4_53 rfl (lv_at hl 4 rfl) ?_
    refine t_coder ht hC hI tw_1_199 dJ5_newCapacity_0f7a4_54 ?_
    refine lv_ishr hx hb dJ5_newCapacity_0f7a4_57 ?_
    exact r_iret2 hC hI hf dJ5_newCapacity_0f7a4_58
  · have hf := gt hf c38
    cases hf
theorem k_J5_newCapacity_0f7a4 {p : Program} {l : Launch} {e : Env} {R : Room} {cells slots : Nat} {s : State} {m : MethodId} {args : Array Value} {below : List Frame} {meth : Method} {c : Code} {H : Heap} {locs : List Loc} {Q : State → Prop} {E : En} {ad : Nat → Nat} {V : Mem} {ow : String} {b : ByteArray} {n : Nat} {ret : Option FieldType} {pc index : Nat} {ls : Array Slot} {rest : List Value} {t1 : Nat} {a1 : Int32} {r : Int32} {V1 : Mem} (ht : TX t1) {sa : Nat → Nat} (hA : Fx E sa) (hC : Cx p s m args c meth E ow b n ret) (hI : In E ad V s H locs) (hsz : ls.size = n) (hf : f_J5_newCapacity_0f7a4 V t1 a1 = some (r, V1)) (hl : Cond.methodLink ow index yJ5_newCapacity_0f7a4 ∈ TB) (hR : 2 + 1 ≤ R.frames ∧ 8 + (6 + 11) + 40 * 2 ≤ R.locals) (hcs : cells ≤ R.cells ∧ slots ≤ R.slots) (hw : (rest.map fun v => v.category).sum ≤ 8) (hdg : decode b pc = .ok (.invokevirtual index, 3)) (kk : ∀ (H1 : Heap) (locs1 : List Loc), In E ad V1 s H1 locs1 → W p l e R s m args below meth c H1 locs1 cells slots Q (F0 m (pc + 3) ls ((.int r) :: rest))) : W p l e R s m args below meth c H locs cells slots Q (F0 m pc ls (.int a1 :: .ref (ad t1) :: rest)) :=
  r_calW (As := [.int a1]) (rest := rest) hC hI hsz (m_J5_newCapacity_0f7a4 l E ad V t1 a1 ht hA r _ hf) cv_J5_newCapacity_0f7a4 hl (tx_ok ht) (fun sa => ce_tx ht _ _) rfl rfl rfl hR hcs hw hdg kk

theorem dJ6_stringSize_0f7a4_0 : decode cJ6_stringSize_0f7a4 0 = .ok (.iconst 1, 1) := by decide +kernel
theorem dJ6_stringSize_0f7a4_1 : decode cJ6_stringSize_0f7a4 1 = .ok (.istore_n 1, 1) := by decide +kernel
theorem dJ6_stringSize_0f7a4_2 : decode cJ6_stringSize_0f7a4 2 = .ok (.iload_n 0, 1) := by decide +kernel
theorem dJ6_stringSize_0f7a4_3 : decode cJ6_stringSize_0f7a4 3 = .ok (.ifCond .lt 8, 3) := by decide +kernel
theorem dJ6_stringSize_0f7a4_6 : decode cJ6_stringSize_0f7a4 6 = .ok (.iconst 0, 1) := by decide +kernel
theorem dJ6_stringSize_0f7a4_7 : decode cJ6_stringSize_0f7a4 7 = .ok (.istore_n 1, 1) := by decide +kernel
theorem dJ6_stringSize_0f7a4_8 : decode cJ6_stringSize_0f7a4 8 = .ok (.iload_n 0, 1) := by decide +kernel
theorem dJ6_stringSize_0f7a4_9 : decode cJ6_stringSize_0f7a4 9 = .ok (.ineg, 1) := by decide +kernel
theorem dJ6_stringSize_0f7a4_10 : decode cJ6_stringSize_0f7a4 10 = .ok (.istore_n 0, 1) := by decide +kernel
theorem dJ6_stringSize_0f7a4_11 : decode cJ6_stringSize_0f7a4 11 = .ok (.bipush (-10), 2) := by decide +kernel
theorem dJ6_stringSize_0f7a4_13 : decode cJ6_stringSize_0f7a4 13 = .ok (.istore_n 2, 1) := by decide +kernel
theorem dJ6_stringSize_0f7a4_14 : decode cJ6_stringSize_0f7a4 14 = .ok (.iconst 1, 1) := by decide +kernel
theorem dJ6_stringSize_0f7a4_15 : decode cJ6_stringSize_0f7a4 15 = .ok (.istore_n 3, 1) := by decide +kernel
theorem dJ6_stringSize_0f7a4_16 : decode cJ6_stringSize_0f7a4 16 = .ok (.iload_n 3, 1) := by decide +kernel
theorem dJ6_stringSize_0f7a4_17 : decode cJ6_stringSize_0f7a4 17 = .ok (.bipush 10, 2) := by decide +kernel
theorem dJ6_stringSize_0f7a4_19 : decode cJ6_stringSize_0f7a4 19 = .ok (.if_icmp .ge 23, 3) := by decide +kernel
theorem dJ6_stringSize_0f7a4_22 : decode cJ6_stringSize_0f7a4 22 = .ok (.iload_n 0, 1) := by decide +kernel
theorem dJ6_stringSize_0f7a4_23 : decode cJ6_stringSize_0f7a4 23 = .ok (.iload_n 2, 1) := by decide +kernel
theorem dJ6_stringSize_0f7a4_24 : decode cJ6_stringSize_0f7a4 24 = .ok (.if_icmp .le 7, 3) := by decide +kernel
theorem dJ6_stringSize_0f7a4_27 : decode cJ6_stringSize_0f7a4 27 = .ok (.iload_n 3, 1) := by decide +kernel
theorem dJ6_stringSize_0f7a4_28 : decode cJ6_stringSize_0f7a4 28 = .ok (.iload_n 1, 1) := by decide +kernel
theorem dJ6_stringSize_0f7a4_29 : decode cJ6_stringSize_0f7a4 29 = .ok (.iadd, 1) := by decide +kernel
theorem dJ6_stringSize_0f7a4_30 : decode cJ6_stringSize_0f7a4 30 = .ok (.ireturn, 1) := by decide +kernel
theorem dJ6_stringSize_0f7a4_31 : decode cJ6_stringSize_0f7a4 31 = .ok (.bipush 10, 2) := by decide +kernel
theorem dJ6_stringSize_0f7a4_33 : decode cJ6_stringSize_0f7a4 33 = .ok (.iload_n 2, 1) := by decide +kernel
theorem dJ6_stringSize_0f7a4_34 : decode cJ6_stringSize_0f7a4 34 = .ok (.imul, 1) := by decide +kernel
theorem dJ6_stringSize_0f7a4_35 : decode cJ6_stringSize_0f7a4 35 = .ok (.istore_n 2, 1) := by decide +kernel
theorem dJ6_stringSize_0f7a4_36 : decode cJ6_stringSize_0f7a4 36 = .ok (.iinc 3 1, 3) := by decide +kernel
theorem dJ6_stringSize_0f7a4_39 : decode cJ6_stringSize_0f7a4 39 = .ok (.goto (-23), 3) := by decide +kernel
theorem dJ6_stringSize_0f7a4_42 : decode cJ6_stringSize_0f7a4 42 = .ok (.bipush 10, 2) := by decide +kernel
theorem dJ6_stringSize_0f7a4_44 : decode cJ6_stringSize_0f7a4 44 = .ok (.iload_n 1, 1) := by decide +kernel
theorem dJ6_stringSize_0f7a4_45 : decode cJ6_stringSize_0f7a4 45 = .ok (.iadd, 1) := by decide +kernel
theorem dJ6_stringSize_0f7a4_46 : decode cJ6_stringSize_0f7a4 46 = .ok (.ireturn, 1) := by decide +kernel
def f_J6_stringSize_0f7a4_L16 (x0_11 : Int32) (x1_11 : Int32) : Nat → Mem → Int32 → Int32 → Option (Int32 × Mem)
  | 0, _, _, _ => none
  | n16 + 1, V16, x2_16, x3_16 =>
    if 10 ≤ x3_16 then
      some ((10 + x1_11), V16)
    else
      if x0_11 ≤ x2_16 then
        (f_J6_stringSize_0f7a4_L16 x0_11 x1_11 n16) V16 (10 * x2_16) (x3_16 + 1)
      else
        some ((x3_16 + x1_11), V16)
def f_J6_stringSize_0f7a4 (V : Mem) (a0 : Int32) : Option (Int32 × Mem) :=
  jn (α := Mem → Int32 → Int32 → Option (Int32 × Mem)) (fun j11 =>
    if a0 < 0 then
      j11 V a0 1
    else
      j11 V (-a0) 0
  ) (fun (V11 : Mem) (x0_11 : Int32) (x1_11 : Int32) =>
    f_J6_stringSize_0f7a4_L16 x0_11 x1_11 FU V11 (-10) 1
  )
theorem cv_J6_stringSize_0f7a4 : CalS yJ6_stringSize_0f7a4 cJ6_stringSize_0f7a4 4 (some .int) 1 := ⟨⟨⟨by decide +kernel, by decide +kernel⟩, tw_1_26, tw_6_52, by decide +kernel⟩, tw_6_51⟩
set_option maxRecDepth 100000 in
set_option maxHeartbeats 4000000 in
theorem m_J6_stringSize_0f7a4 (l : Launch) (E : En) (ad : Nat → Nat) (V : Mem) (a0 : Int32) (r : Int32) (Vz : Mem) (hf : f_J6_stringSize_0f7a4 V a0 = some (r, Vz)) : MR l E ad yJ6_stringSize_0f7a4 cJ6_stringSize_0f7a4 4 (some .int) 1 [.int a0] V (some (.int r)) Vz := by
  refine ent (E := E) (ad := ad) (V := V) "java/lang/Integer" (by decide +kernel) rfl (Nat.le_of_ble_eq_true rfl) ?_
  intro p e s m below meth c ls hC hI hl
  have hx := hC.1
  have hb := hC.2.1
  have hl : lv_has ls 4 [(0, .int a0)] := hl
  unfold f_J6_stringSize_0f7a4 at hf
  refine lv_iconst (v := 1) hx hb dJ6_stringSize_0f7a4_0 rfl ?_
  refine lv_istore_n (lv' := [(1, .int 1), (0, .int a0)]) hx hb dJ6_stringSize_0f7a4_1 rfl hl (Nat.lt_of_lt_of_eq (by decide) rfl) rfl (fun ls hl => ?_)
  refine lv_iload_n hx hb dJ6_stringSize_0f7a4_2 rfl (lv_at hl 1 rfl) ?_
  obtain ⟨j11, hj11, hf⟩ := gj hf
  have J11 : ∀ (V11 : Mem) (x0_11 : Int32) (x1_11 : Int32) (H : Heap) (locs : List Loc) (ls : Array Slot), j11 V11 x0_11 x1_11 = some (r, Vz) → In E ad V11 s H locs → lv_has ls 4 [(0, .int x0_11), (1, .int x1_11)] → W p l e (rmd 1) s m ([.int a0] : List Value).toArray below meth c H locs 0 0 (MQ below (QR E ad (some (.int r)) Vz) ([.int a0] : List Value).toArray s 0 0 (ours E)) (F0 m 11 ls []) := by
    intro V11 x0_11 x1_11 H locs ls hf hI hl
    rw [hj11] at hf
    dsimp only at hf
    refine lv_bipush (v := (-10)) hx hb dJ6_stringSize_0f7a4_11 rfl ?_
    refine lv_istore_n (lv' := [(2, .int (-10)), (0, .int x0_11), (1, .int x1_11)]) hx hb dJ6_stringSize_0f7a4_13 rfl hl (Nat.lt_of_lt_of_eq (by decide) rfl) rfl (fun ls hl => ?_)
    refine lv_iconst (v := 1) hx hb dJ6_stringSize_0f7a4_14 rfl ?_
    refine lv_istore_n (lv' := [(3, .int 1), (2, .int (-10)), (0, .int x0_11), (1, .int x1_11)]) hx hb dJ6_stringSize_0f7a4_15 rfl hl (Nat.lt_of_lt_of_eq (by decide) rfl) rfl (fun ls hl => ?_)
    have L16 : ∀ (n16 : Nat) (V16 : Mem) (x2_16 : Int32) (x3_16 : Int32) (H : Heap) (locs : List Loc) (ls : Array Slot), f_J6_stringSize_0f7a4_L16 x0_11 x1_11 n16 V16 x2_16 x3_16 = some (r, Vz) → In E ad V16 s H locs → lv_has ls 4 [(0, .int x0_11), (1, .int x1_11), (2, .int x2_16), (3, .int x3_16)] → W p l e (rmd 1) s m ([.int a0] : List Value).toArray below meth c H locs 0 0 (MQ below (QR E ad (some (.int r)) Vz) ([.int a0] : List Value).toArray s 0 0 (ours E)) (F0 m 16 ls []) := by
      intro n16
      induction n16 with
      | zero => intro V16 x2_16 x3_16 H locs ls hf hI hl; cases hf
      | succ n16 ih16 =>
        intro V16 x2_16 x3_16 H locs ls hf hI hl
        rw [f_J6_stringSize_0f7a4_L16.eq_2] at hf
        refine lv_iload_n hx hb dJ6_stringSize_0f7a4_16 rfl (lv_at hl 3 rfl) ?_
        refine lv_bipush (v := 10) hx hb dJ6_stringSize_0f7a4_17 rfl ?_
        refine lv_icmp_ge (tgt := 42) hx hb dJ6_stringSize_0f7a4_19 (by decide) (fun c19 => ?_) (fun c19 => ?_)
        · have hf := gt hf c19
          refine lv_bipush (v := 10) hx hb dJ6_stringSize_0f7a4_42 rfl ?_
          refine lv_iload_n hx hb dJ6_stringSize_0f7a4_44 rfl (lv_at hl 1 rfl) ?_
          refine lv_iadd hx hb dJ6_stringSize_0f7a4_45 ?_
          exact r_iret2 hC hI hf dJ6_stringSize_0f7a4_46
        · have hf := gf hf c19
          refine lv_iload_n hx hb dJ6_stringSize_0f7a4_22 rfl (lv_at hl 0 rfl) ?_
          refine lv_iload_n hx hb dJ6_stringSize_0f7a4_23 rfl (lv_at hl 2 rfl) ?_
          refine lv_icmp_le (tgt := 31) hx hb dJ6_stringSize_0f7a4_24 (by decide) (fun c24 => ?_) (fun c24 => ?_)
          · have hf := gt hf c24
            refine lv_bipush (v := 10) hx hb dJ6_stringSize_0f7a4_31 rfl ?_
            refine lv_iload_n hx hb dJ6_stringSize_0f7a4_33 rfl (lv_at hl 2 rfl) ?_
            refine lv_imul hx hb dJ6_stringSize_0f7a4_34 ?_
            refine lv_istore_n (lv' := [(2, .int (10 * x2_16)), (0, .int x0_11), (1, .int x1_11), (3, .int x3_16)]) hx hb dJ6_stringSize_0f7a4_35 rfl hl (Nat.lt_of_lt_of_eq (by decide) rfl) rfl (fun ls hl => ?_)
            refine lv_iinc (v := (x3_16 + 1)) (lv' := [(3, .int (x3_16 + 1)), (2, .int (10 * x2_16)), (0, .int x0_11), (1, .int x1_11)]) hx hb dJ6_stringSize_0f7a4_36 hl (k := 3) rfl rfl (Nat.lt_of_lt_of_eq (by decide) rfl) rfl (fun ls hl => ?_)
            refine lv_goto (tgt := 16) hx hb dJ6_stringSize_0f7a4_39 (by decide) ?_
            exact ih16 _ _ _ _ _ _ hf hI (lv_sub hl [2, 3, 1, 0] rfl)
          · have hf := gf hf c24
            refine lv_iload_n hx hb dJ6_stringSize_0f7a4_27 rfl (lv_at hl 3 rfl) ?_
            refine lv_iload_n hx hb dJ6_stringSize_0f7a4_28 rfl (lv_at hl 1 rfl) ?_
            refine lv_iadd hx hb dJ6_stringSize_0f7a4_29 ?_
            exact r_iret2 hC hI hf dJ6_stringSize_0f7a4_30
    exact L16 _ _ _ _ _ _ _ hf hI (lv_sub hl [2, 3, 1, 0] rfl)
  refine lv_if_lt (tgt := 11) hx hb dJ6_stringSize_0f7a4_3 (by decide) (fun c3 => ?_) (fun c3 => ?_)
  · have hf := gt hf c3
    exact J11 _ _ _ _ _ _ hf hI (lv_sub hl [1, 0] rfl)
  · have hf := gf hf c3
    refine lv_iconst (v := 0) hx hb dJ6_stringSize_0f7a4_6 rfl ?_
    refine lv_istore_n (lv' := [(1, .int 0), (0, .int a0)]) hx hb dJ6_stringSize_0f7a4_7 rfl hl (Nat.lt_of_lt_of_eq (by decide) rfl) rfl (fun ls hl => ?_)
    refine lv_iload_n hx hb dJ6_stringSize_0f7a4_8 rfl (lv_at hl 1 rfl) ?_
    refine lv_ineg hx hb dJ6_stringSize_0f7a4_9 ?_
    refine lv_istore_n (lv' := [(0, .int (-a0)), (1, .int 0)]) hx hb dJ6_stringSize_0f7a4_10 rfl hl (Nat.lt_of_lt_of_eq (by decide) rfl) rfl (fun ls hl => ?_)
    exact J11 _ _ _ _ _ _ hf hI (lv_sub hl [0, 1] rfl)
theorem k_J6_stringSize_0f7a4 {p : Program} {l : Launch} {e : Env} {R : Room} {cells slots : Nat} {s : State} {m : MethodId} {args : Array Value} {below : List Frame} {meth : Method} {c : Code} {H : Heap} {locs : List Loc} {Q : State → Prop} {E : En} {ad : Nat → Nat} {V : Mem} {ow : String} {b : ByteArray} {n : Nat} {ret : Option FieldType} {pc index : Nat} {ls : Array Slot} {rest : List Value} {a0 : Int32} {r : Int32} {V1 : Mem} (hC : Cx p s m args c meth E ow b n ret) (hI : In E ad V s H locs) (hsz : ls.size = n) (hf : f_J6_stringSize_0f7a4 V a0 = some (r, V1)) (hl : Cond.methodLink ow index yJ6_stringSize_0f7a4 ∈ TB) (hR : 1 + 1 ≤ R.frames ∧ 8 + (4 + 11) + 40 * 1 ≤ R.locals) (hcs : cells ≤ R.cells ∧ slots ≤ R.slots) (hw : (rest.map fun v => v.category).sum ≤ 8) (hdg : decode b pc = .ok (.invokestatic index, 3)) (kk : ∀ (H1 : Heap) (locs1 : List Loc), In E ad V1 s H1 locs1 → W p l e R s m args below meth c H1 locs1 cells slots Q (F0 m (pc + 3) ls ((.int r) :: rest))) : W p l e R s m args below meth c H locs cells slots Q (F0 m pc ls (.int a0 :: rest)) :=
  r_calS (As := [.int a0]) (rest := rest) hC hI hsz (m_J6_stringSize_0f7a4 l E ad V a0 r _ hf) cv_J6_stringSize_0f7a4 hl rfl rfl hR hcs hw hdg kk
theorem kN_J6_stringSize_0f7a4 {p : Program} {l : Launch} {e : Env} {R : Room} {cells slots : Nat} {s : State} {m : MethodId} {args : Array Value} {below : List Frame} {meth : Method} {c : Code} {H : Heap} {locs : List Loc} {Q : State → Prop} {E : En} {ad : Nat → Nat} {V : Mem} {ow host : String} {b : ByteArray} {n : Nat} {ret : Option FieldType} {pc index : Nat} {ls : Array Slot} {rest : List Value} {a0 : Int32} {r : Int32} {V1 : Mem} (hC : Cx p s m args c meth E ow b n ret) (hI : In E ad V s H locs) (hsz : ls.size = n) (hf : f_J6_stringSize_0f7a4 V a0 = some (r, V1)) (hl : Cond.methodLinkNest ow index yJ6_stringSize_0f7a4 host ∈ NB) (hR : 1 + 1 ≤ R.frames ∧ 8 + (4 + 11) + 40 * 1 ≤ R.locals) (hcs : cells ≤ R.cells ∧ slots ≤ R.slots) (hw : (rest.map fun v => v.category).sum ≤ 8) (hdg : decode b pc = .ok (.invokestatic index, 3)) (kk : ∀ (H1 : Heap) (locs1 : List Loc), In E ad V1 s H1 locs1 → W p l e R s m args below meth c H1 locs1 cells slots Q (F0 m (pc + 3) ls ((.int r) :: rest))) : W p l e R s m args below meth c H locs cells slots Q (F0 m pc ls (.int a0 :: rest)) :=
  r_calSN (As := [.int a0]) (rest := rest) hC hI hsz (m_J6_stringSize_0f7a4 l E ad V a0 r _ hf) cv_J6_stringSize_0f7a4 hl rfl rfl hR hcs hw hdg kk

theorem dJ6_getChars_ba4f3_0 : decode cJ6_getChars_ba4f3 0 = .ok (.iload_n 1, 1) := by decide +kernel
theorem dJ6_getChars_ba4f3_1 : decode cJ6_getChars_ba4f3 1 = .ok (.istore 5, 2) := by decide +kernel
theorem dJ6_getChars_ba4f3_3 : decode cJ6_getChars_ba4f3 3 = .ok (.iload_n 0, 1) := by decide +kernel
theorem dJ6_getChars_ba4f3_4 : decode cJ6_getChars_ba4f3 4 = .ok (.ifCond .ge 7, 3) := by decide +kernel
theorem dJ6_getChars_ba4f3_7 : decode cJ6_getChars_ba4f3 7 = .ok (.iconst 1, 1) := by decide +kernel
theorem dJ6_getChars_ba4f3_8 : decode cJ6_getChars_ba4f3 8 = .ok (.goto 4, 3) := by decide +kernel
theorem dJ6_getChars_ba4f3_11 : decode cJ6_getChars_ba4f3 11 = .ok (.iconst 0, 1) := by decide +kernel
theorem dJ6_getChars_ba4f3_12 : decode cJ6_getChars_ba4f3 12 = .ok (.istore 6, 2) := by decide +kernel
theorem dJ6_getChars_ba4f3_14 : decode cJ6_getChars_ba4f3 14 = .ok (.iload 6, 2) := by decide +kernel
theorem dJ6_getChars_ba4f3_16 : decode cJ6_getChars_ba4f3 16 = .ok (.ifCond .ne 6, 3) := by decide +kernel
theorem dJ6_getChars_ba4f3_19 : decode cJ6_getChars_ba4f3 19 = .ok (.iload_n 0, 1) := by decide +kernel
theorem dJ6_getChars_ba4f3_20 : decode cJ6_getChars_ba4f3 20 = .ok (.ineg, 1) := by decide +kernel
theorem dJ6_getChars_ba4f3_21 : decode cJ6_getChars_ba4f3 21 = .ok (.istore_n 0, 1) := by decide +kernel
theorem dJ6_getChars_ba4f3_22 : decode cJ6_getChars_ba4f3 22 = .ok (.iload_n 0, 1) := by decide +kernel
theorem dJ6_getChars_ba4f3_23 : decode cJ6_getChars_ba4f3 23 = .ok (.bipush (-100), 2) := by decide +kernel
theorem dJ6_getChars_ba4f3_25 : decode cJ6_getChars_ba4f3 25 = .ok (.if_icmp .gt 47, 3) := by decide +kernel
theorem dJ6_getChars_ba4f3_28 : decode cJ6_getChars_ba4f3 28 = .ok (.iload_n 0, 1) := by decide +kernel
theorem dJ6_getChars_ba4f3_29 : decode cJ6_getChars_ba4f3 29 = .ok (.bipush 100, 2) := by decide +kernel
theorem dJ6_getChars_ba4f3_31 : decode cJ6_getChars_ba4f3 31 = .ok (.idiv, 1) := by decide +kernel
theorem dJ6_getChars_ba4f3_32 : decode cJ6_getChars_ba4f3 32 = .ok (.istore_n 3, 1) := by decide +kernel
theorem dJ6_getChars_ba4f3_33 : decode cJ6_getChars_ba4f3 33 = .ok (.iload_n 3, 1) := by decide +kernel
theorem dJ6_getChars_ba4f3_34 : decode cJ6_getChars_ba4f3 34 = .ok (.bipush 100, 2) := by decide +kernel
theorem dJ6_getChars_ba4f3_36 : decode cJ6_getChars_ba4f3 36 = .ok (.imul, 1) := by decide +kernel
theorem dJ6_getChars_ba4f3_37 : decode cJ6_getChars_ba4f3 37 = .ok (.iload_n 0, 1) := by decide +kernel
theorem dJ6_getChars_ba4f3_38 : decode cJ6_getChars_ba4f3 38 = .ok (.isub, 1) := by decide +kernel
theorem dJ6_getChars_ba4f3_39 : decode cJ6_getChars_ba4f3 39 = .ok (.istore 4, 2) := by decide +kernel
theorem dJ6_getChars_ba4f3_41 : decode cJ6_getChars_ba4f3 41 = .ok (.iload_n 3, 1) := by decide +kernel
theorem dJ6_getChars_ba4f3_42 : decode cJ6_getChars_ba4f3 42 = .ok (.istore_n 0, 1) := by decide +kernel
theorem dJ6_getChars_ba4f3_43 : decode cJ6_getChars_ba4f3 43 = .ok (.aload_n 2, 1) := by decide +kernel
theorem dJ6_getChars_ba4f3_44 : decode cJ6_getChars_ba4f3 44 = .ok (.iinc 5 (-1), 3) := by decide +kernel
theorem dJ6_getChars_ba4f3_47 : decode cJ6_getChars_ba4f3 47 = .ok (.iload 5, 2) := by decide +kernel
theorem dJ6_getChars_ba4f3_49 : decode cJ6_getChars_ba4f3 49 = .ok (.getstatic 83, 3) := by decide +kernel
theorem dJ6_getChars_ba4f3_52 : decode cJ6_getChars_ba4f3 52 = .ok (.iload 4, 2) := by decide +kernel
theorem dJ6_getChars_ba4f3_54 : decode cJ6_getChars_ba4f3 54 = .ok (.baload, 1) := by decide +kernel
theorem dJ6_getChars_ba4f3_55 : decode cJ6_getChars_ba4f3 55 = .ok (.bastore, 1) := by decide +kernel
theorem dJ6_getChars_ba4f3_56 : decode cJ6_getChars_ba4f3 56 = .ok (.aload_n 2, 1) := by decide +kernel
theorem dJ6_getChars_ba4f3_57 : decode cJ6_getChars_ba4f3 57 = .ok (.iinc 5 (-1), 3) := by decide +kernel
theorem dJ6_getChars_ba4f3_60 : decode cJ6_getChars_ba4f3 60 = .ok (.iload 5, 2) := by decide +kernel
theorem dJ6_getChars_ba4f3_62 : decode cJ6_getChars_ba4f3 62 = .ok (.getstatic 87, 3) := by decide +kernel
theorem dJ6_getChars_ba4f3_65 : decode cJ6_getChars_ba4f3 65 = .ok (.iload 4, 2) := by decide +kernel
theorem dJ6_getChars_ba4f3_67 : decode cJ6_getChars_ba4f3 67 = .ok (.baload, 1) := by decide +kernel
theorem dJ6_getChars_ba4f3_68 : decode cJ6_getChars_ba4f3 68 = .ok (.bastore, 1) := by decide +kernel
theorem dJ6_getChars_ba4f3_69 : decode cJ6_getChars_ba4f3 69 = .ok (.goto (-47), 3) := by decide +kernel
theorem dJ6_getChars_ba4f3_72 : decode cJ6_getChars_ba4f3 72 = .ok (.aload_n 2, 1) := by decide +kernel
theorem dJ6_getChars_ba4f3_73 : decode cJ6_getChars_ba4f3 73 = .ok (.iinc 5 (-1), 3) := by decide +kernel
theorem dJ6_getChars_ba4f3_76 : decode cJ6_getChars_ba4f3 76 = .ok (.iload 5, 2) := by decide +kernel
theorem dJ6_getChars_ba4f3_78 : decode cJ6_getChars_ba4f3 78 = .ok (.getstatic 83, 3) := by decide +kernel
theorem dJ6_getChars_ba4f3_81 : decode cJ6_getChars_ba4f3 81 = .ok (.iload_n 0, 1) := by decide +kernel
theorem dJ6_getChars_ba4f3_82 : decode cJ6_getChars_ba4f3 82 = .ok (.ineg, 1) := by decide +kernel
theorem dJ6_getChars_ba4f3_83 : decode cJ6_getChars_ba4f3 83 = .ok (.baload, 1) := by decide +kernel
theorem dJ6_getChars_ba4f3_84 : decode cJ6_getChars_ba4f3 84 = .ok (.bastore, 1) := by decide +kernel
theorem dJ6_getChars_ba4f3_85 : decode cJ6_getChars_ba4f3 85 = .ok (.iload_n 0, 1) := by decide +kernel
theorem dJ6_getChars_ba4f3_86 : decode cJ6_getChars_ba4f3 86 = .ok (.bipush (-9), 2) := by decide +kernel
theorem dJ6_getChars_ba4f3_88 : decode cJ6_getChars_ba4f3 88 = .ok (.if_icmp .ge 16, 3) := by decide +kernel
theorem dJ6_getChars_ba4f3_91 : decode cJ6_getChars_ba4f3 91 = .ok (.aload_n 2, 1) := by decide +kernel
theorem dJ6_getChars_ba4f3_92 : decode cJ6_getChars_ba4f3 92 = .ok (.iinc 5 (-1), 3) := by decide +kernel
theorem dJ6_getChars_ba4f3_95 : decode cJ6_getChars_ba4f3 95 = .ok (.iload 5, 2) := by decide +kernel
theorem dJ6_getChars_ba4f3_97 : decode cJ6_getChars_ba4f3 97 = .ok (.getstatic 87, 3) := by decide +kernel
theorem dJ6_getChars_ba4f3_100 : decode cJ6_getChars_ba4f3 100 = .ok (.iload_n 0, 1) := by decide +kernel
theorem dJ6_getChars_ba4f3_101 : decode cJ6_getChars_ba4f3 101 = .ok (.ineg, 1) := by decide +kernel
theorem dJ6_getChars_ba4f3_102 : decode cJ6_getChars_ba4f3 102 = .ok (.baload, 1) := by decide +kernel
theorem dJ6_getChars_ba4f3_103 : decode cJ6_getChars_ba4f3 103 = .ok (.bastore, 1) := by decide +kernel
theorem dJ6_getChars_ba4f3_104 : decode cJ6_getChars_ba4f3 104 = .ok (.iload 6, 2) := by decide +kernel
theorem dJ6_getChars_ba4f3_106 : decode cJ6_getChars_ba4f3 106 = .ok (.ifCond .eq 12, 3) := by decide +kernel
theorem dJ6_getChars_ba4f3_109 : decode cJ6_getChars_ba4f3 109 = .ok (.aload_n 2, 1) := by decide +kernel
theorem dJ6_getChars_ba4f3_110 : decode cJ6_getChars_ba4f3 110 = .ok (.iinc 5 (-1), 3) := by decide +kernel
theorem dJ6_getChars_ba4f3_113 : decode cJ6_getChars_ba4f3 113 = .ok (.iload 5, 2) := by decide +kernel
theorem dJ6_getChars_ba4f3_115 : decode cJ6_getChars_ba4f3 115 = .ok (.bipush 45, 2) := by decide +kernel
theorem dJ6_getChars_ba4f3_117 : decode cJ6_getChars_ba4f3 117 = .ok (.bastore, 1) := by decide +kernel
theorem dJ6_getChars_ba4f3_118 : decode cJ6_getChars_ba4f3 118 = .ok (.iload 5, 2) := by decide +kernel
theorem dJ6_getChars_ba4f3_120 : decode cJ6_getChars_ba4f3 120 = .ok (.ireturn, 1) := by decide +kernel
def f_J6_getChars_ba4f3_L22 (t1 : Nat) (s0_12 : Int32) (j72 : Mem → Int32 → Int32 → Option (Int32 × Mem)) : Nat → Mem → Int32 → Int32 → Option (Int32 × Mem)
  | 0, _, _, _ => none
  | n22 + 1, V22, x0_22, x5_22 =>
    if (-100) < x0_22 then
      j72 V22 x0_22 x5_22
    else
      if ib (((x0_22 / 100) * 100) - x0_22) 100 = true then
        if ib (x5_22 + (-1)) (bln V22 t1) = true then
          lt (stv V22 (t1 + 1) ((x5_22 + (-1)).toNatClampNeg + 1) (vp_nar .byte (digOf 2 (((x0_22 / 100) * 100) - x0_22).toNatClampNeg))) fun V55 =>
          if ib (((x0_22 / 100) * 100) - x0_22) 100 = true then
            if ib ((x5_22 + (-1)) + (-1)) (bln V55 t1) = true then
              lt (stv V55 (t1 + 1) (((x5_22 + (-1)) + (-1)).toNatClampNeg + 1) (vp_nar .byte (digOf 3 (((x0_22 / 100) * 100) - x0_22).toNatClampNeg))) fun V68 =>
              (f_J6_getChars_ba4f3_L22 t1 s0_12 j72 n22) V68 (x0_22 / 100) ((x5_22 + (-1)) + (-1))
            else none
          else none
        else none
      else none
def f_J6_getChars_ba4f3 (V : Mem) (t1 : Nat) (a0 : Int32) (a1 : Int32) : Option (Int32 × Mem) :=
  jn (α := Mem → Int32 → Option (Int32 × Mem)) (fun j12 =>
    if 0 ≤ a0 then
      j12 V 0
    else
      j12 V 1
  ) (fun (V12 : Mem) (s0_12 : Int32) =>
    jn (α := Mem → Int32 → Option (Int32 × Mem)) (fun j22 =>
      if s0_12 = 0 then
        j22 V12 (-a0)
      else
        j22 V12 a0
    ) (fun (V22 : Mem) (x0_22 : Int32) =>
      jn (α := Mem → Int32 → Int32 → Option (Int32 × Mem)) (fun j72 =>
        f_J6_getChars_ba4f3_L22 t1 s0_12 j72 FU V22 x0_22 a1
      ) (fun (V72 : Mem) (x0_72 : Int32) (x5_72 : Int32) =>
        if ib (-x0_72) 100 = true then
          if ib (x5_72 + (-1)) (bln V72 t1) = true then
            lt (stv V72 (t1 + 1) ((x5_72 + (-1)).toNatClampNeg + 1) (vp_nar .byte (digOf 2 (-x0_72).toNatClampNeg))) fun V84 =>
            jn (α := Mem → Int32 → Option (Int32 × Mem)) (fun j104 =>
              if (-9) ≤ x0_72 then
                j104 V84 (x5_72 + (-1))
              else
                if ib (-x0_72) 100 = true then
                  if ib ((x5_72 + (-1)) + (-1)) (bln V84 t1) = true then
                    lt (stv V84 (t1 + 1) (((x5_72 + (-1)) + (-1)).toNatClampNeg + 1) (vp_nar .byte (digOf 3 (-x0_72).toNatClampNeg))) fun V103 =>
                    j104 V103 ((x5_72 + (-1)) + (-1))
                  else none
                else none
            ) (fun (V104 : Mem) (x5_104 : Int32) =>
              if s0_12 = 0 then
                some (x5_104, V104)
              else
                if ib (x5_104 + (-1)) (bln V104 t1) = true then
                  lt (stv V104 (t1 + 1) ((x5_104 + (-1)).toNatClampNeg + 1) (vp_nar .byte 45)) fun V117 =>
                  some ((x5_104 + (-1)), V117)
                else none
            )
          else none
        else none
      )
    )
  )
theorem cv_J6_getChars_ba4f3 : CalS yJ6_getChars_ba4f3 cJ6_getChars_ba4f3 7 (some .int) 3 := ⟨⟨⟨by decide +kernel, by decide +kernel⟩, tw_1_26, tw_6_55, by decide +kernel⟩, tw_6_54⟩
set_option maxRecDepth 100000 in
set_option maxHeartbeats 4000000 in
theorem m_J6_getChars_ba4f3 (l : Launch) (E : En) (ad : Nat → Nat) (V : Mem) (t1 : Nat) (a0 : Int32) (a1 : Int32) (hS : SF E) (ht : TX t1) {sa : Nat → Nat} (hA : Fx E sa) (r : Int32) (Vz : Mem) (hf : f_J6_getChars_ba4f3 V t1 a0 a1 = some (r, Vz)) : MR l E ad yJ6_getChars_ba4f3 cJ6_getChars_ba4f3 7 (some .int) 1 [.int a0, .int a1, .ref (adx ad sa (t1 + 1))] V (some (.int r)) Vz := by
  refine ent (E := E) (ad := ad) (V := V) "java/lang/Integer" (by decide +kernel) rfl (Nat.le_of_ble_eq_true rfl) ?_
  intro p e s m below meth c ls hC hI hl
  have hx := hC.1
  have hb := hC.2.1
  have hl : lv_has ls 7 [(0, .int a0), (1, .int a1), (2, .ref (adx ad sa (t1 + 1)))] := hl
  unfold f_J6_getChars_ba4f3 at hf
  refine lv_iload_n hx hb dJ6_getChars_ba4f3_0 rfl (lv_at hl 1 rfl) ?_
  refine lv_istore (lv' := [(5, .int a1), (0, .int a0), (1, .int a1), (2, .ref (adx ad sa (t1 + 1)))]) hx hb dJ6_getChars_ba4f3_1 hl (Nat.lt_of_lt_of_eq (by decide) rfl) rfl (fun ls hl => ?_)
  refine lv_iload_n hx hb dJ6_getChars_ba4f3_3 rfl (lv_at hl 1 rfl) ?_
  obtain ⟨j12, hj12, hf⟩ := gj hf
  have J12 : ∀ (V12 : Mem) (s0_12 : Int32) (H : Heap) (locs : List Loc) (ls : Array Slot), j12 V12 s0_12 = some (r, Vz) → In E ad V12 s H locs → lv_has ls 7 [(0, .int a0), (2, .ref (adx ad sa (t1 + 1))), (5, .int a1)] → W p l e (rmd 1) s m ([.int a0, .int a1, .ref (adx ad sa (t1 + 1))] : List Value).toArray below meth c H locs 0 0 (MQ below (QR E ad (some (.int r)) Vz) ([.int a0, .int a1, .ref (adx ad sa (t1 + 1))] : List Value).toArray s 0 0 (ours E)) (F0 m 12 ls [.int s0_12]) := by
    intro V12 s0_12 H locs ls hf hI hl
    rw [hj12] at hf
    dsimp only at hf
    refine lv_istore (lv' := [(6, .int s0_12), (0, .int a0), (2, .ref (adx ad sa (t1 + 1))), (5, .int a1)]) hx hb dJ6_getChars_ba4f3_12 hl (Nat.lt_of_lt_of_eq (by decide) rfl) rfl (fun ls hl => ?_)
    refine lv_iload hx hb dJ6_getChars_ba4f3_14 (lv_at hl 0 rfl) ?_
    obtain ⟨j22, hj22, hf⟩ := gj hf
    have J22 : ∀ (V22 : Mem) (x0_22 : Int32) (H : Heap) (locs : List Loc) (ls : Array Slot), j22 V22 x0_22 = some (r, Vz) → In E ad V22 s H locs → lv_has ls 7 [(0, .int x0_22), (2, .ref (adx ad sa (t1 + 1))), (5, .int a1), (6, .int s0_12)] → W p l e (rmd 1) s m ([.int a0, .int a1, .ref (adx ad sa (t1 + 1))] : List Value).toArray below meth c H locs 0 0 (MQ below (QR E ad (some (.int r)) Vz) ([.int a0, .int a1, .ref (adx ad sa (t1 + 1))] : List Value).toArray s 0 0 (ours E)) (F0 m 22 ls []) := by
      intro V22 x0_22 H locs ls hf hI hl
      rw [hj22] at hf
      dsimp only at hf
      obtain ⟨j72, hj72, hf⟩ := gj hf
      have J72 : ∀ (V72 : Mem) (x0_72 : Int32) (x5_72 : Int32) (H : Heap) (locs : List Loc) (ls : Array Slot), j72 V72 x0_72 x5_72 = some (r, Vz) → In E ad V72 s H locs → lv_has ls 7 [(0, .int x0_72), (2, .ref (adx ad sa (t1 + 1))), (5, .int x5_72), (6, .int s0_12)] → W p l e (rmd 1) s m ([.int a0, .int a1, .ref (adx ad sa (t1 + 1))] : List Value).toArray below meth c H locs 0 0 (MQ below (QR E ad (some (.int r)) Vz) ([.int a0, .int a1, .ref (adx ad sa (t1 + 1))] : List Value).toArray s 0 0 (ours E)) (F0 m 72 ls []) := by
        intro V72 x0_72 x5_72 H locs ls hf hI hl
        rw [hj72] at hf
        dsimp only at hf
        refine lv_aload_n hx hb dJ6_getChars_ba4f3_72 rfl (lv_at hl 1 rfl) ?_
        refine lv_iinc (v := (x5_72 + (-1))) (lv' := [(5, .int (x5_72 + (-1))), (0, .int x0_72), (2, .ref (adx ad sa (t1 + 1))), (6, .int s0_12)]) hx hb dJ6_getChars_ba4f3_73 hl (k := 2) rfl rfl (Nat.lt_of_lt_of_eq (by decide) rfl) rfl (fun ls hl => ?_)
        refine lv_iload hx hb dJ6_getChars_ba4f3_76 (lv_at hl 0 rfl) ?_
        refine t_ones hS hC hI tw_6_56 dJ6_getChars_ba4f3_78 ?_
        refine lv_iload_n hx hb dJ6_getChars_ba4f3_81 rfl (lv_at hl 1 rfl) ?_
        refine lv_ineg hx hb dJ6_getChars_ba4f3_82 ?_
        obtain ⟨h83, hf⟩ := gi hf
        refine t_dig2 hS hC hI (ib_in h83) dJ6_getChars_ba4f3_83 ?_
        obtain ⟨h84, hf⟩ := gi hf
        obtain ⟨V84, e84, hf⟩ := gl hf
        refine t_bst ht hA hC hI (ib_in h84) e84 dJ6_getChars_ba4f3_84 (fun H locs hI => ?_)
        refine lv_iload_n hx hb dJ6_getChars_ba4f3_85 rfl (lv_at hl 1 rfl) ?_
        refine lv_bipush (v := (-9)) hx hb dJ6_getChars_ba4f3_86 rfl ?_
        obtain ⟨j104, hj104, hf⟩ := gj hf
        have J104 : ∀ (V104 : Mem) (x5_104 : Int32) (H : Heap) (locs : List Loc) (ls : Array Slot), j104 V104 x5_104 = some (r, Vz) → In E ad V104 s H locs → lv_has ls 7 [(2, .ref (adx ad sa (t1 + 1))), (5, .int x5_104), (6, .int s0_12)] → W p l e (rmd 1) s m ([.int a0, .int a1, .ref (adx ad sa (t1 + 1))] : List Value).toArray below meth c H locs 0 0 (MQ below (QR E ad (some (.int r)) Vz) ([.int a0, .int a1, .ref (adx ad sa (t1 + 1))] : List Value).toArray s 0 0 (ours E)) (F0 m 104 ls []) := by
          intro V104 x5_104 H locs ls hf hI hl
          rw [hj104] at hf
          dsimp only at hf
          refine lv_iload hx hb dJ6_getChars_ba4f3_104 (lv_at hl 2 rfl) ?_
          refine lv_if_eq (tgt := 118) hx hb dJ6_getChars_ba4f3_106 (by decide) (fun c106 => ?_) (fun c106 => ?_)
          · have hf := gt hf c106
            refine lv_iload hx hb dJ6_getChars_ba4f3_118 (lv_at hl 1 rfl) ?_
            exact r_iret2 hC hI hf dJ6_getChars_ba4f3_120
          · have hf := gf hf c106
            refine lv_aload_n hx hb dJ6_getChars_ba4f3_109 rfl (lv_at hl 0 rfl) ?_
            refine lv_iinc (v := (x5_104 + (-1))) (lv' := [(5, .int (x5_104 + (-1))), (2, .ref (adx ad sa (t1 + 1))), (6, .int s0_12)]) hx hb dJ6_getChars_ba4f3_110 hl (k := 1) rfl rfl (Nat.lt_of_lt_of_eq (by decide) rfl) rfl (fun ls hl => ?_)
            refine lv_iload hx hb dJ6_getChars_ba4f3_113 (lv_at hl 0 rfl) ?_
            refine lv_bipush (v := 45) hx hb dJ6_getChars_ba4f3_115 rfl ?_
            obtain ⟨h117, hf⟩ := gi hf
            obtain ⟨V117, e117, hf⟩ := gl hf
            refine t_bst ht hA hC hI (ib_in h117) e117 dJ6_getChars_ba4f3_117 (fun H locs hI => ?_)
            refine lv_iload hx hb dJ6_getChars_ba4f3_118 (lv_at hl 0 rfl) ?_
            exact r_iret2 hC hI hf dJ6_getChars_ba4f3_120
        refine lv_icmp_ge (tgt := 104) hx hb dJ6_getChars_ba4f3_88 (by decide) (fun c88 => ?_) (fun c88 => ?_)
        · have hf := gt hf c88
          exact J104 _ _ _ _ _ hf hI (lv_sub hl [2, 0, 3] rfl)
        · have hf := gf hf c88
          refine lv_aload_n hx hb dJ6_getChars_ba4f3_91 rfl (lv_at hl 2 rfl) ?_
          refine lv_iinc (v := ((x5_72 + (-1)) + (-1))) (lv' := [(5, .int ((x5_72 + (-1)) + (-1))), (0, .int x0_72), (2, .ref (adx ad sa (t1 + 1))), (6, .int s0_12)]) hx hb dJ6_getChars_ba4f3_92 hl (k := 0) rfl rfl (Nat.lt_of_lt_of_eq (by decide) rfl) rfl (fun ls hl => ?_)
          refine lv_iload hx hb dJ6_getChars_ba4f3_95 (lv_at hl 0 rfl) ?_
          refine t_tens hS hC hI tw_6_58 dJ6_getChars_ba4f3_97 ?_
          refine lv_iload_n hx hb dJ6_getChars_ba4f3_100 rfl (lv_at hl 1 rfl) ?_
          refine lv_ineg hx hb dJ6_getChars_ba4f3_101 ?_
          obtain ⟨h102, hf⟩ := gi hf
          refine t_dig3 hS hC hI (ib_in h102) dJ6_getChars_ba4f3_102 ?_
          obtain ⟨h103, hf⟩ := gi hf
          obtain ⟨V103, e103, hf⟩ := gl hf
          refine t_bst ht hA hC hI (ib_in h103) e103 dJ6_getChars_ba4f3_103 (fun H locs hI => ?_)
          exact J104 _ _ _ _ _ hf hI (lv_sub hl [2, 0, 3] rfl)
      have L22 : ∀ (n22 : Nat) (V22 : Mem) (x0_22 : Int32) (x5_22 : Int32) (H : Heap) (locs : List Loc) (ls : Array Slot), f_J6_getChars_ba4f3_L22 t1 s0_12 j72 n22 V22 x0_22 x5_22 = some (r, Vz) → In E ad V22 s H locs → lv_has ls 7 [(0, .int x0_22), (2, .ref (adx ad sa (t1 + 1))), (5, .int x5_22), (6, .int s0_12)] → W p l e (rmd 1) s m ([.int a0, .int a1, .ref (adx ad sa (t1 + 1))] : List Value).toArray below meth c H locs 0 0 (MQ below (QR E ad (some (.int r)) Vz) ([.int a0, .int a1, .ref (adx ad sa (t1 + 1))] : List Value).toArray s 0 0 (ours E)) (F0 m 22 ls []) := by
        intro n22
        induction n22 with
        | zero => intro V22 x0_22 x5_22 H locs ls hf hI hl; cases hf
        | succ n22 ih22 =>
          intro V22 x0_22 x5_22 H locs ls hf hI hl
          rw [f_J6_getChars_ba4f3_L22.eq_2] at hf
          refine lv_iload_n hx hb dJ6_getChars_ba4f3_22 rfl (lv_at hl 0 rfl) ?_
          refine lv_bipush (v := (-100)) hx hb dJ6_getChars_ba4f3_23 rfl ?_
          refine lv_icmp_gt (tgt := 72) hx hb dJ6_getChars_ba4f3_25 (by decide) (fun c25 => ?_) (fun c25 => ?_)
          · have hf := gt hf c25
            exact J72 _ _ _ _ _ _ hf hI (lv_sub hl [0, 1, 2, 3] rfl)
          · have hf := gf hf c25
            refine lv_iload_n hx hb dJ6_getChars_ba4f3_28 rfl (lv_at hl 0 rfl) ?_
            refine lv_bipush (v := 100) hx hb dJ6_getChars_ba4f3_29 rfl ?_
            refine lv_idiv hx hb dJ6_getChars_ba4f3_31 (by decide) ?_
            refine lv_istore_n (lv' := [(3, .int (x0_22 / 100)), (0, .int x0_22), (2, .ref (adx ad sa (t1 + 1))), (5, .int x5_22), (6, .int s0_12)]) hx hb dJ6_getChars_ba4f3_32 rfl hl (Nat.lt_of_lt_of_eq (by decide) rfl) rfl (fun ls hl => ?_)
            refine lv_iload_n hx hb dJ6_getChars_ba4f3_33 rfl (lv_at hl 0 rfl) ?_
            refine lv_bipush (v := 100) hx hb dJ6_getChars_ba4f3_34 rfl ?_
            refine lv_imul hx hb dJ6_getChars_ba4f3_36 ?_
            refine lv_iload_n hx hb dJ6_getChars_ba4f3_37 rfl (lv_at hl 1 rfl) ?_
            refine lv_isub hx hb dJ6_getChars_ba4f3_38 ?_
            refine lv_istore (lv' := [(4, .int (((x0_22 / 100) * 100) - x0_22)), (3, .int (x0_22 / 100)), (0, .int x0_22), (2, .ref (adx ad sa (t1 + 1))), (5, .int x5_22), (6, .int s0_12)]) hx hb dJ6_getChars_ba4f3_39 hl (Nat.lt_of_lt_of_eq (by decide) rfl) rfl (fun ls hl => ?_)
            refine lv_iload_n hx hb dJ6_getChars_ba4f3_41 rfl (lv_at hl 1 rfl) ?_
            refine lv_istore_n (lv' := [(0, .int (x0_22 / 100)), (4, .int (((x0_22 / 100) * 100) - x0_22)), (3, .int (x0_22 / 100)), (2, .ref (adx ad sa (t1 + 1))), (5, .int x5_22), (6, .int s0_12)]) hx hb dJ6_getChars_ba4f3_42 rfl hl (Nat.lt_of_lt_of_eq (by decide) rfl) rfl (fun ls hl => ?_)
            refine lv_aload_n hx hb dJ6_getChars_ba4f3_43 rfl (lv_at hl 3 rfl) ?_
            refine lv_iinc (v := (x5_22 + (-1))) (lv' := [(5, .int (x5_22 + (-1))), (0, .int (x0_22 / 100)), (4, .int (((x0_22 / 100) * 100) - x0_22)), (3, .int (x0_22 / 100)), (2, .ref (adx ad sa (t1 + 1))), (6, .int s0_12)]) hx hb dJ6_getChars_ba4f3_44 hl (k := 4) rfl rfl (Nat.lt_of_lt_of_eq (by decide) rfl) rfl (fun ls hl => ?_)
            refine lv_iload hx hb dJ6_getChars_ba4f3_47 (lv_at hl 0 rfl) ?_
            refine t_ones hS hC hI tw_6_56 dJ6_getChars_ba4f3_49 ?_
            refine lv_iload hx hb dJ6_getChars_ba4f3_52 (lv_at hl 2 rfl) ?_
            obtain ⟨h54, hf⟩ := gi hf
            refine t_dig2 hS hC hI (ib_in h54) dJ6_getChars_ba4f3_54 ?_
            obtain ⟨h55, hf⟩ := gi hf
            obtain ⟨V55, e55, hf⟩ := gl hf
            refine t_bst ht hA hC hI (ib_in h55) e55 dJ6_getChars_ba4f3_55 (fun H locs hI => ?_)
            refine lv_aload_n hx hb dJ6_getChars_ba4f3_56 rfl (lv_at hl 4 rfl) ?_
            refine lv_iinc (v := ((x5_22 + (-1)) + (-1))) (lv' := [(5, .int ((x5_22 + (-1)) + (-1))), (0, .int (x0_22 / 100)), (4, .int (((x0_22 / 100) * 100) - x0_22)), (3, .int (x0_22 / 100)), (2, .ref (adx ad sa (t1 + 1))), (6, .int s0_12)]) hx hb dJ6_getChars_ba4f3_57 hl (k := 0) rfl rfl (Nat.lt_of_lt_of_eq (by decide) rfl) rfl (fun ls hl => ?_)
            refine lv_iload hx hb dJ6_getChars_ba4f3_60 (lv_at hl 0 rfl) ?_
            refine t_tens hS hC hI tw_6_58 dJ6_getChars_ba4f3_62 ?_
            refine lv_iload hx hb dJ6_getChars_ba4f3_65 (lv_at hl 2 rfl) ?_
            obtain ⟨h67, hf⟩ := gi hf
            refine t_dig3 hS hC hI (ib_in h67) dJ6_getChars_ba4f3_67 ?_
            obtain ⟨h68, hf⟩ := gi hf
            obtain ⟨V68, e68, hf⟩ := gl hf
            refine t_bst ht hA hC hI (ib_in h68) e68 dJ6_getChars_ba4f3_68 (fun H locs hI => ?_)
            refine lv_goto (tgt := 22) hx hb dJ6_getChars_ba4f3_69 (by decide) ?_
            exact ih22 _ _ _ _ _ _ hf hI (lv_sub hl [1, 4, 0, 5] rfl)
      exact L22 _ _ _ _ _ _ _ hf hI (lv_sub hl [0, 1, 2, 3] rfl)
    refine lv_if_ne (tgt := 22) hx hb dJ6_getChars_ba4f3_16 (by decide) (fun c16 => ?_) (fun c16 => ?_)
    · have hf := gf hf c16
      exact J22 _ _ _ _ _ hf hI (lv_sub hl [1, 2, 3, 0] rfl)
    · have hf := gt hf c16
      refine lv_iload_n hx hb dJ6_getChars_ba4f3_19 rfl (lv_at hl 1 rfl) ?_
      refine lv_ineg hx hb dJ6_getChars_ba4f3_20 ?_
      refine lv_istore_n (lv' := [(0, .int (-a0)), (6, .int s0_12), (2, .ref (adx ad sa (t1 + 1))), (5, .int a1)]) hx hb dJ6_getChars_ba4f3_21 rfl hl (Nat.lt_of_lt_of_eq (by decide) rfl) rfl (fun ls hl => ?_)
      exact J22 _ _ _ _ _ hf hI (lv_sub hl [0, 2, 3, 1] rfl)
  refine lv_if_ge (tgt := 11) hx hb dJ6_getChars_ba4f3_4 (by decide) (fun c4 => ?_) (fun c4 => ?_)
  · have hf := gt hf c4
    refine lv_iconst (v := 0) hx hb dJ6_getChars_ba4f3_11 rfl ?_
    exact J12 _ _ _ _ _ hf hI (lv_sub hl [1, 3, 0] rfl)
  · have hf := gf hf c4
    refine lv_iconst (v := 1) hx hb dJ6_getChars_ba4f3_7 rfl ?_
    refine lv_goto (tgt := 12) hx hb dJ6_getChars_ba4f3_8 (by decide) ?_
    exact J12 _ _ _ _ _ hf hI (lv_sub hl [1, 3, 0] rfl)
theorem k_J6_getChars_ba4f3 {p : Program} {l : Launch} {e : Env} {R : Room} {cells slots : Nat} {s : State} {m : MethodId} {args : Array Value} {below : List Frame} {meth : Method} {c : Code} {H : Heap} {locs : List Loc} {Q : State → Prop} {E : En} {ad : Nat → Nat} {V : Mem} {ow : String} {b : ByteArray} {n : Nat} {ret : Option FieldType} {pc index : Nat} {ls : Array Slot} {rest : List Value} {t1 : Nat} {a0 : Int32} {a1 : Int32} {r : Int32} {V1 : Mem} (hS : SF E) (ht : TX t1) {sa : Nat → Nat} (hA : Fx E sa) (hC : Cx p s m args c meth E ow b n ret) (hI : In E ad V s H locs) (hsz : ls.size = n) (hf : f_J6_getChars_ba4f3 V t1 a0 a1 = some (r, V1)) (hl : Cond.methodLink ow index yJ6_getChars_ba4f3 ∈ TB) (hR : 1 + 1 ≤ R.frames ∧ 8 + (7 + 11) + 40 * 1 ≤ R.locals) (hcs : cells ≤ R.cells ∧ slots ≤ R.slots) (hw : (rest.map fun v => v.category).sum ≤ 8) (hdg : decode b pc = .ok (.invokestatic index, 3)) (kk : ∀ (H1 : Heap) (locs1 : List Loc), In E ad V1 s H1 locs1 → W p l e R s m args below meth c H1 locs1 cells slots Q (F0 m (pc + 3) ls ((.int r) :: rest))) : W p l e R s m args below meth c H locs cells slots Q (F0 m pc ls (.ref (adx ad sa (t1 + 1)) :: .int a1 :: .int a0 :: rest)) :=
  r_calS (As := [.int a0, .int a1, .ref (adx ad sa (t1 + 1))]) (rest := rest) hC hI hsz (m_J6_getChars_ba4f3 l E ad V t1 a0 a1 hS ht hA r _ hf) cv_J6_getChars_ba4f3 hl rfl rfl hR hcs hw hdg kk
theorem kN_J6_getChars_ba4f3 {p : Program} {l : Launch} {e : Env} {R : Room} {cells slots : Nat} {s : State} {m : MethodId} {args : Array Value} {below : List Frame} {meth : Method} {c : Code} {H : Heap} {locs : List Loc} {Q : State → Prop} {E : En} {ad : Nat → Nat} {V : Mem} {ow host : String} {b : ByteArray} {n : Nat} {ret : Option FieldType} {pc index : Nat} {ls : Array Slot} {rest : List Value} {t1 : Nat} {a0 : Int32} {a1 : Int32} {r : Int32} {V1 : Mem} (hS : SF E) (ht : TX t1) {sa : Nat → Nat} (hA : Fx E sa) (hC : Cx p s m args c meth E ow b n ret) (hI : In E ad V s H locs) (hsz : ls.size = n) (hf : f_J6_getChars_ba4f3 V t1 a0 a1 = some (r, V1)) (hl : Cond.methodLinkNest ow index yJ6_getChars_ba4f3 host ∈ NB) (hR : 1 + 1 ≤ R.frames ∧ 8 + (7 + 11) + 40 * 1 ≤ R.locals) (hcs : cells ≤ R.cells ∧ slots ≤ R.slots) (hw : (rest.map fun v => v.category).sum ≤ 8) (hdg : decode b pc = .ok (.invokestatic index, 3)) (kk : ∀ (H1 : Heap) (locs1 : List Loc), In E ad V1 s H1 locs1 → W p l e R s m args below meth c H1 locs1 cells slots Q (F0 m (pc + 3) ls ((.int r) :: rest))) : W p l e R s m args below meth c H locs cells slots Q (F0 m pc ls (.ref (adx ad sa (t1 + 1)) :: .int a1 :: .int a0 :: rest)) :=
  r_calSN (As := [.int a0, .int a1, .ref (adx ad sa (t1 + 1))]) (rest := rest) hC hI hsz (m_J6_getChars_ba4f3 l E ad V t1 a0 a1 hS ht hA r _ hf) cv_J6_getChars_ba4f3 hl rfl rfl hR hcs hw hdg kk

theorem dJ0_coder_7d493_0 : decode cJ0_coder_7d493 0 = .ok (.getstatic 38, 3) := by decide +kernel
theorem dJ0_coder_7d493_3 : decode cJ0_coder_7d493 3 = .ok (.ifCond .eq 10, 3) := by decide +kernel
theorem dJ0_coder_7d493_6 : decode cJ0_coder_7d493 6 = .ok (.aload_n 0, 1) := by decide +kernel
theorem dJ0_coder_7d493_7 : decode cJ0_coder_7d493 7 = .ok (.getfield 15, 3) := by decide +kernel
theorem dJ0_coder_7d493_10 : decode cJ0_coder_7d493 10 = .ok (.goto 4, 3) := by decide +kernel
theorem dJ0_coder_7d493_13 : decode cJ0_coder_7d493 13 = .ok (.iconst 1, 1) := by decide +kernel
theorem dJ0_coder_7d493_14 : decode cJ0_coder_7d493 14 = .ok (.ireturn, 1) := by decide +kernel
def f_J0_coder_7d493 (V : Mem) (w : Nat) : Option (Int32 × Mem) :=
  if (1 : Int32) = 0 then
    some (1, V)
  else
    some (0, V)
theorem cv_J0_coder_7d493 : CalW "java/lang/String" yJ0_coder_7d493 cJ0_coder_7d493 1 (some .byte) 0 := ⟨⟨⟨by decide +kernel, by decide +kernel⟩, tw_1_12, tw_6_7, by decide +kernel⟩, tw_6_5, tw_6_6⟩
set_option maxRecDepth 100000 in
set_option maxHeartbeats 4000000 in
theorem m_J0_coder_7d493 (l : Launch) (E : En) (ad : Nat → Nat) (V : Mem) (w : Nat) (hS : SF E) (hw4 : w < 17) (r : Int32) (Vz : Mem) (hf : f_J0_coder_7d493 V w = some (r, Vz)) : MR l E ad yJ0_coder_7d493 cJ0_coder_7d493 1 (some .byte) 1 [.ref (eA E 3 w)] V (some (.int r)) Vz := by
  refine ent (E := E) (ad := ad) (V := V) "java/lang/String" (by decide +kernel) rfl (Nat.le_of_ble_eq_true rfl) ?_
  intro p e s m below meth c ls hC hI hl
  have hx := hC.1
  have hb := hC.2.1
  have hl : lv_has ls 1 [(0, .ref (eA E 3 w))] := hl
  unfold f_J0_coder_7d493 at hf
  refine t_compact hS hC hI tw_6_8 dJ0_coder_7d493_0 ?_
  refine lv_if_eq (tgt := 13) hx hb dJ0_coder_7d493_3 (by decide) (fun c3 => ?_) (fun c3 => ?_)
  · have hf := gt hf c3
    refine lv_iconst (v := 1) hx hb dJ0_coder_7d493_13 rfl ?_
    exact r_bret rfl hC hI hf dJ0_coder_7d493_14
  · have hf := gf hf c3
    refine lv_aload_n hx hb dJ0_coder_7d493_6 rfl (lv_at hl 0 rfl) ?_
    refine t_scod hS hw4 hC hI tw_6_126 dJ0_coder_7d493_7 ?_
    refine lv_goto (tgt := 14) hx hb dJ0_coder_7d493_10 (by decide) ?_
    exact r_bret rfl hC hI hf dJ0_coder_7d493_14
theorem k_J0_coder_7d493 {p : Program} {l : Launch} {e : Env} {R : Room} {cells slots : Nat} {s : State} {m : MethodId} {args : Array Value} {below : List Frame} {meth : Method} {c : Code} {H : Heap} {locs : List Loc} {Q : State → Prop} {E : En} {ad : Nat → Nat} {V : Mem} {ow : String} {b : ByteArray} {n : Nat} {ret : Option FieldType} {pc index : Nat} {ls : Array Slot} {rest : List Value} {w : Nat} {r : Int32} {V1 : Mem} (hS : SF E) (hw4 : w < 17) (hC : Cx p s m args c meth E ow b n ret) (hI : In E ad V s H locs) (hsz : ls.size = n) (hf : f_J0_coder_7d493 V w = some (r, V1)) (hl : Cond.methodLink ow index yJ0_coder_7d493 ∈ TB) (hR : 1 + 1 ≤ R.frames ∧ 8 + (1 + 11) + 40 * 1 ≤ R.locals) (hcs : cells ≤ R.cells ∧ slots ≤ R.slots) (hw : (rest.map fun v => v.category).sum ≤ 8) (hdg : decode b pc = .ok (.invokevirtual index, 3)) (kk : ∀ (H1 : Heap) (locs1 : List Loc), In E ad V1 s H1 locs1 → W p l e R s m args below meth c H1 locs1 cells slots Q (F0 m (pc + 3) ls ((.int r) :: rest))) : W p l e R s m args below meth c H locs cells slots Q (F0 m pc ls (.ref (eA E 3 w) :: rest)) :=
  r_calT hS hw4 (As := []) (rest := rest) hC hI hsz (m_J0_coder_7d493 l E ad V w hS hw4 r _ hf) cv_J0_coder_7d493 hl rfl rfl hR hcs hw hdg kk

theorem dJ0_isLatin1_aae02_0 : decode cJ0_isLatin1_aae02 0 = .ok (.getstatic 38, 3) := by decide +kernel
theorem dJ0_isLatin1_aae02_3 : decode cJ0_isLatin1_aae02 3 = .ok (.ifCond .eq 14, 3) := by decide +kernel
theorem dJ0_isLatin1_aae02_6 : decode cJ0_isLatin1_aae02 6 = .ok (.aload_n 0, 1) := by decide +kernel
theorem dJ0_isLatin1_aae02_7 : decode cJ0_isLatin1_aae02 7 = .ok (.getfield 15, 3) := by decide +kernel
theorem dJ0_isLatin1_aae02_10 : decode cJ0_isLatin1_aae02 10 = .ok (.ifCond .ne 7, 3) := by decide +kernel
theorem dJ0_isLatin1_aae02_13 : decode cJ0_isLatin1_aae02 13 = .ok (.iconst 1, 1) := by decide +kernel
theorem dJ0_isLatin1_aae02_14 : decode cJ0_isLatin1_aae02 14 = .ok (.goto 4, 3) := by decide +kernel
theorem dJ0_isLatin1_aae02_17 : decode cJ0_isLatin1_aae02 17 = .ok (.iconst 0, 1) := by decide +kernel
theorem dJ0_isLatin1_aae02_18 : decode cJ0_isLatin1_aae02 18 = .ok (.ireturn, 1) := by decide +kernel
def f_J0_isLatin1_aae02 (V : Mem) (w : Nat) : Option (Int32 × Mem) :=
  if (1 : Int32) = 0 then
    some (0, V)
  else
    if (0 : Int32) = 0 then
      some (1, V)
    else
      some (0, V)
theorem cv_J0_isLatin1_aae02 : CalW "java/lang/String" yJ0_isLatin1_aae02 cJ0_isLatin1_aae02 1 (some .boolean) 0 := ⟨⟨⟨by decide +kernel, by decide +kernel⟩, tw_1_12, tw_7_54, by decide +kernel⟩, tw_7_52, tw_7_53⟩
set_option maxRecDepth 100000 in
set_option maxHeartbeats 4000000 in
theorem m_J0_isLatin1_aae02 (l : Launch) (E : En) (ad : Nat → Nat) (V : Mem) (w : Nat) (hS : SF E) (hw4 : w < 17) (r : Int32) (Vz : Mem) (hf : f_J0_isLatin1_aae02 V w = some (r, Vz)) : MR l E ad yJ0_isLatin1_aae02 cJ0_isLatin1_aae02 1 (some .boolean) 1 [.ref (eA E 3 w)] V (some (.int r)) Vz := by
  refine ent (E := E) (ad := ad) (V := V) "java/lang/String" (by decide +kernel) rfl (Nat.le_of_ble_eq_true rfl) ?_
  intro p e s m below meth c ls hC hI hl
  have hx := hC.1
  have hb := hC.2.1
  have hl : lv_has ls 1 [(0, .ref (eA E 3 w))] := hl
  unfold f_J0_isLatin1_aae02 at hf
  refine t_compact hS hC hI tw_6_8 dJ0_isLatin1_aae02_0 ?_
  refine lv_if_eq (tgt := 17) hx hb dJ0_isLatin1_aae02_3 (by decide) (fun c3 => ?_) (fun c3 => ?_)
  · have hf := gt hf c3
    refine lv_iconst (v := 0) hx hb dJ0_isLatin1_aae02_17 rfl ?_
    exact r_zret2 hC hI (.inl rfl) hf dJ0_isLatin1_aae02_18
  · have hf := gf hf c3
    refine lv_aload_n hx hb dJ0_isLatin1_aae02_6 rfl (lv_at hl 0 rfl) ?_
    refine t_scod hS hw4 hC hI tw_6_126 dJ0_isLatin1_aae02_7 ?_
    refine lv_if_ne (tgt := 17) hx hb dJ0_isLatin1_aae02_10 (by decide) (fun c10 => ?_) (fun c10 => ?_)
    · have hf := gf hf c10
      refine lv_iconst (v := 0) hx hb dJ0_isLatin1_aae02_17 rfl ?_
      exact r_zret2 hC hI (.inl rfl) hf dJ0_isLatin1_aae02_18
    · have hf := gt hf c10
      refine lv_iconst (v := 1) hx hb dJ0_isLatin1_aae02_13 rfl ?_
      refine lv_goto (tgt := 18) hx hb dJ0_isLatin1_aae02_14 (by decide) ?_
      exact r_zret2 hC hI (.inr rfl) hf dJ0_isLatin1_aae02_18
theorem k_J0_isLatin1_aae02 {p : Program} {l : Launch} {e : Env} {R : Room} {cells slots : Nat} {s : State} {m : MethodId} {args : Array Value} {below : List Frame} {meth : Method} {c : Code} {H : Heap} {locs : List Loc} {Q : State → Prop} {E : En} {ad : Nat → Nat} {V : Mem} {ow : String} {b : ByteArray} {n : Nat} {ret : Option FieldType} {pc index : Nat} {ls : Array Slot} {rest : List Value} {w : Nat} {r : Int32} {V1 : Mem} (hS : SF E) (hw4 : w < 17) (hC : Cx p s m args c meth E ow b n ret) (hI : In E ad V s H locs) (hsz : ls.size = n) (hf : f_J0_isLatin1_aae02 V w = some (r, V1)) (hl : Cond.methodLink ow index yJ0_isLatin1_aae02 ∈ TB) (hR : 1 + 1 ≤ R.frames ∧ 8 + (1 + 11) + 40 * 1 ≤ R.locals) (hcs : cells ≤ R.cells ∧ slots ≤ R.slots) (hw : (rest.map fun v => v.category).sum ≤ 8) (hdg : decode b pc = .ok (.invokevirtual index, 3)) (kk : ∀ (H1 : Heap) (locs1 : List Loc), In E ad V1 s H1 locs1 → W p l e R s m args below meth c H1 locs1 cells slots Q (F0 m (pc + 3) ls ((.int r) :: rest))) : W p l e R s m args below meth c H locs cells slots Q (F0 m pc ls (.ref (eA E 3 w) :: rest)) :=
  r_calT hS hw4 (As := []) (rest := rest) hC hI hsz (m_J0_isLatin1_aae02 l E ad V w hS hw4 r _ hf) cv_J0_isLatin1_aae02 hl rfl rfl hR hcs hw hdg kk

theorem dJ0_length_8abf5_0 : decode cJ0_length_8abf5 0 = .ok (.aload_n 0, 1) := by decide +kernel
theorem dJ0_length_8abf5_1 : decode cJ0_length_8abf5 1 = .ok (.getfield 9, 3) := by decide +kernel
theorem dJ0_length_8abf5_4 : decode cJ0_length_8abf5 4 = .ok (.arraylength, 1) := by decide +kernel
theorem dJ0_length_8abf5_5 : decode cJ0_length_8abf5 5 = .ok (.aload_n 0, 1) := by decide +kernel
theorem dJ0_length_8abf5_6 : decode cJ0_length_8abf5 6 = .ok (.invokevirtual 335, 3) := by decide +kernel
theorem dJ0_length_8abf5_9 : decode cJ0_length_8abf5 9 = .ok (.ishr, 1) := by decide +kernel
theorem dJ0_length_8abf5_10 : decode cJ0_length_8abf5 10 = .ok (.ireturn, 1) := by decide +kernel
def f_J0_length_8abf5 (V : Mem) (w : Nat) : Option (Int32 × Mem) :=
  bd (f_J0_coder_7d493 V w) fun r6 V6 =>
  some (((nI (textOf w).length) >>> (r6 &&& 31)), V6)
theorem cv_J0_length_8abf5 : CalW "java/lang/String" yJ0_length_8abf5 cJ0_length_8abf5 1 (some .int) 0 := ⟨⟨⟨by decide +kernel, by decide +kernel⟩, tw_1_12, tw_6_3, by decide +kernel⟩, tw_6_1, tw_6_2⟩
set_option maxRecDepth 100000 in
set_option maxHeartbeats 4000000 in
theorem m_J0_length_8abf5 (l : Launch) (E : En) (ad : Nat → Nat) (V : Mem) (w : Nat) (hS : SF E) (hw4 : w < 17) (r : Int32) (Vz : Mem) (hf : f_J0_length_8abf5 V w = some (r, Vz)) : MR l E ad yJ0_length_8abf5 cJ0_length_8abf5 1 (some .int) 2 [.ref (eA E 3 w)] V (some (.int r)) Vz := by
  refine ent (E := E) (ad := ad) (V := V) "java/lang/String" (by decide +kernel) rfl (Nat.le_of_ble_eq_true rfl) ?_
  intro p e s m below meth c ls hC hI hl
  have hx := hC.1
  have hb := hC.2.1
  have hl : lv_has ls 1 [(0, .ref (eA E 3 w))] := hl
  unfold f_J0_length_8abf5 at hf
  refine lv_aload_n hx hb dJ0_length_8abf5_0 rfl (lv_at hl 0 rfl) ?_
  refine t_sval hS hw4 hC hI tw_6_125 dJ0_length_8abf5_1 ?_
  refine t_slen hS hw4 hC hI dJ0_length_8abf5_4 ?_
  refine lv_aload_n hx hb dJ0_length_8abf5_5 rfl (lv_at hl 0 rfl) ?_
  obtain ⟨r6, V6, q6, hf⟩ := gbd hf
  refine k_J0_coder_7d493 hS hw4 hC hI hl.1 q6 tw_6_4 ⟨Nat.le_of_ble_eq_true rfl, Nat.le_of_ble_eq_true rfl⟩ ⟨Nat.le_refl _, Nat.le_refl _⟩ (Nat.le_of_ble_eq_true rfl) dJ0_length_8abf5_6 (fun H locs hI => ?_)
  refine lv_ishr hx hb dJ0_length_8abf5_9 ?_
  exact r_iret2 hC hI hf dJ0_length_8abf5_10
theorem k_J0_length_8abf5 {p : Program} {l : Launch} {e : Env} {R : Room} {cells slots : Nat} {s : State} {m : MethodId} {args : Array Value} {below : List Frame} {meth : Method} {c : Code} {H : Heap} {locs : List Loc} {Q : State → Prop} {E : En} {ad : Nat → Nat} {V : Mem} {ow : String} {b : ByteArray} {n : Nat} {ret : Option FieldType} {pc index : Nat} {ls : Array Slot} {rest : List Value} {w : Nat} {r : Int32} {V1 : Mem} (hS : SF E) (hw4 : w < 17) (hC : Cx p s m args c meth E ow b n ret) (hI : In E ad V s H locs) (hsz : ls.size = n) (hf : f_J0_length_8abf5 V w = some (r, V1)) (hl : Cond.methodLink ow index yJ0_length_8abf5 ∈ TB) (hR : 2 + 1 ≤ R.frames ∧ 8 + (1 + 11) + 40 * 2 ≤ R.locals) (hcs : cells ≤ R.cells ∧ slots ≤ R.slots) (hw : (rest.map fun v => v.category).sum ≤ 8) (hdg : decode b pc = .ok (.invokevirtual index, 3)) (kk : ∀ (H1 : Heap) (locs1 : List Loc), In E ad V1 s H1 locs1 → W p l e R s m args below meth c H1 locs1 cells slots Q (F0 m (pc + 3) ls ((.int r) :: rest))) : W p l e R s m args below meth c H locs cells slots Q (F0 m pc ls (.ref (eA E 3 w) :: rest)) :=
  r_calT hS hw4 (As := []) (rest := rest) hC hI hsz (m_J0_length_8abf5 l E ad V w hS hw4 r _ hf) cv_J0_length_8abf5 hl rfl rfl hR hcs hw hdg kk

theorem dJ0_getBytes_840e7_0 : decode cJ0_getBytes_840e7 0 = .ok (.aload_n 0, 1) := by decide +kernel
theorem dJ0_getBytes_840e7_1 : decode cJ0_getBytes_840e7 1 = .ok (.invokevirtual 335, 3) := by decide +kernel
theorem dJ0_getBytes_840e7_4 : decode cJ0_getBytes_840e7 4 = .ok (.iload_n 3, 1) := by decide +kernel
theorem dJ0_getBytes_840e7_5 : decode cJ0_getBytes_840e7 5 = .ok (.if_icmp .ne 23, 3) := by decide +kernel
theorem dJ0_getBytes_840e7_8 : decode cJ0_getBytes_840e7 8 = .ok (.aload_n 0, 1) := by decide +kernel
theorem dJ0_getBytes_840e7_9 : decode cJ0_getBytes_840e7 9 = .ok (.getfield 9, 3) := by decide +kernel
theorem dJ0_getBytes_840e7_12 : decode cJ0_getBytes_840e7 12 = .ok (.iconst 0, 1) := by decide +kernel
theorem dJ0_getBytes_840e7_13 : decode cJ0_getBytes_840e7 13 = .ok (.aload_n 1, 1) := by decide +kernel
theorem dJ0_getBytes_840e7_14 : decode cJ0_getBytes_840e7 14 = .ok (.iload_n 2, 1) := by decide +kernel
theorem dJ0_getBytes_840e7_15 : decode cJ0_getBytes_840e7 15 = .ok (.iload_n 3, 1) := by decide +kernel
theorem dJ0_getBytes_840e7_16 : decode cJ0_getBytes_840e7 16 = .ok (.ishl, 1) := by decide +kernel
theorem dJ0_getBytes_840e7_17 : decode cJ0_getBytes_840e7 17 = .ok (.aload_n 0, 1) := by decide +kernel
theorem dJ0_getBytes_840e7_18 : decode cJ0_getBytes_840e7 18 = .ok (.getfield 9, 3) := by decide +kernel
theorem dJ0_getBytes_840e7_21 : decode cJ0_getBytes_840e7 21 = .ok (.arraylength, 1) := by decide +kernel
theorem dJ0_getBytes_840e7_22 : decode cJ0_getBytes_840e7 22 = .ok (.invokestatic 212, 3) := by decide +kernel
theorem dJ0_getBytes_840e7_25 : decode cJ0_getBytes_840e7 25 = .ok (.goto 18, 3) := by decide +kernel
theorem dJ0_getBytes_840e7_28 : decode cJ0_getBytes_840e7 28 = .ok (.aload_n 0, 1) := by decide +kernel
theorem dJ0_getBytes_840e7_29 : decode cJ0_getBytes_840e7 29 = .ok (.getfield 9, 3) := by decide +kernel
theorem dJ0_getBytes_840e7_32 : decode cJ0_getBytes_840e7 32 = .ok (.iconst 0, 1) := by decide +kernel
theorem dJ0_getBytes_840e7_33 : decode cJ0_getBytes_840e7 33 = .ok (.aload_n 1, 1) := by decide +kernel
theorem dJ0_getBytes_840e7_34 : decode cJ0_getBytes_840e7 34 = .ok (.iload_n 2, 1) := by decide +kernel
theorem dJ0_getBytes_840e7_35 : decode cJ0_getBytes_840e7 35 = .ok (.aload_n 0, 1) := by decide +kernel
theorem dJ0_getBytes_840e7_36 : decode cJ0_getBytes_840e7 36 = .ok (.getfield 9, 3) := by decide +kernel
theorem dJ0_getBytes_840e7_39 : decode cJ0_getBytes_840e7 39 = .ok (.arraylength, 1) := by decide +kernel
theorem dJ0_getBytes_840e7_40 : decode cJ0_getBytes_840e7 40 = .ok (.invokestatic 106, 3) := by decide +kernel
theorem dJ0_getBytes_840e7_43 : decode cJ0_getBytes_840e7 43 = .ok (.return_, 1) := by decide +kernel
def f_J0_getBytes_840e7 (V : Mem) (w : Nat) (t1 : Nat) (a2 : Int32) (a3 : Int32) : Option Mem :=
  bd (f_J0_coder_7d493 V w) fun r1 V1 =>
  if r1 = a3 then
    if cpOk 0 (a2 <<< (a3 &&& 31)) (nI (textOf w).length) (textOf w).length (bln V1 t1) = true then
      lt (va_up V1 (t1 + 1) (fun j => if j = 0 then V1 (t1 + 1) 0 else va_cpy (fun j => (textOf w).getD j 0) (fun j => V1 (t1 + 1) (j + 1)) (0 : Int32).toNatClampNeg ((a2 <<< (a3 &&& 31)) : Int32).toNatClampNeg ((nI (textOf w).length) : Int32).toNatClampNeg (j - 1))) fun V22 =>
      some V22
    else none
  else
    none
theorem cv_J0_getBytes_840e7 : CalW "java/lang/String" yJ0_getBytes_840e7 cJ0_getBytes_840e7 4 none 3 := ⟨⟨⟨by decide +kernel, by decide +kernel⟩, tw_1_12, tw_6_40, by decide +kernel⟩, tw_6_38, tw_6_39⟩
set_option maxRecDepth 100000 in
set_option maxHeartbeats 4000000 in
theorem m_J0_getBytes_840e7 (l : Launch) (E : En) (ad : Nat → Nat) (V : Mem) (w : Nat) (t1 : Nat) (a2 : Int32) (a3 : Int32) (hS : SF E) (hw4 : w < 17) (ht : TX t1) {sa : Nat → Nat} (hA : Fx E sa) (Vz : Mem) (hf : f_J0_getBytes_840e7 V w t1 a2 a3 = some Vz) : MR l E ad yJ0_getBytes_840e7 cJ0_getBytes_840e7 4 none 2 [.ref (eA E 3 w), .ref (adx ad sa (t1 + 1)), .int a2, .int a3] V none Vz := by
  refine ent (E := E) (ad := ad) (V := V) "java/lang/String" (by decide +kernel) rfl (Nat.le_of_ble_eq_true rfl) ?_
  intro p e s m below meth c ls hC hI hl
  have hx := hC.1
  have hb := hC.2.1
  have hl : lv_has ls 4 [(0, .ref (eA E 3 w)), (1, .ref (adx ad sa (t1 + 1))), (2, .int a2), (3, .int a3)] := hl
  unfold f_J0_getBytes_840e7 at hf
  refine lv_aload_n hx hb dJ0_getBytes_840e7_0 rfl (lv_at hl 0 rfl) ?_
  obtain ⟨r1, V1, q1, hf⟩ := gbd hf
  refine k_J0_coder_7d493 hS hw4 hC hI hl.1 q1 tw_6_4 ⟨Nat.le_of_ble_eq_true rfl, Nat.le_of_ble_eq_true rfl⟩ ⟨Nat.le_refl _, Nat.le_refl _⟩ (Nat.le_of_ble_eq_true rfl) dJ0_getBytes_840e7_1 (fun H locs hI => ?_)
  refine lv_iload_n hx hb dJ0_getBytes_840e7_4 rfl (lv_at hl 3 rfl) ?_
  refine lv_icmp_ne (tgt := 28) hx hb dJ0_getBytes_840e7_5 (by decide) (fun c5 => ?_) (fun c5 => ?_)
  · have hf := gf hf c5
    cases hf
  · have hf := gt hf c5
    refine lv_aload_n hx hb dJ0_getBytes_840e7_8 rfl (lv_at hl 0 rfl) ?_
    refine t_sval hS hw4 hC hI tw_6_125 dJ0_getBytes_840e7_9 ?_
    refine lv_iconst (v := 0) hx hb dJ0_getBytes_840e7_12 rfl ?_
    refine lv_aload_n hx hb dJ0_getBytes_840e7_13 rfl (lv_at hl 1 rfl) ?_
    refine lv_iload_n hx hb dJ0_getBytes_840e7_14 rfl (lv_at hl 2 rfl) ?_
    refine lv_iload_n hx hb dJ0_getBytes_840e7_15 rfl (lv_at hl 3 rfl) ?_
    refine lv_ishl hx hb dJ0_getBytes_840e7_16 ?_
    refine lv_aload_n hx hb dJ0_getBytes_840e7_17 rfl (lv_at hl 0 rfl) ?_
    refine t_sval hS hw4 hC hI tw_6_125 dJ0_getBytes_840e7_18 ?_
    refine t_slen hS hw4 hC hI dJ0_getBytes_840e7_21 ?_
    obtain ⟨h22, hf⟩ := gi hf
    obtain ⟨V22, e22, hf⟩ := gl hf
    refine t_scpy hS hw4 ht hA hC hI hl.1 h22 e22 tw_6_41 ⟨by decide, Nat.le_of_ble_eq_true rfl⟩ dJ0_getBytes_840e7_22 (fun H locs hI => ?_)
    refine lv_goto (tgt := 43) hx hb dJ0_getBytes_840e7_25 (by decide) ?_
    exact r_vret2 hC hI hf dJ0_getBytes_840e7_43
theorem k_J0_getBytes_840e7 {p : Program} {l : Launch} {e : Env} {R : Room} {cells slots : Nat} {s : State} {m : MethodId} {args : Array Value} {below : List Frame} {meth : Method} {c : Code} {H : Heap} {locs : List Loc} {Q : State → Prop} {E : En} {ad : Nat → Nat} {V : Mem} {ow : String} {b : ByteArray} {n : Nat} {ret : Option FieldType} {pc index : Nat} {ls : Array Slot} {rest : List Value} {w : Nat} {t1 : Nat} {a2 : Int32} {a3 : Int32} {V1 : Mem} (hS : SF E) (hw4 : w < 17) (ht : TX t1) {sa : Nat → Nat} (hA : Fx E sa) (hC : Cx p s m args c meth E ow b n ret) (hI : In E ad V s H locs) (hsz : ls.size = n) (hf : f_J0_getBytes_840e7 V w t1 a2 a3 = some V1) (hl : Cond.methodLink ow index yJ0_getBytes_840e7 ∈ TB) (hR : 2 + 1 ≤ R.frames ∧ 8 + (4 + 11) + 40 * 2 ≤ R.locals) (hcs : cells ≤ R.cells ∧ slots ≤ R.slots) (hw : (rest.map fun v => v.category).sum ≤ 8) (hdg : decode b pc = .ok (.invokevirtual index, 3)) (kk : ∀ (H1 : Heap) (locs1 : List Loc), In E ad V1 s H1 locs1 → W p l e R s m args below meth c H1 locs1 cells slots Q (F0 m (pc + 3) ls (rest))) : W p l e R s m args below meth c H locs cells slots Q (F0 m pc ls (.int a3 :: .int a2 :: .ref (adx ad sa (t1 + 1)) :: .ref (eA E 3 w) :: rest)) :=
  r_calTv hS hw4 (As := [.ref (adx ad sa (t1 + 1)), .int a2, .int a3]) (rest := rest) hC hI hsz (m_J0_getBytes_840e7 l E ad V w t1 a2 a3 hS hw4 ht hA _ hf) cv_J0_getBytes_840e7 hl rfl rfl hR hcs hw hdg kk

theorem dJ5_inflateIfNeededFor_a7421_0 : decode cJ5_inflateIfNeededFor_a7421 0 = .ok (.getstatic 18, 3) := by decide +kernel
theorem dJ5_inflateIfNeededFor_a7421_3 : decode cJ5_inflateIfNeededFor_a7421 3 = .ok (.ifCond .eq 18, 3) := by decide +kernel
theorem dJ5_inflateIfNeededFor_a7421_6 : decode cJ5_inflateIfNeededFor_a7421 6 = .ok (.aload_n 0, 1) := by decide +kernel
theorem dJ5_inflateIfNeededFor_a7421_7 : decode cJ5_inflateIfNeededFor_a7421 7 = .ok (.getfield 22, 3) := by decide +kernel
theorem dJ5_inflateIfNeededFor_a7421_10 : decode cJ5_inflateIfNeededFor_a7421 10 = .ok (.aload_n 1, 1) := by decide +kernel
theorem dJ5_inflateIfNeededFor_a7421_11 : decode cJ5_inflateIfNeededFor_a7421 11 = .ok (.invokevirtual 40, 3) := by decide +kernel
theorem dJ5_inflateIfNeededFor_a7421_14 : decode cJ5_inflateIfNeededFor_a7421 14 = .ok (.if_icmp .eq 7, 3) := by decide +kernel
theorem dJ5_inflateIfNeededFor_a7421_17 : decode cJ5_inflateIfNeededFor_a7421 17 = .ok (.aload_n 0, 1) := by decide +kernel
theorem dJ5_inflateIfNeededFor_a7421_18 : decode cJ5_inflateIfNeededFor_a7421 18 = .ok (.invokevirtual 195, 3) := by decide +kernel
theorem dJ5_inflateIfNeededFor_a7421_21 : decode cJ5_inflateIfNeededFor_a7421 21 = .ok (.return_, 1) := by decide +kernel
def f_J5_inflateIfNeededFor_a7421 (V : Mem) (t1 : Nat) (w : Nat) : Option Mem :=
  if (1 : Int32) = 0 then
    some V
  else
    bd (f_J0_coder_7d493 V w) fun r11 V11 =>
    if 0 = r11 then
      some V11
    else
      none
theorem cv_J5_inflateIfNeededFor_a7421 : CalW "java/lang/StringBuilder" yJ5_inflateIfNeededFor_a7421 cJ5_inflateIfNeededFor_a7421 2 none 1 := ⟨⟨⟨by decide +kernel, by decide +kernel⟩, tw_1_10, tw_6_16, by decide +kernel⟩, tw_6_15, tq_3⟩
set_option maxRecDepth 100000 in
set_option maxHeartbeats 4000000 in
theorem m_J5_inflateIfNeededFor_a7421 (l : Launch) (E : En) (ad : Nat → Nat) (V : Mem) (t1 : Nat) (w : Nat) (hS : SF E) (ht : TX t1) (hw4 : w < 17) (Vz : Mem) (hf : f_J5_inflateIfNeededFor_a7421 V t1 w = some Vz) : MR l E ad yJ5_inflateIfNeededFor_a7421 cJ5_inflateIfNeededFor_a7421 2 none 2 [.ref (ad t1), .ref (eA E 3 w)] V none Vz := by
  refine ent (E := E) (ad := ad) (V := V) "java/lang/AbstractStringBuilder" (by decide +kernel) rfl (Nat.le_of_ble_eq_true rfl) ?_
  intro p e s m below meth c ls hC hI hl
  have hx := hC.1
  have hb := hC.2.1
  have hl : lv_has ls 2 [(0, .ref (ad t1)), (1, .ref (eA E 3 w))] := hl
  unfold f_J5_inflateIfNeededFor_a7421 at hf
  refine t_compact hS hC hI tw_1_189 dJ5_inflateIfNeededFor_a7421_0 ?_
  refine lv_if_eq (tgt := 21) hx hb dJ5_inflateIfNeededFor_a7421_3 (by decide) (fun c3 => ?_) (fun c3 => ?_)
  · have hf := gt hf c3
    exact r_vret2 hC hI hf dJ5_inflateIfNeededFor_a7421_21
  · have hf := gf hf c3
    refine lv_aload_n hx hb dJ5_inflateIfNeededFor_a7421_6 rfl (lv_at hl 0 rfl) ?_
    refine t_coder ht hC hI tw_1_199 dJ5_inflateIfNeededFor_a7421_7 ?_
    refine lv_aload_n hx hb dJ5_inflateIfNeededFor_a7421_10 rfl (lv_at hl 1 rfl) ?_
    obtain ⟨r11, V11, q11, hf⟩ := gbd hf
    refine k_J0_coder_7d493 hS hw4 hC hI hl.1 q11 tw_6_17 ⟨Nat.le_of_ble_eq_true rfl, Nat.le_of_ble_eq_true rfl⟩ ⟨Nat.le_refl _, Nat.le_refl _⟩ (Nat.le_of_ble_eq_true rfl) dJ5_inflateIfNeededFor_a7421_11 (fun H locs hI => ?_)
    refine lv_icmp_eq (tgt := 21) hx hb dJ5_inflateIfNeededFor_a7421_14 (by decide) (fun c14 => ?_) (fun c14 => ?_)
    · have hf := gt hf c14
      exact r_vret2 hC hI hf dJ5_inflateIfNeededFor_a7421_21
    · have hf := gf hf c14
      cases hf
theorem k_J5_inflateIfNeededFor_a7421 {p : Program} {l : Launch} {e : Env} {R : Room} {cells slots : Nat} {s : State} {m : MethodId} {args : Array Value} {below : List Frame} {meth : Method} {c : Code} {H : Heap} {locs : List Loc} {Q : State → Prop} {E : En} {ad : Nat → Nat} {V : Mem} {ow : String} {b : ByteArray} {n : Nat} {ret : Option FieldType} {pc index : Nat} {ls : Array Slot} {rest : List Value} {t1 : Nat} {w : Nat} {V1 : Mem} (hS : SF E) (ht : TX t1) (hw4 : w < 17) (hC : Cx p s m args c meth E ow b n ret) (hI : In E ad V s H locs) (hsz : ls.size = n) (hf : f_J5_inflateIfNeededFor_a7421 V t1 w = some V1) (hl : Cond.methodLink ow index yJ5_inflateIfNeededFor_a7421 ∈ TB) (hR : 2 + 1 ≤ R.frames ∧ 8 + (2 + 11) + 40 * 2 ≤ R.locals) (hcs : cells ≤ R.cells ∧ slots ≤ R.slots) (hw : (rest.map fun v => v.category).sum ≤ 8) (hdg : decode b pc = .ok (.invokevirtual index, 3)) (kk : ∀ (H1 : Heap) (locs1 : List Loc), In E ad V1 s H1 locs1 → W p l e R s m args below meth c H1 locs1 cells slots Q (F0 m (pc + 3) ls (rest))) : W p l e R s m args below meth c H locs cells slots Q (F0 m pc ls (.ref (eA E 3 w) :: .ref (ad t1) :: rest)) :=
  r_calWv (As := [.ref (eA E 3 w)]) (rest := rest) hC hI hsz (m_J5_inflateIfNeededFor_a7421 l E ad V t1 w hS ht hw4 _ hf) cv_J5_inflateIfNeededFor_a7421 hl (tx_ok ht) (fun sa => ce_tx ht _ _) rfl rfl rfl hR hcs hw hdg kk

theorem dJ5_putStringAt_47b60_0 : decode cJ5_putStringAt_47b60 0 = .ok (.aload_n 0, 1) := by decide +kernel
theorem dJ5_putStringAt_47b60_1 : decode cJ5_putStringAt_47b60 1 = .ok (.aload_n 2, 1) := by decide +kernel
theorem dJ5_putStringAt_47b60_2 : decode cJ5_putStringAt_47b60 2 = .ok (.invokevirtual 397, 3) := by decide +kernel
theorem dJ5_putStringAt_47b60_5 : decode cJ5_putStringAt_47b60 5 = .ok (.aload_n 2, 1) := by decide +kernel
theorem dJ5_putStringAt_47b60_6 : decode cJ5_putStringAt_47b60 6 = .ok (.aload_n 0, 1) := by decide +kernel
theorem dJ5_putStringAt_47b60_7 : decode cJ5_putStringAt_47b60 7 = .ok (.getfield 15, 3) := by decide +kernel
theorem dJ5_putStringAt_47b60_10 : decode cJ5_putStringAt_47b60 10 = .ok (.iload_n 1, 1) := by decide +kernel
theorem dJ5_putStringAt_47b60_11 : decode cJ5_putStringAt_47b60 11 = .ok (.aload_n 0, 1) := by decide +kernel
theorem dJ5_putStringAt_47b60_12 : decode cJ5_putStringAt_47b60 12 = .ok (.getfield 22, 3) := by decide +kernel
theorem dJ5_putStringAt_47b60_15 : decode cJ5_putStringAt_47b60 15 = .ok (.invokevirtual 399, 3) := by decide +kernel
theorem dJ5_putStringAt_47b60_18 : decode cJ5_putStringAt_47b60 18 = .ok (.return_, 1) := by decide +kernel
def f_J5_putStringAt_47b60 (V : Mem) (t1 : Nat) (w : Nat) (a1 : Int32) : Option Mem :=
  bv (f_J5_inflateIfNeededFor_a7421 V t1 w) fun V2 =>
  bv (f_J0_getBytes_840e7 V2 w t1 a1 0) fun V15 =>
  some V15
theorem cv_J5_putStringAt_47b60 : CalW "java/lang/StringBuilder" yJ5_putStringAt_47b60 cJ5_putStringAt_47b60 3 none 2 := ⟨⟨⟨by decide +kernel, by decide +kernel⟩, tw_1_10, tw_6_12, by decide +kernel⟩, tw_6_11, tq_2⟩
set_option maxRecDepth 100000 in
set_option maxHeartbeats 4000000 in
theorem m_J5_putStringAt_47b60 (l : Launch) (E : En) (ad : Nat → Nat) (V : Mem) (t1 : Nat) (w : Nat) (a1 : Int32) (hS : SF E) (ht : TX t1) (hw4 : w < 17) {sa : Nat → Nat} (hA : Fx E sa) (Vz : Mem) (hf : f_J5_putStringAt_47b60 V t1 w a1 = some Vz) : MR l E ad yJ5_putStringAt_47b60 cJ5_putStringAt_47b60 3 none 3 [.ref (ad t1), .int a1, .ref (eA E 3 w)] V none Vz := by
  refine ent (E := E) (ad := ad) (V := V) "java/lang/AbstractStringBuilder" (by decide +kernel) rfl (Nat.le_of_ble_eq_true rfl) ?_
  intro p e s m below meth c ls hC hI hl
  have hx := hC.1
  have hb := hC.2.1
  have hl : lv_has ls 3 [(0, .ref (ad t1)), (1, .int a1), (2, .ref (eA E 3 w))] := hl
  unfold f_J5_putStringAt_47b60 at hf
  refine lv_aload_n hx hb dJ5_putStringAt_47b60_0 rfl (lv_at hl 0 rfl) ?_
  refine lv_aload_n hx hb dJ5_putStringAt_47b60_1 rfl (lv_at hl 2 rfl) ?_
  obtain ⟨V2, q2, hf⟩ := gbv hf
  refine k_J5_inflateIfNeededFor_a7421 hS ht hw4 hC hI hl.1 q2 tw_6_13 ⟨Nat.le_of_ble_eq_true rfl, Nat.le_of_ble_eq_true rfl⟩ ⟨Nat.le_refl _, Nat.le_refl _⟩ (Nat.le_of_ble_eq_true rfl) dJ5_putStringAt_47b60_2 (fun H locs hI => ?_)
  refine lv_aload_n hx hb dJ5_putStringAt_47b60_5 rfl (lv_at hl 2 rfl) ?_
  refine lv_aload_n hx hb dJ5_putStringAt_47b60_6 rfl (lv_at hl 0 rfl) ?_
  refine t_value ht hA hC hI tw_1_198 dJ5_putStringAt_47b60_7 ?_
  refine lv_iload_n hx hb dJ5_putStringAt_47b60_10 rfl (lv_at hl 1 rfl) ?_
  refine lv_aload_n hx hb dJ5_putStringAt_47b60_11 rfl (lv_at hl 0 rfl) ?_
  refine t_coder ht hC hI tw_1_199 dJ5_putStringAt_47b60_12 ?_
  obtain ⟨V15, q15, hf⟩ := gbv hf
  refine k_J0_getBytes_840e7 hS hw4 ht hA hC hI hl.1 q15 tw_6_37 ⟨Nat.le_of_ble_eq_true rfl, Nat.le_of_ble_eq_true rfl⟩ ⟨Nat.le_refl _, Nat.le_refl _⟩ (Nat.le_of_ble_eq_true rfl) dJ5_putStringAt_47b60_15 (fun H locs hI => ?_)
  exact r_vret2 hC hI hf dJ5_putStringAt_47b60_18
theorem k_J5_putStringAt_47b60 {p : Program} {l : Launch} {e : Env} {R : Room} {cells slots : Nat} {s : State} {m : MethodId} {args : Array Value} {below : List Frame} {meth : Method} {c : Code} {H : Heap} {locs : List Loc} {Q : State → Prop} {E : En} {ad : Nat → Nat} {V : Mem} {ow : String} {b : ByteArray} {n : Nat} {ret : Option FieldType} {pc index : Nat} {ls : Array Slot} {rest : List Value} {t1 : Nat} {w : Nat} {a1 : Int32} {V1 : Mem} (hS : SF E) (ht : TX t1) (hw4 : w < 17) {sa : Nat → Nat} (hA : Fx E sa) (hC : Cx p s m args c meth E ow b n ret) (hI : In E ad V s H locs) (hsz : ls.size = n) (hf : f_J5_putStringAt_47b60 V t1 w a1 = some V1) (hl : Cond.methodLink ow index yJ5_putStringAt_47b60 ∈ TB) (hR : 3 + 1 ≤ R.frames ∧ 8 + (3 + 11) + 40 * 3 ≤ R.locals) (hcs : cells ≤ R.cells ∧ slots ≤ R.slots) (hw : (rest.map fun v => v.category).sum ≤ 8) (hdg : decode b pc = .ok (.invokevirtual index, 3)) (kk : ∀ (H1 : Heap) (locs1 : List Loc), In E ad V1 s H1 locs1 → W p l e R s m args below meth c H1 locs1 cells slots Q (F0 m (pc + 3) ls (rest))) : W p l e R s m args below meth c H locs cells slots Q (F0 m pc ls (.ref (eA E 3 w) :: .int a1 :: .ref (ad t1) :: rest)) :=
  r_calWv (As := [.int a1, .ref (eA E 3 w)]) (rest := rest) hC hI hsz (m_J5_putStringAt_47b60 l E ad V t1 w a1 hS ht hw4 hA _ hf) cv_J5_putStringAt_47b60 hl (tx_ok ht) (fun sa => ce_tx ht _ _) rfl rfl rfl hR hcs hw hdg kk

theorem dJ3_checkIndex_8e157_0 : decode cJ3_checkIndex_8e157 0 = .ok (.iload_n 0, 1) := by decide +kernel
theorem dJ3_checkIndex_8e157_1 : decode cJ3_checkIndex_8e157 1 = .ok (.ifCond .lt 8, 3) := by decide +kernel
theorem dJ3_checkIndex_8e157_4 : decode cJ3_checkIndex_8e157 4 = .ok (.iload_n 0, 1) := by decide +kernel
theorem dJ3_checkIndex_8e157_5 : decode cJ3_checkIndex_8e157 5 = .ok (.iload_n 1, 1) := by decide +kernel
theorem dJ3_checkIndex_8e157_6 : decode cJ3_checkIndex_8e157 6 = .ok (.if_icmp .lt 10, 3) := by decide +kernel
theorem dJ3_checkIndex_8e157_9 : decode cJ3_checkIndex_8e157 9 = .ok (.aload_n 2, 1) := by decide +kernel
theorem dJ3_checkIndex_8e157_10 : decode cJ3_checkIndex_8e157 10 = .ok (.iload_n 0, 1) := by decide +kernel
theorem dJ3_checkIndex_8e157_11 : decode cJ3_checkIndex_8e157 11 = .ok (.iload_n 1, 1) := by decide +kernel
theorem dJ3_checkIndex_8e157_12 : decode cJ3_checkIndex_8e157 12 = .ok (.invokestatic 95, 3) := by decide +kernel
theorem dJ3_checkIndex_8e157_15 : decode cJ3_checkIndex_8e157 15 = .ok (.athrow, 1) := by decide +kernel
theorem dJ3_checkIndex_8e157_16 : decode cJ3_checkIndex_8e157 16 = .ok (.iload_n 0, 1) := by decide +kernel
theorem dJ3_checkIndex_8e157_17 : decode cJ3_checkIndex_8e157 17 = .ok (.ireturn, 1) := by decide +kernel
def f_J3_checkIndex_8e157 (V : Mem) (q2 : Nat) (a0 : Int32) (a1 : Int32) : Option (Int32 × Mem) :=
  if a0 < 0 then
    none
  else
    if a0 < a1 then
      some (a0, V)
    else
      none
theorem cv_J3_checkIndex_8e157 : CalS yJ3_checkIndex_8e157 cJ3_checkIndex_8e157 3 (some .int) 3 := ⟨⟨⟨by decide +kernel, by decide +kernel⟩, tw_1_30, tw_6_204, by decide +kernel⟩, tw_6_203⟩
set_option maxRecDepth 100000 in
set_option maxHeartbeats 4000000 in
theorem m_J3_checkIndex_8e157 (l : Launch) (E : En) (ad : Nat → Nat) (V : Mem) (q2 : Nat) (a0 : Int32) (a1 : Int32) (r : Int32) (Vz : Mem) (hf : f_J3_checkIndex_8e157 V q2 a0 a1 = some (r, Vz)) : MR l E ad yJ3_checkIndex_8e157 cJ3_checkIndex_8e157 3 (some .int) 1 [.int a0, .int a1, .ref q2] V (some (.int r)) Vz := by
  refine ent (E := E) (ad := ad) (V := V) "jdk/internal/util/Preconditions" (by decide +kernel) rfl (Nat.le_of_ble_eq_true rfl) ?_
  intro p e s m below meth c ls hC hI hl
  have hx := hC.1
  have hb := hC.2.1
  have hl : lv_has ls 3 [(0, .int a0), (1, .int a1), (2, .ref q2)] := hl
  unfold f_J3_checkIndex_8e157 at hf
  refine lv_iload_n hx hb dJ3_checkIndex_8e157_0 rfl (lv_at hl 0 rfl) ?_
  refine lv_if_lt (tgt := 9) hx hb dJ3_checkIndex_8e157_1 (by decide) (fun c1 => ?_) (fun c1 => ?_)
  · have hf := gt hf c1
    cases hf
  · have hf := gf hf c1
    refine lv_iload_n hx hb dJ3_checkIndex_8e157_4 rfl (lv_at hl 0 rfl) ?_
    refine lv_iload_n hx hb dJ3_checkIndex_8e157_5 rfl (lv_at hl 1 rfl) ?_
    refine lv_icmp_lt (tgt := 16) hx hb dJ3_checkIndex_8e157_6 (by decide) (fun c6 => ?_) (fun c6 => ?_)
    · have hf := gt hf c6
      refine lv_iload_n hx hb dJ3_checkIndex_8e157_16 rfl (lv_at hl 0 rfl) ?_
      exact r_iret2 hC hI hf dJ3_checkIndex_8e157_17
    · have hf := gf hf c6
      cases hf
theorem k_J3_checkIndex_8e157 {p : Program} {l : Launch} {e : Env} {R : Room} {cells slots : Nat} {s : State} {m : MethodId} {args : Array Value} {below : List Frame} {meth : Method} {c : Code} {H : Heap} {locs : List Loc} {Q : State → Prop} {E : En} {ad : Nat → Nat} {V : Mem} {ow : String} {b : ByteArray} {n : Nat} {ret : Option FieldType} {pc index : Nat} {ls : Array Slot} {rest : List Value} {q2 : Nat} {a0 : Int32} {a1 : Int32} {r : Int32} {V1 : Mem} (hC : Cx p s m args c meth E ow b n ret) (hI : In E ad V s H locs) (hsz : ls.size = n) (hf : f_J3_checkIndex_8e157 V q2 a0 a1 = some (r, V1)) (hl : Cond.methodLink ow index yJ3_checkIndex_8e157 ∈ TB) (hR : 1 + 1 ≤ R.frames ∧ 8 + (3 + 11) + 40 * 1 ≤ R.locals) (hcs : cells ≤ R.cells ∧ slots ≤ R.slots) (hw : (rest.map fun v => v.category).sum ≤ 8) (hdg : decode b pc = .ok (.invokestatic index, 3)) (kk : ∀ (H1 : Heap) (locs1 : List Loc), In E ad V1 s H1 locs1 → W p l e R s m args below meth c H1 locs1 cells slots Q (F0 m (pc + 3) ls ((.int r) :: rest))) : W p l e R s m args below meth c H locs cells slots Q (F0 m pc ls (.ref q2 :: .int a1 :: .int a0 :: rest)) :=
  r_calS (As := [.int a0, .int a1, .ref q2]) (rest := rest) hC hI hsz (m_J3_checkIndex_8e157 l E ad V q2 a0 a1 r _ hf) cv_J3_checkIndex_8e157 hl rfl rfl hR hcs hw hdg kk
theorem kN_J3_checkIndex_8e157 {p : Program} {l : Launch} {e : Env} {R : Room} {cells slots : Nat} {s : State} {m : MethodId} {args : Array Value} {below : List Frame} {meth : Method} {c : Code} {H : Heap} {locs : List Loc} {Q : State → Prop} {E : En} {ad : Nat → Nat} {V : Mem} {ow host : String} {b : ByteArray} {n : Nat} {ret : Option FieldType} {pc index : Nat} {ls : Array Slot} {rest : List Value} {q2 : Nat} {a0 : Int32} {a1 : Int32} {r : Int32} {V1 : Mem} (hC : Cx p s m args c meth E ow b n ret) (hI : In E ad V s H locs) (hsz : ls.size = n) (hf : f_J3_checkIndex_8e157 V q2 a0 a1 = some (r, V1)) (hl : Cond.methodLinkNest ow index yJ3_checkIndex_8e157 host ∈ NB) (hR : 1 + 1 ≤ R.frames ∧ 8 + (3 + 11) + 40 * 1 ≤ R.locals) (hcs : cells ≤ R.cells ∧ slots ≤ R.slots) (hw : (rest.map fun v => v.category).sum ≤ 8) (hdg : decode b pc = .ok (.invokestatic index, 3)) (kk : ∀ (H1 : Heap) (locs1 : List Loc), In E ad V1 s H1 locs1 → W p l e R s m args below meth c H1 locs1 cells slots Q (F0 m (pc + 3) ls ((.int r) :: rest))) : W p l e R s m args below meth c H locs cells slots Q (F0 m pc ls (.ref q2 :: .int a1 :: .int a0 :: rest)) :=
  r_calSN (As := [.int a0, .int a1, .ref q2]) (rest := rest) hC hI hsz (m_J3_checkIndex_8e157 l E ad V q2 a0 a1 r _ hf) cv_J3_checkIndex_8e157 hl rfl rfl hR hcs hw hdg kk

set_option maxRecDepth 100000 in
set_option maxHeartbeats 4000000 in
theorem m_J3_checkIndex_8e157_n (l : Launch) (E : En) (ad : Nat → Nat) (V : Mem) (q2 : Nat) (a0 : Int32) (a1 : Int32) (r : Int32) (Vz : Mem) (hf : f_J3_checkIndex_8e157 V q2 a0 a1 = some (r, Vz)) : MR l E ad yJ3_checkIndex_8e157 cJ3_checkIndex_8e157 3 (some .int) 1 [.int a0, .int a1, .null] V (some (.int r)) Vz := by
  refine ent (E := E) (ad := ad) (V := V) "jdk/internal/util/Preconditions" (by decide +kernel) rfl (Nat.le_of_ble_eq_true rfl) ?_
  intro p e s m below meth c ls hC hI hl
  have hx := hC.1
  have hb := hC.2.1
  have hl : lv_has ls 3 [(0, .int a0), (1, .int a1), (2, .null)] := hl
  unfold f_J3_checkIndex_8e157 at hf
  refine lv_iload_n hx hb dJ3_checkIndex_8e157_0 rfl (lv_at hl 0 rfl) ?_
  refine lv_if_lt (tgt := 9) hx hb dJ3_checkIndex_8e157_1 (by decide) (fun c1 => ?_) (fun c1 => ?_)
  · have hf := gt hf c1
    cases hf
  · have hf := gf hf c1
    refine lv_iload_n hx hb dJ3_checkIndex_8e157_4 rfl (lv_at hl 0 rfl) ?_
    refine lv_iload_n hx hb dJ3_checkIndex_8e157_5 rfl (lv_at hl 1 rfl) ?_
    refine lv_icmp_lt (tgt := 16) hx hb dJ3_checkIndex_8e157_6 (by decide) (fun c6 => ?_) (fun c6 => ?_)
    · have hf := gt hf c6
      refine lv_iload_n hx hb dJ3_checkIndex_8e157_16 rfl (lv_at hl 0 rfl) ?_
      exact r_iret2 hC hI hf dJ3_checkIndex_8e157_17
    · have hf := gf hf c6
      cases hf
theorem k_J3_checkIndex_8e157_n {p : Program} {l : Launch} {e : Env} {R : Room} {cells slots : Nat} {s : State} {m : MethodId} {args : Array Value} {below : List Frame} {meth : Method} {c : Code} {H : Heap} {locs : List Loc} {Q : State → Prop} {E : En} {ad : Nat → Nat} {V : Mem} {ow : String} {b : ByteArray} {n : Nat} {ret : Option FieldType} {pc index : Nat} {ls : Array Slot} {rest : List Value} {q2 : Nat} {a0 : Int32} {a1 : Int32} {r : Int32} {V1 : Mem} (hC : Cx p s m args c meth E ow b n ret) (hI : In E ad V s H locs) (hsz : ls.size = n) (hf : f_J3_checkIndex_8e157 V q2 a0 a1 = some (r, V1)) (hl : Cond.methodLink ow index yJ3_checkIndex_8e157 ∈ TB) (hR : 1 + 1 ≤ R.frames ∧ 8 + (3 + 11) + 40 * 1 ≤ R.locals) (hcs : cells ≤ R.cells ∧ slots ≤ R.slots) (hw : (rest.map fun v => v.category).sum ≤ 8) (hdg : decode b pc = .ok (.invokestatic index, 3)) (kk : ∀ (H1 : Heap) (locs1 : List Loc), In E ad V1 s H1 locs1 → W p l e R s m args below meth c H1 locs1 cells slots Q (F0 m (pc + 3) ls ((.int r) :: rest))) : W p l e R s m args below meth c H locs cells slots Q (F0 m pc ls (.null :: .int a1 :: .int a0 :: rest)) :=
  r_calS (As := [.int a0, .int a1, .null]) (rest := rest) hC hI hsz (m_J3_checkIndex_8e157_n l E ad V q2 a0 a1 r _ hf) cv_J3_checkIndex_8e157 hl rfl rfl hR hcs hw hdg kk
theorem kN_J3_checkIndex_8e157_n {p : Program} {l : Launch} {e : Env} {R : Room} {cells slots : Nat} {s : State} {m : MethodId} {args : Array Value} {below : List Frame} {meth : Method} {c : Code} {H : Heap} {locs : List Loc} {Q : State → Prop} {E : En} {ad : Nat → Nat} {V : Mem} {ow host : String} {b : ByteArray} {n : Nat} {ret : Option FieldType} {pc index : Nat} {ls : Array Slot} {rest : List Value} {q2 : Nat} {a0 : Int32} {a1 : Int32} {r : Int32} {V1 : Mem} (hC : Cx p s m args c meth E ow b n ret) (hI : In E ad V s H locs) (hsz : ls.size = n) (hf : f_J3_checkIndex_8e157 V q2 a0 a1 = some (r, V1)) (hl : Cond.methodLinkNest ow index yJ3_checkIndex_8e157 host ∈ NB) (hR : 1 + 1 ≤ R.frames ∧ 8 + (3 + 11) + 40 * 1 ≤ R.locals) (hcs : cells ≤ R.cells ∧ slots ≤ R.slots) (hw : (rest.map fun v => v.category).sum ≤ 8) (hdg : decode b pc = .ok (.invokestatic index, 3)) (kk : ∀ (H1 : Heap) (locs1 : List Loc), In E ad V1 s H1 locs1 → W p l e R s m args below meth c H1 locs1 cells slots Q (F0 m (pc + 3) ls ((.int r) :: rest))) : W p l e R s m args below meth c H locs cells slots Q (F0 m pc ls (.null :: .int a1 :: .int a0 :: rest)) :=
  r_calSN (As := [.int a0, .int a1, .null]) (rest := rest) hC hI hsz (m_J3_checkIndex_8e157_n l E ad V q2 a0 a1 r _ hf) cv_J3_checkIndex_8e157 hl rfl rfl hR hcs hw hdg kk

theorem dJ0_checkIndex_df160_0 : decode cJ0_checkIndex_df160 0 = .ok (.iload_n 0, 1) := by decide +kernel
theorem dJ0_checkIndex_df160_1 : decode cJ0_checkIndex_df160 1 = .ok (.iload_n 1, 1) := by decide +kernel
theorem dJ0_checkIndex_df160_2 : decode cJ0_checkIndex_df160 2 = .ok (.getstatic 1053, 3) := by decide +kernel
theorem dJ0_checkIndex_df160_5 : decode cJ0_checkIndex_df160 5 = .ok (.invokestatic 1059, 3) := by decide +kernel
theorem dJ0_checkIndex_df160_8 : decode cJ0_checkIndex_df160 8 = .ok (.pop, 1) := by decide +kernel
theorem dJ0_checkIndex_df160_9 : decode cJ0_checkIndex_df160 9 = .ok (.return_, 1) := by decide +kernel
def f_J0_checkIndex_df160 (V : Mem) (a0 : Int32) (a1 : Int32) : Option Mem := bd (f_J3_checkIndex_8e157 V 0 a0 a1) fun _ V => some V
theorem cv_J0_checkIndex_df160 : CalS yJ0_checkIndex_df160 cJ0_checkIndex_df160 2 none 2 := ⟨⟨⟨by decide +kernel, by decide +kernel⟩, tw_1_12, tw_6_201, by decide +kernel⟩, tw_6_200⟩
set_option maxRecDepth 100000 in
theorem m_J0_checkIndex_df160 (l : Launch) (E : En) (ad : Nat → Nat) (V : Mem) (a0 : Int32) (a1 : Int32) (hS : SF E) (Vz : Mem) (hf : f_J0_checkIndex_df160 V a0 a1 = some Vz) : MR l E ad yJ0_checkIndex_df160 cJ0_checkIndex_df160 2 none 2 [.int a0, .int a1] V none Vz := by
  refine ent (E := E) (ad := ad) (V := V) "java/lang/String" (by decide +kernel) rfl (Nat.le_of_ble_eq_true rfl) ?_
  intro p e s m below meth c ls hC hI hl
  have hx := hC.1
  have hb := hC.2.1
  have hl : lv_has ls 2 [(0, .int a0), (1, .int a1)] := hl
  unfold f_J0_checkIndex_df160 at hf
  refine lv_iload_n hx hb dJ0_checkIndex_df160_0 rfl (lv_at hl 0 rfl) ?_
  refine lv_iload_n hx hb dJ0_checkIndex_df160_1 rfl (lv_at hl 1 rfl) ?_
  obtain ⟨o, ho⟩ := (hS s s.heap hC.2.2.2.2.2.2.2.1).2.2.2.2.2.2.2.2.2.2.2.2.1
  refine va_gets hC.1 hC.2.1 ho hI.2 hC.2.2.2.1 (hC.2.2.2.2.1 _ tw_5_226) (fun _ h => h) dJ0_checkIndex_df160_2 ?_
  obtain ⟨r, V1, q, hf⟩ := gbd hf
  rcases o with _ | q2
  · refine k_J3_checkIndex_8e157_n hC hI hl.1 q tw_6_202 ⟨Nat.le_of_ble_eq_true rfl, Nat.le_of_ble_eq_true rfl⟩ ⟨Nat.le_refl _, Nat.le_refl _⟩ (Nat.le_of_ble_eq_true rfl) dJ0_checkIndex_df160_5 (fun H locs hI => ?_)
    refine lv_pop hx hb dJ0_checkIndex_df160_8 rfl ?_
    exact r_vret2 hC hI hf dJ0_checkIndex_df160_9
  · refine k_J3_checkIndex_8e157 hC hI hl.1 (show f_J3_checkIndex_8e157 V q2 a0 a1 = _ from q) tw_6_202 ⟨Nat.le_of_ble_eq_true rfl, Nat.le_of_ble_eq_true rfl⟩ ⟨Nat.le_refl _, Nat.le_refl _⟩ (Nat.le_of_ble_eq_true rfl) dJ0_checkIndex_df160_5 (fun H locs hI => ?_)
    refine lv_pop hx hb dJ0_checkIndex_df160_8 rfl ?_
    exact r_vret2 hC hI hf dJ0_checkIndex_df160_9
theorem k_J0_checkIndex_df160 {p : Program} {l : Launch} {e : Env} {R : Room} {cells slots : Nat} {s : State} {m : MethodId} {args : Array Value} {below : List Frame} {meth : Method} {c : Code} {H : Heap} {locs : List Loc} {Q : State → Prop} {E : En} {ad : Nat → Nat} {V : Mem} {ow : String} {b : ByteArray} {n : Nat} {ret : Option FieldType} {pc index : Nat} {ls : Array Slot} {rest : List Value} {a0 : Int32} {a1 : Int32} {V1 : Mem} (hS : SF E) (hC : Cx p s m args c meth E ow b n ret) (hI : In E ad V s H locs) (hsz : ls.size = n) (hf : f_J0_checkIndex_df160 V a0 a1 = some V1) (hl : Cond.methodLink ow index yJ0_checkIndex_df160 ∈ TB) (hR : 2 + 1 ≤ R.frames ∧ 8 + (2 + 11) + 40 * 2 ≤ R.locals) (hcs : cells ≤ R.cells ∧ slots ≤ R.slots) (hw : (rest.map fun v => v.category).sum ≤ 8) (hdg : decode b pc = .ok (.invokestatic index, 3)) (kk : ∀ (H1 : Heap) (locs1 : List Loc), In E ad V1 s H1 locs1 → W p l e R s m args below meth c H1 locs1 cells slots Q (F0 m (pc + 3) ls (rest))) : W p l e R s m args below meth c H locs cells slots Q (F0 m pc ls (.int a1 :: .int a0 :: rest)) :=
  r_calSv (As := [.int a0, .int a1]) (rest := rest) hC hI hsz (m_J0_checkIndex_df160 l E ad V a0 a1 hS _ hf) cv_J0_checkIndex_df160 hl rfl rfl hR hcs hw hdg kk

theorem dJ1_charAt_3b067_0 : decode cJ1_charAt_3b067 0 = .ok (.iload_n 1, 1) := by decide +kernel
theorem dJ1_charAt_3b067_1 : decode cJ1_charAt_3b067 1 = .ok (.aload_n 0, 1) := by decide +kernel
theorem dJ1_charAt_3b067_2 : decode cJ1_charAt_3b067 2 = .ok (.arraylength, 1) := by decide +kernel
theorem dJ1_charAt_3b067_3 : decode cJ1_charAt_3b067 3 = .ok (.invokestatic 9, 3) := by decide +kernel
theorem dJ1_charAt_3b067_6 : decode cJ1_charAt_3b067 6 = .ok (.aload_n 0, 1) := by decide +kernel
theorem dJ1_charAt_3b067_7 : decode cJ1_charAt_3b067 7 = .ok (.iload_n 1, 1) := by decide +kernel
theorem dJ1_charAt_3b067_8 : decode cJ1_charAt_3b067 8 = .ok (.baload, 1) := by decide +kernel
theorem dJ1_charAt_3b067_9 : decode cJ1_charAt_3b067 9 = .ok (.sipush 255, 3) := by decide +kernel
theorem dJ1_charAt_3b067_12 : decode cJ1_charAt_3b067 12 = .ok (.iand, 1) := by decide +kernel
theorem dJ1_charAt_3b067_13 : decode cJ1_charAt_3b067 13 = .ok (.i2c, 1) := by decide +kernel
theorem dJ1_charAt_3b067_14 : decode cJ1_charAt_3b067 14 = .ok (.ireturn, 1) := by decide +kernel
def f_J1_charAt_3b067 (V : Mem) (w : Nat) (a1 : Int32) : Option (Int32 × Mem) :=
  bv (f_J0_checkIndex_df160 V a1 (nI (textOf w).length)) fun V3 =>
  if ib a1 (textOf w).length = true then
    some (((((((textOf w).getD a1.toNatClampNeg 0) &&& 255) : Int32).toUInt32 % 65536).toInt32), V3)
  else none
theorem cv_J1_charAt_3b067 : CalS yJ1_charAt_3b067 cJ1_charAt_3b067 2 (some .char) 2 := ⟨⟨⟨by decide +kernel, by decide +kernel⟩, tw_1_31, tw_7_57, by decide +kernel⟩, tw_7_56⟩
set_option maxRecDepth 100000 in
set_option maxHeartbeats 4000000 in
theorem m_J1_charAt_3b067 (l : Launch) (E : En) (ad : Nat → Nat) (V : Mem) (w : Nat) (a1 : Int32) (hS : SF E) (hw4 : w < 17) (r : Int32) (Vz : Mem) (hf : f_J1_charAt_3b067 V w a1 = some (r, Vz)) : MR l E ad yJ1_charAt_3b067 cJ1_charAt_3b067 2 (some .char) 3 [.ref (eA E 4 w), .int a1] V (some (.int r)) Vz := by
  refine ent (E := E) (ad := ad) (V := V) "java/lang/StringLatin1" (by decide +kernel) rfl (Nat.le_of_ble_eq_true rfl) ?_
  intro p e s m below meth c ls hC hI hl
  have hx := hC.1
  have hb := hC.2.1
  have hl : lv_has ls 2 [(0, .ref (eA E 4 w)), (1, .int a1)] := hl
  unfold f_J1_charAt_3b067 at hf
  refine lv_iload_n hx hb dJ1_charAt_3b067_0 rfl (lv_at hl 1 rfl) ?_
  refine lv_aload_n hx hb dJ1_charAt_3b067_1 rfl (lv_at hl 0 rfl) ?_
  refine t_slen hS hw4 hC hI dJ1_charAt_3b067_2 ?_
  obtain ⟨V3, q3, hf⟩ := gbv hf
  refine k_J0_checkIndex_df160 hS hC hI hl.1 q3 tw_7_58 ⟨Nat.le_of_ble_eq_true rfl, Nat.le_of_ble_eq_true rfl⟩ ⟨Nat.le_refl _, Nat.le_refl _⟩ (Nat.le_of_ble_eq_true rfl) dJ1_charAt_3b067_3 (fun H locs hI => ?_)
  refine lv_aload_n hx hb dJ1_charAt_3b067_6 rfl (lv_at hl 0 rfl) ?_
  refine lv_iload_n hx hb dJ1_charAt_3b067_7 rfl (lv_at hl 1 rfl) ?_
  obtain ⟨h8, hf⟩ := gi hf
  refine t_sld hS hw4 hC hI (ib_in h8) dJ1_charAt_3b067_8 ?_
  refine lv_sipush (v := 255) hx hb dJ1_charAt_3b067_9 rfl ?_
  refine lv_iand hx hb dJ1_charAt_3b067_12 ?_
  refine lv_i2c hx hb dJ1_charAt_3b067_13 rfl ?_
  exact r_cret2 hC hI hf dJ1_charAt_3b067_14
theorem k_J1_charAt_3b067 {p : Program} {l : Launch} {e : Env} {R : Room} {cells slots : Nat} {s : State} {m : MethodId} {args : Array Value} {below : List Frame} {meth : Method} {c : Code} {H : Heap} {locs : List Loc} {Q : State → Prop} {E : En} {ad : Nat → Nat} {V : Mem} {ow : String} {b : ByteArray} {n : Nat} {ret : Option FieldType} {pc index : Nat} {ls : Array Slot} {rest : List Value} {w : Nat} {a1 : Int32} {r : Int32} {V1 : Mem} (hS : SF E) (hw4 : w < 17) (hC : Cx p s m args c meth E ow b n ret) (hI : In E ad V s H locs) (hsz : ls.size = n) (hf : f_J1_charAt_3b067 V w a1 = some (r, V1)) (hl : Cond.methodLink ow index yJ1_charAt_3b067 ∈ TB) (hR : 3 + 1 ≤ R.frames ∧ 8 + (2 + 11) + 40 * 3 ≤ R.locals) (hcs : cells ≤ R.cells ∧ slots ≤ R.slots) (hw : (rest.map fun v => v.category).sum ≤ 8) (hdg : decode b pc = .ok (.invokestatic index, 3)) (kk : ∀ (H1 : Heap) (locs1 : List Loc), In E ad V1 s H1 locs1 → W p l e R s m args below meth c H1 locs1 cells slots Q (F0 m (pc + 3) ls ((.int r) :: rest))) : W p l e R s m args below meth c H locs cells slots Q (F0 m pc ls (.int a1 :: .ref (eA E 4 w) :: rest)) :=
  r_calS (As := [.ref (eA E 4 w), .int a1]) (rest := rest) hC hI hsz (m_J1_charAt_3b067 l E ad V w a1 hS hw4 r _ hf) cv_J1_charAt_3b067 hl rfl rfl hR hcs hw hdg kk
theorem kN_J1_charAt_3b067 {p : Program} {l : Launch} {e : Env} {R : Room} {cells slots : Nat} {s : State} {m : MethodId} {args : Array Value} {below : List Frame} {meth : Method} {c : Code} {H : Heap} {locs : List Loc} {Q : State → Prop} {E : En} {ad : Nat → Nat} {V : Mem} {ow host : String} {b : ByteArray} {n : Nat} {ret : Option FieldType} {pc index : Nat} {ls : Array Slot} {rest : List Value} {w : Nat} {a1 : Int32} {r : Int32} {V1 : Mem} (hS : SF E) (hw4 : w < 17) (hC : Cx p s m args c meth E ow b n ret) (hI : In E ad V s H locs) (hsz : ls.size = n) (hf : f_J1_charAt_3b067 V w a1 = some (r, V1)) (hl : Cond.methodLinkNest ow index yJ1_charAt_3b067 host ∈ NB) (hR : 3 + 1 ≤ R.frames ∧ 8 + (2 + 11) + 40 * 3 ≤ R.locals) (hcs : cells ≤ R.cells ∧ slots ≤ R.slots) (hw : (rest.map fun v => v.category).sum ≤ 8) (hdg : decode b pc = .ok (.invokestatic index, 3)) (kk : ∀ (H1 : Heap) (locs1 : List Loc), In E ad V1 s H1 locs1 → W p l e R s m args below meth c H1 locs1 cells slots Q (F0 m (pc + 3) ls ((.int r) :: rest))) : W p l e R s m args below meth c H locs cells slots Q (F0 m pc ls (.int a1 :: .ref (eA E 4 w) :: rest)) :=
  r_calSN (As := [.ref (eA E 4 w), .int a1]) (rest := rest) hC hI hsz (m_J1_charAt_3b067 l E ad V w a1 hS hw4 r _ hf) cv_J1_charAt_3b067 hl rfl rfl hR hcs hw hdg kk

theorem dJ0_charAt_5068e_0 : decode cJ0_charAt_5068e 0 = .ok (.aload_n 0, 1) := by decide +kernel
theorem dJ0_charAt_5068e_1 : decode cJ0_charAt_5068e 1 = .ok (.invokevirtual 492, 3) := by decide +kernel
theorem dJ0_charAt_5068e_4 : decode cJ0_charAt_5068e 4 = .ok (.ifCond .eq 12, 3) := by decide +kernel
theorem dJ0_charAt_5068e_7 : decode cJ0_charAt_5068e 7 = .ok (.aload_n 0, 1) := by decide +kernel
theorem dJ0_charAt_5068e_8 : decode cJ0_charAt_5068e 8 = .ok (.getfield 9, 3) := by decide +kernel
theorem dJ0_charAt_5068e_11 : decode cJ0_charAt_5068e 11 = .ok (.iload_n 1, 1) := by decide +kernel
theorem dJ0_charAt_5068e_12 : decode cJ0_charAt_5068e 12 = .ok (.invokestatic 495, 3) := by decide +kernel
theorem dJ0_charAt_5068e_15 : decode cJ0_charAt_5068e 15 = .ok (.ireturn, 1) := by decide +kernel
theorem dJ0_charAt_5068e_16 : decode cJ0_charAt_5068e 16 = .ok (.aload_n 0, 1) := by decide +kernel
theorem dJ0_charAt_5068e_17 : decode cJ0_charAt_5068e 17 = .ok (.getfield 9, 3) := by decide +kernel
theorem dJ0_charAt_5068e_20 : decode cJ0_charAt_5068e 20 = .ok (.iload_n 1, 1) := by decide +kernel
theorem dJ0_charAt_5068e_21 : decode cJ0_charAt_5068e 21 = .ok (.invokestatic 498, 3) := by decide +kernel
theorem dJ0_charAt_5068e_24 : decode cJ0_charAt_5068e 24 = .ok (.ireturn, 1) := by decide +kernel
def f_J0_charAt_5068e (V : Mem) (w : Nat) (a1 : Int32) : Option (Int32 × Mem) :=
  bd (f_J0_isLatin1_aae02 V w) fun r1 V1 =>
  if r1 = 0 then
    none
  else
    bd (f_J1_charAt_3b067 V1 w a1) fun r12 V12 =>
    if ((r12 : Int32).toUInt32 % 65536).toInt32 = r12 then
      some (r12, V12)
    else none
theorem cv_J0_charAt_5068e : CalW "java/lang/String" yJ0_charAt_5068e cJ0_charAt_5068e 2 (some .char) 1 := ⟨⟨⟨by decide +kernel, by decide +kernel⟩, tw_1_12, tw_7_50, by decide +kernel⟩, tw_7_48, tw_7_49⟩
set_option maxRecDepth 100000 in
set_option maxHeartbeats 4000000 in
theorem m_J0_charAt_5068e (l : Launch) (E : En) (ad : Nat → Nat) (V : Mem) (w : Nat) (a1 : Int32) (hS : SF E) (hw4 : w < 17) (r : Int32) (Vz : Mem) (hf : f_J0_charAt_5068e V w a1 = some (r, Vz)) : MR l E ad yJ0_charAt_5068e cJ0_charAt_5068e 2 (some .char) 4 [.ref (eA E 3 w), .int a1] V (some (.int r)) Vz := by
  refine ent (E := E) (ad := ad) (V := V) "java/lang/String" (by decide +kernel) rfl (Nat.le_of_ble_eq_true rfl) ?_
  intro p e s m below meth c ls hC hI hl
  have hx := hC.1
  have hb := hC.2.1
  have hl : lv_has ls 2 [(0, .ref (eA E 3 w)), (1, .int a1)] := hl
  unfold f_J0_charAt_5068e at hf
  refine lv_aload_n hx hb dJ0_charAt_5068e_0 rfl (lv_at hl 0 rfl) ?_
  obtain ⟨r1, V1, q1, hf⟩ := gbd hf
  refine k_J0_isLatin1_aae02 hS hw4 hC hI hl.1 q1 tw_7_51 ⟨Nat.le_of_ble_eq_true rfl, Nat.le_of_ble_eq_true rfl⟩ ⟨Nat.le_refl _, Nat.le_refl _⟩ (Nat.le_of_ble_eq_true rfl) dJ0_charAt_5068e_1 (fun H locs hI => ?_)
  refine lv_if_eq (tgt := 16) hx hb dJ0_charAt_5068e_4 (by decide) (fun c4 => ?_) (fun c4 => ?_)
  · have hf := gt hf c4
    cases hf
  · have hf := gf hf c4
    refine lv_aload_n hx hb dJ0_charAt_5068e_7 rfl (lv_at hl 0 rfl) ?_
    refine t_sval hS hw4 hC hI tw_6_125 dJ0_charAt_5068e_8 ?_
    refine lv_iload_n hx hb dJ0_charAt_5068e_11 rfl (lv_at hl 1 rfl) ?_
    obtain ⟨r12, V12, q12, hf⟩ := gbd hf
    refine k_J1_charAt_3b067 hS hw4 hC hI hl.1 q12 tw_7_55 ⟨Nat.le_of_ble_eq_true rfl, Nat.le_of_ble_eq_true rfl⟩ ⟨Nat.le_refl _, Nat.le_refl _⟩ (Nat.le_of_ble_eq_true rfl) dJ0_charAt_5068e_12 (fun H locs hI => ?_)
    obtain ⟨h15, hf⟩ := gi hf
    exact r_cretX h15 hC hI hf dJ0_charAt_5068e_15
theorem k_J0_charAt_5068e {p : Program} {l : Launch} {e : Env} {R : Room} {cells slots : Nat} {s : State} {m : MethodId} {args : Array Value} {below : List Frame} {meth : Method} {c : Code} {H : Heap} {locs : List Loc} {Q : State → Prop} {E : En} {ad : Nat → Nat} {V : Mem} {ow : String} {b : ByteArray} {n : Nat} {ret : Option FieldType} {pc index : Nat} {ls : Array Slot} {rest : List Value} {w : Nat} {a1 : Int32} {r : Int32} {V1 : Mem} (hS : SF E) (hw4 : w < 17) (hC : Cx p s m args c meth E ow b n ret) (hI : In E ad V s H locs) (hsz : ls.size = n) (hf : f_J0_charAt_5068e V w a1 = some (r, V1)) (hl : Cond.methodLink ow index yJ0_charAt_5068e ∈ TB) (hR : 4 + 1 ≤ R.frames ∧ 8 + (2 + 11) + 40 * 4 ≤ R.locals) (hcs : cells ≤ R.cells ∧ slots ≤ R.slots) (hw : (rest.map fun v => v.category).sum ≤ 8) (hdg : decode b pc = .ok (.invokevirtual index, 3)) (kk : ∀ (H1 : Heap) (locs1 : List Loc), In E ad V1 s H1 locs1 → W p l e R s m args below meth c H1 locs1 cells slots Q (F0 m (pc + 3) ls ((.int r) :: rest))) : W p l e R s m args below meth c H locs cells slots Q (F0 m pc ls (.int a1 :: .ref (eA E 3 w) :: rest)) :=
  r_calT hS hw4 (As := [.int a1]) (rest := rest) hC hI hsz (m_J0_charAt_5068e l E ad V w a1 hS hw4 r _ hf) cv_J0_charAt_5068e hl rfl rfl hR hcs hw hdg kk

theorem dJ5_length_8abf5_0 : decode cJ5_length_8abf5 0 = .ok (.aload_n 0, 1) := by decide +kernel
theorem dJ5_length_8abf5_1 : decode cJ5_length_8abf5 1 = .ok (.getfield 79, 3) := by decide +kernel
theorem dJ5_length_8abf5_4 : decode cJ5_length_8abf5 4 = .ok (.ireturn, 1) := by decide +kernel
def f_J5_length_8abf5 (V : Mem) (t1 : Nat) : Option (Int32 × Mem) :=
  some ((V t1 1), V)
theorem cv_J5_length_8abf5 : CalU yJ5_length_8abf5 cJ5_length_8abf5 1 (some .int) 0 := ⟨⟨by decide +kernel, by decide +kernel⟩, tw_6_88, tw_1_211, tw_6_87, tw_1_10, tw_6_93⟩
set_option maxRecDepth 100000 in
set_option maxHeartbeats 4000000 in
theorem m_J5_length_8abf5 (l : Launch) (E : En) (ad : Nat → Nat) (V : Mem) (t1 : Nat) (ht : TX t1) (r : Int32) (Vz : Mem) (hf : f_J5_length_8abf5 V t1 = some (r, Vz)) : MR l E ad yJ5_length_8abf5 cJ5_length_8abf5 1 (some .int) 1 [.ref (ad t1)] V (some (.int r)) Vz := by
  refine ent (E := E) (ad := ad) (V := V) "java/lang/AbstractStringBuilder" (by decide +kernel) rfl (Nat.le_of_ble_eq_true rfl) ?_
  intro p e s m below meth c ls hC hI hl
  have hx := hC.1
  have hb := hC.2.1
  have hl : lv_has ls 1 [(0, .ref (ad t1))] := hl
  unfold f_J5_length_8abf5 at hf
  refine lv_aload_n hx hb dJ5_length_8abf5_0 rfl (lv_at hl 0 rfl) ?_
  refine t_count ht hC hI tw_1_202 dJ5_length_8abf5_1 ?_
  exact r_iret2 hC hI hf dJ5_length_8abf5_4
theorem k_J5_length_8abf5 {p : Program} {l : Launch} {e : Env} {R : Room} {cells slots : Nat} {s : State} {m : MethodId} {args : Array Value} {below : List Frame} {meth : Method} {c : Code} {H : Heap} {locs : List Loc} {Q : State → Prop} {E : En} {ad : Nat → Nat} {V : Mem} {b : ByteArray} {n : Nat} {ret : Option FieldType} {pc index : Nat} {ls : Array Slot} {rest : List Value} {t1 : Nat} {r : Int32} {V1 : Mem} (ht : TX t1) (hC : Cx p s m args c meth E "java/lang/StringBuilder" b n ret) (hI : In E ad V s H locs) (hsz : ls.size = n) (hf : f_J5_length_8abf5 V t1 = some (r, V1)) (hl : Cond.methodLink "java/lang/StringBuilder" index yJ5_length_8abf5 ∈ TB) (hR : 1 + 1 ≤ R.frames ∧ 8 + (1 + 11) + 40 * 1 ≤ R.locals) (hcs : cells ≤ R.cells ∧ slots ≤ R.slots) (hw : (rest.map fun v => v.category).sum ≤ 8) (hdg : decode b pc = .ok (.invokespecial index, 3)) (kk : ∀ (H1 : Heap) (locs1 : List Loc), In E ad V1 s H1 locs1 → W p l e R s m args below meth c H1 locs1 cells slots Q (F0 m (pc + 3) ls ((.int r) :: rest))) : W p l e R s m args below meth c H locs cells slots Q (F0 m pc ls (.ref (ad t1) :: rest)) :=
  r_calU ht (As := []) (rest := rest) hC hI hsz (m_J5_length_8abf5 l E ad V t1 ht r _ hf) cv_J5_length_8abf5 hl rfl rfl hR hcs hw hdg kk

theorem dJ4_length_8abf5_0 : decode cJ4_length_8abf5 0 = .ok (.aload_n 0, 1) := by decide +kernel
theorem dJ4_length_8abf5_1 : decode cJ4_length_8abf5 1 = .ok (.invokespecial 343, 3) := by decide +kernel
theorem dJ4_length_8abf5_4 : decode cJ4_length_8abf5 4 = .ok (.ireturn, 1) := by decide +kernel
def f_J4_length_8abf5 (V : Mem) (t1 : Nat) : Option (Int32 × Mem) :=
  bd (f_J5_length_8abf5 V t1) fun r1 V1 =>
  some (r1, V1)
theorem cv_J4_length_8abf5 : CalW "java/lang/StringBuilder" yJ4_length_8abf5 cJ4_length_8abf5 1 (some .int) 0 := ⟨⟨⟨by decide +kernel, by decide +kernel⟩, tw_1_11, tw_6_91, by decide +kernel⟩, tw_6_90, tw_10_19⟩
set_option maxRecDepth 100000 in
set_option maxHeartbeats 4000000 in
theorem m_J4_length_8abf5 (l : Launch) (E : En) (ad : Nat → Nat) (V : Mem) (t1 : Nat) (ht : TX t1) (r : Int32) (Vz : Mem) (hf : f_J4_length_8abf5 V t1 = some (r, Vz)) : MR l E ad yJ4_length_8abf5 cJ4_length_8abf5 1 (some .int) 2 [.ref (ad t1)] V (some (.int r)) Vz := by
  refine ent (E := E) (ad := ad) (V := V) "java/lang/StringBuilder" (by decide +kernel) rfl (Nat.le_of_ble_eq_true rfl) ?_
  intro p e s m below meth c ls hC hI hl
  have hx := hC.1
  have hb := hC.2.1
  have hl : lv_has ls 1 [(0, .ref (ad t1))] := hl
  unfold f_J4_length_8abf5 at hf
  refine lv_aload_n hx hb dJ4_length_8abf5_0 rfl (lv_at hl 0 rfl) ?_
  obtain ⟨r1, V1, q1, hf⟩ := gbd hf
  refine k_J5_length_8abf5 ht hC hI hl.1 q1 tw_6_92 ⟨Nat.le_of_ble_eq_true rfl, Nat.le_of_ble_eq_true rfl⟩ ⟨Nat.le_refl _, Nat.le_refl _⟩ (Nat.le_of_ble_eq_true rfl) dJ4_length_8abf5_1 (fun H locs hI => ?_)
  exact r_iret2 hC hI hf dJ4_length_8abf5_4
theorem k_J4_length_8abf5 {p : Program} {l : Launch} {e : Env} {R : Room} {cells slots : Nat} {s : State} {m : MethodId} {args : Array Value} {below : List Frame} {meth : Method} {c : Code} {H : Heap} {locs : List Loc} {Q : State → Prop} {E : En} {ad : Nat → Nat} {V : Mem} {ow : String} {b : ByteArray} {n : Nat} {ret : Option FieldType} {pc index : Nat} {ls : Array Slot} {rest : List Value} {t1 : Nat} {r : Int32} {V1 : Mem} (ht : TX t1) (hC : Cx p s m args c meth E ow b n ret) (hI : In E ad V s H locs) (hsz : ls.size = n) (hf : f_J4_length_8abf5 V t1 = some (r, V1)) (hl : Cond.methodLink ow index yJ4_length_8abf5 ∈ TB) (hR : 2 + 1 ≤ R.frames ∧ 8 + (1 + 11) + 40 * 2 ≤ R.locals) (hcs : cells ≤ R.cells ∧ slots ≤ R.slots) (hw : (rest.map fun v => v.category).sum ≤ 8) (hdg : decode b pc = .ok (.invokevirtual index, 3)) (kk : ∀ (H1 : Heap) (locs1 : List Loc), In E ad V1 s H1 locs1 → W p l e R s m args below meth c H1 locs1 cells slots Q (F0 m (pc + 3) ls ((.int r) :: rest))) : W p l e R s m args below meth c H locs cells slots Q (F0 m pc ls (.ref (ad t1) :: rest)) :=
  r_calW (As := []) (rest := rest) hC hI hsz (m_J4_length_8abf5 l E ad V t1 ht r _ hf) cv_J4_length_8abf5 hl (tx_ok ht) (fun sa => ce_tx ht _ _) rfl rfl rfl hR hcs hw hdg kk

theorem dJ5_charAt_5068e_0 : decode cJ5_charAt_5068e 0 = .ok (.aload_n 0, 1) := by decide +kernel
theorem dJ5_charAt_5068e_1 : decode cJ5_charAt_5068e 1 = .ok (.getfield 22, 3) := by decide +kernel
theorem dJ5_charAt_5068e_4 : decode cJ5_charAt_5068e 4 = .ok (.istore_n 2, 1) := by decide +kernel
theorem dJ5_charAt_5068e_5 : decode cJ5_charAt_5068e 5 = .ok (.aload_n 0, 1) := by decide +kernel
theorem dJ5_charAt_5068e_6 : decode cJ5_charAt_5068e 6 = .ok (.getfield 15, 3) := by decide +kernel
theorem dJ5_charAt_5068e_9 : decode cJ5_charAt_5068e 9 = .ok (.astore_n 3, 1) := by decide +kernel
theorem dJ5_charAt_5068e_10 : decode cJ5_charAt_5068e 10 = .ok (.aload_n 0, 1) := by decide +kernel
theorem dJ5_charAt_5068e_11 : decode cJ5_charAt_5068e 11 = .ok (.getfield 79, 3) := by decide +kernel
theorem dJ5_charAt_5068e_14 : decode cJ5_charAt_5068e 14 = .ok (.aload_n 3, 1) := by decide +kernel
theorem dJ5_charAt_5068e_15 : decode cJ5_charAt_5068e 15 = .ok (.arraylength, 1) := by decide +kernel
theorem dJ5_charAt_5068e_16 : decode cJ5_charAt_5068e 16 = .ok (.iload_n 2, 1) := by decide +kernel
theorem dJ5_charAt_5068e_17 : decode cJ5_charAt_5068e 17 = .ok (.ishr, 1) := by decide +kernel
theorem dJ5_charAt_5068e_18 : decode cJ5_charAt_5068e 18 = .ok (.invokestatic 138, 3) := by decide +kernel
theorem dJ5_charAt_5068e_21 : decode cJ5_charAt_5068e 21 = .ok (.istore 4, 2) := by decide +kernel
theorem dJ5_charAt_5068e_23 : decode cJ5_charAt_5068e 23 = .ok (.iload_n 1, 1) := by decide +kernel
theorem dJ5_charAt_5068e_24 : decode cJ5_charAt_5068e 24 = .ok (.iload 4, 2) := by decide +kernel
theorem dJ5_charAt_5068e_26 : decode cJ5_charAt_5068e 26 = .ok (.invokestatic 144, 3) := by decide +kernel
theorem dJ5_charAt_5068e_29 : decode cJ5_charAt_5068e 29 = .ok (.iload_n 2, 1) := by decide +kernel
theorem dJ5_charAt_5068e_30 : decode cJ5_charAt_5068e 30 = .ok (.ifCond .ne 12, 3) := by decide +kernel
theorem dJ5_charAt_5068e_33 : decode cJ5_charAt_5068e 33 = .ok (.aload_n 3, 1) := by decide +kernel
theorem dJ5_charAt_5068e_34 : decode cJ5_charAt_5068e 34 = .ok (.iload_n 1, 1) := by decide +kernel
theorem dJ5_charAt_5068e_35 : decode cJ5_charAt_5068e 35 = .ok (.baload, 1) := by decide +kernel
theorem dJ5_charAt_5068e_36 : decode cJ5_charAt_5068e 36 = .ok (.sipush 255, 3) := by decide +kernel
theorem dJ5_charAt_5068e_39 : decode cJ5_charAt_5068e 39 = .ok (.iand, 1) := by decide +kernel
theorem dJ5_charAt_5068e_40 : decode cJ5_charAt_5068e 40 = .ok (.i2c, 1) := by decide +kernel
theorem dJ5_charAt_5068e_41 : decode cJ5_charAt_5068e 41 = .ok (.ireturn, 1) := by decide +kernel
theorem dJ5_charAt_5068e_42 : decode cJ5_charAt_5068e 42 = .ok (.aload_n 3, 1) := by decide +kernel
theorem dJ5_charAt_5068e_43 : decode cJ5_charAt_5068e 43 = .ok (.iload_n 1, 1) := by decide +kernel
theorem dJ5_charAt_5068e_44 : decode cJ5_charAt_5068e 44 = .ok (.invokestatic 148, 3) := by decide +kernel
theorem dJ5_charAt_5068e_47 : decode cJ5_charAt_5068e 47 = .ok (.ireturn, 1) := by decide +kernel
def f_J5_charAt_5068e (V : Mem) (t1 : Nat) (a1 : Int32) : Option (Int32 × Mem) :=
  bv (f_J0_checkIndex_df160 V a1 (if ((nI (bln V t1)) >>> ((0 : Int32) &&& 31)) < (V t1 1) then ((nI (bln V t1)) >>> ((0 : Int32) &&& 31)) else (V t1 1))) fun V26 =>
  if (0 : Int32) = 0 then
    if ib a1 (bln V26 t1) = true then
      some ((((((V26 (t1 + 1) (a1.toNatClampNeg + 1)) &&& 255) : Int32).toUInt32 % 65536).toInt32), V26)
    else none
  else
    none
theorem cv_J5_charAt_5068e : CalU yJ5_charAt_5068e cJ5_charAt_5068e 5 (some .char) 1 := ⟨⟨by decide +kernel, by decide +kernel⟩, tw_10_20, tw_1_211, tw_7_3, tw_1_10, tw_7_4⟩
set_option maxRecDepth 100000 in
set_option maxHeartbeats 4000000 in
theorem m_J5_charAt_5068e (l : Launch) (E : En) (ad : Nat → Nat) (V : Mem) (t1 : Nat) (a1 : Int32) (hS : SF E) (ht : TX t1) {sa : Nat → Nat} (hA : Fx E sa) (r : Int32) (Vz : Mem) (hf : f_J5_charAt_5068e V t1 a1 = some (r, Vz)) : MR l E ad yJ5_charAt_5068e cJ5_charAt_5068e 5 (some .char) 3 [.ref (ad t1), .int a1] V (some (.int r)) Vz := by
  refine ent (E := E) (ad := ad) (V := V) "java/lang/AbstractStringBuilder" (by decide +kernel) rfl (Nat.le_of_ble_eq_true rfl) ?_
  intro p e s m below meth c ls hC hI hl
  have hx := hC.1
  have hb := hC.2.1
  have hl : lv_has ls 5 [(0, .ref (ad t1)), (1, .int a1)] := hl
  unfold f_J5_charAt_5068e at hf
  refine lv_aload_n hx hb dJ5_charAt_5068e_0 rfl (lv_at hl 0 rfl) ?_
  refine t_coder ht hC hI tw_1_199 dJ5_charAt_5068e_1 ?_
  refine lv_istore_n (lv' := [(2, .int 0), (0, .ref (ad t1)), (1, .int a1)]) hx hb dJ5_charAt_5068e_4 rfl hl (Nat.lt_of_lt_of_eq (by decide) rfl) rfl (fun ls hl => ?_)
  refine lv_aload_n hx hb dJ5_charAt_5068e_5 rfl (lv_at hl 1 rfl) ?_
  refine t_value ht hA hC hI tw_1_198 dJ5_charAt_5068e_6 ?_
  refine lv_astore_n (lv' := [(3, .ref (adx ad sa (t1 + 1))), (2, .int 0), (0, .ref (ad t1)), (1, .int a1)]) hx hb dJ5_charAt_5068e_9 rfl hl (Nat.lt_of_lt_of_eq (by decide) rfl) rfl (fun ls hl => ?_)
  refine lv_aload_n hx hb dJ5_charAt_5068e_10 rfl (lv_at hl 2 rfl) ?_
  refine t_count ht hC hI tw_1_202 dJ5_charAt_5068e_11 ?_
  refine lv_aload_n hx hb dJ5_charAt_5068e_14 rfl (lv_at hl 0 rfl) ?_
  refine t_blen ht hA hC hI dJ5_charAt_5068e_15 ?_
  refine lv_iload_n hx hb dJ5_charAt_5068e_16 rfl (lv_at hl 1 rfl) ?_
  refine lv_ishr hx hb dJ5_charAt_5068e_17 ?_
  refine r_mmin hC hl.1 tw_7_5 ⟨by decide, Nat.le_of_ble_eq_true rfl⟩ ⟨Nat.le_refl _, Nat.le_refl _⟩ dJ5_charAt_5068e_18 ?_
  refine lv_istore (lv' := [(4, .int (if ((nI (bln V t1)) >>> ((0 : Int32) &&& 31)) < (V t1 1) then ((nI (bln V t1)) >>> ((0 : Int32) &&& 31)) else (V t1 1))), (3, .ref (adx ad sa (t1 + 1))), (2, .int 0), (0, .ref (ad t1)), (1, .int a1)]) hx hb dJ5_charAt_5068e_21 hl (Nat.lt_of_lt_of_eq (by decide) rfl) rfl (fun ls hl => ?_)
  refine lv_iload_n hx hb dJ5_charAt_5068e_23 rfl (lv_at hl 4 rfl) ?_
  refine lv_iload hx hb dJ5_charAt_5068e_24 (lv_at hl 0 rfl) ?_
  obtain ⟨V26, q26, hf⟩ := gbv hf
  refine k_J0_checkIndex_df160 hS hC hI hl.1 q26 tw_7_6 ⟨Nat.le_of_ble_eq_true rfl, Nat.le_of_ble_eq_true rfl⟩ ⟨Nat.le_refl _, Nat.le_refl _⟩ (Nat.le_of_ble_eq_true rfl) dJ5_charAt_5068e_26 (fun H locs hI => ?_)
  refine lv_iload_n hx hb dJ5_charAt_5068e_29 rfl (lv_at hl 2 rfl) ?_
  refine lv_if_ne (tgt := 42) hx hb dJ5_charAt_5068e_30 (by decide) (fun c30 => ?_) (fun c30 => ?_)
  · have hf := gf hf c30
    cases hf
  · have hf := gt hf c30
    refine lv_aload_n hx hb dJ5_charAt_5068e_33 rfl (lv_at hl 1 rfl) ?_
    refine lv_iload_n hx hb dJ5_charAt_5068e_34 rfl (lv_at hl 4 rfl) ?_
    obtain ⟨h35, hf⟩ := gi hf
    refine t_bld ht hA hC hI (ib_in h35) dJ5_charAt_5068e_35 ?_
    refine lv_sipush (v := 255) hx hb dJ5_charAt_5068e_36 rfl ?_
    refine lv_iand hx hb dJ5_charAt_5068e_39 ?_
    refine lv_i2c hx hb dJ5_charAt_5068e_40 rfl ?_
    exact r_cret2 hC hI hf dJ5_charAt_5068e_41
theorem k_J5_charAt_5068e {p : Program} {l : Launch} {e : Env} {R : Room} {cells slots : Nat} {s : State} {m : MethodId} {args : Array Value} {below : List Frame} {meth : Method} {c : Code} {H : Heap} {locs : List Loc} {Q : State → Prop} {E : En} {ad : Nat → Nat} {V : Mem} {b : ByteArray} {n : Nat} {ret : Option FieldType} {pc index : Nat} {ls : Array Slot} {rest : List Value} {t1 : Nat} {a1 : Int32} {r : Int32} {V1 : Mem} (hS : SF E) (ht : TX t1) {sa : Nat → Nat} (hA : Fx E sa) (hC : Cx p s m args c meth E "java/lang/StringBuilder" b n ret) (hI : In E ad V s H locs) (hsz : ls.size = n) (hf : f_J5_charAt_5068e V t1 a1 = some (r, V1)) (hl : Cond.methodLink "java/lang/StringBuilder" index yJ5_charAt_5068e ∈ TB) (hR : 3 + 1 ≤ R.frames ∧ 8 + (5 + 11) + 40 * 3 ≤ R.locals) (hcs : cells ≤ R.cells ∧ slots ≤ R.slots) (hw : (rest.map fun v => v.category).sum ≤ 8) (hdg : decode b pc = .ok (.invokespecial index, 3)) (kk : ∀ (H1 : Heap) (locs1 : List Loc), In E ad V1 s H1 locs1 → W p l e R s m args below meth c H1 locs1 cells slots Q (F0 m (pc + 3) ls ((.int r) :: rest))) : W p l e R s m args below meth c H locs cells slots Q (F0 m pc ls (.int a1 :: .ref (ad t1) :: rest)) :=
  r_calU ht (As := [.int a1]) (rest := rest) hC hI hsz (m_J5_charAt_5068e l E ad V t1 a1 hS ht hA r _ hf) cv_J5_charAt_5068e hl rfl rfl hR hcs hw hdg kk

theorem dJ4_charAt_5068e_0 : decode cJ4_charAt_5068e 0 = .ok (.aload_n 0, 1) := by decide +kernel
theorem dJ4_charAt_5068e_1 : decode cJ4_charAt_5068e 1 = .ok (.iload_n 1, 1) := by decide +kernel
theorem dJ4_charAt_5068e_2 : decode cJ4_charAt_5068e 2 = .ok (.invokespecial 329, 3) := by decide +kernel
theorem dJ4_charAt_5068e_5 : decode cJ4_charAt_5068e 5 = .ok (.ireturn, 1) := by decide +kernel
def f_J4_charAt_5068e (V : Mem) (t1 : Nat) (a1 : Int32) : Option (Int32 × Mem) :=
  bd (f_J5_charAt_5068e V t1 a1) fun r2 V2 =>
  if ((r2 : Int32).toUInt32 % 65536).toInt32 = r2 then
    some (r2, V2)
  else none
theorem cv_J4_charAt_5068e : CalW "java/lang/StringBuilder" yJ4_charAt_5068e cJ4_charAt_5068e 2 (some .char) 1 := ⟨⟨⟨by decide +kernel, by decide +kernel⟩, tw_1_11, tw_7_1, by decide +kernel⟩, tw_6_239, tw_7_0⟩
set_option maxRecDepth 100000 in
set_option maxHeartbeats 4000000 in
theorem m_J4_charAt_5068e (l : Launch) (E : En) (ad : Nat → Nat) (V : Mem) (t1 : Nat) (a1 : Int32) (hS : SF E) (hFr : Fr E) (ht : TX t1) (r : Int32) (Vz : Mem) (hf : f_J4_charAt_5068e V t1 a1 = some (r, Vz)) : MR l E ad yJ4_charAt_5068e cJ4_charAt_5068e 2 (some .char) 4 [.ref (ad t1), .int a1] V (some (.int r)) Vz := by
  refine ent (E := E) (ad := ad) (V := V) "java/lang/StringBuilder" (by decide +kernel) rfl (Nat.le_of_ble_eq_true rfl) ?_
  intro p e s m below meth c ls hC hI hl
  have hx := hC.1
  have hb := hC.2.1
  have hl : lv_has ls 2 [(0, .ref (ad t1)), (1, .int a1)] := hl
  unfold f_J4_charAt_5068e at hf
  have hI0 := hI
  have hC0 := hC
  have hS0 := hS
  obtain ⟨sa, hI⟩ := in_fix hI
  have hS := sf_fix (sa := sa) hS
  have hC := cx_fix (sa := sa) hC
  have hx := hC.1
  have hb := hC.2.1
  refine lv_aload_n hx hb dJ4_charAt_5068e_0 rfl (lv_at hl 0 rfl) ?_
  refine lv_iload_n hx hb dJ4_charAt_5068e_1 rfl (lv_at hl 1 rfl) ?_
  obtain ⟨r2, V2, q2, hf⟩ := gbd hf
  refine k_J5_charAt_5068e (E := fixE E sa) hS ht fx_fix hC hI hl.1 q2 tw_7_2 ⟨Nat.le_of_ble_eq_true rfl, Nat.le_of_ble_eq_true rfl⟩ ⟨Nat.le_refl _, Nat.le_refl _⟩ (Nat.le_of_ble_eq_true rfl) dJ4_charAt_5068e_2 (fun H locs hI => ?_)
  have hI := in_unfix hFr hI
  have hC := hC0
  obtain ⟨h5, hf⟩ := gi hf
  exact r_cretX h5 hC hI hf dJ4_charAt_5068e_5
theorem k_J4_charAt_5068e {p : Program} {l : Launch} {e : Env} {R : Room} {cells slots : Nat} {s : State} {m : MethodId} {args : Array Value} {below : List Frame} {meth : Method} {c : Code} {H : Heap} {locs : List Loc} {Q : State → Prop} {E : En} {ad : Nat → Nat} {V : Mem} {ow : String} {b : ByteArray} {n : Nat} {ret : Option FieldType} {pc index : Nat} {ls : Array Slot} {rest : List Value} {t1 : Nat} {a1 : Int32} {r : Int32} {V1 : Mem} (hS : SF E) (hFr : Fr E) (ht : TX t1) (hC : Cx p s m args c meth E ow b n ret) (hI : In E ad V s H locs) (hsz : ls.size = n) (hf : f_J4_charAt_5068e V t1 a1 = some (r, V1)) (hl : Cond.methodLink ow index yJ4_charAt_5068e ∈ TB) (hR : 4 + 1 ≤ R.frames ∧ 8 + (2 + 11) + 40 * 4 ≤ R.locals) (hcs : cells ≤ R.cells ∧ slots ≤ R.slots) (hw : (rest.map fun v => v.category).sum ≤ 8) (hdg : decode b pc = .ok (.invokevirtual index, 3)) (kk : ∀ (H1 : Heap) (locs1 : List Loc), In E ad V1 s H1 locs1 → W p l e R s m args below meth c H1 locs1 cells slots Q (F0 m (pc + 3) ls ((.int r) :: rest))) : W p l e R s m args below meth c H locs cells slots Q (F0 m pc ls (.int a1 :: .ref (ad t1) :: rest)) :=
  r_calW (As := [.int a1]) (rest := rest) hC hI hsz (m_J4_charAt_5068e l E ad V t1 a1 hS hFr ht r _ hf) cv_J4_charAt_5068e hl (tx_ok ht) (fun sa => ce_tx ht _ _) rfl rfl rfl hR hcs hw hdg kk

theorem dJ5_ensureCapacityInternal_d00df_0 : decode cJ5_ensureCapacityInternal_d00df 0 = .ok (.aload_n 0, 1) := by decide +kernel
theorem dJ5_ensureCapacityInternal_d00df_1 : decode cJ5_ensureCapacityInternal_d00df 1 = .ok (.getfield 15, 3) := by decide +kernel
theorem dJ5_ensureCapacityInternal_d00df_4 : decode cJ5_ensureCapacityInternal_d00df 4 = .ok (.arraylength, 1) := by decide +kernel
theorem dJ5_ensureCapacityInternal_d00df_5 : decode cJ5_ensureCapacityInternal_d00df 5 = .ok (.aload_n 0, 1) := by decide +kernel
theorem dJ5_ensureCapacityInternal_d00df_6 : decode cJ5_ensureCapacityInternal_d00df 6 = .ok (.getfield 22, 3) := by decide +kernel
theorem dJ5_ensureCapacityInternal_d00df_9 : decode cJ5_ensureCapacityInternal_d00df 9 = .ok (.ishr, 1) := by decide +kernel
theorem dJ5_ensureCapacityInternal_d00df_10 : decode cJ5_ensureCapacityInternal_d00df 10 = .ok (.istore_n 2, 1) := by decide +kernel
theorem dJ5_ensureCapacityInternal_d00df_11 : decode cJ5_ensureCapacityInternal_d00df 11 = .ok (.iload_n 1, 1) := by decide +kernel
theorem dJ5_ensureCapacityInternal_d00df_12 : decode cJ5_ensureCapacityInternal_d00df 12 = .ok (.iload_n 2, 1) := by decide +kernel
theorem dJ5_ensureCapacityInternal_d00df_13 : decode cJ5_ensureCapacityInternal_d00df 13 = .ok (.isub, 1) := by decide +kernel
theorem dJ5_ensureCapacityInternal_d00df_14 : decode cJ5_ensureCapacityInternal_d00df 14 = .ok (.ifCond .le 24, 3) := by decide +kernel
theorem dJ5_ensureCapacityInternal_d00df_17 : decode cJ5_ensureCapacityInternal_d00df 17 = .ok (.aload_n 0, 1) := by decide +kernel
theorem dJ5_ensureCapacityInternal_d00df_18 : decode cJ5_ensureCapacityInternal_d00df 18 = .ok (.aload_n 0, 1) := by decide +kernel
theorem dJ5_ensureCapacityInternal_d00df_19 : decode cJ5_ensureCapacityInternal_d00df 19 = .ok (.getfield 15, 3) := by decide +kernel
theorem dJ5_ensureCapacityInternal_d00df_22 : decode cJ5_ensureCapacityInternal_d00df 22 = .ok (.aload_n 0, 1) := by decide +kernel
theorem dJ5_ensureCapacityInternal_d00df_23 : decode cJ5_ensureCapacityInternal_d00df 23 = .ok (.iload_n 1, 1) := by decide +kernel
theorem dJ5_ensureCapacityInternal_d00df_24 : decode cJ5_ensureCapacityInternal_d00df 24 = .ok (.invokevirtual 104, 3) := by decide +kernel
theorem dJ5_ensureCapacityInternal_d00df_27 : decode cJ5_ensureCapacityInternal_d00df 27 = .ok (.aload_n 0, 1) := by decide +kernel
theorem dJ5_ensureCapacityInternal_d00df_28 : decode cJ5_ensureCapacityInternal_d00df 28 = .ok (.getfield 22, 3) := by decide +kernel
theorem dJ5_ensureCapacityInternal_d00df_31 : decode cJ5_ensureCapacityInternal_d00df 31 = .ok (.ishl, 1) := by decide +kernel
theorem dJ5_ensureCapacityInternal_d00df_32 : decode cJ5_ensureCapacityInternal_d00df 32 = .ok (.invokestatic 108, 3) := by decide +kernel
theorem dJ5_ensureCapacityInternal_d00df_35 : decode cJ5_ensureCapacityInternal_d00df 35 = .ok (.putfield 15, 3) := by decide +kernel
theorem dJ5_ensureCapacityInternal_d00df_38 : decode cJ5_ensureCapacityInternal_d00df 38 = .ok (.return_, 1) := by decide +kernel
theorem dJ7_copyOf_9075b_0 : decode cJ7_copyOf_9075b 0 = .ok (.iload_n 1, 1) := by decide +kernel
theorem dJ7_copyOf_9075b_1 : decode cJ7_copyOf_9075b 1 = .ok (.aload_n 0, 1) := by decide +kernel
theorem dJ7_copyOf_9075b_2 : decode cJ7_copyOf_9075b 2 = .ok (.arraylength, 1) := by decide +kernel
theorem dJ7_copyOf_9075b_3 : decode cJ7_copyOf_9075b 3 = .ok (.if_icmp .ne 11, 3) := by decide +kernel
theorem dJ7_copyOf_9075b_6 : decode cJ7_copyOf_9075b 6 = .ok (.aload_n 0, 1) := by decide +kernel
theorem dJ7_copyOf_9075b_7 : decode cJ7_copyOf_9075b 7 = .ok (.invokevirtual 310, 3) := by decide +kernel
theorem dJ7_copyOf_9075b_10 : decode cJ7_copyOf_9075b 10 = .ok (.checkcast 311, 3) := by decide +kernel
theorem dJ7_copyOf_9075b_13 : decode cJ7_copyOf_9075b 13 = .ok (.areturn, 1) := by decide +kernel
theorem dJ7_copyOf_9075b_14 : decode cJ7_copyOf_9075b 14 = .ok (.iload_n 1, 1) := by decide +kernel
theorem dJ7_copyOf_9075b_15 : decode cJ7_copyOf_9075b 15 = .ok (.newarray .byte, 2) := by decide +kernel
theorem dJ7_copyOf_9075b_17 : decode cJ7_copyOf_9075b 17 = .ok (.astore_n 2, 1) := by decide +kernel
theorem dJ7_copyOf_9075b_18 : decode cJ7_copyOf_9075b 18 = .ok (.aload_n 0, 1) := by decide +kernel
theorem dJ7_copyOf_9075b_19 : decode cJ7_copyOf_9075b 19 = .ok (.iconst 0, 1) := by decide +kernel
theorem dJ7_copyOf_9075b_20 : decode cJ7_copyOf_9075b 20 = .ok (.aload_n 2, 1) := by decide +kernel
theorem dJ7_copyOf_9075b_21 : decode cJ7_copyOf_9075b 21 = .ok (.iconst 0, 1) := by decide +kernel
theorem dJ7_copyOf_9075b_22 : decode cJ7_copyOf_9075b 22 = .ok (.aload_n 0, 1) := by decide +kernel
theorem dJ7_copyOf_9075b_23 : decode cJ7_copyOf_9075b 23 = .ok (.arraylength, 1) := by decide +kernel
theorem dJ7_copyOf_9075b_24 : decode cJ7_copyOf_9075b 24 = .ok (.iload_n 1, 1) := by decide +kernel
theorem dJ7_copyOf_9075b_25 : decode cJ7_copyOf_9075b 25 = .ok (.invokestatic 304, 3) := by decide +kernel
theorem dJ7_copyOf_9075b_28 : decode cJ7_copyOf_9075b 28 = .ok (.invokestatic 150, 3) := by decide +kernel
theorem dJ7_copyOf_9075b_31 : decode cJ7_copyOf_9075b 31 = .ok (.aload_n 2, 1) := by decide +kernel
theorem dJ7_copyOf_9075b_32 : decode cJ7_copyOf_9075b 32 = .ok (.areturn, 1) := by decide +kernel
def growOk (V : Mem) (t : Nat) (q : Int32) : Bool := decide (0 ≤ q) && decide (q.toNatClampNeg ≤ 72) && decide (bln V t < q.toNatClampNeg) && (List.range (bln V t)).all fun j => fits .byte (.int (V (t + 1) (j + 1)))
def grow (V : Mem) (t : Nat) (q : Int32) : Mem := va_up V (t + 1) (fun j => if j = 0 then q else va_cpy (fun j => V (t + 1) (j + 1)) (fun _ => 0) 0 0 (bln V t) (j - 1))
theorem growOk_iff {V : Mem} {t : Nat} {q : Int32} (h : growOk V t q = true) : 0 ≤ q ∧ q.toNatClampNeg ≤ 72 ∧ bln V t < q.toNatClampNeg ∧ ∀ j, j < bln V t → fits .byte (.int (V (t + 1) (j + 1))) = true := by
  simp only [growOk, Bool.and_eq_true, decide_eq_true_eq, List.all_eq_true, List.mem_range] at h
  exact ⟨h.1.1.1, h.1.1.2, h.1.2, h.2⟩
abbrev gcp (V : Mem) (t : Nat) : Nat → Int32 := va_cpy (fun j => V (t + 1) (j + 1)) (fun _ => 0) 0 0 (bln V t)
abbrev nwE (E : En) (a : Nat) (q : Int32) (f : Nat → Int32) : Nat × va_E := (a, .inl (eC E 1, q.toNatClampNeg, .inl f))
abbrev txE (ad : Nat → Nat) (V : Mem) (t a : Nat) : Nat × va_E := (ad t, .inr (1, [.ref a, .int 0, .int (V t 0), .int (V t 1)]))
theorem cell_cg {E : En} {A B : Nat → Nat} {t k : Nat} {v : Nat → Int32} (ht : TX t) (hk : k < 266) (hkt : k ≠ t) (h : ∀ j, j ≠ t + 1 → A j = B j) : cell E A k v = cell E B k v := by
  have hx : t + 1 = 250 ∨ t + 1 = 252 := by rcases ht with rfl | rfl; exact .inl rfl; exact .inr rfl
  have hlo : ∀ j, j < 250 → A j = B j := fun j hj => h j (by omega)
  have h251 : k ≠ 251 → True := fun _ => trivial
  unfold cell
  split
  · rename_i h1
    have : ∀ r, r < 20 → stCell E A (k - k % 20) r v = stCell E B (k - k % 20) r v := by
      intro r hr
      have e : ∀ j, j < 20 → A (k - k % 20 + j) = B (k - k % 20 + j) := fun j hj => hlo _ (by omega)
      have e0 : A (k - k % 20) = B (k - k % 20) := hlo _ (by omega)
      have er : A (k - k % 20 + r + 1) = B (k - k % 20 + r + 1) := hlo _ (by omega)
      have er2 : A (k - k % 20 + (r + 1)) = B (k - k % 20 + (r + 1)) := hlo _ (by omega)
      unfold stCell
      simp (discharger := omega) only [e0, er, er2, e]
    exact this _ (Nat.mod_lt _ (by decide))
  · split
    · have e : ∀ j, j < 3 → A (k - (k - 224) % 3 + j) = B (k - (k - 224) % 3 + j) := fun j hj => hlo _ (by omega)
      unfold cmCell
      split <;> simp (discharger := omega) only [e]
    · rename_i h1 h2
      have g : ∀ j, j ≠ 250 → j ≠ 252 → A j = B j := fun j h1 h2 => h j (by omega)
      have g250 : k ≠ 249 → t = 249 ∨ A 250 = B 250 := fun _ => by
        rcases ht with e | e
        · exact .inl e
        · exact .inr (h _ (by omega))
      have e1 : ∀ x : Nat, A (20 * (x + 2)) = B (20 * (x + 2)) := fun x => g _ (by omega) (by omega)
      have e2 : ∀ x : Nat, A (224 + 3 * x) = B (224 + 3 * x) := fun x => g _ (by omega) (by omega)
      have a250 : k = 249 → A 250 = B 250 := fun hk => h _ (by rcases ht with e | e <;> omega)
      have a252 : k = 251 → A 252 = B 252 := fun hk => h _ (by rcases ht with e | e <;> omega)
      obtain ⟨r, rfl⟩ : ∃ r, k = 220 + r := ⟨k - 220, by omega⟩
      rw [Nat.add_sub_cancel_left]
      by_cases q1 : r = 29
      · subst q1; simp only [loCell, a250 rfl]
      · by_cases q2 : r = 31
        · subst q2; simp only [loCell, a252 rfl]
        · have hr : r < 46 := by omega
          clear h1 h2 hk hkt h hlo a250 a252 g250 h251 hx
          unfold loCell
          split <;> first | rfl | (simp (discharger := decide) only [g, e1, e2]; done) | omega
theorem pool_len {N : Nat} {ad : Nat → Nat} {g : Nat → va_E} : (pool N ad g).length = N := by simp [pool]
/-- where a text's bytes have moved -/
def mvd (sa : Nat → Nat) (t a : Nat) : Nat → Nat := fun k => if k = (if t = 249 then 0 else 1) then a else sa k
theorem adx_mvd {ad sa : Nat → Nat} {t a : Nat} (ht : TX t) : adx ad (mvd sa t a) (t + 1) = a ∧ ∀ j, j ≠ t + 1 → adx ad (mvd sa t a) j = adx ad sa j := by
  rcases ht with rfl | rfl
  · exact ⟨rfl, fun j hj => by unfold adx mvd; by_cases h : j = 250 <;> simp_all⟩
  · exact ⟨rfl, fun j hj => by unfold adx mvd; by_cases h : j = 252 <;> simp_all⟩
theorem grow_map {E : En} {ad sa : Nat → Nat} {V : Mem} {t a : Nat} {q : Int32} (ht : TX t) (k : Nat) (x : Nat × va_E) (hx : (world E ad (mvd sa t a) (grow V t q))[k]? = some x) :
    ((world E ad sa V ++ [nwE E a q (gcp V t)]).set t (txE ad V t a))[if k = t + 1 then 266 else k]? = some x := by
  have hlen : (world E ad sa V).length = 266 := pool_len
  have hk : k < 266 := by
    have := (List.getElem?_eq_some_iff.mp hx).1
    rwa [show (world E ad (mvd sa t a) (grow V t q)).length = 266 from pool_len] at this
  have hl := tx_lt ht
  rw [world_gt hk] at hx
  obtain ⟨m1, m2⟩ := adx_mvd (ad := ad) (sa := sa) (a := a) ht
  rw [← Option.some.inj hx]
  by_cases h : k = t + 1
  · subst h
    rw [if_pos rfl, List.getElem?_set_ne (by omega), List.getElem?_append_right (by omega), hlen]
    rw [m1, ce_tb ht]
    simp [grow, va_up]
  · rw [if_neg h]
    by_cases h2 : k = t
    · subst h2
      rw [List.getElem?_set_self (by simp [hlen]; omega), ce_tx ht, m1, m2 _ h, adx_ok (tx_ok ht)]
      have e : grow V k q k = V k := by unfold grow va_up; rw [if_neg (by omega)]
      rw [e]
    · rw [List.getElem?_set_ne (Ne.symm h2), List.getElem?_append_left (by omega), world_gt hk, m2 _ h, cell_cg ht hk h2 m2]
      have e : grow V t q k = V k := by unfold grow va_up; rw [if_neg h]
      rw [e]
theorem grow_hs {E : En} {ad sa : Nat → Nat} {V : Mem} {t a : Nat} {q : Int32} {H : Heap} {A : Nat → Prop} (ht : TX t)
    (hP : va_P (eD E) vwCl ((world E ad sa V ++ [nwE E a q (gcp V t)]).set t (txE ad V t a)) H)
    (hD : va_D A ((world E ad sa V ++ [nwE E a q (gcp V t)]).set t (txE ad V t a))) :
    va_P (eD E) vwCl (world E ad (mvd sa t a) (grow V t q)) H ∧ va_D A (world E ad (mvd sa t a) (grow V t q)) := by
  have hk : ∀ (k : Nat) (x : Nat × va_E), (world E ad (mvd sa t a) (grow V t q))[k]? = some x → k < 266 := fun k x hx => by
    have := (List.getElem?_eq_some_iff.mp hx).1
    rwa [show (world E ad (mvd sa t a) (grow V t q)).length = 266 from pool_len] at this
  refine ⟨fun k x hx => hP _ x (grow_map ht k x hx), fun i j x y hx hy hxy => ?_, fun k x hx => hD.2 _ x (grow_map ht k x hx)⟩
  have h := hD.1 _ _ x y (grow_map ht i x hx) (grow_map ht j y hy) hxy
  have h1 := hk i x hx
  have h2 := hk j y hy
  by_cases e1 : i = t + 1 <;> by_cases e2 : j = t + 1 <;> simp [e1, e2] at h <;> omega
/-- Arrays.copyOf of a text's bytes, into a longer array -/
def QCp (E : En) (ad sa : Nat → Nat) (V : Mem) (t : Nat) (q : Int32) : Array Value → State → Outcome → State → Prop := fun _ st oc u =>
  (∃ a : Nat, oc = .returned (some (.ref a)) ∧ va_P (eD E) vwCl (world E ad sa V ++ [nwE E a q (gcp V t)]) u.heap ∧ va_D (ours E) (world E ad sa V ++ [nwE E a q (gcp V t)])) ∧ va_F (ours E) st u
set_option maxRecDepth 100000 in
theorem m_copyOf (l : Launch) (E : En) (ad : Nat → Nat) (V : Mem) (t1 : Nat) (ht : TX t1) (q : Int32) {sa : Nat → Nat} (hA : Fx E sa) (hg : growOk V t1 q = true) : Met l yJ7_copyOf_9075b (.code yJ7_copyOf_9075b cJ7_copyOf_9075b 3 (some (FieldType.array FieldType.byte)) :: TB) (rmx 1 1 72) (va_Pc [.ref (adx ad sa (t1 + 1)), .int q] (Pre E ad V)) (QCp E ad sa V t1 q) 1 72 (ours E) := by
  refine entA (E := E) (ad := ad) (V := V) "java/util/Arrays" (by decide +kernel) rfl (Nat.le_of_ble_eq_true rfl) ?_
  intro p e s m below meth c ls hC hI hl
  have hx := hC.1
  have hb := hC.2.1
  have hl : lv_has ls 3 [(0, .ref (adx ad sa (t1 + 1))), (1, .int q)] := hl
  obtain ⟨g1, g2, g3, g4⟩ := growOk_iff hg
  have hq0 : ¬ q < 0 := fun h => by
    rw [Int32.le_iff_toInt_le] at g1; rw [Int32.lt_iff_toInt_lt] at h; omega
  have hqn : q ≠ nI (bln V t1) := fun h => by
    have h2 := congrArg Int32.toNatClampNeg h
    rw [nI_clamp (by omega)] at h2; omega
  have hqi : nI (q.toNatClampNeg) = q := by
    have e1 : (q.toInt.toNat : Int) = q.toInt := by
      rw [Int32.le_iff_toInt_le] at g1
      exact Int.toNat_of_nonneg g1
    apply Int32.toInt_inj.mp
    rw [nI_toInt (by omega)]
    exact e1
  have hqm : ¬ q < nI (bln V t1) := by
    rw [← hqi]; exact nI_nlt (by omega) (by omega)
  refine lv_iload_n hx hb dJ7_copyOf_9075b_0 rfl (lv_at hl 1 rfl) ?_
  refine lv_aload_n hx hb dJ7_copyOf_9075b_1 rfl (lv_at hl 0 rfl) ?_
  refine t_blen ht hA hC hI dJ7_copyOf_9075b_2 ?_
  refine lv_icmp_ne (tgt := 14) hx hb dJ7_copyOf_9075b_3 (by decide) (fun _ => ?_) (fun h => (hqn h).elim)
  refine lv_iload_n hx hb dJ7_copyOf_9075b_14 rfl (lv_at hl 1 rfl) ?_
  have hsz := hC.2.2.1
  obtain ⟨⟨z0, hP, hD, hZ⟩, hS⟩ := hI
  have hzz := hA z0 hZ
  subst hzz
  refine va_newa (atype := .byte) (ty := .byte) (a0 := (q.toNatClampNeg, .inl (fun _ => 0))) (N' := q.toNatClampNeg) hx hb (hC.2.2.2.2.1 _ tw_1_212) rfl hC.2.2.2.2.2.1 hP hD hS (fun z hz => Nat.le_trans hC.2.2.2.2.2.2.1 hz) (fun _ => rfl) hq0 rfl (by show q.toNatClampNeg * 1 ≤ _; omega) (Nat.le_of_ble_eq_true rfl) (by show 0 + q.toNatClampNeg ≤ 72; omega) dJ7_copyOf_9075b_15 ?_
  intro a cA H1 hK hP hD hS
  have hcA : cA = eC E 1 := by
    have h1 := (hK.2 6 (cA, .byte) rfl).2
    have h2 := (hK.2 1 (eC E 1, .byte) rfl).2
    exact Option.some.inj (h1.symm.trans h2)
  subst hcA
  refine x_wid (c2 := 1) (s2 := 72) (Nat.le_of_ble_eq_true rfl) (by show 0 + q.toNatClampNeg ≤ 72; omega) ?_
  refine lv_astore_n (lv' := [(2, .ref a), (0, .ref (adx ad z0 (t1 + 1))), (1, .int q)]) hx hb dJ7_copyOf_9075b_17 rfl hl (Nat.lt_of_lt_of_eq (by decide) rfl) rfl (fun ls hl => ?_)
  refine lv_aload_n hx hb dJ7_copyOf_9075b_18 rfl (lv_at hl 1 rfl) ?_
  refine lv_iconst (v := 0) hx hb dJ7_copyOf_9075b_19 rfl ?_
  refine lv_aload_n hx hb dJ7_copyOf_9075b_20 rfl (lv_at hl 0 rfl) ?_
  refine lv_iconst (v := 0) hx hb dJ7_copyOf_9075b_21 rfl ?_
  refine lv_aload_n hx hb dJ7_copyOf_9075b_22 rfl (lv_at hl 1 rfl) ?_
  have hlen : (world E ad z0 V).length = 266 := pool_len
  have hle := tx_lt ht
  have hold : (world E ad z0 V ++ [nwE E a q (fun _ => 0)])[t1 + 1]? = some (adx ad z0 (t1 + 1), .inl (eC E 1, bln V t1, .inl (fun j => V (t1 + 1) (j + 1)))) := by
    rw [List.getElem?_append_left (by omega)]; exact world_gb ht
  have hnew : (world E ad z0 V ++ [nwE E a q (fun _ => 0)])[266]? = some (nwE E a q (fun _ => 0)) := by
    rw [List.getElem?_append_right (by omega), hlen]; rfl
  refine va_alen (x := (bln V t1, .inl (fun j => V (t1 + 1) (j + 1)))) hx hb hC.2.2.2.2.2.1 hP (t1 + 1) 1 hold rfl rfl dJ7_copyOf_9075b_23 ?_
  show W _ _ _ _ _ _ _ _ _ _ _ _ _ _ _ (F0 _ _ _ (.int (nI (bln V t1)) :: _))
  refine lv_iload_n hx hb dJ7_copyOf_9075b_24 rfl (lv_at hl 2 rfl) ?_
  refine r_mmin hC hl.1 tw_5_207 ⟨Nat.le_of_ble_eq_true rfl, Nat.le_of_ble_eq_true rfl⟩ ⟨Nat.le_of_ble_eq_true rfl, Nat.le_of_ble_eq_true rfl⟩ dJ7_copyOf_9075b_25 ?_
  have e0 : (0 : Int32).toNatClampNeg = 0 := rfl
  have e1 : (nI (bln V t1)).toNatClampNeg = bln V t1 := nI_clamp (by omega)
  rw [if_neg hqm]
  refine va_copyi (ty := .byte) hx hb (hC.2.2.1.trans hl.1.symm) hC.2.2.2.1 (hC.2.2.2.2.1 _ tw_5_208) (hC.2.2.2.2.1 _ tw_2_34) (hC.2.2.2.2.1 _ tw_2_33) (hC.2.2.2.2.1 _ tw_1_24) hC.2.2.2.2.2.1 hP hD hS (t1 + 1) 266 1 1 hold hnew rfl rfl rfl (by decide) (by decide) (nI_pos (by omega)) (by rw [e0, e1]; omega) (by rw [e0, e1]; omega) (fun i hi => by rw [e0, Nat.zero_add]; exact g4 i (by rw [e1] at hi; exact hi)) (Nat.le_of_ble_eq_true rfl) (Nat.le_of_ble_eq_true rfl) dJ7_copyOf_9075b_28 ?_
  intro H2 locs2 hP hD hS
  refine lv_aload_n hx hb dJ7_copyOf_9075b_31 rfl (lv_at hl 0 rfl) ?_
  rw [e0, e1] at hP hD
  have hset : ∀ e : Nat × va_E, (world E ad z0 V ++ [nwE E a q (fun _ => 0)]).set 266 e = world E ad z0 V ++ [e] := fun e => by
    rw [List.set_append_right _ _ (by omega), hlen]; rfl
  rw [hset] at hP hD
  exact W.aret hC.1 hC.2.1 hC.2.2.2.2.2.2.2.2.2.1 (.inr ⟨_, rfl⟩) (.inr ⟨_, rfl⟩) (fun t ht _ => ⟨⟨a, rfl, by rw [ht]; exact hP, hD⟩, hS.F ht⟩) hS.2.2 dJ7_copyOf_9075b_32 hC.2.2.2.2.2.2.2.2.2.2.1
theorem cv_copyOf : CalS yJ7_copyOf_9075b cJ7_copyOf_9075b 3 (some (FieldType.array FieldType.byte)) 2 := ⟨⟨⟨by decide +kernel, by decide +kernel⟩, tw_1_29, tw_5_199, by decide +kernel⟩, tw_5_198⟩
def f_J5_ensureCapacityInternal_d00df (V : Mem) (t1 : Nat) (a1 : Int32) : Option Mem :=
  if (a1 - (nI (bln V t1) >>> ((0 : Int32) &&& 31))) ≤ 0 then some V
  else bd (f_J5_newCapacity_0f7a4 V t1 a1) fun r V1 => if growOk V1 t1 (r <<< ((0 : Int32) &&& 31)) = true then some (grow V1 t1 (r <<< ((0 : Int32) &&& 31))) else none
theorem cv_J5_ensureCapacityInternal_d00df : CalW "java/lang/StringBuilder" yJ5_ensureCapacityInternal_d00df cJ5_ensureCapacityInternal_d00df 3 none 1 := ⟨⟨⟨by decide +kernel, by decide +kernel⟩, tw_1_10, tw_5_183, by decide +kernel⟩, tw_5_182, tq_0⟩
set_option maxRecDepth 100000 in
theorem m_J5_ensureCapacityInternal_d00df (l : Launch) (E : En) (ad : Nat → Nat) (V : Mem) (t1 : Nat) (a1 : Int32) (hS : SF E) (hFr : Fr E) (ht : TX t1) (Vz : Mem) (hf : f_J5_ensureCapacityInternal_d00df V t1 a1 = some Vz) : MA l E ad yJ5_ensureCapacityInternal_d00df cJ5_ensureCapacityInternal_d00df 3 none 4 1 72 [.ref (ad t1), .int a1] V none Vz := by
  refine entA (E := E) (ad := ad) (V := V) "java/lang/AbstractStringBuilder" (by decide +kernel) rfl (Nat.le_of_ble_eq_true rfl) ?_
  intro p e s m below meth c ls hC hI hl
  have hC0 := hC
  obtain ⟨sa, hI⟩ := in_fix hI
  have hS := sf_fix (sa := sa) hS
  have hC := cx_fix (sa := sa) hC
  have hx := hC.1
  have hb := hC.2.1
  have hl : lv_has ls 3 [(0, .ref (ad t1)), (1, .int a1)] := hl
  unfold f_J5_ensureCapacityInternal_d00df at hf
  refine lv_aload_n hx hb dJ5_ensureCapacityInternal_d00df_0 rfl (lv_at hl 0 rfl) ?_
  refine t_value ht fx_fix hC hI tw_1_198 dJ5_ensureCapacityInternal_d00df_1 ?_
  refine t_blen ht fx_fix hC hI dJ5_ensureCapacityInternal_d00df_4 ?_
  refine lv_aload_n hx hb dJ5_ensureCapacityInternal_d00df_5 rfl (lv_at hl 0 rfl) ?_
  refine t_coder ht hC hI tw_1_199 dJ5_ensureCapacityInternal_d00df_6 ?_
  refine lv_ishr hx hb dJ5_ensureCapacityInternal_d00df_9 ?_
  refine lv_istore_n (lv' := [(2, .int (nI (bln V t1) >>> ((0 : Int32) &&& 31))), (0, .ref (ad t1)), (1, .int a1)]) hx hb dJ5_ensureCapacityInternal_d00df_10 rfl hl (Nat.lt_of_lt_of_eq (by decide) rfl) rfl (fun ls hl => ?_)
  refine lv_iload_n hx hb dJ5_ensureCapacityInternal_d00df_11 rfl (lv_at hl 2 rfl) ?_
  refine lv_iload_n hx hb dJ5_ensureCapacityInternal_d00df_12 rfl (lv_at hl 0 rfl) ?_
  refine lv_isub hx hb dJ5_ensureCapacityInternal_d00df_13 ?_
  refine lv_if_le (tgt := 38) hx hb dJ5_ensureCapacityInternal_d00df_14 (by decide) (fun h0 => ?_) (fun h0 => ?_)
  · have hf := (if_pos h0).symm.trans hf
    have hI := in_unfix hFr hI
    exact x_wid (c2 := 1) (s2 := 72) (Nat.le_of_ble_eq_true rfl) (Nat.le_of_ble_eq_true rfl) (r_vret2 hC0 hI hf dJ5_ensureCapacityInternal_d00df_38)
  · have hf := (if_neg h0).symm.trans hf
    refine lv_aload_n hx hb dJ5_ensureCapacityInternal_d00df_17 rfl (lv_at hl 1 rfl) ?_
    refine lv_aload_n hx hb dJ5_ensureCapacityInternal_d00df_18 rfl (lv_at hl 1 rfl) ?_
    refine t_value ht fx_fix hC hI tw_1_198 dJ5_ensureCapacityInternal_d00df_19 ?_
    refine lv_aload_n hx hb dJ5_ensureCapacityInternal_d00df_22 rfl (lv_at hl 1 rfl) ?_
    refine lv_iload_n hx hb dJ5_ensureCapacityInternal_d00df_23 rfl (lv_at hl 2 rfl) ?_
    obtain ⟨r, V1, q1, hf⟩ := gbd hf
    refine k_J5_newCapacity_0f7a4 ht fx_fix hC hI hl.1 q1 tw_5_184 ⟨Nat.le_of_ble_eq_true rfl, Nat.le_of_ble_eq_true rfl⟩ ⟨Nat.le_of_ble_eq_true rfl, Nat.le_of_ble_eq_true rfl⟩ (Nat.le_of_ble_eq_true rfl) dJ5_ensureCapacityInternal_d00df_24 (fun H locs hI => ?_)
    refine lv_aload_n hx hb dJ5_ensureCapacityInternal_d00df_27 rfl (lv_at hl 1 rfl) ?_
    refine t_coder ht hC hI tw_1_199 dJ5_ensureCapacityInternal_d00df_28 ?_
    refine lv_ishl hx hb dJ5_ensureCapacityInternal_d00df_31 ?_
    obtain ⟨hg, hf⟩ := gi hf
    cases hf
    have hr : va_Run p l e (rmx 4 1 72) s m _ below meth c H locs 0 0 1 72 (F0 m 32 ls [.int (r <<< ((0 : Int32) &&& 31)), .ref (adx ad sa (t1 + 1)), .ref (ad t1)]) [.ref (ad t1)] (QCp (fixE E sa) ad sa V1 t1 (r <<< ((0 : Int32) &&& 31)) (#[.ref (adx ad sa (t1 + 1)), .int (r <<< ((0 : Int32) &&& 31))] : Array Value)) (ours (fixE E sa)) :=
      va_runS (Ts := TB) (As := [.ref (adx ad sa (t1 + 1)), .int (r <<< ((0 : Int32) &&& 31))]) (rest := [.ref (ad t1)])
      ⟨hC.1, hC.2.1, hC.2.2.1, hC.2.2.2.1, hC.2.2.2.2.1⟩ (m_copyOf l (fixE E sa) ad V1 t1 ht (r <<< ((0 : Int32) &&& 31)) fx_fix hg) ⟨callB_tb (R := rmx 4 1 72) (na := 2) hC cv_copyOf.1 tw_5_197 rfl rfl ⟨Nat.le_of_ble_eq_true rfl, Nat.le_of_ble_eq_true rfl⟩, hC.2.2.2.2.1 _ cv_copyOf.2⟩ ⟨pre_blind, fun U hU hW => ⟨rfl, In.pre hC hI U hU hW⟩⟩ rfl rfl hl.1 rfl (lv_room (rest := _) (ls := ls) (pc := 32) (m := m) (Nat.le_of_ble_eq_true rfl)) dJ5_ensureCapacityInternal_d00df_32 ⟨Nat.le_of_ble_eq_true rfl, Nat.le_of_ble_eq_true rfl⟩
    intro T hT X
    obtain ⟨w, st₀, u, T', L, h0, X', hL, e1, e2, ⟨⟨a, hv, hP, hD⟩, hF⟩, st⟩ := hr T hT X
    cases hv
    have hS2 := in_afterS hI h0 hF e1 hL
    have hP : va_P (eD E) vwCl (world E ad sa V1 ++ [nwE E a (r <<< ((0 : Int32) &&& 31)) (gcp V1 t1)]) T'.heap := by
      rw [e1, ← world_fix (sa := sa)]; exact hP
    have hD : va_D (ours E) (world E ad sa V1 ++ [nwE E a (r <<< ((0 : Int32) &&& 31)) (gcp V1 t1)]) := by
      rw [← world_fix (sa := sa)]; exact hD
    have he : (world E ad sa V1 ++ [nwE E a (r <<< ((0 : Int32) &&& 31)) (gcp V1 t1)])[t1]? = some (ad t1, .inr (1, [.ref (adx ad sa (t1 + 1)), .int 0, .int (V1 t1 0), .int (V1 t1 1)])) := by
      rw [List.getElem?_append_left (by have h1 := tx_lt ht; have h2 : (world E ad sa V1).length = 266 := pool_len; omega)]
      exact (world_get (tx_ok ht)).trans (by rw [ce_tx ht])
    have hW : W p l e (rmx 4 1 72) s m [.ref (ad t1), .int a1].toArray below meth c T'.heap (locs ++ L) (0 + 1) (0 + 72) (MQ below (QR E ad none (grow V1 t1 (r <<< ((0 : Int32) &&& 31)))) [.ref (ad t1), .int a1].toArray s 1 72 (ours E)) (F0 m (32 + 3) ls (.ref a :: .ref (ad t1) :: [])) := by
      refine va_put (T := TJ4) (fs := [.ref (adx ad sa (t1 + 1)), .int 0, .int (V1 t1 0), .int (V1 t1 1)]) hC0.1 hC0.2.1 hC0.2.2.2.2.1 in_J4 tyJ4 tyJ4_ok nmJ4 hC0.2.2.2.1 hC0.2.2.2.2.2.1 hP hD hS2 t1 he rfl 0 (by decide) (hC0.2.2.2.2.1 _ tw_1_198) (fun _ h => h) rfl (ty := .array .byte) rfl rfl rfl (by show 0 < 4; decide) dJ5_ensureCapacityInternal_d00df_35 (fun H1 locs1 hP hD hS => ?_)
      obtain ⟨hP, hD⟩ := grow_hs (q := r <<< ((0 : Int32) &&& 31)) ht hP hD
      exact r_vret2 hC0 ⟨⟨mvd sa t1 a, hP, hD, hFr _⟩, hS⟩ rfl dJ5_ensureCapacityInternal_d00df_38
    obtain ⟨t2, a1', b1⟩ := hW T' rfl X'
    exact ⟨t2, st t2 a1', b1⟩
theorem ka_J5_ensureCapacityInternal_d00df {p : Program} {l : Launch} {e : Env} {R : Room} {cells slots : Nat} {s : State} {m : MethodId} {args : Array Value} {below : List Frame} {meth : Method} {c : Code} {H : Heap} {locs : List Loc} {Q : State → Prop} {E : En} {ad : Nat → Nat} {V : Mem} {ow : String} {b : ByteArray} {n : Nat} {ret : Option FieldType} {pc index : Nat} {ls : Array Slot} {rest : List Value} {t1 : Nat} {a1 : Int32} {V1 : Mem} (hS : SF E) (hFr : Fr E) (ht : TX t1) (hC : Cx p s m args c meth E ow b n ret) (hI : In E ad V s H locs) (hsz : ls.size = n) (hf : f_J5_ensureCapacityInternal_d00df V t1 a1 = some V1) (hl : Cond.methodLink ow index yJ5_ensureCapacityInternal_d00df ∈ TB) (hR : 4 + 1 ≤ R.frames ∧ 8 + (3 + 11) + 40 * 4 ≤ R.locals) (hcs : cells + 1 ≤ R.cells ∧ slots + 72 ≤ R.slots) (hw : (rest.map fun v => v.category).sum ≤ 8) (hdg : decode b pc = .ok (.invokevirtual index, 3)) (kk : ∀ (H1 : Heap) (locs1 : List Loc), In E ad V1 s H1 locs1 → W p l e R s m args below meth c H1 locs1 (cells + 1) (slots + 72) Q (F0 m (pc + 3) ls rest)) : W p l e R s m args below meth c H locs cells slots Q (F0 m pc ls (.int a1 :: .ref (ad t1) :: rest)) :=
  after_callA hI (runW_tb (As := [.int a1]) (rest := rest) hC hI hsz (m_J5_ensureCapacityInternal_d00df l E ad V t1 a1 hS hFr ht V1 hf) cv_J5_ensureCapacityInternal_d00df hl (tx_ok ht) (fun sa => ce_tx ht _ _) rfl rfl rfl hR hcs hw hdg) kk

theorem dJ5_append_3fe6f_0 : decode cJ5_append_3fe6f 0 = .ok (.aload_n 0, 1) := by decide +kernel
theorem dJ5_append_3fe6f_1 : decode cJ5_append_3fe6f 1 = .ok (.aload_n 0, 1) := by decide +kernel
theorem dJ5_append_3fe6f_2 : decode cJ5_append_3fe6f 2 = .ok (.getfield 79, 3) := by decide +kernel
theorem dJ5_append_3fe6f_5 : decode cJ5_append_3fe6f 5 = .ok (.iconst 1, 1) := by decide +kernel
theorem dJ5_append_3fe6f_6 : decode cJ5_append_3fe6f 6 = .ok (.iadd, 1) := by decide +kernel
theorem dJ5_append_3fe6f_7 : decode cJ5_append_3fe6f 7 = .ok (.invokevirtual 100, 3) := by decide +kernel
theorem dJ5_append_3fe6f_10 : decode cJ5_append_3fe6f 10 = .ok (.aload_n 0, 1) := by decide +kernel
theorem dJ5_append_3fe6f_11 : decode cJ5_append_3fe6f 11 = .ok (.invokevirtual 83, 3) := by decide +kernel
theorem dJ5_append_3fe6f_14 : decode cJ5_append_3fe6f 14 = .ok (.ifCond .eq 31, 3) := by decide +kernel
theorem dJ5_append_3fe6f_17 : decode cJ5_append_3fe6f 17 = .ok (.iload_n 1, 1) := by decide +kernel
theorem dJ5_append_3fe6f_18 : decode cJ5_append_3fe6f 18 = .ok (.invokestatic 191, 3) := by decide +kernel
theorem dJ5_append_3fe6f_21 : decode cJ5_append_3fe6f 21 = .ok (.ifCond .eq 24, 3) := by decide +kernel
theorem dJ5_append_3fe6f_24 : decode cJ5_append_3fe6f 24 = .ok (.aload_n 0, 1) := by decide +kernel
theorem dJ5_append_3fe6f_25 : decode cJ5_append_3fe6f 25 = .ok (.getfield 15, 3) := by decide +kernel
theorem dJ5_append_3fe6f_28 : decode cJ5_append_3fe6f 28 = .ok (.aload_n 0, 1) := by decide +kernel
theorem dJ5_append_3fe6f_29 : decode cJ5_append_3fe6f 29 = .ok (.dup, 1) := by decide +kernel
theorem dJ5_append_3fe6f_30 : decode cJ5_append_3fe6f 30 = .ok (.getfield 79, 3) := by decide +kernel
theorem dJ5_append_3fe6f_33 : decode cJ5_append_3fe6f 33 = .ok (.dup_x1, 1) := by decide +kernel
theorem dJ5_append_3fe6f_34 : decode cJ5_append_3fe6f 34 = .ok (.iconst 1, 1) := by decide +kernel
theorem dJ5_append_3fe6f_35 : decode cJ5_append_3fe6f 35 = .ok (.iadd, 1) := by decide +kernel
theorem dJ5_append_3fe6f_36 : decode cJ5_append_3fe6f 36 = .ok (.putfield 79, 3) := by decide +kernel
theorem dJ5_append_3fe6f_39 : decode cJ5_append_3fe6f 39 = .ok (.iload_n 1, 1) := by decide +kernel
theorem dJ5_append_3fe6f_40 : decode cJ5_append_3fe6f 40 = .ok (.i2b, 1) := by decide +kernel
theorem dJ5_append_3fe6f_41 : decode cJ5_append_3fe6f 41 = .ok (.bastore, 1) := by decide +kernel
theorem dJ5_append_3fe6f_42 : decode cJ5_append_3fe6f 42 = .ok (.goto 33, 3) := by decide +kernel
theorem dJ5_append_3fe6f_45 : decode cJ5_append_3fe6f 45 = .ok (.aload_n 0, 1) := by decide +kernel
theorem dJ5_append_3fe6f_46 : decode cJ5_append_3fe6f 46 = .ok (.invokevirtual 83, 3) := by decide +kernel
theorem dJ5_append_3fe6f_49 : decode cJ5_append_3fe6f 49 = .ok (.ifCond .eq 7, 3) := by decide +kernel
theorem dJ5_append_3fe6f_52 : decode cJ5_append_3fe6f 52 = .ok (.aload_n 0, 1) := by decide +kernel
theorem dJ5_append_3fe6f_53 : decode cJ5_append_3fe6f 53 = .ok (.invokevirtual 195, 3) := by decide +kernel
theorem dJ5_append_3fe6f_56 : decode cJ5_append_3fe6f 56 = .ok (.aload_n 0, 1) := by decide +kernel
theorem dJ5_append_3fe6f_57 : decode cJ5_append_3fe6f 57 = .ok (.getfield 15, 3) := by decide +kernel
theorem dJ5_append_3fe6f_60 : decode cJ5_append_3fe6f 60 = .ok (.aload_n 0, 1) := by decide +kernel
theorem dJ5_append_3fe6f_61 : decode cJ5_append_3fe6f 61 = .ok (.dup, 1) := by decide +kernel
theorem dJ5_append_3fe6f_62 : decode cJ5_append_3fe6f 62 = .ok (.getfield 79, 3) := by decide +kernel
theorem dJ5_append_3fe6f_65 : decode cJ5_append_3fe6f 65 = .ok (.dup_x1, 1) := by decide +kernel
theorem dJ5_append_3fe6f_66 : decode cJ5_append_3fe6f 66 = .ok (.iconst 1, 1) := by decide +kernel
theorem dJ5_append_3fe6f_67 : decode cJ5_append_3fe6f 67 = .ok (.iadd, 1) := by decide +kernel
theorem dJ5_append_3fe6f_68 : decode cJ5_append_3fe6f 68 = .ok (.putfield 79, 3) := by decide +kernel
theorem dJ5_append_3fe6f_71 : decode cJ5_append_3fe6f 71 = .ok (.iload_n 1, 1) := by decide +kernel
theorem dJ5_append_3fe6f_72 : decode cJ5_append_3fe6f 72 = .ok (.invokestatic 197, 3) := by decide +kernel
theorem dJ5_append_3fe6f_75 : decode cJ5_append_3fe6f 75 = .ok (.aload_n 0, 1) := by decide +kernel
theorem dJ5_append_3fe6f_76 : decode cJ5_append_3fe6f 76 = .ok (.areturn, 1) := by decide +kernel
def f_J5_append_3fe6f (V : Mem) (t1 : Nat) (a1 : Int32) : Option Mem :=
  bv (f_J5_ensureCapacityInternal_d00df V t1 ((V t1 1) + 1)) fun V7 =>
  bd (f_J5_isLatin1_aae02 V7 t1) fun r11 V11 =>
  if r11 = 0 then
    none
  else
    bd (f_J1_canEncode_fc78d V11 a1) fun r18 V18 =>
    if r18 = 0 then
      none
    else
      lt (stv V18 t1 1 ((V18 t1 1) + 1)) fun V36 =>
      if ib (V18 t1 1) (bln V36 t1) = true then
        lt (stv V36 (t1 + 1) ((V18 t1 1).toNatClampNeg + 1) (vp_nar .byte ((a1 : Int32).toInt8.toInt32))) fun V41 =>
        some V41
      else none
theorem cv_J5_append_3fe6f : CalU yJ5_append_3fe6f cJ5_append_3fe6f 2 (some (.object "java/lang/AbstractStringBuilder")) 1 := ⟨⟨by decide +kernel, by decide +kernel⟩, tw_10_18, tw_1_211, tw_6_188, tw_1_10, tw_6_189⟩
set_option maxRecDepth 100000 in
set_option maxHeartbeats 4000000 in
theorem m_J5_append_3fe6f (l : Launch) (E : En) (ad : Nat → Nat) (V : Mem) (t1 : Nat) (a1 : Int32) (hS : SF E) (hFr : Fr E) (ht : TX t1) (Vz : Mem) (hf : f_J5_append_3fe6f V t1 a1 = some Vz) : MA l E ad yJ5_append_3fe6f cJ5_append_3fe6f 2 (some (.object "java/lang/AbstractStringBuilder")) 5 1 72 [.ref (ad t1), .int a1] V (some (.ref (ad t1))) Vz := by
  refine entA (E := E) (ad := ad) (V := V) "java/lang/AbstractStringBuilder" (by decide +kernel) rfl (Nat.le_of_ble_eq_true rfl) ?_
  intro p e s m below meth c ls hC hI hl
  have hx := hC.1
  have hb := hC.2.1
  have hC0 := hC
  have hl : lv_has ls 2 [(0, .ref (ad t1)), (1, .int a1)] := hl
  unfold f_J5_append_3fe6f at hf
  refine lv_aload_n hx hb dJ5_append_3fe6f_0 rfl (lv_at hl 0 rfl) ?_
  refine lv_aload_n hx hb dJ5_append_3fe6f_1 rfl (lv_at hl 0 rfl) ?_
  refine t_count ht hC hI tw_1_202 dJ5_append_3fe6f_2 ?_
  refine lv_iconst (v := 1) hx hb dJ5_append_3fe6f_5 rfl ?_
  refine lv_iadd hx hb dJ5_append_3fe6f_6 ?_
  obtain ⟨V7, q7, hf⟩ := gbv hf
  refine ka_J5_ensureCapacityInternal_d00df hS hFr ht hC hI hl.1 q7 tw_5_180 ⟨Nat.le_of_ble_eq_true rfl, Nat.le_of_ble_eq_true rfl⟩ ⟨Nat.le_of_ble_eq_true rfl, Nat.le_of_ble_eq_true rfl⟩ (Nat.le_of_ble_eq_true rfl) dJ5_append_3fe6f_7 (fun H locs hI => ?_)
  obtain ⟨sa, hI⟩ := in_fix hI
  have hS := sf_fix (sa := sa) hS
  have hC := cx_fix (sa := sa) hC
  have hx := hC.1
  have hb := hC.2.1
  refine lv_aload_n hx hb dJ5_append_3fe6f_10 rfl (lv_at hl 0 rfl) ?_
  obtain ⟨r11, V11, q11, hf⟩ := gbd hf
  refine k_J5_isLatin1_aae02 (E := fixE E sa) hS ht hC hI hl.1 q11 tw_5_209 ⟨Nat.le_of_ble_eq_true rfl, Nat.le_of_ble_eq_true rfl⟩ ⟨Nat.le_of_ble_eq_true rfl, Nat.le_of_ble_eq_true rfl⟩ (Nat.le_of_ble_eq_true rfl) dJ5_append_3fe6f_11 (fun H locs hI => ?_)
  refine lv_if_eq (tgt := 45) hx hb dJ5_append_3fe6f_14 (by decide) (fun c14 => ?_) (fun c14 => ?_)
  · have hf := gt hf c14
    cases hf
  · have hf := gf hf c14
    refine lv_iload_n hx hb dJ5_append_3fe6f_17 rfl (lv_at hl 1 rfl) ?_
    obtain ⟨r18, V18, q18, hf⟩ := gbd hf
    refine k_J1_canEncode_fc78d (E := fixE E sa) hC hI hl.1 q18 tw_6_190 ⟨Nat.le_of_ble_eq_true rfl, Nat.le_of_ble_eq_true rfl⟩ ⟨Nat.le_of_ble_eq_true rfl, Nat.le_of_ble_eq_true rfl⟩ (Nat.le_of_ble_eq_true rfl) dJ5_append_3fe6f_18 (fun H locs hI => ?_)
    refine lv_if_eq (tgt := 45) hx hb dJ5_append_3fe6f_21 (by decide) (fun c21 => ?_) (fun c21 => ?_)
    · have hf := gt hf c21
      cases hf
    · have hf := gf hf c21
      refine lv_aload_n hx hb dJ5_append_3fe6f_24 rfl (lv_at hl 0 rfl) ?_
      refine t_value ht fx_fix hC hI tw_1_198 dJ5_append_3fe6f_25 ?_
      refine lv_aload_n hx hb dJ5_append_3fe6f_28 rfl (lv_at hl 0 rfl) ?_
      refine lv_dup hx hb dJ5_append_3fe6f_29 rfl ?_
      refine t_count ht hC hI tw_1_202 dJ5_append_3fe6f_30 ?_
      refine lv_dup_x1 hx hb dJ5_append_3fe6f_33 rfl rfl ?_
      refine lv_iconst (v := 1) hx hb dJ5_append_3fe6f_34 rfl ?_
      refine lv_iadd hx hb dJ5_append_3fe6f_35 ?_
      obtain ⟨V36, e36, hf⟩ := gl hf
      refine t_pcount ht hC hI e36 tw_1_202 dJ5_append_3fe6f_36 (fun H locs hI => ?_)
      refine lv_iload_n hx hb dJ5_append_3fe6f_39 rfl (lv_at hl 1 rfl) ?_
      refine lv_i2b hx hb dJ5_append_3fe6f_40 rfl ?_
      obtain ⟨h41, hf⟩ := gi hf
      obtain ⟨V41, e41, hf⟩ := gl hf
      refine t_bst ht fx_fix hC hI (ib_in h41) e41 dJ5_append_3fe6f_41 (fun H locs hI => ?_)
      refine lv_goto (tgt := 75) hx hb dJ5_append_3fe6f_42 (by decide) ?_
      refine lv_aload_n hx hb dJ5_append_3fe6f_75 rfl (lv_at hl 0 rfl) ?_
      have hI := in_unfix hFr hI
      refine x_wid (c2 := 1) (s2 := 72) (Nat.le_of_ble_eq_true rfl) (Nat.le_of_ble_eq_true rfl) ?_
      exact t_aret hC0 hI hf dJ5_append_3fe6f_76
theorem ka_J5_append_3fe6f {p : Program} {l : Launch} {e : Env} {R : Room} {cells slots : Nat} {s : State} {m : MethodId} {args : Array Value} {below : List Frame} {meth : Method} {c : Code} {H : Heap} {locs : List Loc} {Q : State → Prop} {E : En} {ad : Nat → Nat} {V : Mem} {b : ByteArray} {n : Nat} {ret : Option FieldType} {pc index : Nat} {ls : Array Slot} {rest : List Value} {t1 : Nat} {a1 : Int32} {V1 : Mem} (hS : SF E) (hFr : Fr E) (ht : TX t1) (hC : Cx p s m args c meth E "java/lang/StringBuilder" b n ret) (hI : In E ad V s H locs) (hsz : ls.size = n) (hf : f_J5_append_3fe6f V t1 a1 = some V1) (hl : Cond.methodLink "java/lang/StringBuilder" index yJ5_append_3fe6f ∈ TB) (hR : 5 + 1 ≤ R.frames ∧ 8 + (2 + 11) + 40 * 5 ≤ R.locals) (hcs : cells + 1 ≤ R.cells ∧ slots + 72 ≤ R.slots) (hw : (rest.map fun v => v.category).sum ≤ 8) (hdg : decode b pc = .ok (.invokespecial index, 3)) (kk : ∀ (H1 : Heap) (locs1 : List Loc), In E ad V1 s H1 locs1 → W p l e R s m args below meth c H1 locs1 (cells + 1) (slots + 72) Q (F0 m (pc + 3) ls ((.ref (ad t1)) :: rest))) : W p l e R s m args below meth c H locs cells slots Q (F0 m pc ls (.int a1 :: .ref (ad t1) :: rest)) :=
  after_callA hI (runSU_tb ht (As := [.int a1]) (rest := rest) hC hI hsz (m_J5_append_3fe6f l E ad V t1 a1 hS hFr ht V1 hf) cv_J5_append_3fe6f hl rfl rfl hR hcs hw hdg) kk

theorem dJ5_append_c97b9_0 : decode cJ5_append_c97b9 0 = .ok (.aload_n 0, 1) := by decide +kernel
theorem dJ5_append_c97b9_1 : decode cJ5_append_c97b9 1 = .ok (.getfield 79, 3) := by decide +kernel
theorem dJ5_append_c97b9_4 : decode cJ5_append_c97b9 4 = .ok (.istore_n 2, 1) := by decide +kernel
theorem dJ5_append_c97b9_5 : decode cJ5_append_c97b9 5 = .ok (.iload_n 2, 1) := by decide +kernel
theorem dJ5_append_c97b9_6 : decode cJ5_append_c97b9 6 = .ok (.iload_n 1, 1) := by decide +kernel
theorem dJ5_append_c97b9_7 : decode cJ5_append_c97b9 7 = .ok (.invokestatic 245, 3) := by decide +kernel
theorem dJ5_append_c97b9_10 : decode cJ5_append_c97b9 10 = .ok (.iadd, 1) := by decide +kernel
theorem dJ5_append_c97b9_11 : decode cJ5_append_c97b9 11 = .ok (.istore_n 3, 1) := by decide +kernel
theorem dJ5_append_c97b9_12 : decode cJ5_append_c97b9 12 = .ok (.aload_n 0, 1) := by decide +kernel
theorem dJ5_append_c97b9_13 : decode cJ5_append_c97b9 13 = .ok (.iload_n 3, 1) := by decide +kernel
theorem dJ5_append_c97b9_14 : decode cJ5_append_c97b9 14 = .ok (.invokevirtual 100, 3) := by decide +kernel
theorem dJ5_append_c97b9_17 : decode cJ5_append_c97b9 17 = .ok (.aload_n 0, 1) := by decide +kernel
theorem dJ5_append_c97b9_18 : decode cJ5_append_c97b9 18 = .ok (.invokevirtual 83, 3) := by decide +kernel
theorem dJ5_append_c97b9_21 : decode cJ5_append_c97b9 21 = .ok (.ifCond .eq 16, 3) := by decide +kernel
theorem dJ5_append_c97b9_24 : decode cJ5_append_c97b9 24 = .ok (.iload_n 1, 1) := by decide +kernel
theorem dJ5_append_c97b9_25 : decode cJ5_append_c97b9 25 = .ok (.iload_n 3, 1) := by decide +kernel
theorem dJ5_append_c97b9_26 : decode cJ5_append_c97b9 26 = .ok (.aload_n 0, 1) := by decide +kernel
theorem dJ5_append_c97b9_27 : decode cJ5_append_c97b9 27 = .ok (.getfield 15, 3) := by decide +kernel
theorem dJ5_append_c97b9_30 : decode cJ5_append_c97b9 30 = .ok (.invokestatic 248, 3) := by decide +kernel
theorem dJ5_append_c97b9_33 : decode cJ5_append_c97b9 33 = .ok (.pop, 1) := by decide +kernel
theorem dJ5_append_c97b9_34 : decode cJ5_append_c97b9 34 = .ok (.goto 14, 3) := by decide +kernel
theorem dJ5_append_c97b9_37 : decode cJ5_append_c97b9 37 = .ok (.iload_n 1, 1) := by decide +kernel
theorem dJ5_append_c97b9_38 : decode cJ5_append_c97b9 38 = .ok (.iload_n 2, 1) := by decide +kernel
theorem dJ5_append_c97b9_39 : decode cJ5_append_c97b9 39 = .ok (.iload_n 3, 1) := by decide +kernel
theorem dJ5_append_c97b9_40 : decode cJ5_append_c97b9 40 = .ok (.aload_n 0, 1) := by decide +kernel
theorem dJ5_append_c97b9_41 : decode cJ5_append_c97b9 41 = .ok (.getfield 15, 3) := by decide +kernel
theorem dJ5_append_c97b9_44 : decode cJ5_append_c97b9 44 = .ok (.invokestatic 251, 3) := by decide +kernel
theorem dJ5_append_c97b9_47 : decode cJ5_append_c97b9 47 = .ok (.pop, 1) := by decide +kernel
theorem dJ5_append_c97b9_48 : decode cJ5_append_c97b9 48 = .ok (.aload_n 0, 1) := by decide +kernel
theorem dJ5_append_c97b9_49 : decode cJ5_append_c97b9 49 = .ok (.iload_n 3, 1) := by decide +kernel
theorem dJ5_append_c97b9_50 : decode cJ5_append_c97b9 50 = .ok (.putfield 79, 3) := by decide +kernel
theorem dJ5_append_c97b9_53 : decode cJ5_append_c97b9 53 = .ok (.aload_n 0, 1) := by decide +kernel
theorem dJ5_append_c97b9_54 : decode cJ5_append_c97b9 54 = .ok (.areturn, 1) := by decide +kernel
def f_J5_append_c97b9 (V : Mem) (t1 : Nat) (a1 : Int32) : Option Mem :=
  bd (f_J6_stringSize_0f7a4 V a1) fun r7 V7 =>
  bv (f_J5_ensureCapacityInternal_d00df V7 t1 ((V t1 1) + r7)) fun V14 =>
  bd (f_J5_isLatin1_aae02 V14 t1) fun r18 V18 =>
  if r18 = 0 then
    none
  else
    bd (f_J6_getChars_ba4f3 V18 t1 a1 ((V t1 1) + r7)) fun r30 V30 =>
    lt (stv V30 t1 1 ((V t1 1) + r7)) fun V50 =>
    some V50
theorem cv_J5_append_c97b9 : CalU yJ5_append_c97b9 cJ5_append_c97b9 4 (some (.object "java/lang/AbstractStringBuilder")) 1 := ⟨⟨by decide +kernel, by decide +kernel⟩, tw_10_17, tw_1_211, tw_6_48, tw_1_10, tw_6_49⟩
set_option maxRecDepth 100000 in
set_option maxHeartbeats 4000000 in
theorem m_J5_append_c97b9 (l : Launch) (E : En) (ad : Nat → Nat) (V : Mem) (t1 : Nat) (a1 : Int32) (hS : SF E) (hFr : Fr E) (ht : TX t1) (Vz : Mem) (hf : f_J5_append_c97b9 V t1 a1 = some Vz) : MA l E ad yJ5_append_c97b9 cJ5_append_c97b9 4 (some (.object "java/lang/AbstractStringBuilder")) 5 1 72 [.ref (ad t1), .int a1] V (some (.ref (ad t1))) Vz := by
  refine entA (E := E) (ad := ad) (V := V) "java/lang/AbstractStringBuilder" (by decide +kernel) rfl (Nat.le_of_ble_eq_true rfl) ?_
  intro p e s m below meth c ls hC hI hl
  have hx := hC.1
  have hb := hC.2.1
  have hC0 := hC
  have hl : lv_has ls 4 [(0, .ref (ad t1)), (1, .int a1)] := hl
  unfold f_J5_append_c97b9 at hf
  refine lv_aload_n hx hb dJ5_append_c97b9_0 rfl (lv_at hl 0 rfl) ?_
  refine t_count ht hC hI tw_1_202 dJ5_append_c97b9_1 ?_
  refine lv_istore_n (lv' := [(2, .int (V t1 1)), (0, .ref (ad t1)), (1, .int a1)]) hx hb dJ5_append_c97b9_4 rfl hl (Nat.lt_of_lt_of_eq (by decide) rfl) rfl (fun ls hl => ?_)
  refine lv_iload_n hx hb dJ5_append_c97b9_5 rfl (lv_at hl 0 rfl) ?_
  refine lv_iload_n hx hb dJ5_append_c97b9_6 rfl (lv_at hl 2 rfl) ?_
  obtain ⟨r7, V7, q7, hf⟩ := gbd hf
  refine k_J6_stringSize_0f7a4 hC hI hl.1 q7 tw_6_50 ⟨Nat.le_of_ble_eq_true rfl, Nat.le_of_ble_eq_true rfl⟩ ⟨Nat.le_of_ble_eq_true rfl, Nat.le_of_ble_eq_true rfl⟩ (Nat.le_of_ble_eq_true rfl) dJ5_append_c97b9_7 (fun H locs hI => ?_)
  refine lv_iadd hx hb dJ5_append_c97b9_10 ?_
  refine lv_istore_n (lv' := [(3, .int ((V t1 1) + r7)), (2, .int (V t1 1)), (0, .ref (ad t1)), (1, .int a1)]) hx hb dJ5_append_c97b9_11 rfl hl (Nat.lt_of_lt_of_eq (by decide) rfl) rfl (fun ls hl => ?_)
  refine lv_aload_n hx hb dJ5_append_c97b9_12 rfl (lv_at hl 2 rfl) ?_
  refine lv_iload_n hx hb dJ5_append_c97b9_13 rfl (lv_at hl 0 rfl) ?_
  obtain ⟨V14, q14, hf⟩ := gbv hf
  refine ka_J5_ensureCapacityInternal_d00df hS hFr ht hC hI hl.1 q14 tw_5_180 ⟨Nat.le_of_ble_eq_true rfl, Nat.le_of_ble_eq_true rfl⟩ ⟨Nat.le_of_ble_eq_true rfl, Nat.le_of_ble_eq_true rfl⟩ (Nat.le_of_ble_eq_true rfl) dJ5_append_c97b9_14 (fun H locs hI => ?_)
  obtain ⟨sa, hI⟩ := in_fix hI
  have hS := sf_fix (sa := sa) hS
  have hC := cx_fix (sa := sa) hC
  have hx := hC.1
  have hb := hC.2.1
  refine lv_aload_n hx hb dJ5_append_c97b9_17 rfl (lv_at hl 2 rfl) ?_
  obtain ⟨r18, V18, q18, hf⟩ := gbd hf
  refine k_J5_isLatin1_aae02 (E := fixE E sa) hS ht hC hI hl.1 q18 tw_5_209 ⟨Nat.le_of_ble_eq_true rfl, Nat.le_of_ble_eq_true rfl⟩ ⟨Nat.le_of_ble_eq_true rfl, Nat.le_of_ble_eq_true rfl⟩ (Nat.le_of_ble_eq_true rfl) dJ5_append_c97b9_18 (fun H locs hI => ?_)
  refine lv_if_eq (tgt := 37) hx hb dJ5_append_c97b9_21 (by decide) (fun c21 => ?_) (fun c21 => ?_)
  · have hf := gt hf c21
    cases hf
  · have hf := gf hf c21
    refine lv_iload_n hx hb dJ5_append_c97b9_24 rfl (lv_at hl 3 rfl) ?_
    refine lv_iload_n hx hb dJ5_append_c97b9_25 rfl (lv_at hl 0 rfl) ?_
    refine lv_aload_n hx hb dJ5_append_c97b9_26 rfl (lv_at hl 2 rfl) ?_
    refine t_value ht fx_fix hC hI tw_1_198 dJ5_append_c97b9_27 ?_
    obtain ⟨r30, V30, q30, hf⟩ := gbd hf
    refine k_J6_getChars_ba4f3 (E := fixE E sa) hS ht fx_fix hC hI hl.1 q30 tw_6_53 ⟨Nat.le_of_ble_eq_true rfl, Nat.le_of_ble_eq_true rfl⟩ ⟨Nat.le_of_ble_eq_true rfl, Nat.le_of_ble_eq_true rfl⟩ (Nat.le_of_ble_eq_true rfl) dJ5_append_c97b9_30 (fun H locs hI => ?_)
    refine lv_pop hx hb dJ5_append_c97b9_33 rfl ?_
    refine lv_goto (tgt := 48) hx hb dJ5_append_c97b9_34 (by decide) ?_
    refine lv_aload_n hx hb dJ5_append_c97b9_48 rfl (lv_at hl 2 rfl) ?_
    refine lv_iload_n hx hb dJ5_append_c97b9_49 rfl (lv_at hl 0 rfl) ?_
    obtain ⟨V50, e50, hf⟩ := gl hf
    refine t_pcount ht hC hI e50 tw_1_202 dJ5_append_c97b9_50 (fun H locs hI => ?_)
    refine lv_aload_n hx hb dJ5_append_c97b9_53 rfl (lv_at hl 2 rfl) ?_
    have hI := in_unfix hFr hI
    refine x_wid (c2 := 1) (s2 := 72) (Nat.le_of_ble_eq_true rfl) (Nat.le_of_ble_eq_true rfl) ?_
    exact t_aret hC0 hI hf dJ5_append_c97b9_54
theorem ka_J5_append_c97b9 {p : Program} {l : Launch} {e : Env} {R : Room} {cells slots : Nat} {s : State} {m : MethodId} {args : Array Value} {below : List Frame} {meth : Method} {c : Code} {H : Heap} {locs : List Loc} {Q : State → Prop} {E : En} {ad : Nat → Nat} {V : Mem} {b : ByteArray} {n : Nat} {ret : Option FieldType} {pc index : Nat} {ls : Array Slot} {rest : List Value} {t1 : Nat} {a1 : Int32} {V1 : Mem} (hS : SF E) (hFr : Fr E) (ht : TX t1) (hC : Cx p s m args c meth E "java/lang/StringBuilder" b n ret) (hI : In E ad V s H locs) (hsz : ls.size = n) (hf : f_J5_append_c97b9 V t1 a1 = some V1) (hl : Cond.methodLink "java/lang/StringBuilder" index yJ5_append_c97b9 ∈ TB) (hR : 5 + 1 ≤ R.frames ∧ 8 + (4 + 11) + 40 * 5 ≤ R.locals) (hcs : cells + 1 ≤ R.cells ∧ slots + 72 ≤ R.slots) (hw : (rest.map fun v => v.category).sum ≤ 8) (hdg : decode b pc = .ok (.invokespecial index, 3)) (kk : ∀ (H1 : Heap) (locs1 : List Loc), In E ad V1 s H1 locs1 → W p l e R s m args below meth c H1 locs1 (cells + 1) (slots + 72) Q (F0 m (pc + 3) ls ((.ref (ad t1)) :: rest))) : W p l e R s m args below meth c H locs cells slots Q (F0 m pc ls (.int a1 :: .ref (ad t1) :: rest)) :=
  after_callA hI (runSU_tb ht (As := [.int a1]) (rest := rest) hC hI hsz (m_J5_append_c97b9 l E ad V t1 a1 hS hFr ht V1 hf) cv_J5_append_c97b9 hl rfl rfl hR hcs hw hdg) kk

theorem dJ5_append_cf1ce_0 : decode cJ5_append_cf1ce 0 = .ok (.aload_n 1, 1) := by decide +kernel
theorem dJ5_append_cf1ce_1 : decode cJ5_append_cf1ce 1 = .ok (.ifnonnull 8, 3) := by decide +kernel
theorem dJ5_append_cf1ce_4 : decode cJ5_append_cf1ce 4 = .ok (.aload_n 0, 1) := by decide +kernel
theorem dJ5_append_cf1ce_5 : decode cJ5_append_cf1ce 5 = .ok (.invokevirtual 204, 3) := by decide +kernel
theorem dJ5_append_cf1ce_8 : decode cJ5_append_cf1ce 8 = .ok (.areturn, 1) := by decide +kernel
theorem dJ5_append_cf1ce_9 : decode cJ5_append_cf1ce 9 = .ok (.aload_n 1, 1) := by decide +kernel
theorem dJ5_append_cf1ce_10 : decode cJ5_append_cf1ce 10 = .ok (.invokevirtual 32, 3) := by decide +kernel
theorem dJ5_append_cf1ce_13 : decode cJ5_append_cf1ce 13 = .ok (.istore_n 2, 1) := by decide +kernel
theorem dJ5_append_cf1ce_14 : decode cJ5_append_cf1ce 14 = .ok (.aload_n 0, 1) := by decide +kernel
theorem dJ5_append_cf1ce_15 : decode cJ5_append_cf1ce 15 = .ok (.aload_n 0, 1) := by decide +kernel
theorem dJ5_append_cf1ce_16 : decode cJ5_append_cf1ce 16 = .ok (.getfield 79, 3) := by decide +kernel
theorem dJ5_append_cf1ce_19 : decode cJ5_append_cf1ce 19 = .ok (.iload_n 2, 1) := by decide +kernel
theorem dJ5_append_cf1ce_20 : decode cJ5_append_cf1ce 20 = .ok (.iadd, 1) := by decide +kernel
theorem dJ5_append_cf1ce_21 : decode cJ5_append_cf1ce 21 = .ok (.invokevirtual 100, 3) := by decide +kernel
theorem dJ5_append_cf1ce_24 : decode cJ5_append_cf1ce 24 = .ok (.aload_n 0, 1) := by decide +kernel
theorem dJ5_append_cf1ce_25 : decode cJ5_append_cf1ce 25 = .ok (.aload_n 0, 1) := by decide +kernel
theorem dJ5_append_cf1ce_26 : decode cJ5_append_cf1ce 26 = .ok (.getfield 79, 3) := by decide +kernel
theorem dJ5_append_cf1ce_29 : decode cJ5_append_cf1ce 29 = .ok (.aload_n 1, 1) := by decide +kernel
theorem dJ5_append_cf1ce_30 : decode cJ5_append_cf1ce 30 = .ok (.invokevirtual 208, 3) := by decide +kernel
theorem dJ5_append_cf1ce_33 : decode cJ5_append_cf1ce 33 = .ok (.aload_n 0, 1) := by decide +kernel
theorem dJ5_append_cf1ce_34 : decode cJ5_append_cf1ce 34 = .ok (.dup, 1) := by decide +kernel
theorem dJ5_append_cf1ce_35 : decode cJ5_append_cf1ce 35 = .ok (.getfield 79, 3) := by decide +kernel
theorem dJ5_append_cf1ce_38 : decode cJ5_append_cf1ce 38 = .ok (.iload_n 2, 1) := by decide +kernel
theorem dJ5_append_cf1ce_39 : decode cJ5_append_cf1ce 39 = .ok (.iadd, 1) := by decide +kernel
theorem dJ5_append_cf1ce_40 : decode cJ5_append_cf1ce 40 = .ok (.putfield 79, 3) := by decide +kernel
theorem dJ5_append_cf1ce_43 : decode cJ5_append_cf1ce 43 = .ok (.aload_n 0, 1) := by decide +kernel
theorem dJ5_append_cf1ce_44 : decode cJ5_append_cf1ce 44 = .ok (.areturn, 1) := by decide +kernel
def f_J5_append_cf1ce (V : Mem) (t1 : Nat) (w : Nat) : Option Mem :=
  bd (f_J0_length_8abf5 V w) fun r10 V10 =>
  bv (f_J5_ensureCapacityInternal_d00df V10 t1 ((V10 t1 1) + r10)) fun V21 =>
  bv (f_J5_putStringAt_47b60 V21 t1 w (V21 t1 1)) fun V30 =>
  lt (stv V30 t1 1 ((V30 t1 1) + r10)) fun V40 =>
  some V40
theorem cv_J5_append_cf1ce : CalU yJ5_append_cf1ce cJ5_append_cf1ce 3 (some (.object "java/lang/AbstractStringBuilder")) 1 := ⟨⟨by decide +kernel, by decide +kernel⟩, tw_10_10, tw_1_211, tw_5_174, tw_1_10, tw_5_175⟩
set_option maxRecDepth 100000 in
set_option maxHeartbeats 4000000 in
theorem m_J5_append_cf1ce (l : Launch) (E : En) (ad : Nat → Nat) (V : Mem) (t1 : Nat) (w : Nat) (hS : SF E) (hFr : Fr E) (ht : TX t1) (hw4 : w < 17) (Vz : Mem) (hf : f_J5_append_cf1ce V t1 w = some Vz) : MA l E ad yJ5_append_cf1ce cJ5_append_cf1ce 3 (some (.object "java/lang/AbstractStringBuilder")) 5 1 72 [.ref (ad t1), .ref (eA E 3 w)] V (some (.ref (ad t1))) Vz := by
  refine entA (E := E) (ad := ad) (V := V) "java/lang/AbstractStringBuilder" (by decide +kernel) rfl (Nat.le_of_ble_eq_true rfl) ?_
  intro p e s m below meth c ls hC hI hl
  have hx := hC.1
  have hb := hC.2.1
  have hC0 := hC
  have hl : lv_has ls 3 [(0, .ref (ad t1)), (1, .ref (eA E 3 w))] := hl
  unfold f_J5_append_cf1ce at hf
  refine lv_aload_n hx hb dJ5_append_cf1ce_0 rfl (lv_at hl 1 rfl) ?_
  refine lv_ifnonnull (tgt := 9) hx hb dJ5_append_cf1ce_1 (by decide) ?_
  refine lv_aload_n hx hb dJ5_append_cf1ce_9 rfl (lv_at hl 1 rfl) ?_
  obtain ⟨r10, V10, q10, hf⟩ := gbd hf
  refine k_J0_length_8abf5 hS hw4 hC hI hl.1 q10 tw_6_0 ⟨Nat.le_of_ble_eq_true rfl, Nat.le_of_ble_eq_true rfl⟩ ⟨Nat.le_of_ble_eq_true rfl, Nat.le_of_ble_eq_true rfl⟩ (Nat.le_of_ble_eq_true rfl) dJ5_append_cf1ce_10 (fun H locs hI => ?_)
  refine lv_istore_n (lv' := [(2, .int r10), (0, .ref (ad t1)), (1, .ref (eA E 3 w))]) hx hb dJ5_append_cf1ce_13 rfl hl (Nat.lt_of_lt_of_eq (by decide) rfl) rfl (fun ls hl => ?_)
  refine lv_aload_n hx hb dJ5_append_cf1ce_14 rfl (lv_at hl 1 rfl) ?_
  refine lv_aload_n hx hb dJ5_append_cf1ce_15 rfl (lv_at hl 1 rfl) ?_
  refine t_count ht hC hI tw_1_202 dJ5_append_cf1ce_16 ?_
  refine lv_iload_n hx hb dJ5_append_cf1ce_19 rfl (lv_at hl 0 rfl) ?_
  refine lv_iadd hx hb dJ5_append_cf1ce_20 ?_
  obtain ⟨V21, q21, hf⟩ := gbv hf
  refine ka_J5_ensureCapacityInternal_d00df hS hFr ht hC hI hl.1 q21 tw_5_180 ⟨Nat.le_of_ble_eq_true rfl, Nat.le_of_ble_eq_true rfl⟩ ⟨Nat.le_of_ble_eq_true rfl, Nat.le_of_ble_eq_true rfl⟩ (Nat.le_of_ble_eq_true rfl) dJ5_append_cf1ce_21 (fun H locs hI => ?_)
  obtain ⟨sa, hI⟩ := in_fix hI
  have hS := sf_fix (sa := sa) hS
  have hC := cx_fix (sa := sa) hC
  have hx := hC.1
  have hb := hC.2.1
  refine lv_aload_n hx hb dJ5_append_cf1ce_24 rfl (lv_at hl 1 rfl) ?_
  refine lv_aload_n hx hb dJ5_append_cf1ce_25 rfl (lv_at hl 1 rfl) ?_
  refine t_count ht hC hI tw_1_202 dJ5_append_cf1ce_26 ?_
  refine lv_aload_n hx hb dJ5_append_cf1ce_29 rfl (lv_at hl 2 rfl) ?_
  obtain ⟨V30, q30, hf⟩ := gbv hf
  refine k_J5_putStringAt_47b60 (E := fixE E sa) hS ht hw4 fx_fix hC hI hl.1 q30 tw_6_9 ⟨Nat.le_of_ble_eq_true rfl, Nat.le_of_ble_eq_true rfl⟩ ⟨Nat.le_of_ble_eq_true rfl, Nat.le_of_ble_eq_true rfl⟩ (Nat.le_of_ble_eq_true rfl) dJ5_append_cf1ce_30 (fun H locs hI => ?_)
  refine lv_aload_n hx hb dJ5_append_cf1ce_33 rfl (lv_at hl 1 rfl) ?_
  refine lv_dup hx hb dJ5_append_cf1ce_34 rfl ?_
  refine t_count ht hC hI tw_1_202 dJ5_append_cf1ce_35 ?_
  refine lv_iload_n hx hb dJ5_append_cf1ce_38 rfl (lv_at hl 0 rfl) ?_
  refine lv_iadd hx hb dJ5_append_cf1ce_39 ?_
  obtain ⟨V40, e40, hf⟩ := gl hf
  refine t_pcount ht hC hI e40 tw_1_202 dJ5_append_cf1ce_40 (fun H locs hI => ?_)
  refine lv_aload_n hx hb dJ5_append_cf1ce_43 rfl (lv_at hl 1 rfl) ?_
  have hI := in_unfix hFr hI
  refine x_wid (c2 := 1) (s2 := 72) (Nat.le_of_ble_eq_true rfl) (Nat.le_of_ble_eq_true rfl) ?_
  exact t_aret hC0 hI hf dJ5_append_cf1ce_44
theorem ka_J5_append_cf1ce {p : Program} {l : Launch} {e : Env} {R : Room} {cells slots : Nat} {s : State} {m : MethodId} {args : Array Value} {below : List Frame} {meth : Method} {c : Code} {H : Heap} {locs : List Loc} {Q : State → Prop} {E : En} {ad : Nat → Nat} {V : Mem} {b : ByteArray} {n : Nat} {ret : Option FieldType} {pc index : Nat} {ls : Array Slot} {rest : List Value} {t1 : Nat} {w : Nat} {V1 : Mem} (hS : SF E) (hFr : Fr E) (ht : TX t1) (hw4 : w < 17) (hC : Cx p s m args c meth E "java/lang/StringBuilder" b n ret) (hI : In E ad V s H locs) (hsz : ls.size = n) (hf : f_J5_append_cf1ce V t1 w = some V1) (hl : Cond.methodLink "java/lang/StringBuilder" index yJ5_append_cf1ce ∈ TB) (hR : 5 + 1 ≤ R.frames ∧ 8 + (3 + 11) + 40 * 5 ≤ R.locals) (hcs : cells + 1 ≤ R.cells ∧ slots + 72 ≤ R.slots) (hw : (rest.map fun v => v.category).sum ≤ 8) (hdg : decode b pc = .ok (.invokespecial index, 3)) (kk : ∀ (H1 : Heap) (locs1 : List Loc), In E ad V1 s H1 locs1 → W p l e R s m args below meth c H1 locs1 (cells + 1) (slots + 72) Q (F0 m (pc + 3) ls ((.ref (ad t1)) :: rest))) : W p l e R s m args below meth c H locs cells slots Q (F0 m pc ls (.ref (eA E 3 w) :: .ref (ad t1) :: rest)) :=
  after_callA hI (runSU_tb ht (As := [.ref (eA E 3 w)]) (rest := rest) hC hI hsz (m_J5_append_cf1ce l E ad V t1 w hS hFr ht hw4 V1 hf) cv_J5_append_cf1ce hl rfl rfl hR hcs hw hdg) kk

theorem dJ4_append_cf468_0 : decode cJ4_append_cf468 0 = .ok (.aload_n 0, 1) := by decide +kernel
theorem dJ4_append_cf468_1 : decode cJ4_append_cf468 1 = .ok (.iload_n 1, 1) := by decide +kernel
theorem dJ4_append_cf468_2 : decode cJ4_append_cf468 2 = .ok (.invokespecial 50, 3) := by decide +kernel
theorem dJ4_append_cf468_5 : decode cJ4_append_cf468 5 = .ok (.pop, 1) := by decide +kernel
theorem dJ4_append_cf468_6 : decode cJ4_append_cf468 6 = .ok (.aload_n 0, 1) := by decide +kernel
theorem dJ4_append_cf468_7 : decode cJ4_append_cf468 7 = .ok (.areturn, 1) := by decide +kernel
def f_J4_append_cf468 (V : Mem) (t1 : Nat) (a1 : Int32) : Option Mem :=
  bv (f_J5_append_3fe6f V t1 a1) fun V2 =>
  some V2
theorem cv_J4_append_cf468 : CalW "java/lang/StringBuilder" yJ4_append_cf468 cJ4_append_cf468 2 (some (.object "java/lang/StringBuilder")) 1 := ⟨⟨⟨by decide +kernel, by decide +kernel⟩, tw_1_11, tw_6_186, by decide +kernel⟩, tw_6_184, tw_6_185⟩
set_option maxRecDepth 100000 in
set_option maxHeartbeats 4000000 in
theorem m_J4_append_cf468 (l : Launch) (E : En) (ad : Nat → Nat) (V : Mem) (t1 : Nat) (a1 : Int32) (hS : SF E) (hFr : Fr E) (ht : TX t1) (Vz : Mem) (hf : f_J4_append_cf468 V t1 a1 = some Vz) : MA l E ad yJ4_append_cf468 cJ4_append_cf468 2 (some (.object "java/lang/StringBuilder")) 6 1 72 [.ref (ad t1), .int a1] V (some (.ref (ad t1))) Vz := by
  refine entA (E := E) (ad := ad) (V := V) "java/lang/StringBuilder" (by decide +kernel) rfl (Nat.le_of_ble_eq_true rfl) ?_
  intro p e s m below meth c ls hC hI hl
  have hx := hC.1
  have hb := hC.2.1
  have hC0 := hC
  have hl : lv_has ls 2 [(0, .ref (ad t1)), (1, .int a1)] := hl
  unfold f_J4_append_cf468 at hf
  refine lv_aload_n hx hb dJ4_append_cf468_0 rfl (lv_at hl 0 rfl) ?_
  refine lv_iload_n hx hb dJ4_append_cf468_1 rfl (lv_at hl 1 rfl) ?_
  obtain ⟨V2, q2, hf⟩ := gbv hf
  refine ka_J5_append_3fe6f hS hFr ht hC hI hl.1 q2 tw_6_187 ⟨Nat.le_of_ble_eq_true rfl, Nat.le_of_ble_eq_true rfl⟩ ⟨Nat.le_of_ble_eq_true rfl, Nat.le_of_ble_eq_true rfl⟩ (Nat.le_of_ble_eq_true rfl) dJ4_append_cf468_2 (fun H locs hI => ?_)
  refine lv_pop hx hb dJ4_append_cf468_5 rfl ?_
  refine lv_aload_n hx hb dJ4_append_cf468_6 rfl (lv_at hl 0 rfl) ?_
  refine x_wid (c2 := 1) (s2 := 72) (Nat.le_of_ble_eq_true rfl) (Nat.le_of_ble_eq_true rfl) ?_
  exact t_aret hC0 hI hf dJ4_append_cf468_7
theorem ka_J4_append_cf468 {p : Program} {l : Launch} {e : Env} {R : Room} {cells slots : Nat} {s : State} {m : MethodId} {args : Array Value} {below : List Frame} {meth : Method} {c : Code} {H : Heap} {locs : List Loc} {Q : State → Prop} {E : En} {ad : Nat → Nat} {V : Mem} {ow : String} {b : ByteArray} {n : Nat} {ret : Option FieldType} {pc index : Nat} {ls : Array Slot} {rest : List Value} {t1 : Nat} {a1 : Int32} {V1 : Mem} (hS : SF E) (hFr : Fr E) (ht : TX t1) (hC : Cx p s m args c meth E ow b n ret) (hI : In E ad V s H locs) (hsz : ls.size = n) (hf : f_J4_append_cf468 V t1 a1 = some V1) (hl : Cond.methodLink ow index yJ4_append_cf468 ∈ TB) (hR : 6 + 1 ≤ R.frames ∧ 8 + (2 + 11) + 40 * 6 ≤ R.locals) (hcs : cells + 1 ≤ R.cells ∧ slots + 72 ≤ R.slots) (hw : (rest.map fun v => v.category).sum ≤ 8) (hdg : decode b pc = .ok (.invokevirtual index, 3)) (kk : ∀ (H1 : Heap) (locs1 : List Loc), In E ad V1 s H1 locs1 → W p l e R s m args below meth c H1 locs1 (cells + 1) (slots + 72) Q (F0 m (pc + 3) ls ((.ref (ad t1)) :: rest))) : W p l e R s m args below meth c H locs cells slots Q (F0 m pc ls (.int a1 :: .ref (ad t1) :: rest)) :=
  after_callA hI (runW_tb (As := [.int a1]) (rest := rest) hC hI hsz (m_J4_append_cf468 l E ad V t1 a1 hS hFr ht V1 hf) cv_J4_append_cf468 hl (tx_ok ht) (fun sa => ce_tx ht _ _) rfl rfl rfl hR hcs hw hdg) kk

theorem dJ4_append_bf812_0 : decode cJ4_append_bf812 0 = .ok (.aload_n 0, 1) := by decide +kernel
theorem dJ4_append_bf812_1 : decode cJ4_append_bf812 1 = .ok (.iload_n 1, 1) := by decide +kernel
theorem dJ4_append_bf812_2 : decode cJ4_append_bf812 2 = .ok (.invokespecial 53, 3) := by decide +kernel
theorem dJ4_append_bf812_5 : decode cJ4_append_bf812 5 = .ok (.pop, 1) := by decide +kernel
theorem dJ4_append_bf812_6 : decode cJ4_append_bf812 6 = .ok (.aload_n 0, 1) := by decide +kernel
theorem dJ4_append_bf812_7 : decode cJ4_append_bf812 7 = .ok (.areturn, 1) := by decide +kernel
def f_J4_append_bf812 (V : Mem) (t1 : Nat) (a1 : Int32) : Option Mem :=
  bv (f_J5_append_c97b9 V t1 a1) fun V2 =>
  some V2
theorem cv_J4_append_bf812 : CalW "java/lang/StringBuilder" yJ4_append_bf812 cJ4_append_bf812 2 (some (.object "java/lang/StringBuilder")) 1 := ⟨⟨⟨by decide +kernel, by decide +kernel⟩, tw_1_11, tw_6_46, by decide +kernel⟩, tw_6_44, tw_6_45⟩
set_option maxRecDepth 100000 in
set_option maxHeartbeats 4000000 in
theorem m_J4_append_bf812 (l : Launch) (E : En) (ad : Nat → Nat) (V : Mem) (t1 : Nat) (a1 : Int32) (hS : SF E) (hFr : Fr E) (ht : TX t1) (Vz : Mem) (hf : f_J4_append_bf812 V t1 a1 = some Vz) : MA l E ad yJ4_append_bf812 cJ4_append_bf812 2 (some (.object "java/lang/StringBuilder")) 6 1 72 [.ref (ad t1), .int a1] V (some (.ref (ad t1))) Vz := by
  refine entA (E := E) (ad := ad) (V := V) "java/lang/StringBuilder" (by decide +kernel) rfl (Nat.le_of_ble_eq_true rfl) ?_
  intro p e s m below meth c ls hC hI hl
  have hx := hC.1
  have hb := hC.2.1
  have hC0 := hC
  have hl : lv_has ls 2 [(0, .ref (ad t1)), (1, .int a1)] := hl
  unfold f_J4_append_bf812 at hf
  refine lv_aload_n hx hb dJ4_append_bf812_0 rfl (lv_at hl 0 rfl) ?_
  refine lv_iload_n hx hb dJ4_append_bf812_1 rfl (lv_at hl 1 rfl) ?_
  obtain ⟨V2, q2, hf⟩ := gbv hf
  refine ka_J5_append_c97b9 hS hFr ht hC hI hl.1 q2 tw_6_47 ⟨Nat.le_of_ble_eq_true rfl, Nat.le_of_ble_eq_true rfl⟩ ⟨Nat.le_of_ble_eq_true rfl, Nat.le_of_ble_eq_true rfl⟩ (Nat.le_of_ble_eq_true rfl) dJ4_append_bf812_2 (fun H locs hI => ?_)
  refine lv_pop hx hb dJ4_append_bf812_5 rfl ?_
  refine lv_aload_n hx hb dJ4_append_bf812_6 rfl (lv_at hl 0 rfl) ?_
  refine x_wid (c2 := 1) (s2 := 72) (Nat.le_of_ble_eq_true rfl) (Nat.le_of_ble_eq_true rfl) ?_
  exact t_aret hC0 hI hf dJ4_append_bf812_7
theorem ka_J4_append_bf812 {p : Program} {l : Launch} {e : Env} {R : Room} {cells slots : Nat} {s : State} {m : MethodId} {args : Array Value} {below : List Frame} {meth : Method} {c : Code} {H : Heap} {locs : List Loc} {Q : State → Prop} {E : En} {ad : Nat → Nat} {V : Mem} {ow : String} {b : ByteArray} {n : Nat} {ret : Option FieldType} {pc index : Nat} {ls : Array Slot} {rest : List Value} {t1 : Nat} {a1 : Int32} {V1 : Mem} (hS : SF E) (hFr : Fr E) (ht : TX t1) (hC : Cx p s m args c meth E ow b n ret) (hI : In E ad V s H locs) (hsz : ls.size = n) (hf : f_J4_append_bf812 V t1 a1 = some V1) (hl : Cond.methodLink ow index yJ4_append_bf812 ∈ TB) (hR : 6 + 1 ≤ R.frames ∧ 8 + (2 + 11) + 40 * 6 ≤ R.locals) (hcs : cells + 1 ≤ R.cells ∧ slots + 72 ≤ R.slots) (hw : (rest.map fun v => v.category).sum ≤ 8) (hdg : decode b pc = .ok (.invokevirtual index, 3)) (kk : ∀ (H1 : Heap) (locs1 : List Loc), In E ad V1 s H1 locs1 → W p l e R s m args below meth c H1 locs1 (cells + 1) (slots + 72) Q (F0 m (pc + 3) ls ((.ref (ad t1)) :: rest))) : W p l e R s m args below meth c H locs cells slots Q (F0 m pc ls (.int a1 :: .ref (ad t1) :: rest)) :=
  after_callA hI (runW_tb (As := [.int a1]) (rest := rest) hC hI hsz (m_J4_append_bf812 l E ad V t1 a1 hS hFr ht V1 hf) cv_J4_append_bf812 hl (tx_ok ht) (fun sa => ce_tx ht _ _) rfl rfl rfl hR hcs hw hdg) kk

theorem dJ4_append_15ec4_0 : decode cJ4_append_15ec4 0 = .ok (.aload_n 0, 1) := by decide +kernel
theorem dJ4_append_15ec4_1 : decode cJ4_append_15ec4 1 = .ok (.aload_n 1, 1) := by decide +kernel
theorem dJ4_append_15ec4_2 : decode cJ4_append_15ec4 2 = .ok (.invokespecial 29, 3) := by decide +kernel
theorem dJ4_append_15ec4_5 : decode cJ4_append_15ec4 5 = .ok (.pop, 1) := by decide +kernel
theorem dJ4_append_15ec4_6 : decode cJ4_append_15ec4 6 = .ok (.aload_n 0, 1) := by decide +kernel
theorem dJ4_append_15ec4_7 : decode cJ4_append_15ec4 7 = .ok (.areturn, 1) := by decide +kernel
def f_J4_append_15ec4 (V : Mem) (t1 : Nat) (w : Nat) : Option Mem :=
  bv (f_J5_append_cf1ce V t1 w) fun V2 =>
  some V2
theorem cv_J4_append_15ec4 : CalW "java/lang/StringBuilder" yJ4_append_15ec4 cJ4_append_15ec4 2 (some (.object "java/lang/StringBuilder")) 1 := ⟨⟨⟨by decide +kernel, by decide +kernel⟩, tw_1_11, tw_5_172, by decide +kernel⟩, tw_5_170, tw_5_171⟩
set_option maxRecDepth 100000 in
set_option maxHeartbeats 4000000 in
theorem m_J4_append_15ec4 (l : Launch) (E : En) (ad : Nat → Nat) (V : Mem) (t1 : Nat) (w : Nat) (hS : SF E) (hFr : Fr E) (ht : TX t1) (hw4 : w < 17) (Vz : Mem) (hf : f_J4_append_15ec4 V t1 w = some Vz) : MA l E ad yJ4_append_15ec4 cJ4_append_15ec4 2 (some (.object "java/lang/StringBuilder")) 6 1 72 [.ref (ad t1), .ref (eA E 3 w)] V (some (.ref (ad t1))) Vz := by
  refine entA (E := E) (ad := ad) (V := V) "java/lang/StringBuilder" (by decide +kernel) rfl (Nat.le_of_ble_eq_true rfl) ?_
  intro p e s m below meth c ls hC hI hl
  have hx := hC.1
  have hb := hC.2.1
  have hC0 := hC
  have hl : lv_has ls 2 [(0, .ref (ad t1)), (1, .ref (eA E 3 w))] := hl
  unfold f_J4_append_15ec4 at hf
  refine lv_aload_n hx hb dJ4_append_15ec4_0 rfl (lv_at hl 0 rfl) ?_
  refine lv_aload_n hx hb dJ4_append_15ec4_1 rfl (lv_at hl 1 rfl) ?_
  obtain ⟨V2, q2, hf⟩ := gbv hf
  refine ka_J5_append_cf1ce hS hFr ht hw4 hC hI hl.1 q2 tw_5_173 ⟨Nat.le_of_ble_eq_true rfl, Nat.le_of_ble_eq_true rfl⟩ ⟨Nat.le_of_ble_eq_true rfl, Nat.le_of_ble_eq_true rfl⟩ (Nat.le_of_ble_eq_true rfl) dJ4_append_15ec4_2 (fun H locs hI => ?_)
  refine lv_pop hx hb dJ4_append_15ec4_5 rfl ?_
  refine lv_aload_n hx hb dJ4_append_15ec4_6 rfl (lv_at hl 0 rfl) ?_
  refine x_wid (c2 := 1) (s2 := 72) (Nat.le_of_ble_eq_true rfl) (Nat.le_of_ble_eq_true rfl) ?_
  exact t_aret hC0 hI hf dJ4_append_15ec4_7
theorem ka_J4_append_15ec4 {p : Program} {l : Launch} {e : Env} {R : Room} {cells slots : Nat} {s : State} {m : MethodId} {args : Array Value} {below : List Frame} {meth : Method} {c : Code} {H : Heap} {locs : List Loc} {Q : State → Prop} {E : En} {ad : Nat → Nat} {V : Mem} {ow : String} {b : ByteArray} {n : Nat} {ret : Option FieldType} {pc index : Nat} {ls : Array Slot} {rest : List Value} {t1 : Nat} {w : Nat} {V1 : Mem} (hS : SF E) (hFr : Fr E) (ht : TX t1) (hw4 : w < 17) (hC : Cx p s m args c meth E ow b n ret) (hI : In E ad V s H locs) (hsz : ls.size = n) (hf : f_J4_append_15ec4 V t1 w = some V1) (hl : Cond.methodLink ow index yJ4_append_15ec4 ∈ TB) (hR : 6 + 1 ≤ R.frames ∧ 8 + (2 + 11) + 40 * 6 ≤ R.locals) (hcs : cells + 1 ≤ R.cells ∧ slots + 72 ≤ R.slots) (hw : (rest.map fun v => v.category).sum ≤ 8) (hdg : decode b pc = .ok (.invokevirtual index, 3)) (kk : ∀ (H1 : Heap) (locs1 : List Loc), In E ad V1 s H1 locs1 → W p l e R s m args below meth c H1 locs1 (cells + 1) (slots + 72) Q (F0 m (pc + 3) ls ((.ref (ad t1)) :: rest))) : W p l e R s m args below meth c H locs cells slots Q (F0 m pc ls (.ref (eA E 3 w) :: .ref (ad t1) :: rest)) :=
  after_callA hI (runW_tb (As := [.ref (eA E 3 w)]) (rest := rest) hC hI hsz (m_J4_append_15ec4 l E ad V t1 w hS hFr ht hw4 V1 hf) cv_J4_append_15ec4 hl (tx_ok ht) (fun sa => ce_tx ht _ _) rfl rfl rfl hR hcs hw hdg) kk

theorem dJ5_setLength_d00df_0 : decode cJ5_setLength_d00df 0 = .ok (.iload_n 1, 1) := by decide +kernel
theorem dJ5_setLength_d00df_1 : decode cJ5_setLength_d00df 1 = .ok (.ifCond .ge 12, 3) := by decide +kernel
theorem dJ5_setLength_d00df_4 : decode cJ5_setLength_d00df 4 = .ok (.new 129, 3) := by decide +kernel
theorem dJ5_setLength_d00df_7 : decode cJ5_setLength_d00df 7 = .ok (.dup, 1) := by decide +kernel
theorem dJ5_setLength_d00df_8 : decode cJ5_setLength_d00df 8 = .ok (.iload_n 1, 1) := by decide +kernel
theorem dJ5_setLength_d00df_9 : decode cJ5_setLength_d00df 9 = .ok (.invokespecial 131, 3) := by decide +kernel
theorem dJ5_setLength_d00df_12 : decode cJ5_setLength_d00df 12 = .ok (.athrow, 1) := by decide +kernel
theorem dJ5_setLength_d00df_13 : decode cJ5_setLength_d00df 13 = .ok (.aload_n 0, 1) := by decide +kernel
theorem dJ5_setLength_d00df_14 : decode cJ5_setLength_d00df 14 = .ok (.iload_n 1, 1) := by decide +kernel
theorem dJ5_setLength_d00df_15 : decode cJ5_setLength_d00df 15 = .ok (.invokevirtual 100, 3) := by decide +kernel
theorem dJ5_setLength_d00df_18 : decode cJ5_setLength_d00df 18 = .ok (.aload_n 0, 1) := by decide +kernel
theorem dJ5_setLength_d00df_19 : decode cJ5_setLength_d00df 19 = .ok (.getfield 79, 3) := by decide +kernel
theorem dJ5_setLength_d00df_22 : decode cJ5_setLength_d00df 22 = .ok (.iload_n 1, 1) := by decide +kernel
theorem dJ5_setLength_d00df_23 : decode cJ5_setLength_d00df 23 = .ok (.if_icmp .ge 40, 3) := by decide +kernel
theorem dJ5_setLength_d00df_26 : decode cJ5_setLength_d00df 26 = .ok (.aload_n 0, 1) := by decide +kernel
theorem dJ5_setLength_d00df_27 : decode cJ5_setLength_d00df 27 = .ok (.invokevirtual 83, 3) := by decide +kernel
theorem dJ5_setLength_d00df_30 : decode cJ5_setLength_d00df 30 = .ok (.ifCond .eq 18, 3) := by decide +kernel
theorem dJ5_setLength_d00df_33 : decode cJ5_setLength_d00df 33 = .ok (.aload_n 0, 1) := by decide +kernel
theorem dJ5_setLength_d00df_34 : decode cJ5_setLength_d00df 34 = .ok (.getfield 15, 3) := by decide +kernel
theorem dJ5_setLength_d00df_37 : decode cJ5_setLength_d00df 37 = .ok (.aload_n 0, 1) := by decide +kernel
theorem dJ5_setLength_d00df_38 : decode cJ5_setLength_d00df 38 = .ok (.getfield 79, 3) := by decide +kernel
theorem dJ5_setLength_d00df_41 : decode cJ5_setLength_d00df 41 = .ok (.iload_n 1, 1) := by decide +kernel
theorem dJ5_setLength_d00df_42 : decode cJ5_setLength_d00df 42 = .ok (.invokestatic 133, 3) := by decide +kernel
theorem dJ5_setLength_d00df_45 : decode cJ5_setLength_d00df 45 = .ok (.goto 31, 3) := by decide +kernel
theorem dJ5_setLength_d00df_48 : decode cJ5_setLength_d00df 48 = .ok (.aload_n 0, 1) := by decide +kernel
theorem dJ5_setLength_d00df_49 : decode cJ5_setLength_d00df 49 = .ok (.getfield 15, 3) := by decide +kernel
theorem dJ5_setLength_d00df_52 : decode cJ5_setLength_d00df 52 = .ok (.aload_n 0, 1) := by decide +kernel
theorem dJ5_setLength_d00df_53 : decode cJ5_setLength_d00df 53 = .ok (.getfield 79, 3) := by decide +kernel
theorem dJ5_setLength_d00df_56 : decode cJ5_setLength_d00df 56 = .ok (.iload_n 1, 1) := by decide +kernel
theorem dJ5_setLength_d00df_57 : decode cJ5_setLength_d00df 57 = .ok (.invokestatic 137, 3) := by decide +kernel
theorem dJ5_setLength_d00df_60 : decode cJ5_setLength_d00df 60 = .ok (.goto 16, 3) := by decide +kernel
theorem dJ5_setLength_d00df_63 : decode cJ5_setLength_d00df 63 = .ok (.aload_n 0, 1) := by decide +kernel
theorem dJ5_setLength_d00df_64 : decode cJ5_setLength_d00df 64 = .ok (.getfield 79, 3) := by decide +kernel
theorem dJ5_setLength_d00df_67 : decode cJ5_setLength_d00df 67 = .ok (.iload_n 1, 1) := by decide +kernel
theorem dJ5_setLength_d00df_68 : decode cJ5_setLength_d00df 68 = .ok (.if_icmp .le 8, 3) := by decide +kernel
theorem dJ5_setLength_d00df_71 : decode cJ5_setLength_d00df 71 = .ok (.aload_n 0, 1) := by decide +kernel
theorem dJ5_setLength_d00df_72 : decode cJ5_setLength_d00df 72 = .ok (.iconst 1, 1) := by decide +kernel
theorem dJ5_setLength_d00df_73 : decode cJ5_setLength_d00df 73 = .ok (.putfield 73, 3) := by decide +kernel
theorem dJ5_setLength_d00df_76 : decode cJ5_setLength_d00df 76 = .ok (.aload_n 0, 1) := by decide +kernel
theorem dJ5_setLength_d00df_77 : decode cJ5_setLength_d00df 77 = .ok (.iload_n 1, 1) := by decide +kernel
theorem dJ5_setLength_d00df_78 : decode cJ5_setLength_d00df 78 = .ok (.putfield 79, 3) := by decide +kernel
theorem dJ5_setLength_d00df_81 : decode cJ5_setLength_d00df 81 = .ok (.return_, 1) := by decide +kernel
def f_J5_setLength_d00df (V : Mem) (t1 : Nat) (a1 : Int32) : Option Mem :=
  if 0 ≤ a1 then
    bv (f_J5_ensureCapacityInternal_d00df V t1 a1) fun V15 =>
    if a1 ≤ (V15 t1 1) then
      jn (α := Mem → Option Mem) (fun j76 =>
        if (V15 t1 1) ≤ a1 then
          j76 V15
        else
          lt (stv V15 t1 0 1) fun V73 =>
          j76 V73
      ) (fun (V76 : Mem) =>
        lt (stv V76 t1 1 a1) fun V78 =>
        some V78
      )
    else
      none
  else
    none
theorem cv_J5_setLength_d00df : CalU yJ5_setLength_d00df cJ5_setLength_d00df 2 none 1 := ⟨⟨by decide +kernel, by decide +kernel⟩, tw_10_9, tw_1_211, tw_5_159, tw_1_10, tw_5_160⟩
set_option maxRecDepth 100000 in
set_option maxHeartbeats 4000000 in
theorem m_J5_setLength_d00df (l : Launch) (E : En) (ad : Nat → Nat) (V : Mem) (t1 : Nat) (a1 : Int32) (hS : SF E) (hFr : Fr E) (ht : TX t1) (Vz : Mem) (hf : f_J5_setLength_d00df V t1 a1 = some Vz) : MA l E ad yJ5_setLength_d00df cJ5_setLength_d00df 2 none 5 1 72 [.ref (ad t1), .int a1] V none Vz := by
  refine entA (E := E) (ad := ad) (V := V) "java/lang/AbstractStringBuilder" (by decide +kernel) rfl (Nat.le_of_ble_eq_true rfl) ?_
  intro p e s m below meth c ls hC hI hl
  have hx := hC.1
  have hb := hC.2.1
  have hC0 := hC
  have hl : lv_has ls 2 [(0, .ref (ad t1)), (1, .int a1)] := hl
  unfold f_J5_setLength_d00df at hf
  refine lv_iload_n hx hb dJ5_setLength_d00df_0 rfl (lv_at hl 1 rfl) ?_
  refine lv_if_ge (tgt := 13) hx hb dJ5_setLength_d00df_1 (by decide) (fun c1 => ?_) (fun c1 => ?_)
  · have hf := gt hf c1
    refine lv_aload_n hx hb dJ5_setLength_d00df_13 rfl (lv_at hl 0 rfl) ?_
    refine lv_iload_n hx hb dJ5_setLength_d00df_14 rfl (lv_at hl 1 rfl) ?_
    obtain ⟨V15, q15, hf⟩ := gbv hf
    refine ka_J5_ensureCapacityInternal_d00df hS hFr ht hC hI hl.1 q15 tw_5_180 ⟨Nat.le_of_ble_eq_true rfl, Nat.le_of_ble_eq_true rfl⟩ ⟨Nat.le_of_ble_eq_true rfl, Nat.le_of_ble_eq_true rfl⟩ (Nat.le_of_ble_eq_true rfl) dJ5_setLength_d00df_15 (fun H locs hI => ?_)
    refine lv_aload_n hx hb dJ5_setLength_d00df_18 rfl (lv_at hl 0 rfl) ?_
    refine t_count ht hC hI tw_1_202 dJ5_setLength_d00df_19 ?_
    refine lv_iload_n hx hb dJ5_setLength_d00df_22 rfl (lv_at hl 1 rfl) ?_
    refine lv_icmp_ge (tgt := 63) hx hb dJ5_setLength_d00df_23 (by decide) (fun c23 => ?_) (fun c23 => ?_)
    · have hf := gt hf c23
      refine lv_aload_n hx hb dJ5_setLength_d00df_63 rfl (lv_at hl 0 rfl) ?_
      refine t_count ht hC hI tw_1_202 dJ5_setLength_d00df_64 ?_
      refine lv_iload_n hx hb dJ5_setLength_d00df_67 rfl (lv_at hl 1 rfl) ?_
      obtain ⟨j76, hj76, hf⟩ := gj hf
      have J76 : ∀ (V76 : Mem) (H : Heap) (locs : List Loc) (ls : Array Slot), j76 V76 = some Vz → In E ad V76 s H locs → lv_has ls 2 [(0, .ref (ad t1)), (1, .int a1)] → W p l e (rmx 5 1 72) s m ([.ref (ad t1), .int a1] : List Value).toArray below meth c H locs 1 72 (MQ below (QR E ad none Vz) ([.ref (ad t1), .int a1] : List Value).toArray s 1 72 (ours E)) (F0 m 76 ls []) := by
        intro V76 H locs ls hf hI hl
        rw [hj76] at hf
        dsimp only at hf
        refine lv_aload_n hx hb dJ5_setLength_d00df_76 rfl (lv_at hl 0 rfl) ?_
        refine lv_iload_n hx hb dJ5_setLength_d00df_77 rfl (lv_at hl 1 rfl) ?_
        obtain ⟨V78, e78, hf⟩ := gl hf
        refine t_pcount ht hC hI e78 tw_1_202 dJ5_setLength_d00df_78 (fun H locs hI => ?_)
        refine x_wid (c2 := 1) (s2 := 72) (Nat.le_of_ble_eq_true rfl) (Nat.le_of_ble_eq_true rfl) ?_
        exact r_vret2 hC hI hf dJ5_setLength_d00df_81
      refine lv_icmp_le (tgt := 76) hx hb dJ5_setLength_d00df_68 (by decide) (fun c68 => ?_) (fun c68 => ?_)
      · have hf := gt hf c68
        exact J76 _ _ _ _ hf hI (lv_sub hl [0, 1] rfl)
      · have hf := gf hf c68
        refine lv_aload_n hx hb dJ5_setLength_d00df_71 rfl (lv_at hl 0 rfl) ?_
        refine lv_iconst (v := 1) hx hb dJ5_setLength_d00df_72 rfl ?_
        obtain ⟨V73, e73, hf⟩ := gl hf
        refine t_pmaybe ht (.inr rfl) hC hI e73 tw_1_200 dJ5_setLength_d00df_73 (fun H locs hI => ?_)
        exact J76 _ _ _ _ hf hI (lv_sub hl [0, 1] rfl)
    · have hf := gf hf c23
      cases hf
  · have hf := gf hf c1
    cases hf
theorem ka_J5_setLength_d00df {p : Program} {l : Launch} {e : Env} {R : Room} {cells slots : Nat} {s : State} {m : MethodId} {args : Array Value} {below : List Frame} {meth : Method} {c : Code} {H : Heap} {locs : List Loc} {Q : State → Prop} {E : En} {ad : Nat → Nat} {V : Mem} {b : ByteArray} {n : Nat} {ret : Option FieldType} {pc index : Nat} {ls : Array Slot} {rest : List Value} {t1 : Nat} {a1 : Int32} {V1 : Mem} (hS : SF E) (hFr : Fr E) (ht : TX t1) (hC : Cx p s m args c meth E "java/lang/StringBuilder" b n ret) (hI : In E ad V s H locs) (hsz : ls.size = n) (hf : f_J5_setLength_d00df V t1 a1 = some V1) (hl : Cond.methodLink "java/lang/StringBuilder" index yJ5_setLength_d00df ∈ TB) (hR : 5 + 1 ≤ R.frames ∧ 8 + (2 + 11) + 40 * 5 ≤ R.locals) (hcs : cells + 1 ≤ R.cells ∧ slots + 72 ≤ R.slots) (hw : (rest.map fun v => v.category).sum ≤ 8) (hdg : decode b pc = .ok (.invokespecial index, 3)) (kk : ∀ (H1 : Heap) (locs1 : List Loc), In E ad V1 s H1 locs1 → W p l e R s m args below meth c H1 locs1 (cells + 1) (slots + 72) Q (F0 m (pc + 3) ls (rest))) : W p l e R s m args below meth c H locs cells slots Q (F0 m pc ls (.int a1 :: .ref (ad t1) :: rest)) :=
  after_callA hI (runSU_tb ht (As := [.int a1]) (rest := rest) hC hI hsz (m_J5_setLength_d00df l E ad V t1 a1 hS hFr ht V1 hf) cv_J5_setLength_d00df hl rfl rfl hR hcs hw hdg) kk

theorem dJ4_setLength_d00df_0 : decode cJ4_setLength_d00df 0 = .ok (.aload_n 0, 1) := by decide +kernel
theorem dJ4_setLength_d00df_1 : decode cJ4_setLength_d00df 1 = .ok (.iload_n 1, 1) := by decide +kernel
theorem dJ4_setLength_d00df_2 : decode cJ4_setLength_d00df 2 = .ok (.invokespecial 333, 3) := by decide +kernel
theorem dJ4_setLength_d00df_5 : decode cJ4_setLength_d00df 5 = .ok (.return_, 1) := by decide +kernel
def f_J4_setLength_d00df (V : Mem) (t1 : Nat) (a1 : Int32) : Option Mem :=
  bv (f_J5_setLength_d00df V t1 a1) fun V2 =>
  some V2
theorem cv_J4_setLength_d00df : CalW "java/lang/StringBuilder" yJ4_setLength_d00df cJ4_setLength_d00df 2 none 1 := ⟨⟨⟨by decide +kernel, by decide +kernel⟩, tw_1_11, tw_5_157, by decide +kernel⟩, tw_5_155, tw_5_156⟩
set_option maxRecDepth 100000 in
set_option maxHeartbeats 4000000 in
theorem m_J4_setLength_d00df (l : Launch) (E : En) (ad : Nat → Nat) (V : Mem) (t1 : Nat) (a1 : Int32) (hS : SF E) (hFr : Fr E) (ht : TX t1) (Vz : Mem) (hf : f_J4_setLength_d00df V t1 a1 = some Vz) : MA l E ad yJ4_setLength_d00df cJ4_setLength_d00df 2 none 6 1 72 [.ref (ad t1), .int a1] V none Vz := by
  refine entA (E := E) (ad := ad) (V := V) "java/lang/StringBuilder" (by decide +kernel) rfl (Nat.le_of_ble_eq_true rfl) ?_
  intro p e s m below meth c ls hC hI hl
  have hx := hC.1
  have hb := hC.2.1
  have hC0 := hC
  have hl : lv_has ls 2 [(0, .ref (ad t1)), (1, .int a1)] := hl
  unfold f_J4_setLength_d00df at hf
  refine lv_aload_n hx hb dJ4_setLength_d00df_0 rfl (lv_at hl 0 rfl) ?_
  refine lv_iload_n hx hb dJ4_setLength_d00df_1 rfl (lv_at hl 1 rfl) ?_
  obtain ⟨V2, q2, hf⟩ := gbv hf
  refine ka_J5_setLength_d00df hS hFr ht hC hI hl.1 q2 tw_5_158 ⟨Nat.le_of_ble_eq_true rfl, Nat.le_of_ble_eq_true rfl⟩ ⟨Nat.le_of_ble_eq_true rfl, Nat.le_of_ble_eq_true rfl⟩ (Nat.le_of_ble_eq_true rfl) dJ4_setLength_d00df_2 (fun H locs hI => ?_)
  refine x_wid (c2 := 1) (s2 := 72) (Nat.le_of_ble_eq_true rfl) (Nat.le_of_ble_eq_true rfl) ?_
  exact r_vret2 hC hI hf dJ4_setLength_d00df_5
theorem ka_J4_setLength_d00df {p : Program} {l : Launch} {e : Env} {R : Room} {cells slots : Nat} {s : State} {m : MethodId} {args : Array Value} {below : List Frame} {meth : Method} {c : Code} {H : Heap} {locs : List Loc} {Q : State → Prop} {E : En} {ad : Nat → Nat} {V : Mem} {ow : String} {b : ByteArray} {n : Nat} {ret : Option FieldType} {pc index : Nat} {ls : Array Slot} {rest : List Value} {t1 : Nat} {a1 : Int32} {V1 : Mem} (hS : SF E) (hFr : Fr E) (ht : TX t1) (hC : Cx p s m args c meth E ow b n ret) (hI : In E ad V s H locs) (hsz : ls.size = n) (hf : f_J4_setLength_d00df V t1 a1 = some V1) (hl : Cond.methodLink ow index yJ4_setLength_d00df ∈ TB) (hR : 6 + 1 ≤ R.frames ∧ 8 + (2 + 11) + 40 * 6 ≤ R.locals) (hcs : cells + 1 ≤ R.cells ∧ slots + 72 ≤ R.slots) (hw : (rest.map fun v => v.category).sum ≤ 8) (hdg : decode b pc = .ok (.invokevirtual index, 3)) (kk : ∀ (H1 : Heap) (locs1 : List Loc), In E ad V1 s H1 locs1 → W p l e R s m args below meth c H1 locs1 (cells + 1) (slots + 72) Q (F0 m (pc + 3) ls (rest))) : W p l e R s m args below meth c H locs cells slots Q (F0 m pc ls (.int a1 :: .ref (ad t1) :: rest)) :=
  after_callA hI (runW_tb (As := [.int a1]) (rest := rest) hC hI hsz (m_J4_setLength_d00df l E ad V t1 a1 hS hFr ht V1 hf) cv_J4_setLength_d00df hl (tx_ok ht) (fun sa => ce_tx ht _ _) rfl rfl rfl hR hcs hw hdg) kk
