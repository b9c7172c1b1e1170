section R099
variable {p : Program} {l : Launch} {e : Env} {R : Room} {s : State} {m : MethodId} {args : Array Value} {below : List Frame} {meth : Method} {c : Code} {H : Heap} {locs : List Loc} {cells slots : Nat} {Q : State → Prop}
variable {E : En} {ad sa : Nat → Nat} {ow : String} {b : ByteArray} {n index : Nat} {ret : Option FieldType} {pc : Nat} {ls : Array Slot} {rest : List Value} {A : Nat → Prop} {ws : va_W}
theorem dJ5_init_d00df_0 : decode cJ5_init_d00df 0 = .ok (.aload_n 0, 1) := by decide +kernel
theorem dJ5_init_d00df_1 : decode cJ5_init_d00df 1 = .ok (.invokespecial 3, 3) := by decide +kernel
theorem dJ5_init_d00df_4 : decode cJ5_init_d00df 4 = .ok (.getstatic 18, 3) := by decide +kernel
theorem dJ5_init_d00df_7 : decode cJ5_init_d00df 7 = .ok (.ifCond .eq 18, 3) := by decide +kernel
theorem dJ5_init_d00df_10 : decode cJ5_init_d00df 10 = .ok (.aload_n 0, 1) := by decide +kernel
theorem dJ5_init_d00df_11 : decode cJ5_init_d00df 11 = .ok (.iload_n 1, 1) := by decide +kernel
theorem dJ5_init_d00df_12 : decode cJ5_init_d00df 12 = .ok (.newarray .byte, 2) := by decide +kernel
theorem dJ5_init_d00df_14 : decode cJ5_init_d00df 14 = .ok (.putfield 15, 3) := by decide +kernel
theorem dJ5_init_d00df_17 : decode cJ5_init_d00df 17 = .ok (.aload_n 0, 1) := by decide +kernel
theorem dJ5_init_d00df_18 : decode cJ5_init_d00df 18 = .ok (.iconst 0, 1) := by decide +kernel
theorem dJ5_init_d00df_19 : decode cJ5_init_d00df 19 = .ok (.putfield 22, 3) := by decide +kernel
theorem dJ5_init_d00df_22 : decode cJ5_init_d00df 22 = .ok (.goto 16, 3) := by decide +kernel
theorem dJ5_init_d00df_25 : decode cJ5_init_d00df 25 = .ok (.aload_n 0, 1) := by decide +kernel
theorem dJ5_init_d00df_26 : decode cJ5_init_d00df 26 = .ok (.iload_n 1, 1) := by decide +kernel
theorem dJ5_init_d00df_27 : decode cJ5_init_d00df 27 = .ok (.invokestatic 26, 3) := by decide +kernel
theorem dJ5_init_d00df_30 : decode cJ5_init_d00df 30 = .ok (.putfield 15, 3) := by decide +kernel
theorem dJ5_init_d00df_33 : decode cJ5_init_d00df 33 = .ok (.aload_n 0, 1) := by decide +kernel
theorem dJ5_init_d00df_34 : decode cJ5_init_d00df 34 = .ok (.iconst 1, 1) := by decide +kernel
theorem dJ5_init_d00df_35 : decode cJ5_init_d00df 35 = .ok (.putfield 22, 3) := by decide +kernel
theorem dJ5_init_d00df_38 : decode cJ5_init_d00df 38 = .ok (.return_, 1) := by decide +kernel
theorem cv_J5_init_d00df : CalI yJ5_init_d00df cJ5_init_d00df 2 1 := ⟨⟨⟨by decide +kernel, by decide +kernel⟩, tw_1_10, tw_1_187, by decide +kernel⟩, rfl, tw_1_186⟩
set_option maxRecDepth 100000 in
theorem m_J5_init_d00df (l : Launch) (E : En) (hS0 : SF E) (sz b0 : Nat) : MI l E yJ5_init_d00df cJ5_init_d00df 2 1 1 16 sz b0 [.int 16] 1 [.null, .int 0, .int 0, .int 0] 2 (cfTx E) := by
  refine entI (E := E) "java/lang/AbstractStringBuilder" (by decide +kernel) rfl rfl (Nat.le_of_ble_eq_true rfl) ?_
  intro p e s m below meth c ls hC hsub hP hD hS hl
  have hx := hC.1.1
  have hb := hC.1.2.1
  have hts := hC.1.2.2.2.2.1
  have hown := hC.1.2.2.2.1
  have hK := hC.1.2.2.2.2.2.1
  have hA : ∀ q, s.heap.size ≤ q → fre b0 s.heap.size q := fun q h => .inr h
  have hl : lv_has ls 2 [(0, .ref b0), (1, .int 16)] := hl
  refine lv_aload_n hx hb dJ5_init_d00df_0 rfl (lv_at hl 0 rfl) ?_
  refine i_obj hC hl.1 tw_1_188 ⟨Nat.le_of_ble_eq_true rfl, Nat.le_of_ble_eq_true rfl⟩ dJ5_init_d00df_1 ?_
  refine va_gets hx hb (hS0 s s.heap hC.1.2.2.2.2.2.2.2.1).2.2.2.2.2.2.2.2.2.1 (va_S.mono hsub hS) hown (hts _ tw_1_189) (fun _ h => h) dJ5_init_d00df_4 ?_
  refine lv_if_eq (tgt := 25) hx hb dJ5_init_d00df_7 (by decide) (fun h => absurd h (by decide)) (fun _ => ?_)
  refine lv_aload_n hx hb dJ5_init_d00df_10 rfl (lv_at hl 0 rfl) ?_
  refine lv_iload_n hx hb dJ5_init_d00df_11 rfl (lv_at hl 1 rfl) ?_
  refine va_newa (atype := .byte) (ty := .byte) (a0 := (16, .inl (fun _ => 0))) (N' := 16) hx hb (hts _ tw_1_212) rfl hK hP hD hS hA (fun _ => rfl) (by decide) rfl (by decide) (Nat.le_of_ble_eq_true rfl) (Nat.le_of_ble_eq_true rfl) dJ5_init_d00df_12 (fun a cA H hK2 hP hD hS => ?_)
  have hcA : cA = eC E 1 := by
    have h1 := (hK2.2 6 (cA, .byte) rfl).2
    have h2 := (hK2.2 1 (eC E 1, .byte) rfl).2
    exact Option.some.inj (h1.symm.trans h2)
  subst hcA
  refine va_put hx hb hts in_J4 tyJ4 tyJ4_ok nmJ4 hown hK hP hD hS 0 rfl rfl 0 (by decide) (hts _ tw_1_198) (fun _ h => h) rfl rfl rfl rfl (Nat.le_of_ble_eq_true rfl) dJ5_init_d00df_14 (fun H locs hP hD hS => ?_)
  refine lv_aload_n hx hb dJ5_init_d00df_17 rfl (lv_at hl 0 rfl) ?_
  refine lv_iconst (v := 0) hx hb dJ5_init_d00df_18 rfl ?_
  refine va_put hx hb hts in_J4 tyJ4 tyJ4_ok nmJ4 hown hK hP hD hS 0 rfl rfl 1 (by decide) (hts _ tw_1_199) (fun _ h => h) rfl rfl rfl rfl (Nat.le_of_ble_eq_true rfl) dJ5_init_d00df_19 (fun H locs hP hD hS => ?_)
  refine lv_goto (tgt := 38) hx hb dJ5_init_d00df_22 (by decide) ?_
  exact W.vret hx hb hC.1.2.2.2.2.2.2.2.2.2.1 (fun t ht _ => ⟨⟨rfl, fun i => ([b0, a] : List Nat).getD i 0, rfl, by rw [ht]; exact hP, hD⟩, hS.F ht⟩) hS.2.2 dJ5_init_d00df_38 hC.1.2.2.2.2.2.2.2.2.2.2.1

theorem dJ4_init_da8c8_0 : decode cJ4_init_da8c8 0 = .ok (.aload_n 0, 1) := by decide +kernel
theorem dJ4_init_da8c8_1 : decode cJ4_init_da8c8 1 = .ok (.bipush 16, 2) := by decide +kernel
theorem dJ4_init_da8c8_3 : decode cJ4_init_da8c8 3 = .ok (.invokespecial 1, 3) := by decide +kernel
theorem dJ4_init_da8c8_6 : decode cJ4_init_da8c8 6 = .ok (.return_, 1) := by decide +kernel
theorem cv_J4_init_da8c8 : CalI yJ4_init_da8c8 cJ4_init_da8c8 1 0 := ⟨⟨⟨by decide +kernel, by decide +kernel⟩, tw_1_11, tw_1_184, by decide +kernel⟩, rfl, tw_1_183⟩
set_option maxRecDepth 100000 in
theorem m_J4_init_da8c8 (l : Launch) (E : En) (hS0 : SF E) (sz b0 : Nat) : MI l E yJ4_init_da8c8 cJ4_init_da8c8 1 2 1 16 sz b0 [] 1 [.null, .int 0, .int 0, .int 0] 2 (cfTx E) := by
  refine entI (E := E) "java/lang/StringBuilder" (by decide +kernel) rfl rfl (Nat.le_of_ble_eq_true rfl) ?_
  intro p e s m below meth c ls hC hsub hP hD hS hl
  have hx := hC.1.1
  have hb := hC.1.2.1
  have hA : ∀ q, s.heap.size ≤ q → fre b0 s.heap.size q := fun q h => .inr h
  have hl : lv_has ls 1 [(0, .ref b0)] := hl
  refine lv_aload_n hx hb dJ4_init_da8c8_0 rfl (lv_at hl 0 rfl) ?_
  refine lv_bipush (v := 16) hx hb dJ4_init_da8c8_1 rfl ?_
  refine i_ctor (ws := []) (As := [.int 16]) (cf := cfTx E) hC hsub hP hD hS hA hl.1 (m_J5_init_d00df l E hS0 _ _) cv_J5_init_d00df tw_1_185 rfl rfl ⟨Nat.le_of_ble_eq_true rfl, Nat.le_of_ble_eq_true rfl⟩ ⟨Nat.le_of_ble_eq_true rfl, Nat.le_of_ble_eq_true rfl⟩ (Nat.le_of_ble_eq_true rfl) dJ4_init_da8c8_3 (fun ad H locs h0 hP hD hS => ?_)
  exact W.vret hx hb hC.1.2.2.2.2.2.2.2.2.2.1 (fun t ht _ => ⟨⟨rfl, ad, h0, by rw [ht]; exact hP, hD⟩, hS.F ht⟩) hS.2.2 dJ4_init_da8c8_6 hC.1.2.2.2.2.2.2.2.2.2.2.1

def QJ (E : En) (b0 : Nat) (Sh : va_W → Prop) : Array Value → State → Outcome → State → Prop := fun _ st oc t =>
  (oc = .returned none ∧ ∃ tl : va_W, Sh tl ∧ va_P (eD E) vwCl tl t.heap ∧ va_D (fre b0 st.heap.size) tl) ∧ va_F (fre b0 st.heap.size) st t
def MJ (l : Launch) (E : En) (y : MethodName) (b : ByteArray) (n d mc ms sz b0 : Nat) (ci : Nat) (fs : List Value) (Sh : va_W → Prop) : Prop :=
  Met l y (.code y b n none :: TB) (rmx d mc ms) (va_Pc [.ref b0] (PreI E sz b0 ci fs)) (QJ E b0 Sh) mc ms (fre b0 sz)
/-- the class's object and what it holds -/
def shX9 (E : En) (b0 : Nat) (tl : va_W) : Prop := ∃ a1 a2 a3 a4 a5 a6 : Nat → Nat, tl = ((((((([(b0, .inr (10, [.ref (a1 0), .ref (a2 0), .ref (a3 0), .ref (a4 0), .ref (a5 0), .ref (a6 0), .int 0, .int (-1), .int (-1)]))] ++ pool 20 a1 (cfSt E a1)) ++ pool 20 a2 (cfSt E a2)) ++ pool 182 a3 (cfHi E a3)) ++ pool 26 a4 (cfPr E a4)) ++ pool 2 a5 (cfTx E a5)) ++ pool 2 a6 (cfTx E a6)) : va_W)
theorem dX9_init_0 : decode cX9_init 0 = .ok (.aload_n 0, 1) := by decide +kernel
theorem dX9_init_1 : decode cX9_init 1 = .ok (.invokespecial 1, 3) := by decide +kernel
theorem dX9_init_4 : decode cX9_init 4 = .ok (.aload_n 0, 1) := by decide +kernel
theorem dX9_init_5 : decode cX9_init 5 = .ok (.new 7, 3) := by decide +kernel
theorem dX9_init_8 : decode cX9_init 8 = .ok (.dup, 1) := by decide +kernel
theorem dX9_init_9 : decode cX9_init 9 = .ok (.invokespecial 9, 3) := by decide +kernel
theorem dX9_init_12 : decode cX9_init 12 = .ok (.putfield 10, 3) := by decide +kernel
theorem dX9_init_15 : decode cX9_init 15 = .ok (.aload_n 0, 1) := by decide +kernel
theorem dX9_init_16 : decode cX9_init 16 = .ok (.new 7, 3) := by decide +kernel
theorem dX9_init_19 : decode cX9_init 19 = .ok (.dup, 1) := by decide +kernel
theorem dX9_init_20 : decode cX9_init 20 = .ok (.invokespecial 9, 3) := by decide +kernel
theorem dX9_init_23 : decode cX9_init 23 = .ok (.putfield 16, 3) := by decide +kernel
theorem dX9_init_26 : decode cX9_init 26 = .ok (.aload_n 0, 1) := by decide +kernel
theorem dX9_init_27 : decode cX9_init 27 = .ok (.new 19, 3) := by decide +kernel
theorem dX9_init_30 : decode cX9_init 30 = .ok (.dup, 1) := by decide +kernel
theorem dX9_init_31 : decode cX9_init 31 = .ok (.invokespecial 21, 3) := by decide +kernel
theorem dX9_init_34 : decode cX9_init 34 = .ok (.putfield 22, 3) := by decide +kernel
theorem dX9_init_37 : decode cX9_init 37 = .ok (.aload_n 0, 1) := by decide +kernel
theorem dX9_init_38 : decode cX9_init 38 = .ok (.new 26, 3) := by decide +kernel
theorem dX9_init_41 : decode cX9_init 41 = .ok (.dup, 1) := by decide +kernel
theorem dX9_init_42 : decode cX9_init 42 = .ok (.invokespecial 28, 3) := by decide +kernel
theorem dX9_init_45 : decode cX9_init 45 = .ok (.putfield 29, 3) := by decide +kernel
theorem dX9_init_48 : decode cX9_init 48 = .ok (.aload_n 0, 1) := by decide +kernel
theorem dX9_init_49 : decode cX9_init 49 = .ok (.new 33, 3) := by decide +kernel
theorem dX9_init_52 : decode cX9_init 52 = .ok (.dup, 1) := by decide +kernel
theorem dX9_init_53 : decode cX9_init 53 = .ok (.invokespecial 35, 3) := by decide +kernel
theorem dX9_init_56 : decode cX9_init 56 = .ok (.putfield 36, 3) := by decide +kernel
theorem dX9_init_59 : decode cX9_init 59 = .ok (.aload_n 0, 1) := by decide +kernel
theorem dX9_init_60 : decode cX9_init 60 = .ok (.new 33, 3) := by decide +kernel
theorem dX9_init_63 : decode cX9_init 63 = .ok (.dup, 1) := by decide +kernel
theorem dX9_init_64 : decode cX9_init 64 = .ok (.invokespecial 35, 3) := by decide +kernel
theorem dX9_init_67 : decode cX9_init 67 = .ok (.putfield 40, 3) := by decide +kernel
theorem dX9_init_70 : decode cX9_init 70 = .ok (.aload_n 0, 1) := by decide +kernel
theorem dX9_init_71 : decode cX9_init 71 = .ok (.iconst (-1), 1) := by decide +kernel
theorem dX9_init_72 : decode cX9_init 72 = .ok (.putfield 43, 3) := by decide +kernel
theorem dX9_init_75 : decode cX9_init 75 = .ok (.aload_n 0, 1) := by decide +kernel
theorem dX9_init_76 : decode cX9_init 76 = .ok (.iconst (-1), 1) := by decide +kernel
theorem dX9_init_77 : decode cX9_init 77 = .ok (.putfield 47, 3) := by decide +kernel
theorem dX9_init_80 : decode cX9_init 80 = .ok (.return_, 1) := by decide +kernel
theorem cv_X9_init : CalI yX9_init cX9_init 1 0 := ⟨⟨⟨by decide +kernel, by decide +kernel⟩, tw_1_1, tw_1_38, by decide +kernel⟩, rfl, tw_1_37⟩
set_option maxRecDepth 100000 in
set_option maxHeartbeats 4000000 in
theorem m_X9_init (l : Launch) (E : En) (hS0 : SF E) (sz b0 : Nat) : MJ l E yX9_init cX9_init 1 5 252 4575 sz b0 10 [.null, .null, .null, .null, .null, .null, .int 0, .int 0, .int 0] (shX9 E b0) := by
  refine entI (E := E) "LetterRepository" (by decide +kernel) rfl rfl (Nat.le_of_ble_eq_true rfl) ?_
  intro p e s m below meth c ls hC hsub hP hD hS hl
  have hx := hC.1.1
  have hb := hC.1.2.1
  have hts := hC.1.2.2.2.2.1
  have hown := hC.1.2.2.2.1
  have hK := hC.1.2.2.2.2.2.1
  have hA : ∀ q, s.heap.size ≤ q → fre b0 s.heap.size q := fun q h => .inr h
  have hl : lv_has ls 1 [(0, .ref b0)] := hl
  refine lv_aload_n hx hb dX9_init_0 rfl (lv_at hl 0 rfl) ?_
  refine i_obj hC hl.1 tw_1_39 ⟨Nat.le_of_ble_eq_true rfl, Nat.le_of_ble_eq_true rfl⟩ dX9_init_1 ?_
  refine lv_aload_n hx hb dX9_init_4 rfl (lv_at hl 0 rfl) ?_
  refine va_new (ci := 9) (fs := [.null, .null, .null, .null, .int 0]) (C := RX8) (T := TX8) (N := 5) hx hb hts in_X8 tyX8 tyX8_ok hown (hts _ tw_1_42) (hts _ tw_1_43) (hts _ tw_1_2) hK hP hD hS hA rfl (fun j hj => by rcases (show j = 0 ∨ j = 1 ∨ j = 2 ∨ j = 3 ∨ j = 4 by omega) with rfl | rfl | rfl | rfl | rfl <;> rfl) (Nat.le_of_ble_eq_true rfl) (Nat.le_of_ble_eq_true rfl) dX9_init_5 (fun q5 H hP hD hS => ?_)
  refine lv_dup hx hb dX9_init_8 rfl ?_
  refine i_ctorN (As := []) (cf := cfSt E) hC hsub hP hD hS hA hl.1 (m_X8_init l E _ _) cv_X8_init tw_1_44 rfl rfl ⟨Nat.le_of_ble_eq_true rfl, Nat.le_of_ble_eq_true rfl⟩ ⟨Nat.le_of_ble_eq_true rfl, Nat.le_of_ble_eq_true rfl⟩ (Nat.le_of_ble_eq_true rfl) dX9_init_9 (fun ad9 H locs h9 hP hD hS => ?_)
  rw [← h9]
  have hP : va_P (eD E) vwCl (((b0, .inr (10, [.null, .null, .null, .null, .null, .null, .int 0, .int 0, .int 0])) :: [] : va_W) ++ pool 20 ad9 (cfSt E ad9)) H := hP
  have hD : va_D (fre b0 s.heap.size) (((b0, .inr (10, [.null, .null, .null, .null, .null, .null, .int 0, .int 0, .int 0])) :: [] : va_W) ++ pool 20 ad9 (cfSt E ad9)) := hD
  refine va_putF hx hb hts in_X9 tyX9 tyX9_ok nmX9 hown hK hP hD hS 0 rfl rfl 0 (by decide) (hts _ tw_1_213) (fun _ h => h) rfl hC.2 rfl rfl rfl rfl (Nat.le_of_ble_eq_true rfl) dX9_init_12 (fun H locs hP hD hS => ?_)
  have hP : va_P (eD E) vwCl (((b0, .inr (10, [.ref (ad9 0), .null, .null, .null, .null, .null, .int 0, .int 0, .int 0])) :: [] : va_W) ++ pool 20 ad9 (cfSt E ad9)) H := hP
  have hD : va_D (fre b0 s.heap.size) (((b0, .inr (10, [.ref (ad9 0), .null, .null, .null, .null, .null, .int 0, .int 0, .int 0])) :: [] : va_W) ++ pool 20 ad9 (cfSt E ad9)) := hD
  refine lv_aload_n hx hb dX9_init_15 rfl (lv_at hl 0 rfl) ?_
  refine va_new (ci := 9) (fs := [.null, .null, .null, .null, .int 0]) (C := RX8) (T := TX8) (N := 5) hx hb hts in_X8 tyX8 tyX8_ok hown (hts _ tw_1_42) (hts _ tw_1_43) (hts _ tw_1_2) hK hP hD hS hA rfl (fun j hj => by rcases (show j = 0 ∨ j = 1 ∨ j = 2 ∨ j = 3 ∨ j = 4 by omega) with rfl | rfl | rfl | rfl | rfl <;> rfl) (Nat.le_of_ble_eq_true rfl) (Nat.le_of_ble_eq_true rfl) dX9_init_16 (fun q16 H hP hD hS => ?_)
  refine lv_dup hx hb dX9_init_19 rfl ?_
  refine i_ctorN (As := []) (cf := cfSt E) hC hsub hP hD hS hA hl.1 (m_X8_init l E _ _) cv_X8_init tw_1_44 rfl rfl ⟨Nat.le_of_ble_eq_true rfl, Nat.le_of_ble_eq_true rfl⟩ ⟨Nat.le_of_ble_eq_true rfl, Nat.le_of_ble_eq_true rfl⟩ (Nat.le_of_ble_eq_true rfl) dX9_init_20 (fun ad20 H locs h20 hP hD hS => ?_)
  rw [← h20]
  have hP : va_P (eD E) vwCl ((((b0, .inr (10, [.ref (ad9 0), .null, .null, .null, .null, .null, .int 0, .int 0, .int 0])) :: [] : va_W) ++ pool 20 ad9 (cfSt E ad9)) ++ pool 20 ad20 (cfSt E ad20)) H := hP
  have hD : va_D (fre b0 s.heap.size) ((((b0, .inr (10, [.ref (ad9 0), .null, .null, .null, .null, .null, .int 0, .int 0, .int 0])) :: [] : va_W) ++ pool 20 ad9 (cfSt E ad9)) ++ pool 20 ad20 (cfSt E ad20)) := hD
  refine va_putF hx hb hts in_X9 tyX9 tyX9_ok nmX9 hown hK hP hD hS 0 rfl rfl 1 (by decide) (hts _ tw_1_214) (fun _ h => h) rfl hC.2 rfl rfl rfl rfl (Nat.le_of_ble_eq_true rfl) dX9_init_23 (fun H locs hP hD hS => ?_)
  have hP : va_P (eD E) vwCl ((((b0, .inr (10, [.ref (ad9 0), .ref (ad20 0), .null, .null, .null, .null, .int 0, .int 0, .int 0])) :: [] : va_W) ++ pool 20 ad9 (cfSt E ad9)) ++ pool 20 ad20 (cfSt E ad20)) H := hP
  have hD : va_D (fre b0 s.heap.size) ((((b0, .inr (10, [.ref (ad9 0), .ref (ad20 0), .null, .null, .null, .null, .int 0, .int 0, .int 0])) :: [] : va_W) ++ pool 20 ad9 (cfSt E ad9)) ++ pool 20 ad20 (cfSt E ad20)) := hD
  refine lv_aload_n hx hb dX9_init_26 rfl (lv_at hl 0 rfl) ?_
  refine va_new (ci := 5) (fs := [.null, .int 0, .int 0]) (C := RX2) (T := TX2) (N := 3) hx hb hts in_X2 tyX2 tyX2_ok hown (hts _ tw_1_117) (hts _ tw_1_118) (hts _ tw_1_5) hK hP hD hS hA rfl (fun j hj => by rcases (show j = 0 ∨ j = 1 ∨ j = 2 by omega) with rfl | rfl | rfl <;> rfl) (Nat.le_of_ble_eq_true rfl) (Nat.le_of_ble_eq_true rfl) dX9_init_27 (fun q27 H hP hD hS => ?_)
  refine lv_dup hx hb dX9_init_30 rfl ?_
  refine i_ctor (As := []) (cf := cfHi E) hC hsub hP hD hS hA hl.1 (m_X2_init l E hS0 _ _) cv_X2_init tw_1_119 rfl rfl ⟨Nat.le_of_ble_eq_true rfl, Nat.le_of_ble_eq_true rfl⟩ ⟨Nat.le_of_ble_eq_true rfl, Nat.le_of_ble_eq_true rfl⟩ (Nat.le_of_ble_eq_true rfl) dX9_init_31 (fun ad31 H locs h31 hP hD hS => ?_)
  rw [← h31]
  have hP : va_P (eD E) vwCl (((((b0, .inr (10, [.ref (ad9 0), .ref (ad20 0), .null, .null, .null, .null, .int 0, .int 0, .int 0])) :: [] : va_W) ++ pool 20 ad9 (cfSt E ad9)) ++ pool 20 ad20 (cfSt E ad20)) ++ pool 182 ad31 (cfHi E ad31)) H := hP
  have hD : va_D (fre b0 s.heap.size) (((((b0, .inr (10, [.ref (ad9 0), .ref (ad20 0), .null, .null, .null, .null, .int 0, .int 0, .int 0])) :: [] : va_W) ++ pool 20 ad9 (cfSt E ad9)) ++ pool 20 ad20 (cfSt E ad20)) ++ pool 182 ad31 (cfHi E ad31)) := hD
  refine va_putF hx hb hts in_X9 tyX9 tyX9_ok nmX9 hown hK hP hD hS 0 rfl rfl 2 (by decide) (hts _ tw_1_215) (fun _ h => h) rfl hC.2 rfl rfl rfl rfl (Nat.le_of_ble_eq_true rfl) dX9_init_34 (fun H locs hP hD hS => ?_)
  have hP : va_P (eD E) vwCl (((((b0, .inr (10, [.ref (ad9 0), .ref (ad20 0), .ref (ad31 0), .null, .null, .null, .int 0, .int 0, .int 0])) :: [] : va_W) ++ pool 20 ad9 (cfSt E ad9)) ++ pool 20 ad20 (cfSt E ad20)) ++ pool 182 ad31 (cfHi E ad31)) H := hP
  have hD : va_D (fre b0 s.heap.size) (((((b0, .inr (10, [.ref (ad9 0), .ref (ad20 0), .ref (ad31 0), .null, .null, .null, .int 0, .int 0, .int 0])) :: [] : va_W) ++ pool 20 ad9 (cfSt E ad9)) ++ pool 20 ad20 (cfSt E ad20)) ++ pool 182 ad31 (cfHi E ad31)) := hD
  refine lv_aload_n hx hb dX9_init_37 rfl (lv_at hl 0 rfl) ?_
  refine va_new (ci := 6) (fs := [.null, .int 0, .int 0, .int 0]) (C := RX4) (T := TX4) (N := 4) hx hb hts in_X4 tyX4 tyX4_ok hown (hts _ tw_1_137) (hts _ tw_1_138) (hts _ tw_1_6) hK hP hD hS hA rfl (fun j hj => by rcases (show j = 0 ∨ j = 1 ∨ j = 2 ∨ j = 3 by omega) with rfl | rfl | rfl | rfl <;> rfl) (Nat.le_of_ble_eq_true rfl) (Nat.le_of_ble_eq_true rfl) dX9_init_38 (fun q38 H hP hD hS => ?_)
  refine lv_dup hx hb dX9_init_41 rfl ?_
  refine i_ctor (As := []) (cf := cfPr E) hC hsub hP hD hS hA hl.1 (m_X4_init l E hS0 _ _) cv_X4_init tw_1_139 rfl rfl ⟨Nat.le_of_ble_eq_true rfl, Nat.le_of_ble_eq_true rfl⟩ ⟨Nat.le_of_ble_eq_true rfl, Nat.le_of_ble_eq_true rfl⟩ (Nat.le_of_ble_eq_true rfl) dX9_init_42 (fun ad42 H locs h42 hP hD hS => ?_)
  rw [← h42]
  have hP : va_P (eD E) vwCl ((((((b0, .inr (10, [.ref (ad9 0), .ref (ad20 0), .ref (ad31 0), .null, .null, .null, .int 0, .int 0, .int 0])) :: [] : va_W) ++ pool 20 ad9 (cfSt E ad9)) ++ pool 20 ad20 (cfSt E ad20)) ++ pool 182 ad31 (cfHi E ad31)) ++ pool 26 ad42 (cfPr E ad42)) H := hP
  have hD : va_D (fre b0 s.heap.size) ((((((b0, .inr (10, [.ref (ad9 0), .ref (ad20 0), .ref (ad31 0), .null, .null, .null, .int 0, .int 0, .int 0])) :: [] : va_W) ++ pool 20 ad9 (cfSt E ad9)) ++ pool 20 ad20 (cfSt E ad20)) ++ pool 182 ad31 (cfHi E ad31)) ++ pool 26 ad42 (cfPr E ad42)) := hD
  refine va_putF hx hb hts in_X9 tyX9 tyX9_ok nmX9 hown hK hP hD hS 0 rfl rfl 3 (by decide) (hts _ tw_1_216) (fun _ h => h) rfl hC.2 rfl rfl rfl rfl (Nat.le_of_ble_eq_true rfl) dX9_init_45 (fun H locs hP hD hS => ?_)
  have hP : va_P (eD E) vwCl ((((((b0, .inr (10, [.ref (ad9 0), .ref (ad20 0), .ref (ad31 0), .ref (ad42 0), .null, .null, .int 0, .int 0, .int 0])) :: [] : va_W) ++ pool 20 ad9 (cfSt E ad9)) ++ pool 20 ad20 (cfSt E ad20)) ++ pool 182 ad31 (cfHi E ad31)) ++ pool 26 ad42 (cfPr E ad42)) H := hP
  have hD : va_D (fre b0 s.heap.size) ((((((b0, .inr (10, [.ref (ad9 0), .ref (ad20 0), .ref (ad31 0), .ref (ad42 0), .null, .null, .int 0, .int 0, .int 0])) :: [] : va_W) ++ pool 20 ad9 (cfSt E ad9)) ++ pool 20 ad20 (cfSt E ad20)) ++ pool 182 ad31 (cfHi E ad31)) ++ pool 26 ad42 (cfPr E ad42)) := hD
  refine lv_aload_n hx hb dX9_init_48 rfl (lv_at hl 0 rfl) ?_
  refine va_new (ci := 1) (fs := [.null, .int 0, .int 0, .int 0]) (C := RJ4) (T := TJ4) (N := 4) hx hb hts in_J4 tyJ4 tyJ4_ok hown (hts _ tw_1_180) (hts _ tw_1_181) (hts _ tw_1_11) hK hP hD hS hA rfl (fun j hj => by rcases (show j = 0 ∨ j = 1 ∨ j = 2 ∨ j = 3 by omega) with rfl | rfl | rfl | rfl <;> rfl) (Nat.le_of_ble_eq_true rfl) (Nat.le_of_ble_eq_true rfl) dX9_init_49 (fun q49 H hP hD hS => ?_)
  refine lv_dup hx hb dX9_init_52 rfl ?_
  refine i_ctor (As := []) (cf := cfTx E) hC hsub hP hD hS hA hl.1 (m_J4_init_da8c8 l E hS0 _ _) cv_J4_init_da8c8 tw_1_182 rfl rfl ⟨Nat.le_of_ble_eq_true rfl, Nat.le_of_ble_eq_true rfl⟩ ⟨Nat.le_of_ble_eq_true rfl, Nat.le_of_ble_eq_true rfl⟩ (Nat.le_of_ble_eq_true rfl) dX9_init_53 (fun ad53 H locs h53 hP hD hS => ?_)
  rw [← h53]
  have hP : va_P (eD E) vwCl (((((((b0, .inr (10, [.ref (ad9 0), .ref (ad20 0), .ref (ad31 0), .ref (ad42 0), .null, .null, .int 0, .int 0, .int 0])) :: [] : va_W) ++ pool 20 ad9 (cfSt E ad9)) ++ pool 20 ad20 (cfSt E ad20)) ++ pool 182 ad31 (cfHi E ad31)) ++ pool 26 ad42 (cfPr E ad42)) ++ pool 2 ad53 (cfTx E ad53)) H := hP
  have hD : va_D (fre b0 s.heap.size) (((((((b0, .inr (10, [.ref (ad9 0), .ref (ad20 0), .ref (ad31 0), .ref (ad42 0), .null, .null, .int 0, .int 0, .int 0])) :: [] : va_W) ++ pool 20 ad9 (cfSt E ad9)) ++ pool 20 ad20 (cfSt E ad20)) ++ pool 182 ad31 (cfHi E ad31)) ++ pool 26 ad42 (cfPr E ad42)) ++ pool 2 ad53 (cfTx E ad53)) := hD
  refine va_putF hx hb hts in_X9 tyX9 tyX9_ok nmX9 hown hK hP hD hS 0 rfl rfl 4 (by decide) (hts _ tw_1_217) (fun _ h => h) rfl hC.2 rfl rfl rfl rfl (Nat.le_of_ble_eq_true rfl) dX9_init_56 (fun H locs hP hD hS => ?_)
  have hP : va_P (eD E) vwCl (((((((b0, .inr (10, [.ref (ad9 0), .ref (ad20 0), .ref (ad31 0), .ref (ad42 0), .ref (ad53 0), .null, .int 0, .int 0, .int 0])) :: [] : va_W) ++ pool 20 ad9 (cfSt E ad9)) ++ pool 20 ad20 (cfSt E ad20)) ++ pool 182 ad31 (cfHi E ad31)) ++ pool 26 ad42 (cfPr E ad42)) ++ pool 2 ad53 (cfTx E ad53)) H := hP
  have hD : va_D (fre b0 s.heap.size) (((((((b0, .inr (10, [.ref (ad9 0), .ref (ad20 0), .ref (ad31 0), .ref (ad42 0), .ref (ad53 0), .null, .int 0, .int 0, .int 0])) :: [] : va_W) ++ pool 20 ad9 (cfSt E ad9)) ++ pool 20 ad20 (cfSt E ad20)) ++ pool 182 ad31 (cfHi E ad31)) ++ pool 26 ad42 (cfPr E ad42)) ++ pool 2 ad53 (cfTx E ad53)) := hD
  refine lv_aload_n hx hb dX9_init_59 rfl (lv_at hl 0 rfl) ?_
  refine va_new (ci := 1) (fs := [.null, .int 0, .int 0, .int 0]) (C := RJ4) (T := TJ4) (N := 4) hx hb hts in_J4 tyJ4 tyJ4_ok hown (hts _ tw_1_180) (hts _ tw_1_181) (hts _ tw_1_11) hK hP hD hS hA rfl (fun j hj => by rcases (show j = 0 ∨ j = 1 ∨ j = 2 ∨ j = 3 by omega) with rfl | rfl | rfl | rfl <;> rfl) (Nat.le_of_ble_eq_true rfl) (Nat.le_of_ble_eq_true rfl) dX9_init_60 (fun q60 H hP hD hS => ?_)
  refine lv_dup hx hb dX9_init_63 rfl ?_
  refine i_ctor (As := []) (cf := cfTx E) hC hsub hP hD hS hA hl.1 (m_J4_init_da8c8 l E hS0 _ _) cv_J4_init_da8c8 tw_1_182 rfl rfl ⟨Nat.le_of_ble_eq_true rfl, Nat.le_of_ble_eq_true rfl⟩ ⟨Nat.le_of_ble_eq_true rfl, Nat.le_of_ble_eq_true rfl⟩ (Nat.le_of_ble_eq_true rfl) dX9_init_64 (fun ad64 H locs h64 hP hD hS => ?_)
  rw [← h64]
  have hP : va_P (eD E) vwCl ((((((((b0, .inr (10, [.ref (ad9 0), .ref (ad20 0), .ref (ad31 0), .ref (ad42 0), .ref (ad53 0), .null, .int 0, .int 0, .int 0])) :: [] : va_W) ++ pool 20 ad9 (cfSt E ad9)) ++ pool 20 ad20 (cfSt E ad20)) ++ pool 182 ad31 (cfHi E ad31)) ++ pool 26 ad42 (cfPr E ad42)) ++ pool 2 ad53 (cfTx E ad53)) ++ pool 2 ad64 (cfTx E ad64)) H := hP
  have hD : va_D (fre b0 s.heap.size) ((((((((b0, .inr (10, [.ref (ad9 0), .ref (ad20 0), .ref (ad31 0), .ref (ad42 0), .ref (ad53 0), .null, .int 0, .int 0, .int 0])) :: [] : va_W) ++ pool 20 ad9 (cfSt E ad9)) ++ pool 20 ad20 (cfSt E ad20)) ++ pool 182 ad31 (cfHi E ad31)) ++ pool 26 ad42 (cfPr E ad42)) ++ pool 2 ad53 (cfTx E ad53)) ++ pool 2 ad64 (cfTx E ad64)) := hD
  refine va_putF hx hb hts in_X9 tyX9 tyX9_ok nmX9 hown hK hP hD hS 0 rfl rfl 5 (by decide) (hts _ tw_1_218) (fun _ h => h) rfl hC.2 rfl rfl rfl rfl (Nat.le_of_ble_eq_true rfl) dX9_init_67 (fun H locs hP hD hS => ?_)
  have hP : va_P (eD E) vwCl ((((((((b0, .inr (10, [.ref (ad9 0), .ref (ad20 0), .ref (ad31 0), .ref (ad42 0), .ref (ad53 0), .ref (ad64 0), .int 0, .int 0, .int 0])) :: [] : va_W) ++ pool 20 ad9 (cfSt E ad9)) ++ pool 20 ad20 (cfSt E ad20)) ++ pool 182 ad31 (cfHi E ad31)) ++ pool 26 ad42 (cfPr E ad42)) ++ pool 2 ad53 (cfTx E ad53)) ++ pool 2 ad64 (cfTx E ad64)) H := hP
  have hD : va_D (fre b0 s.heap.size) ((((((((b0, .inr (10, [.ref (ad9 0), .ref (ad20 0), .ref (ad31 0), .ref (ad42 0), .ref (ad53 0), .ref (ad64 0), .int 0, .int 0, .int 0])) :: [] : va_W) ++ pool 20 ad9 (cfSt E ad9)) ++ pool 20 ad20 (cfSt E ad20)) ++ pool 182 ad31 (cfHi E ad31)) ++ pool 26 ad42 (cfPr E ad42)) ++ pool 2 ad53 (cfTx E ad53)) ++ pool 2 ad64 (cfTx E ad64)) := hD
  refine lv_aload_n hx hb dX9_init_70 rfl (lv_at hl 0 rfl) ?_
  refine lv_iconst (v := (-1)) hx hb dX9_init_71 rfl ?_
  refine va_put hx hb hts in_X9 tyX9 tyX9_ok nmX9 hown hK hP hD hS 0 rfl rfl 7 (by decide) (hts _ tw_1_220) (fun _ h => h) rfl rfl rfl rfl (Nat.le_of_ble_eq_true rfl) dX9_init_72 (fun H locs hP hD hS => ?_)
  have hP : va_P (eD E) vwCl ((((((((b0, .inr (10, [.ref (ad9 0), .ref (ad20 0), .ref (ad31 0), .ref (ad42 0), .ref (ad53 0), .ref (ad64 0), .int 0, .int (-1), .int 0])) :: [] : va_W) ++ pool 20 ad9 (cfSt E ad9)) ++ pool 20 ad20 (cfSt E ad20)) ++ pool 182 ad31 (cfHi E ad31)) ++ pool 26 ad42 (cfPr E ad42)) ++ pool 2 ad53 (cfTx E ad53)) ++ pool 2 ad64 (cfTx E ad64)) H := hP
  have hD : va_D (fre b0 s.heap.size) ((((((((b0, .inr (10, [.ref (ad9 0), .ref (ad20 0), .ref (ad31 0), .ref (ad42 0), .ref (ad53 0), .ref (ad64 0), .int 0, .int (-1), .int 0])) :: [] : va_W) ++ pool 20 ad9 (cfSt E ad9)) ++ pool 20 ad20 (cfSt E ad20)) ++ pool 182 ad31 (cfHi E ad31)) ++ pool 26 ad42 (cfPr E ad42)) ++ pool 2 ad53 (cfTx E ad53)) ++ pool 2 ad64 (cfTx E ad64)) := hD
  refine lv_aload_n hx hb dX9_init_75 rfl (lv_at hl 0 rfl) ?_
  refine lv_iconst (v := (-1)) hx hb dX9_init_76 rfl ?_
  refine va_put hx hb hts in_X9 tyX9 tyX9_ok nmX9 hown hK hP hD hS 0 rfl rfl 8 (by decide) (hts _ tw_1_221) (fun _ h => h) rfl rfl rfl rfl (Nat.le_of_ble_eq_true rfl) dX9_init_77 (fun H locs hP hD hS => ?_)
  have hP : va_P (eD E) vwCl ((((((((b0, .inr (10, [.ref (ad9 0), .ref (ad20 0), .ref (ad31 0), .ref (ad42 0), .ref (ad53 0), .ref (ad64 0), .int 0, .int (-1), .int (-1)])) :: [] : va_W) ++ pool 20 ad9 (cfSt E ad9)) ++ pool 20 ad20 (cfSt E ad20)) ++ pool 182 ad31 (cfHi E ad31)) ++ pool 26 ad42 (cfPr E ad42)) ++ pool 2 ad53 (cfTx E ad53)) ++ pool 2 ad64 (cfTx E ad64)) H := hP
  have hD : va_D (fre b0 s.heap.size) ((((((((b0, .inr (10, [.ref (ad9 0), .ref (ad20 0), .ref (ad31 0), .ref (ad42 0), .ref (ad53 0), .ref (ad64 0), .int 0, .int (-1), .int (-1)])) :: [] : va_W) ++ pool 20 ad9 (cfSt E ad9)) ++ pool 20 ad20 (cfSt E ad20)) ++ pool 182 ad31 (cfHi E ad31)) ++ pool 26 ad42 (cfPr E ad42)) ++ pool 2 ad53 (cfTx E ad53)) ++ pool 2 ad64 (cfTx E ad64)) := hD
  refine x_wid (c2 := 252) (s2 := 4575) (Nat.le_of_ble_eq_true rfl) (Nat.le_of_ble_eq_true rfl) ?_
  exact W.vret hx hb hC.1.2.2.2.2.2.2.2.2.2.1 (fun t ht _ => ⟨⟨rfl, _, ⟨ad9, ad20, ad31, ad42, ad53, ad64, rfl⟩, by rw [ht]; exact hP, hD⟩, hS.F ht⟩) hS.2.2 dX9_init_80 hC.1.2.2.2.2.2.2.2.2.2.2.1
/-- the texts that the reference reads commands by -/
def V0let (j : Nat) : Int32 := ([101, 100, 105, 116, 32, 114, 101, 118, 101, 114, 116, 32, 99, 111, 109, 109, 105, 116, 32, 98, 114, 97, 110, 99, 104, 32, 99, 108, 111, 115, 101, 32, 109, 101, 114, 103, 101, 32, 111, 117, 114, 115, 32, 116, 104, 101, 105, 114, 115, 32, 112, 105, 99, 107, 32, 114, 101, 115, 101, 116, 32, 116, 97, 103, 32, 117, 110, 116, 97, 103, 32, 97, 114, 99, 104, 105, 118, 101] : List Int32).getD j 0
def V0beg (j : Nat) : Int32 := ([0, 5, 12, 19, 26, 32, 38, 43, 50, 55, 61, 65, 71, 78] : List Int32).getD j 0
def letF (i : Nat) : Nat → Int32 := fun j => if j < i then V0let j else 0
def begF (i : Nat) : Nat → Int32 := fun j => if j < i then V0beg j else 0
def V0m4 (j : Nat) : Int32 := ([1, 1, -1, -1] : List Int32).getD j 0
def mA0 (i : Nat) : Nat → Int32 := fun j => if j < i then V0m4 j else 0
def mB (i : Nat) : Nat → Int32 := fun j => if 6 ≤ j ∧ j < 6 + i ∨ 291 ≤ j ∧ j < 291 + i then 97 else mA0 4 j
def mC (i : Nat) : Nat → Int32 := fun j => if 335 ≤ j ∧ j < 335 + i then -1 else mB 8 j
theorem mC_0 : mC 0 = mB 8 := by funext j; unfold mC; rw [if_neg (by omega)]
theorem mB_0 : mB 0 = mA0 4 := by funext j; unfold mB; rw [if_neg (by omega)]
theorem letF_0 : letF 0 = fun _ => 0 := rfl
theorem begF_0 : begF 0 = fun _ => 0 := rfl
theorem ups_s {g : Nat → Int32} {i : Nat} {c : Int32} (h : g i = c) : upd (fun j => if j < i then g j else 0) i c = fun j => if j < i + 1 then g j else 0 := by
  funext j
  by_cases e : j = i
  · subst e; simp [upd, h]
  · by_cases e2 : j < i
    · simp [upd, e, e2, show j < i + 1 by omega]
    · simp [upd, e, e2, show ¬ j < i + 1 by omega]
theorem letF_s {i : Nat} {c : Int32} (h : V0let i = c) : upd (letF i) i c = letF (i + 1) := ups_s h
theorem begF_s {i : Nat} {c : Int32} (h : V0beg i = c) : upd (begF i) i c = begF (i + 1) := ups_s h
theorem mA0_s {i : Nat} {c : Int32} (h : V0m4 i = c) : upd (mA0 i) i c = mA0 (i + 1) := ups_s h
def cfMo (E : En) (ad : Nat → Nat) (i : Nat) : va_E := match i with
  | 0 => .inr (11, [.ref (ad 1), .ref (ad 2), .ref (ad 3), .int 0, .ref (ad 4), .int 0, .int (-1), .int (-1), .int 0, .ref (ad 5), .int 0, .ref (ad 6), .ref (ad 7), .ref (ad 8), .int 0, .ref (ad 9), .ref (ad 10), .ref (ad 11), .int 0, .int 0, .int 0, .int 0])
  | 1 => .inl (eC E 0, 361, .inl (mC 26))
  | 2 => .inl (eC E 0, 361, .inl (fun _ => 0))
  | 3 => .inl (eC E 0, 361, .inl (fun _ => 0))
  | 4 => .inl (eC E 0, 2888, .inl (fun _ => 0))
  | 5 => .inl (eC E 0, 60, .inl (fun _ => 0))
  | 6 => .inl (eC E 0, 24, .inl (fun _ => 0))
  | 7 => .inl (eC E 0, 24, .inl (fun _ => 0))
  | 8 => .inl (eC E 0, 40, .inl (fun _ => 0))
  | 9 => .inl (eC E 2, 78, .inl (letF 78))
  | 10 => .inl (eC E 0, 14, .inl (begF 14))
  | _ => .inl (eC E 0, 244, .inl (fun _ => 0))
theorem dX10_init_0 : decode cX10_init 0 = .ok (.aload_n 0, 1) := by decide +kernel
theorem dX10_init_1 : decode cX10_init 1 = .ok (.invokespecial 1, 3) := by decide +kernel
theorem dX10_init_4 : decode cX10_init 4 = .ok (.aload_n 0, 1) := by decide +kernel
theorem dX10_init_5 : decode cX10_init 5 = .ok (.sipush 361, 3) := by decide +kernel
theorem dX10_init_8 : decode cX10_init 8 = .ok (.newarray .int, 2) := by decide +kernel
theorem dX10_init_10 : decode cX10_init 10 = .ok (.putfield 9, 3) := by decide +kernel
theorem dX10_init_13 : decode cX10_init 13 = .ok (.aload_n 0, 1) := by decide +kernel
theorem dX10_init_14 : decode cX10_init 14 = .ok (.sipush 361, 3) := by decide +kernel
theorem dX10_init_17 : decode cX10_init 17 = .ok (.newarray .int, 2) := by decide +kernel
theorem dX10_init_19 : decode cX10_init 19 = .ok (.putfield 13, 3) := by decide +kernel
theorem dX10_init_22 : decode cX10_init 22 = .ok (.aload_n 0, 1) := by decide +kernel
theorem dX10_init_23 : decode cX10_init 23 = .ok (.sipush 361, 3) := by decide +kernel
theorem dX10_init_26 : decode cX10_init 26 = .ok (.newarray .int, 2) := by decide +kernel
theorem dX10_init_28 : decode cX10_init 28 = .ok (.putfield 16, 3) := by decide +kernel
theorem dX10_init_31 : decode cX10_init 31 = .ok (.aload_n 0, 1) := by decide +kernel
theorem dX10_init_32 : decode cX10_init 32 = .ok (.sipush 2888, 3) := by decide +kernel
theorem dX10_init_35 : decode cX10_init 35 = .ok (.newarray .int, 2) := by decide +kernel
theorem dX10_init_37 : decode cX10_init 37 = .ok (.putfield 19, 3) := by decide +kernel
theorem dX10_init_40 : decode cX10_init 40 = .ok (.aload_n 0, 1) := by decide +kernel
theorem dX10_init_41 : decode cX10_init 41 = .ok (.iconst (-1), 1) := by decide +kernel
theorem dX10_init_42 : decode cX10_init 42 = .ok (.putfield 22, 3) := by decide +kernel
theorem dX10_init_45 : decode cX10_init 45 = .ok (.aload_n 0, 1) := by decide +kernel
theorem dX10_init_46 : decode cX10_init 46 = .ok (.iconst (-1), 1) := by decide +kernel
theorem dX10_init_47 : decode cX10_init 47 = .ok (.putfield 26, 3) := by decide +kernel
theorem dX10_init_50 : decode cX10_init 50 = .ok (.aload_n 0, 1) := by decide +kernel
theorem dX10_init_51 : decode cX10_init 51 = .ok (.bipush 60, 2) := by decide +kernel
theorem dX10_init_53 : decode cX10_init 53 = .ok (.newarray .int, 2) := by decide +kernel
theorem dX10_init_55 : decode cX10_init 55 = .ok (.putfield 29, 3) := by decide +kernel
theorem dX10_init_58 : decode cX10_init 58 = .ok (.aload_n 0, 1) := by decide +kernel
theorem dX10_init_59 : decode cX10_init 59 = .ok (.bipush 24, 2) := by decide +kernel
theorem dX10_init_61 : decode cX10_init 61 = .ok (.newarray .int, 2) := by decide +kernel
theorem dX10_init_63 : decode cX10_init 63 = .ok (.putfield 32, 3) := by decide +kernel
theorem dX10_init_66 : decode cX10_init 66 = .ok (.aload_n 0, 1) := by decide +kernel
theorem dX10_init_67 : decode cX10_init 67 = .ok (.bipush 24, 2) := by decide +kernel
theorem dX10_init_69 : decode cX10_init 69 = .ok (.newarray .int, 2) := by decide +kernel
theorem dX10_init_71 : decode cX10_init 71 = .ok (.putfield 35, 3) := by decide +kernel
theorem dX10_init_74 : decode cX10_init 74 = .ok (.aload_n 0, 1) := by decide +kernel
theorem dX10_init_75 : decode cX10_init 75 = .ok (.bipush 40, 2) := by decide +kernel
theorem dX10_init_77 : decode cX10_init 77 = .ok (.newarray .int, 2) := by decide +kernel
theorem dX10_init_79 : decode cX10_init 79 = .ok (.putfield 38, 3) := by decide +kernel
theorem dX10_init_82 : decode cX10_init 82 = .ok (.aload_n 0, 1) := by decide +kernel
theorem dX10_init_83 : decode cX10_init 83 = .ok (.bipush 78, 2) := by decide +kernel
theorem dX10_init_85 : decode cX10_init 85 = .ok (.newarray .char, 2) := by decide +kernel
theorem dX10_init_87 : decode cX10_init 87 = .ok (.dup, 1) := by decide +kernel
theorem dX10_init_88 : decode cX10_init 88 = .ok (.iconst 0, 1) := by decide +kernel
theorem dX10_init_89 : decode cX10_init 89 = .ok (.bipush 101, 2) := by decide +kernel
theorem dX10_init_91 : decode cX10_init 91 = .ok (.castore, 1) := by decide +kernel
theorem dX10_init_92 : decode cX10_init 92 = .ok (.dup, 1) := by decide +kernel
theorem dX10_init_93 : decode cX10_init 93 = .ok (.iconst 1, 1) := by decide +kernel
theorem dX10_init_94 : decode cX10_init 94 = .ok (.bipush 100, 2) := by decide +kernel
theorem dX10_init_96 : decode cX10_init 96 = .ok (.castore, 1) := by decide +kernel
theorem dX10_init_97 : decode cX10_init 97 = .ok (.dup, 1) := by decide +kernel
theorem dX10_init_98 : decode cX10_init 98 = .ok (.iconst 2, 1) := by decide +kernel
theorem dX10_init_99 : decode cX10_init 99 = .ok (.bipush 105, 2) := by decide +kernel
theorem dX10_init_101 : decode cX10_init 101 = .ok (.castore, 1) := by decide +kernel
theorem dX10_init_102 : decode cX10_init 102 = .ok (.dup, 1) := by decide +kernel
theorem dX10_init_103 : decode cX10_init 103 = .ok (.iconst 3, 1) := by decide +kernel
theorem dX10_init_104 : decode cX10_init 104 = .ok (.bipush 116, 2) := by decide +kernel
theorem dX10_init_106 : decode cX10_init 106 = .ok (.castore, 1) := by decide +kernel
theorem dX10_init_107 : decode cX10_init 107 = .ok (.dup, 1) := by decide +kernel
theorem dX10_init_108 : decode cX10_init 108 = .ok (.iconst 4, 1) := by decide +kernel
theorem dX10_init_109 : decode cX10_init 109 = .ok (.bipush 32, 2) := by decide +kernel
theorem dX10_init_111 : decode cX10_init 111 = .ok (.castore, 1) := by decide +kernel
theorem dX10_init_112 : decode cX10_init 112 = .ok (.dup, 1) := by decide +kernel
theorem dX10_init_113 : decode cX10_init 113 = .ok (.iconst 5, 1) := by decide +kernel
theorem dX10_init_114 : decode cX10_init 114 = .ok (.bipush 114, 2) := by decide +kernel
theorem dX10_init_116 : decode cX10_init 116 = .ok (.castore, 1) := by decide +kernel
theorem dX10_init_117 : decode cX10_init 117 = .ok (.dup, 1) := by decide +kernel
theorem dX10_init_118 : decode cX10_init 118 = .ok (.bipush 6, 2) := by decide +kernel
theorem dX10_init_120 : decode cX10_init 120 = .ok (.bipush 101, 2) := by decide +kernel
theorem dX10_init_122 : decode cX10_init 122 = .ok (.castore, 1) := by decide +kernel
theorem dX10_init_123 : decode cX10_init 123 = .ok (.dup, 1) := by decide +kernel
theorem dX10_init_124 : decode cX10_init 124 = .ok (.bipush 7, 2) := by decide +kernel
theorem dX10_init_126 : decode cX10_init 126 = .ok (.bipush 118, 2) := by decide +kernel
theorem dX10_init_128 : decode cX10_init 128 = .ok (.castore, 1) := by decide +kernel
theorem dX10_init_129 : decode cX10_init 129 = .ok (.dup, 1) := by decide +kernel
theorem dX10_init_130 : decode cX10_init 130 = .ok (.bipush 8, 2) := by decide +kernel
theorem dX10_init_132 : decode cX10_init 132 = .ok (.bipush 101, 2) := by decide +kernel
theorem dX10_init_134 : decode cX10_init 134 = .ok (.castore, 1) := by decide +kernel
theorem dX10_init_135 : decode cX10_init 135 = .ok (.dup, 1) := by decide +kernel
theorem dX10_init_136 : decode cX10_init 136 = .ok (.bipush 9, 2) := by decide +kernel
theorem dX10_init_138 : decode cX10_init 138 = .ok (.bipush 114, 2) := by decide +kernel
theorem dX10_init_140 : decode cX10_init 140 = .ok (.castore, 1) := by decide +kernel
theorem dX10_init_141 : decode cX10_init 141 = .ok (.dup, 1) := by decide +kernel
theorem dX10_init_142 : decode cX10_init 142 = .ok (.bipush 10, 2) := by decide +kernel
theorem dX10_init_144 : decode cX10_init 144 = .ok (.bipush 116, 2) := by decide +kernel
theorem dX10_init_146 : decode cX10_init 146 = .ok (.castore, 1) := by decide +kernel
theorem dX10_init_147 : decode cX10_init 147 = .ok (.dup, 1) := by decide +kernel
theorem dX10_init_148 : decode cX10_init 148 = .ok (.bipush 11, 2) := by decide +kernel
theorem dX10_init_150 : decode cX10_init 150 = .ok (.bipush 32, 2) := by decide +kernel
theorem dX10_init_152 : decode cX10_init 152 = .ok (.castore, 1) := by decide +kernel
theorem dX10_init_153 : decode cX10_init 153 = .ok (.dup, 1) := by decide +kernel
theorem dX10_init_154 : decode cX10_init 154 = .ok (.bipush 12, 2) := by decide +kernel
theorem dX10_init_156 : decode cX10_init 156 = .ok (.bipush 99, 2) := by decide +kernel
theorem dX10_init_158 : decode cX10_init 158 = .ok (.castore, 1) := by decide +kernel
theorem dX10_init_159 : decode cX10_init 159 = .ok (.dup, 1) := by decide +kernel
theorem dX10_init_160 : decode cX10_init 160 = .ok (.bipush 13, 2) := by decide +kernel
theorem dX10_init_162 : decode cX10_init 162 = .ok (.bipush 111, 2) := by decide +kernel
theorem dX10_init_164 : decode cX10_init 164 = .ok (.castore, 1) := by decide +kernel
theorem dX10_init_165 : decode cX10_init 165 = .ok (.dup, 1) := by decide +kernel
theorem dX10_init_166 : decode cX10_init 166 = .ok (.bipush 14, 2) := by decide +kernel
theorem dX10_init_168 : decode cX10_init 168 = .ok (.bipush 109, 2) := by decide +kernel
theorem dX10_init_170 : decode cX10_init 170 = .ok (.castore, 1) := by decide +kernel
theorem dX10_init_171 : decode cX10_init 171 = .ok (.dup, 1) := by decide +kernel
theorem dX10_init_172 : decode cX10_init 172 = .ok (.bipush 15, 2) := by decide +kernel
theorem dX10_init_174 : decode cX10_init 174 = .ok (.bipush 109, 2) := by decide +kernel
theorem dX10_init_176 : decode cX10_init 176 = .ok (.castore, 1) := by decide +kernel
theorem dX10_init_177 : decode cX10_init 177 = .ok (.dup, 1) := by decide +kernel
theorem dX10_init_178 : decode cX10_init 178 = .ok (.bipush 16, 2) := by decide +kernel
theorem dX10_init_180 : decode cX10_init 180 = .ok (.bipush 105, 2) := by decide +kernel
theorem dX10_init_182 : decode cX10_init 182 = .ok (.castore, 1) := by decide +kernel
theorem dX10_init_183 : decode cX10_init 183 = .ok (.dup, 1) := by decide +kernel
theorem dX10_init_184 : decode cX10_init 184 = .ok (.bipush 17, 2) := by decide +kernel
theorem dX10_init_186 : decode cX10_init 186 = .ok (.bipush 116, 2) := by decide +kernel
theorem dX10_init_188 : decode cX10_init 188 = .ok (.castore, 1) := by decide +kernel
theorem dX10_init_189 : decode cX10_init 189 = .ok (.dup, 1) := by decide +kernel
theorem dX10_init_190 : decode cX10_init 190 = .ok (.bipush 18, 2) := by decide +kernel
theorem dX10_init_192 : decode cX10_init 192 = .ok (.bipush 32, 2) := by decide +kernel
theorem dX10_init_194 : decode cX10_init 194 = .ok (.castore, 1) := by decide +kernel
theorem dX10_init_195 : decode cX10_init 195 = .ok (.dup, 1) := by decide +kernel
theorem dX10_init_196 : decode cX10_init 196 = .ok (.bipush 19, 2) := by decide +kernel
theorem dX10_init_198 : decode cX10_init 198 = .ok (.bipush 98, 2) := by decide +kernel
theorem dX10_init_200 : decode cX10_init 200 = .ok (.castore, 1) := by decide +kernel
theorem dX10_init_201 : decode cX10_init 201 = .ok (.dup, 1) := by decide +kernel
theorem dX10_init_202 : decode cX10_init 202 = .ok (.bipush 20, 2) := by decide +kernel
theorem dX10_init_204 : decode cX10_init 204 = .ok (.bipush 114, 2) := by decide +kernel
theorem dX10_init_206 : decode cX10_init 206 = .ok (.castore, 1) := by decide +kernel
theorem dX10_init_207 : decode cX10_init 207 = .ok (.dup, 1) := by decide +kernel
theorem dX10_init_208 : decode cX10_init 208 = .ok (.bipush 21, 2) := by decide +kernel
theorem dX10_init_210 : decode cX10_init 210 = .ok (.bipush 97, 2) := by decide +kernel
theorem dX10_init_212 : decode cX10_init 212 = .ok (.castore, 1) := by decide +kernel
theorem dX10_init_213 : decode cX10_init 213 = .ok (.dup, 1) := by decide +kernel
theorem dX10_init_214 : decode cX10_init 214 = .ok (.bipush 22, 2) := by decide +kernel
theorem dX10_init_216 : decode cX10_init 216 = .ok (.bipush 110, 2) := by decide +kernel
theorem dX10_init_218 : decode cX10_init 218 = .ok (.castore, 1) := by decide +kernel
theorem dX10_init_219 : decode cX10_init 219 = .ok (.dup, 1) := by decide +kernel
theorem dX10_init_220 : decode cX10_init 220 = .ok (.bipush 23, 2) := by decide +kernel
theorem dX10_init_222 : decode cX10_init 222 = .ok (.bipush 99, 2) := by decide +kernel
theorem dX10_init_224 : decode cX10_init 224 = .ok (.castore, 1) := by decide +kernel
theorem dX10_init_225 : decode cX10_init 225 = .ok (.dup, 1) := by decide +kernel
theorem dX10_init_226 : decode cX10_init 226 = .ok (.bipush 24, 2) := by decide +kernel
theorem dX10_init_228 : decode cX10_init 228 = .ok (.bipush 104, 2) := by decide +kernel
theorem dX10_init_230 : decode cX10_init 230 = .ok (.castore, 1) := by decide +kernel
theorem dX10_init_231 : decode cX10_init 231 = .ok (.dup, 1) := by decide +kernel
theorem dX10_init_232 : decode cX10_init 232 = .ok (.bipush 25, 2) := by decide +kernel
theorem dX10_init_234 : decode cX10_init 234 = .ok (.bipush 32, 2) := by decide +kernel
theorem dX10_init_236 : decode cX10_init 236 = .ok (.castore, 1) := by decide +kernel
theorem dX10_init_237 : decode cX10_init 237 = .ok (.dup, 1) := by decide +kernel
theorem dX10_init_238 : decode cX10_init 238 = .ok (.bipush 26, 2) := by decide +kernel
theorem dX10_init_240 : decode cX10_init 240 = .ok (.bipush 99, 2) := by decide +kernel
theorem dX10_init_242 : decode cX10_init 242 = .ok (.castore, 1) := by decide +kernel
theorem dX10_init_243 : decode cX10_init 243 = .ok (.dup, 1) := by decide +kernel
theorem dX10_init_244 : decode cX10_init 244 = .ok (.bipush 27, 2) := by decide +kernel
theorem dX10_init_246 : decode cX10_init 246 = .ok (.bipush 108, 2) := by decide +kernel
theorem dX10_init_248 : decode cX10_init 248 = .ok (.castore, 1) := by decide +kernel
theorem dX10_init_249 : decode cX10_init 249 = .ok (.dup, 1) := by decide +kernel
theorem dX10_init_250 : decode cX10_init 250 = .ok (.bipush 28, 2) := by decide +kernel
theorem dX10_init_252 : decode cX10_init 252 = .ok (.bipush 111, 2) := by decide +kernel
theorem dX10_init_254 : decode cX10_init 254 = .ok (.castore, 1) := by decide +kernel
theorem dX10_init_255 : decode cX10_init 255 = .ok (.dup, 1) := by decide +kernel
theorem dX10_init_256 : decode cX10_init 256 = .ok (.bipush 29, 2) := by decide +kernel
theorem dX10_init_258 : decode cX10_init 258 = .ok (.bipush 115, 2) := by decide +kernel
theorem dX10_init_260 : decode cX10_init 260 = .ok (.castore, 1) := by decide +kernel
theorem dX10_init_261 : decode cX10_init 261 = .ok (.dup, 1) := by decide +kernel
theorem dX10_init_262 : decode cX10_init 262 = .ok (.bipush 30, 2) := by decide +kernel
theorem dX10_init_264 : decode cX10_init 264 = .ok (.bipush 101, 2) := by decide +kernel
theorem dX10_init_266 : decode cX10_init 266 = .ok (.castore, 1) := by decide +kernel
theorem dX10_init_267 : decode cX10_init 267 = .ok (.dup, 1) := by decide +kernel
theorem dX10_init_268 : decode cX10_init 268 = .ok (.bipush 31, 2) := by decide +kernel
theorem dX10_init_270 : decode cX10_init 270 = .ok (.bipush 32, 2) := by decide +kernel
theorem dX10_init_272 : decode cX10_init 272 = .ok (.castore, 1) := by decide +kernel
theorem dX10_init_273 : decode cX10_init 273 = .ok (.dup, 1) := by decide +kernel
theorem dX10_init_274 : decode cX10_init 274 = .ok (.bipush 32, 2) := by decide +kernel
theorem dX10_init_276 : decode cX10_init 276 = .ok (.bipush 109, 2) := by decide +kernel
theorem dX10_init_278 : decode cX10_init 278 = .ok (.castore, 1) := by decide +kernel
theorem dX10_init_279 : decode cX10_init 279 = .ok (.dup, 1) := by decide +kernel
theorem dX10_init_280 : decode cX10_init 280 = .ok (.bipush 33, 2) := by decide +kernel
theorem dX10_init_282 : decode cX10_init 282 = .ok (.bipush 101, 2) := by decide +kernel
theorem dX10_init_284 : decode cX10_init 284 = .ok (.castore, 1) := by decide +kernel
theorem dX10_init_285 : decode cX10_init 285 = .ok (.dup, 1) := by decide +kernel
theorem dX10_init_286 : decode cX10_init 286 = .ok (.bipush 34, 2) := by decide +kernel
theorem dX10_init_288 : decode cX10_init 288 = .ok (.bipush 114, 2) := by decide +kernel
theorem dX10_init_290 : decode cX10_init 290 = .ok (.castore, 1) := by decide +kernel
theorem dX10_init_291 : decode cX10_init 291 = .ok (.dup, 1) := by decide +kernel
theorem dX10_init_292 : decode cX10_init 292 = .ok (.bipush 35, 2) := by decide +kernel
theorem dX10_init_294 : decode cX10_init 294 = .ok (.bipush 103, 2) := by decide +kernel
theorem dX10_init_296 : decode cX10_init 296 = .ok (.castore, 1) := by decide +kernel
theorem dX10_init_297 : decode cX10_init 297 = .ok (.dup, 1) := by decide +kernel
theorem dX10_init_298 : decode cX10_init 298 = .ok (.bipush 36, 2) := by decide +kernel
theorem dX10_init_300 : decode cX10_init 300 = .ok (.bipush 101, 2) := by decide +kernel
theorem dX10_init_302 : decode cX10_init 302 = .ok (.castore, 1) := by decide +kernel
theorem dX10_init_303 : decode cX10_init 303 = .ok (.dup, 1) := by decide +kernel
theorem dX10_init_304 : decode cX10_init 304 = .ok (.bipush 37, 2) := by decide +kernel
theorem dX10_init_306 : decode cX10_init 306 = .ok (.bipush 32, 2) := by decide +kernel
theorem dX10_init_308 : decode cX10_init 308 = .ok (.castore, 1) := by decide +kernel
theorem dX10_init_309 : decode cX10_init 309 = .ok (.dup, 1) := by decide +kernel
theorem dX10_init_310 : decode cX10_init 310 = .ok (.bipush 38, 2) := by decide +kernel
theorem dX10_init_312 : decode cX10_init 312 = .ok (.bipush 111, 2) := by decide +kernel
theorem dX10_init_314 : decode cX10_init 314 = .ok (.castore, 1) := by decide +kernel
theorem dX10_init_315 : decode cX10_init 315 = .ok (.dup, 1) := by decide +kernel
theorem dX10_init_316 : decode cX10_init 316 = .ok (.bipush 39, 2) := by decide +kernel
theorem dX10_init_318 : decode cX10_init 318 = .ok (.bipush 117, 2) := by decide +kernel
theorem dX10_init_320 : decode cX10_init 320 = .ok (.castore, 1) := by decide +kernel
theorem dX10_init_321 : decode cX10_init 321 = .ok (.dup, 1) := by decide +kernel
theorem dX10_init_322 : decode cX10_init 322 = .ok (.bipush 40, 2) := by decide +kernel
theorem dX10_init_324 : decode cX10_init 324 = .ok (.bipush 114, 2) := by decide +kernel
theorem dX10_init_326 : decode cX10_init 326 = .ok (.castore, 1) := by decide +kernel
theorem dX10_init_327 : decode cX10_init 327 = .ok (.dup, 1) := by decide +kernel
theorem dX10_init_328 : decode cX10_init 328 = .ok (.bipush 41, 2) := by decide +kernel
theorem dX10_init_330 : decode cX10_init 330 = .ok (.bipush 115, 2) := by decide +kernel
theorem dX10_init_332 : decode cX10_init 332 = .ok (.castore, 1) := by decide +kernel
theorem dX10_init_333 : decode cX10_init 333 = .ok (.dup, 1) := by decide +kernel
theorem dX10_init_334 : decode cX10_init 334 = .ok (.bipush 42, 2) := by decide +kernel
theorem dX10_init_336 : decode cX10_init 336 = .ok (.bipush 32, 2) := by decide +kernel
theorem dX10_init_338 : decode cX10_init 338 = .ok (.castore, 1) := by decide +kernel
theorem dX10_init_339 : decode cX10_init 339 = .ok (.dup, 1) := by decide +kernel
theorem dX10_init_340 : decode cX10_init 340 = .ok (.bipush 43, 2) := by decide +kernel
theorem dX10_init_342 : decode cX10_init 342 = .ok (.bipush 116, 2) := by decide +kernel
theorem dX10_init_344 : decode cX10_init 344 = .ok (.castore, 1) := by decide +kernel
theorem dX10_init_345 : decode cX10_init 345 = .ok (.dup, 1) := by decide +kernel
theorem dX10_init_346 : decode cX10_init 346 = .ok (.bipush 44, 2) := by decide +kernel
theorem dX10_init_348 : decode cX10_init 348 = .ok (.bipush 104, 2) := by decide +kernel
theorem dX10_init_350 : decode cX10_init 350 = .ok (.castore, 1) := by decide +kernel
theorem dX10_init_351 : decode cX10_init 351 = .ok (.dup, 1) := by decide +kernel
theorem dX10_init_352 : decode cX10_init 352 = .ok (.bipush 45, 2) := by decide +kernel
theorem dX10_init_354 : decode cX10_init 354 = .ok (.bipush 101, 2) := by decide +kernel
theorem dX10_init_356 : decode cX10_init 356 = .ok (.castore, 1) := by decide +kernel
theorem dX10_init_357 : decode cX10_init 357 = .ok (.dup, 1) := by decide +kernel
theorem dX10_init_358 : decode cX10_init 358 = .ok (.bipush 46, 2) := by decide +kernel
theorem dX10_init_360 : decode cX10_init 360 = .ok (.bipush 105, 2) := by decide +kernel
theorem dX10_init_362 : decode cX10_init 362 = .ok (.castore, 1) := by decide +kernel
theorem dX10_init_363 : decode cX10_init 363 = .ok (.dup, 1) := by decide +kernel
theorem dX10_init_364 : decode cX10_init 364 = .ok (.bipush 47, 2) := by decide +kernel
theorem dX10_init_366 : decode cX10_init 366 = .ok (.bipush 114, 2) := by decide +kernel
theorem dX10_init_368 : decode cX10_init 368 = .ok (.castore, 1) := by decide +kernel
theorem dX10_init_369 : decode cX10_init 369 = .ok (.dup, 1) := by decide +kernel
theorem dX10_init_370 : decode cX10_init 370 = .ok (.bipush 48, 2) := by decide +kernel
theorem dX10_init_372 : decode cX10_init 372 = .ok (.bipush 115, 2) := by decide +kernel
theorem dX10_init_374 : decode cX10_init 374 = .ok (.castore, 1) := by decide +kernel
theorem dX10_init_375 : decode cX10_init 375 = .ok (.dup, 1) := by decide +kernel
theorem dX10_init_376 : decode cX10_init 376 = .ok (.bipush 49, 2) := by decide +kernel
theorem dX10_init_378 : decode cX10_init 378 = .ok (.bipush 32, 2) := by decide +kernel
theorem dX10_init_380 : decode cX10_init 380 = .ok (.castore, 1) := by decide +kernel
theorem dX10_init_381 : decode cX10_init 381 = .ok (.dup, 1) := by decide +kernel
theorem dX10_init_382 : decode cX10_init 382 = .ok (.bipush 50, 2) := by decide +kernel
theorem dX10_init_384 : decode cX10_init 384 = .ok (.bipush 112, 2) := by decide +kernel
theorem dX10_init_386 : decode cX10_init 386 = .ok (.castore, 1) := by decide +kernel
theorem dX10_init_387 : decode cX10_init 387 = .ok (.dup, 1) := by decide +kernel
theorem dX10_init_388 : decode cX10_init 388 = .ok (.bipush 51, 2) := by decide +kernel
theorem dX10_init_390 : decode cX10_init 390 = .ok (.bipush 105, 2) := by decide +kernel
theorem dX10_init_392 : decode cX10_init 392 = .ok (.castore, 1) := by decide +kernel
theorem dX10_init_393 : decode cX10_init 393 = .ok (.dup, 1) := by decide +kernel
theorem dX10_init_394 : decode cX10_init 394 = .ok (.bipush 52, 2) := by decide +kernel
theorem dX10_init_396 : decode cX10_init 396 = .ok (.bipush 99, 2) := by decide +kernel
theorem dX10_init_398 : decode cX10_init 398 = .ok (.castore, 1) := by decide +kernel
theorem dX10_init_399 : decode cX10_init 399 = .ok (.dup, 1) := by decide +kernel
theorem dX10_init_400 : decode cX10_init 400 = .ok (.bipush 53, 2) := by decide +kernel
theorem dX10_init_402 : decode cX10_init 402 = .ok (.bipush 107, 2) := by decide +kernel
theorem dX10_init_404 : decode cX10_init 404 = .ok (.castore, 1) := by decide +kernel
theorem dX10_init_405 : decode cX10_init 405 = .ok (.dup, 1) := by decide +kernel
theorem dX10_init_406 : decode cX10_init 406 = .ok (.bipush 54, 2) := by decide +kernel
theorem dX10_init_408 : decode cX10_init 408 = .ok (.bipush 32, 2) := by decide +kernel
theorem dX10_init_410 : decode cX10_init 410 = .ok (.castore, 1) := by decide +kernel
theorem dX10_init_411 : decode cX10_init 411 = .ok (.dup, 1) := by decide +kernel
theorem dX10_init_412 : decode cX10_init 412 = .ok (.bipush 55, 2) := by decide +kernel
theorem dX10_init_414 : decode cX10_init 414 = .ok (.bipush 114, 2) := by decide +kernel
theorem dX10_init_416 : decode cX10_init 416 = .ok (.castore, 1) := by decide +kernel
theorem dX10_init_417 : decode cX10_init 417 = .ok (.dup, 1) := by decide +kernel
theorem dX10_init_418 : decode cX10_init 418 = .ok (.bipush 56, 2) := by decide +kernel
theorem dX10_init_420 : decode cX10_init 420 = .ok (.bipush 101, 2) := by decide +kernel
theorem dX10_init_422 : decode cX10_init 422 = .ok (.castore, 1) := by decide +kernel
theorem dX10_init_423 : decode cX10_init 423 = .ok (.dup, 1) := by decide +kernel
theorem dX10_init_424 : decode cX10_init 424 = .ok (.bipush 57, 2) := by decide +kernel
theorem dX10_init_426 : decode cX10_init 426 = .ok (.bipush 115, 2) := by decide +kernel
theorem dX10_init_428 : decode cX10_init 428 = .ok (.castore, 1) := by decide +kernel
theorem dX10_init_429 : decode cX10_init 429 = .ok (.dup, 1) := by decide +kernel
theorem dX10_init_430 : decode cX10_init 430 = .ok (.bipush 58, 2) := by decide +kernel
theorem dX10_init_432 : decode cX10_init 432 = .ok (.bipush 101, 2) := by decide +kernel
theorem dX10_init_434 : decode cX10_init 434 = .ok (.castore, 1) := by decide +kernel
theorem dX10_init_435 : decode cX10_init 435 = .ok (.dup, 1) := by decide +kernel
theorem dX10_init_436 : decode cX10_init 436 = .ok (.bipush 59, 2) := by decide +kernel
theorem dX10_init_438 : decode cX10_init 438 = .ok (.bipush 116, 2) := by decide +kernel
theorem dX10_init_440 : decode cX10_init 440 = .ok (.castore, 1) := by decide +kernel
theorem dX10_init_441 : decode cX10_init 441 = .ok (.dup, 1) := by decide +kernel
theorem dX10_init_442 : decode cX10_init 442 = .ok (.bipush 60, 2) := by decide +kernel
theorem dX10_init_444 : decode cX10_init 444 = .ok (.bipush 32, 2) := by decide +kernel
theorem dX10_init_446 : decode cX10_init 446 = .ok (.castore, 1) := by decide +kernel
theorem dX10_init_447 : decode cX10_init 447 = .ok (.dup, 1) := by decide +kernel
theorem dX10_init_448 : decode cX10_init 448 = .ok (.bipush 61, 2) := by decide +kernel
theorem dX10_init_450 : decode cX10_init 450 = .ok (.bipush 116, 2) := by decide +kernel
theorem dX10_init_452 : decode cX10_init 452 = .ok (.castore, 1) := by decide +kernel
theorem dX10_init_453 : decode cX10_init 453 = .ok (.dup, 1) := by decide +kernel
theorem dX10_init_454 : decode cX10_init 454 = .ok (.bipush 62, 2) := by decide +kernel
theorem dX10_init_456 : decode cX10_init 456 = .ok (.bipush 97, 2) := by decide +kernel
theorem dX10_init_458 : decode cX10_init 458 = .ok (.castore, 1) := by decide +kernel
theorem dX10_init_459 : decode cX10_init 459 = .ok (.dup, 1) := by decide +kernel
theorem dX10_init_460 : decode cX10_init 460 = .ok (.bipush 63, 2) := by decide +kernel
theorem dX10_init_462 : decode cX10_init 462 = .ok (.bipush 103, 2) := by decide +kernel
theorem dX10_init_464 : decode cX10_init 464 = .ok (.castore, 1) := by decide +kernel
theorem dX10_init_465 : decode cX10_init 465 = .ok (.dup, 1) := by decide +kernel
theorem dX10_init_466 : decode cX10_init 466 = .ok (.bipush 64, 2) := by decide +kernel
theorem dX10_init_468 : decode cX10_init 468 = .ok (.bipush 32, 2) := by decide +kernel
theorem dX10_init_470 : decode cX10_init 470 = .ok (.castore, 1) := by decide +kernel
theorem dX10_init_471 : decode cX10_init 471 = .ok (.dup, 1) := by decide +kernel
theorem dX10_init_472 : decode cX10_init 472 = .ok (.bipush 65, 2) := by decide +kernel
theorem dX10_init_474 : decode cX10_init 474 = .ok (.bipush 117, 2) := by decide +kernel
theorem dX10_init_476 : decode cX10_init 476 = .ok (.castore, 1) := by decide +kernel
theorem dX10_init_477 : decode cX10_init 477 = .ok (.dup, 1) := by decide +kernel
theorem dX10_init_478 : decode cX10_init 478 = .ok (.bipush 66, 2) := by decide +kernel
theorem dX10_init_480 : decode cX10_init 480 = .ok (.bipush 110, 2) := by decide +kernel
theorem dX10_init_482 : decode cX10_init 482 = .ok (.castore, 1) := by decide +kernel
theorem dX10_init_483 : decode cX10_init 483 = .ok (.dup, 1) := by decide +kernel
theorem dX10_init_484 : decode cX10_init 484 = .ok (.bipush 67, 2) := by decide +kernel
theorem dX10_init_486 : decode cX10_init 486 = .ok (.bipush 116, 2) := by decide +kernel
theorem dX10_init_488 : decode cX10_init 488 = .ok (.castore, 1) := by decide +kernel
theorem dX10_init_489 : decode cX10_init 489 = .ok (.dup, 1) := by decide +kernel
theorem dX10_init_490 : decode cX10_init 490 = .ok (.bipush 68, 2) := by decide +kernel
theorem dX10_init_492 : decode cX10_init 492 = .ok (.bipush 97, 2) := by decide +kernel
theorem dX10_init_494 : decode cX10_init 494 = .ok (.castore, 1) := by decide +kernel
theorem dX10_init_495 : decode cX10_init 495 = .ok (.dup, 1) := by decide +kernel
theorem dX10_init_496 : decode cX10_init 496 = .ok (.bipush 69, 2) := by decide +kernel
theorem dX10_init_498 : decode cX10_init 498 = .ok (.bipush 103, 2) := by decide +kernel
theorem dX10_init_500 : decode cX10_init 500 = .ok (.castore, 1) := by decide +kernel
theorem dX10_init_501 : decode cX10_init 501 = .ok (.dup, 1) := by decide +kernel
theorem dX10_init_502 : decode cX10_init 502 = .ok (.bipush 70, 2) := by decide +kernel
theorem dX10_init_504 : decode cX10_init 504 = .ok (.bipush 32, 2) := by decide +kernel
theorem dX10_init_506 : decode cX10_init 506 = .ok (.castore, 1) := by decide +kernel
theorem dX10_init_507 : decode cX10_init 507 = .ok (.dup, 1) := by decide +kernel
theorem dX10_init_508 : decode cX10_init 508 = .ok (.bipush 71, 2) := by decide +kernel
theorem dX10_init_510 : decode cX10_init 510 = .ok (.bipush 97, 2) := by decide +kernel
theorem dX10_init_512 : decode cX10_init 512 = .ok (.castore, 1) := by decide +kernel
theorem dX10_init_513 : decode cX10_init 513 = .ok (.dup, 1) := by decide +kernel
theorem dX10_init_514 : decode cX10_init 514 = .ok (.bipush 72, 2) := by decide +kernel
theorem dX10_init_516 : decode cX10_init 516 = .ok (.bipush 114, 2) := by decide +kernel
theorem dX10_init_518 : decode cX10_init 518 = .ok (.castore, 1) := by decide +kernel
theorem dX10_init_519 : decode cX10_init 519 = .ok (.dup, 1) := by decide +kernel
theorem dX10_init_520 : decode cX10_init 520 = .ok (.bipush 73, 2) := by decide +kernel
theorem dX10_init_522 : decode cX10_init 522 = .ok (.bipush 99, 2) := by decide +kernel
theorem dX10_init_524 : decode cX10_init 524 = .ok (.castore, 1) := by decide +kernel
theorem dX10_init_525 : decode cX10_init 525 = .ok (.dup, 1) := by decide +kernel
theorem dX10_init_526 : decode cX10_init 526 = .ok (.bipush 74, 2) := by decide +kernel
theorem dX10_init_528 : decode cX10_init 528 = .ok (.bipush 104, 2) := by decide +kernel
theorem dX10_init_530 : decode cX10_init 530 = .ok (.castore, 1) := by decide +kernel
theorem dX10_init_531 : decode cX10_init 531 = .ok (.dup, 1) := by decide +kernel
theorem dX10_init_532 : decode cX10_init 532 = .ok (.bipush 75, 2) := by decide +kernel
theorem dX10_init_534 : decode cX10_init 534 = .ok (.bipush 105, 2) := by decide +kernel
theorem dX10_init_536 : decode cX10_init 536 = .ok (.castore, 1) := by decide +kernel
theorem dX10_init_537 : decode cX10_init 537 = .ok (.dup, 1) := by decide +kernel
theorem dX10_init_538 : decode cX10_init 538 = .ok (.bipush 76, 2) := by decide +kernel
theorem dX10_init_540 : decode cX10_init 540 = .ok (.bipush 118, 2) := by decide +kernel
theorem dX10_init_542 : decode cX10_init 542 = .ok (.castore, 1) := by decide +kernel
theorem dX10_init_543 : decode cX10_init 543 = .ok (.dup, 1) := by decide +kernel
theorem dX10_init_544 : decode cX10_init 544 = .ok (.bipush 77, 2) := by decide +kernel
theorem dX10_init_546 : decode cX10_init 546 = .ok (.bipush 101, 2) := by decide +kernel
theorem dX10_init_548 : decode cX10_init 548 = .ok (.castore, 1) := by decide +kernel
theorem dX10_init_549 : decode cX10_init 549 = .ok (.putfield 41, 3) := by decide +kernel
theorem dX10_init_552 : decode cX10_init 552 = .ok (.aload_n 0, 1) := by decide +kernel
theorem dX10_init_553 : decode cX10_init 553 = .ok (.bipush 14, 2) := by decide +kernel
theorem dX10_init_555 : decode cX10_init 555 = .ok (.newarray .int, 2) := by decide +kernel
theorem dX10_init_557 : decode cX10_init 557 = .ok (.dup, 1) := by decide +kernel
theorem dX10_init_558 : decode cX10_init 558 = .ok (.iconst 0, 1) := by decide +kernel
theorem dX10_init_559 : decode cX10_init 559 = .ok (.iconst 0, 1) := by decide +kernel
theorem dX10_init_560 : decode cX10_init 560 = .ok (.iastore, 1) := by decide +kernel
theorem dX10_init_561 : decode cX10_init 561 = .ok (.dup, 1) := by decide +kernel
theorem dX10_init_562 : decode cX10_init 562 = .ok (.iconst 1, 1) := by decide +kernel
theorem dX10_init_563 : decode cX10_init 563 = .ok (.iconst 5, 1) := by decide +kernel
theorem dX10_init_564 : decode cX10_init 564 = .ok (.iastore, 1) := by decide +kernel
theorem dX10_init_565 : decode cX10_init 565 = .ok (.dup, 1) := by decide +kernel
theorem dX10_init_566 : decode cX10_init 566 = .ok (.iconst 2, 1) := by decide +kernel
theorem dX10_init_567 : decode cX10_init 567 = .ok (.bipush 12, 2) := by decide +kernel
theorem dX10_init_569 : decode cX10_init 569 = .ok (.iastore, 1) := by decide +kernel
theorem dX10_init_570 : decode cX10_init 570 = .ok (.dup, 1) := by decide +kernel
theorem dX10_init_571 : decode cX10_init 571 = .ok (.iconst 3, 1) := by decide +kernel
theorem dX10_init_572 : decode cX10_init 572 = .ok (.bipush 19, 2) := by decide +kernel
theorem dX10_init_574 : decode cX10_init 574 = .ok (.iastore, 1) := by decide +kernel
theorem dX10_init_575 : decode cX10_init 575 = .ok (.dup, 1) := by decide +kernel
theorem dX10_init_576 : decode cX10_init 576 = .ok (.iconst 4, 1) := by decide +kernel
theorem dX10_init_577 : decode cX10_init 577 = .ok (.bipush 26, 2) := by decide +kernel
theorem dX10_init_579 : decode cX10_init 579 = .ok (.iastore, 1) := by decide +kernel
theorem dX10_init_580 : decode cX10_init 580 = .ok (.dup, 1) := by decide +kernel
theorem dX10_init_581 : decode cX10_init 581 = .ok (.iconst 5, 1) := by decide +kernel
theorem dX10_init_582 : decode cX10_init 582 = .ok (.bipush 32, 2) := by decide +kernel
theorem dX10_init_584 : decode cX10_init 584 = .ok (.iastore, 1) := by decide +kernel
theorem dX10_init_585 : decode cX10_init 585 = .ok (.dup, 1) := by decide +kernel
theorem dX10_init_586 : decode cX10_init 586 = .ok (.bipush 6, 2) := by decide +kernel
theorem dX10_init_588 : decode cX10_init 588 = .ok (.bipush 38, 2) := by decide +kernel
theorem dX10_init_590 : decode cX10_init 590 = .ok (.iastore, 1) := by decide +kernel
theorem dX10_init_591 : decode cX10_init 591 = .ok (.dup, 1) := by decide +kernel
theorem dX10_init_592 : decode cX10_init 592 = .ok (.bipush 7, 2) := by decide +kernel
theorem dX10_init_594 : decode cX10_init 594 = .ok (.bipush 43, 2) := by decide +kernel
theorem dX10_init_596 : decode cX10_init 596 = .ok (.iastore, 1) := by decide +kernel
theorem dX10_init_597 : decode cX10_init 597 = .ok (.dup, 1) := by decide +kernel
theorem dX10_init_598 : decode cX10_init 598 = .ok (.bipush 8, 2) := by decide +kernel
theorem dX10_init_600 : decode cX10_init 600 = .ok (.bipush 50, 2) := by decide +kernel
theorem dX10_init_602 : decode cX10_init 602 = .ok (.iastore, 1) := by decide +kernel
theorem dX10_init_603 : decode cX10_init 603 = .ok (.dup, 1) := by decide +kernel
theorem dX10_init_604 : decode cX10_init 604 = .ok (.bipush 9, 2) := by decide +kernel
theorem dX10_init_606 : decode cX10_init 606 = .ok (.bipush 55, 2) := by decide +kernel
theorem dX10_init_608 : decode cX10_init 608 = .ok (.iastore, 1) := by decide +kernel
theorem dX10_init_609 : decode cX10_init 609 = .ok (.dup, 1) := by decide +kernel
theorem dX10_init_610 : decode cX10_init 610 = .ok (.bipush 10, 2) := by decide +kernel
theorem dX10_init_612 : decode cX10_init 612 = .ok (.bipush 61, 2) := by decide +kernel
theorem dX10_init_614 : decode cX10_init 614 = .ok (.iastore, 1) := by decide +kernel
theorem dX10_init_615 : decode cX10_init 615 = .ok (.dup, 1) := by decide +kernel
theorem dX10_init_616 : decode cX10_init 616 = .ok (.bipush 11, 2) := by decide +kernel
theorem dX10_init_618 : decode cX10_init 618 = .ok (.bipush 65, 2) := by decide +kernel
theorem dX10_init_620 : decode cX10_init 620 = .ok (.iastore, 1) := by decide +kernel
theorem dX10_init_621 : decode cX10_init 621 = .ok (.dup, 1) := by decide +kernel
theorem dX10_init_622 : decode cX10_init 622 = .ok (.bipush 12, 2) := by decide +kernel
theorem dX10_init_624 : decode cX10_init 624 = .ok (.bipush 71, 2) := by decide +kernel
theorem dX10_init_626 : decode cX10_init 626 = .ok (.iastore, 1) := by decide +kernel
theorem dX10_init_627 : decode cX10_init 627 = .ok (.dup, 1) := by decide +kernel
theorem dX10_init_628 : decode cX10_init 628 = .ok (.bipush 13, 2) := by decide +kernel
theorem dX10_init_630 : decode cX10_init 630 = .ok (.bipush 78, 2) := by decide +kernel
theorem dX10_init_632 : decode cX10_init 632 = .ok (.iastore, 1) := by decide +kernel
theorem dX10_init_633 : decode cX10_init 633 = .ok (.putfield 45, 3) := by decide +kernel
theorem dX10_init_636 : decode cX10_init 636 = .ok (.aload_n 0, 1) := by decide +kernel
theorem dX10_init_637 : decode cX10_init 637 = .ok (.sipush 244, 3) := by decide +kernel
theorem dX10_init_640 : decode cX10_init 640 = .ok (.newarray .int, 2) := by decide +kernel
theorem dX10_init_642 : decode cX10_init 642 = .ok (.putfield 48, 3) := by decide +kernel
theorem dX10_init_645 : decode cX10_init 645 = .ok (.aload_n 0, 1) := by decide +kernel
theorem dX10_init_646 : decode cX10_init 646 = .ok (.getfield 9, 3) := by decide +kernel
theorem dX10_init_649 : decode cX10_init 649 = .ok (.iconst 0, 1) := by decide +kernel
theorem dX10_init_650 : decode cX10_init 650 = .ok (.iconst 1, 1) := by decide +kernel
theorem dX10_init_651 : decode cX10_init 651 = .ok (.iastore, 1) := by decide +kernel
theorem dX10_init_652 : decode cX10_init 652 = .ok (.aload_n 0, 1) := by decide +kernel
theorem dX10_init_653 : decode cX10_init 653 = .ok (.getfield 9, 3) := by decide +kernel
theorem dX10_init_656 : decode cX10_init 656 = .ok (.iconst 1, 1) := by decide +kernel
theorem dX10_init_657 : decode cX10_init 657 = .ok (.iconst 1, 1) := by decide +kernel
theorem dX10_init_658 : decode cX10_init 658 = .ok (.iastore, 1) := by decide +kernel
theorem dX10_init_659 : decode cX10_init 659 = .ok (.aload_n 0, 1) := by decide +kernel
theorem dX10_init_660 : decode cX10_init 660 = .ok (.getfield 9, 3) := by decide +kernel
theorem dX10_init_663 : decode cX10_init 663 = .ok (.iconst 2, 1) := by decide +kernel
theorem dX10_init_664 : decode cX10_init 664 = .ok (.iconst (-1), 1) := by decide +kernel
theorem dX10_init_665 : decode cX10_init 665 = .ok (.iastore, 1) := by decide +kernel
theorem dX10_init_666 : decode cX10_init 666 = .ok (.aload_n 0, 1) := by decide +kernel
theorem dX10_init_667 : decode cX10_init 667 = .ok (.getfield 9, 3) := by decide +kernel
theorem dX10_init_670 : decode cX10_init 670 = .ok (.iconst 3, 1) := by decide +kernel
theorem dX10_init_671 : decode cX10_init 671 = .ok (.iconst (-1), 1) := by decide +kernel
theorem dX10_init_672 : decode cX10_init 672 = .ok (.iastore, 1) := by decide +kernel
theorem dX10_init_673 : decode cX10_init 673 = .ok (.iconst 0, 1) := by decide +kernel
theorem dX10_init_674 : decode cX10_init 674 = .ok (.istore_n 1, 1) := by decide +kernel
theorem dX10_init_675 : decode cX10_init 675 = .ok (.iload_n 1, 1) := by decide +kernel
theorem dX10_init_676 : decode cX10_init 676 = .ok (.bipush 8, 2) := by decide +kernel
theorem dX10_init_678 : decode cX10_init 678 = .ok (.if_icmp .ge 32, 3) := by decide +kernel
theorem dX10_init_681 : decode cX10_init 681 = .ok (.aload_n 0, 1) := by decide +kernel
theorem dX10_init_682 : decode cX10_init 682 = .ok (.getfield 9, 3) := by decide +kernel
theorem dX10_init_685 : decode cX10_init 685 = .ok (.bipush 6, 2) := by decide +kernel
theorem dX10_init_687 : decode cX10_init 687 = .ok (.iload_n 1, 1) := by decide +kernel
theorem dX10_init_688 : decode cX10_init 688 = .ok (.iadd, 1) := by decide +kernel
theorem dX10_init_689 : decode cX10_init 689 = .ok (.bipush 97, 2) := by decide +kernel
theorem dX10_init_691 : decode cX10_init 691 = .ok (.iastore, 1) := by decide +kernel
theorem dX10_init_692 : decode cX10_init 692 = .ok (.aload_n 0, 1) := by decide +kernel
theorem dX10_init_693 : decode cX10_init 693 = .ok (.getfield 9, 3) := by decide +kernel
theorem dX10_init_696 : decode cX10_init 696 = .ok (.sipush 291, 3) := by decide +kernel
theorem dX10_init_699 : decode cX10_init 699 = .ok (.iload_n 1, 1) := by decide +kernel
theorem dX10_init_700 : decode cX10_init 700 = .ok (.iadd, 1) := by decide +kernel
theorem dX10_init_701 : decode cX10_init 701 = .ok (.bipush 97, 2) := by decide +kernel
theorem dX10_init_703 : decode cX10_init 703 = .ok (.iastore, 1) := by decide +kernel
theorem dX10_init_704 : decode cX10_init 704 = .ok (.iinc 1 1, 3) := by decide +kernel
theorem dX10_init_707 : decode cX10_init 707 = .ok (.goto (-32), 3) := by decide +kernel
theorem dX10_init_710 : decode cX10_init 710 = .ok (.iconst 0, 1) := by decide +kernel
theorem dX10_init_711 : decode cX10_init 711 = .ok (.istore_n 1, 1) := by decide +kernel
theorem dX10_init_712 : decode cX10_init 712 = .ok (.iload_n 1, 1) := by decide +kernel
theorem dX10_init_713 : decode cX10_init 713 = .ok (.bipush 26, 2) := by decide +kernel
theorem dX10_init_715 : decode cX10_init 715 = .ok (.if_icmp .ge 20, 3) := by decide +kernel
theorem dX10_init_718 : decode cX10_init 718 = .ok (.aload_n 0, 1) := by decide +kernel
theorem dX10_init_719 : decode cX10_init 719 = .ok (.getfield 9, 3) := by decide +kernel
theorem dX10_init_722 : decode cX10_init 722 = .ok (.sipush 335, 3) := by decide +kernel
theorem dX10_init_725 : decode cX10_init 725 = .ok (.iload_n 1, 1) := by decide +kernel
theorem dX10_init_726 : decode cX10_init 726 = .ok (.iadd, 1) := by decide +kernel
theorem dX10_init_727 : decode cX10_init 727 = .ok (.iconst (-1), 1) := by decide +kernel
theorem dX10_init_728 : decode cX10_init 728 = .ok (.iastore, 1) := by decide +kernel
theorem dX10_init_729 : decode cX10_init 729 = .ok (.iinc 1 1, 3) := by decide +kernel
theorem dX10_init_732 : decode cX10_init 732 = .ok (.goto (-20), 3) := by decide +kernel
theorem dX10_init_735 : decode cX10_init 735 = .ok (.return_, 1) := by decide +kernel
theorem cv_X10_init : CalI yX10_init cX10_init 2 0 := ⟨⟨⟨by decide +kernel, by decide +kernel⟩, tw_1_14, tw_7_187, by decide +kernel⟩, rfl, tw_7_186⟩
set_option maxRecDepth 100000 in
set_option maxHeartbeats 8000000 in
theorem m_X10_init (l : Launch) (E : En) (sz b0 : Nat) : MI l E yX10_init cX10_init 2 1 11 4455 sz b0 [] 11 [.null, .null, .null, .int 0, .null, .int 0, .int 0, .int 0, .int 0, .null, .int 0, .null, .null, .null, .int 0, .null, .null, .null, .int 0, .int 0, .int 0, .int 0] 12 (cfMo E) := by
  refine entI (E := E) "LetterRepositoryModel" (by decide +kernel) rfl rfl (Nat.le_of_ble_eq_true rfl) ?_
  intro p e s m below meth c ls hC hsub hP hD hS hl
  have hx := hC.1.1
  have hb := hC.1.2.1
  have hts := hC.1.2.2.2.2.1
  have hown := hC.1.2.2.2.1
  have hK := hC.1.2.2.2.2.2.1
  have hA : ∀ q, s.heap.size ≤ q → fre b0 s.heap.size q := fun q h => .inr h
  have hl : lv_has ls 2 [(0, .ref b0)] := hl
  refine lv_aload_n hx hb dX10_init_0 rfl (lv_at hl 0 rfl) ?_
  refine i_obj hC hl.1 tw_7_188 ⟨Nat.le_of_ble_eq_true rfl, Nat.le_of_ble_eq_true rfl⟩ dX10_init_1 ?_
  refine lv_aload_n hx hb dX10_init_4 rfl (lv_at hl 0 rfl) ?_
  refine lv_sipush (v := 361) hx hb dX10_init_5 rfl ?_
  refine va_newa (atype := .int) (ty := .int) (a0 := (361, .inl (fun _ => 0))) (N' := 361) hx hb (hts _ tw_1_64) rfl hK hP hD hS hA (fun _ => rfl) (by decide) rfl (by decide) (Nat.le_of_ble_eq_true rfl) (Nat.le_of_ble_eq_true rfl) dX10_init_8 (fun a8 cA H hK2 hP hD hS => ?_)
  have hcA : cA = eC E 0 := by
    have h1 := (hK2.2 6 (cA, .int) rfl).2
    have h2 := (hK2.2 0 (eC E 0, .int) rfl).2
    exact Option.some.inj (h1.symm.trans h2)
  subst hcA
  have hP : va_P (eD E) vwCl ([(b0, .inr (11, [.null, .null, .null, .int 0, .null, .int 0, .int 0, .int 0, .int 0, .null, .int 0, .null, .null, .null, .int 0, .null, .null, .null, .int 0, .int 0, .int 0, .int 0])), (a8, .inl (eC E 0, 361, .inl (fun _ => 0)))]) H := hP
  have hD : va_D (fre b0 s.heap.size) ([(b0, .inr (11, [.null, .null, .null, .int 0, .null, .int 0, .int 0, .int 0, .int 0, .null, .int 0, .null, .null, .null, .int 0, .null, .null, .null, .int 0, .int 0, .int 0, .int 0])), (a8, .inl (eC E 0, 361, .inl (fun _ => 0)))]) := hD
  refine va_putF hx hb hts in_X10 tyX10 tyX10_ok nmX10 hown hK hP hD hS 0 rfl rfl 0 (by decide) (hts _ tw_7_189) (fun _ h => h) rfl hC.2 rfl rfl rfl rfl (Nat.le_of_ble_eq_true rfl) dX10_init_10 (fun H locs hP hD hS => ?_)
  have hP : va_P (eD E) vwCl ([(b0, .inr (11, [.ref a8, .null, .null, .int 0, .null, .int 0, .int 0, .int 0, .int 0, .null, .int 0, .null, .null, .null, .int 0, .null, .null, .null, .int 0, .int 0, .int 0, .int 0])), (a8, .inl (eC E 0, 361, .inl (fun _ => 0)))]) H := hP
  have hD : va_D (fre b0 s.heap.size) ([(b0, .inr (11, [.ref a8, .null, .null, .int 0, .null, .int 0, .int 0, .int 0, .int 0, .null, .int 0, .null, .null, .null, .int 0, .null, .null, .null, .int 0, .int 0, .int 0, .int 0])), (a8, .inl (eC E 0, 361, .inl (fun _ => 0)))]) := hD
  refine lv_aload_n hx hb dX10_init_13 rfl (lv_at hl 0 rfl) ?_
  refine lv_sipush (v := 361) hx hb dX10_init_14 rfl ?_
  refine va_newa (atype := .int) (ty := .int) (a0 := (361, .inl (fun _ => 0))) (N' := 361) hx hb (hts _ tw_1_64) rfl hK hP hD hS hA (fun _ => rfl) (by decide) rfl (by decide) (Nat.le_of_ble_eq_true rfl) (Nat.le_of_ble_eq_true rfl) dX10_init_17 (fun a17 cA H hK2 hP hD hS => ?_)
  have hcA : cA = eC E 0 := by
    have h1 := (hK2.2 6 (cA, .int) rfl).2
    have h2 := (hK2.2 0 (eC E 0, .int) rfl).2
    exact Option.some.inj (h1.symm.trans h2)
  subst hcA
  have hP : va_P (eD E) vwCl ([(b0, .inr (11, [.ref a8, .null, .null, .int 0, .null, .int 0, .int 0, .int 0, .int 0, .null, .int 0, .null, .null, .null, .int 0, .null, .null, .null, .int 0, .int 0, .int 0, .int 0])), (a8, .inl (eC E 0, 361, .inl (fun _ => 0))), (a17, .inl (eC E 0, 361, .inl (fun _ => 0)))]) H := hP
  have hD : va_D (fre b0 s.heap.size) ([(b0, .inr (11, [.ref a8, .null, .null, .int 0, .null, .int 0, .int 0, .int 0, .int 0, .null, .int 0, .null, .null, .null, .int 0, .null, .null, .null, .int 0, .int 0, .int 0, .int 0])), (a8, .inl (eC E 0, 361, .inl (fun _ => 0))), (a17, .inl (eC E 0, 361, .inl (fun _ => 0)))]) := hD
  refine va_putF hx hb hts in_X10 tyX10 tyX10_ok nmX10 hown hK hP hD hS 0 rfl rfl 1 (by decide) (hts _ tw_7_190) (fun _ h => h) rfl hC.2 rfl rfl rfl rfl (Nat.le_of_ble_eq_true rfl) dX10_init_19 (fun H locs hP hD hS => ?_)
  have hP : va_P (eD E) vwCl ([(b0, .inr (11, [.ref a8, .ref a17, .null, .int 0, .null, .int 0, .int 0, .int 0, .int 0, .null, .int 0, .null, .null, .null, .int 0, .null, .null, .null, .int 0, .int 0, .int 0, .int 0])), (a8, .inl (eC E 0, 361, .inl (fun _ => 0))), (a17, .inl (eC E 0, 361, .inl (fun _ => 0)))]) H := hP
  have hD : va_D (fre b0 s.heap.size) ([(b0, .inr (11, [.ref a8, .ref a17, .null, .int 0, .null, .int 0, .int 0, .int 0, .int 0, .null, .int 0, .null, .null, .null, .int 0, .null, .null, .null, .int 0, .int 0, .int 0, .int 0])), (a8, .inl (eC E 0, 361, .inl (fun _ => 0))), (a17, .inl (eC E 0, 361, .inl (fun _ => 0)))]) := hD
  refine lv_aload_n hx hb dX10_init_22 rfl (lv_at hl 0 rfl) ?_
  refine lv_sipush (v := 361) hx hb dX10_init_23 rfl ?_
  refine va_newa (atype := .int) (ty := .int) (a0 := (361, .inl (fun _ => 0))) (N' := 361) hx hb (hts _ tw_1_64) rfl hK hP hD hS hA (fun _ => rfl) (by decide) rfl (by decide) (Nat.le_of_ble_eq_true rfl) (Nat.le_of_ble_eq_true rfl) dX10_init_26 (fun a26 cA H hK2 hP hD hS => ?_)
  have hcA : cA = eC E 0 := by
    have h1 := (hK2.2 6 (cA, .int) rfl).2
    have h2 := (hK2.2 0 (eC E 0, .int) rfl).2
    exact Option.some.inj (h1.symm.trans h2)
  subst hcA
  have hP : va_P (eD E) vwCl ([(b0, .inr (11, [.ref a8, .ref a17, .null, .int 0, .null, .int 0, .int 0, .int 0, .int 0, .null, .int 0, .null, .null, .null, .int 0, .null, .null, .null, .int 0, .int 0, .int 0, .int 0])), (a8, .inl (eC E 0, 361, .inl (fun _ => 0))), (a17, .inl (eC E 0, 361, .inl (fun _ => 0))), (a26, .inl (eC E 0, 361, .inl (fun _ => 0)))]) H := hP
  have hD : va_D (fre b0 s.heap.size) ([(b0, .inr (11, [.ref a8, .ref a17, .null, .int 0, .null, .int 0, .int 0, .int 0, .int 0, .null, .int 0, .null, .null, .null, .int 0, .null, .null, .null, .int 0, .int 0, .int 0, .int 0])), (a8, .inl (eC E 0, 361, .inl (fun _ => 0))), (a17, .inl (eC E 0, 361, .inl (fun _ => 0))), (a26, .inl (eC E 0, 361, .inl (fun _ => 0)))]) := hD
  refine va_putF hx hb hts in_X10 tyX10 tyX10_ok nmX10 hown hK hP hD hS 0 rfl rfl 2 (by decide) (hts _ tw_7_191) (fun _ h => h) rfl hC.2 rfl rfl rfl rfl (Nat.le_of_ble_eq_true rfl) dX10_init_28 (fun H locs hP hD hS => ?_)
  have hP : va_P (eD E) vwCl ([(b0, .inr (11, [.ref a8, .ref a17, .ref a26, .int 0, .null, .int 0, .int 0, .int 0, .int 0, .null, .int 0, .null, .null, .null, .int 0, .null, .null, .null, .int 0, .int 0, .int 0, .int 0])), (a8, .inl (eC E 0, 361, .inl (fun _ => 0))), (a17, .inl (eC E 0, 361, .inl (fun _ => 0))), (a26, .inl (eC E 0, 361, .inl (fun _ => 0)))]) H := hP
  have hD : va_D (fre b0 s.heap.size) ([(b0, .inr (11, [.ref a8, .ref a17, .ref a26, .int 0, .null, .int 0, .int 0, .int 0, .int 0, .null, .int 0, .null, .null, .null, .int 0, .null, .null, .null, .int 0, .int 0, .int 0, .int 0])), (a8, .inl (eC E 0, 361, .inl (fun _ => 0))), (a17, .inl (eC E 0, 361, .inl (fun _ => 0))), (a26, .inl (eC E 0, 361, .inl (fun _ => 0)))]) := hD
  refine lv_aload_n hx hb dX10_init_31 rfl (lv_at hl 0 rfl) ?_
  refine lv_sipush (v := 2888) hx hb dX10_init_32 rfl ?_
  refine va_newa (atype := .int) (ty := .int) (a0 := (2888, .inl (fun _ => 0))) (N' := 2888) hx hb (hts _ tw_1_64) rfl hK hP hD hS hA (fun _ => rfl) (by decide) rfl (by decide) (Nat.le_of_ble_eq_true rfl) (Nat.le_of_ble_eq_true rfl) dX10_init_35 (fun a35 cA H hK2 hP hD hS => ?_)
  have hcA : cA = eC E 0 := by
    have h1 := (hK2.2 6 (cA, .int) rfl).2
    have h2 := (hK2.2 0 (eC E 0, .int) rfl).2
    exact Option.some.inj (h1.symm.trans h2)
  subst hcA
  have hP : va_P (eD E) vwCl ([(b0, .inr (11, [.ref a8, .ref a17, .ref a26, .int 0, .null, .int 0, .int 0, .int 0, .int 0, .null, .int 0, .null, .null, .null, .int 0, .null, .null, .null, .int 0, .int 0, .int 0, .int 0])), (a8, .inl (eC E 0, 361, .inl (fun _ => 0))), (a17, .inl (eC E 0, 361, .inl (fun _ => 0))), (a26, .inl (eC E 0, 361, .inl (fun _ => 0))), (a35, .inl (eC E 0, 2888, .inl (fun _ => 0)))]) H := hP
  have hD : va_D (fre b0 s.heap.size) ([(b0, .inr (11, [.ref a8, .ref a17, .ref a26, .int 0, .null, .int 0, .int 0, .int 0, .int 0, .null, .int 0, .null, .null, .null, .int 0, .null, .null, .null, .int 0, .int 0, .int 0, .int 0])), (a8, .inl (eC E 0, 361, .inl (fun _ => 0))), (a17, .inl (eC E 0, 361, .inl (fun _ => 0))), (a26, .inl (eC E 0, 361, .inl (fun _ => 0))), (a35, .inl (eC E 0, 2888, .inl (fun _ => 0)))]) := hD
  refine va_putF hx hb hts in_X10 tyX10 tyX10_ok nmX10 hown hK hP hD hS 0 rfl rfl 4 (by decide) (hts _ tw_7_193) (fun _ h => h) rfl hC.2 rfl rfl rfl rfl (Nat.le_of_ble_eq_true rfl) dX10_init_37 (fun H locs hP hD hS => ?_)
  have hP : va_P (eD E) vwCl ([(b0, .inr (11, [.ref a8, .ref a17, .ref a26, .int 0, .ref a35, .int 0, .int 0, .int 0, .int 0, .null, .int 0, .null, .null, .null, .int 0, .null, .null, .null, .int 0, .int 0, .int 0, .int 0])), (a8, .inl (eC E 0, 361, .inl (fun _ => 0))), (a17, .inl (eC E 0, 361, .inl (fun _ => 0))), (a26, .inl (eC E 0, 361, .inl (fun _ => 0))), (a35, .inl (eC E 0, 2888, .inl (fun _ => 0)))]) H := hP
  have hD : va_D (fre b0 s.heap.size) ([(b0, .inr (11, [.ref a8, .ref a17, .ref a26, .int 0, .ref a35, .int 0, .int 0, .int 0, .int 0, .null, .int 0, .null, .null, .null, .int 0, .null, .null, .null, .int 0, .int 0, .int 0, .int 0])), (a8, .inl (eC E 0, 361, .inl (fun _ => 0))), (a17, .inl (eC E 0, 361, .inl (fun _ => 0))), (a26, .inl (eC E 0, 361, .inl (fun _ => 0))), (a35, .inl (eC E 0, 2888, .inl (fun _ => 0)))]) := hD
  refine lv_aload_n hx hb dX10_init_40 rfl (lv_at hl 0 rfl) ?_
  refine lv_iconst (v := (-1)) hx hb dX10_init_41 rfl ?_
  refine va_put hx hb hts in_X10 tyX10 tyX10_ok nmX10 hown hK hP hD hS 0 rfl rfl 6 (by decide) (hts _ tw_7_195) (fun _ h => h) rfl rfl rfl rfl (Nat.le_of_ble_eq_true rfl) dX10_init_42 (fun H locs hP hD hS => ?_)
  have hP : va_P (eD E) vwCl ([(b0, .inr (11, [.ref a8, .ref a17, .ref a26, .int 0, .ref a35, .int 0, .int (-1), .int 0, .int 0, .null, .int 0, .null, .null, .null, .int 0, .null, .null, .null, .int 0, .int 0, .int 0, .int 0])), (a8, .inl (eC E 0, 361, .inl (fun _ => 0))), (a17, .inl (eC E 0, 361, .inl (fun _ => 0))), (a26, .inl (eC E 0, 361, .inl (fun _ => 0))), (a35, .inl (eC E 0, 2888, .inl (fun _ => 0)))]) H := hP
  have hD : va_D (fre b0 s.heap.size) ([(b0, .inr (11, [.ref a8, .ref a17, .ref a26, .int 0, .ref a35, .int 0, .int (-1), .int 0, .int 0, .null, .int 0, .null, .null, .null, .int 0, .null, .null, .null, .int 0, .int 0, .int 0, .int 0])), (a8, .inl (eC E 0, 361, .inl (fun _ => 0))), (a17, .inl (eC E 0, 361, .inl (fun _ => 0))), (a26, .inl (eC E 0, 361, .inl (fun _ => 0))), (a35, .inl (eC E 0, 2888, .inl (fun _ => 0)))]) := hD
  refine lv_aload_n hx hb dX10_init_45 rfl (lv_at hl 0 rfl) ?_
  refine lv_iconst (v := (-1)) hx hb dX10_init_46 rfl ?_
  refine va_put hx hb hts in_X10 tyX10 tyX10_ok nmX10 hown hK hP hD hS 0 rfl rfl 7 (by decide) (hts _ tw_7_196) (fun _ h => h) rfl rfl rfl rfl (Nat.le_of_ble_eq_true rfl) dX10_init_47 (fun H locs hP hD hS => ?_)
  have hP : va_P (eD E) vwCl ([(b0, .inr (11, [.ref a8, .ref a17, .ref a26, .int 0, .ref a35, .int 0, .int (-1), .int (-1), .int 0, .null, .int 0, .null, .null, .null, .int 0, .null, .null, .null, .int 0, .int 0, .int 0, .int 0])), (a8, .inl (eC E 0, 361, .inl (fun _ => 0))), (a17, .inl (eC E 0, 361, .inl (fun _ => 0))), (a26, .inl (eC E 0, 361, .inl (fun _ => 0))), (a35, .inl (eC E 0, 2888, .inl (fun _ => 0)))]) H := hP
  have hD : va_D (fre b0 s.heap.size) ([(b0, .inr (11, [.ref a8, .ref a17, .ref a26, .int 0, .ref a35, .int 0, .int (-1), .int (-1), .int 0, .null, .int 0, .null, .null, .null, .int 0, .null, .null, .null, .int 0, .int 0, .int 0, .int 0])), (a8, .inl (eC E 0, 361, .inl (fun _ => 0))), (a17, .inl (eC E 0, 361, .inl (fun _ => 0))), (a26, .inl (eC E 0, 361, .inl (fun _ => 0))), (a35, .inl (eC E 0, 2888, .inl (fun _ => 0)))]) := hD
  refine lv_aload_n hx hb dX10_init_50 rfl (lv_at hl 0 rfl) ?_
  refine lv_bipush (v := 60) hx hb dX10_init_51 rfl ?_
  refine va_newa (atype := .int) (ty := .int) (a0 := (60, .inl (fun _ => 0))) (N' := 60) hx hb (hts _ tw_1_64) rfl hK hP hD hS hA (fun _ => rfl) (by decide) rfl (by decide) (Nat.le_of_ble_eq_true rfl) (Nat.le_of_ble_eq_true rfl) dX10_init_53 (fun a53 cA H hK2 hP hD hS => ?_)
  have hcA : cA = eC E 0 := by
    have h1 := (hK2.2 6 (cA, .int) rfl).2
    have h2 := (hK2.2 0 (eC E 0, .int) rfl).2
    exact Option.some.inj (h1.symm.trans h2)
  subst hcA
  have hP : va_P (eD E) vwCl ([(b0, .inr (11, [.ref a8, .ref a17, .ref a26, .int 0, .ref a35, .int 0, .int (-1), .int (-1), .int 0, .null, .int 0, .null, .null, .null, .int 0, .null, .null, .null, .int 0, .int 0, .int 0, .int 0])), (a8, .inl (eC E 0, 361, .inl (fun _ => 0))), (a17, .inl (eC E 0, 361, .inl (fun _ => 0))), (a26, .inl (eC E 0, 361, .inl (fun _ => 0))), (a35, .inl (eC E 0, 2888, .inl (fun _ => 0))), (a53, .inl (eC E 0, 60, .inl (fun _ => 0)))]) H := hP
  have hD : va_D (fre b0 s.heap.size) ([(b0, .inr (11, [.ref a8, .ref a17, .ref a26, .int 0, .ref a35, .int 0, .int (-1), .int (-1), .int 0, .null, .int 0, .null, .null, .null, .int 0, .null, .null, .null, .int 0, .int 0, .int 0, .int 0])), (a8, .inl (eC E 0, 361, .inl (fun _ => 0))), (a17, .inl (eC E 0, 361, .inl (fun _ => 0))), (a26, .inl (eC E 0, 361, .inl (fun _ => 0))), (a35, .inl (eC E 0, 2888, .inl (fun _ => 0))), (a53, .inl (eC E 0, 60, .inl (fun _ => 0)))]) := hD
  refine va_putF hx hb hts in_X10 tyX10 tyX10_ok nmX10 hown hK hP hD hS 0 rfl rfl 9 (by decide) (hts _ tw_7_198) (fun _ h => h) rfl hC.2 rfl rfl rfl rfl (Nat.le_of_ble_eq_true rfl) dX10_init_55 (fun H locs hP hD hS => ?_)
  have hP : va_P (eD E) vwCl ([(b0, .inr (11, [.ref a8, .ref a17, .ref a26, .int 0, .ref a35, .int 0, .int (-1), .int (-1), .int 0, .ref a53, .int 0, .null, .null, .null, .int 0, .null, .null, .null, .int 0, .int 0, .int 0, .int 0])), (a8, .inl (eC E 0, 361, .inl (fun _ => 0))), (a17, .inl (eC E 0, 361, .inl (fun _ => 0))), (a26, .inl (eC E 0, 361, .inl (fun _ => 0))), (a35, .inl (eC E 0, 2888, .inl (fun _ => 0))), (a53, .inl (eC E 0, 60, .inl (fun _ => 0)))]) H := hP
  have hD : va_D (fre b0 s.heap.size) ([(b0, .inr (11, [.ref a8, .ref a17, .ref a26, .int 0, .ref a35, .int 0, .int (-1), .int (-1), .int 0, .ref a53, .int 0, .null, .null, .null, .int 0, .null, .null, .null, .int 0, .int 0, .int 0, .int 0])), (a8, .inl (eC E 0, 361, .inl (fun _ => 0))), (a17, .inl (eC E 0, 361, .inl (fun _ => 0))), (a26, .inl (eC E 0, 361, .inl (fun _ => 0))), (a35, .inl (eC E 0, 2888, .inl (fun _ => 0))), (a53, .inl (eC E 0, 60, .inl (fun _ => 0)))]) := hD
  refine lv_aload_n hx hb dX10_init_58 rfl (lv_at hl 0 rfl) ?_
  refine lv_bipush (v := 24) hx hb dX10_init_59 rfl ?_
  refine va_newa (atype := .int) (ty := .int) (a0 := (24, .inl (fun _ => 0))) (N' := 24) hx hb (hts _ tw_1_64) rfl hK hP hD hS hA (fun _ => rfl) (by decide) rfl (by decide) (Nat.le_of_ble_eq_true rfl) (Nat.le_of_ble_eq_true rfl) dX10_init_61 (fun a61 cA H hK2 hP hD hS => ?_)
  have hcA : cA = eC E 0 := by
    have h1 := (hK2.2 6 (cA, .int) rfl).2
    have h2 := (hK2.2 0 (eC E 0, .int) rfl).2
    exact Option.some.inj (h1.symm.trans h2)
  subst hcA
  have hP : va_P (eD E) vwCl ([(b0, .inr (11, [.ref a8, .ref a17, .ref a26, .int 0, .ref a35, .int 0, .int (-1), .int (-1), .int 0, .ref a53, .int 0, .null, .null, .null, .int 0, .null, .null, .null, .int 0, .int 0, .int 0, .int 0])), (a8, .inl (eC E 0, 361, .inl (fun _ => 0))), (a17, .inl (eC E 0, 361, .inl (fun _ => 0))), (a26, .inl (eC E 0, 361, .inl (fun _ => 0))), (a35, .inl (eC E 0, 2888, .inl (fun _ => 0))), (a53, .inl (eC E 0, 60, .inl (fun _ => 0))), (a61, .inl (eC E 0, 24, .inl (fun _ => 0)))]) H := hP
  have hD : va_D (fre b0 s.heap.size) ([(b0, .inr (11, [.ref a8, .ref a17, .ref a26, .int 0, .ref a35, .int 0, .int (-1), .int (-1), .int 0, .ref a53, .int 0, .null, .null, .null, .int 0, .null, .null, .null, .int 0, .int 0, .int 0, .int 0])), (a8, .inl (eC E 0, 361, .inl (fun _ => 0))), (a17, .inl (eC E 0, 361, .inl (fun _ => 0))), (a26, .inl (eC E 0, 361, .inl (fun _ => 0))), (a35, .inl (eC E 0, 2888, .inl (fun _ => 0))), (a53, .inl (eC E 0, 60, .inl (fun _ => 0))), (a61, .inl (eC E 0, 24, .inl (fun _ => 0)))]) := hD
  refine va_putF hx hb hts in_X10 tyX10 tyX10_ok nmX10 hown hK hP hD hS 0 rfl rfl 11 (by decide) (hts _ tw_7_200) (fun _ h => h) rfl hC.2 rfl rfl rfl rfl (Nat.le_of_ble_eq_true rfl) dX10_init_63 (fun H locs hP hD hS => ?_)
  have hP : va_P (eD E) vwCl ([(b0, .inr (11, [.ref a8, .ref a17, .ref a26, .int 0, .ref a35, .int 0, .int (-1), .int (-1), .int 0, .ref a53, .int 0, .ref a61, .null, .null, .int 0, .null, .null, .null, .int 0, .int 0, .int 0, .int 0])), (a8, .inl (eC E 0, 361, .inl (fun _ => 0))), (a17, .inl (eC E 0, 361, .inl (fun _ => 0))), (a26, .inl (eC E 0, 361, .inl (fun _ => 0))), (a35, .inl (eC E 0, 2888, .inl (fun _ => 0))), (a53, .inl (eC E 0, 60, .inl (fun _ => 0))), (a61, .inl (eC E 0, 24, .inl (fun _ => 0)))]) H := hP
  have hD : va_D (fre b0 s.heap.size) ([(b0, .inr (11, [.ref a8, .ref a17, .ref a26, .int 0, .ref a35, .int 0, .int (-1), .int (-1), .int 0, .ref a53, .int 0, .ref a61, .null, .null, .int 0, .null, .null, .null, .int 0, .int 0, .int 0, .int 0])), (a8, .inl (eC E 0, 361, .inl (fun _ => 0))), (a17, .inl (eC E 0, 361, .inl (fun _ => 0))), (a26, .inl (eC E 0, 361, .inl (fun _ => 0))), (a35, .inl (eC E 0, 2888, .inl (fun _ => 0))), (a53, .inl (eC E 0, 60, .inl (fun _ => 0))), (a61, .inl (eC E 0, 24, .inl (fun _ => 0)))]) := hD
  refine lv_aload_n hx hb dX10_init_66 rfl (lv_at hl 0 rfl) ?_
  refine lv_bipush (v := 24) hx hb dX10_init_67 rfl ?_
  refine va_newa (atype := .int) (ty := .int) (a0 := (24, .inl (fun _ => 0))) (N' := 24) hx hb (hts _ tw_1_64) rfl hK hP hD hS hA (fun _ => rfl) (by decide) rfl (by decide) (Nat.le_of_ble_eq_true rfl) (Nat.le_of_ble_eq_true rfl) dX10_init_69 (fun a69 cA H hK2 hP hD hS => ?_)
  have hcA : cA = eC E 0 := by
    have h1 := (hK2.2 6 (cA, .int) rfl).2
    have h2 := (hK2.2 0 (eC E 0, .int) rfl).2
    exact Option.some.inj (h1.symm.trans h2)
  subst hcA
  have hP : va_P (eD E) vwCl ([(b0, .inr (11, [.ref a8, .ref a17, .ref a26, .int 0, .ref a35, .int 0, .int (-1), .int (-1), .int 0, .ref a53, .int 0, .ref a61, .null, .null, .int 0, .null, .null, .null, .int 0, .int 0, .int 0, .int 0])), (a8, .inl (eC E 0, 361, .inl (fun _ => 0))), (a17, .inl (eC E 0, 361, .inl (fun _ => 0))), (a26, .inl (eC E 0, 361, .inl (fun _ => 0))), (a35, .inl (eC E 0, 2888, .inl (fun _ => 0))), (a53, .inl (eC E 0, 60, .inl (fun _ => 0))), (a61, .inl (eC E 0, 24, .inl (fun _ => 0))), (a69, .inl (eC E 0, 24, .inl (fun _ => 0)))]) H := hP
  have hD : va_D (fre b0 s.heap.size) ([(b0, .inr (11, [.ref a8, .ref a17, .ref a26, .int 0, .ref a35, .int 0, .int (-1), .int (-1), .int 0, .ref a53, .int 0, .ref a61, .null, .null, .int 0, .null, .null, .null, .int 0, .int 0, .int 0, .int 0])), (a8, .inl (eC E 0, 361, .inl (fun _ => 0))), (a17, .inl (eC E 0, 361, .inl (fun _ => 0))), (a26, .inl (eC E 0, 361, .inl (fun _ => 0))), (a35, .inl (eC E 0, 2888, .inl (fun _ => 0))), (a53, .inl (eC E 0, 60, .inl (fun _ => 0))), (a61, .inl (eC E 0, 24, .inl (fun _ => 0))), (a69, .inl (eC E 0, 24, .inl (fun _ => 0)))]) := hD
  refine va_putF hx hb hts in_X10 tyX10 tyX10_ok nmX10 hown hK hP hD hS 0 rfl rfl 12 (by decide) (hts _ tw_7_201) (fun _ h => h) rfl hC.2 rfl rfl rfl rfl (Nat.le_of_ble_eq_true rfl) dX10_init_71 (fun H locs hP hD hS => ?_)
  have hP : va_P (eD E) vwCl ([(b0, .inr (11, [.ref a8, .ref a17, .ref a26, .int 0, .ref a35, .int 0, .int (-1), .int (-1), .int 0, .ref a53, .int 0, .ref a61, .ref a69, .null, .int 0, .null, .null, .null, .int 0, .int 0, .int 0, .int 0])), (a8, .inl (eC E 0, 361, .inl (fun _ => 0))), (a17, .inl (eC E 0, 361, .inl (fun _ => 0))), (a26, .inl (eC E 0, 361, .inl (fun _ => 0))), (a35, .inl (eC E 0, 2888, .inl (fun _ => 0))), (a53, .inl (eC E 0, 60, .inl (fun _ => 0))), (a61, .inl (eC E 0, 24, .inl (fun _ => 0))), (a69, .inl (eC E 0, 24, .inl (fun _ => 0)))]) H := hP
  have hD : va_D (fre b0 s.heap.size) ([(b0, .inr (11, [.ref a8, .ref a17, .ref a26, .int 0, .ref a35, .int 0, .int (-1), .int (-1), .int 0, .ref a53, .int 0, .ref a61, .ref a69, .null, .int 0, .null, .null, .null, .int 0, .int 0, .int 0, .int 0])), (a8, .inl (eC E 0, 361, .inl (fun _ => 0))), (a17, .inl (eC E 0, 361, .inl (fun _ => 0))), (a26, .inl (eC E 0, 361, .inl (fun _ => 0))), (a35, .inl (eC E 0, 2888, .inl (fun _ => 0))), (a53, .inl (eC E 0, 60, .inl (fun _ => 0))), (a61, .inl (eC E 0, 24, .inl (fun _ => 0))), (a69, .inl (eC E 0, 24, .inl (fun _ => 0)))]) := hD
  refine lv_aload_n hx hb dX10_init_74 rfl (lv_at hl 0 rfl) ?_
  refine lv_bipush (v := 40) hx hb dX10_init_75 rfl ?_
  refine va_newa (atype := .int) (ty := .int) (a0 := (40, .inl (fun _ => 0))) (N' := 40) hx hb (hts _ tw_1_64) rfl hK hP hD hS hA (fun _ => rfl) (by decide) rfl (by decide) (Nat.le_of_ble_eq_true rfl) (Nat.le_of_ble_eq_true rfl) dX10_init_77 (fun a77 cA H hK2 hP hD hS => ?_)
  have hcA : cA = eC E 0 := by
    have h1 := (hK2.2 6 (cA, .int) rfl).2
    have h2 := (hK2.2 0 (eC E 0, .int) rfl).2
    exact Option.some.inj (h1.symm.trans h2)
  subst hcA
  have hP : va_P (eD E) vwCl ([(b0, .inr (11, [.ref a8, .ref a17, .ref a26, .int 0, .ref a35, .int 0, .int (-1), .int (-1), .int 0, .ref a53, .int 0, .ref a61, .ref a69, .null, .int 0, .null, .null, .null, .int 0, .int 0, .int 0, .int 0])), (a8, .inl (eC E 0, 361, .inl (fun _ => 0))), (a17, .inl (eC E 0, 361, .inl (fun _ => 0))), (a26, .inl (eC E 0, 361, .inl (fun _ => 0))), (a35, .inl (eC E 0, 2888, .inl (fun _ => 0))), (a53, .inl (eC E 0, 60, .inl (fun _ => 0))), (a61, .inl (eC E 0, 24, .inl (fun _ => 0))), (a69, .inl (eC E 0, 24, .inl (fun _ => 0))), (a77, .inl (eC E 0, 40, .inl (fun _ => 0)))]) H := hP
  have hD : va_D (fre b0 s.heap.size) ([(b0, .inr (11, [.ref a8, .ref a17, .ref a26, .int 0, .ref a35, .int 0, .int (-1), .int (-1), .int 0, .ref a53, .int 0, .ref a61, .ref a69, .null, .int 0, .null, .null, .null, .int 0, .int 0, .int 0, .int 0])), (a8, .inl (eC E 0, 361, .inl (fun _ => 0))), (a17, .inl (eC E 0, 361, .inl (fun _ => 0))), (a26, .inl (eC E 0, 361, .inl (fun _ => 0))), (a35, .inl (eC E 0, 2888, .inl (fun _ => 0))), (a53, .inl (eC E 0, 60, .inl (fun _ => 0))), (a61, .inl (eC E 0, 24, .inl (fun _ => 0))), (a69, .inl (eC E 0, 24, .inl (fun _ => 0))), (a77, .inl (eC E 0, 40, .inl (fun _ => 0)))]) := hD
  refine va_putF hx hb hts in_X10 tyX10 tyX10_ok nmX10 hown hK hP hD hS 0 rfl rfl 13 (by decide) (hts _ tw_7_202) (fun _ h => h) rfl hC.2 rfl rfl rfl rfl (Nat.le_of_ble_eq_true rfl) dX10_init_79 (fun H locs hP hD hS => ?_)
  have hP : va_P (eD E) vwCl ([(b0, .inr (11, [.ref a8, .ref a17, .ref a26, .int 0, .ref a35, .int 0, .int (-1), .int (-1), .int 0, .ref a53, .int 0, .ref a61, .ref a69, .ref a77, .int 0, .null, .null, .null, .int 0, .int 0, .int 0, .int 0])), (a8, .inl (eC E 0, 361, .inl (fun _ => 0))), (a17, .inl (eC E 0, 361, .inl (fun _ => 0))), (a26, .inl (eC E 0, 361, .inl (fun _ => 0))), (a35, .inl (eC E 0, 2888, .inl (fun _ => 0))), (a53, .inl (eC E 0, 60, .inl (fun _ => 0))), (a61, .inl (eC E 0, 24, .inl (fun _ => 0))), (a69, .inl (eC E 0, 24, .inl (fun _ => 0))), (a77, .inl (eC E 0, 40, .inl (fun _ => 0)))]) H := hP
  have hD : va_D (fre b0 s.heap.size) ([(b0, .inr (11, [.ref a8, .ref a17, .ref a26, .int 0, .ref a35, .int 0, .int (-1), .int (-1), .int 0, .ref a53, .int 0, .ref a61, .ref a69, .ref a77, .int 0, .null, .null, .null, .int 0, .int 0, .int 0, .int 0])), (a8, .inl (eC E 0, 361, .inl (fun _ => 0))), (a17, .inl (eC E 0, 361, .inl (fun _ => 0))), (a26, .inl (eC E 0, 361, .inl (fun _ => 0))), (a35, .inl (eC E 0, 2888, .inl (fun _ => 0))), (a53, .inl (eC E 0, 60, .inl (fun _ => 0))), (a61, .inl (eC E 0, 24, .inl (fun _ => 0))), (a69, .inl (eC E 0, 24, .inl (fun _ => 0))), (a77, .inl (eC E 0, 40, .inl (fun _ => 0)))]) := hD
  refine lv_aload_n hx hb dX10_init_82 rfl (lv_at hl 0 rfl) ?_
  refine lv_bipush (v := 78) hx hb dX10_init_83 rfl ?_
  refine va_newa (atype := .char) (ty := .char) (a0 := (78, .inl (fun _ => 0))) (N' := 78) hx hb (hts _ tw_8_16) rfl hK hP hD hS hA (fun _ => rfl) (by decide) rfl (by decide) (Nat.le_of_ble_eq_true rfl) (Nat.le_of_ble_eq_true rfl) dX10_init_85 (fun a85 cA H hK2 hP hD hS => ?_)
  have hcA : cA = eC E 2 := by
    have h1 := (hK2.2 6 (cA, .char) rfl).2
    have h2 := (hK2.2 2 (eC E 2, .char) rfl).2
    exact Option.some.inj (h1.symm.trans h2)
  subst hcA
  have hP : va_P (eD E) vwCl ([(b0, .inr (11, [.ref a8, .ref a17, .ref a26, .int 0, .ref a35, .int 0, .int (-1), .int (-1), .int 0, .ref a53, .int 0, .ref a61, .ref a69, .ref a77, .int 0, .null, .null, .null, .int 0, .int 0, .int 0, .int 0])), (a8, .inl (eC E 0, 361, .inl (fun _ => 0))), (a17, .inl (eC E 0, 361, .inl (fun _ => 0))), (a26, .inl (eC E 0, 361, .inl (fun _ => 0))), (a35, .inl (eC E 0, 2888, .inl (fun _ => 0))), (a53, .inl (eC E 0, 60, .inl (fun _ => 0))), (a61, .inl (eC E 0, 24, .inl (fun _ => 0))), (a69, .inl (eC E 0, 24, .inl (fun _ => 0))), (a77, .inl (eC E 0, 40, .inl (fun _ => 0))), (a85, .inl (eC E 2, 78, .inl (letF 0)))]) H := by rw [letF_0]; exact hP
  have hD : va_D (fre b0 s.heap.size) ([(b0, .inr (11, [.ref a8, .ref a17, .ref a26, .int 0, .ref a35, .int 0, .int (-1), .int (-1), .int 0, .ref a53, .int 0, .ref a61, .ref a69, .ref a77, .int 0, .null, .null, .null, .int 0, .int 0, .int 0, .int 0])), (a8, .inl (eC E 0, 361, .inl (fun _ => 0))), (a17, .inl (eC E 0, 361, .inl (fun _ => 0))), (a26, .inl (eC E 0, 361, .inl (fun _ => 0))), (a35, .inl (eC E 0, 2888, .inl (fun _ => 0))), (a53, .inl (eC E 0, 60, .inl (fun _ => 0))), (a61, .inl (eC E 0, 24, .inl (fun _ => 0))), (a69, .inl (eC E 0, 24, .inl (fun _ => 0))), (a77, .inl (eC E 0, 40, .inl (fun _ => 0))), (a85, .inl (eC E 2, 78, .inl (letF 0)))]) := by rw [letF_0]; exact hD
  refine lv_dup hx hb dX10_init_87 rfl ?_
  refine lv_iconst (v := 0) hx hb dX10_init_88 rfl ?_
  refine lv_bipush (v := 101) hx hb dX10_init_89 rfl ?_
  refine va_cast hx hb hK hP hD hS 9 2 rfl rfl (nI_in (c := 0) (N := 78) (by decide) (by decide)) dX10_init_91 (fun H locs hP hD hS => ?_)
  have hP : va_P (eD E) vwCl ([(b0, .inr (11, [.ref a8, .ref a17, .ref a26, .int 0, .ref a35, .int 0, .int (-1), .int (-1), .int 0, .ref a53, .int 0, .ref a61, .ref a69, .ref a77, .int 0, .null, .null, .null, .int 0, .int 0, .int 0, .int 0])), (a8, .inl (eC E 0, 361, .inl (fun _ => 0))), (a17, .inl (eC E 0, 361, .inl (fun _ => 0))), (a26, .inl (eC E 0, 361, .inl (fun _ => 0))), (a35, .inl (eC E 0, 2888, .inl (fun _ => 0))), (a53, .inl (eC E 0, 60, .inl (fun _ => 0))), (a61, .inl (eC E 0, 24, .inl (fun _ => 0))), (a69, .inl (eC E 0, 24, .inl (fun _ => 0))), (a77, .inl (eC E 0, 40, .inl (fun _ => 0))), (a85, .inl (eC E 2, 78, .inl (letF 1)))]) H := by rw [← letF_s (i := 0) (c := vp_nar .char 101) (by decide)]; exact hP
  have hD : va_D (fre b0 s.heap.size) ([(b0, .inr (11, [.ref a8, .ref a17, .ref a26, .int 0, .ref a35, .int 0, .int (-1), .int (-1), .int 0, .ref a53, .int 0, .ref a61, .ref a69, .ref a77, .int 0, .null, .null, .null, .int 0, .int 0, .int 0, .int 0])), (a8, .inl (eC E 0, 361, .inl (fun _ => 0))), (a17, .inl (eC E 0, 361, .inl (fun _ => 0))), (a26, .inl (eC E 0, 361, .inl (fun _ => 0))), (a35, .inl (eC E 0, 2888, .inl (fun _ => 0))), (a53, .inl (eC E 0, 60, .inl (fun _ => 0))), (a61, .inl (eC E 0, 24, .inl (fun _ => 0))), (a69, .inl (eC E 0, 24, .inl (fun _ => 0))), (a77, .inl (eC E 0, 40, .inl (fun _ => 0))), (a85, .inl (eC E 2, 78, .inl (letF 1)))]) := by rw [← letF_s (i := 0) (c := vp_nar .char 101) (by decide)]; exact hD
  refine lv_dup hx hb dX10_init_92 rfl ?_
  refine lv_iconst (v := 1) hx hb dX10_init_93 rfl ?_
  refine lv_bipush (v := 100) hx hb dX10_init_94 rfl ?_
  refine va_cast hx hb hK hP hD hS 9 2 rfl rfl (nI_in (c := 1) (N := 78) (by decide) (by decide)) dX10_init_96 (fun H locs hP hD hS => ?_)
  have hP : va_P (eD E) vwCl ([(b0, .inr (11, [.ref a8, .ref a17, .ref a26, .int 0, .ref a35, .int 0, .int (-1), .int (-1), .int 0, .ref a53, .int 0, .ref a61, .ref a69, .ref a77, .int 0, .null, .null, .null, .int 0, .int 0, .int 0, .int 0])), (a8, .inl (eC E 0, 361, .inl (fun _ => 0))), (a17, .inl (eC E 0, 361, .inl (fun _ => 0))), (a26, .inl (eC E 0, 361, .inl (fun _ => 0))), (a35, .inl (eC E 0, 2888, .inl (fun _ => 0))), (a53, .inl (eC E 0, 60, .inl (fun _ => 0))), (a61, .inl (eC E 0, 24, .inl (fun _ => 0))), (a69, .inl (eC E 0, 24, .inl (fun _ => 0))), (a77, .inl (eC E 0, 40, .inl (fun _ => 0))), (a85, .inl (eC E 2, 78, .inl (letF 2)))]) H := by rw [← letF_s (i := 1) (c := vp_nar .char 100) (by decide)]; exact hP
  have hD : va_D (fre b0 s.heap.size) ([(b0, .inr (11, [.ref a8, .ref a17, .ref a26, .int 0, .ref a35, .int 0, .int (-1), .int (-1), .int 0, .ref a53, .int 0, .ref a61, .ref a69, .ref a77, .int 0, .null, .null, .null, .int 0, .int 0, .int 0, .int 0])), (a8, .inl (eC E 0, 361, .inl (fun _ => 0))), (a17, .inl (eC E 0, 361, .inl (fun _ => 0))), (a26, .inl (eC E 0, 361, .inl (fun _ => 0))), (a35, .inl (eC E 0, 2888, .inl (fun _ => 0))), (a53, .inl (eC E 0, 60, .inl (fun _ => 0))), (a61, .inl (eC E 0, 24, .inl (fun _ => 0))), (a69, .inl (eC E 0, 24, .inl (fun _ => 0))), (a77, .inl (eC E 0, 40, .inl (fun _ => 0))), (a85, .inl (eC E 2, 78, .inl (letF 2)))]) := by rw [← letF_s (i := 1) (c := vp_nar .char 100) (by decide)]; exact hD
  refine lv_dup hx hb dX10_init_97 rfl ?_
  refine lv_iconst (v := 2) hx hb dX10_init_98 rfl ?_
  refine lv_bipush (v := 105) hx hb dX10_init_99 rfl ?_
  refine va_cast hx hb hK hP hD hS 9 2 rfl rfl (nI_in (c := 2) (N := 78) (by decide) (by decide)) dX10_init_101 (fun H locs hP hD hS => ?_)
  have hP : va_P (eD E) vwCl ([(b0, .inr (11, [.ref a8, .ref a17, .ref a26, .int 0, .ref a35, .int 0, .int (-1), .int (-1), .int 0, .ref a53, .int 0, .ref a61, .ref a69, .ref a77, .int 0, .null, .null, .null, .int 0, .int 0, .int 0, .int 0])), (a8, .inl (eC E 0, 361, .inl (fun _ => 0))), (a17, .inl (eC E 0, 361, .inl (fun _ => 0))), (a26, .inl (eC E 0, 361, .inl (fun _ => 0))), (a35, .inl (eC E 0, 2888, .inl (fun _ => 0))), (a53, .inl (eC E 0, 60, .inl (fun _ => 0))), (a61, .inl (eC E 0, 24, .inl (fun _ => 0))), (a69, .inl (eC E 0, 24, .inl (fun _ => 0))), (a77, .inl (eC E 0, 40, .inl (fun _ => 0))), (a85, .inl (eC E 2, 78, .inl (letF 3)))]) H := by rw [← letF_s (i := 2) (c := vp_nar .char 105) (by decide)]; exact hP
  have hD : va_D (fre b0 s.heap.size) ([(b0, .inr (11, [.ref a8, .ref a17, .ref a26, .int 0, .ref a35, .int 0, .int (-1), .int (-1), .int 0, .ref a53, .int 0, .ref a61, .ref a69, .ref a77, .int 0, .null, .null, .null, .int 0, .int 0, .int 0, .int 0])), (a8, .inl (eC E 0, 361, .inl (fun _ => 0))), (a17, .inl (eC E 0, 361, .inl (fun _ => 0))), (a26, .inl (eC E 0, 361, .inl (fun _ => 0))), (a35, .inl (eC E 0, 2888, .inl (fun _ => 0))), (a53, .inl (eC E 0, 60, .inl (fun _ => 0))), (a61, .inl (eC E 0, 24, .inl (fun _ => 0))), (a69, .inl (eC E 0, 24, .inl (fun _ => 0))), (a77, .inl (eC E 0, 40, .inl (fun _ => 0))), (a85, .inl (eC E 2, 78, .inl (letF 3)))]) := by rw [← letF_s (i := 2) (c := vp_nar .char 105) (by decide)]; exact hD
  refine lv_dup hx hb dX10_init_102 rfl ?_
  refine lv_iconst (v := 3) hx hb dX10_init_103 rfl ?_
  refine lv_bipush (v := 116) hx hb dX10_init_104 rfl ?_
  refine va_cast hx hb hK hP hD hS 9 2 rfl rfl (nI_in (c := 3) (N := 78) (by decide) (by decide)) dX10_init_106 (fun H locs hP hD hS => ?_)
  have hP : va_P (eD E) vwCl ([(b0, .inr (11, [.ref a8, .ref a17, .ref a26, .int 0, .ref a35, .int 0, .int (-1), .int (-1), .int 0, .ref a53, .int 0, .ref a61, .ref a69, .ref a77, .int 0, .null, .null, .null, .int 0, .int 0, .int 0, .int 0])), (a8, .inl (eC E 0, 361, .inl (fun _ => 0))), (a17, .inl (eC E 0, 361, .inl (fun _ => 0))), (a26, .inl (eC E 0, 361, .inl (fun _ => 0))), (a35, .inl (eC E 0, 2888, .inl (fun _ => 0))), (a53, .inl (eC E 0, 60, .inl (fun _ => 0))), (a61, .inl (eC E 0, 24, .inl (fun _ => 0))), (a69, .inl (eC E 0, 24, .inl (fun _ => 0))), (a77, .inl (eC E 0, 40, .inl (fun _ => 0))), (a85, .inl (eC E 2, 78, .inl (letF 4)))]) H := by rw [← letF_s (i := 3) (c := vp_nar .char 116) (by decide)]; exact hP
  have hD : va_D (fre b0 s.heap.size) ([(b0, .inr (11, [.ref a8, .ref a17, .ref a26, .int 0, .ref a35, .int 0, .int (-1), .int (-1), .int 0, .ref a53, .int 0, .ref a61, .ref a69, .ref a77, .int 0, .null, .null, .null, .int 0, .int 0, .int 0, .int 0])), (a8, .inl (eC E 0, 361, .inl (fun _ => 0))), (a17, .inl (eC E 0, 361, .inl (fun _ => 0))), (a26, .inl (eC E 0, 361, .inl (fun _ => 0))), (a35, .inl (eC E 0, 2888, .inl (fun _ => 0))), (a53, .inl (eC E 0, 60, .inl (fun _ => 0))), (a61, .inl (eC E 0, 24, .inl (fun _ => 0))), (a69, .inl (eC E 0, 24, .inl (fun _ => 0))), (a77, .inl (eC E 0, 40, .inl (fun _ => 0))), (a85, .inl (eC E 2, 78, .inl (letF 4)))]) := by rw [← letF_s (i := 3) (c := vp_nar .char 116) (by decide)]; exact hD
  refine lv_dup hx hb dX10_init_107 rfl ?_
  refine lv_iconst (v := 4) hx hb dX10_init_108 rfl ?_
  refine lv_bipush (v := 32) hx hb dX10_init_109 rfl ?_
  refine va_cast hx hb hK hP hD hS 9 2 rfl rfl (nI_in (c := 4) (N := 78) (by decide) (by decide)) dX10_init_111 (fun H locs hP hD hS => ?_)
  have hP : va_P (eD E) vwCl ([(b0, .inr (11, [.ref a8, .ref a17, .ref a26, .int 0, .ref a35, .int 0, .int (-1), .int (-1), .int 0, .ref a53, .int 0, .ref a61, .ref a69, .ref a77, .int 0, .null, .null, .null, .int 0, .int 0, .int 0, .int 0])), (a8, .inl (eC E 0, 361, .inl (fun _ => 0))), (a17, .inl (eC E 0, 361, .inl (fun _ => 0))), (a26, .inl (eC E 0, 361, .inl (fun _ => 0))), (a35, .inl (eC E 0, 2888, .inl (fun _ => 0))), (a53, .inl (eC E 0, 60, .inl (fun _ => 0))), (a61, .inl (eC E 0, 24, .inl (fun _ => 0))), (a69, .inl (eC E 0, 24, .inl (fun _ => 0))), (a77, .inl (eC E 0, 40, .inl (fun _ => 0))), (a85, .inl (eC E 2, 78, .inl (letF 5)))]) H := by rw [← letF_s (i := 4) (c := vp_nar .char 32) (by decide)]; exact hP
  have hD : va_D (fre b0 s.heap.size) ([(b0, .inr (11, [.ref a8, .ref a17, .ref a26, .int 0, .ref a35, .int 0, .int (-1), .int (-1), .int 0, .ref a53, .int 0, .ref a61, .ref a69, .ref a77, .int 0, .null, .null, .null, .int 0, .int 0, .int 0, .int 0])), (a8, .inl (eC E 0, 361, .inl (fun _ => 0))), (a17, .inl (eC E 0, 361, .inl (fun _ => 0))), (a26, .inl (eC E 0, 361, .inl (fun _ => 0))), (a35, .inl (eC E 0, 2888, .inl (fun _ => 0))), (a53, .inl (eC E 0, 60, .inl (fun _ => 0))), (a61, .inl (eC E 0, 24, .inl (fun _ => 0))), (a69, .inl (eC E 0, 24, .inl (fun _ => 0))), (a77, .inl (eC E 0, 40, .inl (fun _ => 0))), (a85, .inl (eC E 2, 78, .inl (letF 5)))]) := by rw [← letF_s (i := 4) (c := vp_nar .char 32) (by decide)]; exact hD
  refine lv_dup hx hb dX10_init_112 rfl ?_
  refine lv_iconst (v := 5) hx hb dX10_init_113 rfl ?_
  refine lv_bipush (v := 114) hx hb dX10_init_114 rfl ?_
  refine va_cast hx hb hK hP hD hS 9 2 rfl rfl (nI_in (c := 5) (N := 78) (by decide) (by decide)) dX10_init_116 (fun H locs hP hD hS => ?_)
  have hP : va_P (eD E) vwCl ([(b0, .inr (11, [.ref a8, .ref a17, .ref a26, .int 0, .ref a35, .int 0, .int (-1), .int (-1), .int 0, .ref a53, .int 0, .ref a61, .ref a69, .ref a77, .int 0, .null, .null, .null, .int 0, .int 0, .int 0, .int 0])), (a8, .inl (eC E 0, 361, .inl (fun _ => 0))), (a17, .inl (eC E 0, 361, .inl (fun _ => 0))), (a26, .inl (eC E 0, 361, .inl (fun _ => 0))), (a35, .inl (eC E 0, 2888, .inl (fun _ => 0))), (a53, .inl (eC E 0, 60, .inl (fun _ => 0))), (a61, .inl (eC E 0, 24, .inl (fun _ => 0))), (a69, .inl (eC E 0, 24, .inl (fun _ => 0))), (a77, .inl (eC E 0, 40, .inl (fun _ => 0))), (a85, .inl (eC E 2, 78, .inl (letF 6)))]) H := by rw [← letF_s (i := 5) (c := vp_nar .char 114) (by decide)]; exact hP
  have hD : va_D (fre b0 s.heap.size) ([(b0, .inr (11, [.ref a8, .ref a17, .ref a26, .int 0, .ref a35, .int 0, .int (-1), .int (-1), .int 0, .ref a53, .int 0, .ref a61, .ref a69, .ref a77, .int 0, .null, .null, .null, .int 0, .int 0, .int 0, .int 0])), (a8, .inl (eC E 0, 361, .inl (fun _ => 0))), (a17, .inl (eC E 0, 361, .inl (fun _ => 0))), (a26, .inl (eC E 0, 361, .inl (fun _ => 0))), (a35, .inl (eC E 0, 2888, .inl (fun _ => 0))), (a53, .inl (eC E 0, 60, .inl (fun _ => 0))), (a61, .inl (eC E 0, 24, .inl (fun _ => 0))), (a69, .inl (eC E 0, 24, .inl (fun _ => 0))), (a77, .inl (eC E 0, 40, .inl (fun _ => 0))), (a85, .inl (eC E 2, 78, .inl (letF 6)))]) := by rw [← letF_s (i := 5) (c := vp_nar .char 114) (by decide)]; exact hD
  refine lv_dup hx hb dX10_init_117 rfl ?_
  refine lv_bipush (v := 6) hx hb dX10_init_118 rfl ?_
  refine lv_bipush (v := 101) hx hb dX10_init_120 rfl ?_
  refine va_cast hx hb hK hP hD hS 9 2 rfl rfl (nI_in (c := 6) (N := 78) (by decide) (by decide)) dX10_init_122 (fun H locs hP hD hS => ?_)
  have hP : va_P (eD E) vwCl ([(b0, .inr (11, [.ref a8, .ref a17, .ref a26, .int 0, .ref a35, .int 0, .int (-1), .int (-1), .int 0, .ref a53, .int 0, .ref a61, .ref a69, .ref a77, .int 0, .null, .null, .null, .int 0, .int 0, .int 0, .int 0])), (a8, .inl (eC E 0, 361, .inl (fun _ => 0))), (a17, .inl (eC E 0, 361, .inl (fun _ => 0))), (a26, .inl (eC E 0, 361, .inl (fun _ => 0))), (a35, .inl (eC E 0, 2888, .inl (fun _ => 0))), (a53, .inl (eC E 0, 60, .inl (fun _ => 0))), (a61, .inl (eC E 0, 24, .inl (fun _ => 0))), (a69, .inl (eC E 0, 24, .inl (fun _ => 0))), (a77, .inl (eC E 0, 40, .inl (fun _ => 0))), (a85, .inl (eC E 2, 78, .inl (letF 7)))]) H := by rw [← letF_s (i := 6) (c := vp_nar .char 101) (by decide)]; exact hP
  have hD : va_D (fre b0 s.heap.size) ([(b0, .inr (11, [.ref a8, .ref a17, .ref a26, .int 0, .ref a35, .int 0, .int (-1), .int (-1), .int 0, .ref a53, .int 0, .ref a61, .ref a69, .ref a77, .int 0, .null, .null, .null, .int 0, .int 0, .int 0, .int 0])), (a8, .inl (eC E 0, 361, .inl (fun _ => 0))), (a17, .inl (eC E 0, 361, .inl (fun _ => 0))), (a26, .inl (eC E 0, 361, .inl (fun _ => 0))), (a35, .inl (eC E 0, 2888, .inl (fun _ => 0))), (a53, .inl (eC E 0, 60, .inl (fun _ => 0))), (a61, .inl (eC E 0, 24, .inl (fun _ => 0))), (a69, .inl (eC E 0, 24, .inl (fun _ => 0))), (a77, .inl (eC E 0, 40, .inl (fun _ => 0))), (a85, .inl (eC E 2, 78, .inl (letF 7)))]) := by rw [← letF_s (i := 6) (c := vp_nar .char 101) (by decide)]; exact hD
  refine lv_dup hx hb dX10_init_123 rfl ?_
  refine lv_bipush (v := 7) hx hb dX10_init_124 rfl ?_
  refine lv_bipush (v := 118) hx hb dX10_init_126 rfl ?_
  refine va_cast hx hb hK hP hD hS 9 2 rfl rfl (nI_in (c := 7) (N := 78) (by decide) (by decide)) dX10_init_128 (fun H locs hP hD hS => ?_)
  have hP : va_P (eD E) vwCl ([(b0, .inr (11, [.ref a8, .ref a17, .ref a26, .int 0, .ref a35, .int 0, .int (-1), .int (-1), .int 0, .ref a53, .int 0, .ref a61, .ref a69, .ref a77, .int 0, .null, .null, .null, .int 0, .int 0, .int 0, .int 0])), (a8, .inl (eC E 0, 361, .inl (fun _ => 0))), (a17, .inl (eC E 0, 361, .inl (fun _ => 0))), (a26, .inl (eC E 0, 361, .inl (fun _ => 0))), (a35, .inl (eC E 0, 2888, .inl (fun _ => 0))), (a53, .inl (eC E 0, 60, .inl (fun _ => 0))), (a61, .inl (eC E 0, 24, .inl (fun _ => 0))), (a69, .inl (eC E 0, 24, .inl (fun _ => 0))), (a77, .inl (eC E 0, 40, .inl (fun _ => 0))), (a85, .inl (eC E 2, 78, .inl (letF 8)))]) H := by rw [← letF_s (i := 7) (c := vp_nar .char 118) (by decide)]; exact hP
  have hD : va_D (fre b0 s.heap.size) ([(b0, .inr (11, [.ref a8, .ref a17, .ref a26, .int 0, .ref a35, .int 0, .int (-1), .int (-1), .int 0, .ref a53, .int 0, .ref a61, .ref a69, .ref a77, .int 0, .null, .null, .null, .int 0, .int 0, .int 0, .int 0])), (a8, .inl (eC E 0, 361, .inl (fun _ => 0))), (a17, .inl (eC E 0, 361, .inl (fun _ => 0))), (a26, .inl (eC E 0, 361, .inl (fun _ => 0))), (a35, .inl (eC E 0, 2888, .inl (fun _ => 0))), (a53, .inl (eC E 0, 60, .inl (fun _ => 0))), (a61, .inl (eC E 0, 24, .inl (fun _ => 0))), (a69, .inl (eC E 0, 24, .inl (fun _ => 0))), (a77, .inl (eC E 0, 40, .inl (fun _ => 0))), (a85, .inl (eC E 2, 78, .inl (letF 8)))]) := by rw [← letF_s (i := 7) (c := vp_nar .char 118) (by decide)]; exact hD
  refine lv_dup hx hb dX10_init_129 rfl ?_
  refine lv_bipush (v := 8) hx hb dX10_init_130 rfl ?_
  refine lv_bipush (v := 101) hx hb dX10_init_132 rfl ?_
  refine va_cast hx hb hK hP hD hS 9 2 rfl rfl (nI_in (c := 8) (N := 78) (by decide) (by decide)) dX10_init_134 (fun H locs hP hD hS => ?_)
  have hP : va_P (eD E) vwCl ([(b0, .inr (11, [.ref a8, .ref a17, .ref a26, .int 0, .ref a35, .int 0, .int (-1), .int (-1), .int 0, .ref a53, .int 0, .ref a61, .ref a69, .ref a77, .int 0, .null, .null, .null, .int 0, .int 0, .int 0, .int 0])), (a8, .inl (eC E 0, 361, .inl (fun _ => 0))), (a17, .inl (eC E 0, 361, .inl (fun _ => 0))), (a26, .inl (eC E 0, 361, .inl (fun _ => 0))), (a35, .inl (eC E 0, 2888, .inl (fun _ => 0))), (a53, .inl (eC E 0, 60, .inl (fun _ => 0))), (a61, .inl (eC E 0, 24, .inl (fun _ => 0))), (a69, .inl (eC E 0, 24, .inl (fun _ => 0))), (a77, .inl (eC E 0, 40, .inl (fun _ => 0))), (a85, .inl (eC E 2, 78, .inl (letF 9)))]) H := by rw [← letF_s (i := 8) (c := vp_nar .char 101) (by decide)]; exact hP
  have hD : va_D (fre b0 s.heap.size) ([(b0, .inr (11, [.ref a8, .ref a17, .ref a26, .int 0, .ref a35, .int 0, .int (-1), .int (-1), .int 0, .ref a53, .int 0, .ref a61, .ref a69, .ref a77, .int 0, .null, .null, .null, .int 0, .int 0, .int 0, .int 0])), (a8, .inl (eC E 0, 361, .inl (fun _ => 0))), (a17, .inl (eC E 0, 361, .inl (fun _ => 0))), (a26, .inl (eC E 0, 361, .inl (fun _ => 0))), (a35, .inl (eC E 0, 2888, .inl (fun _ => 0))), (a53, .inl (eC E 0, 60, .inl (fun _ => 0))), (a61, .inl (eC E 0, 24, .inl (fun _ => 0))), (a69, .inl (eC E 0, 24, .inl (fun _ => 0))), (a77, .inl (eC E 0, 40, .inl (fun _ => 0))), (a85, .inl (eC E 2, 78, .inl (letF 9)))]) := by rw [← letF_s (i := 8) (c := vp_nar .char 101) (by decide)]; exact hD
  refine lv_dup hx hb dX10_init_135 rfl ?_
  refine lv_bipush (v := 9) hx hb dX10_init_136 rfl ?_
  refine lv_bipush (v := 114) hx hb dX10_init_138 rfl ?_
  refine va_cast hx hb hK hP hD hS 9 2 rfl rfl (nI_in (c := 9) (N := 78) (by decide) (by decide)) dX10_init_140 (fun H locs hP hD hS => ?_)
  have hP : va_P (eD E) vwCl ([(b0, .inr (11, [.ref a8, .ref a17, .ref a26, .int 0, .ref a35, .int 0, .int (-1), .int (-1), .int 0, .ref a53, .int 0, .ref a61, .ref a69, .ref a77, .int 0, .null, .null, .null, .int 0, .int 0, .int 0, .int 0])), (a8, .inl (eC E 0, 361, .inl (fun _ => 0))), (a17, .inl (eC E 0, 361, .inl (fun _ => 0))), (a26, .inl (eC E 0, 361, .inl (fun _ => 0))), (a35, .inl (eC E 0, 2888, .inl (fun _ => 0))), (a53, .inl (eC E 0, 60, .inl (fun _ => 0))), (a61, .inl (eC E 0, 24, .inl (fun _ => 0))), (a69, .inl (eC E 0, 24, .inl (fun _ => 0))), (a77, .inl (eC E 0, 40, .inl (fun _ => 0))), (a85, .inl (eC E 2, 78, .inl (letF 10)))]) H := by rw [← letF_s (i := 9) (c := vp_nar .char 114) (by decide)]; exact hP
  have hD : va_D (fre b0 s.heap.size) ([(b0, .inr (11, [.ref a8, .ref a17, .ref a26, .int 0, .ref a35, .int 0, .int (-1), .int (-1), .int 0, .ref a53, .int 0, .ref a61, .ref a69, .ref a77, .int 0, .null, .null, .null, .int 0, .int 0, .int 0, .int 0])), (a8, .inl (eC E 0, 361, .inl (fun _ => 0))), (a17, .inl (eC E 0, 361, .inl (fun _ => 0))), (a26, .inl (eC E 0, 361, .inl (fun _ => 0))), (a35, .inl (eC E 0, 2888, .inl (fun _ => 0))), (a53, .inl (eC E 0, 60, .inl (fun _ => 0))), (a61, .inl (eC E 0, 24, .inl (fun _ => 0))), (a69, .inl (eC E 0, 24, .inl (fun _ => 0))), (a77, .inl (eC E 0, 40, .inl (fun _ => 0))), (a85, .inl (eC E 2, 78, .inl (letF 10)))]) := by rw [← letF_s (i := 9) (c := vp_nar .char 114) (by decide)]; exact hD
  refine lv_dup hx hb dX10_init_141 rfl ?_
  refine lv_bipush (v := 10) hx hb dX10_init_142 rfl ?_
  refine lv_bipush (v := 116) hx hb dX10_init_144 rfl ?_
  refine va_cast hx hb hK hP hD hS 9 2 rfl rfl (nI_in (c := 10) (N := 78) (by decide) (by decide)) dX10_init_146 (fun H locs hP hD hS => ?_)
  have hP : va_P (eD E) vwCl ([(b0, .inr (11, [.ref a8, .ref a17, .ref a26, .int 0, .ref a35, .int 0, .int (-1), .int (-1), .int 0, .ref a53, .int 0, .ref a61, .ref a69, .ref a77, .int 0, .null, .null, .null, .int 0, .int 0, .int 0, .int 0])), (a8, .inl (eC E 0, 361, .inl (fun _ => 0))), (a17, .inl (eC E 0, 361, .inl (fun _ => 0))), (a26, .inl (eC E 0, 361, .inl (fun _ => 0))), (a35, .inl (eC E 0, 2888, .inl (fun _ => 0))), (a53, .inl (eC E 0, 60, .inl (fun _ => 0))), (a61, .inl (eC E 0, 24, .inl (fun _ => 0))), (a69, .inl (eC E 0, 24, .inl (fun _ => 0))), (a77, .inl (eC E 0, 40, .inl (fun _ => 0))), (a85, .inl (eC E 2, 78, .inl (letF 11)))]) H := by rw [← letF_s (i := 10) (c := vp_nar .char 116) (by decide)]; exact hP
  have hD : va_D (fre b0 s.heap.size) ([(b0, .inr (11, [.ref a8, .ref a17, .ref a26, .int 0, .ref a35, .int 0, .int (-1), .int (-1), .int 0, .ref a53, .int 0, .ref a61, .ref a69, .ref a77, .int 0, .null, .null, .null, .int 0, .int 0, .int 0, .int 0])), (a8, .inl (eC E 0, 361, .inl (fun _ => 0))), (a17, .inl (eC E 0, 361, .inl (fun _ => 0))), (a26, .inl (eC E 0, 361, .inl (fun _ => 0))), (a35, .inl (eC E 0, 2888, .inl (fun _ => 0))), (a53, .inl (eC E 0, 60, .inl (fun _ => 0))), (a61, .inl (eC E 0, 24, .inl (fun _ => 0))), (a69, .inl (eC E 0, 24, .inl (fun _ => 0))), (a77, .inl (eC E 0, 40, .inl (fun _ => 0))), (a85, .inl (eC E 2, 78, .inl (letF 11)))]) := by rw [← letF_s (i := 10) (c := vp_nar .char 116) (by decide)]; exact hD
  refine lv_dup hx hb dX10_init_147 rfl ?_
  refine lv_bipush (v := 11) hx hb dX10_init_148 rfl ?_
  refine lv_bipush (v := 32) hx hb dX10_init_150 rfl ?_
  refine va_cast hx hb hK hP hD hS 9 2 rfl rfl (nI_in (c := 11) (N := 78) (by decide) (by decide)) dX10_init_152 (fun H locs hP hD hS => ?_)
  have hP : va_P (eD E) vwCl ([(b0, .inr (11, [.ref a8, .ref a17, .ref a26, .int 0, .ref a35, .int 0, .int (-1), .int (-1), .int 0, .ref a53, .int 0, .ref a61, .ref a69, .ref a77, .int 0, .null, .null, .null, .int 0, .int 0, .int 0, .int 0])), (a8, .inl (eC E 0, 361, .inl (fun _ => 0))), (a17, .inl (eC E 0, 361, .inl (fun _ => 0))), (a26, .inl (eC E 0, 361, .inl (fun _ => 0))), (a35, .inl (eC E 0, 2888, .inl (fun _ => 0))), (a53, .inl (eC E 0, 60, .inl (fun _ => 0))), (a61, .inl (eC E 0, 24, .inl (fun _ => 0))), (a69, .inl (eC E 0, 24, .inl (fun _ => 0))), (a77, .inl (eC E 0, 40, .inl (fun _ => 0))), (a85, .inl (eC E 2, 78, .inl (letF 12)))]) H := by rw [← letF_s (i := 11) (c := vp_nar .char 32) (by decide)]; exact hP
  have hD : va_D (fre b0 s.heap.size) ([(b0, .inr (11, [.ref a8, .ref a17, .ref a26, .int 0, .ref a35, .int 0, .int (-1), .int (-1), .int 0, .ref a53, .int 0, .ref a61, .ref a69, .ref a77, .int 0, .null, .null, .null, .int 0, .int 0, .int 0, .int 0])), (a8, .inl (eC E 0, 361, .inl (fun _ => 0))), (a17, .inl (eC E 0, 361, .inl (fun _ => 0))), (a26, .inl (eC E 0, 361, .inl (fun _ => 0))), (a35, .inl (eC E 0, 2888, .inl (fun _ => 0))), (a53, .inl (eC E 0, 60, .inl (fun _ => 0))), (a61, .inl (eC E 0, 24, .inl (fun _ => 0))), (a69, .inl (eC E 0, 24, .inl (fun _ => 0))), (a77, .inl (eC E 0, 40, .inl (fun _ => 0))), (a85, .inl (eC E 2, 78, .inl (letF 12)))]) := by rw [← letF_s (i := 11) (c := vp_nar .char 32) (by decide)]; exact hD
  refine lv_dup hx hb dX10_init_153 rfl ?_
  refine lv_bipush (v := 12) hx hb dX10_init_154 rfl ?_
  refine lv_bipush (v := 99) hx hb dX10_init_156 rfl ?_
  refine va_cast hx hb hK hP hD hS 9 2 rfl rfl (nI_in (c := 12) (N := 78) (by decide) (by decide)) dX10_init_158 (fun H locs hP hD hS => ?_)
  have hP : va_P (eD E) vwCl ([(b0, .inr (11, [.ref a8, .ref a17, .ref a26, .int 0, .ref a35, .int 0, .int (-1), .int (-1), .int 0, .ref a53, .int 0, .ref a61, .ref a69, .ref a77, .int 0, .null, .null, .null, .int 0, .int 0, .int 0, .int 0])), (a8, .inl (eC E 0, 361, .inl (fun _ => 0))), (a17, .inl (eC E 0, 361, .inl (fun _ => 0))), (a26, .inl (eC E 0, 361, .inl (fun _ => 0))), (a35, .inl (eC E 0, 2888, .inl (fun _ => 0))), (a53, .inl (eC E 0, 60, .inl (fun _ => 0))), (a61, .inl (eC E 0, 24, .inl (fun _ => 0))), (a69, .inl (eC E 0, 24, .inl (fun _ => 0))), (a77, .inl (eC E 0, 40, .inl (fun _ => 0))), (a85, .inl (eC E 2, 78, .inl (letF 13)))]) H := by rw [← letF_s (i := 12) (c := vp_nar .char 99) (by decide)]; exact hP
  have hD : va_D (fre b0 s.heap.size) ([(b0, .inr (11, [.ref a8, .ref a17, .ref a26, .int 0, .ref a35, .int 0, .int (-1), .int (-1), .int 0, .ref a53, .int 0, .ref a61, .ref a69, .ref a77, .int 0, .null, .null, .null, .int 0, .int 0, .int 0, .int 0])), (a8, .inl (eC E 0, 361, .inl (fun _ => 0))), (a17, .inl (eC E 0, 361, .inl (fun _ => 0))), (a26, .inl (eC E 0, 361, .inl (fun _ => 0))), (a35, .inl (eC E 0, 2888, .inl (fun _ => 0))), (a53, .inl (eC E 0, 60, .inl (fun _ => 0))), (a61, .inl (eC E 0, 24, .inl (fun _ => 0))), (a69, .inl (eC E 0, 24, .inl (fun _ => 0))), (a77, .inl (eC E 0, 40, .inl (fun _ => 0))), (a85, .inl (eC E 2, 78, .inl (letF 13)))]) := by rw [← letF_s (i := 12) (c := vp_nar .char 99) (by decide)]; exact hD
  refine lv_dup hx hb dX10_init_159 rfl ?_
  refine lv_bipush (v := 13) hx hb dX10_init_160 rfl ?_
  refine lv_bipush (v := 111) hx hb dX10_init_162 rfl ?_
  refine va_cast hx hb hK hP hD hS 9 2 rfl rfl (nI_in (c := 13) (N := 78) (by decide) (by decide)) dX10_init_164 (fun H locs hP hD hS => ?_)
  have hP : va_P (eD E) vwCl ([(b0, .inr (11, [.ref a8, .ref a17, .ref a26, .int 0, .ref a35, .int 0, .int (-1), .int (-1), .int 0, .ref a53, .int 0, .ref a61, .ref a69, .ref a77, .int 0, .null, .null, .null, .int 0, .int 0, .int 0, .int 0])), (a8, .inl (eC E 0, 361, .inl (fun _ => 0))), (a17, .inl (eC E 0, 361, .inl (fun _ => 0))), (a26, .inl (eC E 0, 361, .inl (fun _ => 0))), (a35, .inl (eC E 0, 2888, .inl (fun _ => 0))), (a53, .inl (eC E 0, 60, .inl (fun _ => 0))), (a61, .inl (eC E 0, 24, .inl (fun _ => 0))), (a69, .inl (eC E 0, 24, .inl (fun _ => 0))), (a77, .inl (eC E 0, 40, .inl (fun _ => 0))), (a85, .inl (eC E 2, 78, .inl (letF 14)))]) H := by rw [← letF_s (i := 13) (c := vp_nar .char 111) (by decide)]; exact hP
  have hD : va_D (fre b0 s.heap.size) ([(b0, .inr (11, [.ref a8, .ref a17, .ref a26, .int 0, .ref a35, .int 0, .int (-1), .int (-1), .int 0, .ref a53, .int 0, .ref a61, .ref a69, .ref a77, .int 0, .null, .null, .null, .int 0, .int 0, .int 0, .int 0])), (a8, .inl (eC E 0, 361, .inl (fun _ => 0))), (a17, .inl (eC E 0, 361, .inl (fun _ => 0))), (a26, .inl (eC E 0, 361, .inl (fun _ => 0))), (a35, .inl (eC E 0, 2888, .inl (fun _ => 0))), (a53, .inl (eC E 0, 60, .inl (fun _ => 0))), (a61, .inl (eC E 0, 24, .inl (fun _ => 0))), (a69, .inl (eC E 0, 24, .inl (fun _ => 0))), (a77, .inl (eC E 0, 40, .inl (fun _ => 0))), (a85, .inl (eC E 2, 78, .inl (letF 14)))]) := by rw [← letF_s (i := 13) (c := vp_nar .char 111) (by decide)]; exact hD
  refine lv_dup hx hb dX10_init_165 rfl ?_
  refine lv_bipush (v := 14) hx hb dX10_init_166 rfl ?_
  refine lv_bipush (v := 109) hx hb dX10_init_168 rfl ?_
  refine va_cast hx hb hK hP hD hS 9 2 rfl rfl (nI_in (c := 14) (N := 78) (by decide) (by decide)) dX10_init_170 (fun H locs hP hD hS => ?_)
  have hP : va_P (eD E) vwCl ([(b0, .inr (11, [.ref a8, .ref a17, .ref a26, .int 0, .ref a35, .int 0, .int (-1), .int (-1), .int 0, .ref a53, .int 0, .ref a61, .ref a69, .ref a77, .int 0, .null, .null, .null, .int 0, .int 0, .int 0, .int 0])), (a8, .inl (eC E 0, 361, .inl (fun _ => 0))), (a17, .inl (eC E 0, 361, .inl (fun _ => 0))), (a26, .inl (eC E 0, 361, .inl (fun _ => 0))), (a35, .inl (eC E 0, 2888, .inl (fun _ => 0))), (a53, .inl (eC E 0, 60, .inl (fun _ => 0))), (a61, .inl (eC E 0, 24, .inl (fun _ => 0))), (a69, .inl (eC E 0, 24, .inl (fun _ => 0))), (a77, .inl (eC E 0, 40, .inl (fun _ => 0))), (a85, .inl (eC E 2, 78, .inl (letF 15)))]) H := by rw [← letF_s (i := 14) (c := vp_nar .char 109) (by decide)]; exact hP
  have hD : va_D (fre b0 s.heap.size) ([(b0, .inr (11, [.ref a8, .ref a17, .ref a26, .int 0, .ref a35, .int 0, .int (-1), .int (-1), .int 0, .ref a53, .int 0, .ref a61, .ref a69, .ref a77, .int 0, .null, .null, .null, .int 0, .int 0, .int 0, .int 0])), (a8, .inl (eC E 0, 361, .inl (fun _ => 0))), (a17, .inl (eC E 0, 361, .inl (fun _ => 0))), (a26, .inl (eC E 0, 361, .inl (fun _ => 0))), (a35, .inl (eC E 0, 2888, .inl (fun _ => 0))), (a53, .inl (eC E 0, 60, .inl (fun _ => 0))), (a61, .inl (eC E 0, 24, .inl (fun _ => 0))), (a69, .inl (eC E 0, 24, .inl (fun _ => 0))), (a77, .inl (eC E 0, 40, .inl (fun _ => 0))), (a85, .inl (eC E 2, 78, .inl (letF 15)))]) := by rw [← letF_s (i := 14) (c := vp_nar .char 109) (by decide)]; exact hD
  refine lv_dup hx hb dX10_init_171 rfl ?_
  refine lv_bipush (v := 15) hx hb dX10_init_172 rfl ?_
  refine lv_bipush (v := 109) hx hb dX10_init_174 rfl ?_
  refine va_cast hx hb hK hP hD hS 9 2 rfl rfl (nI_in (c := 15) (N := 78) (by decide) (by decide)) dX10_init_176 (fun H locs hP hD hS => ?_)
  have hP : va_P (eD E) vwCl ([(b0, .inr (11, [.ref a8, .ref a17, .ref a26, .int 0, .ref a35, .int 0, .int (-1), .int (-1), .int 0, .ref a53, .int 0, .ref a61, .ref a69, .ref a77, .int 0, .null, .null, .null, .int 0, .int 0, .int 0, .int 0])), (a8, .inl (eC E 0, 361, .inl (fun _ => 0))), (a17, .inl (eC E 0, 361, .inl (fun _ => 0))), (a26, .inl (eC E 0, 361, .inl (fun _ => 0))), (a35, .inl (eC E 0, 2888, .inl (fun _ => 0))), (a53, .inl (eC E 0, 60, .inl (fun _ => 0))), (a61, .inl (eC E 0, 24, .inl (fun _ => 0))), (a69, .inl (eC E 0, 24, .inl (fun _ => 0))), (a77, .inl (eC E 0, 40, .inl (fun _ => 0))), (a85, .inl (eC E 2, 78, .inl (letF 16)))]) H := by rw [← letF_s (i := 15) (c := vp_nar .char 109) (by decide)]; exact hP
  have hD : va_D (fre b0 s.heap.size) ([(b0, .inr (11, [.ref a8, .ref a17, .ref a26, .int 0, .ref a35, .int 0, .int (-1), .int (-1), .int 0, .ref a53, .int 0, .ref a61, .ref a69, .ref a77, .int 0, .null, .null, .null, .int 0, .int 0, .int 0, .int 0])), (a8, .inl (eC E 0, 361, .inl (fun _ => 0))), (a17, .inl (eC E 0, 361, .inl (fun _ => 0))), (a26, .inl (eC E 0, 361, .inl (fun _ => 0))), (a35, .inl (eC E 0, 2888, .inl (fun _ => 0))), (a53, .inl (eC E 0, 60, .inl (fun _ => 0))), (a61, .inl (eC E 0, 24, .inl (fun _ => 0))), (a69, .inl (eC E 0, 24, .inl (fun _ => 0))), (a77, .inl (eC E 0, 40, .inl (fun _ => 0))), (a85, .inl (eC E 2, 78, .inl (letF 16)))]) := by rw [← letF_s (i := 15) (c := vp_nar .char 109) (by decide)]; exact hD
  refine lv_dup hx hb dX10_init_177 rfl ?_
  refine lv_bipush (v := 16) hx hb dX10_init_178 rfl ?_
  refine lv_bipush (v := 105) hx hb dX10_init_180 rfl ?_
  refine va_cast hx hb hK hP hD hS 9 2 rfl rfl (nI_in (c := 16) (N := 78) (by decide) (by decide)) dX10_init_182 (fun H locs hP hD hS => ?_)
  have hP : va_P (eD E) vwCl ([(b0, .inr (11, [.ref a8, .ref a17, .ref a26, .int 0, .ref a35, .int 0, .int (-1), .int (-1), .int 0, .ref a53, .int 0, .ref a61, .ref a69, .ref a77, .int 0, .null, .null, .null, .int 0, .int 0, .int 0, .int 0])), (a8, .inl (eC E 0, 361, .inl (fun _ => 0))), (a17, .inl (eC E 0, 361, .inl (fun _ => 0))), (a26, .inl (eC E 0, 361, .inl (fun _ => 0))), (a35, .inl (eC E 0, 2888, .inl (fun _ => 0))), (a53, .inl (eC E 0, 60, .inl (fun _ => 0))), (a61, .inl (eC E 0, 24, .inl (fun _ => 0))), (a69, .inl (eC E 0, 24, .inl (fun _ => 0))), (a77, .inl (eC E 0, 40, .inl (fun _ => 0))), (a85, .inl (eC E 2, 78, .inl (letF 17)))]) H := by rw [← letF_s (i := 16) (c := vp_nar .char 105) (by decide)]; exact hP
  have hD : va_D (fre b0 s.heap.size) ([(b0, .inr (11, [.ref a8, .ref a17, .ref a26, .int 0, .ref a35, .int 0, .int (-1), .int (-1), .int 0, .ref a53, .int 0, .ref a61, .ref a69, .ref a77, .int 0, .null, .null, .null, .int 0, .int 0, .int 0, .int 0])), (a8, .inl (eC E 0, 361, .inl (fun _ => 0))), (a17, .inl (eC E 0, 361, .inl (fun _ => 0))), (a26, .inl (eC E 0, 361, .inl (fun _ => 0))), (a35, .inl (eC E 0, 2888, .inl (fun _ => 0))), (a53, .inl (eC E 0, 60, .inl (fun _ => 0))), (a61, .inl (eC E 0, 24, .inl (fun _ => 0))), (a69, .inl (eC E 0, 24, .inl (fun _ => 0))), (a77, .inl (eC E 0, 40, .inl (fun _ => 0))), (a85, .inl (eC E 2, 78, .inl (letF 17)))]) := by rw [← letF_s (i := 16) (c := vp_nar .char 105) (by decide)]; exact hD
  refine lv_dup hx hb dX10_init_183 rfl ?_
  refine lv_bipush (v := 17) hx hb dX10_init_184 rfl ?_
  refine lv_bipush (v := 116) hx hb dX10_init_186 rfl ?_
  refine va_cast hx hb hK hP hD hS 9 2 rfl rfl (nI_in (c := 17) (N := 78) (by decide) (by decide)) dX10_init_188 (fun H locs hP hD hS => ?_)
  have hP : va_P (eD E) vwCl ([(b0, .inr (11, [.ref a8, .ref a17, .ref a26, .int 0, .ref a35, .int 0, .int (-1), .int (-1), .int 0, .ref a53, .int 0, .ref a61, .ref a69, .ref a77, .int 0, .null, .null, .null, .int 0, .int 0, .int 0, .int 0])), (a8, .inl (eC E 0, 361, .inl (fun _ => 0))), (a17, .inl (eC E 0, 361, .inl (fun _ => 0))), (a26, .inl (eC E 0, 361, .inl (fun _ => 0))), (a35, .inl (eC E 0, 2888, .inl (fun _ => 0))), (a53, .inl (eC E 0, 60, .inl (fun _ => 0))), (a61, .inl (eC E 0, 24, .inl (fun _ => 0))), (a69, .inl (eC E 0, 24, .inl (fun _ => 0))), (a77, .inl (eC E 0, 40, .inl (fun _ => 0))), (a85, .inl (eC E 2, 78, .inl (letF 18)))]) H := by rw [← letF_s (i := 17) (c := vp_nar .char 116) (by decide)]; exact hP
  have hD : va_D (fre b0 s.heap.size) ([(b0, .inr (11, [.ref a8, .ref a17, .ref a26, .int 0, .ref a35, .int 0, .int (-1), .int (-1), .int 0, .ref a53, .int 0, .ref a61, .ref a69, .ref a77, .int 0, .null, .null, .null, .int 0, .int 0, .int 0, .int 0])), (a8, .inl (eC E 0, 361, .inl (fun _ => 0))), (a17, .inl (eC E 0, 361, .inl (fun _ => 0))), (a26, .inl (eC E 0, 361, .inl (fun _ => 0))), (a35, .inl (eC E 0, 2888, .inl (fun _ => 0))), (a53, .inl (eC E 0, 60, .inl (fun _ => 0))), (a61, .inl (eC E 0, 24, .inl (fun _ => 0))), (a69, .inl (eC E 0, 24, .inl (fun _ => 0))), (a77, .inl (eC E 0, 40, .inl (fun _ => 0))), (a85, .inl (eC E 2, 78, .inl (letF 18)))]) := by rw [← letF_s (i := 17) (c := vp_nar .char 116) (by decide)]; exact hD
  refine lv_dup hx hb dX10_init_189 rfl ?_
  refine lv_bipush (v := 18) hx hb dX10_init_190 rfl ?_
  refine lv_bipush (v := 32) hx hb dX10_init_192 rfl ?_
  refine va_cast hx hb hK hP hD hS 9 2 rfl rfl (nI_in (c := 18) (N := 78) (by decide) (by decide)) dX10_init_194 (fun H locs hP hD hS => ?_)
  have hP : va_P (eD E) vwCl ([(b0, .inr (11, [.ref a8, .ref a17, .ref a26, .int 0, .ref a35, .int 0, .int (-1), .int (-1), .int 0, .ref a53, .int 0, .ref a61, .ref a69, .ref a77, .int 0, .null, .null, .null, .int 0, .int 0, .int 0, .int 0])), (a8, .inl (eC E 0, 361, .inl (fun _ => 0))), (a17, .inl (eC E 0, 361, .inl (fun _ => 0))), (a26, .inl (eC E 0, 361, .inl (fun _ => 0))), (a35, .inl (eC E 0, 2888, .inl (fun _ => 0))), (a53, .inl (eC E 0, 60, .inl (fun _ => 0))), (a61, .inl (eC E 0, 24, .inl (fun _ => 0))), (a69, .inl (eC E 0, 24, .inl (fun _ => 0))), (a77, .inl (eC E 0, 40, .inl (fun _ => 0))), (a85, .inl (eC E 2, 78, .inl (letF 19)))]) H := by rw [← letF_s (i := 18) (c := vp_nar .char 32) (by decide)]; exact hP
  have hD : va_D (fre b0 s.heap.size) ([(b0, .inr (11, [.ref a8, .ref a17, .ref a26, .int 0, .ref a35, .int 0, .int (-1), .int (-1), .int 0, .ref a53, .int 0, .ref a61, .ref a69, .ref a77, .int 0, .null, .null, .null, .int 0, .int 0, .int 0, .int 0])), (a8, .inl (eC E 0, 361, .inl (fun _ => 0))), (a17, .inl (eC E 0, 361, .inl (fun _ => 0))), (a26, .inl (eC E 0, 361, .inl (fun _ => 0))), (a35, .inl (eC E 0, 2888, .inl (fun _ => 0))), (a53, .inl (eC E 0, 60, .inl (fun _ => 0))), (a61, .inl (eC E 0, 24, .inl (fun _ => 0))), (a69, .inl (eC E 0, 24, .inl (fun _ => 0))), (a77, .inl (eC E 0, 40, .inl (fun _ => 0))), (a85, .inl (eC E 2, 78, .inl (letF 19)))]) := by rw [← letF_s (i := 18) (c := vp_nar .char 32) (by decide)]; exact hD
  refine lv_dup hx hb dX10_init_195 rfl ?_
  refine lv_bipush (v := 19) hx hb dX10_init_196 rfl ?_
  refine lv_bipush (v := 98) hx hb dX10_init_198 rfl ?_
  refine va_cast hx hb hK hP hD hS 9 2 rfl rfl (nI_in (c := 19) (N := 78) (by decide) (by decide)) dX10_init_200 (fun H locs hP hD hS => ?_)
  have hP : va_P (eD E) vwCl ([(b0, .inr (11, [.ref a8, .ref a17, .ref a26, .int 0, .ref a35, .int 0, .int (-1), .int (-1), .int 0, .ref a53, .int 0, .ref a61, .ref a69, .ref a77, .int 0, .null, .null, .null, .int 0, .int 0, .int 0, .int 0])), (a8, .inl (eC E 0, 361, .inl (fun _ => 0))), (a17, .inl (eC E 0, 361, .inl (fun _ => 0))), (a26, .inl (eC E 0, 361, .inl (fun _ => 0))), (a35, .inl (eC E 0, 2888, .inl (fun _ => 0))), (a53, .inl (eC E 0, 60, .inl (fun _ => 0))), (a61, .inl (eC E 0, 24, .inl (fun _ => 0))), (a69, .inl (eC E 0, 24, .inl (fun _ => 0))), (a77, .inl (eC E 0, 40, .inl (fun _ => 0))), (a85, .inl (eC E 2, 78, .inl (letF 20)))]) H := by rw [← letF_s (i := 19) (c := vp_nar .char 98) (by decide)]; exact hP
  have hD : va_D (fre b0 s.heap.size) ([(b0, .inr (11, [.ref a8, .ref a17, .ref a26, .int 0, .ref a35, .int 0, .int (-1), .int (-1), .int 0, .ref a53, .int 0, .ref a61, .ref a69, .ref a77, .int 0, .null, .null, .null, .int 0, .int 0, .int 0, .int 0])), (a8, .inl (eC E 0, 361, .inl (fun _ => 0))), (a17, .inl (eC E 0, 361, .inl (fun _ => 0))), (a26, .inl (eC E 0, 361, .inl (fun _ => 0))), (a35, .inl (eC E 0, 2888, .inl (fun _ => 0))), (a53, .inl (eC E 0, 60, .inl (fun _ => 0))), (a61, .inl (eC E 0, 24, .inl (fun _ => 0))), (a69, .inl (eC E 0, 24, .inl (fun _ => 0))), (a77, .inl (eC E 0, 40, .inl (fun _ => 0))), (a85, .inl (eC E 2, 78, .inl (letF 20)))]) := by rw [← letF_s (i := 19) (c := vp_nar .char 98) (by decide)]; exact hD
  refine lv_dup hx hb dX10_init_201 rfl ?_
  refine lv_bipush (v := 20) hx hb dX10_init_202 rfl ?_
  refine lv_bipush (v := 114) hx hb dX10_init_204 rfl ?_
  refine va_cast hx hb hK hP hD hS 9 2 rfl rfl (nI_in (c := 20) (N := 78) (by decide) (by decide)) dX10_init_206 (fun H locs hP hD hS => ?_)
  have hP : va_P (eD E) vwCl ([(b0, .inr (11, [.ref a8, .ref a17, .ref a26, .int 0, .ref a35, .int 0, .int (-1), .int (-1), .int 0, .ref a53, .int 0, .ref a61, .ref a69, .ref a77, .int 0, .null, .null, .null, .int 0, .int 0, .int 0, .int 0])), (a8, .inl (eC E 0, 361, .inl (fun _ => 0))), (a17, .inl (eC E 0, 361, .inl (fun _ => 0))), (a26, .inl (eC E 0, 361, .inl (fun _ => 0))), (a35, .inl (eC E 0, 2888, .inl (fun _ => 0))), (a53, .inl (eC E 0, 60, .inl (fun _ => 0))), (a61, .inl (eC E 0, 24, .inl (fun _ => 0))), (a69, .inl (eC E 0, 24, .inl (fun _ => 0))), (a77, .inl (eC E 0, 40, .inl (fun _ => 0))), (a85, .inl (eC E 2, 78, .inl (letF 21)))]) H := by rw [← letF_s (i := 20) (c := vp_nar .char 114) (by decide)]; exact hP
  have hD : va_D (fre b0 s.heap.size) ([(b0, .inr (11, [.ref a8, .ref a17, .ref a26, .int 0, .ref a35, .int 0, .int (-1), .int (-1), .int 0, .ref a53, .int 0, .ref a61, .ref a69, .ref a77, .int 0, .null, .null, .null, .int 0, .int 0, .int 0, .int 0])), (a8, .inl (eC E 0, 361, .inl (fun _ => 0))), (a17, .inl (eC E 0, 361, .inl (fun _ => 0))), (a26, .inl (eC E 0, 361, .inl (fun _ => 0))), (a35, .inl (eC E 0, 2888, .inl (fun _ => 0))), (a53, .inl (eC E 0, 60, .inl (fun _ => 0))), (a61, .inl (eC E 0, 24, .inl (fun _ => 0))), (a69, .inl (eC E 0, 24, .inl (fun _ => 0))), (a77, .inl (eC E 0, 40, .inl (fun _ => 0))), (a85, .inl (eC E 2, 78, .inl (letF 21)))]) := by rw [← letF_s (i := 20) (c := vp_nar .char 114) (by decide)]; exact hD
  refine lv_dup hx hb dX10_init_207 rfl ?_
  refine lv_bipush (v := 21) hx hb dX10_init_208 rfl ?_
  refine lv_bipush (v := 97) hx hb dX10_init_210 rfl ?_
  refine va_cast hx hb hK hP hD hS 9 2 rfl rfl (nI_in (c := 21) (N := 78) (by decide) (by decide)) dX10_init_212 (fun H locs hP hD hS => ?_)
  have hP : va_P (eD E) vwCl ([(b0, .inr (11, [.ref a8, .ref a17, .ref a26, .int 0, .ref a35, .int 0, .int (-1), .int (-1), .int 0, .ref a53, .int 0, .ref a61, .ref a69, .ref a77, .int 0, .null, .null, .null, .int 0, .int 0, .int 0, .int 0])), (a8, .inl (eC E 0, 361, .inl (fun _ => 0))), (a17, .inl (eC E 0, 361, .inl (fun _ => 0))), (a26, .inl (eC E 0, 361, .inl (fun _ => 0))), (a35, .inl (eC E 0, 2888, .inl (fun _ => 0))), (a53, .inl (eC E 0, 60, .inl (fun _ => 0))), (a61, .inl (eC E 0, 24, .inl (fun _ => 0))), (a69, .inl (eC E 0, 24, .inl (fun _ => 0))), (a77, .inl (eC E 0, 40, .inl (fun _ => 0))), (a85, .inl (eC E 2, 78, .inl (letF 22)))]) H := by rw [← letF_s (i := 21) (c := vp_nar .char 97) (by decide)]; exact hP
  have hD : va_D (fre b0 s.heap.size) ([(b0, .inr (11, [.ref a8, .ref a17, .ref a26, .int 0, .ref a35, .int 0, .int (-1), .int (-1), .int 0, .ref a53, .int 0, .ref a61, .ref a69, .ref a77, .int 0, .null, .null, .null, .int 0, .int 0, .int 0, .int 0])), (a8, .inl (eC E 0, 361, .inl (fun _ => 0))), (a17, .inl (eC E 0, 361, .inl (fun _ => 0))), (a26, .inl (eC E 0, 361, .inl (fun _ => 0))), (a35, .inl (eC E 0, 2888, .inl (fun _ => 0))), (a53, .inl (eC E 0, 60, .inl (fun _ => 0))), (a61, .inl (eC E 0, 24, .inl (fun _ => 0))), (a69, .inl (eC E 0, 24, .inl (fun _ => 0))), (a77, .inl (eC E 0, 40, .inl (fun _ => 0))), (a85, .inl (eC E 2, 78, .inl (letF 22)))]) := by rw [← letF_s (i := 21) (c := vp_nar .char 97) (by decide)]; exact hD
  refine lv_dup hx hb dX10_init_213 rfl ?_
  refine lv_bipush (v := 22) hx hb dX10_init_214 rfl ?_
  refine lv_bipush (v := 110) hx hb dX10_init_216 rfl ?_
  refine va_cast hx hb hK hP hD hS 9 2 rfl rfl (nI_in (c := 22) (N := 78) (by decide) (by decide)) dX10_init_218 (fun H locs hP hD hS => ?_)
  have hP : va_P (eD E) vwCl ([(b0, .inr (11, [.ref a8, .ref a17, .ref a26, .int 0, .ref a35, .int 0, .int (-1), .int (-1), .int 0, .ref a53, .int 0, .ref a61, .ref a69, .ref a77, .int 0, .null, .null, .null, .int 0, .int 0, .int 0, .int 0])), (a8, .inl (eC E 0, 361, .inl (fun _ => 0))), (a17, .inl (eC E 0, 361, .inl (fun _ => 0))), (a26, .inl (eC E 0, 361, .inl (fun _ => 0))), (a35, .inl (eC E 0, 2888, .inl (fun _ => 0))), (a53, .inl (eC E 0, 60, .inl (fun _ => 0))), (a61, .inl (eC E 0, 24, .inl (fun _ => 0))), (a69, .inl (eC E 0, 24, .inl (fun _ => 0))), (a77, .inl (eC E 0, 40, .inl (fun _ => 0))), (a85, .inl (eC E 2, 78, .inl (letF 23)))]) H := by rw [← letF_s (i := 22) (c := vp_nar .char 110) (by decide)]; exact hP
  have hD : va_D (fre b0 s.heap.size) ([(b0, .inr (11, [.ref a8, .ref a17, .ref a26, .int 0, .ref a35, .int 0, .int (-1), .int (-1), .int 0, .ref a53, .int 0, .ref a61, .ref a69, .ref a77, .int 0, .null, .null, .null, .int 0, .int 0, .int 0, .int 0])), (a8, .inl (eC E 0, 361, .inl (fun _ => 0))), (a17, .inl (eC E 0, 361, .inl (fun _ => 0))), (a26, .inl (eC E 0, 361, .inl (fun _ => 0))), (a35, .inl (eC E 0, 2888, .inl (fun _ => 0))), (a53, .inl (eC E 0, 60, .inl (fun _ => 0))), (a61, .inl (eC E 0, 24, .inl (fun _ => 0))), (a69, .inl (eC E 0, 24, .inl (fun _ => 0))), (a77, .inl (eC E 0, 40, .inl (fun _ => 0))), (a85, .inl (eC E 2, 78, .inl (letF 23)))]) := by rw [← letF_s (i := 22) (c := vp_nar .char 110) (by decide)]; exact hD
  refine lv_dup hx hb dX10_init_219 rfl ?_
  refine lv_bipush (v := 23) hx hb dX10_init_220 rfl ?_
  refine lv_bipush (v := 99) hx hb dX10_init_222 rfl ?_
  refine va_cast hx hb hK hP hD hS 9 2 rfl rfl (nI_in (c := 23) (N := 78) (by decide) (by decide)) dX10_init_224 (fun H locs hP hD hS => ?_)
  have hP : va_P (eD E) vwCl ([(b0, .inr (11, [.ref a8, .ref a17, .ref a26, .int 0, .ref a35, .int 0, .int (-1), .int (-1), .int 0, .ref a53, .int 0, .ref a61, .ref a69, .ref a77, .int 0, .null, .null, .null, .int 0, .int 0, .int 0, .int 0])), (a8, .inl (eC E 0, 361, .inl (fun _ => 0))), (a17, .inl (eC E 0, 361, .inl (fun _ => 0))), (a26, .inl (eC E 0, 361, .inl (fun _ => 0))), (a35, .inl (eC E 0, 2888, .inl (fun _ => 0))), (a53, .inl (eC E 0, 60, .inl (fun _ => 0))), (a61, .inl (eC E 0, 24, .inl (fun _ => 0))), (a69, .inl (eC E 0, 24, .inl (fun _ => 0))), (a77, .inl (eC E 0, 40, .inl (fun _ => 0))), (a85, .inl (eC E 2, 78, .inl (letF 24)))]) H := by rw [← letF_s (i := 23) (c := vp_nar .char 99) (by decide)]; exact hP
  have hD : va_D (fre b0 s.heap.size) ([(b0, .inr (11, [.ref a8, .ref a17, .ref a26, .int 0, .ref a35, .int 0, .int (-1), .int (-1), .int 0, .ref a53, .int 0, .ref a61, .ref a69, .ref a77, .int 0, .null, .null, .null, .int 0, .int 0, .int 0, .int 0])), (a8, .inl (eC E 0, 361, .inl (fun _ => 0))), (a17, .inl (eC E 0, 361, .inl (fun _ => 0))), (a26, .inl (eC E 0, 361, .inl (fun _ => 0))), (a35, .inl (eC E 0, 2888, .inl (fun _ => 0))), (a53, .inl (eC E 0, 60, .inl (fun _ => 0))), (a61, .inl (eC E 0, 24, .inl (fun _ => 0))), (a69, .inl (eC E 0, 24, .inl (fun _ => 0))), (a77, .inl (eC E 0, 40, .inl (fun _ => 0))), (a85, .inl (eC E 2, 78, .inl (letF 24)))]) := by rw [← letF_s (i := 23) (c := vp_nar .char 99) (by decide)]; exact hD
  refine lv_dup hx hb dX10_init_225 rfl ?_
  refine lv_bipush (v := 24) hx hb dX10_init_226 rfl ?_
  refine lv_bipush (v := 104) hx hb dX10_init_228 rfl ?_
  refine va_cast hx hb hK hP hD hS 9 2 rfl rfl (nI_in (c := 24) (N := 78) (by decide) (by decide)) dX10_init_230 (fun H locs hP hD hS => ?_)
  have hP : va_P (eD E) vwCl ([(b0, .inr (11, [.ref a8, .ref a17, .ref a26, .int 0, .ref a35, .int 0, .int (-1), .int (-1), .int 0, .ref a53, .int 0, .ref a61, .ref a69, .ref a77, .int 0, .null, .null, .null, .int 0, .int 0, .int 0, .int 0])), (a8, .inl (eC E 0, 361, .inl (fun _ => 0))), (a17, .inl (eC E 0, 361, .inl (fun _ => 0))), (a26, .inl (eC E 0, 361, .inl (fun _ => 0))), (a35, .inl (eC E 0, 2888, .inl (fun _ => 0))), (a53, .inl (eC E 0, 60, .inl (fun _ => 0))), (a61, .inl (eC E 0, 24, .inl (fun _ => 0))), (a69, .inl (eC E 0, 24, .inl (fun _ => 0))), (a77, .inl (eC E 0, 40, .inl (fun _ => 0))), (a85, .inl (eC E 2, 78, .inl (letF 25)))]) H := by rw [← letF_s (i := 24) (c := vp_nar .char 104) (by decide)]; exact hP
  have hD : va_D (fre b0 s.heap.size) ([(b0, .inr (11, [.ref a8, .ref a17, .ref a26, .int 0, .ref a35, .int 0, .int (-1), .int (-1), .int 0, .ref a53, .int 0, .ref a61, .ref a69, .ref a77, .int 0, .null, .null, .null, .int 0, .int 0, .int 0, .int 0])), (a8, .inl (eC E 0, 361, .inl (fun _ => 0))), (a17, .inl (eC E 0, 361, .inl (fun _ => 0))), (a26, .inl (eC E 0, 361, .inl (fun _ => 0))), (a35, .inl (eC E 0, 2888, .inl (fun _ => 0))), (a53, .inl (eC E 0, 60, .inl (fun _ => 0))), (a61, .inl (eC E 0, 24, .inl (fun _ => 0))), (a69, .inl (eC E 0, 24, .inl (fun _ => 0))), (a77, .inl (eC E 0, 40, .inl (fun _ => 0))), (a85, .inl (eC E 2, 78, .inl (letF 25)))]) := by rw [← letF_s (i := 24) (c := vp_nar .char 104) (by decide)]; exact hD
  refine lv_dup hx hb dX10_init_231 rfl ?_
  refine lv_bipush (v := 25) hx hb dX10_init_232 rfl ?_
  refine lv_bipush (v := 32) hx hb dX10_init_234 rfl ?_
  refine va_cast hx hb hK hP hD hS 9 2 rfl rfl (nI_in (c := 25) (N := 78) (by decide) (by decide)) dX10_init_236 (fun H locs hP hD hS => ?_)
  have hP : va_P (eD E) vwCl ([(b0, .inr (11, [.ref a8, .ref a17, .ref a26, .int 0, .ref a35, .int 0, .int (-1), .int (-1), .int 0, .ref a53, .int 0, .ref a61, .ref a69, .ref a77, .int 0, .null, .null, .null, .int 0, .int 0, .int 0, .int 0])), (a8, .inl (eC E 0, 361, .inl (fun _ => 0))), (a17, .inl (eC E 0, 361, .inl (fun _ => 0))), (a26, .inl (eC E 0, 361, .inl (fun _ => 0))), (a35, .inl (eC E 0, 2888, .inl (fun _ => 0))), (a53, .inl (eC E 0, 60, .inl (fun _ => 0))), (a61, .inl (eC E 0, 24, .inl (fun _ => 0))), (a69, .inl (eC E 0, 24, .inl (fun _ => 0))), (a77, .inl (eC E 0, 40, .inl (fun _ => 0))), (a85, .inl (eC E 2, 78, .inl (letF 26)))]) H := by rw [← letF_s (i := 25) (c := vp_nar .char 32) (by decide)]; exact hP
  have hD : va_D (fre b0 s.heap.size) ([(b0, .inr (11, [.ref a8, .ref a17, .ref a26, .int 0, .ref a35, .int 0, .int (-1), .int (-1), .int 0, .ref a53, .int 0, .ref a61, .ref a69, .ref a77, .int 0, .null, .null, .null, .int 0, .int 0, .int 0, .int 0])), (a8, .inl (eC E 0, 361, .inl (fun _ => 0))), (a17, .inl (eC E 0, 361, .inl (fun _ => 0))), (a26, .inl (eC E 0, 361, .inl (fun _ => 0))), (a35, .inl (eC E 0, 2888, .inl (fun _ => 0))), (a53, .inl (eC E 0, 60, .inl (fun _ => 0))), (a61, .inl (eC E 0, 24, .inl (fun _ => 0))), (a69, .inl (eC E 0, 24, .inl (fun _ => 0))), (a77, .inl (eC E 0, 40, .inl (fun _ => 0))), (a85, .inl (eC E 2, 78, .inl (letF 26)))]) := by rw [← letF_s (i := 25) (c := vp_nar .char 32) (by decide)]; exact hD
  refine lv_dup hx hb dX10_init_237 rfl ?_
  refine lv_bipush (v := 26) hx hb dX10_init_238 rfl ?_
  refine lv_bipush (v := 99) hx hb dX10_init_240 rfl ?_
  refine va_cast hx hb hK hP hD hS 9 2 rfl rfl (nI_in (c := 26) (N := 78) (by decide) (by decide)) dX10_init_242 (fun H locs hP hD hS => ?_)
  have hP : va_P (eD E) vwCl ([(b0, .inr (11, [.ref a8, .ref a17, .ref a26, .int 0, .ref a35, .int 0, .int (-1), .int (-1), .int 0, .ref a53, .int 0, .ref a61, .ref a69, .ref a77, .int 0, .null, .null, .null, .int 0, .int 0, .int 0, .int 0])), (a8, .inl (eC E 0, 361, .inl (fun _ => 0))), (a17, .inl (eC E 0, 361, .inl (fun _ => 0))), (a26, .inl (eC E 0, 361, .inl (fun _ => 0))), (a35, .inl (eC E 0, 2888, .inl (fun _ => 0))), (a53, .inl (eC E 0, 60, .inl (fun _ => 0))), (a61, .inl (eC E 0, 24, .inl (fun _ => 0))), (a69, .inl (eC E 0, 24, .inl (fun _ => 0))), (a77, .inl (eC E 0, 40, .inl (fun _ => 0))), (a85, .inl (eC E 2, 78, .inl (letF 27)))]) H := by rw [← letF_s (i := 26) (c := vp_nar .char 99) (by decide)]; exact hP
  have hD : va_D (fre b0 s.heap.size) ([(b0, .inr (11, [.ref a8, .ref a17, .ref a26, .int 0, .ref a35, .int 0, .int (-1), .int (-1), .int 0, .ref a53, .int 0, .ref a61, .ref a69, .ref a77, .int 0, .null, .null, .null, .int 0, .int 0, .int 0, .int 0])), (a8, .inl (eC E 0, 361, .inl (fun _ => 0))), (a17, .inl (eC E 0, 361, .inl (fun _ => 0))), (a26, .inl (eC E 0, 361, .inl (fun _ => 0))), (a35, .inl (eC E 0, 2888, .inl (fun _ => 0))), (a53, .inl (eC E 0, 60, .inl (fun _ => 0))), (a61, .inl (eC E 0, 24, .inl (fun _ => 0))), (a69, .inl (eC E 0, 24, .inl (fun _ => 0))), (a77, .inl (eC E 0, 40, .inl (fun _ => 0))), (a85, .inl (eC E 2, 78, .inl (letF 27)))]) := by rw [← letF_s (i := 26) (c := vp_nar .char 99) (by decide)]; exact hD
  refine lv_dup hx hb dX10_init_243 rfl ?_
  refine lv_bipush (v := 27) hx hb dX10_init_244 rfl ?_
  refine lv_bipush (v := 108) hx hb dX10_init_246 rfl ?_
  refine va_cast hx hb hK hP hD hS 9 2 rfl rfl (nI_in (c := 27) (N := 78) (by decide) (by decide)) dX10_init_248 (fun H locs hP hD hS => ?_)
  have hP : va_P (eD E) vwCl ([(b0, .inr (11, [.ref a8, .ref a17, .ref a26, .int 0, .ref a35, .int 0, .int (-1), .int (-1), .int 0, .ref a53, .int 0, .ref a61, .ref a69, .ref a77, .int 0, .null, .null, .null, .int 0, .int 0, .int 0, .int 0])), (a8, .inl (eC E 0, 361, .inl (fun _ => 0))), (a17, .inl (eC E 0, 361, .inl (fun _ => 0))), (a26, .inl (eC E 0, 361, .inl (fun _ => 0))), (a35, .inl (eC E 0, 2888, .inl (fun _ => 0))), (a53, .inl (eC E 0, 60, .inl (fun _ => 0))), (a61, .inl (eC E 0, 24, .inl (fun _ => 0))), (a69, .inl (eC E 0, 24, .inl (fun _ => 0))), (a77, .inl (eC E 0, 40, .inl (fun _ => 0))), (a85, .inl (eC E 2, 78, .inl (letF 28)))]) H := by rw [← letF_s (i := 27) (c := vp_nar .char 108) (by decide)]; exact hP
  have hD : va_D (fre b0 s.heap.size) ([(b0, .inr (11, [.ref a8, .ref a17, .ref a26, .int 0, .ref a35, .int 0, .int (-1), .int (-1), .int 0, .ref a53, .int 0, .ref a61, .ref a69, .ref a77, .int 0, .null, .null, .null, .int 0, .int 0, .int 0, .int 0])), (a8, .inl (eC E 0, 361, .inl (fun _ => 0))), (a17, .inl (eC E 0, 361, .inl (fun _ => 0))), (a26, .inl (eC E 0, 361, .inl (fun _ => 0))), (a35, .inl (eC E 0, 2888, .inl (fun _ => 0))), (a53, .inl (eC E 0, 60, .inl (fun _ => 0))), (a61, .inl (eC E 0, 24, .inl (fun _ => 0))), (a69, .inl (eC E 0, 24, .inl (fun _ => 0))), (a77, .inl (eC E 0, 40, .inl (fun _ => 0))), (a85, .inl (eC E 2, 78, .inl (letF 28)))]) := by rw [← letF_s (i := 27) (c := vp_nar .char 108) (by decide)]; exact hD
  refine lv_dup hx hb dX10_init_249 rfl ?_
  refine lv_bipush (v := 28) hx hb dX10_init_250 rfl ?_
  refine lv_bipush (v := 111) hx hb dX10_init_252 rfl ?_
  refine va_cast hx hb hK hP hD hS 9 2 rfl rfl (nI_in (c := 28) (N := 78) (by decide) (by decide)) dX10_init_254 (fun H locs hP hD hS => ?_)
  have hP : va_P (eD E) vwCl ([(b0, .inr (11, [.ref a8, .ref a17, .ref a26, .int 0, .ref a35, .int 0, .int (-1), .int (-1), .int 0, .ref a53, .int 0, .ref a61, .ref a69, .ref a77, .int 0, .null, .null, .null, .int 0, .int 0, .int 0, .int 0])), (a8, .inl (eC E 0, 361, .inl (fun _ => 0))), (a17, .inl (eC E 0, 361, .inl (fun _ => 0))), (a26, .inl (eC E 0, 361, .inl (fun _ => 0))), (a35, .inl (eC E 0, 2888, .inl (fun _ => 0))), (a53, .inl (eC E 0, 60, .inl (fun _ => 0))), (a61, .inl (eC E 0, 24, .inl (fun _ => 0))), (a69, .inl (eC E 0, 24, .inl (fun _ => 0))), (a77, .inl (eC E 0, 40, .inl (fun _ => 0))), (a85, .inl (eC E 2, 78, .inl (letF 29)))]) H := by rw [← letF_s (i := 28) (c := vp_nar .char 111) (by decide)]; exact hP
  have hD : va_D (fre b0 s.heap.size) ([(b0, .inr (11, [.ref a8, .ref a17, .ref a26, .int 0, .ref a35, .int 0, .int (-1), .int (-1), .int 0, .ref a53, .int 0, .ref a61, .ref a69, .ref a77, .int 0, .null, .null, .null, .int 0, .int 0, .int 0, .int 0])), (a8, .inl (eC E 0, 361, .inl (fun _ => 0))), (a17, .inl (eC E 0, 361, .inl (fun _ => 0))), (a26, .inl (eC E 0, 361, .inl (fun _ => 0))), (a35, .inl (eC E 0, 2888, .inl (fun _ => 0))), (a53, .inl (eC E 0, 60, .inl (fun _ => 0))), (a61, .inl (eC E 0, 24, .inl (fun _ => 0))), (a69, .inl (eC E 0, 24, .inl (fun _ => 0))), (a77, .inl (eC E 0, 40, .inl (fun _ => 0))), (a85, .inl (eC E 2, 78, .inl (letF 29)))]) := by rw [← letF_s (i := 28) (c := vp_nar .char 111) (by decide)]; exact hD
  refine lv_dup hx hb dX10_init_255 rfl ?_
  refine lv_bipush (v := 29) hx hb dX10_init_256 rfl ?_
  refine lv_bipush (v := 115) hx hb dX10_init_258 rfl ?_
  refine va_cast hx hb hK hP hD hS 9 2 rfl rfl (nI_in (c := 29) (N := 78) (by decide) (by decide)) dX10_init_260 (fun H locs hP hD hS => ?_)
  have hP : va_P (eD E) vwCl ([(b0, .inr (11, [.ref a8, .ref a17, .ref a26, .int 0, .ref a35, .int 0, .int (-1), .int (-1), .int 0, .ref a53, .int 0, .ref a61, .ref a69, .ref a77, .int 0, .null, .null, .null, .int 0, .int 0, .int 0, .int 0])), (a8, .inl (eC E 0, 361, .inl (fun _ => 0))), (a17, .inl (eC E 0, 361, .inl (fun _ => 0))), (a26, .inl (eC E 0, 361, .inl (fun _ => 0))), (a35, .inl (eC E 0, 2888, .inl (fun _ => 0))), (a53, .inl (eC E 0, 60, .inl (fun _ => 0))), (a61, .inl (eC E 0, 24, .inl (fun _ => 0))), (a69, .inl (eC E 0, 24, .inl (fun _ => 0))), (a77, .inl (eC E 0, 40, .inl (fun _ => 0))), (a85, .inl (eC E 2, 78, .inl (letF 30)))]) H := by rw [← letF_s (i := 29) (c := vp_nar .char 115) (by decide)]; exact hP
  have hD : va_D (fre b0 s.heap.size) ([(b0, .inr (11, [.ref a8, .ref a17, .ref a26, .int 0, .ref a35, .int 0, .int (-1), .int (-1), .int 0, .ref a53, .int 0, .ref a61, .ref a69, .ref a77, .int 0, .null, .null, .null, .int 0, .int 0, .int 0, .int 0])), (a8, .inl (eC E 0, 361, .inl (fun _ => 0))), (a17, .inl (eC E 0, 361, .inl (fun _ => 0))), (a26, .inl (eC E 0, 361, .inl (fun _ => 0))), (a35, .inl (eC E 0, 2888, .inl (fun _ => 0))), (a53, .inl (eC E 0, 60, .inl (fun _ => 0))), (a61, .inl (eC E 0, 24, .inl (fun _ => 0))), (a69, .inl (eC E 0, 24, .inl (fun _ => 0))), (a77, .inl (eC E 0, 40, .inl (fun _ => 0))), (a85, .inl (eC E 2, 78, .inl (letF 30)))]) := by rw [← letF_s (i := 29) (c := vp_nar .char 115) (by decide)]; exact hD
  refine lv_dup hx hb dX10_init_261 rfl ?_
  refine lv_bipush (v := 30) hx hb dX10_init_262 rfl ?_
  refine lv_bipush (v := 101) hx hb dX10_init_264 rfl ?_
  refine va_cast hx hb hK hP hD hS 9 2 rfl rfl (nI_in (c := 30) (N := 78) (by decide) (by decide)) dX10_init_266 (fun H locs hP hD hS => ?_)
  have hP : va_P (eD E) vwCl ([(b0, .inr (11, [.ref a8, .ref a17, .ref a26, .int 0, .ref a35, .int 0, .int (-1), .int (-1), .int 0, .ref a53, .int 0, .ref a61, .ref a69, .ref a77, .int 0, .null, .null, .null, .int 0, .int 0, .int 0, .int 0])), (a8, .inl (eC E 0, 361, .inl (fun _ => 0))), (a17, .inl (eC E 0, 361, .inl (fun _ => 0))), (a26, .inl (eC E 0, 361, .inl (fun _ => 0))), (a35, .inl (eC E 0, 2888, .inl (fun _ => 0))), (a53, .inl (eC E 0, 60, .inl (fun _ => 0))), (a61, .inl (eC E 0, 24, .inl (fun _ => 0))), (a69, .inl (eC E 0, 24, .inl (fun _ => 0))), (a77, .inl (eC E 0, 40, .inl (fun _ => 0))), (a85, .inl (eC E 2, 78, .inl (letF 31)))]) H := by rw [← letF_s (i := 30) (c := vp_nar .char 101) (by decide)]; exact hP
  have hD : va_D (fre b0 s.heap.size) ([(b0, .inr (11, [.ref a8, .ref a17, .ref a26, .int 0, .ref a35, .int 0, .int (-1), .int (-1), .int 0, .ref a53, .int 0, .ref a61, .ref a69, .ref a77, .int 0, .null, .null, .null, .int 0, .int 0, .int 0, .int 0])), (a8, .inl (eC E 0, 361, .inl (fun _ => 0))), (a17, .inl (eC E 0, 361, .inl (fun _ => 0))), (a26, .inl (eC E 0, 361, .inl (fun _ => 0))), (a35, .inl (eC E 0, 2888, .inl (fun _ => 0))), (a53, .inl (eC E 0, 60, .inl (fun _ => 0))), (a61, .inl (eC E 0, 24, .inl (fun _ => 0))), (a69, .inl (eC E 0, 24, .inl (fun _ => 0))), (a77, .inl (eC E 0, 40, .inl (fun _ => 0))), (a85, .inl (eC E 2, 78, .inl (letF 31)))]) := by rw [← letF_s (i := 30) (c := vp_nar .char 101) (by decide)]; exact hD
  refine lv_dup hx hb dX10_init_267 rfl ?_
  refine lv_bipush (v := 31) hx hb dX10_init_268 rfl ?_
  refine lv_bipush (v := 32) hx hb dX10_init_270 rfl ?_
  refine va_cast hx hb hK hP hD hS 9 2 rfl rfl (nI_in (c := 31) (N := 78) (by decide) (by decide)) dX10_init_272 (fun H locs hP hD hS => ?_)
  have hP : va_P (eD E) vwCl ([(b0, .inr (11, [.ref a8, .ref a17, .ref a26, .int 0, .ref a35, .int 0, .int (-1), .int (-1), .int 0, .ref a53, .int 0, .ref a61, .ref a69, .ref a77, .int 0, .null, .null, .null, .int 0, .int 0, .int 0, .int 0])), (a8, .inl (eC E 0, 361, .inl (fun _ => 0))), (a17, .inl (eC E 0, 361, .inl (fun _ => 0))), (a26, .inl (eC E 0, 361, .inl (fun _ => 0))), (a35, .inl (eC E 0, 2888, .inl (fun _ => 0))), (a53, .inl (eC E 0, 60, .inl (fun _ => 0))), (a61, .inl (eC E 0, 24, .inl (fun _ => 0))), (a69, .inl (eC E 0, 24, .inl (fun _ => 0))), (a77, .inl (eC E 0, 40, .inl (fun _ => 0))), (a85, .inl (eC E 2, 78, .inl (letF 32)))]) H := by rw [← letF_s (i := 31) (c := vp_nar .char 32) (by decide)]; exact hP
  have hD : va_D (fre b0 s.heap.size) ([(b0, .inr (11, [.ref a8, .ref a17, .ref a26, .int 0, .ref a35, .int 0, .int (-1), .int (-1), .int 0, .ref a53, .int 0, .ref a61, .ref a69, .ref a77, .int 0, .null, .null, .null, .int 0, .int 0, .int 0, .int 0])), (a8, .inl (eC E 0, 361, .inl (fun _ => 0))), (a17, .inl (eC E 0, 361, .inl (fun _ => 0))), (a26, .inl (eC E 0, 361, .inl (fun _ => 0))), (a35, .inl (eC E 0, 2888, .inl (fun _ => 0))), (a53, .inl (eC E 0, 60, .inl (fun _ => 0))), (a61, .inl (eC E 0, 24, .inl (fun _ => 0))), (a69, .inl (eC E 0, 24, .inl (fun _ => 0))), (a77, .inl (eC E 0, 40, .inl (fun _ => 0))), (a85, .inl (eC E 2, 78, .inl (letF 32)))]) := by rw [← letF_s (i := 31) (c := vp_nar .char 32) (by decide)]; exact hD
  refine lv_dup hx hb dX10_init_273 rfl ?_
  refine lv_bipush (v := 32) hx hb dX10_init_274 rfl ?_
  refine lv_bipush (v := 109) hx hb dX10_init_276 rfl ?_
  refine va_cast hx hb hK hP hD hS 9 2 rfl rfl (nI_in (c := 32) (N := 78) (by decide) (by decide)) dX10_init_278 (fun H locs hP hD hS => ?_)
  have hP : va_P (eD E) vwCl ([(b0, .inr (11, [.ref a8, .ref a17, .ref a26, .int 0, .ref a35, .int 0, .int (-1), .int (-1), .int 0, .ref a53, .int 0, .ref a61, .ref a69, .ref a77, .int 0, .null, .null, .null, .int 0, .int 0, .int 0, .int 0])), (a8, .inl (eC E 0, 361, .inl (fun _ => 0))), (a17, .inl (eC E 0, 361, .inl (fun _ => 0))), (a26, .inl (eC E 0, 361, .inl (fun _ => 0))), (a35, .inl (eC E 0, 2888, .inl (fun _ => 0))), (a53, .inl (eC E 0, 60, .inl (fun _ => 0))), (a61, .inl (eC E 0, 24, .inl (fun _ => 0))), (a69, .inl (eC E 0, 24, .inl (fun _ => 0))), (a77, .inl (eC E 0, 40, .inl (fun _ => 0))), (a85, .inl (eC E 2, 78, .inl (letF 33)))]) H := by rw [← letF_s (i := 32) (c := vp_nar .char 109) (by decide)]; exact hP
  have hD : va_D (fre b0 s.heap.size) ([(b0, .inr (11, [.ref a8, .ref a17, .ref a26, .int 0, .ref a35, .int 0, .int (-1), .int (-1), .int 0, .ref a53, .int 0, .ref a61, .ref a69, .ref a77, .int 0, .null, .null, .null, .int 0, .int 0, .int 0, .int 0])), (a8, .inl (eC E 0, 361, .inl (fun _ => 0))), (a17, .inl (eC E 0, 361, .inl (fun _ => 0))), (a26, .inl (eC E 0, 361, .inl (fun _ => 0))), (a35, .inl (eC E 0, 2888, .inl (fun _ => 0))), (a53, .inl (eC E 0, 60, .inl (fun _ => 0))), (a61, .inl (eC E 0, 24, .inl (fun _ => 0))), (a69, .inl (eC E 0, 24, .inl (fun _ => 0))), (a77, .inl (eC E 0, 40, .inl (fun _ => 0))), (a85, .inl (eC E 2, 78, .inl (letF 33)))]) := by rw [← letF_s (i := 32) (c := vp_nar .char 109) (by decide)]; exact hD
  refine lv_dup hx hb dX10_init_279 rfl ?_
  refine lv_bipush (v := 33) hx hb dX10_init_280 rfl ?_
  refine lv_bipush (v := 101) hx hb dX10_init_282 rfl ?_
  refine va_cast hx hb hK hP hD hS 9 2 rfl rfl (nI_in (c := 33) (N := 78) (by decide) (by decide)) dX10_init_284 (fun H locs hP hD hS => ?_)
  have hP : va_P (eD E) vwCl ([(b0, .inr (11, [.ref a8, .ref a17, .ref a26, .int 0, .ref a35, .int 0, .int (-1), .int (-1), .int 0, .ref a53, .int 0, .ref a61, .ref a69, .ref a77, .int 0, .null, .null, .null, .int 0, .int 0, .int 0, .int 0])), (a8, .inl (eC E 0, 361, .inl (fun _ => 0))), (a17, .inl (eC E 0, 361, .inl (fun _ => 0))), (a26, .inl (eC E 0, 361, .inl (fun _ => 0))), (a35, .inl (eC E 0, 2888, .inl (fun _ => 0))), (a53, .inl (eC E 0, 60, .inl (fun _ => 0))), (a61, .inl (eC E 0, 24, .inl (fun _ => 0))), (a69, .inl (eC E 0, 24, .inl (fun _ => 0))), (a77, .inl (eC E 0, 40, .inl (fun _ => 0))), (a85, .inl (eC E 2, 78, .inl (letF 34)))]) H := by rw [← letF_s (i := 33) (c := vp_nar .char 101) (by decide)]; exact hP
  have hD : va_D (fre b0 s.heap.size) ([(b0, .inr (11, [.ref a8, .ref a17, .ref a26, .int 0, .ref a35, .int 0, .int (-1), .int (-1), .int 0, .ref a53, .int 0, .ref a61, .ref a69, .ref a77, .int 0, .null, .null, .null, .int 0, .int 0, .int 0, .int 0])), (a8, .inl (eC E 0, 361, .inl (fun _ => 0))), (a17, .inl (eC E 0, 361, .inl (fun _ => 0))), (a26, .inl (eC E 0, 361, .inl (fun _ => 0))), (a35, .inl (eC E 0, 2888, .inl (fun _ => 0))), (a53, .inl (eC E 0, 60, .inl (fun _ => 0))), (a61, .inl (eC E 0, 24, .inl (fun _ => 0))), (a69, .inl (eC E 0, 24, .inl (fun _ => 0))), (a77, .inl (eC E 0, 40, .inl (fun _ => 0))), (a85, .inl (eC E 2, 78, .inl (letF 34)))]) := by rw [← letF_s (i := 33) (c := vp_nar .char 101) (by decide)]; exact hD
  refine lv_dup hx hb dX10_init_285 rfl ?_
  refine lv_bipush (v := 34) hx hb dX10_init_286 rfl ?_
  refine lv_bipush (v := 114) hx hb dX10_init_288 rfl ?_
  refine va_cast hx hb hK hP hD hS 9 2 rfl rfl (nI_in (c := 34) (N := 78) (by decide) (by decide)) dX10_init_290 (fun H locs hP hD hS => ?_)
  have hP : va_P (eD E) vwCl ([(b0, .inr (11, [.ref a8, .ref a17, .ref a26, .int 0, .ref a35, .int 0, .int (-1), .int (-1), .int 0, .ref a53, .int 0, .ref a61, .ref a69, .ref a77, .int 0, .null, .null, .null, .int 0, .int 0, .int 0, .int 0])), (a8, .inl (eC E 0, 361, .inl (fun _ => 0))), (a17, .inl (eC E 0, 361, .inl (fun _ => 0))), (a26, .inl (eC E 0, 361, .inl (fun _ => 0))), (a35, .inl (eC E 0, 2888, .inl (fun _ => 0))), (a53, .inl (eC E 0, 60, .inl (fun _ => 0))), (a61, .inl (eC E 0, 24, .inl (fun _ => 0))), (a69, .inl (eC E 0, 24, .inl (fun _ => 0))), (a77, .inl (eC E 0, 40, .inl (fun _ => 0))), (a85, .inl (eC E 2, 78, .inl (letF 35)))]) H := by rw [← letF_s (i := 34) (c := vp_nar .char 114) (by decide)]; exact hP
  have hD : va_D (fre b0 s.heap.size) ([(b0, .inr (11, [.ref a8, .ref a17, .ref a26, .int 0, .ref a35, .int 0, .int (-1), .int (-1), .int 0, .ref a53, .int 0, .ref a61, .ref a69, .ref a77, .int 0, .null, .null, .null, .int 0, .int 0, .int 0, .int 0])), (a8, .inl (eC E 0, 361, .inl (fun _ => 0))), (a17, .inl (eC E 0, 361, .inl (fun _ => 0))), (a26, .inl (eC E 0, 361, .inl (fun _ => 0))), (a35, .inl (eC E 0, 2888, .inl (fun _ => 0))), (a53, .inl (eC E 0, 60, .inl (fun _ => 0))), (a61, .inl (eC E 0, 24, .inl (fun _ => 0))), (a69, .inl (eC E 0, 24, .inl (fun _ => 0))), (a77, .inl (eC E 0, 40, .inl (fun _ => 0))), (a85, .inl (eC E 2, 78, .inl (letF 35)))]) := by rw [← letF_s (i := 34) (c := vp_nar .char 114) (by decide)]; exact hD
  refine lv_dup hx hb dX10_init_291 rfl ?_
  refine lv_bipush (v := 35) hx hb dX10_init_292 rfl ?_
  refine lv_bipush (v := 103) hx hb dX10_init_294 rfl ?_
  refine va_cast hx hb hK hP hD hS 9 2 rfl rfl (nI_in (c := 35) (N := 78) (by decide) (by decide)) dX10_init_296 (fun H locs hP hD hS => ?_)
  have hP : va_P (eD E) vwCl ([(b0, .inr (11, [.ref a8, .ref a17, .ref a26, .int 0, .ref a35, .int 0, .int (-1), .int (-1), .int 0, .ref a53, .int 0, .ref a61, .ref a69, .ref a77, .int 0, .null, .null, .null, .int 0, .int 0, .int 0, .int 0])), (a8, .inl (eC E 0, 361, .inl (fun _ => 0))), (a17, .inl (eC E 0, 361, .inl (fun _ => 0))), (a26, .inl (eC E 0, 361, .inl (fun _ => 0))), (a35, .inl (eC E 0, 2888, .inl (fun _ => 0))), (a53, .inl (eC E 0, 60, .inl (fun _ => 0))), (a61, .inl (eC E 0, 24, .inl (fun _ => 0))), (a69, .inl (eC E 0, 24, .inl (fun _ => 0))), (a77, .inl (eC E 0, 40, .inl (fun _ => 0))), (a85, .inl (eC E 2, 78, .inl (letF 36)))]) H := by rw [← letF_s (i := 35) (c := vp_nar .char 103) (by decide)]; exact hP
  have hD : va_D (fre b0 s.heap.size) ([(b0, .inr (11, [.ref a8, .ref a17, .ref a26, .int 0, .ref a35, .int 0, .int (-1), .int (-1), .int 0, .ref a53, .int 0, .ref a61, .ref a69, .ref a77, .int 0, .null, .null, .null, .int 0, .int 0, .int 0, .int 0])), (a8, .inl (eC E 0, 361, .inl (fun _ => 0))), (a17, .inl (eC E 0, 361, .inl (fun _ => 0))), (a26, .inl (eC E 0, 361, .inl (fun _ => 0))), (a35, .inl (eC E 0, 2888, .inl (fun _ => 0))), (a53, .inl (eC E 0, 60, .inl (fun _ => 0))), (a61, .inl (eC E 0, 24, .inl (fun _ => 0))), (a69, .inl (eC E 0, 24, .inl (fun _ => 0))), (a77, .inl (eC E 0, 40, .inl (fun _ => 0))), (a85, .inl (eC E 2, 78, .inl (letF 36)))]) := by rw [← letF_s (i := 35) (c := vp_nar .char 103) (by decide)]; exact hD
  refine lv_dup hx hb dX10_init_297 rfl ?_
  refine lv_bipush (v := 36) hx hb dX10_init_298 rfl ?_
  refine lv_bipush (v := 101) hx hb dX10_init_300 rfl ?_
  refine va_cast hx hb hK hP hD hS 9 2 rfl rfl (nI_in (c := 36) (N := 78) (by decide) (by decide)) dX10_init_302 (fun H locs hP hD hS => ?_)
  have hP : va_P (eD E) vwCl ([(b0, .inr (11, [.ref a8, .ref a17, .ref a26, .int 0, .ref a35, .int 0, .int (-1), .int (-1), .int 0, .ref a53, .int 0, .ref a61, .ref a69, .ref a77, .int 0, .null, .null, .null, .int 0, .int 0, .int 0, .int 0])), (a8, .inl (eC E 0, 361, .inl (fun _ => 0))), (a17, .inl (eC E 0, 361, .inl (fun _ => 0))), (a26, .inl (eC E 0, 361, .inl (fun _ => 0))), (a35, .inl (eC E 0, 2888, .inl (fun _ => 0))), (a53, .inl (eC E 0, 60, .inl (fun _ => 0))), (a61, .inl (eC E 0, 24, .inl (fun _ => 0))), (a69, .inl (eC E 0, 24, .inl (fun _ => 0))), (a77, .inl (eC E 0, 40, .inl (fun _ => 0))), (a85, .inl (eC E 2, 78, .inl (letF 37)))]) H := by rw [← letF_s (i := 36) (c := vp_nar .char 101) (by decide)]; exact hP
  have hD : va_D (fre b0 s.heap.size) ([(b0, .inr (11, [.ref a8, .ref a17, .ref a26, .int 0, .ref a35, .int 0, .int (-1), .int (-1), .int 0, .ref a53, .int 0, .ref a61, .ref a69, .ref a77, .int 0, .null, .null, .null, .int 0, .int 0, .int 0, .int 0])), (a8, .inl (eC E 0, 361, .inl (fun _ => 0))), (a17, .inl (eC E 0, 361, .inl (fun _ => 0))), (a26, .inl (eC E 0, 361, .inl (fun _ => 0))), (a35, .inl (eC E 0, 2888, .inl (fun _ => 0))), (a53, .inl (eC E 0, 60, .inl (fun _ => 0))), (a61, .inl (eC E 0, 24, .inl (fun _ => 0))), (a69, .inl (eC E 0, 24, .inl (fun _ => 0))), (a77, .inl (eC E 0, 40, .inl (fun _ => 0))), (a85, .inl (eC E 2, 78, .inl (letF 37)))]) := by rw [← letF_s (i := 36) (c := vp_nar .char 101) (by decide)]; exact hD
  refine lv_dup hx hb dX10_init_303 rfl ?_
  refine lv_bipush (v := 37) hx hb dX10_init_304 rfl ?_
  refine lv_bipush (v := 32) hx hb dX10_init_306 rfl ?_
  refine va_cast hx hb hK hP hD hS 9 2 rfl rfl (nI_in (c := 37) (N := 78) (by decide) (by decide)) dX10_init_308 (fun H locs hP hD hS => ?_)
  have hP : va_P (eD E) vwCl ([(b0, .inr (11, [.ref a8, .ref a17, .ref a26, .int 0, .ref a35, .int 0, .int (-1), .int (-1), .int 0, .ref a53, .int 0, .ref a61, .ref a69, .ref a77, .int 0, .null, .null, .null, .int 0, .int 0, .int 0, .int 0])), (a8, .inl (eC E 0, 361, .inl (fun _ => 0))), (a17, .inl (eC E 0, 361, .inl (fun _ => 0))), (a26, .inl (eC E 0, 361, .inl (fun _ => 0))), (a35, .inl (eC E 0, 2888, .inl (fun _ => 0))), (a53, .inl (eC E 0, 60, .inl (fun _ => 0))), (a61, .inl (eC E 0, 24, .inl (fun _ => 0))), (a69, .inl (eC E 0, 24, .inl (fun _ => 0))), (a77, .inl (eC E 0, 40, .inl (fun _ => 0))), (a85, .inl (eC E 2, 78, .inl (letF 38)))]) H := by rw [← letF_s (i := 37) (c := vp_nar .char 32) (by decide)]; exact hP
  have hD : va_D (fre b0 s.heap.size) ([(b0, .inr (11, [.ref a8, .ref a17, .ref a26, .int 0, .ref a35, .int 0, .int (-1), .int (-1), .int 0, .ref a53, .int 0, .ref a61, .ref a69, .ref a77, .int 0, .null, .null, .null, .int 0, .int 0, .int 0, .int 0])), (a8, .inl (eC E 0, 361, .inl (fun _ => 0))), (a17, .inl (eC E 0, 361, .inl (fun _ => 0))), (a26, .inl (eC E 0, 361, .inl (fun _ => 0))), (a35, .inl (eC E 0, 2888, .inl (fun _ => 0))), (a53, .inl (eC E 0, 60, .inl (fun _ => 0))), (a61, .inl (eC E 0, 24, .inl (fun _ => 0))), (a69, .inl (eC E 0, 24, .inl (fun _ => 0))), (a77, .inl (eC E 0, 40, .inl (fun _ => 0))), (a85, .inl (eC E 2, 78, .inl (letF 38)))]) := by rw [← letF_s (i := 37) (c := vp_nar .char 32) (by decide)]; exact hD
  refine lv_dup hx hb dX10_init_309 rfl ?_
  refine lv_bipush (v := 38) hx hb dX10_init_310 rfl ?_
  refine lv_bipush (v := 111) hx hb dX10_init_312 rfl ?_
  refine va_cast hx hb hK hP hD hS 9 2 rfl rfl (nI_in (c := 38) (N := 78) (by decide) (by decide)) dX10_init_314 (fun H locs hP hD hS => ?_)
  have hP : va_P (eD E) vwCl ([(b0, .inr (11, [.ref a8, .ref a17, .ref a26, .int 0, .ref a35, .int 0, .int (-1), .int (-1), .int 0, .ref a53, .int 0, .ref a61, .ref a69, .ref a77, .int 0, .null, .null, .null, .int 0, .int 0, .int 0, .int 0])), (a8, .inl (eC E 0, 361, .inl (fun _ => 0))), (a17, .inl (eC E 0, 361, .inl (fun _ => 0))), (a26, .inl (eC E 0, 361, .inl (fun _ => 0))), (a35, .inl (eC E 0, 2888, .inl (fun _ => 0))), (a53, .inl (eC E 0, 60, .inl (fun _ => 0))), (a61, .inl (eC E 0, 24, .inl (fun _ => 0))), (a69, .inl (eC E 0, 24, .inl (fun _ => 0))), (a77, .inl (eC E 0, 40, .inl (fun _ => 0))), (a85, .inl (eC E 2, 78, .inl (letF 39)))]) H := by rw [← letF_s (i := 38) (c := vp_nar .char 111) (by decide)]; exact hP
  have hD : va_D (fre b0 s.heap.size) ([(b0, .inr (11, [.ref a8, .ref a17, .ref a26, .int 0, .ref a35, .int 0, .int (-1), .int (-1), .int 0, .ref a53, .int 0, .ref a61, .ref a69, .ref a77, .int 0, .null, .null, .null, .int 0, .int 0, .int 0, .int 0])), (a8, .inl (eC E 0, 361, .inl (fun _ => 0))), (a17, .inl (eC E 0, 361, .inl (fun _ => 0))), (a26, .inl (eC E 0, 361, .inl (fun _ => 0))), (a35, .inl (eC E 0, 2888, .inl (fun _ => 0))), (a53, .inl (eC E 0, 60, .inl (fun _ => 0))), (a61, .inl (eC E 0, 24, .inl (fun _ => 0))), (a69, .inl (eC E 0, 24, .inl (fun _ => 0))), (a77, .inl (eC E 0, 40, .inl (fun _ => 0))), (a85, .inl (eC E 2, 78, .inl (letF 39)))]) := by rw [← letF_s (i := 38) (c := vp_nar .char 111) (by decide)]; exact hD
  refine lv_dup hx hb dX10_init_315 rfl ?_
  refine lv_bipush (v := 39) hx hb dX10_init_316 rfl ?_
  refine lv_bipush (v := 117) hx hb dX10_init_318 rfl ?_
  refine va_cast hx hb hK hP hD hS 9 2 rfl rfl (nI_in (c := 39) (N := 78) (by decide) (by decide)) dX10_init_320 (fun H locs hP hD hS => ?_)
  have hP : va_P (eD E) vwCl ([(b0, .inr (11, [.ref a8, .ref a17, .ref a26, .int 0, .ref a35, .int 0, .int (-1), .int (-1), .int 0, .ref a53, .int 0, .ref a61, .ref a69, .ref a77, .int 0, .null, .null, .null, .int 0, .int 0, .int 0, .int 0])), (a8, .inl (eC E 0, 361, .inl (fun _ => 0))), (a17, .inl (eC E 0, 361, .inl (fun _ => 0))), (a26, .inl (eC E 0, 361, .inl (fun _ => 0))), (a35, .inl (eC E 0, 2888, .inl (fun _ => 0))), (a53, .inl (eC E 0, 60, .inl (fun _ => 0))), (a61, .inl (eC E 0, 24, .inl (fun _ => 0))), (a69, .inl (eC E 0, 24, .inl (fun _ => 0))), (a77, .inl (eC E 0, 40, .inl (fun _ => 0))), (a85, .inl (eC E 2, 78, .inl (letF 40)))]) H := by rw [← letF_s (i := 39) (c := vp_nar .char 117) (by decide)]; exact hP
  have hD : va_D (fre b0 s.heap.size) ([(b0, .inr (11, [.ref a8, .ref a17, .ref a26, .int 0, .ref a35, .int 0, .int (-1), .int (-1), .int 0, .ref a53, .int 0, .ref a61, .ref a69, .ref a77, .int 0, .null, .null, .null, .int 0, .int 0, .int 0, .int 0])), (a8, .inl (eC E 0, 361, .inl (fun _ => 0))), (a17, .inl (eC E 0, 361, .inl (fun _ => 0))), (a26, .inl (eC E 0, 361, .inl (fun _ => 0))), (a35, .inl (eC E 0, 2888, .inl (fun _ => 0))), (a53, .inl (eC E 0, 60, .inl (fun _ => 0))), (a61, .inl (eC E 0, 24, .inl (fun _ => 0))), (a69, .inl (eC E 0, 24, .inl (fun _ => 0))), (a77, .inl (eC E 0, 40, .inl (fun _ => 0))), (a85, .inl (eC E 2, 78, .inl (letF 40)))]) := by rw [← letF_s (i := 39) (c := vp_nar .char 117) (by decide)]; exact hD
  refine lv_dup hx hb dX10_init_321 rfl ?_
  refine lv_bipush (v := 40) hx hb dX10_init_322 rfl ?_
  refine lv_bipush (v := 114) hx hb dX10_init_324 rfl ?_
  refine va_cast hx hb hK hP hD hS 9 2 rfl rfl (nI_in (c := 40) (N := 78) (by decide) (by decide)) dX10_init_326 (fun H locs hP hD hS => ?_)
  have hP : va_P (eD E) vwCl ([(b0, .inr (11, [.ref a8, .ref a17, .ref a26, .int 0, .ref a35, .int 0, .int (-1), .int (-1), .int 0, .ref a53, .int 0, .ref a61, .ref a69, .ref a77, .int 0, .null, .null, .null, .int 0, .int 0, .int 0, .int 0])), (a8, .inl (eC E 0, 361, .inl (fun _ => 0))), (a17, .inl (eC E 0, 361, .inl (fun _ => 0))), (a26, .inl (eC E 0, 361, .inl (fun _ => 0))), (a35, .inl (eC E 0, 2888, .inl (fun _ => 0))), (a53, .inl (eC E 0, 60, .inl (fun _ => 0))), (a61, .inl (eC E 0, 24, .inl (fun _ => 0))), (a69, .inl (eC E 0, 24, .inl (fun _ => 0))), (a77, .inl (eC E 0, 40, .inl (fun _ => 0))), (a85, .inl (eC E 2, 78, .inl (letF 41)))]) H := by rw [← letF_s (i := 40) (c := vp_nar .char 114) (by decide)]; exact hP
  have hD : va_D (fre b0 s.heap.size) ([(b0, .inr (11, [.ref a8, .ref a17, .ref a26, .int 0, .ref a35, .int 0, .int (-1), .int (-1), .int 0, .ref a53, .int 0, .ref a61, .ref a69, .ref a77, .int 0, .null, .null, .null, .int 0, .int 0, .int 0, .int 0])), (a8, .inl (eC E 0, 361, .inl (fun _ => 0))), (a17, .inl (eC E 0, 361, .inl (fun _ => 0))), (a26, .inl (eC E 0, 361, .inl (fun _ => 0))), (a35, .inl (eC E 0, 2888, .inl (fun _ => 0))), (a53, .inl (eC E 0, 60, .inl (fun _ => 0))), (a61, .inl (eC E 0, 24, .inl (fun _ => 0))), (a69, .inl (eC E 0, 24, .inl (fun _ => 0))), (a77, .inl (eC E 0, 40, .inl (fun _ => 0))), (a85, .inl (eC E 2, 78, .inl (letF 41)))]) := by rw [← letF_s (i := 40) (c := vp_nar .char 114) (by decide)]; exact hD
  refine lv_dup hx hb dX10_init_327 rfl ?_
  refine lv_bipush (v := 41) hx hb dX10_init_328 rfl ?_
  refine lv_bipush (v := 115) hx hb dX10_init_330 rfl ?_
  refine va_cast hx hb hK hP hD hS 9 2 rfl rfl (nI_in (c := 41) (N := 78) (by decide) (by decide)) dX10_init_332 (fun H locs hP hD hS => ?_)
  have hP : va_P (eD E) vwCl ([(b0, .inr (11, [.ref a8, .ref a17, .ref a26, .int 0, .ref a35, .int 0, .int (-1), .int (-1), .int 0, .ref a53, .int 0, .ref a61, .ref a69, .ref a77, .int 0, .null, .null, .null, .int 0, .int 0, .int 0, .int 0])), (a8, .inl (eC E 0, 361, .inl (fun _ => 0))), (a17, .inl (eC E 0, 361, .inl (fun _ => 0))), (a26, .inl (eC E 0, 361, .inl (fun _ => 0))), (a35, .inl (eC E 0, 2888, .inl (fun _ => 0))), (a53, .inl (eC E 0, 60, .inl (fun _ => 0))), (a61, .inl (eC E 0, 24, .inl (fun _ => 0))), (a69, .inl (eC E 0, 24, .inl (fun _ => 0))), (a77, .inl (eC E 0, 40, .inl (fun _ => 0))), (a85, .inl (eC E 2, 78, .inl (letF 42)))]) H := by rw [← letF_s (i := 41) (c := vp_nar .char 115) (by decide)]; exact hP
  have hD : va_D (fre b0 s.heap.size) ([(b0, .inr (11, [.ref a8, .ref a17, .ref a26, .int 0, .ref a35, .int 0, .int (-1), .int (-1), .int 0, .ref a53, .int 0, .ref a61, .ref a69, .ref a77, .int 0, .null, .null, .null, .int 0, .int 0, .int 0, .int 0])), (a8, .inl (eC E 0, 361, .inl (fun _ => 0))), (a17, .inl (eC E 0, 361, .inl (fun _ => 0))), (a26, .inl (eC E 0, 361, .inl (fun _ => 0))), (a35, .inl (eC E 0, 2888, .inl (fun _ => 0))), (a53, .inl (eC E 0, 60, .inl (fun _ => 0))), (a61, .inl (eC E 0, 24, .inl (fun _ => 0))), (a69, .inl (eC E 0, 24, .inl (fun _ => 0))), (a77, .inl (eC E 0, 40, .inl (fun _ => 0))), (a85, .inl (eC E 2, 78, .inl (letF 42)))]) := by rw [← letF_s (i := 41) (c := vp_nar .char 115) (by decide)]; exact hD
  refine lv_dup hx hb dX10_init_333 rfl ?_
  refine lv_bipush (v := 42) hx hb dX10_init_334 rfl ?_
  refine lv_bipush (v := 32) hx hb dX10_init_336 rfl ?_
  refine va_cast hx hb hK hP hD hS 9 2 rfl rfl (nI_in (c := 42) (N := 78) (by decide) (by decide)) dX10_init_338 (fun H locs hP hD hS => ?_)
  have hP : va_P (eD E) vwCl ([(b0, .inr (11, [.ref a8, .ref a17, .ref a26, .int 0, .ref a35, .int 0, .int (-1), .int (-1), .int 0, .ref a53, .int 0, .ref a61, .ref a69, .ref a77, .int 0, .null, .null, .null, .int 0, .int 0, .int 0, .int 0])), (a8, .inl (eC E 0, 361, .inl (fun _ => 0))), (a17, .inl (eC E 0, 361, .inl (fun _ => 0))), (a26, .inl (eC E 0, 361, .inl (fun _ => 0))), (a35, .inl (eC E 0, 2888, .inl (fun _ => 0))), (a53, .inl (eC E 0, 60, .inl (fun _ => 0))), (a61, .inl (eC E 0, 24, .inl (fun _ => 0))), (a69, .inl (eC E 0, 24, .inl (fun _ => 0))), (a77, .inl (eC E 0, 40, .inl (fun _ => 0))), (a85, .inl (eC E 2, 78, .inl (letF 43)))]) H := by rw [← letF_s (i := 42) (c := vp_nar .char 32) (by decide)]; exact hP
  have hD : va_D (fre b0 s.heap.size) ([(b0, .inr (11, [.ref a8, .ref a17, .ref a26, .int 0, .ref a35, .int 0, .int (-1), .int (-1), .int 0, .ref a53, .int 0, .ref a61, .ref a69, .ref a77, .int 0, .null, .null, .null, .int 0, .int 0, .int 0, .int 0])), (a8, .inl (eC E 0, 361, .inl (fun _ => 0))), (a17, .inl (eC E 0, 361, .inl (fun _ => 0))), (a26, .inl (eC E 0, 361, .inl (fun _ => 0))), (a35, .inl (eC E 0, 2888, .inl (fun _ => 0))), (a53, .inl (eC E 0, 60, .inl (fun _ => 0))), (a61, .inl (eC E 0, 24, .inl (fun _ => 0))), (a69, .inl (eC E 0, 24, .inl (fun _ => 0))), (a77, .inl (eC E 0, 40, .inl (fun _ => 0))), (a85, .inl (eC E 2, 78, .inl (letF 43)))]) := by rw [← letF_s (i := 42) (c := vp_nar .char 32) (by decide)]; exact hD
  refine lv_dup hx hb dX10_init_339 rfl ?_
  refine lv_bipush (v := 43) hx hb dX10_init_340 rfl ?_
  refine lv_bipush (v := 116) hx hb dX10_init_342 rfl ?_
  refine va_cast hx hb hK hP hD hS 9 2 rfl rfl (nI_in (c := 43) (N := 78) (by decide) (by decide)) dX10_init_344 (fun H locs hP hD hS => ?_)
  have hP : va_P (eD E) vwCl ([(b0, .inr (11, [.ref a8, .ref a17, .ref a26, .int 0, .ref a35, .int 0, .int (-1), .int (-1), .int 0, .ref a53, .int 0, .ref a61, .ref a69, .ref a77, .int 0, .null, .null, .null, .int 0, .int 0, .int 0, .int 0])), (a8, .inl (eC E 0, 361, .inl (fun _ => 0))), (a17, .inl (eC E 0, 361, .inl (fun _ => 0))), (a26, .inl (eC E 0, 361, .inl (fun _ => 0))), (a35, .inl (eC E 0, 2888, .inl (fun _ => 0))), (a53, .inl (eC E 0, 60, .inl (fun _ => 0))), (a61, .inl (eC E 0, 24, .inl (fun _ => 0))), (a69, .inl (eC E 0, 24, .inl (fun _ => 0))), (a77, .inl (eC E 0, 40, .inl (fun _ => 0))), (a85, .inl (eC E 2, 78, .inl (letF 44)))]) H := by rw [← letF_s (i := 43) (c := vp_nar .char 116) (by decide)]; exact hP
  have hD : va_D (fre b0 s.heap.size) ([(b0, .inr (11, [.ref a8, .ref a17, .ref a26, .int 0, .ref a35, .int 0, .int (-1), .int (-1), .int 0, .ref a53, .int 0, .ref a61, .ref a69, .ref a77, .int 0, .null, .null, .null, .int 0, .int 0, .int 0, .int 0])), (a8, .inl (eC E 0, 361, .inl (fun _ => 0))), (a17, .inl (eC E 0, 361, .inl (fun _ => 0))), (a26, .inl (eC E 0, 361, .inl (fun _ => 0))), (a35, .inl (eC E 0, 2888, .inl (fun _ => 0))), (a53, .inl (eC E 0, 60, .inl (fun _ => 0))), (a61, .inl (eC E 0, 24, .inl (fun _ => 0))), (a69, .inl (eC E 0, 24, .inl (fun _ => 0))), (a77, .inl (eC E 0, 40, .inl (fun _ => 0))), (a85, .inl (eC E 2, 78, .inl (letF 44)))]) := by rw [← letF_s (i := 43) (c := vp_nar .char 116) (by decide)]; exact hD
  refine lv_dup hx hb dX10_init_345 rfl ?_
  refine lv_bipush (v := 44) hx hb dX10_init_346 rfl ?_
  refine lv_bipush (v := 104) hx hb dX10_init_348 rfl ?_
  refine va_cast hx hb hK hP hD hS 9 2 rfl rfl (nI_in (c := 44) (N := 78) (by decide) (by decide)) dX10_init_350 (fun H locs hP hD hS => ?_)
  have hP : va_P (eD E) vwCl ([(b0, .inr (11, [.ref a8, .ref a17, .ref a26, .int 0, .ref a35, .int 0, .int (-1), .int (-1), .int 0, .ref a53, .int 0, .ref a61, .ref a69, .ref a77, .int 0, .null, .null, .null, .int 0, .int 0, .int 0, .int 0])), (a8, .inl (eC E 0, 361, .inl (fun _ => 0))), (a17, .inl (eC E 0, 361, .inl (fun _ => 0))), (a26, .inl (eC E 0, 361, .inl (fun _ => 0))), (a35, .inl (eC E 0, 2888, .inl (fun _ => 0))), (a53, .inl (eC E 0, 60, .inl (fun _ => 0))), (a61, .inl (eC E 0, 24, .inl (fun _ => 0))), (a69, .inl (eC E 0, 24, .inl (fun _ => 0))), (a77, .inl (eC E 0, 40, .inl (fun _ => 0))), (a85, .inl (eC E 2, 78, .inl (letF 45)))]) H := by rw [← letF_s (i := 44) (c := vp_nar .char 104) (by decide)]; exact hP
  have hD : va_D (fre b0 s.heap.size) ([(b0, .inr (11, [.ref a8, .ref a17, .ref a26, .int 0, .ref a35, .int 0, .int (-1), .int (-1), .int 0, .ref a53, .int 0, .ref a61, .ref a69, .ref a77, .int 0, .null, .null, .null, .int 0, .int 0, .int 0, .int 0])), (a8, .inl (eC E 0, 361, .inl (fun _ => 0))), (a17, .inl (eC E 0, 361, .inl (fun _ => 0))), (a26, .inl (eC E 0, 361, .inl (fun _ => 0))), (a35, .inl (eC E 0, 2888, .inl (fun _ => 0))), (a53, .inl (eC E 0, 60, .inl (fun _ => 0))), (a61, .inl (eC E 0, 24, .inl (fun _ => 0))), (a69, .inl (eC E 0, 24, .inl (fun _ => 0))), (a77, .inl (eC E 0, 40, .inl (fun _ => 0))), (a85, .inl (eC E 2, 78, .inl (letF 45)))]) := by rw [← letF_s (i := 44) (c := vp_nar .char 104) (by decide)]; exact hD
  refine lv_dup hx hb dX10_init_351 rfl ?_
  refine lv_bipush (v := 45) hx hb dX10_init_352 rfl ?_
  refine lv_bipush (v := 101) hx hb dX10_init_354 rfl ?_
  refine va_cast hx hb hK hP hD hS 9 2 rfl rfl (nI_in (c := 45) (N := 78) (by decide) (by decide)) dX10_init_356 (fun H locs hP hD hS => ?_)
  have hP : va_P (eD E) vwCl ([(b0, .inr (11, [.ref a8, .ref a17, .ref a26, .int 0, .ref a35, .int 0, .int (-1), .int (-1), .int 0, .ref a53, .int 0, .ref a61, .ref a69, .ref a77, .int 0, .null, .null, .null, .int 0, .int 0, .int 0, .int 0])), (a8, .inl (eC E 0, 361, .inl (fun _ => 0))), (a17, .inl (eC E 0, 361, .inl (fun _ => 0))), (a26, .inl (eC E 0, 361, .inl (fun _ => 0))), (a35, .inl (eC E 0, 2888, .inl (fun _ => 0))), (a53, .inl (eC E 0, 60, .inl (fun _ => 0))), (a61, .inl (eC E 0, 24, .inl (fun _ => 0))), (a69, .inl (eC E 0, 24, .inl (fun _ => 0))), (a77, .inl (eC E 0, 40, .inl (fun _ => 0))), (a85, .inl (eC E 2, 78, .inl (letF 46)))]) H := by rw [← letF_s (i := 45) (c := vp_nar .char 101) (by decide)]; exact hP
  have hD : va_D (fre b0 s.heap.size) ([(b0, .inr (11, [.ref a8, .ref a17, .ref a26, .int 0, .ref a35, .int 0, .int (-1), .int (-1), .int 0, .ref a53, .int 0, .ref a61, .ref a69, .ref a77, .int 0, .null, .null, .null, .int 0, .int 0, .int 0, .int 0])), (a8, .inl (eC E 0, 361, .inl (fun _ => 0))), (a17, .inl (eC E 0, 361, .inl (fun _ => 0))), (a26, .inl (eC E 0, 361, .inl (fun _ => 0))), (a35, .inl (eC E 0, 2888, .inl (fun _ => 0))), (a53, .inl (eC E 0, 60, .inl (fun _ => 0))), (a61, .inl (eC E 0, 24, .inl (fun _ => 0))), (a69, .inl (eC E 0, 24, .inl (fun _ => 0))), (a77, .inl (eC E 0, 40, .inl (fun _ => 0))), (a85, .inl (eC E 2, 78, .inl (letF 46)))]) := by rw [← letF_s (i := 45) (c := vp_nar .char 101) (by decide)]; exact hD
  refine lv_dup hx hb dX10_init_357 rfl ?_
  refine lv_bipush (v := 46) hx hb dX10_init_358 rfl ?_
  refine lv_bipush (v := 105) hx hb dX10_init_360 rfl ?_
  refine va_cast hx hb hK hP hD hS 9 2 rfl rfl (nI_in (c := 46) (N := 78) (by decide) (by decide)) dX10_init_362 (fun H locs hP hD hS => ?_)
  have hP : va_P (eD E) vwCl ([(b0, .inr (11, [.ref a8, .ref a17, .ref a26, .int 0, .ref a35, .int 0, .int (-1), .int (-1), .int 0, .ref a53, .int 0, .ref a61, .ref a69, .ref a77, .int 0, .null, .null, .null, .int 0, .int 0, .int 0, .int 0])), (a8, .inl (eC E 0, 361, .inl (fun _ => 0))), (a17, .inl (eC E 0, 361, .inl (fun _ => 0))), (a26, .inl (eC E 0, 361, .inl (fun _ => 0))), (a35, .inl (eC E 0, 2888, .inl (fun _ => 0))), (a53, .inl (eC E 0, 60, .inl (fun _ => 0))), (a61, .inl (eC E 0, 24, .inl (fun _ => 0))), (a69, .inl (eC E 0, 24, .inl (fun _ => 0))), (a77, .inl (eC E 0, 40, .inl (fun _ => 0))), (a85, .inl (eC E 2, 78, .inl (letF 47)))]) H := by rw [← letF_s (i := 46) (c := vp_nar .char 105) (by decide)]; exact hP
  have hD : va_D (fre b0 s.heap.size) ([(b0, .inr (11, [.ref a8, .ref a17, .ref a26, .int 0, .ref a35, .int 0, .int (-1), .int (-1), .int 0, .ref a53, .int 0, .ref a61, .ref a69, .ref a77, .int 0, .null, .null, .null, .int 0, .int 0, .int 0, .int 0])), (a8, .inl (eC E 0, 361, .inl (fun _ => 0))), (a17, .inl (eC E 0, 361, .inl (fun _ => 0))), (a26, .inl (eC E 0, 361, .inl (fun _ => 0))), (a35, .inl (eC E 0, 2888, .inl (fun _ => 0))), (a53, .inl (eC E 0, 60, .inl (fun _ => 0))), (a61, .inl (eC E 0, 24, .inl (fun _ => 0))), (a69, .inl (eC E 0, 24, .inl (fun _ => 0))), (a77, .inl (eC E 0, 40, .inl (fun _ => 0))), (a85, .inl (eC E 2, 78, .inl (letF 47)))]) := by rw [← letF_s (i := 46) (c := vp_nar .char 105) (by decide)]; exact hD
  refine lv_dup hx hb dX10_init_363 rfl ?_
  refine lv_bipush (v := 47) hx hb dX10_init_364 rfl ?_
  refine lv_bipush (v := 114) hx hb dX10_init_366 rfl ?_
  refine va_cast hx hb hK hP hD hS 9 2 rfl rfl (nI_in (c := 47) (N := 78) (by decide) (by decide)) dX10_init_368 (fun H locs hP hD hS => ?_)
  have hP : va_P (eD E) vwCl ([(b0, .inr (11, [.ref a8, .ref a17, .ref a26, .int 0, .ref a35, .int 0, .int (-1), .int (-1), .int 0, .ref a53, .int 0, .ref a61, .ref a69, .ref a77, .int 0, .null, .null, .null, .int 0, .int 0, .int 0, .int 0])), (a8, .inl (eC E 0, 361, .inl (fun _ => 0))), (a17, .inl (eC E 0, 361, .inl (fun _ => 0))), (a26, .inl (eC E 0, 361, .inl (fun _ => 0))), (a35, .inl (eC E 0, 2888, .inl (fun _ => 0))), (a53, .inl (eC E 0, 60, .inl (fun _ => 0))), (a61, .inl (eC E 0, 24, .inl (fun _ => 0))), (a69, .inl (eC E 0, 24, .inl (fun _ => 0))), (a77, .inl (eC E 0, 40, .inl (fun _ => 0))), (a85, .inl (eC E 2, 78, .inl (letF 48)))]) H := by rw [← letF_s (i := 47) (c := vp_nar .char 114) (by decide)]; exact hP
  have hD : va_D (fre b0 s.heap.size) ([(b0, .inr (11, [.ref a8, .ref a17, .ref a26, .int 0, .ref a35, .int 0, .int (-1), .int (-1), .int 0, .ref a53, .int 0, .ref a61, .ref a69, .ref a77, .int 0, .null, .null, .null, .int 0, .int 0, .int 0, .int 0])), (a8, .inl (eC E 0, 361, .inl (fun _ => 0))), (a17, .inl (eC E 0, 361, .inl (fun _ => 0))), (a26, .inl (eC E 0, 361, .inl (fun _ => 0))), (a35, .inl (eC E 0, 2888, .inl (fun _ => 0))), (a53, .inl (eC E 0, 60, .inl (fun _ => 0))), (a61, .inl (eC E 0, 24, .inl (fun _ => 0))), (a69, .inl (eC E 0, 24, .inl (fun _ => 0))), (a77, .inl (eC E 0, 40, .inl (fun _ => 0))), (a85, .inl (eC E 2, 78, .inl (letF 48)))]) := by rw [← letF_s (i := 47) (c := vp_nar .char 114) (by decide)]; exact hD
  refine lv_dup hx hb dX10_init_369 rfl ?_
  refine lv_bipush (v := 48) hx hb dX10_init_370 rfl ?_
  refine lv_bipush (v := 115) hx hb dX10_init_372 rfl ?_
  refine va_cast hx hb hK hP hD hS 9 2 rfl rfl (nI_in (c := 48) (N := 78) (by decide) (by decide)) dX10_init_374 (fun H locs hP hD hS => ?_)
  have hP : va_P (eD E) vwCl ([(b0, .inr (11, [.ref a8, .ref a17, .ref a26, .int 0, .ref a35, .int 0, .int (-1), .int (-1), .int 0, .ref a53, .int 0, .ref a61, .ref a69, .ref a77, .int 0, .null, .null, .null, .int 0, .int 0, .int 0, .int 0])), (a8, .inl (eC E 0, 361, .inl (fun _ => 0))), (a17, .inl (eC E 0, 361, .inl (fun _ => 0))), (a26, .inl (eC E 0, 361, .inl (fun _ => 0))), (a35, .inl (eC E 0, 2888, .inl (fun _ => 0))), (a53, .inl (eC E 0, 60, .inl (fun _ => 0))), (a61, .inl (eC E 0, 24, .inl (fun _ => 0))), (a69, .inl (eC E 0, 24, .inl (fun _ => 0))), (a77, .inl (eC E 0, 40, .inl (fun _ => 0))), (a85, .inl (eC E 2, 78, .inl (letF 49)))]) H := by rw [← letF_s (i := 48) (c := vp_nar .char 115) (by decide)]; exact hP
  have hD : va_D (fre b0 s.heap.size) ([(b0, .inr (11, [.ref a8, .ref a17, .ref a26, .int 0, .ref a35, .int 0, .int (-1), .int (-1), .int 0, .ref a53, .int 0, .ref a61, .ref a69, .ref a77, .int 0, .null, .null, .null, .int 0, .int 0, .int 0, .int 0])), (a8, .inl (eC E 0, 361, .inl (fun _ => 0))), (a17, .inl (eC E 0, 361, .inl (fun _ => 0))), (a26, .inl (eC E 0, 361, .inl (fun _ => 0))), (a35, .inl (eC E 0, 2888, .inl (fun _ => 0))), (a53, .inl (eC E 0, 60, .inl (fun _ => 0))), (a61, .inl (eC E 0, 24, .inl (fun _ => 0))), (a69, .inl (eC E 0, 24, .inl (fun _ => 0))), (a77, .inl (eC E 0, 40, .inl (fun _ => 0))), (a85, .inl (eC E 2, 78, .inl (letF 49)))]) := by rw [← letF_s (i := 48) (c := vp_nar .char 115) (by decide)]; exact hD
  refine lv_dup hx hb dX10_init_375 rfl ?_
  refine lv_bipush (v := 49) hx hb dX10_init_376 rfl ?_
  refine lv_bipush (v := 32) hx hb dX10_init_378 rfl ?_
  refine va_cast hx hb hK hP hD hS 9 2 rfl rfl (nI_in (c := 49) (N := 78) (by decide) (by decide)) dX10_init_380 (fun H locs hP hD hS => ?_)
  have hP : va_P (eD E) vwCl ([(b0, .inr (11, [.ref a8, .ref a17, .ref a26, .int 0, .ref a35, .int 0, .int (-1), .int (-1), .int 0, .ref a53, .int 0, .ref a61, .ref a69, .ref a77, .int 0, .null, .null, .null, .int 0, .int 0, .int 0, .int 0])), (a8, .inl (eC E 0, 361, .inl (fun _ => 0))), (a17, .inl (eC E 0, 361, .inl (fun _ => 0))), (a26, .inl (eC E 0, 361, .inl (fun _ => 0))), (a35, .inl (eC E 0, 2888, .inl (fun _ => 0))), (a53, .inl (eC E 0, 60, .inl (fun _ => 0))), (a61, .inl (eC E 0, 24, .inl (fun _ => 0))), (a69, .inl (eC E 0, 24, .inl (fun _ => 0))), (a77, .inl (eC E 0, 40, .inl (fun _ => 0))), (a85, .inl (eC E 2, 78, .inl (letF 50)))]) H := by rw [← letF_s (i := 49) (c := vp_nar .char 32) (by decide)]; exact hP
  have hD : va_D (fre b0 s.heap.size) ([(b0, .inr (11, [.ref a8, .ref a17, .ref a26, .int 0, .ref a35, .int 0, .int (-1), .int (-1), .int 0, .ref a53, .int 0, .ref a61, .ref a69, .ref a77, .int 0, .null, .null, .null, .int 0, .int 0, .int 0, .int 0])), (a8, .inl (eC E 0, 361, .inl (fun _ => 0))), (a17, .inl (eC E 0, 361, .inl (fun _ => 0))), (a26, .inl (eC E 0, 361, .inl (fun _ => 0))), (a35, .inl (eC E 0, 2888, .inl (fun _ => 0))), (a53, .inl (eC E 0, 60, .inl (fun _ => 0))), (a61, .inl (eC E 0, 24, .inl (fun _ => 0))), (a69, .inl (eC E 0, 24, .inl (fun _ => 0))), (a77, .inl (eC E 0, 40, .inl (fun _ => 0))), (a85, .inl (eC E 2, 78, .inl (letF 50)))]) := by rw [← letF_s (i := 49) (c := vp_nar .char 32) (by decide)]; exact hD
  refine lv_dup hx hb dX10_init_381 rfl ?_
  refine lv_bipush (v := 50) hx hb dX10_init_382 rfl ?_
  refine lv_bipush (v := 112) hx hb dX10_init_384 rfl ?_
  refine va_cast hx hb hK hP hD hS 9 2 rfl rfl (nI_in (c := 50) (N := 78) (by decide) (by decide)) dX10_init_386 (fun H locs hP hD hS => ?_)
  have hP : va_P (eD E) vwCl ([(b0, .inr (11, [.ref a8, .ref a17, .ref a26, .int 0, .ref a35, .int 0, .int (-1), .int (-1), .int 0, .ref a53, .int 0, .ref a61, .ref a69, .ref a77, .int 0, .null, .null, .null, .int 0, .int 0, .int 0, .int 0])), (a8, .inl (eC E 0, 361, .inl (fun _ => 0))), (a17, .inl (eC E 0, 361, .inl (fun _ => 0))), (a26, .inl (eC E 0, 361, .inl (fun _ => 0))), (a35, .inl (eC E 0, 2888, .inl (fun _ => 0))), (a53, .inl (eC E 0, 60, .inl (fun _ => 0))), (a61, .inl (eC E 0, 24, .inl (fun _ => 0))), (a69, .inl (eC E 0, 24, .inl (fun _ => 0))), (a77, .inl (eC E 0, 40, .inl (fun _ => 0))), (a85, .inl (eC E 2, 78, .inl (letF 51)))]) H := by rw [← letF_s (i := 50) (c := vp_nar .char 112) (by decide)]; exact hP
  have hD : va_D (fre b0 s.heap.size) ([(b0, .inr (11, [.ref a8, .ref a17, .ref a26, .int 0, .ref a35, .int 0, .int (-1), .int (-1), .int 0, .ref a53, .int 0, .ref a61, .ref a69, .ref a77, .int 0, .null, .null, .null, .int 0, .int 0, .int 0, .int 0])), (a8, .inl (eC E 0, 361, .inl (fun _ => 0))), (a17, .inl (eC E 0, 361, .inl (fun _ => 0))), (a26, .inl (eC E 0, 361, .inl (fun _ => 0))), (a35, .inl (eC E 0, 2888, .inl (fun _ => 0))), (a53, .inl (eC E 0, 60, .inl (fun _ => 0))), (a61, .inl (eC E 0, 24, .inl (fun _ => 0))), (a69, .inl (eC E 0, 24, .inl (fun _ => 0))), (a77, .inl (eC E 0, 40, .inl (fun _ => 0))), (a85, .inl (eC E 2, 78, .inl (letF 51)))]) := by rw [← letF_s (i := 50) (c := vp_nar .char 112) (by decide)]; exact hD
  refine lv_dup hx hb dX10_init_387 rfl ?_
  refine lv_bipush (v := 51) hx hb dX10_init_388 rfl ?_
  refine lv_bipush (v := 105) hx hb dX10_init_390 rfl ?_
  refine va_cast hx hb hK hP hD hS 9 2 rfl rfl (nI_in (c := 51) (N := 78) (by decide) (by decide)) dX10_init_392 (fun H locs hP hD hS => ?_)
  have hP : va_P (eD E) vwCl ([(b0, .inr (11, [.ref a8, .ref a17, .ref a26, .int 0, .ref a35, .int 0, .int (-1), .int (-1), .int 0, .ref a53, .int 0, .ref a61, .ref a69, .ref a77, .int 0, .null, .null, .null, .int 0, .int 0, .int 0, .int 0])), (a8, .inl (eC E 0, 361, .inl (fun _ => 0))), (a17, .inl (eC E 0, 361, .inl (fun _ => 0))), (a26, .inl (eC E 0, 361, .inl (fun _ => 0))), (a35, .inl (eC E 0, 2888, .inl (fun _ => 0))), (a53, .inl (eC E 0, 60, .inl (fun _ => 0))), (a61, .inl (eC E 0, 24, .inl (fun _ => 0))), (a69, .inl (eC E 0, 24, .inl (fun _ => 0))), (a77, .inl (eC E 0, 40, .inl (fun _ => 0))), (a85, .inl (eC E 2, 78, .inl (letF 52)))]) H := by rw [← letF_s (i := 51) (c := vp_nar .char 105) (by decide)]; exact hP
  have hD : va_D (fre b0 s.heap.size) ([(b0, .inr (11, [.ref a8, .ref a17, .ref a26, .int 0, .ref a35, .int 0, .int (-1), .int (-1), .int 0, .ref a53, .int 0, .ref a61, .ref a69, .ref a77, .int 0, .null, .null, .null, .int 0, .int 0, .int 0, .int 0])), (a8, .inl (eC E 0, 361, .inl (fun _ => 0))), (a17, .inl (eC E 0, 361, .inl (fun _ => 0))), (a26, .inl (eC E 0, 361, .inl (fun _ => 0))), (a35, .inl (eC E 0, 2888, .inl (fun _ => 0))), (a53, .inl (eC E 0, 60, .inl (fun _ => 0))), (a61, .inl (eC E 0, 24, .inl (fun _ => 0))), (a69, .inl (eC E 0, 24, .inl (fun _ => 0))), (a77, .inl (eC E 0, 40, .inl (fun _ => 0))), (a85, .inl (eC E 2, 78, .inl (letF 52)))]) := by rw [← letF_s (i := 51) (c := vp_nar .char 105) (by decide)]; exact hD
  refine lv_dup hx hb dX10_init_393 rfl ?_
  refine lv_bipush (v := 52) hx hb dX10_init_394 rfl ?_
  refine lv_bipush (v := 99) hx hb dX10_init_396 rfl ?_
  refine va_cast hx hb hK hP hD hS 9 2 rfl rfl (nI_in (c := 52) (N := 78) (by decide) (by decide)) dX10_init_398 (fun H locs hP hD hS => ?_)
  have hP : va_P (eD E) vwCl ([(b0, .inr (11, [.ref a8, .ref a17, .ref a26, .int 0, .ref a35, .int 0, .int (-1), .int (-1), .int 0, .ref a53, .int 0, .ref a61, .ref a69, .ref a77, .int 0, .null, .null, .null, .int 0, .int 0, .int 0, .int 0])), (a8, .inl (eC E 0, 361, .inl (fun _ => 0))), (a17, .inl (eC E 0, 361, .inl (fun _ => 0))), (a26, .inl (eC E 0, 361, .inl (fun _ => 0))), (a35, .inl (eC E 0, 2888, .inl (fun _ => 0))), (a53, .inl (eC E 0, 60, .inl (fun _ => 0))), (a61, .inl (eC E 0, 24, .inl (fun _ => 0))), (a69, .inl (eC E 0, 24, .inl (fun _ => 0))), (a77, .inl (eC E 0, 40, .inl (fun _ => 0))), (a85, .inl (eC E 2, 78, .inl (letF 53)))]) H := by rw [← letF_s (i := 52) (c := vp_nar .char 99) (by decide)]; exact hP
  have hD : va_D (fre b0 s.heap.size) ([(b0, .inr (11, [.ref a8, .ref a17, .ref a26, .int 0, .ref a35, .int 0, .int (-1), .int (-1), .int 0, .ref a53, .int 0, .ref a61, .ref a69, .ref a77, .int 0, .null, .null, .null, .int 0, .int 0, .int 0, .int 0])), (a8, .inl (eC E 0, 361, .inl (fun _ => 0))), (a17, .inl (eC E 0, 361, .inl (fun _ => 0))), (a26, .inl (eC E 0, 361, .inl (fun _ => 0))), (a35, .inl (eC E 0, 2888, .inl (fun _ => 0))), (a53, .inl (eC E 0, 60, .inl (fun _ => 0))), (a61, .inl (eC E 0, 24, .inl (fun _ => 0))), (a69, .inl (eC E 0, 24, .inl (fun _ => 0))), (a77, .inl (eC E 0, 40, .inl (fun _ => 0))), (a85, .inl (eC E 2, 78, .inl (letF 53)))]) := by rw [← letF_s (i := 52) (c := vp_nar .char 99) (by decide)]; exact hD
  refine lv_dup hx hb dX10_init_399 rfl ?_
  refine lv_bipush (v := 53) hx hb dX10_init_400 rfl ?_
  refine lv_bipush (v := 107) hx hb dX10_init_402 rfl ?_
  refine va_cast hx hb hK hP hD hS 9 2 rfl rfl (nI_in (c := 53) (N := 78) (by decide) (by decide)) dX10_init_404 (fun H locs hP hD hS => ?_)
  have hP : va_P (eD E) vwCl ([(b0, .inr (11, [.ref a8, .ref a17, .ref a26, .int 0, .ref a35, .int 0, .int (-1), .int (-1), .int 0, .ref a53, .int 0, .ref a61, .ref a69, .ref a77, .int 0, .null, .null, .null, .int 0, .int 0, .int 0, .int 0])), (a8, .inl (eC E 0, 361, .inl (fun _ => 0))), (a17, .inl (eC E 0, 361, .inl (fun _ => 0))), (a26, .inl (eC E 0, 361, .inl (fun _ => 0))), (a35, .inl (eC E 0, 2888, .inl (fun _ => 0))), (a53, .inl (eC E 0, 60, .inl (fun _ => 0))), (a61, .inl (eC E 0, 24, .inl (fun _ => 0))), (a69, .inl (eC E 0, 24, .inl (fun _ => 0))), (a77, .inl (eC E 0, 40, .inl (fun _ => 0))), (a85, .inl (eC E 2, 78, .inl (letF 54)))]) H := by rw [← letF_s (i := 53) (c := vp_nar .char 107) (by decide)]; exact hP
  have hD : va_D (fre b0 s.heap.size) ([(b0, .inr (11, [.ref a8, .ref a17, .ref a26, .int 0, .ref a35, .int 0, .int (-1), .int (-1), .int 0, .ref a53, .int 0, .ref a61, .ref a69, .ref a77, .int 0, .null, .null, .null, .int 0, .int 0, .int 0, .int 0])), (a8, .inl (eC E 0, 361, .inl (fun _ => 0))), (a17, .inl (eC E 0, 361, .inl (fun _ => 0))), (a26, .inl (eC E 0, 361, .inl (fun _ => 0))), (a35, .inl (eC E 0, 2888, .inl (fun _ => 0))), (a53, .inl (eC E 0, 60, .inl (fun _ => 0))), (a61, .inl (eC E 0, 24, .inl (fun _ => 0))), (a69, .inl (eC E 0, 24, .inl (fun _ => 0))), (a77, .inl (eC E 0, 40, .inl (fun _ => 0))), (a85, .inl (eC E 2, 78, .inl (letF 54)))]) := by rw [← letF_s (i := 53) (c := vp_nar .char 107) (by decide)]; exact hD
  refine lv_dup hx hb dX10_init_405 rfl ?_
  refine lv_bipush (v := 54) hx hb dX10_init_406 rfl ?_
  refine lv_bipush (v := 32) hx hb dX10_init_408 rfl ?_
  refine va_cast hx hb hK hP hD hS 9 2 rfl rfl (nI_in (c := 54) (N := 78) (by decide) (by decide)) dX10_init_410 (fun H locs hP hD hS => ?_)
  have hP : va_P (eD E) vwCl ([(b0, .inr (11, [.ref a8, .ref a17, .ref a26, .int 0, .ref a35, .int 0, .int (-1), .int (-1), .int 0, .ref a53, .int 0, .ref a61, .ref a69, .ref a77, .int 0, .null, .null, .null, .int 0, .int 0, .int 0, .int 0])), (a8, .inl (eC E 0, 361, .inl (fun _ => 0))), (a17, .inl (eC E 0, 361, .inl (fun _ => 0))), (a26, .inl (eC E 0, 361, .inl (fun _ => 0))), (a35, .inl (eC E 0, 2888, .inl (fun _ => 0))), (a53, .inl (eC E 0, 60, .inl (fun _ => 0))), (a61, .inl (eC E 0, 24, .inl (fun _ => 0))), (a69, .inl (eC E 0, 24, .inl (fun _ => 0))), (a77, .inl (eC E 0, 40, .inl (fun _ => 0))), (a85, .inl (eC E 2, 78, .inl (letF 55)))]) H := by rw [← letF_s (i := 54) (c := vp_nar .char 32) (by decide)]; exact hP
  have hD : va_D (fre b0 s.heap.size) ([(b0, .inr (11, [.ref a8, .ref a17, .ref a26, .int 0, .ref a35, .int 0, .int (-1), .int (-1), .int 0, .ref a53, .int 0, .ref a61, .ref a69, .ref a77, .int 0, .null, .null, .null, .int 0, .int 0, .int 0, .int 0])), (a8, .inl (eC E 0, 361, .inl (fun _ => 0))), (a17, .inl (eC E 0, 361, .inl (fun _ => 0))), (a26, .inl (eC E 0, 361, .inl (fun _ => 0))), (a35, .inl (eC E 0, 2888, .inl (fun _ => 0))), (a53, .inl (eC E 0, 60, .inl (fun _ => 0))), (a61, .inl (eC E 0, 24, .inl (fun _ => 0))), (a69, .inl (eC E 0, 24, .inl (fun _ => 0))), (a77, .inl (eC E 0, 40, .inl (fun _ => 0))), (a85, .inl (eC E 2, 78, .inl (letF 55)))]) := by rw [← letF_s (i := 54) (c := vp_nar .char 32) (by decide)]; exact hD
  refine lv_dup hx hb dX10_init_411 rfl ?_
  refine lv_bipush (v := 55) hx hb dX10_init_412 rfl ?_
  refine lv_bipush (v := 114) hx hb dX10_init_414 rfl ?_
  refine va_cast hx hb hK hP hD hS 9 2 rfl rfl (nI_in (c := 55) (N := 78) (by decide) (by decide)) dX10_init_416 (fun H locs hP hD hS => ?_)
  have hP : va_P (eD E) vwCl ([(b0, .inr (11, [.ref a8, .ref a17, .ref a26, .int 0, .ref a35, .int 0, .int (-1), .int (-1), .int 0, .ref a53, .int 0, .ref a61, .ref a69, .ref a77, .int 0, .null, .null, .null, .int 0, .int 0, .int 0, .int 0])), (a8, .inl (eC E 0, 361, .inl (fun _ => 0))), (a17, .inl (eC E 0, 361, .inl (fun _ => 0))), (a26, .inl (eC E 0, 361, .inl (fun _ => 0))), (a35, .inl (eC E 0, 2888, .inl (fun _ => 0))), (a53, .inl (eC E 0, 60, .inl (fun _ => 0))), (a61, .inl (eC E 0, 24, .inl (fun _ => 0))), (a69, .inl (eC E 0, 24, .inl (fun _ => 0))), (a77, .inl (eC E 0, 40, .inl (fun _ => 0))), (a85, .inl (eC E 2, 78, .inl (letF 56)))]) H := by rw [← letF_s (i := 55) (c := vp_nar .char 114) (by decide)]; exact hP
  have hD : va_D (fre b0 s.heap.size) ([(b0, .inr (11, [.ref a8, .ref a17, .ref a26, .int 0, .ref a35, .int 0, .int (-1), .int (-1), .int 0, .ref a53, .int 0, .ref a61, .ref a69, .ref a77, .int 0, .null, .null, .null, .int 0, .int 0, .int 0, .int 0])), (a8, .inl (eC E 0, 361, .inl (fun _ => 0))), (a17, .inl (eC E 0, 361, .inl (fun _ => 0))), (a26, .inl (eC E 0, 361, .inl (fun _ => 0))), (a35, .inl (eC E 0, 2888, .inl (fun _ => 0))), (a53, .inl (eC E 0, 60, .inl (fun _ => 0))), (a61, .inl (eC E 0, 24, .inl (fun _ => 0))), (a69, .inl (eC E 0, 24, .inl (fun _ => 0))), (a77, .inl (eC E 0, 40, .inl (fun _ => 0))), (a85, .inl (eC E 2, 78, .inl (letF 56)))]) := by rw [← letF_s (i := 55) (c := vp_nar .char 114) (by decide)]; exact hD
  refine lv_dup hx hb dX10_init_417 rfl ?_
  refine lv_bipush (v := 56) hx hb dX10_init_418 rfl ?_
  refine lv_bipush (v := 101) hx hb dX10_init_420 rfl ?_
  refine va_cast hx hb hK hP hD hS 9 2 rfl rfl (nI_in (c := 56) (N := 78) (by decide) (by decide)) dX10_init_422 (fun H locs hP hD hS => ?_)
  have hP : va_P (eD E) vwCl ([(b0, .inr (11, [.ref a8, .ref a17, .ref a26, .int 0, .ref a35, .int 0, .int (-1), .int (-1), .int 0, .ref a53, .int 0, .ref a61, .ref a69, .ref a77, .int 0, .null, .null, .null, .int 0, .int 0, .int 0, .int 0])), (a8, .inl (eC E 0, 361, .inl (fun _ => 0))), (a17, .inl (eC E 0, 361, .inl (fun _ => 0))), (a26, .inl (eC E 0, 361, .inl (fun _ => 0))), (a35, .inl (eC E 0, 2888, .inl (fun _ => 0))), (a53, .inl (eC E 0, 60, .inl (fun _ => 0))), (a61, .inl (eC E 0, 24, .inl (fun _ => 0))), (a69, .inl (eC E 0, 24, .inl (fun _ => 0))), (a77, .inl (eC E 0, 40, .inl (fun _ => 0))), (a85, .inl (eC E 2, 78, .inl (letF 57)))]) H := by rw [← letF_s (i := 56) (c := vp_nar .char 101) (by decide)]; exact hP
  have hD : va_D (fre b0 s.heap.size) ([(b0, .inr (11, [.ref a8, .ref a17, .ref a26, .int 0, .ref a35, .int 0, .int (-1), .int (-1), .int 0, .ref a53, .int 0, .ref a61, .ref a69, .ref a77, .int 0, .null, .null, .null, .int 0, .int 0, .int 0, .int 0])), (a8, .inl (eC E 0, 361, .inl (fun _ => 0))), (a17, .inl (eC E 0, 361, .inl (fun _ => 0))), (a26, .inl (eC E 0, 361, .inl (fun _ => 0))), (a35, .inl (eC E 0, 2888, .inl (fun _ => 0))), (a53, .inl (eC E 0, 60, .inl (fun _ => 0))), (a61, .inl (eC E 0, 24, .inl (fun _ => 0))), (a69, .inl (eC E 0, 24, .inl (fun _ => 0))), (a77, .inl (eC E 0, 40, .inl (fun _ => 0))), (a85, .inl (eC E 2, 78, .inl (letF 57)))]) := by rw [← letF_s (i := 56) (c := vp_nar .char 101) (by decide)]; exact hD
  refine lv_dup hx hb dX10_init_423 rfl ?_
  refine lv_bipush (v := 57) hx hb dX10_init_424 rfl ?_
  refine lv_bipush (v := 115) hx hb dX10_init_426 rfl ?_
  refine va_cast hx hb hK hP hD hS 9 2 rfl rfl (nI_in (c := 57) (N := 78) (by decide) (by decide)) dX10_init_428 (fun H locs hP hD hS => ?_)
  have hP : va_P (eD E) vwCl ([(b0, .inr (11, [.ref a8, .ref a17, .ref a26, .int 0, .ref a35, .int 0, .int (-1), .int (-1), .int 0, .ref a53, .int 0, .ref a61, .ref a69, .ref a77, .int 0, .null, .null, .null, .int 0, .int 0, .int 0, .int 0])), (a8, .inl (eC E 0, 361, .inl (fun _ => 0))), (a17, .inl (eC E 0, 361, .inl (fun _ => 0))), (a26, .inl (eC E 0, 361, .inl (fun _ => 0))), (a35, .inl (eC E 0, 2888, .inl (fun _ => 0))), (a53, .inl (eC E 0, 60, .inl (fun _ => 0))), (a61, .inl (eC E 0, 24, .inl (fun _ => 0))), (a69, .inl (eC E 0, 24, .inl (fun _ => 0))), (a77, .inl (eC E 0, 40, .inl (fun _ => 0))), (a85, .inl (eC E 2, 78, .inl (letF 58)))]) H := by rw [← letF_s (i := 57) (c := vp_nar .char 115) (by decide)]; exact hP
  have hD : va_D (fre b0 s.heap.size) ([(b0, .inr (11, [.ref a8, .ref a17, .ref a26, .int 0, .ref a35, .int 0, .int (-1), .int (-1), .int 0, .ref a53, .int 0, .ref a61, .ref a69, .ref a77, .int 0, .null, .null, .null, .int 0, .int 0, .int 0, .int 0])), (a8, .inl (eC E 0, 361, .inl (fun _ => 0))), (a17, .inl (eC E 0, 361, .inl (fun _ => 0))), (a26, .inl (eC E 0, 361, .inl (fun _ => 0))), (a35, .inl (eC E 0, 2888, .inl (fun _ => 0))), (a53, .inl (eC E 0, 60, .inl (fun _ => 0))), (a61, .inl (eC E 0, 24, .inl (fun _ => 0))), (a69, .inl (eC E 0, 24, .inl (fun _ => 0))), (a77, .inl (eC E 0, 40, .inl (fun _ => 0))), (a85, .inl (eC E 2, 78, .inl (letF 58)))]) := by rw [← letF_s (i := 57) (c := vp_nar .char 115) (by decide)]; exact hD
  refine lv_dup hx hb dX10_init_429 rfl ?_
  refine lv_bipush (v := 58) hx hb dX10_init_430 rfl ?_
  refine lv_bipush (v := 101) hx hb dX10_init_432 rfl ?_
  refine va_cast hx hb hK hP hD hS 9 2 rfl rfl (nI_in (c := 58) (N := 78) (by decide) (by decide)) dX10_init_434 (fun H locs hP hD hS => ?_)
  have hP : va_P (eD E) vwCl ([(b0, .inr (11, [.ref a8, .ref a17, .ref a26, .int 0, .ref a35, .int 0, .int (-1), .int (-1), .int 0, .ref a53, .int 0, .ref a61, .ref a69, .ref a77, .int 0, .null, .null, .null, .int 0, .int 0, .int 0, .int 0])), (a8, .inl (eC E 0, 361, .inl (fun _ => 0))), (a17, .inl (eC E 0, 361, .inl (fun _ => 0))), (a26, .inl (eC E 0, 361, .inl (fun _ => 0))), (a35, .inl (eC E 0, 2888, .inl (fun _ => 0))), (a53, .inl (eC E 0, 60, .inl (fun _ => 0))), (a61, .inl (eC E 0, 24, .inl (fun _ => 0))), (a69, .inl (eC E 0, 24, .inl (fun _ => 0))), (a77, .inl (eC E 0, 40, .inl (fun _ => 0))), (a85, .inl (eC E 2, 78, .inl (letF 59)))]) H := by rw [← letF_s (i := 58) (c := vp_nar .char 101) (by decide)]; exact hP
  have hD : va_D (fre b0 s.heap.size) ([(b0, .inr (11, [.ref a8, .ref a17, .ref a26, .int 0, .ref a35, .int 0, .int (-1), .int (-1), .int 0, .ref a53, .int 0, .ref a61, .ref a69, .ref a77, .int 0, .null, .null, .null, .int 0, .int 0, .int 0, .int 0])), (a8, .inl (eC E 0, 361, .inl (fun _ => 0))), (a17, .inl (eC E 0, 361, .inl (fun _ => 0))), (a26, .inl (eC E 0, 361, .inl (fun _ => 0))), (a35, .inl (eC E 0, 2888, .inl (fun _ => 0))), (a53, .inl (eC E 0, 60, .inl (fun _ => 0))), (a61, .inl (eC E 0, 24, .inl (fun _ => 0))), (a69, .inl (eC E 0, 24, .inl (fun _ => 0))), (a77, .inl (eC E 0, 40, .inl (fun _ => 0))), (a85, .inl (eC E 2, 78, .inl (letF 59)))]) := by rw [← letF_s (i := 58) (c := vp_nar .char 101) (by decide)]; exact hD
  refine lv_dup hx hb dX10_init_435 rfl ?_
  refine lv_bipush (v := 59) hx hb dX10_init_436 rfl ?_
  refine lv_bipush (v := 116) hx hb dX10_init_438 rfl ?_
  refine va_cast hx hb hK hP hD hS 9 2 rfl rfl (nI_in (c := 59) (N := 78) (by decide) (by decide)) dX10_init_440 (fun H locs hP hD hS => ?_)
  have hP : va_P (eD E) vwCl ([(b0, .inr (11, [.ref a8, .ref a17, .ref a26, .int 0, .ref a35, .int 0, .int (-1), .int (-1), .int 0, .ref a53, .int 0, .ref a61, .ref a69, .ref a77, .int 0, .null, .null, .null, .int 0, .int 0, .int 0, .int 0])), (a8, .inl (eC E 0, 361, .inl (fun _ => 0))), (a17, .inl (eC E 0, 361, .inl (fun _ => 0))), (a26, .inl (eC E 0, 361, .inl (fun _ => 0))), (a35, .inl (eC E 0, 2888, .inl (fun _ => 0))), (a53, .inl (eC E 0, 60, .inl (fun _ => 0))), (a61, .inl (eC E 0, 24, .inl (fun _ => 0))), (a69, .inl (eC E 0, 24, .inl (fun _ => 0))), (a77, .inl (eC E 0, 40, .inl (fun _ => 0))), (a85, .inl (eC E 2, 78, .inl (letF 60)))]) H := by rw [← letF_s (i := 59) (c := vp_nar .char 116) (by decide)]; exact hP
  have hD : va_D (fre b0 s.heap.size) ([(b0, .inr (11, [.ref a8, .ref a17, .ref a26, .int 0, .ref a35, .int 0, .int (-1), .int (-1), .int 0, .ref a53, .int 0, .ref a61, .ref a69, .ref a77, .int 0, .null, .null, .null, .int 0, .int 0, .int 0, .int 0])), (a8, .inl (eC E 0, 361, .inl (fun _ => 0))), (a17, .inl (eC E 0, 361, .inl (fun _ => 0))), (a26, .inl (eC E 0, 361, .inl (fun _ => 0))), (a35, .inl (eC E 0, 2888, .inl (fun _ => 0))), (a53, .inl (eC E 0, 60, .inl (fun _ => 0))), (a61, .inl (eC E 0, 24, .inl (fun _ => 0))), (a69, .inl (eC E 0, 24, .inl (fun _ => 0))), (a77, .inl (eC E 0, 40, .inl (fun _ => 0))), (a85, .inl (eC E 2, 78, .inl (letF 60)))]) := by rw [← letF_s (i := 59) (c := vp_nar .char 116) (by decide)]; exact hD
  refine lv_dup hx hb dX10_init_441 rfl ?_
  refine lv_bipush (v := 60) hx hb dX10_init_442 rfl ?_
  refine lv_bipush (v := 32) hx hb dX10_init_444 rfl ?_
  refine va_cast hx hb hK hP hD hS 9 2 rfl rfl (nI_in (c := 60) (N := 78) (by decide) (by decide)) dX10_init_446 (fun H locs hP hD hS => ?_)
  have hP : va_P (eD E) vwCl ([(b0, .inr (11, [.ref a8, .ref a17, .ref a26, .int 0, .ref a35, .int 0, .int (-1), .int (-1), .int 0, .ref a53, .int 0, .ref a61, .ref a69, .ref a77, .int 0, .null, .null, .null, .int 0, .int 0, .int 0, .int 0])), (a8, .inl (eC E 0, 361, .inl (fun _ => 0))), (a17, .inl (eC E 0, 361, .inl (fun _ => 0))), (a26, .inl (eC E 0, 361, .inl (fun _ => 0))), (a35, .inl (eC E 0, 2888, .inl (fun _ => 0))), (a53, .inl (eC E 0, 60, .inl (fun _ => 0))), (a61, .inl (eC E 0, 24, .inl (fun _ => 0))), (a69, .inl (eC E 0, 24, .inl (fun _ => 0))), (a77, .inl (eC E 0, 40, .inl (fun _ => 0))), (a85, .inl (eC E 2, 78, .inl (letF 61)))]) H := by rw [← letF_s (i := 60) (c := vp_nar .char 32) (by decide)]; exact hP
  have hD : va_D (fre b0 s.heap.size) ([(b0, .inr (11, [.ref a8, .ref a17, .ref a26, .int 0, .ref a35, .int 0, .int (-1), .int (-1), .int 0, .ref a53, .int 0, .ref a61, .ref a69, .ref a77, .int 0, .null, .null, .null, .int 0, .int 0, .int 0, .int 0])), (a8, .inl (eC E 0, 361, .inl (fun _ => 0))), (a17, .inl (eC E 0, 361, .inl (fun _ => 0))), (a26, .inl (eC E 0, 361, .inl (fun _ => 0))), (a35, .inl (eC E 0, 2888, .inl (fun _ => 0))), (a53, .inl (eC E 0, 60, .inl (fun _ => 0))), (a61, .inl (eC E 0, 24, .inl (fun _ => 0))), (a69, .inl (eC E 0, 24, .inl (fun _ => 0))), (a77, .inl (eC E 0, 40, .inl (fun _ => 0))), (a85, .inl (eC E 2, 78, .inl (letF 61)))]) := by rw [← letF_s (i := 60) (c := vp_nar .char 32) (by decide)]; exact hD
  refine lv_dup hx hb dX10_init_447 rfl ?_
  refine lv_bipush (v := 61) hx hb dX10_init_448 rfl ?_
  refine lv_bipush (v := 116) hx hb dX10_init_450 rfl ?_
  refine va_cast hx hb hK hP hD hS 9 2 rfl rfl (nI_in (c := 61) (N := 78) (by decide) (by decide)) dX10_init_452 (fun H locs hP hD hS => ?_)
  have hP : va_P (eD E) vwCl ([(b0, .inr (11, [.ref a8, .ref a17, .ref a26, .int 0, .ref a35, .int 0, .int (-1), .int (-1), .int 0, .ref a53, .int 0, .ref a61, .ref a69, .ref a77, .int 0, .null, .null, .null, .int 0, .int 0, .int 0, .int 0])), (a8, .inl (eC E 0, 361, .inl (fun _ => 0))), (a17, .inl (eC E 0, 361, .inl (fun _ => 0))), (a26, .inl (eC E 0, 361, .inl (fun _ => 0))), (a35, .inl (eC E 0, 2888, .inl (fun _ => 0))), (a53, .inl (eC E 0, 60, .inl (fun _ => 0))), (a61, .inl (eC E 0, 24, .inl (fun _ => 0))), (a69, .inl (eC E 0, 24, .inl (fun _ => 0))), (a77, .inl (eC E 0, 40, .inl (fun _ => 0))), (a85, .inl (eC E 2, 78, .inl (letF 62)))]) H := by rw [← letF_s (i := 61) (c := vp_nar .char 116) (by decide)]; exact hP
  have hD : va_D (fre b0 s.heap.size) ([(b0, .inr (11, [.ref a8, .ref a17, .ref a26, .int 0, .ref a35, .int 0, .int (-1), .int (-1), .int 0, .ref a53, .int 0, .ref a61, .ref a69, .ref a77, .int 0, .null, .null, .null, .int 0, .int 0, .int 0, .int 0])), (a8, .inl (eC E 0, 361, .inl (fun _ => 0))), (a17, .inl (eC E 0, 361, .inl (fun _ => 0))), (a26, .inl (eC E 0, 361, .inl (fun _ => 0))), (a35, .inl (eC E 0, 2888, .inl (fun _ => 0))), (a53, .inl (eC E 0, 60, .inl (fun _ => 0))), (a61, .inl (eC E 0, 24, .inl (fun _ => 0))), (a69, .inl (eC E 0, 24, .inl (fun _ => 0))), (a77, .inl (eC E 0, 40, .inl (fun _ => 0))), (a85, .inl (eC E 2, 78, .inl (letF 62)))]) := by rw [← letF_s (i := 61) (c := vp_nar .char 116) (by decide)]; exact hD
  refine lv_dup hx hb dX10_init_453 rfl ?_
  refine lv_bipush (v := 62) hx hb dX10_init_454 rfl ?_
  refine lv_bipush (v := 97) hx hb dX10_init_456 rfl ?_
  refine va_cast hx hb hK hP hD hS 9 2 rfl rfl (nI_in (c := 62) (N := 78) (by decide) (by decide)) dX10_init_458 (fun H locs hP hD hS => ?_)
  have hP : va_P (eD E) vwCl ([(b0, .inr (11, [.ref a8, .ref a17, .ref a26, .int 0, .ref a35, .int 0, .int (-1), .int (-1), .int 0, .ref a53, .int 0, .ref a61, .ref a69, .ref a77, .int 0, .null, .null, .null, .int 0, .int 0, .int 0, .int 0])), (a8, .inl (eC E 0, 361, .inl (fun _ => 0))), (a17, .inl (eC E 0, 361, .inl (fun _ => 0))), (a26, .inl (eC E 0, 361, .inl (fun _ => 0))), (a35, .inl (eC E 0, 2888, .inl (fun _ => 0))), (a53, .inl (eC E 0, 60, .inl (fun _ => 0))), (a61, .inl (eC E 0, 24, .inl (fun _ => 0))), (a69, .inl (eC E 0, 24, .inl (fun _ => 0))), (a77, .inl (eC E 0, 40, .inl (fun _ => 0))), (a85, .inl (eC E 2, 78, .inl (letF 63)))]) H := by rw [← letF_s (i := 62) (c := vp_nar .char 97) (by decide)]; exact hP
  have hD : va_D (fre b0 s.heap.size) ([(b0, .inr (11, [.ref a8, .ref a17, .ref a26, .int 0, .ref a35, .int 0, .int (-1), .int (-1), .int 0, .ref a53, .int 0, .ref a61, .ref a69, .ref a77, .int 0, .null, .null, .null, .int 0, .int 0, .int 0, .int 0])), (a8, .inl (eC E 0, 361, .inl (fun _ => 0))), (a17, .inl (eC E 0, 361, .inl (fun _ => 0))), (a26, .inl (eC E 0, 361, .inl (fun _ => 0))), (a35, .inl (eC E 0, 2888, .inl (fun _ => 0))), (a53, .inl (eC E 0, 60, .inl (fun _ => 0))), (a61, .inl (eC E 0, 24, .inl (fun _ => 0))), (a69, .inl (eC E 0, 24, .inl (fun _ => 0))), (a77, .inl (eC E 0, 40, .inl (fun _ => 0))), (a85, .inl (eC E 2, 78, .inl (letF 63)))]) := by rw [← letF_s (i := 62) (c := vp_nar .char 97) (by decide)]; exact hD
  refine lv_dup hx hb dX10_init_459 rfl ?_
  refine lv_bipush (v := 63) hx hb dX10_init_460 rfl ?_
  refine lv_bipush (v := 103) hx hb dX10_init_462 rfl ?_
  refine va_cast hx hb hK hP hD hS 9 2 rfl rfl (nI_in (c := 63) (N := 78) (by decide) (by decide)) dX10_init_464 (fun H locs hP hD hS => ?_)
  have hP : va_P (eD E) vwCl ([(b0, .inr (11, [.ref a8, .ref a17, .ref a26, .int 0, .ref a35, .int 0, .int (-1), .int (-1), .int 0, .ref a53, .int 0, .ref a61, .ref a69, .ref a77, .int 0, .null, .null, .null, .int 0, .int 0, .int 0, .int 0])), (a8, .inl (eC E 0, 361, .inl (fun _ => 0))), (a17, .inl (eC E 0, 361, .inl (fun _ => 0))), (a26, .inl (eC E 0, 361, .inl (fun _ => 0))), (a35, .inl (eC E 0, 2888, .inl (fun _ => 0))), (a53, .inl (eC E 0, 60, .inl (fun _ => 0))), (a61, .inl (eC E 0, 24, .inl (fun _ => 0))), (a69, .inl (eC E 0, 24, .inl (fun _ => 0))), (a77, .inl (eC E 0, 40, .inl (fun _ => 0))), (a85, .inl (eC E 2, 78, .inl (letF 64)))]) H := by rw [← letF_s (i := 63) (c := vp_nar .char 103) (by decide)]; exact hP
  have hD : va_D (fre b0 s.heap.size) ([(b0, .inr (11, [.ref a8, .ref a17, .ref a26, .int 0, .ref a35, .int 0, .int (-1), .int (-1), .int 0, .ref a53, .int 0, .ref a61, .ref a69, .ref a77, .int 0, .null, .null, .null, .int 0, .int 0, .int 0, .int 0])), (a8, .inl (eC E 0, 361, .inl (fun _ => 0))), (a17, .inl (eC E 0, 361, .inl (fun _ => 0))), (a26, .inl (eC E 0, 361, .inl (fun _ => 0))), (a35, .inl (eC E 0, 2888, .inl (fun _ => 0))), (a53, .inl (eC E 0, 60, .inl (fun _ => 0))), (a61, .inl (eC E 0, 24, .inl (fun _ => 0))), (a69, .inl (eC E 0, 24, .inl (fun _ => 0))), (a77, .inl (eC E 0, 40, .inl (fun _ => 0))), (a85, .inl (eC E 2, 78, .inl (letF 64)))]) := by rw [← letF_s (i := 63) (c := vp_nar .char 103) (by decide)]; exact hD
  refine lv_dup hx hb dX10_init_465 rfl ?_
  refine lv_bipush (v := 64) hx hb dX10_init_466 rfl ?_
  refine lv_bipush (v := 32) hx hb dX10_init_468 rfl ?_
  refine va_cast hx hb hK hP hD hS 9 2 rfl rfl (nI_in (c := 64) (N := 78) (by decide) (by decide)) dX10_init_470 (fun H locs hP hD hS => ?_)
  have hP : va_P (eD E) vwCl ([(b0, .inr (11, [.ref a8, .ref a17, .ref a26, .int 0, .ref a35, .int 0, .int (-1), .int (-1), .int 0, .ref a53, .int 0, .ref a61, .ref a69, .ref a77, .int 0, .null, .null, .null, .int 0, .int 0, .int 0, .int 0])), (a8, .inl (eC E 0, 361, .inl (fun _ => 0))), (a17, .inl (eC E 0, 361, .inl (fun _ => 0))), (a26, .inl (eC E 0, 361, .inl (fun _ => 0))), (a35, .inl (eC E 0, 2888, .inl (fun _ => 0))), (a53, .inl (eC E 0, 60, .inl (fun _ => 0))), (a61, .inl (eC E 0, 24, .inl (fun _ => 0))), (a69, .inl (eC E 0, 24, .inl (fun _ => 0))), (a77, .inl (eC E 0, 40, .inl (fun _ => 0))), (a85, .inl (eC E 2, 78, .inl (letF 65)))]) H := by rw [← letF_s (i := 64) (c := vp_nar .char 32) (by decide)]; exact hP
  have hD : va_D (fre b0 s.heap.size) ([(b0, .inr (11, [.ref a8, .ref a17, .ref a26, .int 0, .ref a35, .int 0, .int (-1), .int (-1), .int 0, .ref a53, .int 0, .ref a61, .ref a69, .ref a77, .int 0, .null, .null, .null, .int 0, .int 0, .int 0, .int 0])), (a8, .inl (eC E 0, 361, .inl (fun _ => 0))), (a17, .inl (eC E 0, 361, .inl (fun _ => 0))), (a26, .inl (eC E 0, 361, .inl (fun _ => 0))), (a35, .inl (eC E 0, 2888, .inl (fun _ => 0))), (a53, .inl (eC E 0, 60, .inl (fun _ => 0))), (a61, .inl (eC E 0, 24, .inl (fun _ => 0))), (a69, .inl (eC E 0, 24, .inl (fun _ => 0))), (a77, .inl (eC E 0, 40, .inl (fun _ => 0))), (a85, .inl (eC E 2, 78, .inl (letF 65)))]) := by rw [← letF_s (i := 64) (c := vp_nar .char 32) (by decide)]; exact hD
  refine lv_dup hx hb dX10_init_471 rfl ?_
  refine lv_bipush (v := 65) hx hb dX10_init_472 rfl ?_
  refine lv_bipush (v := 117) hx hb dX10_init_474 rfl ?_
  refine va_cast hx hb hK hP hD hS 9 2 rfl rfl (nI_in (c := 65) (N := 78) (by decide) (by decide)) dX10_init_476 (fun H locs hP hD hS => ?_)
  have hP : va_P (eD E) vwCl ([(b0, .inr (11, [.ref a8, .ref a17, .ref a26, .int 0, .ref a35, .int 0, .int (-1), .int (-1), .int 0, .ref a53, .int 0, .ref a61, .ref a69, .ref a77, .int 0, .null, .null, .null, .int 0, .int 0, .int 0, .int 0])), (a8, .inl (eC E 0, 361, .inl (fun _ => 0))), (a17, .inl (eC E 0, 361, .inl (fun _ => 0))), (a26, .inl (eC E 0, 361, .inl (fun _ => 0))), (a35, .inl (eC E 0, 2888, .inl (fun _ => 0))), (a53, .inl (eC E 0, 60, .inl (fun _ => 0))), (a61, .inl (eC E 0, 24, .inl (fun _ => 0))), (a69, .inl (eC E 0, 24, .inl (fun _ => 0))), (a77, .inl (eC E 0, 40, .inl (fun _ => 0))), (a85, .inl (eC E 2, 78, .inl (letF 66)))]) H := by rw [← letF_s (i := 65) (c := vp_nar .char 117) (by decide)]; exact hP
  have hD : va_D (fre b0 s.heap.size) ([(b0, .inr (11, [.ref a8, .ref a17, .ref a26, .int 0, .ref a35, .int 0, .int (-1), .int (-1), .int 0, .ref a53, .int 0, .ref a61, .ref a69, .ref a77, .int 0, .null, .null, .null, .int 0, .int 0, .int 0, .int 0])), (a8, .inl (eC E 0, 361, .inl (fun _ => 0))), (a17, .inl (eC E 0, 361, .inl (fun _ => 0))), (a26, .inl (eC E 0, 361, .inl (fun _ => 0))), (a35, .inl (eC E 0, 2888, .inl (fun _ => 0))), (a53, .inl (eC E 0, 60, .inl (fun _ => 0))), (a61, .inl (eC E 0, 24, .inl (fun _ => 0))), (a69, .inl (eC E 0, 24, .inl (fun _ => 0))), (a77, .inl (eC E 0, 40, .inl (fun _ => 0))), (a85, .inl (eC E 2, 78, .inl (letF 66)))]) := by rw [← letF_s (i := 65) (c := vp_nar .char 117) (by decide)]; exact hD
  refine lv_dup hx hb dX10_init_477 rfl ?_
  refine lv_bipush (v := 66) hx hb dX10_init_478 rfl ?_
  refine lv_bipush (v := 110) hx hb dX10_init_480 rfl ?_
  refine va_cast hx hb hK hP hD hS 9 2 rfl rfl (nI_in (c := 66) (N := 78) (by decide) (by decide)) dX10_init_482 (fun H locs hP hD hS => ?_)
  have hP : va_P (eD E) vwCl ([(b0, .inr (11, [.ref a8, .ref a17, .ref a26, .int 0, .ref a35, .int 0, .int (-1), .int (-1), .int 0, .ref a53, .int 0, .ref a61, .ref a69, .ref a77, .int 0, .null, .null, .null, .int 0, .int 0, .int 0, .int 0])), (a8, .inl (eC E 0, 361, .inl (fun _ => 0))), (a17, .inl (eC E 0, 361, .inl (fun _ => 0))), (a26, .inl (eC E 0, 361, .inl (fun _ => 0))), (a35, .inl (eC E 0, 2888, .inl (fun _ => 0))), (a53, .inl (eC E 0, 60, .inl (fun _ => 0))), (a61, .inl (eC E 0, 24, .inl (fun _ => 0))), (a69, .inl (eC E 0, 24, .inl (fun _ => 0))), (a77, .inl (eC E 0, 40, .inl (fun _ => 0))), (a85, .inl (eC E 2, 78, .inl (letF 67)))]) H := by rw [← letF_s (i := 66) (c := vp_nar .char 110) (by decide)]; exact hP
  have hD : va_D (fre b0 s.heap.size) ([(b0, .inr (11, [.ref a8, .ref a17, .ref a26, .int 0, .ref a35, .int 0, .int (-1), .int (-1), .int 0, .ref a53, .int 0, .ref a61, .ref a69, .ref a77, .int 0, .null, .null, .null, .int 0, .int 0, .int 0, .int 0])), (a8, .inl (eC E 0, 361, .inl (fun _ => 0))), (a17, .inl (eC E 0, 361, .inl (fun _ => 0))), (a26, .inl (eC E 0, 361, .inl (fun _ => 0))), (a35, .inl (eC E 0, 2888, .inl (fun _ => 0))), (a53, .inl (eC E 0, 60, .inl (fun _ => 0))), (a61, .inl (eC E 0, 24, .inl (fun _ => 0))), (a69, .inl (eC E 0, 24, .inl (fun _ => 0))), (a77, .inl (eC E 0, 40, .inl (fun _ => 0))), (a85, .inl (eC E 2, 78, .inl (letF 67)))]) := by rw [← letF_s (i := 66) (c := vp_nar .char 110) (by decide)]; exact hD
  refine lv_dup hx hb dX10_init_483 rfl ?_
  refine lv_bipush (v := 67) hx hb dX10_init_484 rfl ?_
  refine lv_bipush (v := 116) hx hb dX10_init_486 rfl ?_
  refine va_cast hx hb hK hP hD hS 9 2 rfl rfl (nI_in (c := 67) (N := 78) (by decide) (by decide)) dX10_init_488 (fun H locs hP hD hS => ?_)
  have hP : va_P (eD E) vwCl ([(b0, .inr (11, [.ref a8, .ref a17, .ref a26, .int 0, .ref a35, .int 0, .int (-1), .int (-1), .int 0, .ref a53, .int 0, .ref a61, .ref a69, .ref a77, .int 0, .null, .null, .null, .int 0, .int 0, .int 0, .int 0])), (a8, .inl (eC E 0, 361, .inl (fun _ => 0))), (a17, .inl (eC E 0, 361, .inl (fun _ => 0))), (a26, .inl (eC E 0, 361, .inl (fun _ => 0))), (a35, .inl (eC E 0, 2888, .inl (fun _ => 0))), (a53, .inl (eC E 0, 60, .inl (fun _ => 0))), (a61, .inl (eC E 0, 24, .inl (fun _ => 0))), (a69, .inl (eC E 0, 24, .inl (fun _ => 0))), (a77, .inl (eC E 0, 40, .inl (fun _ => 0))), (a85, .inl (eC E 2, 78, .inl (letF 68)))]) H := by rw [← letF_s (i := 67) (c := vp_nar .char 116) (by decide)]; exact hP
  have hD : va_D (fre b0 s.heap.size) ([(b0, .inr (11, [.ref a8, .ref a17, .ref a26, .int 0, .ref a35, .int 0, .int (-1), .int (-1), .int 0, .ref a53, .int 0, .ref a61, .ref a69, .ref a77, .int 0, .null, .null, .null, .int 0, .int 0, .int 0, .int 0])), (a8, .inl (eC E 0, 361, .inl (fun _ => 0))), (a17, .inl (eC E 0, 361, .inl (fun _ => 0))), (a26, .inl (eC E 0, 361, .inl (fun _ => 0))), (a35, .inl (eC E 0, 2888, .inl (fun _ => 0))), (a53, .inl (eC E 0, 60, .inl (fun _ => 0))), (a61, .inl (eC E 0, 24, .inl (fun _ => 0))), (a69, .inl (eC E 0, 24, .inl (fun _ => 0))), (a77, .inl (eC E 0, 40, .inl (fun _ => 0))), (a85, .inl (eC E 2, 78, .inl (letF 68)))]) := by rw [← letF_s (i := 67) (c := vp_nar .char 116) (by decide)]; exact hD
  refine lv_dup hx hb dX10_init_489 rfl ?_
  refine lv_bipush (v := 68) hx hb dX10_init_490 rfl ?_
  refine lv_bipush (v := 97) hx hb dX10_init_492 rfl ?_
  refine va_cast hx hb hK hP hD hS 9 2 rfl rfl (nI_in (c := 68) (N := 78) (by decide) (by decide)) dX10_init_494 (fun H locs hP hD hS => ?_)
  have hP : va_P (eD E) vwCl ([(b0, .inr (11, [.ref a8, .ref a17, .ref a26, .int 0, .ref a35, .int 0, .int (-1), .int (-1), .int 0, .ref a53, .int 0, .ref a61, .ref a69, .ref a77, .int 0, .null, .null, .null, .int 0, .int 0, .int 0, .int 0])), (a8, .inl (eC E 0, 361, .inl (fun _ => 0))), (a17, .inl (eC E 0, 361, .inl (fun _ => 0))), (a26, .inl (eC E 0, 361, .inl (fun _ => 0))), (a35, .inl (eC E 0, 2888, .inl (fun _ => 0))), (a53, .inl (eC E 0, 60, .inl (fun _ => 0))), (a61, .inl (eC E 0, 24, .inl (fun _ => 0))), (a69, .inl (eC E 0, 24, .inl (fun _ => 0))), (a77, .inl (eC E 0, 40, .inl (fun _ => 0))), (a85, .inl (eC E 2, 78, .inl (letF 69)))]) H := by rw [← letF_s (i := 68) (c := vp_nar .char 97) (by decide)]; exact hP
  have hD : va_D (fre b0 s.heap.size) ([(b0, .inr (11, [.ref a8, .ref a17, .ref a26, .int 0, .ref a35, .int 0, .int (-1), .int (-1), .int 0, .ref a53, .int 0, .ref a61, .ref a69, .ref a77, .int 0, .null, .null, .null, .int 0, .int 0, .int 0, .int 0])), (a8, .inl (eC E 0, 361, .inl (fun _ => 0))), (a17, .inl (eC E 0, 361, .inl (fun _ => 0))), (a26, .inl (eC E 0, 361, .inl (fun _ => 0))), (a35, .inl (eC E 0, 2888, .inl (fun _ => 0))), (a53, .inl (eC E 0, 60, .inl (fun _ => 0))), (a61, .inl (eC E 0, 24, .inl (fun _ => 0))), (a69, .inl (eC E 0, 24, .inl (fun _ => 0))), (a77, .inl (eC E 0, 40, .inl (fun _ => 0))), (a85, .inl (eC E 2, 78, .inl (letF 69)))]) := by rw [← letF_s (i := 68) (c := vp_nar .char 97) (by decide)]; exact hD
  refine lv_dup hx hb dX10_init_495 rfl ?_
  refine lv_bipush (v := 69) hx hb dX10_init_496 rfl ?_
  refine lv_bipush (v := 103) hx hb dX10_init_498 rfl ?_
  refine va_cast hx hb hK hP hD hS 9 2 rfl rfl (nI_in (c := 69) (N := 78) (by decide) (by decide)) dX10_init_500 (fun H locs hP hD hS => ?_)
  have hP : va_P (eD E) vwCl ([(b0, .inr (11, [.ref a8, .ref a17, .ref a26, .int 0, .ref a35, .int 0, .int (-1), .int (-1), .int 0, .ref a53, .int 0, .ref a61, .ref a69, .ref a77, .int 0, .null, .null, .null, .int 0, .int 0, .int 0, .int 0])), (a8, .inl (eC E 0, 361, .inl (fun _ => 0))), (a17, .inl (eC E 0, 361, .inl (fun _ => 0))), (a26, .inl (eC E 0, 361, .inl (fun _ => 0))), (a35, .inl (eC E 0, 2888, .inl (fun _ => 0))), (a53, .inl (eC E 0, 60, .inl (fun _ => 0))), (a61, .inl (eC E 0, 24, .inl (fun _ => 0))), (a69, .inl (eC E 0, 24, .inl (fun _ => 0))), (a77, .inl (eC E 0, 40, .inl (fun _ => 0))), (a85, .inl (eC E 2, 78, .inl (letF 70)))]) H := by rw [← letF_s (i := 69) (c := vp_nar .char 103) (by decide)]; exact hP
  have hD : va_D (fre b0 s.heap.size) ([(b0, .inr (11, [.ref a8, .ref a17, .ref a26, .int 0, .ref a35, .int 0, .int (-1), .int (-1), .int 0, .ref a53, .int 0, .ref a61, .ref a69, .ref a77, .int 0, .null, .null, .null, .int 0, .int 0, .int 0, .int 0])), (a8, .inl (eC E 0, 361, .inl (fun _ => 0))), (a17, .inl (eC E 0, 361, .inl (fun _ => 0))), (a26, .inl (eC E 0, 361, .inl (fun _ => 0))), (a35, .inl (eC E 0, 2888, .inl (fun _ => 0))), (a53, .inl (eC E 0, 60, .inl (fun _ => 0))), (a61, .inl (eC E 0, 24, .inl (fun _ => 0))), (a69, .inl (eC E 0, 24, .inl (fun _ => 0))), (a77, .inl (eC E 0, 40, .inl (fun _ => 0))), (a85, .inl (eC E 2, 78, .inl (letF 70)))]) := by rw [← letF_s (i := 69) (c := vp_nar .char 103) (by decide)]; exact hD
  refine lv_dup hx hb dX10_init_501 rfl ?_
  refine lv_bipush (v := 70) hx hb dX10_init_502 rfl ?_
  refine lv_bipush (v := 32) hx hb dX10_init_504 rfl ?_
  refine va_cast hx hb hK hP hD hS 9 2 rfl rfl (nI_in (c := 70) (N := 78) (by decide) (by decide)) dX10_init_506 (fun H locs hP hD hS => ?_)
  have hP : va_P (eD E) vwCl ([(b0, .inr (11, [.ref a8, .ref a17, .ref a26, .int 0, .ref a35, .int 0, .int (-1), .int (-1), .int 0, .ref a53, .int 0, .ref a61, .ref a69, .ref a77, .int 0, .null, .null, .null, .int 0, .int 0, .int 0, .int 0])), (a8, .inl (eC E 0, 361, .inl (fun _ => 0))), (a17, .inl (eC E 0, 361, .inl (fun _ => 0))), (a26, .inl (eC E 0, 361, .inl (fun _ => 0))), (a35, .inl (eC E 0, 2888, .inl (fun _ => 0))), (a53, .inl (eC E 0, 60, .inl (fun _ => 0))), (a61, .inl (eC E 0, 24, .inl (fun _ => 0))), (a69, .inl (eC E 0, 24, .inl (fun _ => 0))), (a77, .inl (eC E 0, 40, .inl (fun _ => 0))), (a85, .inl (eC E 2, 78, .inl (letF 71)))]) H := by rw [← letF_s (i := 70) (c := vp_nar .char 32) (by decide)]; exact hP
  have hD : va_D (fre b0 s.heap.size) ([(b0, .inr (11, [.ref a8, .ref a17, .ref a26, .int 0, .ref a35, .int 0, .int (-1), .int (-1), .int 0, .ref a53, .int 0, .ref a61, .ref a69, .ref a77, .int 0, .null, .null, .null, .int 0, .int 0, .int 0, .int 0])), (a8, .inl (eC E 0, 361, .inl (fun _ => 0))), (a17, .inl (eC E 0, 361, .inl (fun _ => 0))), (a26, .inl (eC E 0, 361, .inl (fun _ => 0))), (a35, .inl (eC E 0, 2888, .inl (fun _ => 0))), (a53, .inl (eC E 0, 60, .inl (fun _ => 0))), (a61, .inl (eC E 0, 24, .inl (fun _ => 0))), (a69, .inl (eC E 0, 24, .inl (fun _ => 0))), (a77, .inl (eC E 0, 40, .inl (fun _ => 0))), (a85, .inl (eC E 2, 78, .inl (letF 71)))]) := by rw [← letF_s (i := 70) (c := vp_nar .char 32) (by decide)]; exact hD
  refine lv_dup hx hb dX10_init_507 rfl ?_
  refine lv_bipush (v := 71) hx hb dX10_init_508 rfl ?_
  refine lv_bipush (v := 97) hx hb dX10_init_510 rfl ?_
  refine va_cast hx hb hK hP hD hS 9 2 rfl rfl (nI_in (c := 71) (N := 78) (by decide) (by decide)) dX10_init_512 (fun H locs hP hD hS => ?_)
  have hP : va_P (eD E) vwCl ([(b0, .inr (11, [.ref a8, .ref a17, .ref a26, .int 0, .ref a35, .int 0, .int (-1), .int (-1), .int 0, .ref a53, .int 0, .ref a61, .ref a69, .ref a77, .int 0, .null, .null, .null, .int 0, .int 0, .int 0, .int 0])), (a8, .inl (eC E 0, 361, .inl (fun _ => 0))), (a17, .inl (eC E 0, 361, .inl (fun _ => 0))), (a26, .inl (eC E 0, 361, .inl (fun _ => 0))), (a35, .inl (eC E 0, 2888, .inl (fun _ => 0))), (a53, .inl (eC E 0, 60, .inl (fun _ => 0))), (a61, .inl (eC E 0, 24, .inl (fun _ => 0))), (a69, .inl (eC E 0, 24, .inl (fun _ => 0))), (a77, .inl (eC E 0, 40, .inl (fun _ => 0))), (a85, .inl (eC E 2, 78, .inl (letF 72)))]) H := by rw [← letF_s (i := 71) (c := vp_nar .char 97) (by decide)]; exact hP
  have hD : va_D (fre b0 s.heap.size) ([(b0, .inr (11, [.ref a8, .ref a17, .ref a26, .int 0, .ref a35, .int 0, .int (-1), .int (-1), .int 0, .ref a53, .int 0, .ref a61, .ref a69, .ref a77, .int 0, .null, .null, .null, .int 0, .int 0, .int 0, .int 0])), (a8, .inl (eC E 0, 361, .inl (fun _ => 0))), (a17, .inl (eC E 0, 361, .inl (fun _ => 0))), (a26, .inl (eC E 0, 361, .inl (fun _ => 0))), (a35, .inl (eC E 0, 2888, .inl (fun _ => 0))), (a53, .inl (eC E 0, 60, .inl (fun _ => 0))), (a61, .inl (eC E 0, 24, .inl (fun _ => 0))), (a69, .inl (eC E 0, 24, .inl (fun _ => 0))), (a77, .inl (eC E 0, 40, .inl (fun _ => 0))), (a85, .inl (eC E 2, 78, .inl (letF 72)))]) := by rw [← letF_s (i := 71) (c := vp_nar .char 97) (by decide)]; exact hD
  refine lv_dup hx hb dX10_init_513 rfl ?_
  refine lv_bipush (v := 72) hx hb dX10_init_514 rfl ?_
  refine lv_bipush (v := 114) hx hb dX10_init_516 rfl ?_
  refine va_cast hx hb hK hP hD hS 9 2 rfl rfl (nI_in (c := 72) (N := 78) (by decide) (by decide)) dX10_init_518 (fun H locs hP hD hS => ?_)
  have hP : va_P (eD E) vwCl ([(b0, .inr (11, [.ref a8, .ref a17, .ref a26, .int 0, .ref a35, .int 0, .int (-1), .int (-1), .int 0, .ref a53, .int 0, .ref a61, .ref a69, .ref a77, .int 0, .null, .null, .null, .int 0, .int 0, .int 0, .int 0])), (a8, .inl (eC E 0, 361, .inl (fun _ => 0))), (a17, .inl (eC E 0, 361, .inl (fun _ => 0))), (a26, .inl (eC E 0, 361, .inl (fun _ => 0))), (a35, .inl (eC E 0, 2888, .inl (fun _ => 0))), (a53, .inl (eC E 0, 60, .inl (fun _ => 0))), (a61, .inl (eC E 0, 24, .inl (fun _ => 0))), (a69, .inl (eC E 0, 24, .inl (fun _ => 0))), (a77, .inl (eC E 0, 40, .inl (fun _ => 0))), (a85, .inl (eC E 2, 78, .inl (letF 73)))]) H := by rw [← letF_s (i := 72) (c := vp_nar .char 114) (by decide)]; exact hP
  have hD : va_D (fre b0 s.heap.size) ([(b0, .inr (11, [.ref a8, .ref a17, .ref a26, .int 0, .ref a35, .int 0, .int (-1), .int (-1), .int 0, .ref a53, .int 0, .ref a61, .ref a69, .ref a77, .int 0, .null, .null, .null, .int 0, .int 0, .int 0, .int 0])), (a8, .inl (eC E 0, 361, .inl (fun _ => 0))), (a17, .inl (eC E 0, 361, .inl (fun _ => 0))), (a26, .inl (eC E 0, 361, .inl (fun _ => 0))), (a35, .inl (eC E 0, 2888, .inl (fun _ => 0))), (a53, .inl (eC E 0, 60, .inl (fun _ => 0))), (a61, .inl (eC E 0, 24, .inl (fun _ => 0))), (a69, .inl (eC E 0, 24, .inl (fun _ => 0))), (a77, .inl (eC E 0, 40, .inl (fun _ => 0))), (a85, .inl (eC E 2, 78, .inl (letF 73)))]) := by rw [← letF_s (i := 72) (c := vp_nar .char 114) (by decide)]; exact hD
  refine lv_dup hx hb dX10_init_519 rfl ?_
  refine lv_bipush (v := 73) hx hb dX10_init_520 rfl ?_
  refine lv_bipush (v := 99) hx hb dX10_init_522 rfl ?_
  refine va_cast hx hb hK hP hD hS 9 2 rfl rfl (nI_in (c := 73) (N := 78) (by decide) (by decide)) dX10_init_524 (fun H locs hP hD hS => ?_)
  have hP : va_P (eD E) vwCl ([(b0, .inr (11, [.ref a8, .ref a17, .ref a26, .int 0, .ref a35, .int 0, .int (-1), .int (-1), .int 0, .ref a53, .int 0, .ref a61, .ref a69, .ref a77, .int 0, .null, .null, .null, .int 0, .int 0, .int 0, .int 0])), (a8, .inl (eC E 0, 361, .inl (fun _ => 0))), (a17, .inl (eC E 0, 361, .inl (fun _ => 0))), (a26, .inl (eC E 0, 361, .inl (fun _ => 0))), (a35, .inl (eC E 0, 2888, .inl (fun _ => 0))), (a53, .inl (eC E 0, 60, .inl (fun _ => 0))), (a61, .inl (eC E 0, 24, .inl (fun _ => 0))), (a69, .inl (eC E 0, 24, .inl (fun _ => 0))), (a77, .inl (eC E 0, 40, .inl (fun _ => 0))), (a85, .inl (eC E 2, 78, .inl (letF 74)))]) H := by rw [← letF_s (i := 73) (c := vp_nar .char 99) (by decide)]; exact hP
  have hD : va_D (fre b0 s.heap.size) ([(b0, .inr (11, [.ref a8, .ref a17, .ref a26, .int 0, .ref a35, .int 0, .int (-1), .int (-1), .int 0, .ref a53, .int 0, .ref a61, .ref a69, .ref a77, .int 0, .null, .null, .null, .int 0, .int 0, .int 0, .int 0])), (a8, .inl (eC E 0, 361, .inl (fun _ => 0))), (a17, .inl (eC E 0, 361, .inl (fun _ => 0))), (a26, .inl (eC E 0, 361, .inl (fun _ => 0))), (a35, .inl (eC E 0, 2888, .inl (fun _ => 0))), (a53, .inl (eC E 0, 60, .inl (fun _ => 0))), (a61, .inl (eC E 0, 24, .inl (fun _ => 0))), (a69, .inl (eC E 0, 24, .inl (fun _ => 0))), (a77, .inl (eC E 0, 40, .inl (fun _ => 0))), (a85, .inl (eC E 2, 78, .inl (letF 74)))]) := by rw [← letF_s (i := 73) (c := vp_nar .char 99) (by decide)]; exact hD
  refine lv_dup hx hb dX10_init_525 rfl ?_
  refine lv_bipush (v := 74) hx hb dX10_init_526 rfl ?_
  refine lv_bipush (v := 104) hx hb dX10_init_528 rfl ?_
  refine va_cast hx hb hK hP hD hS 9 2 rfl rfl (nI_in (c := 74) (N := 78) (by decide) (by decide)) dX10_init_530 (fun H locs hP hD hS => ?_)
  have hP : va_P (eD E) vwCl ([(b0, .inr (11, [.ref a8, .ref a17, .ref a26, .int 0, .ref a35, .int 0, .int (-1), .int (-1), .int 0, .ref a53, .int 0, .ref a61, .ref a69, .ref a77, .int 0, .null, .null, .null, .int 0, .int 0, .int 0, .int 0])), (a8, .inl (eC E 0, 361, .inl (fun _ => 0))), (a17, .inl (eC E 0, 361, .inl (fun _ => 0))), (a26, .inl (eC E 0, 361, .inl (fun _ => 0))), (a35, .inl (eC E 0, 2888, .inl (fun _ => 0))), (a53, .inl (eC E 0, 60, .inl (fun _ => 0))), (a61, .inl (eC E 0, 24, .inl (fun _ => 0))), (a69, .inl (eC E 0, 24, .inl (fun _ => 0))), (a77, .inl (eC E 0, 40, .inl (fun _ => 0))), (a85, .inl (eC E 2, 78, .inl (letF 75)))]) H := by rw [← letF_s (i := 74) (c := vp_nar .char 104) (by decide)]; exact hP
  have hD : va_D (fre b0 s.heap.size) ([(b0, .inr (11, [.ref a8, .ref a17, .ref a26, .int 0, .ref a35, .int 0, .int (-1), .int (-1), .int 0, .ref a53, .int 0, .ref a61, .ref a69, .ref a77, .int 0, .null, .null, .null, .int 0, .int 0, .int 0, .int 0])), (a8, .inl (eC E 0, 361, .inl (fun _ => 0))), (a17, .inl (eC E 0, 361, .inl (fun _ => 0))), (a26, .inl (eC E 0, 361, .inl (fun _ => 0))), (a35, .inl (eC E 0, 2888, .inl (fun _ => 0))), (a53, .inl (eC E 0, 60, .inl (fun _ => 0))), (a61, .inl (eC E 0, 24, .inl (fun _ => 0))), (a69, .inl (eC E 0, 24, .inl (fun _ => 0))), (a77, .inl (eC E 0, 40, .inl (fun _ => 0))), (a85, .inl (eC E 2, 78, .inl (letF 75)))]) := by rw [← letF_s (i := 74) (c := vp_nar .char 104) (by decide)]; exact hD
  refine lv_dup hx hb dX10_init_531 rfl ?_
  refine lv_bipush (v := 75) hx hb dX10_init_532 rfl ?_
  refine lv_bipush (v := 105) hx hb dX10_init_534 rfl ?_
  refine va_cast hx hb hK hP hD hS 9 2 rfl rfl (nI_in (c := 75) (N := 78) (by decide) (by decide)) dX10_init_536 (fun H locs hP hD hS => ?_)
  have hP : va_P (eD E) vwCl ([(b0, .inr (11, [.ref a8, .ref a17, .ref a26, .int 0, .ref a35, .int 0, .int (-1), .int (-1), .int 0, .ref a53, .int 0, .ref a61, .ref a69, .ref a77, .int 0, .null, .null, .null, .int 0, .int 0, .int 0, .int 0])), (a8, .inl (eC E 0, 361, .inl (fun _ => 0))), (a17, .inl (eC E 0, 361, .inl (fun _ => 0))), (a26, .inl (eC E 0, 361, .inl (fun _ => 0))), (a35, .inl (eC E 0, 2888, .inl (fun _ => 0))), (a53, .inl (eC E 0, 60, .inl (fun _ => 0))), (a61, .inl (eC E 0, 24, .inl (fun _ => 0))), (a69, .inl (eC E 0, 24, .inl (fun _ => 0))), (a77, .inl (eC E 0, 40, .inl (fun _ => 0))), (a85, .inl (eC E 2, 78, .inl (letF 76)))]) H := by rw [← letF_s (i := 75) (c := vp_nar .char 105) (by decide)]; exact hP
  have hD : va_D (fre b0 s.heap.size) ([(b0, .inr (11, [.ref a8, .ref a17, .ref a26, .int 0, .ref a35, .int 0, .int (-1), .int (-1), .int 0, .ref a53, .int 0, .ref a61, .ref a69, .ref a77, .int 0, .null, .null, .null, .int 0, .int 0, .int 0, .int 0])), (a8, .inl (eC E 0, 361, .inl (fun _ => 0))), (a17, .inl (eC E 0, 361, .inl (fun _ => 0))), (a26, .inl (eC E 0, 361, .inl (fun _ => 0))), (a35, .inl (eC E 0, 2888, .inl (fun _ => 0))), (a53, .inl (eC E 0, 60, .inl (fun _ => 0))), (a61, .inl (eC E 0, 24, .inl (fun _ => 0))), (a69, .inl (eC E 0, 24, .inl (fun _ => 0))), (a77, .inl (eC E 0, 40, .inl (fun _ => 0))), (a85, .inl (eC E 2, 78, .inl (letF 76)))]) := by rw [← letF_s (i := 75) (c := vp_nar .char 105) (by decide)]; exact hD
  refine lv_dup hx hb dX10_init_537 rfl ?_
  refine lv_bipush (v := 76) hx hb dX10_init_538 rfl ?_
  refine lv_bipush (v := 118) hx hb dX10_init_540 rfl ?_
  refine va_cast hx hb hK hP hD hS 9 2 rfl rfl (nI_in (c := 76) (N := 78) (by decide) (by decide)) dX10_init_542 (fun H locs hP hD hS => ?_)
  have hP : va_P (eD E) vwCl ([(b0, .inr (11, [.ref a8, .ref a17, .ref a26, .int 0, .ref a35, .int 0, .int (-1), .int (-1), .int 0, .ref a53, .int 0, .ref a61, .ref a69, .ref a77, .int 0, .null, .null, .null, .int 0, .int 0, .int 0, .int 0])), (a8, .inl (eC E 0, 361, .inl (fun _ => 0))), (a17, .inl (eC E 0, 361, .inl (fun _ => 0))), (a26, .inl (eC E 0, 361, .inl (fun _ => 0))), (a35, .inl (eC E 0, 2888, .inl (fun _ => 0))), (a53, .inl (eC E 0, 60, .inl (fun _ => 0))), (a61, .inl (eC E 0, 24, .inl (fun _ => 0))), (a69, .inl (eC E 0, 24, .inl (fun _ => 0))), (a77, .inl (eC E 0, 40, .inl (fun _ => 0))), (a85, .inl (eC E 2, 78, .inl (letF 77)))]) H := by rw [← letF_s (i := 76) (c := vp_nar .char 118) (by decide)]; exact hP
  have hD : va_D (fre b0 s.heap.size) ([(b0, .inr (11, [.ref a8, .ref a17, .ref a26, .int 0, .ref a35, .int 0, .int (-1), .int (-1), .int 0, .ref a53, .int 0, .ref a61, .ref a69, .ref a77, .int 0, .null, .null, .null, .int 0, .int 0, .int 0, .int 0])), (a8, .inl (eC E 0, 361, .inl (fun _ => 0))), (a17, .inl (eC E 0, 361, .inl (fun _ => 0))), (a26, .inl (eC E 0, 361, .inl (fun _ => 0))), (a35, .inl (eC E 0, 2888, .inl (fun _ => 0))), (a53, .inl (eC E 0, 60, .inl (fun _ => 0))), (a61, .inl (eC E 0, 24, .inl (fun _ => 0))), (a69, .inl (eC E 0, 24, .inl (fun _ => 0))), (a77, .inl (eC E 0, 40, .inl (fun _ => 0))), (a85, .inl (eC E 2, 78, .inl (letF 77)))]) := by rw [← letF_s (i := 76) (c := vp_nar .char 118) (by decide)]; exact hD
  refine lv_dup hx hb dX10_init_543 rfl ?_
  refine lv_bipush (v := 77) hx hb dX10_init_544 rfl ?_
  refine lv_bipush (v := 101) hx hb dX10_init_546 rfl ?_
  refine va_cast hx hb hK hP hD hS 9 2 rfl rfl (nI_in (c := 77) (N := 78) (by decide) (by decide)) dX10_init_548 (fun H locs hP hD hS => ?_)
  have hP : va_P (eD E) vwCl ([(b0, .inr (11, [.ref a8, .ref a17, .ref a26, .int 0, .ref a35, .int 0, .int (-1), .int (-1), .int 0, .ref a53, .int 0, .ref a61, .ref a69, .ref a77, .int 0, .null, .null, .null, .int 0, .int 0, .int 0, .int 0])), (a8, .inl (eC E 0, 361, .inl (fun _ => 0))), (a17, .inl (eC E 0, 361, .inl (fun _ => 0))), (a26, .inl (eC E 0, 361, .inl (fun _ => 0))), (a35, .inl (eC E 0, 2888, .inl (fun _ => 0))), (a53, .inl (eC E 0, 60, .inl (fun _ => 0))), (a61, .inl (eC E 0, 24, .inl (fun _ => 0))), (a69, .inl (eC E 0, 24, .inl (fun _ => 0))), (a77, .inl (eC E 0, 40, .inl (fun _ => 0))), (a85, .inl (eC E 2, 78, .inl (letF 78)))]) H := by rw [← letF_s (i := 77) (c := vp_nar .char 101) (by decide)]; exact hP
  have hD : va_D (fre b0 s.heap.size) ([(b0, .inr (11, [.ref a8, .ref a17, .ref a26, .int 0, .ref a35, .int 0, .int (-1), .int (-1), .int 0, .ref a53, .int 0, .ref a61, .ref a69, .ref a77, .int 0, .null, .null, .null, .int 0, .int 0, .int 0, .int 0])), (a8, .inl (eC E 0, 361, .inl (fun _ => 0))), (a17, .inl (eC E 0, 361, .inl (fun _ => 0))), (a26, .inl (eC E 0, 361, .inl (fun _ => 0))), (a35, .inl (eC E 0, 2888, .inl (fun _ => 0))), (a53, .inl (eC E 0, 60, .inl (fun _ => 0))), (a61, .inl (eC E 0, 24, .inl (fun _ => 0))), (a69, .inl (eC E 0, 24, .inl (fun _ => 0))), (a77, .inl (eC E 0, 40, .inl (fun _ => 0))), (a85, .inl (eC E 2, 78, .inl (letF 78)))]) := by rw [← letF_s (i := 77) (c := vp_nar .char 101) (by decide)]; exact hD
  refine va_putF hx hb hts in_X10 tyX10 tyX10_ok nmX10 hown hK hP hD hS 0 rfl rfl 15 (by decide) (hts _ tw_7_204) (fun _ h => h) rfl hC.2 rfl rfl rfl rfl (Nat.le_of_ble_eq_true rfl) dX10_init_549 (fun H locs hP hD hS => ?_)
  have hP : va_P (eD E) vwCl ([(b0, .inr (11, [.ref a8, .ref a17, .ref a26, .int 0, .ref a35, .int 0, .int (-1), .int (-1), .int 0, .ref a53, .int 0, .ref a61, .ref a69, .ref a77, .int 0, .ref a85, .null, .null, .int 0, .int 0, .int 0, .int 0])), (a8, .inl (eC E 0, 361, .inl (fun _ => 0))), (a17, .inl (eC E 0, 361, .inl (fun _ => 0))), (a26, .inl (eC E 0, 361, .inl (fun _ => 0))), (a35, .inl (eC E 0, 2888, .inl (fun _ => 0))), (a53, .inl (eC E 0, 60, .inl (fun _ => 0))), (a61, .inl (eC E 0, 24, .inl (fun _ => 0))), (a69, .inl (eC E 0, 24, .inl (fun _ => 0))), (a77, .inl (eC E 0, 40, .inl (fun _ => 0))), (a85, .inl (eC E 2, 78, .inl (letF 78)))]) H := hP
  have hD : va_D (fre b0 s.heap.size) ([(b0, .inr (11, [.ref a8, .ref a17, .ref a26, .int 0, .ref a35, .int 0, .int (-1), .int (-1), .int 0, .ref a53, .int 0, .ref a61, .ref a69, .ref a77, .int 0, .ref a85, .null, .null, .int 0, .int 0, .int 0, .int 0])), (a8, .inl (eC E 0, 361, .inl (fun _ => 0))), (a17, .inl (eC E 0, 361, .inl (fun _ => 0))), (a26, .inl (eC E 0, 361, .inl (fun _ => 0))), (a35, .inl (eC E 0, 2888, .inl (fun _ => 0))), (a53, .inl (eC E 0, 60, .inl (fun _ => 0))), (a61, .inl (eC E 0, 24, .inl (fun _ => 0))), (a69, .inl (eC E 0, 24, .inl (fun _ => 0))), (a77, .inl (eC E 0, 40, .inl (fun _ => 0))), (a85, .inl (eC E 2, 78, .inl (letF 78)))]) := hD
  refine lv_aload_n hx hb dX10_init_552 rfl (lv_at hl 0 rfl) ?_
  refine lv_bipush (v := 14) hx hb dX10_init_553 rfl ?_
  refine va_newa (atype := .int) (ty := .int) (a0 := (14, .inl (fun _ => 0))) (N' := 14) hx hb (hts _ tw_1_64) rfl hK hP hD hS hA (fun _ => rfl) (by decide) rfl (by decide) (Nat.le_of_ble_eq_true rfl) (Nat.le_of_ble_eq_true rfl) dX10_init_555 (fun a555 cA H hK2 hP hD hS => ?_)
  have hcA : cA = eC E 0 := by
    have h1 := (hK2.2 6 (cA, .int) rfl).2
    have h2 := (hK2.2 0 (eC E 0, .int) rfl).2
    exact Option.some.inj (h1.symm.trans h2)
  subst hcA
  have hP : va_P (eD E) vwCl ([(b0, .inr (11, [.ref a8, .ref a17, .ref a26, .int 0, .ref a35, .int 0, .int (-1), .int (-1), .int 0, .ref a53, .int 0, .ref a61, .ref a69, .ref a77, .int 0, .ref a85, .null, .null, .int 0, .int 0, .int 0, .int 0])), (a8, .inl (eC E 0, 361, .inl (fun _ => 0))), (a17, .inl (eC E 0, 361, .inl (fun _ => 0))), (a26, .inl (eC E 0, 361, .inl (fun _ => 0))), (a35, .inl (eC E 0, 2888, .inl (fun _ => 0))), (a53, .inl (eC E 0, 60, .inl (fun _ => 0))), (a61, .inl (eC E 0, 24, .inl (fun _ => 0))), (a69, .inl (eC E 0, 24, .inl (fun _ => 0))), (a77, .inl (eC E 0, 40, .inl (fun _ => 0))), (a85, .inl (eC E 2, 78, .inl (letF 78))), (a555, .inl (eC E 0, 14, .inl (begF 0)))]) H := by rw [begF_0]; exact hP
  have hD : va_D (fre b0 s.heap.size) ([(b0, .inr (11, [.ref a8, .ref a17, .ref a26, .int 0, .ref a35, .int 0, .int (-1), .int (-1), .int 0, .ref a53, .int 0, .ref a61, .ref a69, .ref a77, .int 0, .ref a85, .null, .null, .int 0, .int 0, .int 0, .int 0])), (a8, .inl (eC E 0, 361, .inl (fun _ => 0))), (a17, .inl (eC E 0, 361, .inl (fun _ => 0))), (a26, .inl (eC E 0, 361, .inl (fun _ => 0))), (a35, .inl (eC E 0, 2888, .inl (fun _ => 0))), (a53, .inl (eC E 0, 60, .inl (fun _ => 0))), (a61, .inl (eC E 0, 24, .inl (fun _ => 0))), (a69, .inl (eC E 0, 24, .inl (fun _ => 0))), (a77, .inl (eC E 0, 40, .inl (fun _ => 0))), (a85, .inl (eC E 2, 78, .inl (letF 78))), (a555, .inl (eC E 0, 14, .inl (begF 0)))]) := by rw [begF_0]; exact hD
  refine lv_dup hx hb dX10_init_557 rfl ?_
  refine lv_iconst (v := 0) hx hb dX10_init_558 rfl ?_
  refine lv_iconst (v := 0) hx hb dX10_init_559 rfl ?_
  refine va_iast hx hb hK hP hD hS 10 0 rfl rfl (nI_in (c := 0) (N := 14) (by decide) (by decide)) dX10_init_560 (fun H locs hP hD hS => ?_)
  have hP : va_P (eD E) vwCl ([(b0, .inr (11, [.ref a8, .ref a17, .ref a26, .int 0, .ref a35, .int 0, .int (-1), .int (-1), .int 0, .ref a53, .int 0, .ref a61, .ref a69, .ref a77, .int 0, .ref a85, .null, .null, .int 0, .int 0, .int 0, .int 0])), (a8, .inl (eC E 0, 361, .inl (fun _ => 0))), (a17, .inl (eC E 0, 361, .inl (fun _ => 0))), (a26, .inl (eC E 0, 361, .inl (fun _ => 0))), (a35, .inl (eC E 0, 2888, .inl (fun _ => 0))), (a53, .inl (eC E 0, 60, .inl (fun _ => 0))), (a61, .inl (eC E 0, 24, .inl (fun _ => 0))), (a69, .inl (eC E 0, 24, .inl (fun _ => 0))), (a77, .inl (eC E 0, 40, .inl (fun _ => 0))), (a85, .inl (eC E 2, 78, .inl (letF 78))), (a555, .inl (eC E 0, 14, .inl (begF 1)))]) H := by rw [← begF_s (i := 0) (c := 0) (by decide)]; exact hP
  have hD : va_D (fre b0 s.heap.size) ([(b0, .inr (11, [.ref a8, .ref a17, .ref a26, .int 0, .ref a35, .int 0, .int (-1), .int (-1), .int 0, .ref a53, .int 0, .ref a61, .ref a69, .ref a77, .int 0, .ref a85, .null, .null, .int 0, .int 0, .int 0, .int 0])), (a8, .inl (eC E 0, 361, .inl (fun _ => 0))), (a17, .inl (eC E 0, 361, .inl (fun _ => 0))), (a26, .inl (eC E 0, 361, .inl (fun _ => 0))), (a35, .inl (eC E 0, 2888, .inl (fun _ => 0))), (a53, .inl (eC E 0, 60, .inl (fun _ => 0))), (a61, .inl (eC E 0, 24, .inl (fun _ => 0))), (a69, .inl (eC E 0, 24, .inl (fun _ => 0))), (a77, .inl (eC E 0, 40, .inl (fun _ => 0))), (a85, .inl (eC E 2, 78, .inl (letF 78))), (a555, .inl (eC E 0, 14, .inl (begF 1)))]) := by rw [← begF_s (i := 0) (c := 0) (by decide)]; exact hD
  refine lv_dup hx hb dX10_init_561 rfl ?_
  refine lv_iconst (v := 1) hx hb dX10_init_562 rfl ?_
  refine lv_iconst (v := 5) hx hb dX10_init_563 rfl ?_
  refine va_iast hx hb hK hP hD hS 10 0 rfl rfl (nI_in (c := 1) (N := 14) (by decide) (by decide)) dX10_init_564 (fun H locs hP hD hS => ?_)
  have hP : va_P (eD E) vwCl ([(b0, .inr (11, [.ref a8, .ref a17, .ref a26, .int 0, .ref a35, .int 0, .int (-1), .int (-1), .int 0, .ref a53, .int 0, .ref a61, .ref a69, .ref a77, .int 0, .ref a85, .null, .null, .int 0, .int 0, .int 0, .int 0])), (a8, .inl (eC E 0, 361, .inl (fun _ => 0))), (a17, .inl (eC E 0, 361, .inl (fun _ => 0))), (a26, .inl (eC E 0, 361, .inl (fun _ => 0))), (a35, .inl (eC E 0, 2888, .inl (fun _ => 0))), (a53, .inl (eC E 0, 60, .inl (fun _ => 0))), (a61, .inl (eC E 0, 24, .inl (fun _ => 0))), (a69, .inl (eC E 0, 24, .inl (fun _ => 0))), (a77, .inl (eC E 0, 40, .inl (fun _ => 0))), (a85, .inl (eC E 2, 78, .inl (letF 78))), (a555, .inl (eC E 0, 14, .inl (begF 2)))]) H := by rw [← begF_s (i := 1) (c := 5) (by decide)]; exact hP
  have hD : va_D (fre b0 s.heap.size) ([(b0, .inr (11, [.ref a8, .ref a17, .ref a26, .int 0, .ref a35, .int 0, .int (-1), .int (-1), .int 0, .ref a53, .int 0, .ref a61, .ref a69, .ref a77, .int 0, .ref a85, .null, .null, .int 0, .int 0, .int 0, .int 0])), (a8, .inl (eC E 0, 361, .inl (fun _ => 0))), (a17, .inl (eC E 0, 361, .inl (fun _ => 0))), (a26, .inl (eC E 0, 361, .inl (fun _ => 0))), (a35, .inl (eC E 0, 2888, .inl (fun _ => 0))), (a53, .inl (eC E 0, 60, .inl (fun _ => 0))), (a61, .inl (eC E 0, 24, .inl (fun _ => 0))), (a69, .inl (eC E 0, 24, .inl (fun _ => 0))), (a77, .inl (eC E 0, 40, .inl (fun _ => 0))), (a85, .inl (eC E 2, 78, .inl (letF 78))), (a555, .inl (eC E 0, 14, .inl (begF 2)))]) := by rw [← begF_s (i := 1) (c := 5) (by decide)]; exact hD
  refine lv_dup hx hb dX10_init_565 rfl ?_
  refine lv_iconst (v := 2) hx hb dX10_init_566 rfl ?_
  refine lv_bipush (v := 12) hx hb dX10_init_567 rfl ?_
  refine va_iast hx hb hK hP hD hS 10 0 rfl rfl (nI_in (c := 2) (N := 14) (by decide) (by decide)) dX10_init_569 (fun H locs hP hD hS => ?_)
  have hP : va_P (eD E) vwCl ([(b0, .inr (11, [.ref a8, .ref a17, .ref a26, .int 0, .ref a35, .int 0, .int (-1), .int (-1), .int 0, .ref a53, .int 0, .ref a61, .ref a69, .ref a77, .int 0, .ref a85, .null, .null, .int 0, .int 0, .int 0, .int 0])), (a8, .inl (eC E 0, 361, .inl (fun _ => 0))), (a17, .inl (eC E 0, 361, .inl (fun _ => 0))), (a26, .inl (eC E 0, 361, .inl (fun _ => 0))), (a35, .inl (eC E 0, 2888, .inl (fun _ => 0))), (a53, .inl (eC E 0, 60, .inl (fun _ => 0))), (a61, .inl (eC E 0, 24, .inl (fun _ => 0))), (a69, .inl (eC E 0, 24, .inl (fun _ => 0))), (a77, .inl (eC E 0, 40, .inl (fun _ => 0))), (a85, .inl (eC E 2, 78, .inl (letF 78))), (a555, .inl (eC E 0, 14, .inl (begF 3)))]) H := by rw [← begF_s (i := 2) (c := 12) (by decide)]; exact hP
  have hD : va_D (fre b0 s.heap.size) ([(b0, .inr (11, [.ref a8, .ref a17, .ref a26, .int 0, .ref a35, .int 0, .int (-1), .int (-1), .int 0, .ref a53, .int 0, .ref a61, .ref a69, .ref a77, .int 0, .ref a85, .null, .null, .int 0, .int 0, .int 0, .int 0])), (a8, .inl (eC E 0, 361, .inl (fun _ => 0))), (a17, .inl (eC E 0, 361, .inl (fun _ => 0))), (a26, .inl (eC E 0, 361, .inl (fun _ => 0))), (a35, .inl (eC E 0, 2888, .inl (fun _ => 0))), (a53, .inl (eC E 0, 60, .inl (fun _ => 0))), (a61, .inl (eC E 0, 24, .inl (fun _ => 0))), (a69, .inl (eC E 0, 24, .inl (fun _ => 0))), (a77, .inl (eC E 0, 40, .inl (fun _ => 0))), (a85, .inl (eC E 2, 78, .inl (letF 78))), (a555, .inl (eC E 0, 14, .inl (begF 3)))]) := by rw [← begF_s (i := 2) (c := 12) (by decide)]; exact hD
  refine lv_dup hx hb dX10_init_570 rfl ?_
  refine lv_iconst (v := 3) hx hb dX10_init_571 rfl ?_
  refine lv_bipush (v := 19) hx hb dX10_init_572 rfl ?_
  refine va_iast hx hb hK hP hD hS 10 0 rfl rfl (nI_in (c := 3) (N := 14) (by decide) (by decide)) dX10_init_574 (fun H locs hP hD hS => ?_)
  have hP : va_P (eD E) vwCl ([(b0, .inr (11, [.ref a8, .ref a17, .ref a26, .int 0, .ref a35, .int 0, .int (-1), .int (-1), .int 0, .ref a53, .int 0, .ref a61, .ref a69, .ref a77, .int 0, .ref a85, .null, .null, .int 0, .int 0, .int 0, .int 0])), (a8, .inl (eC E 0, 361, .inl (fun _ => 0))), (a17, .inl (eC E 0, 361, .inl (fun _ => 0))), (a26, .inl (eC E 0, 361, .inl (fun _ => 0))), (a35, .inl (eC E 0, 2888, .inl (fun _ => 0))), (a53, .inl (eC E 0, 60, .inl (fun _ => 0))), (a61, .inl (eC E 0, 24, .inl (fun _ => 0))), (a69, .inl (eC E 0, 24, .inl (fun _ => 0))), (a77, .inl (eC E 0, 40, .inl (fun _ => 0))), (a85, .inl (eC E 2, 78, .inl (letF 78))), (a555, .inl (eC E 0, 14, .inl (begF 4)))]) H := by rw [← begF_s (i := 3) (c := 19) (by decide)]; exact hP
  have hD : va_D (fre b0 s.heap.size) ([(b0, .inr (11, [.ref a8, .ref a17, .ref a26, .int 0, .ref a35, .int 0, .int (-1), .int (-1), .int 0, .ref a53, .int 0, .ref a61, .ref a69, .ref a77, .int 0, .ref a85, .null, .null, .int 0, .int 0, .int 0, .int 0])), (a8, .inl (eC E 0, 361, .inl (fun _ => 0))), (a17, .inl (eC E 0, 361, .inl (fun _ => 0))), (a26, .inl (eC E 0, 361, .inl (fun _ => 0))), (a35, .inl (eC E 0, 2888, .inl (fun _ => 0))), (a53, .inl (eC E 0, 60, .inl (fun _ => 0))), (a61, .inl (eC E 0, 24, .inl (fun _ => 0))), (a69, .inl (eC E 0, 24, .inl (fun _ => 0))), (a77, .inl (eC E 0, 40, .inl (fun _ => 0))), (a85, .inl (eC E 2, 78, .inl (letF 78))), (a555, .inl (eC E 0, 14, .inl (begF 4)))]) := by rw [← begF_s (i := 3) (c := 19) (by decide)]; exact hD
  refine lv_dup hx hb dX10_init_575 rfl ?_
  refine lv_iconst (v := 4) hx hb dX10_init_576 rfl ?_
  refine lv_bipush (v := 26) hx hb dX10_init_577 rfl ?_
  refine va_iast hx hb hK hP hD hS 10 0 rfl rfl (nI_in (c := 4) (N := 14) (by decide) (by decide)) dX10_init_579 (fun H locs hP hD hS => ?_)
  have hP : va_P (eD E) vwCl ([(b0, .inr (11, [.ref a8, .ref a17, .ref a26, .int 0, .ref a35, .int 0, .int (-1), .int (-1), .int 0, .ref a53, .int 0, .ref a61, .ref a69, .ref a77, .int 0, .ref a85, .null, .null, .int 0, .int 0, .int 0, .int 0])), (a8, .inl (eC E 0, 361, .inl (fun _ => 0))), (a17, .inl (eC E 0, 361, .inl (fun _ => 0))), (a26, .inl (eC E 0, 361, .inl (fun _ => 0))), (a35, .inl (eC E 0, 2888, .inl (fun _ => 0))), (a53, .inl (eC E 0, 60, .inl (fun _ => 0))), (a61, .inl (eC E 0, 24, .inl (fun _ => 0))), (a69, .inl (eC E 0, 24, .inl (fun _ => 0))), (a77, .inl (eC E 0, 40, .inl (fun _ => 0))), (a85, .inl (eC E 2, 78, .inl (letF 78))), (a555, .inl (eC E 0, 14, .inl (begF 5)))]) H := by rw [← begF_s (i := 4) (c := 26) (by decide)]; exact hP
  have hD : va_D (fre b0 s.heap.size) ([(b0, .inr (11, [.ref a8, .ref a17, .ref a26, .int 0, .ref a35, .int 0, .int (-1), .int (-1), .int 0, .ref a53, .int 0, .ref a61, .ref a69, .ref a77, .int 0, .ref a85, .null, .null, .int 0, .int 0, .int 0, .int 0])), (a8, .inl (eC E 0, 361, .inl (fun _ => 0))), (a17, .inl (eC E 0, 361, .inl (fun _ => 0))), (a26, .inl (eC E 0, 361, .inl (fun _ => 0))), (a35, .inl (eC E 0, 2888, .inl (fun _ => 0))), (a53, .inl (eC E 0, 60, .inl (fun _ => 0))), (a61, .inl (eC E 0, 24, .inl (fun _ => 0))), (a69, .inl (eC E 0, 24, .inl (fun _ => 0))), (a77, .inl (eC E 0, 40, .inl (fun _ => 0))), (a85, .inl (eC E 2, 78, .inl (letF 78))), (a555, .inl (eC E 0, 14, .inl (begF 5)))]) := by rw [← begF_s (i := 4) (c := 26) (by decide)]; exact hD
  refine lv_dup hx hb dX10_init_580 rfl ?_
  refine lv_iconst (v := 5) hx hb dX10_init_581 rfl ?_
  refine lv_bipush (v := 32) hx hb dX10_init_582 rfl ?_
  refine va_iast hx hb hK hP hD hS 10 0 rfl rfl (nI_in (c := 5) (N := 14) (by decide) (by decide)) dX10_init_584 (fun H locs hP hD hS => ?_)
  have hP : va_P (eD E) vwCl ([(b0, .inr (11, [.ref a8, .ref a17, .ref a26, .int 0, .ref a35, .int 0, .int (-1), .int (-1), .int 0, .ref a53, .int 0, .ref a61, .ref a69, .ref a77, .int 0, .ref a85, .null, .null, .int 0, .int 0, .int 0, .int 0])), (a8, .inl (eC E 0, 361, .inl (fun _ => 0))), (a17, .inl (eC E 0, 361, .inl (fun _ => 0))), (a26, .inl (eC E 0, 361, .inl (fun _ => 0))), (a35, .inl (eC E 0, 2888, .inl (fun _ => 0))), (a53, .inl (eC E 0, 60, .inl (fun _ => 0))), (a61, .inl (eC E 0, 24, .inl (fun _ => 0))), (a69, .inl (eC E 0, 24, .inl (fun _ => 0))), (a77, .inl (eC E 0, 40, .inl (fun _ => 0))), (a85, .inl (eC E 2, 78, .inl (letF 78))), (a555, .inl (eC E 0, 14, .inl (begF 6)))]) H := by rw [← begF_s (i := 5) (c := 32) (by decide)]; exact hP
  have hD : va_D (fre b0 s.heap.size) ([(b0, .inr (11, [.ref a8, .ref a17, .ref a26, .int 0, .ref a35, .int 0, .int (-1), .int (-1), .int 0, .ref a53, .int 0, .ref a61, .ref a69, .ref a77, .int 0, .ref a85, .null, .null, .int 0, .int 0, .int 0, .int 0])), (a8, .inl (eC E 0, 361, .inl (fun _ => 0))), (a17, .inl (eC E 0, 361, .inl (fun _ => 0))), (a26, .inl (eC E 0, 361, .inl (fun _ => 0))), (a35, .inl (eC E 0, 2888, .inl (fun _ => 0))), (a53, .inl (eC E 0, 60, .inl (fun _ => 0))), (a61, .inl (eC E 0, 24, .inl (fun _ => 0))), (a69, .inl (eC E 0, 24, .inl (fun _ => 0))), (a77, .inl (eC E 0, 40, .inl (fun _ => 0))), (a85, .inl (eC E 2, 78, .inl (letF 78))), (a555, .inl (eC E 0, 14, .inl (begF 6)))]) := by rw [← begF_s (i := 5) (c := 32) (by decide)]; exact hD
  refine lv_dup hx hb dX10_init_585 rfl ?_
  refine lv_bipush (v := 6) hx hb dX10_init_586 rfl ?_
  refine lv_bipush (v := 38) hx hb dX10_init_588 rfl ?_
  refine va_iast hx hb hK hP hD hS 10 0 rfl rfl (nI_in (c := 6) (N := 14) (by decide) (by decide)) dX10_init_590 (fun H locs hP hD hS => ?_)
  have hP : va_P (eD E) vwCl ([(b0, .inr (11, [.ref a8, .ref a17, .ref a26, .int 0, .ref a35, .int 0, .int (-1), .int (-1), .int 0, .ref a53, .int 0, .ref a61, .ref a69, .ref a77, .int 0, .ref a85, .null, .null, .int 0, .int 0, .int 0, .int 0])), (a8, .inl (eC E 0, 361, .inl (fun _ => 0))), (a17, .inl (eC E 0, 361, .inl (fun _ => 0))), (a26, .inl (eC E 0, 361, .inl (fun _ => 0))), (a35, .inl (eC E 0, 2888, .inl (fun _ => 0))), (a53, .inl (eC E 0, 60, .inl (fun _ => 0))), (a61, .inl (eC E 0, 24, .inl (fun _ => 0))), (a69, .inl (eC E 0, 24, .inl (fun _ => 0))), (a77, .inl (eC E 0, 40, .inl (fun _ => 0))), (a85, .inl (eC E 2, 78, .inl (letF 78))), (a555, .inl (eC E 0, 14, .inl (begF 7)))]) H := by rw [← begF_s (i := 6) (c := 38) (by decide)]; exact hP
  have hD : va_D (fre b0 s.heap.size) ([(b0, .inr (11, [.ref a8, .ref a17, .ref a26, .int 0, .ref a35, .int 0, .int (-1), .int (-1), .int 0, .ref a53, .int 0, .ref a61, .ref a69, .ref a77, .int 0, .ref a85, .null, .null, .int 0, .int 0, .int 0, .int 0])), (a8, .inl (eC E 0, 361, .inl (fun _ => 0))), (a17, .inl (eC E 0, 361, .inl (fun _ => 0))), (a26, .inl (eC E 0, 361, .inl (fun _ => 0))), (a35, .inl (eC E 0, 2888, .inl (fun _ => 0))), (a53, .inl (eC E 0, 60, .inl (fun _ => 0))), (a61, .inl (eC E 0, 24, .inl (fun _ => 0))), (a69, .inl (eC E 0, 24, .inl (fun _ => 0))), (a77, .inl (eC E 0, 40, .inl (fun _ => 0))), (a85, .inl (eC E 2, 78, .inl (letF 78))), (a555, .inl (eC E 0, 14, .inl (begF 7)))]) := by rw [← begF_s (i := 6) (c := 38) (by decide)]; exact hD
  refine lv_dup hx hb dX10_init_591 rfl ?_
  refine lv_bipush (v := 7) hx hb dX10_init_592 rfl ?_
  refine lv_bipush (v := 43) hx hb dX10_init_594 rfl ?_
  refine va_iast hx hb hK hP hD hS 10 0 rfl rfl (nI_in (c := 7) (N := 14) (by decide) (by decide)) dX10_init_596 (fun H locs hP hD hS => ?_)
  have hP : va_P (eD E) vwCl ([(b0, .inr (11, [.ref a8, .ref a17, .ref a26, .int 0, .ref a35, .int 0, .int (-1), .int (-1), .int 0, .ref a53, .int 0, .ref a61, .ref a69, .ref a77, .int 0, .ref a85, .null, .null, .int 0, .int 0, .int 0, .int 0])), (a8, .inl (eC E 0, 361, .inl (fun _ => 0))), (a17, .inl (eC E 0, 361, .inl (fun _ => 0))), (a26, .inl (eC E 0, 361, .inl (fun _ => 0))), (a35, .inl (eC E 0, 2888, .inl (fun _ => 0))), (a53, .inl (eC E 0, 60, .inl (fun _ => 0))), (a61, .inl (eC E 0, 24, .inl (fun _ => 0))), (a69, .inl (eC E 0, 24, .inl (fun _ => 0))), (a77, .inl (eC E 0, 40, .inl (fun _ => 0))), (a85, .inl (eC E 2, 78, .inl (letF 78))), (a555, .inl (eC E 0, 14, .inl (begF 8)))]) H := by rw [← begF_s (i := 7) (c := 43) (by decide)]; exact hP
  have hD : va_D (fre b0 s.heap.size) ([(b0, .inr (11, [.ref a8, .ref a17, .ref a26, .int 0, .ref a35, .int 0, .int (-1), .int (-1), .int 0, .ref a53, .int 0, .ref a61, .ref a69, .ref a77, .int 0, .ref a85, .null, .null, .int 0, .int 0, .int 0, .int 0])), (a8, .inl (eC E 0, 361, .inl (fun _ => 0))), (a17, .inl (eC E 0, 361, .inl (fun _ => 0))), (a26, .inl (eC E 0, 361, .inl (fun _ => 0))), (a35, .inl (eC E 0, 2888, .inl (fun _ => 0))), (a53, .inl (eC E 0, 60, .inl (fun _ => 0))), (a61, .inl (eC E 0, 24, .inl (fun _ => 0))), (a69, .inl (eC E 0, 24, .inl (fun _ => 0))), (a77, .inl (eC E 0, 40, .inl (fun _ => 0))), (a85, .inl (eC E 2, 78, .inl (letF 78))), (a555, .inl (eC E 0, 14, .inl (begF 8)))]) := by rw [← begF_s (i := 7) (c := 43) (by decide)]; exact hD
  refine lv_dup hx hb dX10_init_597 rfl ?_
  refine lv_bipush (v := 8) hx hb dX10_init_598 rfl ?_
  refine lv_bipush (v := 50) hx hb dX10_init_600 rfl ?_
  refine va_iast hx hb hK hP hD hS 10 0 rfl rfl (nI_in (c := 8) (N := 14) (by decide) (by decide)) dX10_init_602 (fun H locs hP hD hS => ?_)
  have hP : va_P (eD E) vwCl ([(b0, .inr (11, [.ref a8, .ref a17, .ref a26, .int 0, .ref a35, .int 0, .int (-1), .int (-1), .int 0, .ref a53, .int 0, .ref a61, .ref a69, .ref a77, .int 0, .ref a85, .null, .null, .int 0, .int 0, .int 0, .int 0])), (a8, .inl (eC E 0, 361, .inl (fun _ => 0))), (a17, .inl (eC E 0, 361, .inl (fun _ => 0))), (a26, .inl (eC E 0, 361, .inl (fun _ => 0))), (a35, .inl (eC E 0, 2888, .inl (fun _ => 0))), (a53, .inl (eC E 0, 60, .inl (fun _ => 0))), (a61, .inl (eC E 0, 24, .inl (fun _ => 0))), (a69, .inl (eC E 0, 24, .inl (fun _ => 0))), (a77, .inl (eC E 0, 40, .inl (fun _ => 0))), (a85, .inl (eC E 2, 78, .inl (letF 78))), (a555, .inl (eC E 0, 14, .inl (begF 9)))]) H := by rw [← begF_s (i := 8) (c := 50) (by decide)]; exact hP
  have hD : va_D (fre b0 s.heap.size) ([(b0, .inr (11, [.ref a8, .ref a17, .ref a26, .int 0, .ref a35, .int 0, .int (-1), .int (-1), .int 0, .ref a53, .int 0, .ref a61, .ref a69, .ref a77, .int 0, .ref a85, .null, .null, .int 0, .int 0, .int 0, .int 0])), (a8, .inl (eC E 0, 361, .inl (fun _ => 0))), (a17, .inl (eC E 0, 361, .inl (fun _ => 0))), (a26, .inl (eC E 0, 361, .inl (fun _ => 0))), (a35, .inl (eC E 0, 2888, .inl (fun _ => 0))), (a53, .inl (eC E 0, 60, .inl (fun _ => 0))), (a61, .inl (eC E 0, 24, .inl (fun _ => 0))), (a69, .inl (eC E 0, 24, .inl (fun _ => 0))), (a77, .inl (eC E 0, 40, .inl (fun _ => 0))), (a85, .inl (eC E 2, 78, .inl (letF 78))), (a555, .inl (eC E 0, 14, .inl (begF 9)))]) := by rw [← begF_s (i := 8) (c := 50) (by decide)]; exact hD
  refine lv_dup hx hb dX10_init_603 rfl ?_
  refine lv_bipush (v := 9) hx hb dX10_init_604 rfl ?_
  refine lv_bipush (v := 55) hx hb dX10_init_606 rfl ?_
  refine va_iast hx hb hK hP hD hS 10 0 rfl rfl (nI_in (c := 9) (N := 14) (by decide) (by decide)) dX10_init_608 (fun H locs hP hD hS => ?_)
  have hP : va_P (eD E) vwCl ([(b0, .inr (11, [.ref a8, .ref a17, .ref a26, .int 0, .ref a35, .int 0, .int (-1), .int (-1), .int 0, .ref a53, .int 0, .ref a61, .ref a69, .ref a77, .int 0, .ref a85, .null, .null, .int 0, .int 0, .int 0, .int 0])), (a8, .inl (eC E 0, 361, .inl (fun _ => 0))), (a17, .inl (eC E 0, 361, .inl (fun _ => 0))), (a26, .inl (eC E 0, 361, .inl (fun _ => 0))), (a35, .inl (eC E 0, 2888, .inl (fun _ => 0))), (a53, .inl (eC E 0, 60, .inl (fun _ => 0))), (a61, .inl (eC E 0, 24, .inl (fun _ => 0))), (a69, .inl (eC E 0, 24, .inl (fun _ => 0))), (a77, .inl (eC E 0, 40, .inl (fun _ => 0))), (a85, .inl (eC E 2, 78, .inl (letF 78))), (a555, .inl (eC E 0, 14, .inl (begF 10)))]) H := by rw [← begF_s (i := 9) (c := 55) (by decide)]; exact hP
  have hD : va_D (fre b0 s.heap.size) ([(b0, .inr (11, [.ref a8, .ref a17, .ref a26, .int 0, .ref a35, .int 0, .int (-1), .int (-1), .int 0, .ref a53, .int 0, .ref a61, .ref a69, .ref a77, .int 0, .ref a85, .null, .null, .int 0, .int 0, .int 0, .int 0])), (a8, .inl (eC E 0, 361, .inl (fun _ => 0))), (a17, .inl (eC E 0, 361, .inl (fun _ => 0))), (a26, .inl (eC E 0, 361, .inl (fun _ => 0))), (a35, .inl (eC E 0, 2888, .inl (fun _ => 0))), (a53, .inl (eC E 0, 60, .inl (fun _ => 0))), (a61, .inl (eC E 0, 24, .inl (fun _ => 0))), (a69, .inl (eC E 0, 24, .inl (fun _ => 0))), (a77, .inl (eC E 0, 40, .inl (fun _ => 0))), (a85, .inl (eC E 2, 78, .inl (letF 78))), (a555, .inl (eC E 0, 14, .inl (begF 10)))]) := by rw [← begF_s (i := 9) (c := 55) (by decide)]; exact hD
  refine lv_dup hx hb dX10_init_609 rfl ?_
  refine lv_bipush (v := 10) hx hb dX10_init_610 rfl ?_
  refine lv_bipush (v := 61) hx hb dX10_init_612 rfl ?_
  refine va_iast hx hb hK hP hD hS 10 0 rfl rfl (nI_in (c := 10) (N := 14) (by decide) (by decide)) dX10_init_614 (fun H locs hP hD hS => ?_)
  have hP : va_P (eD E) vwCl ([(b0, .inr (11, [.ref a8, .ref a17, .ref a26, .int 0, .ref a35, .int 0, .int (-1), .int (-1), .int 0, .ref a53, .int 0, .ref a61, .ref a69, .ref a77, .int 0, .ref a85, .null, .null, .int 0, .int 0, .int 0, .int 0])), (a8, .inl (eC E 0, 361, .inl (fun _ => 0))), (a17, .inl (eC E 0, 361, .inl (fun _ => 0))), (a26, .inl (eC E 0, 361, .inl (fun _ => 0))), (a35, .inl (eC E 0, 2888, .inl (fun _ => 0))), (a53, .inl (eC E 0, 60, .inl (fun _ => 0))), (a61, .inl (eC E 0, 24, .inl (fun _ => 0))), (a69, .inl (eC E 0, 24, .inl (fun _ => 0))), (a77, .inl (eC E 0, 40, .inl (fun _ => 0))), (a85, .inl (eC E 2, 78, .inl (letF 78))), (a555, .inl (eC E 0, 14, .inl (begF 11)))]) H := by rw [← begF_s (i := 10) (c := 61) (by decide)]; exact hP
  have hD : va_D (fre b0 s.heap.size) ([(b0, .inr (11, [.ref a8, .ref a17, .ref a26, .int 0, .ref a35, .int 0, .int (-1), .int (-1), .int 0, .ref a53, .int 0, .ref a61, .ref a69, .ref a77, .int 0, .ref a85, .null, .null, .int 0, .int 0, .int 0, .int 0])), (a8, .inl (eC E 0, 361, .inl (fun _ => 0))), (a17, .inl (eC E 0, 361, .inl (fun _ => 0))), (a26, .inl (eC E 0, 361, .inl (fun _ => 0))), (a35, .inl (eC E 0, 2888, .inl (fun _ => 0))), (a53, .inl (eC E 0, 60, .inl (fun _ => 0))), (a61, .inl (eC E 0, 24, .inl (fun _ => 0))), (a69, .inl (eC E 0, 24, .inl (fun _ => 0))), (a77, .inl (eC E 0, 40, .inl (fun _ => 0))), (a85, .inl (eC E 2, 78, .inl (letF 78))), (a555, .inl (eC E 0, 14, .inl (begF 11)))]) := by rw [← begF_s (i := 10) (c := 61) (by decide)]; exact hD
  refine lv_dup hx hb dX10_init_615 rfl ?_
  refine lv_bipush (v := 11) hx hb dX10_init_616 rfl ?_
  refine lv_bipush (v := 65) hx hb dX10_init_618 rfl ?_
  refine va_iast hx hb hK hP hD hS 10 0 rfl rfl (nI_in (c := 11) (N := 14) (by decide) (by decide)) dX10_init_620 (fun H locs hP hD hS => ?_)
  have hP : va_P (eD E) vwCl ([(b0, .inr (11, [.ref a8, .ref a17, .ref a26, .int 0, .ref a35, .int 0, .int (-1), .int (-1), .int 0, .ref a53, .int 0, .ref a61, .ref a69, .ref a77, .int 0, .ref a85, .null, .null, .int 0, .int 0, .int 0, .int 0])), (a8, .inl (eC E 0, 361, .inl (fun _ => 0))), (a17, .inl (eC E 0, 361, .inl (fun _ => 0))), (a26, .inl (eC E 0, 361, .inl (fun _ => 0))), (a35, .inl (eC E 0, 2888, .inl (fun _ => 0))), (a53, .inl (eC E 0, 60, .inl (fun _ => 0))), (a61, .inl (eC E 0, 24, .inl (fun _ => 0))), (a69, .inl (eC E 0, 24, .inl (fun _ => 0))), (a77, .inl (eC E 0, 40, .inl (fun _ => 0))), (a85, .inl (eC E 2, 78, .inl (letF 78))), (a555, .inl (eC E 0, 14, .inl (begF 12)))]) H := by rw [← begF_s (i := 11) (c := 65) (by decide)]; exact hP
  have hD : va_D (fre b0 s.heap.size) ([(b0, .inr (11, [.ref a8, .ref a17, .ref a26, .int 0, .ref a35, .int 0, .int (-1), .int (-1), .int 0, .ref a53, .int 0, .ref a61, .ref a69, .ref a77, .int 0, .ref a85, .null, .null, .int 0, .int 0, .int 0, .int 0])), (a8, .inl (eC E 0, 361, .inl (fun _ => 0))), (a17, .inl (eC E 0, 361, .inl (fun _ => 0))), (a26, .inl (eC E 0, 361, .inl (fun _ => 0))), (a35, .inl (eC E 0, 2888, .inl (fun _ => 0))), (a53, .inl (eC E 0, 60, .inl (fun _ => 0))), (a61, .inl (eC E 0, 24, .inl (fun _ => 0))), (a69, .inl (eC E 0, 24, .inl (fun _ => 0))), (a77, .inl (eC E 0, 40, .inl (fun _ => 0))), (a85, .inl (eC E 2, 78, .inl (letF 78))), (a555, .inl (eC E 0, 14, .inl (begF 12)))]) := by rw [← begF_s (i := 11) (c := 65) (by decide)]; exact hD
  refine lv_dup hx hb dX10_init_621 rfl ?_
  refine lv_bipush (v := 12) hx hb dX10_init_622 rfl ?_
  refine lv_bipush (v := 71) hx hb dX10_init_624 rfl ?_
  refine va_iast hx hb hK hP hD hS 10 0 rfl rfl (nI_in (c := 12) (N := 14) (by decide) (by decide)) dX10_init_626 (fun H locs hP hD hS => ?_)
  have hP : va_P (eD E) vwCl ([(b0, .inr (11, [.ref a8, .ref a17, .ref a26, .int 0, .ref a35, .int 0, .int (-1), .int (-1), .int 0, .ref a53, .int 0, .ref a61, .ref a69, .ref a77, .int 0, .ref a85, .null, .null, .int 0, .int 0, .int 0, .int 0])), (a8, .inl (eC E 0, 361, .inl (fun _ => 0))), (a17, .inl (eC E 0, 361, .inl (fun _ => 0))), (a26, .inl (eC E 0, 361, .inl (fun _ => 0))), (a35, .inl (eC E 0, 2888, .inl (fun _ => 0))), (a53, .inl (eC E 0, 60, .inl (fun _ => 0))), (a61, .inl (eC E 0, 24, .inl (fun _ => 0))), (a69, .inl (eC E 0, 24, .inl (fun _ => 0))), (a77, .inl (eC E 0, 40, .inl (fun _ => 0))), (a85, .inl (eC E 2, 78, .inl (letF 78))), (a555, .inl (eC E 0, 14, .inl (begF 13)))]) H := by rw [← begF_s (i := 12) (c := 71) (by decide)]; exact hP
  have hD : va_D (fre b0 s.heap.size) ([(b0, .inr (11, [.ref a8, .ref a17, .ref a26, .int 0, .ref a35, .int 0, .int (-1), .int (-1), .int 0, .ref a53, .int 0, .ref a61, .ref a69, .ref a77, .int 0, .ref a85, .null, .null, .int 0, .int 0, .int 0, .int 0])), (a8, .inl (eC E 0, 361, .inl (fun _ => 0))), (a17, .inl (eC E 0, 361, .inl (fun _ => 0))), (a26, .inl (eC E 0, 361, .inl (fun _ => 0))), (a35, .inl (eC E 0, 2888, .inl (fun _ => 0))), (a53, .inl (eC E 0, 60, .inl (fun _ => 0))), (a61, .inl (eC E 0, 24, .inl (fun _ => 0))), (a69, .inl (eC E 0, 24, .inl (fun _ => 0))), (a77, .inl (eC E 0, 40, .inl (fun _ => 0))), (a85, .inl (eC E 2, 78, .inl (letF 78))), (a555, .inl (eC E 0, 14, .inl (begF 13)))]) := by rw [← begF_s (i := 12) (c := 71) (by decide)]; exact hD
  refine lv_dup hx hb dX10_init_627 rfl ?_
  refine lv_bipush (v := 13) hx hb dX10_init_628 rfl ?_
  refine lv_bipush (v := 78) hx hb dX10_init_630 rfl ?_
  refine va_iast hx hb hK hP hD hS 10 0 rfl rfl (nI_in (c := 13) (N := 14) (by decide) (by decide)) dX10_init_632 (fun H locs hP hD hS => ?_)
  have hP : va_P (eD E) vwCl ([(b0, .inr (11, [.ref a8, .ref a17, .ref a26, .int 0, .ref a35, .int 0, .int (-1), .int (-1), .int 0, .ref a53, .int 0, .ref a61, .ref a69, .ref a77, .int 0, .ref a85, .null, .null, .int 0, .int 0, .int 0, .int 0])), (a8, .inl (eC E 0, 361, .inl (fun _ => 0))), (a17, .inl (eC E 0, 361, .inl (fun _ => 0))), (a26, .inl (eC E 0, 361, .inl (fun _ => 0))), (a35, .inl (eC E 0, 2888, .inl (fun _ => 0))), (a53, .inl (eC E 0, 60, .inl (fun _ => 0))), (a61, .inl (eC E 0, 24, .inl (fun _ => 0))), (a69, .inl (eC E 0, 24, .inl (fun _ => 0))), (a77, .inl (eC E 0, 40, .inl (fun _ => 0))), (a85, .inl (eC E 2, 78, .inl (letF 78))), (a555, .inl (eC E 0, 14, .inl (begF 14)))]) H := by rw [← begF_s (i := 13) (c := 78) (by decide)]; exact hP
  have hD : va_D (fre b0 s.heap.size) ([(b0, .inr (11, [.ref a8, .ref a17, .ref a26, .int 0, .ref a35, .int 0, .int (-1), .int (-1), .int 0, .ref a53, .int 0, .ref a61, .ref a69, .ref a77, .int 0, .ref a85, .null, .null, .int 0, .int 0, .int 0, .int 0])), (a8, .inl (eC E 0, 361, .inl (fun _ => 0))), (a17, .inl (eC E 0, 361, .inl (fun _ => 0))), (a26, .inl (eC E 0, 361, .inl (fun _ => 0))), (a35, .inl (eC E 0, 2888, .inl (fun _ => 0))), (a53, .inl (eC E 0, 60, .inl (fun _ => 0))), (a61, .inl (eC E 0, 24, .inl (fun _ => 0))), (a69, .inl (eC E 0, 24, .inl (fun _ => 0))), (a77, .inl (eC E 0, 40, .inl (fun _ => 0))), (a85, .inl (eC E 2, 78, .inl (letF 78))), (a555, .inl (eC E 0, 14, .inl (begF 14)))]) := by rw [← begF_s (i := 13) (c := 78) (by decide)]; exact hD
  refine va_putF hx hb hts in_X10 tyX10 tyX10_ok nmX10 hown hK hP hD hS 0 rfl rfl 16 (by decide) (hts _ tw_7_205) (fun _ h => h) rfl hC.2 rfl rfl rfl rfl (Nat.le_of_ble_eq_true rfl) dX10_init_633 (fun H locs hP hD hS => ?_)
  have hP : va_P (eD E) vwCl ([(b0, .inr (11, [.ref a8, .ref a17, .ref a26, .int 0, .ref a35, .int 0, .int (-1), .int (-1), .int 0, .ref a53, .int 0, .ref a61, .ref a69, .ref a77, .int 0, .ref a85, .ref a555, .null, .int 0, .int 0, .int 0, .int 0])), (a8, .inl (eC E 0, 361, .inl (fun _ => 0))), (a17, .inl (eC E 0, 361, .inl (fun _ => 0))), (a26, .inl (eC E 0, 361, .inl (fun _ => 0))), (a35, .inl (eC E 0, 2888, .inl (fun _ => 0))), (a53, .inl (eC E 0, 60, .inl (fun _ => 0))), (a61, .inl (eC E 0, 24, .inl (fun _ => 0))), (a69, .inl (eC E 0, 24, .inl (fun _ => 0))), (a77, .inl (eC E 0, 40, .inl (fun _ => 0))), (a85, .inl (eC E 2, 78, .inl (letF 78))), (a555, .inl (eC E 0, 14, .inl (begF 14)))]) H := hP
  have hD : va_D (fre b0 s.heap.size) ([(b0, .inr (11, [.ref a8, .ref a17, .ref a26, .int 0, .ref a35, .int 0, .int (-1), .int (-1), .int 0, .ref a53, .int 0, .ref a61, .ref a69, .ref a77, .int 0, .ref a85, .ref a555, .null, .int 0, .int 0, .int 0, .int 0])), (a8, .inl (eC E 0, 361, .inl (fun _ => 0))), (a17, .inl (eC E 0, 361, .inl (fun _ => 0))), (a26, .inl (eC E 0, 361, .inl (fun _ => 0))), (a35, .inl (eC E 0, 2888, .inl (fun _ => 0))), (a53, .inl (eC E 0, 60, .inl (fun _ => 0))), (a61, .inl (eC E 0, 24, .inl (fun _ => 0))), (a69, .inl (eC E 0, 24, .inl (fun _ => 0))), (a77, .inl (eC E 0, 40, .inl (fun _ => 0))), (a85, .inl (eC E 2, 78, .inl (letF 78))), (a555, .inl (eC E 0, 14, .inl (begF 14)))]) := hD
  refine lv_aload_n hx hb dX10_init_636 rfl (lv_at hl 0 rfl) ?_
  refine lv_sipush (v := 244) hx hb dX10_init_637 rfl ?_
  refine va_newa (atype := .int) (ty := .int) (a0 := (244, .inl (fun _ => 0))) (N' := 244) hx hb (hts _ tw_1_64) rfl hK hP hD hS hA (fun _ => rfl) (by decide) rfl (by decide) (Nat.le_of_ble_eq_true rfl) (Nat.le_of_ble_eq_true rfl) dX10_init_640 (fun a640 cA H hK2 hP hD hS => ?_)
  have hcA : cA = eC E 0 := by
    have h1 := (hK2.2 6 (cA, .int) rfl).2
    have h2 := (hK2.2 0 (eC E 0, .int) rfl).2
    exact Option.some.inj (h1.symm.trans h2)
  subst hcA
  have hP : va_P (eD E) vwCl ([(b0, .inr (11, [.ref a8, .ref a17, .ref a26, .int 0, .ref a35, .int 0, .int (-1), .int (-1), .int 0, .ref a53, .int 0, .ref a61, .ref a69, .ref a77, .int 0, .ref a85, .ref a555, .null, .int 0, .int 0, .int 0, .int 0])), (a8, .inl (eC E 0, 361, .inl (fun _ => 0))), (a17, .inl (eC E 0, 361, .inl (fun _ => 0))), (a26, .inl (eC E 0, 361, .inl (fun _ => 0))), (a35, .inl (eC E 0, 2888, .inl (fun _ => 0))), (a53, .inl (eC E 0, 60, .inl (fun _ => 0))), (a61, .inl (eC E 0, 24, .inl (fun _ => 0))), (a69, .inl (eC E 0, 24, .inl (fun _ => 0))), (a77, .inl (eC E 0, 40, .inl (fun _ => 0))), (a85, .inl (eC E 2, 78, .inl (letF 78))), (a555, .inl (eC E 0, 14, .inl (begF 14))), (a640, .inl (eC E 0, 244, .inl (fun _ => 0)))]) H := hP
  have hD : va_D (fre b0 s.heap.size) ([(b0, .inr (11, [.ref a8, .ref a17, .ref a26, .int 0, .ref a35, .int 0, .int (-1), .int (-1), .int 0, .ref a53, .int 0, .ref a61, .ref a69, .ref a77, .int 0, .ref a85, .ref a555, .null, .int 0, .int 0, .int 0, .int 0])), (a8, .inl (eC E 0, 361, .inl (fun _ => 0))), (a17, .inl (eC E 0, 361, .inl (fun _ => 0))), (a26, .inl (eC E 0, 361, .inl (fun _ => 0))), (a35, .inl (eC E 0, 2888, .inl (fun _ => 0))), (a53, .inl (eC E 0, 60, .inl (fun _ => 0))), (a61, .inl (eC E 0, 24, .inl (fun _ => 0))), (a69, .inl (eC E 0, 24, .inl (fun _ => 0))), (a77, .inl (eC E 0, 40, .inl (fun _ => 0))), (a85, .inl (eC E 2, 78, .inl (letF 78))), (a555, .inl (eC E 0, 14, .inl (begF 14))), (a640, .inl (eC E 0, 244, .inl (fun _ => 0)))]) := hD
  refine va_putF hx hb hts in_X10 tyX10 tyX10_ok nmX10 hown hK hP hD hS 0 rfl rfl 17 (by decide) (hts _ tw_7_206) (fun _ h => h) rfl hC.2 rfl rfl rfl rfl (Nat.le_of_ble_eq_true rfl) dX10_init_642 (fun H locs hP hD hS => ?_)
  have hP : va_P (eD E) vwCl ([(b0, .inr (11, [.ref a8, .ref a17, .ref a26, .int 0, .ref a35, .int 0, .int (-1), .int (-1), .int 0, .ref a53, .int 0, .ref a61, .ref a69, .ref a77, .int 0, .ref a85, .ref a555, .ref a640, .int 0, .int 0, .int 0, .int 0])), (a8, .inl (eC E 0, 361, .inl (fun _ => 0))), (a17, .inl (eC E 0, 361, .inl (fun _ => 0))), (a26, .inl (eC E 0, 361, .inl (fun _ => 0))), (a35, .inl (eC E 0, 2888, .inl (fun _ => 0))), (a53, .inl (eC E 0, 60, .inl (fun _ => 0))), (a61, .inl (eC E 0, 24, .inl (fun _ => 0))), (a69, .inl (eC E 0, 24, .inl (fun _ => 0))), (a77, .inl (eC E 0, 40, .inl (fun _ => 0))), (a85, .inl (eC E 2, 78, .inl (letF 78))), (a555, .inl (eC E 0, 14, .inl (begF 14))), (a640, .inl (eC E 0, 244, .inl (fun _ => 0)))]) H := hP
  have hD : va_D (fre b0 s.heap.size) ([(b0, .inr (11, [.ref a8, .ref a17, .ref a26, .int 0, .ref a35, .int 0, .int (-1), .int (-1), .int 0, .ref a53, .int 0, .ref a61, .ref a69, .ref a77, .int 0, .ref a85, .ref a555, .ref a640, .int 0, .int 0, .int 0, .int 0])), (a8, .inl (eC E 0, 361, .inl (fun _ => 0))), (a17, .inl (eC E 0, 361, .inl (fun _ => 0))), (a26, .inl (eC E 0, 361, .inl (fun _ => 0))), (a35, .inl (eC E 0, 2888, .inl (fun _ => 0))), (a53, .inl (eC E 0, 60, .inl (fun _ => 0))), (a61, .inl (eC E 0, 24, .inl (fun _ => 0))), (a69, .inl (eC E 0, 24, .inl (fun _ => 0))), (a77, .inl (eC E 0, 40, .inl (fun _ => 0))), (a85, .inl (eC E 2, 78, .inl (letF 78))), (a555, .inl (eC E 0, 14, .inl (begF 14))), (a640, .inl (eC E 0, 244, .inl (fun _ => 0)))]) := hD
  refine lv_aload_n hx hb dX10_init_645 rfl (lv_at hl 0 rfl) ?_
  refine va_get (T := TX10) hx hb hts in_X10 hown hK hP 0 rfl rfl 0 (by decide) (hts _ tw_7_189) (fun _ h => h) rfl dX10_init_646 ?_
  refine lv_iconst (v := 0) hx hb dX10_init_649 rfl ?_
  refine lv_iconst (v := 1) hx hb dX10_init_650 rfl ?_
  refine va_iast hx hb hK hP hD hS 1 0 rfl rfl (nI_in (c := 0) (N := 361) (by decide) (by decide)) dX10_init_651 (fun H locs hP hD hS => ?_)
  have hP : va_P (eD E) vwCl ([(b0, .inr (11, [.ref a8, .ref a17, .ref a26, .int 0, .ref a35, .int 0, .int (-1), .int (-1), .int 0, .ref a53, .int 0, .ref a61, .ref a69, .ref a77, .int 0, .ref a85, .ref a555, .ref a640, .int 0, .int 0, .int 0, .int 0])), (a8, .inl (eC E 0, 361, .inl (mA0 1))), (a17, .inl (eC E 0, 361, .inl (fun _ => 0))), (a26, .inl (eC E 0, 361, .inl (fun _ => 0))), (a35, .inl (eC E 0, 2888, .inl (fun _ => 0))), (a53, .inl (eC E 0, 60, .inl (fun _ => 0))), (a61, .inl (eC E 0, 24, .inl (fun _ => 0))), (a69, .inl (eC E 0, 24, .inl (fun _ => 0))), (a77, .inl (eC E 0, 40, .inl (fun _ => 0))), (a85, .inl (eC E 2, 78, .inl (letF 78))), (a555, .inl (eC E 0, 14, .inl (begF 14))), (a640, .inl (eC E 0, 244, .inl (fun _ => 0)))]) H := by rw [← mA0_s (i := 0) (c := 1) (by decide)]; exact hP
  have hD : va_D (fre b0 s.heap.size) ([(b0, .inr (11, [.ref a8, .ref a17, .ref a26, .int 0, .ref a35, .int 0, .int (-1), .int (-1), .int 0, .ref a53, .int 0, .ref a61, .ref a69, .ref a77, .int 0, .ref a85, .ref a555, .ref a640, .int 0, .int 0, .int 0, .int 0])), (a8, .inl (eC E 0, 361, .inl (mA0 1))), (a17, .inl (eC E 0, 361, .inl (fun _ => 0))), (a26, .inl (eC E 0, 361, .inl (fun _ => 0))), (a35, .inl (eC E 0, 2888, .inl (fun _ => 0))), (a53, .inl (eC E 0, 60, .inl (fun _ => 0))), (a61, .inl (eC E 0, 24, .inl (fun _ => 0))), (a69, .inl (eC E 0, 24, .inl (fun _ => 0))), (a77, .inl (eC E 0, 40, .inl (fun _ => 0))), (a85, .inl (eC E 2, 78, .inl (letF 78))), (a555, .inl (eC E 0, 14, .inl (begF 14))), (a640, .inl (eC E 0, 244, .inl (fun _ => 0)))]) := by rw [← mA0_s (i := 0) (c := 1) (by decide)]; exact hD
  refine lv_aload_n hx hb dX10_init_652 rfl (lv_at hl 0 rfl) ?_
  refine va_get (T := TX10) hx hb hts in_X10 hown hK hP 0 rfl rfl 0 (by decide) (hts _ tw_7_189) (fun _ h => h) rfl dX10_init_653 ?_
  refine lv_iconst (v := 1) hx hb dX10_init_656 rfl ?_
  refine lv_iconst (v := 1) hx hb dX10_init_657 rfl ?_
  refine va_iast hx hb hK hP hD hS 1 0 rfl rfl (nI_in (c := 1) (N := 361) (by decide) (by decide)) dX10_init_658 (fun H locs hP hD hS => ?_)
  have hP : va_P (eD E) vwCl ([(b0, .inr (11, [.ref a8, .ref a17, .ref a26, .int 0, .ref a35, .int 0, .int (-1), .int (-1), .int 0, .ref a53, .int 0, .ref a61, .ref a69, .ref a77, .int 0, .ref a85, .ref a555, .ref a640, .int 0, .int 0, .int 0, .int 0])), (a8, .inl (eC E 0, 361, .inl (mA0 2))), (a17, .inl (eC E 0, 361, .inl (fun _ => 0))), (a26, .inl (eC E 0, 361, .inl (fun _ => 0))), (a35, .inl (eC E 0, 2888, .inl (fun _ => 0))), (a53, .inl (eC E 0, 60, .inl (fun _ => 0))), (a61, .inl (eC E 0, 24, .inl (fun _ => 0))), (a69, .inl (eC E 0, 24, .inl (fun _ => 0))), (a77, .inl (eC E 0, 40, .inl (fun _ => 0))), (a85, .inl (eC E 2, 78, .inl (letF 78))), (a555, .inl (eC E 0, 14, .inl (begF 14))), (a640, .inl (eC E 0, 244, .inl (fun _ => 0)))]) H := by rw [← mA0_s (i := 1) (c := 1) (by decide)]; exact hP
  have hD : va_D (fre b0 s.heap.size) ([(b0, .inr (11, [.ref a8, .ref a17, .ref a26, .int 0, .ref a35, .int 0, .int (-1), .int (-1), .int 0, .ref a53, .int 0, .ref a61, .ref a69, .ref a77, .int 0, .ref a85, .ref a555, .ref a640, .int 0, .int 0, .int 0, .int 0])), (a8, .inl (eC E 0, 361, .inl (mA0 2))), (a17, .inl (eC E 0, 361, .inl (fun _ => 0))), (a26, .inl (eC E 0, 361, .inl (fun _ => 0))), (a35, .inl (eC E 0, 2888, .inl (fun _ => 0))), (a53, .inl (eC E 0, 60, .inl (fun _ => 0))), (a61, .inl (eC E 0, 24, .inl (fun _ => 0))), (a69, .inl (eC E 0, 24, .inl (fun _ => 0))), (a77, .inl (eC E 0, 40, .inl (fun _ => 0))), (a85, .inl (eC E 2, 78, .inl (letF 78))), (a555, .inl (eC E 0, 14, .inl (begF 14))), (a640, .inl (eC E 0, 244, .inl (fun _ => 0)))]) := by rw [← mA0_s (i := 1) (c := 1) (by decide)]; exact hD
  refine lv_aload_n hx hb dX10_init_659 rfl (lv_at hl 0 rfl) ?_
  refine va_get (T := TX10) hx hb hts in_X10 hown hK hP 0 rfl rfl 0 (by decide) (hts _ tw_7_189) (fun _ h => h) rfl dX10_init_660 ?_
  refine lv_iconst (v := 2) hx hb dX10_init_663 rfl ?_
  refine lv_iconst (v := (-1)) hx hb dX10_init_664 rfl ?_
  refine va_iast hx hb hK hP hD hS 1 0 rfl rfl (nI_in (c := 2) (N := 361) (by decide) (by decide)) dX10_init_665 (fun H locs hP hD hS => ?_)
  have hP : va_P (eD E) vwCl ([(b0, .inr (11, [.ref a8, .ref a17, .ref a26, .int 0, .ref a35, .int 0, .int (-1), .int (-1), .int 0, .ref a53, .int 0, .ref a61, .ref a69, .ref a77, .int 0, .ref a85, .ref a555, .ref a640, .int 0, .int 0, .int 0, .int 0])), (a8, .inl (eC E 0, 361, .inl (mA0 3))), (a17, .inl (eC E 0, 361, .inl (fun _ => 0))), (a26, .inl (eC E 0, 361, .inl (fun _ => 0))), (a35, .inl (eC E 0, 2888, .inl (fun _ => 0))), (a53, .inl (eC E 0, 60, .inl (fun _ => 0))), (a61, .inl (eC E 0, 24, .inl (fun _ => 0))), (a69, .inl (eC E 0, 24, .inl (fun _ => 0))), (a77, .inl (eC E 0, 40, .inl (fun _ => 0))), (a85, .inl (eC E 2, 78, .inl (letF 78))), (a555, .inl (eC E 0, 14, .inl (begF 14))), (a640, .inl (eC E 0, 244, .inl (fun _ => 0)))]) H := by rw [← mA0_s (i := 2) (c := (-1)) (by decide)]; exact hP
  have hD : va_D (fre b0 s.heap.size) ([(b0, .inr (11, [.ref a8, .ref a17, .ref a26, .int 0, .ref a35, .int 0, .int (-1), .int (-1), .int 0, .ref a53, .int 0, .ref a61, .ref a69, .ref a77, .int 0, .ref a85, .ref a555, .ref a640, .int 0, .int 0, .int 0, .int 0])), (a8, .inl (eC E 0, 361, .inl (mA0 3))), (a17, .inl (eC E 0, 361, .inl (fun _ => 0))), (a26, .inl (eC E 0, 361, .inl (fun _ => 0))), (a35, .inl (eC E 0, 2888, .inl (fun _ => 0))), (a53, .inl (eC E 0, 60, .inl (fun _ => 0))), (a61, .inl (eC E 0, 24, .inl (fun _ => 0))), (a69, .inl (eC E 0, 24, .inl (fun _ => 0))), (a77, .inl (eC E 0, 40, .inl (fun _ => 0))), (a85, .inl (eC E 2, 78, .inl (letF 78))), (a555, .inl (eC E 0, 14, .inl (begF 14))), (a640, .inl (eC E 0, 244, .inl (fun _ => 0)))]) := by rw [← mA0_s (i := 2) (c := (-1)) (by decide)]; exact hD
  refine lv_aload_n hx hb dX10_init_666 rfl (lv_at hl 0 rfl) ?_
  refine va_get (T := TX10) hx hb hts in_X10 hown hK hP 0 rfl rfl 0 (by decide) (hts _ tw_7_189) (fun _ h => h) rfl dX10_init_667 ?_
  refine lv_iconst (v := 3) hx hb dX10_init_670 rfl ?_
  refine lv_iconst (v := (-1)) hx hb dX10_init_671 rfl ?_
  refine va_iast hx hb hK hP hD hS 1 0 rfl rfl (nI_in (c := 3) (N := 361) (by decide) (by decide)) dX10_init_672 (fun H locs hP hD hS => ?_)
  have hP : va_P (eD E) vwCl ([(b0, .inr (11, [.ref a8, .ref a17, .ref a26, .int 0, .ref a35, .int 0, .int (-1), .int (-1), .int 0, .ref a53, .int 0, .ref a61, .ref a69, .ref a77, .int 0, .ref a85, .ref a555, .ref a640, .int 0, .int 0, .int 0, .int 0])), (a8, .inl (eC E 0, 361, .inl (mA0 4))), (a17, .inl (eC E 0, 361, .inl (fun _ => 0))), (a26, .inl (eC E 0, 361, .inl (fun _ => 0))), (a35, .inl (eC E 0, 2888, .inl (fun _ => 0))), (a53, .inl (eC E 0, 60, .inl (fun _ => 0))), (a61, .inl (eC E 0, 24, .inl (fun _ => 0))), (a69, .inl (eC E 0, 24, .inl (fun _ => 0))), (a77, .inl (eC E 0, 40, .inl (fun _ => 0))), (a85, .inl (eC E 2, 78, .inl (letF 78))), (a555, .inl (eC E 0, 14, .inl (begF 14))), (a640, .inl (eC E 0, 244, .inl (fun _ => 0)))]) H := by rw [← mA0_s (i := 3) (c := (-1)) (by decide)]; exact hP
  have hD : va_D (fre b0 s.heap.size) ([(b0, .inr (11, [.ref a8, .ref a17, .ref a26, .int 0, .ref a35, .int 0, .int (-1), .int (-1), .int 0, .ref a53, .int 0, .ref a61, .ref a69, .ref a77, .int 0, .ref a85, .ref a555, .ref a640, .int 0, .int 0, .int 0, .int 0])), (a8, .inl (eC E 0, 361, .inl (mA0 4))), (a17, .inl (eC E 0, 361, .inl (fun _ => 0))), (a26, .inl (eC E 0, 361, .inl (fun _ => 0))), (a35, .inl (eC E 0, 2888, .inl (fun _ => 0))), (a53, .inl (eC E 0, 60, .inl (fun _ => 0))), (a61, .inl (eC E 0, 24, .inl (fun _ => 0))), (a69, .inl (eC E 0, 24, .inl (fun _ => 0))), (a77, .inl (eC E 0, 40, .inl (fun _ => 0))), (a85, .inl (eC E 2, 78, .inl (letF 78))), (a555, .inl (eC E 0, 14, .inl (begF 14))), (a640, .inl (eC E 0, 244, .inl (fun _ => 0)))]) := by rw [← mA0_s (i := 3) (c := (-1)) (by decide)]; exact hD
  refine x_wid (c2 := 11) (s2 := 4455) (Nat.le_of_ble_eq_true rfl) (Nat.le_of_ble_eq_true rfl) ?_
  have L2 : ∀ (k i : Nat) (H : Heap) (locs : List Loc) (ls : Array Slot), i + k = 26 → va_P (eD E) vwCl ([(b0, .inr (11, [.ref a8, .ref a17, .ref a26, .int 0, .ref a35, .int 0, .int (-1), .int (-1), .int 0, .ref a53, .int 0, .ref a61, .ref a69, .ref a77, .int 0, .ref a85, .ref a555, .ref a640, .int 0, .int 0, .int 0, .int 0])), (a8, .inl (eC E 0, 361, .inl (mC i))), (a17, .inl (eC E 0, 361, .inl (fun _ => 0))), (a26, .inl (eC E 0, 361, .inl (fun _ => 0))), (a35, .inl (eC E 0, 2888, .inl (fun _ => 0))), (a53, .inl (eC E 0, 60, .inl (fun _ => 0))), (a61, .inl (eC E 0, 24, .inl (fun _ => 0))), (a69, .inl (eC E 0, 24, .inl (fun _ => 0))), (a77, .inl (eC E 0, 40, .inl (fun _ => 0))), (a85, .inl (eC E 2, 78, .inl (letF 78))), (a555, .inl (eC E 0, 14, .inl (begF 14))), (a640, .inl (eC E 0, 244, .inl (fun _ => 0)))]) H → va_D (fre b0 s.heap.size) ([(b0, .inr (11, [.ref a8, .ref a17, .ref a26, .int 0, .ref a35, .int 0, .int (-1), .int (-1), .int 0, .ref a53, .int 0, .ref a61, .ref a69, .ref a77, .int 0, .ref a85, .ref a555, .ref a640, .int 0, .int 0, .int 0, .int 0])), (a8, .inl (eC E 0, 361, .inl (mC i))), (a17, .inl (eC E 0, 361, .inl (fun _ => 0))), (a26, .inl (eC E 0, 361, .inl (fun _ => 0))), (a35, .inl (eC E 0, 2888, .inl (fun _ => 0))), (a53, .inl (eC E 0, 60, .inl (fun _ => 0))), (a61, .inl (eC E 0, 24, .inl (fun _ => 0))), (a69, .inl (eC E 0, 24, .inl (fun _ => 0))), (a77, .inl (eC E 0, 40, .inl (fun _ => 0))), (a85, .inl (eC E 2, 78, .inl (letF 78))), (a555, .inl (eC E 0, 14, .inl (begF 14))), (a640, .inl (eC E 0, 244, .inl (fun _ => 0)))]) → va_S (fre b0 s.heap.size) s.heap H locs → lv_has ls 2 [(1, .int (nI i)), (0, .ref b0)] → W p l e (rmx 1 11 4455) s m [.ref b0].toArray below meth c H locs 11 4455 (MQ below (QI E b0 12 (cfMo E)) [.ref b0].toArray s 11 4455 (fre b0 s.heap.size)) (F0 m 712 ls []) := by
    intro k
    induction k with
    | zero =>
      intro i H locs ls hi hP hD hS hl
      obtain rfl : i = 26 := by omega
      refine lv_iload_n hx hb dX10_init_712 rfl (lv_at hl 0 rfl) ?_
      refine lv_bipush (v := 26) hx hb dX10_init_713 rfl ?_
      refine lv_icmp_ge (tgt := 735) hx hb dX10_init_715 (by decide) (fun _ => ?_) (fun h => absurd (by decide) h)
      exact W.vret hx hb hC.1.2.2.2.2.2.2.2.2.2.1 (fun t ht _ => ⟨⟨rfl, fun i => ([b0, a8, a17, a26, a35, a53, a61, a69, a77, a85, a555, a640] : List Nat).getD i 0, rfl, by rw [ht]; exact hP, hD⟩, hS.F ht⟩) hS.2.2 dX10_init_735 hC.1.2.2.2.2.2.2.2.2.2.2.1
    | succ k ih =>
      intro i H locs ls hi hP hD hS hl
      refine lv_iload_n hx hb dX10_init_712 rfl (lv_at hl 0 rfl) ?_
      refine lv_bipush (v := nI 26) hx hb dX10_init_713 rfl ?_
      refine lv_icmp_ge (tgt := 735) hx hb dX10_init_715 (by decide) (fun h => absurd h (nI_ge (by omega) (by omega))) (fun _ => ?_)
      refine lv_aload_n hx hb dX10_init_718 rfl (lv_at hl 1 rfl) ?_
      refine va_get (T := TX10) hx hb hts in_X10 hown hK hP 0 rfl rfl 0 (by decide) (hts _ tw_7_189) (fun _ h => h) rfl dX10_init_719 ?_
      refine lv_sipush (v := nI 335) hx hb dX10_init_722 rfl ?_
      refine lv_iload_n hx hb dX10_init_725 rfl (lv_at hl 0 rfl) ?_
      refine lv_iadd hx hb dX10_init_726 ?_
      rw [nI_add]
      refine lv_iconst (v := (-1)) hx hb dX10_init_727 rfl ?_
      refine va_iast hx hb hK hP hD hS 1 0 rfl rfl (nI_in (by omega) (by omega)) dX10_init_728 (fun H locs hP hD hS => ?_)
      have e1 : upd (mC i) (nI (335 + i)).toNatClampNeg (-1) = mC (i + 1) := by
        rw [nI_clamp (by omega)]
        funext j
        simp only [upd, mC]
        by_cases h : j = 335 + i
        · simp [h]
        · simp only [if_neg h]
          by_cases h2 : 335 ≤ j ∧ j < 335 + i
          · rw [if_pos h2, if_pos (by omega)]
          · rw [if_neg h2, if_neg (by omega)]
      have hP : va_P (eD E) vwCl ([(b0, .inr (11, [.ref a8, .ref a17, .ref a26, .int 0, .ref a35, .int 0, .int (-1), .int (-1), .int 0, .ref a53, .int 0, .ref a61, .ref a69, .ref a77, .int 0, .ref a85, .ref a555, .ref a640, .int 0, .int 0, .int 0, .int 0])), (a8, .inl (eC E 0, 361, .inl (mC (i + 1)))), (a17, .inl (eC E 0, 361, .inl (fun _ => 0))), (a26, .inl (eC E 0, 361, .inl (fun _ => 0))), (a35, .inl (eC E 0, 2888, .inl (fun _ => 0))), (a53, .inl (eC E 0, 60, .inl (fun _ => 0))), (a61, .inl (eC E 0, 24, .inl (fun _ => 0))), (a69, .inl (eC E 0, 24, .inl (fun _ => 0))), (a77, .inl (eC E 0, 40, .inl (fun _ => 0))), (a85, .inl (eC E 2, 78, .inl (letF 78))), (a555, .inl (eC E 0, 14, .inl (begF 14))), (a640, .inl (eC E 0, 244, .inl (fun _ => 0)))]) H := by rw [← e1]; exact hP
      have hD : va_D (fre b0 s.heap.size) ([(b0, .inr (11, [.ref a8, .ref a17, .ref a26, .int 0, .ref a35, .int 0, .int (-1), .int (-1), .int 0, .ref a53, .int 0, .ref a61, .ref a69, .ref a77, .int 0, .ref a85, .ref a555, .ref a640, .int 0, .int 0, .int 0, .int 0])), (a8, .inl (eC E 0, 361, .inl (mC (i + 1)))), (a17, .inl (eC E 0, 361, .inl (fun _ => 0))), (a26, .inl (eC E 0, 361, .inl (fun _ => 0))), (a35, .inl (eC E 0, 2888, .inl (fun _ => 0))), (a53, .inl (eC E 0, 60, .inl (fun _ => 0))), (a61, .inl (eC E 0, 24, .inl (fun _ => 0))), (a69, .inl (eC E 0, 24, .inl (fun _ => 0))), (a77, .inl (eC E 0, 40, .inl (fun _ => 0))), (a85, .inl (eC E 2, 78, .inl (letF 78))), (a555, .inl (eC E 0, 14, .inl (begF 14))), (a640, .inl (eC E 0, 244, .inl (fun _ => 0)))]) := by rw [← e1]; exact hD
      refine lv_iinc (v := nI (i + 1)) (lv' := [(1, .int (nI (i + 1))), (0, .ref b0)]) hx hb dX10_init_729 hl (k := 0) rfl (nI_1 i) (Nat.lt_of_lt_of_eq (by decide) rfl) rfl (fun ls hl => ?_)
      refine lv_goto (tgt := 712) hx hb dX10_init_732 (by decide) ?_
      exact ih (i + 1) H locs ls (by omega) hP hD hS hl
  have L1 : ∀ (k i : Nat) (H : Heap) (locs : List Loc) (ls : Array Slot), i + k = 8 → va_P (eD E) vwCl ([(b0, .inr (11, [.ref a8, .ref a17, .ref a26, .int 0, .ref a35, .int 0, .int (-1), .int (-1), .int 0, .ref a53, .int 0, .ref a61, .ref a69, .ref a77, .int 0, .ref a85, .ref a555, .ref a640, .int 0, .int 0, .int 0, .int 0])), (a8, .inl (eC E 0, 361, .inl (mB i))), (a17, .inl (eC E 0, 361, .inl (fun _ => 0))), (a26, .inl (eC E 0, 361, .inl (fun _ => 0))), (a35, .inl (eC E 0, 2888, .inl (fun _ => 0))), (a53, .inl (eC E 0, 60, .inl (fun _ => 0))), (a61, .inl (eC E 0, 24, .inl (fun _ => 0))), (a69, .inl (eC E 0, 24, .inl (fun _ => 0))), (a77, .inl (eC E 0, 40, .inl (fun _ => 0))), (a85, .inl (eC E 2, 78, .inl (letF 78))), (a555, .inl (eC E 0, 14, .inl (begF 14))), (a640, .inl (eC E 0, 244, .inl (fun _ => 0)))]) H → va_D (fre b0 s.heap.size) ([(b0, .inr (11, [.ref a8, .ref a17, .ref a26, .int 0, .ref a35, .int 0, .int (-1), .int (-1), .int 0, .ref a53, .int 0, .ref a61, .ref a69, .ref a77, .int 0, .ref a85, .ref a555, .ref a640, .int 0, .int 0, .int 0, .int 0])), (a8, .inl (eC E 0, 361, .inl (mB i))), (a17, .inl (eC E 0, 361, .inl (fun _ => 0))), (a26, .inl (eC E 0, 361, .inl (fun _ => 0))), (a35, .inl (eC E 0, 2888, .inl (fun _ => 0))), (a53, .inl (eC E 0, 60, .inl (fun _ => 0))), (a61, .inl (eC E 0, 24, .inl (fun _ => 0))), (a69, .inl (eC E 0, 24, .inl (fun _ => 0))), (a77, .inl (eC E 0, 40, .inl (fun _ => 0))), (a85, .inl (eC E 2, 78, .inl (letF 78))), (a555, .inl (eC E 0, 14, .inl (begF 14))), (a640, .inl (eC E 0, 244, .inl (fun _ => 0)))]) → va_S (fre b0 s.heap.size) s.heap H locs → lv_has ls 2 [(1, .int (nI i)), (0, .ref b0)] → W p l e (rmx 1 11 4455) s m [.ref b0].toArray below meth c H locs 11 4455 (MQ below (QI E b0 12 (cfMo E)) [.ref b0].toArray s 11 4455 (fre b0 s.heap.size)) (F0 m 675 ls []) := by
    intro k
    induction k with
    | zero =>
      intro i H locs ls hi hP hD hS hl
      obtain rfl : i = 8 := by omega
      refine lv_iload_n hx hb dX10_init_675 rfl (lv_at hl 0 rfl) ?_
      refine lv_bipush (v := 8) hx hb dX10_init_676 rfl ?_
      refine lv_icmp_ge (tgt := 710) hx hb dX10_init_678 (by decide) (fun _ => ?_) (fun h => absurd (by decide) h)
      refine lv_iconst (v := nI 0) hx hb dX10_init_710 rfl ?_
      refine lv_istore_n (lv' := [(1, .int (nI 0)), (0, .ref b0)]) hx hb dX10_init_711 rfl hl (Nat.lt_of_lt_of_eq (by decide) rfl) rfl (fun ls hl => ?_)
      exact L2 26 0 H locs ls rfl (by rw [mC_0]; exact hP) (by rw [mC_0]; exact hD) hS hl
    | succ k ih =>
      intro i H locs ls hi hP hD hS hl
      refine lv_iload_n hx hb dX10_init_675 rfl (lv_at hl 0 rfl) ?_
      refine lv_bipush (v := nI 8) hx hb dX10_init_676 rfl ?_
      refine lv_icmp_ge (tgt := 710) hx hb dX10_init_678 (by decide) (fun h => absurd h (nI_ge (by omega) (by omega))) (fun _ => ?_)
      refine lv_aload_n hx hb dX10_init_681 rfl (lv_at hl 1 rfl) ?_
      refine va_get (T := TX10) hx hb hts in_X10 hown hK hP 0 rfl rfl 0 (by decide) (hts _ tw_7_189) (fun _ h => h) rfl dX10_init_682 ?_
      refine lv_bipush (v := nI 6) hx hb dX10_init_685 rfl ?_
      refine lv_iload_n hx hb dX10_init_687 rfl (lv_at hl 0 rfl) ?_
      refine lv_iadd hx hb dX10_init_688 ?_
      rw [nI_add]
      refine lv_bipush (v := 97) hx hb dX10_init_689 rfl ?_
      refine va_iast hx hb hK hP hD hS 1 0 rfl rfl (nI_in (by omega) (by omega)) dX10_init_691 (fun H locs hP hD hS => ?_)
      refine lv_aload_n hx hb dX10_init_692 rfl (lv_at hl 1 rfl) ?_
      refine va_get (T := TX10) hx hb hts in_X10 hown hK hP 0 rfl rfl 0 (by decide) (hts _ tw_7_189) (fun _ h => h) rfl dX10_init_693 ?_
      refine lv_sipush (v := nI 291) hx hb dX10_init_696 rfl ?_
      refine lv_iload_n hx hb dX10_init_699 rfl (lv_at hl 0 rfl) ?_
      refine lv_iadd hx hb dX10_init_700 ?_
      rw [nI_add]
      refine lv_bipush (v := 97) hx hb dX10_init_701 rfl ?_
      refine va_iast hx hb hK hP hD hS 1 0 rfl rfl (nI_in (by omega) (by omega)) dX10_init_703 (fun H locs hP hD hS => ?_)
      have e1 : upd (upd (mB i) (nI (6 + i)).toNatClampNeg 97) (nI (291 + i)).toNatClampNeg 97 = mB (i + 1) := by
        rw [nI_clamp (by omega), nI_clamp (by omega)]
        funext j
        simp only [upd, mB]
        by_cases h : j = 291 + i
        · simp [h]
        · simp only [if_neg h]
          by_cases h1 : j = 6 + i
          · simp [h1]
          · simp only [if_neg h1]
            by_cases h2 : 6 ≤ j ∧ j < 6 + i ∨ 291 ≤ j ∧ j < 291 + i
            · rw [if_pos h2, if_pos (by omega)]
            · rw [if_neg h2, if_neg (by omega)]
      have hP : va_P (eD E) vwCl ([(b0, .inr (11, [.ref a8, .ref a17, .ref a26, .int 0, .ref a35, .int 0, .int (-1), .int (-1), .int 0, .ref a53, .int 0, .ref a61, .ref a69, .ref a77, .int 0, .ref a85, .ref a555, .ref a640, .int 0, .int 0, .int 0, .int 0])), (a8, .inl (eC E 0, 361, .inl (mB (i + 1)))), (a17, .inl (eC E 0, 361, .inl (fun _ => 0))), (a26, .inl (eC E 0, 361, .inl (fun _ => 0))), (a35, .inl (eC E 0, 2888, .inl (fun _ => 0))), (a53, .inl (eC E 0, 60, .inl (fun _ => 0))), (a61, .inl (eC E 0, 24, .inl (fun _ => 0))), (a69, .inl (eC E 0, 24, .inl (fun _ => 0))), (a77, .inl (eC E 0, 40, .inl (fun _ => 0))), (a85, .inl (eC E 2, 78, .inl (letF 78))), (a555, .inl (eC E 0, 14, .inl (begF 14))), (a640, .inl (eC E 0, 244, .inl (fun _ => 0)))]) H := by rw [← e1]; exact hP
      have hD : va_D (fre b0 s.heap.size) ([(b0, .inr (11, [.ref a8, .ref a17, .ref a26, .int 0, .ref a35, .int 0, .int (-1), .int (-1), .int 0, .ref a53, .int 0, .ref a61, .ref a69, .ref a77, .int 0, .ref a85, .ref a555, .ref a640, .int 0, .int 0, .int 0, .int 0])), (a8, .inl (eC E 0, 361, .inl (mB (i + 1)))), (a17, .inl (eC E 0, 361, .inl (fun _ => 0))), (a26, .inl (eC E 0, 361, .inl (fun _ => 0))), (a35, .inl (eC E 0, 2888, .inl (fun _ => 0))), (a53, .inl (eC E 0, 60, .inl (fun _ => 0))), (a61, .inl (eC E 0, 24, .inl (fun _ => 0))), (a69, .inl (eC E 0, 24, .inl (fun _ => 0))), (a77, .inl (eC E 0, 40, .inl (fun _ => 0))), (a85, .inl (eC E 2, 78, .inl (letF 78))), (a555, .inl (eC E 0, 14, .inl (begF 14))), (a640, .inl (eC E 0, 244, .inl (fun _ => 0)))]) := by rw [← e1]; exact hD
      refine lv_iinc (v := nI (i + 1)) (lv' := [(1, .int (nI (i + 1))), (0, .ref b0)]) hx hb dX10_init_704 hl (k := 0) rfl (nI_1 i) (Nat.lt_of_lt_of_eq (by decide) rfl) rfl (fun ls hl => ?_)
      refine lv_goto (tgt := 675) hx hb dX10_init_707 (by decide) ?_
      exact ih (i + 1) H locs ls (by omega) hP hD hS hl
  refine lv_iconst (v := nI 0) hx hb dX10_init_673 rfl ?_
  refine lv_istore_n (lv' := [(1, .int (nI 0)), (0, .ref b0)]) hx hb dX10_init_674 rfl hl (Nat.lt_of_lt_of_eq (by decide) rfl) rfl (fun ls hl => ?_)
  exact L1 8 0 H locs ls rfl (by rw [mB_0]; exact hP) (by rw [mB_0]; exact hD) hS hl
end R099
